section
-- ===== PART A: goes FIRST, ahead of the names: the tables' words, and 'selects' of the private methods out of them =====
/-- a private method of a class that the tables say can be made, by its rows of tables_1 -/
def lw_okq (q : MethodName × Nat) : Prop := (q.1.cls ≠ "java/lang/invoke/MethodHandle" ∧ q.1.cls ≠ "java/lang/invoke/VarHandle") ∧ Cond.instantiable q.1.cls q.2 ∈ tables_1 ∧ Cond.privateMethod q.1 ∈ tables_1 ∧ Cond.instanceMethod q.1 ∈ tables_1
theorem lw_p0 : lw_okq (⟨"CommaOrphans", "houseChanged", "()V"⟩, 10) := ⟨⟨by decide +kernel, by decide +kernel⟩, List.mem_of_getElem? (i := 22) (by decide +kernel), List.mem_of_getElem? (i := 444) (by decide +kernel), List.mem_of_getElem? (i := 445) (by decide +kernel)⟩
theorem lw_p1 : lw_okq (⟨"CommaOrphans", "forgetThoughts", "()V"⟩, 10) := ⟨⟨by decide +kernel, by decide +kernel⟩, List.mem_of_getElem? (i := 22) (by decide +kernel), List.mem_of_getElem? (i := 448) (by decide +kernel), List.mem_of_getElem? (i := 449) (by decide +kernel)⟩
theorem lw_p2 : lw_okq (⟨"CommaOrphans", "addBytes", "(I)V"⟩, 10) := ⟨⟨by decide +kernel, by decide +kernel⟩, List.mem_of_getElem? (i := 22) (by decide +kernel), List.mem_of_getElem? (i := 480) (by decide +kernel), List.mem_of_getElem? (i := 481) (by decide +kernel)⟩
theorem lw_p3 : lw_okq (⟨"CommaOrphans$LawReader", "split", "()V"⟩, 8) := ⟨⟨by decide +kernel, by decide +kernel⟩, List.mem_of_getElem? (i := 205) (by decide +kernel), List.mem_of_getElem? (i := 504) (by decide +kernel), List.mem_of_getElem? (i := 505) (by decide +kernel)⟩
theorem lw_p4 : lw_okq (⟨"CommaOrphans$LawReader", "endOfToken", "(I)I"⟩, 8) := ⟨⟨by decide +kernel, by decide +kernel⟩, List.mem_of_getElem? (i := 205) (by decide +kernel), List.mem_of_getElem? (i := 515) (by decide +kernel), List.mem_of_getElem? (i := 516) (by decide +kernel)⟩
theorem lw_p5 : lw_okq (⟨"CommaOrphans$LawReader", "kindOf", "(II)I"⟩, 8) := ⟨⟨by decide +kernel, by decide +kernel⟩, List.mem_of_getElem? (i := 205) (by decide +kernel), List.mem_of_getElem? (i := 528) (by decide +kernel), List.mem_of_getElem? (i := 529) (by decide +kernel)⟩
theorem lw_p6 : lw_okq (⟨"CommaOrphans$LawReader", "kindOfWord", "(II)I"⟩, 8) := ⟨⟨by decide +kernel, by decide +kernel⟩, List.mem_of_getElem? (i := 205) (by decide +kernel), List.mem_of_getElem? (i := 532) (by decide +kernel), List.mem_of_getElem? (i := 533) (by decide +kernel)⟩
theorem lw_p7 : lw_okq (⟨"CommaOrphans$LawReader", "isKeyword", "(III)Z"⟩, 8) := ⟨⟨by decide +kernel, by decide +kernel⟩, List.mem_of_getElem? (i := 205) (by decide +kernel), List.mem_of_getElem? (i := 547) (by decide +kernel), List.mem_of_getElem? (i := 548) (by decide +kernel)⟩
theorem lw_p8 : lw_okq (⟨"CommaOrphans$LawReader", "readLine", "()Z"⟩, 8) := ⟨⟨by decide +kernel, by decide +kernel⟩, List.mem_of_getElem? (i := 205) (by decide +kernel), List.mem_of_getElem? (i := 647) (by decide +kernel), List.mem_of_getElem? (i := 648) (by decide +kernel)⟩
theorem lw_p9 : lw_okq (⟨"CommaOrphans$LawReader", "fail", "(I)Z"⟩, 8) := ⟨⟨by decide +kernel, by decide +kernel⟩, List.mem_of_getElem? (i := 205) (by decide +kernel), List.mem_of_getElem? (i := 651) (by decide +kernel), List.mem_of_getElem? (i := 652) (by decide +kernel)⟩
theorem lw_p10 : lw_okq (⟨"CommaOrphans$LawReader", "step", "()V"⟩, 8) := ⟨⟨by decide +kernel, by decide +kernel⟩, List.mem_of_getElem? (i := 205) (by decide +kernel), List.mem_of_getElem? (i := 655) (by decide +kernel), List.mem_of_getElem? (i := 656) (by decide +kernel)⟩
theorem lw_p11 : lw_okq (⟨"CommaOrphans$LawReader", "readSum", "()Z"⟩, 8) := ⟨⟨by decide +kernel, by decide +kernel⟩, List.mem_of_getElem? (i := 205) (by decide +kernel), List.mem_of_getElem? (i := 659) (by decide +kernel), List.mem_of_getElem? (i := 660) (by decide +kernel)⟩
theorem lw_p12 : lw_okq (⟨"CommaOrphans$LawReader", "readUnit", "()Z"⟩, 8) := ⟨⟨by decide +kernel, by decide +kernel⟩, List.mem_of_getElem? (i := 205) (by decide +kernel), List.mem_of_getElem? (i := 663) (by decide +kernel), List.mem_of_getElem? (i := 664) (by decide +kernel)⟩
theorem lw_p13 : lw_okq (⟨"CommaOrphans$LawReader", "readDivisor", "()Z"⟩, 8) := ⟨⟨by decide +kernel, by decide +kernel⟩, List.mem_of_getElem? (i := 205) (by decide +kernel), List.mem_of_getElem? (i := 671) (by decide +kernel), List.mem_of_getElem? (i := 672) (by decide +kernel)⟩
theorem lw_p14 : lw_okq (⟨"CommaOrphans$LawReader", "readChoice", "(I)Z"⟩, 8) := ⟨⟨by decide +kernel, by decide +kernel⟩, List.mem_of_getElem? (i := 205) (by decide +kernel), List.mem_of_getElem? (i := 679) (by decide +kernel), List.mem_of_getElem? (i := 680) (by decide +kernel)⟩
theorem lw_p15 : lw_okq (⟨"CommaOrphans$LawReader", "readClaim", "(I)Z"⟩, 8) := ⟨⟨by decide +kernel, by decide +kernel⟩, List.mem_of_getElem? (i := 205) (by decide +kernel), List.mem_of_getElem? (i := 683) (by decide +kernel), List.mem_of_getElem? (i := 684) (by decide +kernel)⟩
def lw_privs_1 : List (MethodName × Nat) := [(⟨"CommaOrphans", "houseChanged", "()V"⟩, 10), (⟨"CommaOrphans", "forgetThoughts", "()V"⟩, 10), (⟨"CommaOrphans", "addBytes", "(I)V"⟩, 10), (⟨"CommaOrphans$LawReader", "split", "()V"⟩, 8), (⟨"CommaOrphans$LawReader", "endOfToken", "(I)I"⟩, 8), (⟨"CommaOrphans$LawReader", "kindOf", "(II)I"⟩, 8), (⟨"CommaOrphans$LawReader", "kindOfWord", "(II)I"⟩, 8), (⟨"CommaOrphans$LawReader", "isKeyword", "(III)Z"⟩, 8), (⟨"CommaOrphans$LawReader", "readLine", "()Z"⟩, 8), (⟨"CommaOrphans$LawReader", "fail", "(I)Z"⟩, 8), (⟨"CommaOrphans$LawReader", "step", "()V"⟩, 8), (⟨"CommaOrphans$LawReader", "readSum", "()Z"⟩, 8), (⟨"CommaOrphans$LawReader", "readUnit", "()Z"⟩, 8), (⟨"CommaOrphans$LawReader", "readDivisor", "()Z"⟩, 8), (⟨"CommaOrphans$LawReader", "readChoice", "(I)Z"⟩, 8), (⟨"CommaOrphans$LawReader", "readClaim", "(I)Z"⟩, 8)]
theorem lw_r1 : ∀ q ∈ lw_privs_1, lw_okq q := List.forall_mem_cons.mpr ⟨lw_p0, List.forall_mem_cons.mpr ⟨lw_p1, List.forall_mem_cons.mpr ⟨lw_p2, List.forall_mem_cons.mpr ⟨lw_p3, List.forall_mem_cons.mpr ⟨lw_p4, List.forall_mem_cons.mpr ⟨lw_p5, List.forall_mem_cons.mpr ⟨lw_p6, List.forall_mem_cons.mpr ⟨lw_p7, List.forall_mem_cons.mpr ⟨lw_p8, List.forall_mem_cons.mpr ⟨lw_p9, List.forall_mem_cons.mpr ⟨lw_p10, List.forall_mem_cons.mpr ⟨lw_p11, List.forall_mem_cons.mpr ⟨lw_p12, List.forall_mem_cons.mpr ⟨lw_p13, List.forall_mem_cons.mpr ⟨lw_p14, List.forall_mem_cons.mpr ⟨lw_p15, fun _ h => absurd h List.not_mem_nil⟩⟩⟩⟩⟩⟩⟩⟩⟩⟩⟩⟩⟩⟩⟩⟩
theorem lw_p16 : lw_okq (⟨"CommaOrphans$LawReader", "readOpening", "(I)Z"⟩, 8) := ⟨⟨by decide +kernel, by decide +kernel⟩, List.mem_of_getElem? (i := 205) (by decide +kernel), List.mem_of_getElem? (i := 687) (by decide +kernel), List.mem_of_getElem? (i := 688) (by decide +kernel)⟩
theorem lw_p17 : lw_okq (⟨"CommaOrphans", "lawChanged", "()V"⟩, 10) := ⟨⟨by decide +kernel, by decide +kernel⟩, List.mem_of_getElem? (i := 22) (by decide +kernel), List.mem_of_getElem? (i := 702) (by decide +kernel), List.mem_of_getElem? (i := 703) (by decide +kernel)⟩
theorem lw_p18 : lw_okq (⟨"CommaOrphans", "wrongPlaceOfPage", "()I"⟩, 10) := ⟨⟨by decide +kernel, by decide +kernel⟩, List.mem_of_getElem? (i := 22) (by decide +kernel), List.mem_of_getElem? (i := 719) (by decide +kernel), List.mem_of_getElem? (i := 720) (by decide +kernel)⟩
theorem lw_p19 : lw_okq (⟨"CommaOrphans$Shelf", "dropOldest", "()V"⟩, 6) := ⟨⟨by decide +kernel, by decide +kernel⟩, List.mem_of_getElem? (i := 241) (by decide +kernel), List.mem_of_getElem? (i := 750) (by decide +kernel), List.mem_of_getElem? (i := 751) (by decide +kernel)⟩
theorem lw_p20 : lw_okq (⟨"CommaOrphans$Press", "misprinted", "(II)I"⟩, 8) := ⟨⟨by decide +kernel, by decide +kernel⟩, List.mem_of_getElem? (i := 267) (by decide +kernel), List.mem_of_getElem? (i := 788) (by decide +kernel), List.mem_of_getElem? (i := 789) (by decide +kernel)⟩
theorem lw_p21 : lw_okq (⟨"CommaOrphans$Press", "payInstead", "(III)I"⟩, 8) := ⟨⟨by decide +kernel, by decide +kernel⟩, List.mem_of_getElem? (i := 267) (by decide +kernel), List.mem_of_getElem? (i := 802) (by decide +kernel), List.mem_of_getElem? (i := 803) (by decide +kernel)⟩
theorem lw_p22 : lw_okq (⟨"CommaOrphans$Press", "gatherFacts", "(LCommaOrphans$Row;II)V"⟩, 8) := ⟨⟨by decide +kernel, by decide +kernel⟩, List.mem_of_getElem? (i := 267) (by decide +kernel), List.mem_of_getElem? (i := 810) (by decide +kernel), List.mem_of_getElem? (i := 811) (by decide +kernel)⟩
theorem lw_p23 : lw_okq (⟨"CommaOrphans$Law", "run", "(II[I[I)I"⟩, 6) := ⟨⟨by decide +kernel, by decide +kernel⟩, List.mem_of_getElem? (i := 78) (by decide +kernel), List.mem_of_getElem? (i := 828) (by decide +kernel), List.mem_of_getElem? (i := 829) (by decide +kernel)⟩
theorem lw_p24 : lw_okq (⟨"CommaOrphans$Press", "keyOfFacts", "()J"⟩, 8) := ⟨⟨by decide +kernel, by decide +kernel⟩, List.mem_of_getElem? (i := 267) (by decide +kernel), List.mem_of_getElem? (i := 834) (by decide +kernel), List.mem_of_getElem? (i := 835) (by decide +kernel)⟩
theorem lw_p25 : lw_okq (⟨"CommaOrphans$Remedy", "weighNeeds", "()V"⟩, 12) := ⟨⟨by decide +kernel, by decide +kernel⟩, List.mem_of_getElem? (i := 304) (by decide +kernel), List.mem_of_getElem? (i := 912) (by decide +kernel), List.mem_of_getElem? (i := 913) (by decide +kernel)⟩
theorem lw_p26 : lw_okq (⟨"CommaOrphans$Law", "mostOfSum", "(II[I[I)I"⟩, 6) := ⟨⟨by decide +kernel, by decide +kernel⟩, List.mem_of_getElem? (i := 78) (by decide +kernel), List.mem_of_getElem? (i := 924) (by decide +kernel), List.mem_of_getElem? (i := 925) (by decide +kernel)⟩
theorem lw_p27 : lw_okq (⟨"CommaOrphans$Remedy", "listChoices", "()V"⟩, 12) := ⟨⟨by decide +kernel, by decide +kernel⟩, List.mem_of_getElem? (i := 304) (by decide +kernel), List.mem_of_getElem? (i := 934) (by decide +kernel), List.mem_of_getElem? (i := 935) (by decide +kernel)⟩
theorem lw_p28 : lw_okq (⟨"CommaOrphans$Remedy", "feedsAll", "()Z"⟩, 12) := ⟨⟨by decide +kernel, by decide +kernel⟩, List.mem_of_getElem? (i := 304) (by decide +kernel), List.mem_of_getElem? (i := 942) (by decide +kernel), List.mem_of_getElem? (i := 943) (by decide +kernel)⟩
theorem lw_p29 : lw_okq (⟨"CommaOrphans$Remedy", "setsOne", "(I)Z"⟩, 12) := ⟨⟨by decide +kernel, by decide +kernel⟩, List.mem_of_getElem? (i := 304) (by decide +kernel), List.mem_of_getElem? (i := 952) (by decide +kernel), List.mem_of_getElem? (i := 953) (by decide +kernel)⟩
theorem lw_p30 : lw_okq (⟨"CommaOrphans$Remedy", "countLacking", "()I"⟩, 12) := ⟨⟨by decide +kernel, by decide +kernel⟩, List.mem_of_getElem? (i := 304) (by decide +kernel), List.mem_of_getElem? (i := 957) (by decide +kernel), List.mem_of_getElem? (i := 958) (by decide +kernel)⟩
theorem lw_p31 : lw_okq (⟨"CommaOrphans$Remedy", "choicesAt", "(I)I"⟩, 12) := ⟨⟨by decide +kernel, by decide +kernel⟩, List.mem_of_getElem? (i := 304) (by decide +kernel), List.mem_of_getElem? (i := 962) (by decide +kernel), List.mem_of_getElem? (i := 963) (by decide +kernel)⟩
def lw_privs_2 : List (MethodName × Nat) := [(⟨"CommaOrphans$LawReader", "readOpening", "(I)Z"⟩, 8), (⟨"CommaOrphans", "lawChanged", "()V"⟩, 10), (⟨"CommaOrphans", "wrongPlaceOfPage", "()I"⟩, 10), (⟨"CommaOrphans$Shelf", "dropOldest", "()V"⟩, 6), (⟨"CommaOrphans$Press", "misprinted", "(II)I"⟩, 8), (⟨"CommaOrphans$Press", "payInstead", "(III)I"⟩, 8), (⟨"CommaOrphans$Press", "gatherFacts", "(LCommaOrphans$Row;II)V"⟩, 8), (⟨"CommaOrphans$Law", "run", "(II[I[I)I"⟩, 6), (⟨"CommaOrphans$Press", "keyOfFacts", "()J"⟩, 8), (⟨"CommaOrphans$Remedy", "weighNeeds", "()V"⟩, 12), (⟨"CommaOrphans$Law", "mostOfSum", "(II[I[I)I"⟩, 6), (⟨"CommaOrphans$Remedy", "listChoices", "()V"⟩, 12), (⟨"CommaOrphans$Remedy", "feedsAll", "()Z"⟩, 12), (⟨"CommaOrphans$Remedy", "setsOne", "(I)Z"⟩, 12), (⟨"CommaOrphans$Remedy", "countLacking", "()I"⟩, 12), (⟨"CommaOrphans$Remedy", "choicesAt", "(I)I"⟩, 12)]
theorem lw_r2 : ∀ q ∈ lw_privs_2, lw_okq q := List.forall_mem_cons.mpr ⟨lw_p16, List.forall_mem_cons.mpr ⟨lw_p17, List.forall_mem_cons.mpr ⟨lw_p18, List.forall_mem_cons.mpr ⟨lw_p19, List.forall_mem_cons.mpr ⟨lw_p20, List.forall_mem_cons.mpr ⟨lw_p21, List.forall_mem_cons.mpr ⟨lw_p22, List.forall_mem_cons.mpr ⟨lw_p23, List.forall_mem_cons.mpr ⟨lw_p24, List.forall_mem_cons.mpr ⟨lw_p25, List.forall_mem_cons.mpr ⟨lw_p26, List.forall_mem_cons.mpr ⟨lw_p27, List.forall_mem_cons.mpr ⟨lw_p28, List.forall_mem_cons.mpr ⟨lw_p29, List.forall_mem_cons.mpr ⟨lw_p30, List.forall_mem_cons.mpr ⟨lw_p31, fun _ h => absurd h List.not_mem_nil⟩⟩⟩⟩⟩⟩⟩⟩⟩⟩⟩⟩⟩⟩⟩⟩
theorem lw_p32 : lw_okq (⟨"CommaOrphans$Remedy", "isLacked", "(I)Z"⟩, 12) := ⟨⟨by decide +kernel, by decide +kernel⟩, List.mem_of_getElem? (i := 304) (by decide +kernel), List.mem_of_getElem? (i := 966) (by decide +kernel), List.mem_of_getElem? (i := 967) (by decide +kernel)⟩
theorem lw_p33 : lw_okq (⟨"CommaOrphans$Remedy", "tell", "(III)V"⟩, 12) := ⟨⟨by decide +kernel, by decide +kernel⟩, List.mem_of_getElem? (i := 304) (by decide +kernel), List.mem_of_getElem? (i := 970) (by decide +kernel), List.mem_of_getElem? (i := 971) (by decide +kernel)⟩
theorem lw_p34 : lw_okq (⟨"CommaOrphans$Basket", "lay", "(II)I"⟩, 5) := ⟨⟨by decide +kernel, by decide +kernel⟩, List.mem_of_getElem? (i := 351) (by decide +kernel), List.mem_of_getElem? (i := 984) (by decide +kernel), List.mem_of_getElem? (i := 985) (by decide +kernel)⟩
theorem lw_p35 : lw_okq (⟨"CommaOrphans$Basket", "weigh", "(IIII)V"⟩, 5) := ⟨⟨by decide +kernel, by decide +kernel⟩, List.mem_of_getElem? (i := 351) (by decide +kernel), List.mem_of_getElem? (i := 998) (by decide +kernel), List.mem_of_getElem? (i := 999) (by decide +kernel)⟩
theorem lw_p36 : lw_okq (⟨"CommaOrphans$Barter", "isGain", "(II)Z"⟩, 5) := ⟨⟨by decide +kernel, by decide +kernel⟩, List.mem_of_getElem? (i := 377) (by decide +kernel), List.mem_of_getElem? (i := 1042) (by decide +kernel), List.mem_of_getElem? (i := 1043) (by decide +kernel)⟩
theorem lw_p37 : lw_okq (⟨"CommaOrphans$Barter", "give", "(IIII)V"⟩, 5) := ⟨⟨by decide +kernel, by decide +kernel⟩, List.mem_of_getElem? (i := 377) (by decide +kernel), List.mem_of_getElem? (i := 1047) (by decide +kernel), List.mem_of_getElem? (i := 1048) (by decide +kernel)⟩
theorem lw_p38 : lw_okq (⟨"CommaOrphans$Barter", "count", "(II)V"⟩, 5) := ⟨⟨by decide +kernel, by decide +kernel⟩, List.mem_of_getElem? (i := 377) (by decide +kernel), List.mem_of_getElem? (i := 1056) (by decide +kernel), List.mem_of_getElem? (i := 1057) (by decide +kernel)⟩
theorem lw_p39 : lw_okq (⟨"CommaOrphansModel", "isIn", "(III)Z"⟩, 53) := ⟨⟨by decide +kernel, by decide +kernel⟩, List.mem_of_getElem? (i := 1096) (by decide +kernel), List.mem_of_getElem? (i := 1275) (by decide +kernel), List.mem_of_getElem? (i := 1276) (by decide +kernel)⟩
theorem lw_p40 : lw_okq (⟨"CommaOrphansModel", "isOneOf", "(I)Z"⟩, 53) := ⟨⟨by decide +kernel, by decide +kernel⟩, List.mem_of_getElem? (i := 1096) (by decide +kernel), List.mem_of_getElem? (i := 1283) (by decide +kernel), List.mem_of_getElem? (i := 1284) (by decide +kernel)⟩
theorem lw_p41 : lw_okq (⟨"CommaOrphansModel", "isApprentice", "(I)Z"⟩, 53) := ⟨⟨by decide +kernel, by decide +kernel⟩, List.mem_of_getElem? (i := 1096) (by decide +kernel), List.mem_of_getElem? (i := 1287) (by decide +kernel), List.mem_of_getElem? (i := 1288) (by decide +kernel)⟩
theorem lw_p42 : lw_okq (⟨"CommaOrphansModel", "canSet", "(III)Z"⟩, 53) := ⟨⟨by decide +kernel, by decide +kernel⟩, List.mem_of_getElem? (i := 1096) (by decide +kernel), List.mem_of_getElem? (i := 1295) (by decide +kernel), List.mem_of_getElem? (i := 1296) (by decide +kernel)⟩
theorem lw_p43 : lw_okq (⟨"CommaOrphansModel", "signOf", "(I)I"⟩, 53) := ⟨⟨by decide +kernel, by decide +kernel⟩, List.mem_of_getElem? (i := 1096) (by decide +kernel), List.mem_of_getElem? (i := 1303) (by decide +kernel), List.mem_of_getElem? (i := 1304) (by decide +kernel)⟩
theorem lw_p44 : lw_okq (⟨"CommaOrphansModel", "types", "(I)V"⟩, 53) := ⟨⟨by decide +kernel, by decide +kernel⟩, List.mem_of_getElem? (i := 1096) (by decide +kernel), List.mem_of_getElem? (i := 1319) (by decide +kernel), List.mem_of_getElem? (i := 1320) (by decide +kernel)⟩
theorem lw_p45 : lw_okq (⟨"CommaOrphansModel", "reads", "()V"⟩, 53) := ⟨⟨by decide +kernel, by decide +kernel⟩, List.mem_of_getElem? (i := 1096) (by decide +kernel), List.mem_of_getElem? (i := 1331) (by decide +kernel), List.mem_of_getElem? (i := 1332) (by decide +kernel)⟩
theorem lw_p46 : lw_okq (⟨"CommaOrphansModel", "raw", "(I)I"⟩, 53) := ⟨⟨by decide +kernel, by decide +kernel⟩, List.mem_of_getElem? (i := 1096) (by decide +kernel), List.mem_of_getElem? (i := 1335) (by decide +kernel), List.mem_of_getElem? (i := 1336) (by decide +kernel)⟩
theorem lw_p47 : lw_okq (⟨"CommaOrphansModel", "isLetter", "(I)Z"⟩, 53) := ⟨⟨by decide +kernel, by decide +kernel⟩, List.mem_of_getElem? (i := 1096) (by decide +kernel), List.mem_of_getElem? (i := 1339) (by decide +kernel), List.mem_of_getElem? (i := 1340) (by decide +kernel)⟩
def lw_privs_3 : List (MethodName × Nat) := [(⟨"CommaOrphans$Remedy", "isLacked", "(I)Z"⟩, 12), (⟨"CommaOrphans$Remedy", "tell", "(III)V"⟩, 12), (⟨"CommaOrphans$Basket", "lay", "(II)I"⟩, 5), (⟨"CommaOrphans$Basket", "weigh", "(IIII)V"⟩, 5), (⟨"CommaOrphans$Barter", "isGain", "(II)Z"⟩, 5), (⟨"CommaOrphans$Barter", "give", "(IIII)V"⟩, 5), (⟨"CommaOrphans$Barter", "count", "(II)V"⟩, 5), (⟨"CommaOrphansModel", "isIn", "(III)Z"⟩, 53), (⟨"CommaOrphansModel", "isOneOf", "(I)Z"⟩, 53), (⟨"CommaOrphansModel", "isApprentice", "(I)Z"⟩, 53), (⟨"CommaOrphansModel", "canSet", "(III)Z"⟩, 53), (⟨"CommaOrphansModel", "signOf", "(I)I"⟩, 53), (⟨"CommaOrphansModel", "types", "(I)V"⟩, 53), (⟨"CommaOrphansModel", "reads", "()V"⟩, 53), (⟨"CommaOrphansModel", "raw", "(I)I"⟩, 53), (⟨"CommaOrphansModel", "isLetter", "(I)Z"⟩, 53)]
theorem lw_r3 : ∀ q ∈ lw_privs_3, lw_okq q := List.forall_mem_cons.mpr ⟨lw_p32, List.forall_mem_cons.mpr ⟨lw_p33, List.forall_mem_cons.mpr ⟨lw_p34, List.forall_mem_cons.mpr ⟨lw_p35, List.forall_mem_cons.mpr ⟨lw_p36, List.forall_mem_cons.mpr ⟨lw_p37, List.forall_mem_cons.mpr ⟨lw_p38, List.forall_mem_cons.mpr ⟨lw_p39, List.forall_mem_cons.mpr ⟨lw_p40, List.forall_mem_cons.mpr ⟨lw_p41, List.forall_mem_cons.mpr ⟨lw_p42, List.forall_mem_cons.mpr ⟨lw_p43, List.forall_mem_cons.mpr ⟨lw_p44, List.forall_mem_cons.mpr ⟨lw_p45, List.forall_mem_cons.mpr ⟨lw_p46, List.forall_mem_cons.mpr ⟨lw_p47, fun _ h => absurd h List.not_mem_nil⟩⟩⟩⟩⟩⟩⟩⟩⟩⟩⟩⟩⟩⟩⟩⟩
theorem lw_p48 : lw_okq (⟨"CommaOrphansModel", "wordAt", "(II)I"⟩, 53) := ⟨⟨by decide +kernel, by decide +kernel⟩, List.mem_of_getElem? (i := 1096) (by decide +kernel), List.mem_of_getElem? (i := 1343) (by decide +kernel), List.mem_of_getElem? (i := 1344) (by decide +kernel)⟩
theorem lw_p49 : lw_okq (⟨"CommaOrphansModel", "isDigit", "(I)Z"⟩, 53) := ⟨⟨by decide +kernel, by decide +kernel⟩, List.mem_of_getElem? (i := 1096) (by decide +kernel), List.mem_of_getElem? (i := 1347) (by decide +kernel), List.mem_of_getElem? (i := 1348) (by decide +kernel)⟩
theorem lw_p50 : lw_okq (⟨"CommaOrphansModel", "isMarkSign", "(I)Z"⟩, 53) := ⟨⟨by decide +kernel, by decide +kernel⟩, List.mem_of_getElem? (i := 1096) (by decide +kernel), List.mem_of_getElem? (i := 1351) (by decide +kernel), List.mem_of_getElem? (i := 1352) (by decide +kernel)⟩
theorem lw_p51 : lw_okq (⟨"CommaOrphansModel", "readText", "()I"⟩, 53) := ⟨⟨by decide +kernel, by decide +kernel⟩, List.mem_of_getElem? (i := 1096) (by decide +kernel), List.mem_of_getElem? (i := 1355) (by decide +kernel), List.mem_of_getElem? (i := 1356) (by decide +kernel)⟩
theorem lw_p52 : lw_okq (⟨"CommaOrphansModel", "isWord", "(I)Z"⟩, 53) := ⟨⟨by decide +kernel, by decide +kernel⟩, List.mem_of_getElem? (i := 1096) (by decide +kernel), List.mem_of_getElem? (i := 1359) (by decide +kernel), List.mem_of_getElem? (i := 1360) (by decide +kernel)⟩
theorem lw_p53 : lw_okq (⟨"CommaOrphansModel", "errs", "(I)I"⟩, 53) := ⟨⟨by decide +kernel, by decide +kernel⟩, List.mem_of_getElem? (i := 1096) (by decide +kernel), List.mem_of_getElem? (i := 1363) (by decide +kernel), List.mem_of_getElem? (i := 1364) (by decide +kernel)⟩
theorem lw_p54 : lw_okq (⟨"CommaOrphansModel", "readSum", "()I"⟩, 53) := ⟨⟨by decide +kernel, by decide +kernel⟩, List.mem_of_getElem? (i := 1096) (by decide +kernel), List.mem_of_getElem? (i := 1367) (by decide +kernel), List.mem_of_getElem? (i := 1368) (by decide +kernel)⟩
theorem lw_p55 : lw_okq (⟨"CommaOrphansModel", "readProduct", "()I"⟩, 53) := ⟨⟨by decide +kernel, by decide +kernel⟩, List.mem_of_getElem? (i := 1096) (by decide +kernel), List.mem_of_getElem? (i := 1371) (by decide +kernel), List.mem_of_getElem? (i := 1372) (by decide +kernel)⟩
theorem lw_p56 : lw_okq (⟨"CommaOrphansModel", "readUnit", "()I"⟩, 53) := ⟨⟨by decide +kernel, by decide +kernel⟩, List.mem_of_getElem? (i := 1096) (by decide +kernel), List.mem_of_getElem? (i := 1375) (by decide +kernel), List.mem_of_getElem? (i := 1376) (by decide +kernel)⟩
theorem lw_p57 : lw_okq (⟨"CommaOrphansModel", "emits", "(II)V"⟩, 53) := ⟨⟨by decide +kernel, by decide +kernel⟩, List.mem_of_getElem? (i := 1096) (by decide +kernel), List.mem_of_getElem? (i := 1379) (by decide +kernel), List.mem_of_getElem? (i := 1380) (by decide +kernel)⟩
theorem lw_p58 : lw_okq (⟨"CommaOrphansModel", "isSign", "(I)Z"⟩, 53) := ⟨⟨by decide +kernel, by decide +kernel⟩, List.mem_of_getElem? (i := 1096) (by decide +kernel), List.mem_of_getElem? (i := 1383) (by decide +kernel), List.mem_of_getElem? (i := 1384) (by decide +kernel)⟩
theorem lw_p59 : lw_okq (⟨"CommaOrphansModel", "readAny", "()I"⟩, 53) := ⟨⟨by decide +kernel, by decide +kernel⟩, List.mem_of_getElem? (i := 1096) (by decide +kernel), List.mem_of_getElem? (i := 1387) (by decide +kernel), List.mem_of_getElem? (i := 1388) (by decide +kernel)⟩
theorem lw_p60 : lw_okq (⟨"CommaOrphansModel", "waits", "(I)V"⟩, 53) := ⟨⟨by decide +kernel, by decide +kernel⟩, List.mem_of_getElem? (i := 1096) (by decide +kernel), List.mem_of_getElem? (i := 1391) (by decide +kernel), List.mem_of_getElem? (i := 1392) (by decide +kernel)⟩
theorem lw_p61 : lw_okq (⟨"CommaOrphansModel", "readCompared", "()I"⟩, 53) := ⟨⟨by decide +kernel, by decide +kernel⟩, List.mem_of_getElem? (i := 1096) (by decide +kernel), List.mem_of_getElem? (i := 1395) (by decide +kernel), List.mem_of_getElem? (i := 1396) (by decide +kernel)⟩
theorem lw_p62 : lw_okq (⟨"CommaOrphansModel", "settles", "(I)V"⟩, 53) := ⟨⟨by decide +kernel, by decide +kernel⟩, List.mem_of_getElem? (i := 1096) (by decide +kernel), List.mem_of_getElem? (i := 1399) (by decide +kernel), List.mem_of_getElem? (i := 1400) (by decide +kernel)⟩
theorem lw_p63 : lw_okq (⟨"CommaOrphansModel", "keepsAhead", "()V"⟩, 53) := ⟨⟨by decide +kernel, by decide +kernel⟩, List.mem_of_getElem? (i := 1096) (by decide +kernel), List.mem_of_getElem? (i := 1411) (by decide +kernel), List.mem_of_getElem? (i := 1412) (by decide +kernel)⟩
def lw_privs_4 : List (MethodName × Nat) := [(⟨"CommaOrphansModel", "wordAt", "(II)I"⟩, 53), (⟨"CommaOrphansModel", "isDigit", "(I)Z"⟩, 53), (⟨"CommaOrphansModel", "isMarkSign", "(I)Z"⟩, 53), (⟨"CommaOrphansModel", "readText", "()I"⟩, 53), (⟨"CommaOrphansModel", "isWord", "(I)Z"⟩, 53), (⟨"CommaOrphansModel", "errs", "(I)I"⟩, 53), (⟨"CommaOrphansModel", "readSum", "()I"⟩, 53), (⟨"CommaOrphansModel", "readProduct", "()I"⟩, 53), (⟨"CommaOrphansModel", "readUnit", "()I"⟩, 53), (⟨"CommaOrphansModel", "emits", "(II)V"⟩, 53), (⟨"CommaOrphansModel", "isSign", "(I)Z"⟩, 53), (⟨"CommaOrphansModel", "readAny", "()I"⟩, 53), (⟨"CommaOrphansModel", "waits", "(I)V"⟩, 53), (⟨"CommaOrphansModel", "readCompared", "()I"⟩, 53), (⟨"CommaOrphansModel", "settles", "(I)V"⟩, 53), (⟨"CommaOrphansModel", "keepsAhead", "()V"⟩, 53)]
theorem lw_r4 : ∀ q ∈ lw_privs_4, lw_okq q := List.forall_mem_cons.mpr ⟨lw_p48, List.forall_mem_cons.mpr ⟨lw_p49, List.forall_mem_cons.mpr ⟨lw_p50, List.forall_mem_cons.mpr ⟨lw_p51, List.forall_mem_cons.mpr ⟨lw_p52, List.forall_mem_cons.mpr ⟨lw_p53, List.forall_mem_cons.mpr ⟨lw_p54, List.forall_mem_cons.mpr ⟨lw_p55, List.forall_mem_cons.mpr ⟨lw_p56, List.forall_mem_cons.mpr ⟨lw_p57, List.forall_mem_cons.mpr ⟨lw_p58, List.forall_mem_cons.mpr ⟨lw_p59, List.forall_mem_cons.mpr ⟨lw_p60, List.forall_mem_cons.mpr ⟨lw_p61, List.forall_mem_cons.mpr ⟨lw_p62, List.forall_mem_cons.mpr ⟨lw_p63, fun _ h => absurd h List.not_mem_nil⟩⟩⟩⟩⟩⟩⟩⟩⟩⟩⟩⟩⟩⟩⟩⟩
theorem lw_p64 : lw_okq (⟨"CommaOrphansModel", "thinksOfPage", "()V"⟩, 53) := ⟨⟨by decide +kernel, by decide +kernel⟩, List.mem_of_getElem? (i := 1096) (by decide +kernel), List.mem_of_getElem? (i := 1415) (by decide +kernel), List.mem_of_getElem? (i := 1416) (by decide +kernel)⟩
theorem lw_p65 : lw_okq (⟨"CommaOrphansModel", "draw", "(I)I"⟩, 53) := ⟨⟨by decide +kernel, by decide +kernel⟩, List.mem_of_getElem? (i := 1096) (by decide +kernel), List.mem_of_getElem? (i := 1419) (by decide +kernel), List.mem_of_getElem? (i := 1420) (by decide +kernel)⟩
theorem lw_p66 : lw_okq (⟨"CommaOrphansModel", "ownerOf", "(I)I"⟩, 53) := ⟨⟨by decide +kernel, by decide +kernel⟩, List.mem_of_getElem? (i := 1096) (by decide +kernel), List.mem_of_getElem? (i := 1425) (by decide +kernel), List.mem_of_getElem? (i := 1426) (by decide +kernel)⟩
theorem lw_p67 : lw_okq (⟨"CommaOrphansModel", "leastSignOf", "(I)I"⟩, 53) := ⟨⟨by decide +kernel, by decide +kernel⟩, List.mem_of_getElem? (i := 1096) (by decide +kernel), List.mem_of_getElem? (i := 1429) (by decide +kernel), List.mem_of_getElem? (i := 1430) (by decide +kernel)⟩
theorem lw_p68 : lw_okq (⟨"CommaOrphansModel", "prints", "(I)Z"⟩, 53) := ⟨⟨by decide +kernel, by decide +kernel⟩, List.mem_of_getElem? (i := 1096) (by decide +kernel), List.mem_of_getElem? (i := 1433) (by decide +kernel), List.mem_of_getElem? (i := 1434) (by decide +kernel)⟩
theorem lw_p69 : lw_okq (⟨"CommaOrphansModel", "canPrint", "(I)Z"⟩, 53) := ⟨⟨by decide +kernel, by decide +kernel⟩, List.mem_of_getElem? (i := 1096) (by decide +kernel), List.mem_of_getElem? (i := 1437) (by decide +kernel), List.mem_of_getElem? (i := 1438) (by decide +kernel)⟩
theorem lw_p70 : lw_okq (⟨"CommaOrphansModel", "paysAt", "(I)I"⟩, 53) := ⟨⟨by decide +kernel, by decide +kernel⟩, List.mem_of_getElem? (i := 1096) (by decide +kernel), List.mem_of_getElem? (i := 1441) (by decide +kernel), List.mem_of_getElem? (i := 1442) (by decide +kernel)⟩
theorem lw_p71 : lw_okq (⟨"CommaOrphansModel", "longAt", "(I)I"⟩, 53) := ⟨⟨by decide +kernel, by decide +kernel⟩, List.mem_of_getElem? (i := 1096) (by decide +kernel), List.mem_of_getElem? (i := 1445) (by decide +kernel), List.mem_of_getElem? (i := 1446) (by decide +kernel)⟩
theorem lw_p72 : lw_okq (⟨"CommaOrphansModel", "isLetterAt", "(I)Z"⟩, 53) := ⟨⟨by decide +kernel, by decide +kernel⟩, List.mem_of_getElem? (i := 1096) (by decide +kernel), List.mem_of_getElem? (i := 1449) (by decide +kernel), List.mem_of_getElem? (i := 1450) (by decide +kernel)⟩
theorem lw_p73 : lw_okq (⟨"CommaOrphansModel", "usedAt", "(I)I"⟩, 53) := ⟨⟨by decide +kernel, by decide +kernel⟩, List.mem_of_getElem? (i := 1096) (by decide +kernel), List.mem_of_getElem? (i := 1453) (by decide +kernel), List.mem_of_getElem? (i := 1454) (by decide +kernel)⟩
theorem lw_p74 : lw_okq (⟨"CommaOrphansModel", "isVowel", "(I)Z"⟩, 53) := ⟨⟨by decide +kernel, by decide +kernel⟩, List.mem_of_getElem? (i := 1096) (by decide +kernel), List.mem_of_getElem? (i := 1457) (by decide +kernel), List.mem_of_getElem? (i := 1458) (by decide +kernel)⟩
theorem lw_p75 : lw_okq (⟨"CommaOrphansModel", "isSo", "(I)Z"⟩, 53) := ⟨⟨by decide +kernel, by decide +kernel⟩, List.mem_of_getElem? (i := 1096) (by decide +kernel), List.mem_of_getElem? (i := 1461) (by decide +kernel), List.mem_of_getElem? (i := 1462) (by decide +kernel)⟩
theorem lw_p76 : lw_okq (⟨"CommaOrphansModel", "runs", "(II)I"⟩, 53) := ⟨⟨by decide +kernel, by decide +kernel⟩, List.mem_of_getElem? (i := 1096) (by decide +kernel), List.mem_of_getElem? (i := 1465) (by decide +kernel), List.mem_of_getElem? (i := 1466) (by decide +kernel)⟩
theorem lw_p77 : lw_okq (⟨"CommaOrphansModel", "twoOf", "(III)I"⟩, 53) := ⟨⟨by decide +kernel, by decide +kernel⟩, List.mem_of_getElem? (i := 1096) (by decide +kernel), List.mem_of_getElem? (i := 1469) (by decide +kernel), List.mem_of_getElem? (i := 1470) (by decide +kernel)⟩
theorem lw_p78 : lw_okq (⟨"CommaOrphansModel", "notes", "(III)V"⟩, 53) := ⟨⟨by decide +kernel, by decide +kernel⟩, List.mem_of_getElem? (i := 1096) (by decide +kernel), List.mem_of_getElem? (i := 1473) (by decide +kernel), List.mem_of_getElem? (i := 1474) (by decide +kernel)⟩
theorem lw_p79 : lw_okq (⟨"CommaOrphansModel", "signsOf", "(I)I"⟩, 53) := ⟨⟨by decide +kernel, by decide +kernel⟩, List.mem_of_getElem? (i := 1096) (by decide +kernel), List.mem_of_getElem? (i := 1485) (by decide +kernel), List.mem_of_getElem? (i := 1486) (by decide +kernel)⟩
def lw_privs_5 : List (MethodName × Nat) := [(⟨"CommaOrphansModel", "thinksOfPage", "()V"⟩, 53), (⟨"CommaOrphansModel", "draw", "(I)I"⟩, 53), (⟨"CommaOrphansModel", "ownerOf", "(I)I"⟩, 53), (⟨"CommaOrphansModel", "leastSignOf", "(I)I"⟩, 53), (⟨"CommaOrphansModel", "prints", "(I)Z"⟩, 53), (⟨"CommaOrphansModel", "canPrint", "(I)Z"⟩, 53), (⟨"CommaOrphansModel", "paysAt", "(I)I"⟩, 53), (⟨"CommaOrphansModel", "longAt", "(I)I"⟩, 53), (⟨"CommaOrphansModel", "isLetterAt", "(I)Z"⟩, 53), (⟨"CommaOrphansModel", "usedAt", "(I)I"⟩, 53), (⟨"CommaOrphansModel", "isVowel", "(I)Z"⟩, 53), (⟨"CommaOrphansModel", "isSo", "(I)Z"⟩, 53), (⟨"CommaOrphansModel", "runs", "(II)I"⟩, 53), (⟨"CommaOrphansModel", "twoOf", "(III)I"⟩, 53), (⟨"CommaOrphansModel", "notes", "(III)V"⟩, 53), (⟨"CommaOrphansModel", "signsOf", "(I)I"⟩, 53)]
theorem lw_r5 : ∀ q ∈ lw_privs_5, lw_okq q := List.forall_mem_cons.mpr ⟨lw_p64, List.forall_mem_cons.mpr ⟨lw_p65, List.forall_mem_cons.mpr ⟨lw_p66, List.forall_mem_cons.mpr ⟨lw_p67, List.forall_mem_cons.mpr ⟨lw_p68, List.forall_mem_cons.mpr ⟨lw_p69, List.forall_mem_cons.mpr ⟨lw_p70, List.forall_mem_cons.mpr ⟨lw_p71, List.forall_mem_cons.mpr ⟨lw_p72, List.forall_mem_cons.mpr ⟨lw_p73, List.forall_mem_cons.mpr ⟨lw_p74, List.forall_mem_cons.mpr ⟨lw_p75, List.forall_mem_cons.mpr ⟨lw_p76, List.forall_mem_cons.mpr ⟨lw_p77, List.forall_mem_cons.mpr ⟨lw_p78, List.forall_mem_cons.mpr ⟨lw_p79, fun _ h => absurd h List.not_mem_nil⟩⟩⟩⟩⟩⟩⟩⟩⟩⟩⟩⟩⟩⟩⟩⟩
theorem lw_p80 : lw_okq (⟨"CommaOrphansModel", "earnsByPage", "(I)I"⟩, 53) := ⟨⟨by decide +kernel, by decide +kernel⟩, List.mem_of_getElem? (i := 1096) (by decide +kernel), List.mem_of_getElem? (i := 1489) (by decide +kernel), List.mem_of_getElem? (i := 1490) (by decide +kernel)⟩
theorem lw_p81 : lw_okq (⟨"CommaOrphansModel", "findsEarnings", "()V"⟩, 53) := ⟨⟨by decide +kernel, by decide +kernel⟩, List.mem_of_getElem? (i := 1096) (by decide +kernel), List.mem_of_getElem? (i := 1493) (by decide +kernel), List.mem_of_getElem? (i := 1494) (by decide +kernel)⟩
theorem lw_p82 : lw_okq (⟨"CommaOrphansModel", "doAllEat", "()Z"⟩, 53) := ⟨⟨by decide +kernel, by decide +kernel⟩, List.mem_of_getElem? (i := 1096) (by decide +kernel), List.mem_of_getElem? (i := 1517) (by decide +kernel), List.mem_of_getElem? (i := 1518) (by decide +kernel)⟩
theorem lw_p83 : lw_okq (⟨"CommaOrphansModel", "mustEat", "(I)Z"⟩, 53) := ⟨⟨by decide +kernel, by decide +kernel⟩, List.mem_of_getElem? (i := 1096) (by decide +kernel), List.mem_of_getElem? (i := 1521) (by decide +kernel), List.mem_of_getElem? (i := 1522) (by decide +kernel)⟩
theorem lw_p84 : lw_okq (⟨"CommaOrphansModel", "canBeOne", "(I)Z"⟩, 53) := ⟨⟨by decide +kernel, by decide +kernel⟩, List.mem_of_getElem? (i := 1096) (by decide +kernel), List.mem_of_getElem? (i := 1525) (by decide +kernel), List.mem_of_getElem? (i := 1526) (by decide +kernel)⟩
theorem lw_p85 : lw_okq (⟨"CommaOrphansModel", "canBeTwo", "(II)Z"⟩, 53) := ⟨⟨by decide +kernel, by decide +kernel⟩, List.mem_of_getElem? (i := 1096) (by decide +kernel), List.mem_of_getElem? (i := 1529) (by decide +kernel), List.mem_of_getElem? (i := 1530) (by decide +kernel)⟩
theorem lw_p86 : lw_okq (⟨"CommaOrphansModel", "buys", "(IIII)V"⟩, 53) := ⟨⟨by decide +kernel, by decide +kernel⟩, List.mem_of_getElem? (i := 1096) (by decide +kernel), List.mem_of_getElem? (i := 1537) (by decide +kernel), List.mem_of_getElem? (i := 1538) (by decide +kernel)⟩
theorem lw_p87 : lw_okq (⟨"CommaOrphansModel", "earnsBy", "(IIII)I"⟩, 53) := ⟨⟨by decide +kernel, by decide +kernel⟩, List.mem_of_getElem? (i := 1096) (by decide +kernel), List.mem_of_getElem? (i := 1541) (by decide +kernel), List.mem_of_getElem? (i := 1542) (by decide +kernel)⟩
theorem lw_p88 : lw_okq (⟨"CommaOrphansModel", "adds", "(I)V"⟩, 53) := ⟨⟨by decide +kernel, by decide +kernel⟩, List.mem_of_getElem? (i := 1096) (by decide +kernel), List.mem_of_getElem? (i := 1545) (by decide +kernel), List.mem_of_getElem? (i := 1546) (by decide +kernel)⟩
theorem lw_p89 : lw_okq (⟨"CommaOrphansModel", "othersEarn", "(I)I"⟩, 53) := ⟨⟨by decide +kernel, by decide +kernel⟩, List.mem_of_getElem? (i := 1096) (by decide +kernel), List.mem_of_getElem? (i := 1558) (by decide +kernel), List.mem_of_getElem? (i := 1559) (by decide +kernel)⟩
theorem lw_p90 : lw_okq (⟨"CommaOrphansModel", "gapsOfRow", "()I"⟩, 53) := ⟨⟨by decide +kernel, by decide +kernel⟩, List.mem_of_getElem? (i := 1096) (by decide +kernel), List.mem_of_getElem? (i := 1562) (by decide +kernel), List.mem_of_getElem? (i := 1563) (by decide +kernel)⟩
theorem lw_p91 : lw_okq (⟨"CommaOrphansModel", "isBetter", "(II)Z"⟩, 53) := ⟨⟨by decide +kernel, by decide +kernel⟩, List.mem_of_getElem? (i := 1096) (by decide +kernel), List.mem_of_getElem? (i := 1570) (by decide +kernel), List.mem_of_getElem? (i := 1571) (by decide +kernel)⟩
theorem lw_p92 : lw_okq (⟨"CommaOrphansModel", "changes", "(II)V"⟩, 53) := ⟨⟨by decide +kernel, by decide +kernel⟩, List.mem_of_getElem? (i := 1096) (by decide +kernel), List.mem_of_getElem? (i := 1574) (by decide +kernel), List.mem_of_getElem? (i := 1575) (by decide +kernel)⟩
theorem lw_p93 : lw_okq (⟨"CommaOrphansModel", "kept", "(I)I"⟩, 53) := ⟨⟨by decide +kernel, by decide +kernel⟩, List.mem_of_getElem? (i := 1096) (by decide +kernel), List.mem_of_getElem? (i := 1586) (by decide +kernel), List.mem_of_getElem? (i := 1587) (by decide +kernel)⟩
theorem lw_p94 : lw_okq (⟨"CommaOrphansModel", "keepsRows", "()V"⟩, 53) := ⟨⟨by decide +kernel, by decide +kernel⟩, List.mem_of_getElem? (i := 1096) (by decide +kernel), List.mem_of_getElem? (i := 1590) (by decide +kernel), List.mem_of_getElem? (i := 1591) (by decide +kernel)⟩
theorem lw_p95 : lw_okq (⟨"CommaOrphansModel", "keepsLaw", "()V"⟩, 53) := ⟨⟨by decide +kernel, by decide +kernel⟩, List.mem_of_getElem? (i := 1096) (by decide +kernel), List.mem_of_getElem? (i := 1594) (by decide +kernel), List.mem_of_getElem? (i := 1595) (by decide +kernel)⟩
def lw_privs_6 : List (MethodName × Nat) := [(⟨"CommaOrphansModel", "earnsByPage", "(I)I"⟩, 53), (⟨"CommaOrphansModel", "findsEarnings", "()V"⟩, 53), (⟨"CommaOrphansModel", "doAllEat", "()Z"⟩, 53), (⟨"CommaOrphansModel", "mustEat", "(I)Z"⟩, 53), (⟨"CommaOrphansModel", "canBeOne", "(I)Z"⟩, 53), (⟨"CommaOrphansModel", "canBeTwo", "(II)Z"⟩, 53), (⟨"CommaOrphansModel", "buys", "(IIII)V"⟩, 53), (⟨"CommaOrphansModel", "earnsBy", "(IIII)I"⟩, 53), (⟨"CommaOrphansModel", "adds", "(I)V"⟩, 53), (⟨"CommaOrphansModel", "othersEarn", "(I)I"⟩, 53), (⟨"CommaOrphansModel", "gapsOfRow", "()I"⟩, 53), (⟨"CommaOrphansModel", "isBetter", "(II)Z"⟩, 53), (⟨"CommaOrphansModel", "changes", "(II)V"⟩, 53), (⟨"CommaOrphansModel", "kept", "(I)I"⟩, 53), (⟨"CommaOrphansModel", "keepsRows", "()V"⟩, 53), (⟨"CommaOrphansModel", "keepsLaw", "()V"⟩, 53)]
theorem lw_r6 : ∀ q ∈ lw_privs_6, lw_okq q := List.forall_mem_cons.mpr ⟨lw_p80, List.forall_mem_cons.mpr ⟨lw_p81, List.forall_mem_cons.mpr ⟨lw_p82, List.forall_mem_cons.mpr ⟨lw_p83, List.forall_mem_cons.mpr ⟨lw_p84, List.forall_mem_cons.mpr ⟨lw_p85, List.forall_mem_cons.mpr ⟨lw_p86, List.forall_mem_cons.mpr ⟨lw_p87, List.forall_mem_cons.mpr ⟨lw_p88, List.forall_mem_cons.mpr ⟨lw_p89, List.forall_mem_cons.mpr ⟨lw_p90, List.forall_mem_cons.mpr ⟨lw_p91, List.forall_mem_cons.mpr ⟨lw_p92, List.forall_mem_cons.mpr ⟨lw_p93, List.forall_mem_cons.mpr ⟨lw_p94, List.forall_mem_cons.mpr ⟨lw_p95, fun _ h => absurd h List.not_mem_nil⟩⟩⟩⟩⟩⟩⟩⟩⟩⟩⟩⟩⟩⟩⟩⟩
def lw_privs : List (MethodName × Nat) := lw_privs_1 ++ (lw_privs_2 ++ (lw_privs_3 ++ (lw_privs_4 ++ (lw_privs_5 ++ (lw_privs_6)))))
def lw_tbl : List Cond := k2_sels lw_privs ++ tables_1
theorem lw_privs_ok : ∀ q ∈ lw_privs, lw_okq q := by
  show ∀ q ∈ lw_privs_1 ++ (lw_privs_2 ++ (lw_privs_3 ++ (lw_privs_4 ++ (lw_privs_5 ++ (lw_privs_6))))), lw_okq q
  exact List.forall_mem_append.mpr ⟨lw_r1, List.forall_mem_append.mpr ⟨lw_r2, List.forall_mem_append.mpr ⟨lw_r3, List.forall_mem_append.mpr ⟨lw_r4, List.forall_mem_append.mpr ⟨lw_r5, lw_r6⟩⟩⟩⟩⟩
-- ===== end of PART A; then your names; then what follows =====
end
section
/-! ===== A small machine over cells with numbers: what a method does, as a function. Cells: an array (type, length), or an object (number of its class, its fields: none: an int; some 0: null; some (d + 1): cell d). A reference on its stack is the number of a cell. ===== -/
abbrev x_S : Type := (FieldType × Nat) ⊕ (Nat × List (Option Nat))
abbrev x_T : Type := List x_S × (Nat → Nat → Int32) × (Nat → Nat → Int64)
abbrev x_L : Type := List (Option Value)
abbrev x_Z : Type := Option (Option Value × x_T)
/-- an int of a cell is written -/
def x_si (T : x_T) (c k : Nat) (v : Int32) : x_T := (T.1, va_up T.2.1 c (upd (T.2.1 c) k v), T.2.2)
/-- all ints of a cell -/
def x_sf (T : x_T) (c : Nat) (f : Nat → Int32) : x_T := (T.1, va_up T.2.1 c f, T.2.2)
def x_sl (T : x_T) (c k : Nat) (v : Int64) : x_T := (T.1, T.2.1, va_up T.2.2 c (vp_updL (T.2.2 c) k v))
/-- a new cell, all 0 -/
def x_new (T : x_T) (sh : x_S) : x_T := (T.1 ++ [sh], va_up T.2.1 T.1.length (fun _ => 0), va_up T.2.2 T.1.length (fun _ => 0))
/-- a reference in a field of an object -/
def x_sr (T : x_T) (c ci k : Nat) (fs : List (Option Nat)) (d : Nat) : x_T := (T.1.set c (.inr (ci, fs.set k (some (d + 1)))), T.2.1, T.2.2)
/-- how many slots the cells have -/
def x_z1 : x_S → Nat
  | .inl q => q.2
  | .inr q => q.2.length
def x_z : List x_S → Nat
  | [] => 0
  | a :: l => x_z1 a + x_z l
/-- all references of a list of values lie below n -/
def x_okv (n : Nat) : Value → Bool
  | .ref i => Nat.blt i n
  | _ => true
def x_okl (n : Nat) (lv : x_L) : Bool := lv.all (fun o => match o with | some v => x_okv n v | none => true)
def x_oks (n : Nat) (st : List Value) : Bool := st.all (x_okv n)
def x_okT (n : Nat) (sh : List x_S) : Bool := sh.all (fun q => match q with | .inr o => o.2.all (fun r => match r with | some (d + 1) => Nat.blt d n | _ => true) | _ => true)
/-- no long lies just ahead of place i -/
def x_okp (lv : x_L) : Nat → Bool
  | 0 => true
  | i + 1 => match lv[i]? with
    | some (some (.long _)) => false
    | some (some (.double _)) => false
    | _ => true
/-- i is a place of a row of n -/
def x_in (i : Int32) (n : Nat) : Bool := decide (0 ≤ i.toInt) && decide (i.toInt < n)
def x_cmp (c : ClassFile.Cond) (x y : Int32) : Bool := match c with
  | .eq => decide (x = y)
  | .ne => !decide (x = y)
  | .lt => decide (x < y)
  | .ge => decide (y ≤ x)
  | .gt => decide (y < x)
  | .le => decide (x ≤ y)
/-- how many words a stack has -/
def x_sm (st : List Value) : Nat := (st.map fun v => v.category).sum
def x_pick (lo : Int) (offs : List Int) (d : Int) (x : Int32) : Int := if x.toInt < lo then d else (offs[(x.toInt - lo).toNat]?).getD d
/-- the number of a field that is written: an int's as it is, a boolean's 1000 more, a reference's 2000 more -/
def x_kk (k : Nat) : Nat := if k < 1000 then k else if k < 2000 then k - 1000 else k - 2000
/-- a check that a run passes, else it has no answer -/
def x_g (b : Bool) (k : x_Z) : x_Z := match b with
  | true => k
  | false => none
theorem x_g_some {b : Bool} {k : x_Z} {q : Option Value × x_T} (h : x_g b k = some q) : b = true ∧ k = some q := by
  cases b
  · cases h
  · exact ⟨rfl, h⟩
/-- rows that are only read: their lengths and numbers -/
abbrev x_Xt : Type := Nat → Option (Nat × (Nat → Int32))
def x_nx : x_Xt := fun _ => none
/-- a plain instruction (resolved: .iconst any int, .jsr a long, .invokeinterface ci k a field read, .multianewarray ci k a field written, .pop Object's constructor, .invokedynamic 0 1 2 max min arraycopy); K: what follows -/
def x_s1 (XT : x_Xt) (i : Instr) (lv : x_L) (st : List Value) (T : x_T) (K : x_L → List Value → x_T → x_Z) : x_Z :=
  match i with
  | .iconst v => K lv (.int (Int32.ofInt v) :: st) T
  | .jsr v => K lv (.long (Int64.ofInt v) :: st) T
  | .ldc j => K lv (.retAddr j :: st) T
  | .iload i => match lv[i]? with
    | some (some (.int x)) => K lv (.int x :: st) T
    | _ => none
  | .lload i => match lv[i]? with
    | some (some (.long x)) => K lv (.long x :: st) T
    | _ => none
  | .aload i => match lv[i]? with
    | some (some (.ref x)) => K lv (.ref x :: st) T
    | some (some (.retAddr x)) => K lv (.retAddr x :: st) T
    | _ => none
  | .istore i => match st with
    | .int x :: st => x_g (x_okp lv i && Nat.blt i lv.length) (K (lv.set i (some (.int x))) st T)
    | _ => none
  | .lstore i => match st with
    | .long x :: st => x_g (x_okp lv i && Nat.blt (i + 1) lv.length) (K ((lv.set i (some (.long x))).set (i + 1) none) st T)
    | _ => none
  | .astore i => match st with
    | .ref x :: st => x_g (x_okp lv i && Nat.blt i lv.length) (K (lv.set i (some (.ref x))) st T)
    | _ => none
  | .iinc i n => match lv[i]? with
    | some (some (.int x)) => x_g (x_okp lv i) (K (lv.set i (some (.int (x + Int32.ofInt n)))) st T)
    | _ => none
  | .iadd => match st with
    | .int y :: .int x :: st => K lv (.int (x + y) :: st) T
    | _ => none
  | .isub => match st with
    | .int y :: .int x :: st => K lv (.int (x - y) :: st) T
    | _ => none
  | .imul => match st with
    | .int y :: .int x :: st => K lv (.int (x * y) :: st) T
    | _ => none
  | .idiv => match st with
    | .int y :: .int x :: st => if y = 0 then none else K lv (.int (x / y) :: st) T
    | _ => none
  | .irem => match st with
    | .int y :: .int x :: st => if y = 0 then none else K lv (.int (x - x / y * y) :: st) T
    | _ => none
  | .iand => match st with
    | .int y :: .int x :: st => K lv (.int (x &&& y) :: st) T
    | _ => none
  | .ior => match st with
    | .int y :: .int x :: st => K lv (.int (x ||| y) :: st) T
    | _ => none
  | .ishl => match st with
    | .int y :: .int x :: st => K lv (.int (x <<< (y &&& 31)) :: st) T
    | _ => none
  | .ishr => match st with
    | .int y :: .int x :: st => K lv (.int (x >>> (y &&& 31)) :: st) T
    | _ => none
  | .iushr => match st with
    | .int y :: .int x :: st => K lv (.int (x.toUInt32 >>> (y.toUInt32 &&& Int32.toUInt32 31)).toInt32 :: st) T
    | _ => none
  | .ladd => match st with
    | .long y :: .long x :: st => K lv (.long (x + y) :: st) T
    | _ => none
  | .lmul => match st with
    | .long y :: .long x :: st => K lv (.long (x * y) :: st) T
    | _ => none
  | .ldiv => match st with
    | .long y :: .long x :: st => if y = 0 then none else K lv (.long (x / y) :: st) T
    | _ => none
  | .land => match st with
    | .long y :: .long x :: st => K lv (.long (x &&& y) :: st) T
    | _ => none
  | .lor => match st with
    | .long y :: .long x :: st => K lv (.long (x ||| y) :: st) T
    | _ => none
  | .lshl => match st with
    | .int y :: .long x :: st => K lv (.long (x <<< (y.toInt64 &&& 63)) :: st) T
    | _ => none
  | .lushr => match st with
    | .int y :: .long x :: st => K lv (.long (x.toUInt64 >>> (y.toInt64.toUInt64 &&& Int64.toUInt64 63)).toInt64 :: st) T
    | _ => none
  | .lcmp => match st with
    | .long y :: .long x :: st => K lv (.int (lg_cmp x y) :: st) T
    | _ => none
  | .i2l => match st with
    | .int x :: st => K lv (.long x.toInt64 :: st) T
    | _ => none
  | .l2i => match st with
    | .long x :: st => K lv (.int x.toInt32 :: st) T
    | _ => none
  | .i2c => match st with
    | .int x :: st => K lv (.int (x.toUInt32 % 65536).toInt32 :: st) T
    | _ => none
  | .dup => match st with
    | .int x :: st => K lv (.int x :: .int x :: st) T
    | .ref x :: st => K lv (.ref x :: .ref x :: st) T
    | _ => none
  | .dup2 => match st with
    | .int y :: .ref x :: st => K lv (.int y :: .ref x :: .int y :: .ref x :: st) T
    | _ => none
  | .pop => match st with
    | .ref _ :: st => x_g (Nat.ble (x_sm st) 8) (K lv st T)
    | _ => none
  | .arraylength => match st with
    | .ref a :: st => match T.1[a]? with
      | some (.inl q) => x_g (decide (q.1 = .int ∨ q.1 = .boolean ∨ q.1 = .long)) (K lv (.int (Int32.ofNat q.2) :: st) T)
      | _ => none
    | .retAddr a :: st => match XT a with
      | some q => K lv (.int (Int32.ofNat q.1) :: st) T
      | none => none
    | _ => none
  | .invokeinterface ci k => match st with
    | .ref a :: st => match T.1[a]? with
      | some (.inr o) => x_g (Nat.beq o.1 ci) (match o.2[k]? with
        | some none => K lv (.int (T.2.1 a k) :: st) T
        | some (some (d + 1)) => K lv (.ref d :: st) T
        | _ => none)
      | _ => none
    | _ => none
  | .iaload => match st with
    | .int i :: .ref a :: st => match T.1[a]? with
      | some (.inl (.int, n)) => if x_in i n then K lv (.int (T.2.1 a i.toNatClampNeg) :: st) T else none
      | _ => none
    | .int i :: .retAddr a :: st => match XT a with
      | some q => if x_in i q.1 then K lv (.int (q.2 i.toNatClampNeg) :: st) T else none
      | none => none
    | _ => none
  | .baload => match st with
    | .int i :: .ref a :: st => match T.1[a]? with
      | some (.inl (.boolean, n)) => if x_in i n then K lv (.int (T.2.1 a i.toNatClampNeg) :: st) T else none
      | _ => none
    | _ => none
  | .laload => match st with
    | .int i :: .ref a :: st => match T.1[a]? with
      | some (.inl (.long, n)) => if x_in i n then K lv (.long (T.2.2 a i.toNatClampNeg) :: st) T else none
      | _ => none
    | _ => none
  | .iastore => match st with
    | .int x :: .int i :: .ref a :: st => match T.1[a]? with
      | some (.inl (.int, n)) => if x_in i n then K lv st (x_si T a i.toNatClampNeg x) else none
      | _ => none
    | _ => none
  | .bastore => match st with
    | .int x :: .int i :: .ref a :: st => match T.1[a]? with
      | some (.inl (.boolean, n)) => if x_in i n then K lv st (x_si T a i.toNatClampNeg (vp_nar .boolean x)) else none
      | _ => none
    | _ => none
  | .lastore => match st with
    | .long x :: .int i :: .ref a :: st => match T.1[a]? with
      | some (.inl (.long, n)) => if x_in i n then K lv st (x_sl T a i.toNatClampNeg x) else none
      | _ => none
    | _ => none
  | .multianewarray ci k => match st with
    | .int v :: .ref a :: st => match T.1[a]? with
      | some (.inr o) => x_g (Nat.beq o.1 ci && Nat.blt k 2000) (match o.2[x_kk k]? with
        | some none => x_g (Nat.blt k 1000 || decide (v = 0 ∨ v = 1)) (K lv st (x_si T a (x_kk k) v))
        | _ => none)
      | _ => none
    | .ref d :: .ref a :: st => match T.1[a]? with
      | some (.inr o) => x_g (Nat.beq o.1 ci && Nat.ble 2000 k && Nat.blt (x_kk k) o.2.length) (K lv st (x_sr T a ci (x_kk k) o.2 d))
      | _ => none
    | _ => none
  | .newarray ty => match st with
    | .int n :: st => x_g (decide (¬ n < 0 ∧ n.toNatClampNeg ≤ 100000 ∧ (ty = .int ∨ ty = .boolean ∨ ty = .long) ∧ x_okl T.1.length lv ∧ x_oks T.1.length st ∧ x_okT T.1.length T.1)) (K lv (.ref T.1.length :: st) (x_new T (.inl (newarray.typeOf ty, n.toNatClampNeg))))
    | _ => none
  | .invokedynamic 0 => match st with
    | .int y :: .int x :: st => x_g (Nat.ble (x_sm st) 8) (K lv (.int (if x < y then y else x) :: st) T)
    | _ => none
  | .invokedynamic 1 => match st with
    | .int y :: .int x :: st => x_g (Nat.ble (x_sm st) 8) (K lv (.int (if y < x then y else x) :: st) T)
    | _ => none
  | .invokedynamic 2 => match st with
    | .int n :: .int dp :: .ref b :: .int sp :: .ref a :: st => match T.1[a]?, T.1[b]? with
      | some (.inl (.int, na)), some (.inl (.int, nb)) => if x_sm st ≤ 8 ∧ ¬ sp < 0 ∧ ¬ dp < 0 ∧ ¬ n < 0 ∧ sp.toNatClampNeg + n.toNatClampNeg ≤ na ∧ dp.toNatClampNeg + n.toNatClampNeg ≤ nb then K lv st (x_sf T b (va_cpy (T.2.1 a) (T.2.1 b) sp.toNatClampNeg dp.toNatClampNeg n.toNatClampNeg)) else none
      | _, _ => none
    | _ => none
  | _ => none
/-- what follows a call -/
noncomputable def x_bd (o : x_Z) (K : Option Value → x_T → x_Z) : x_Z := Option.rec (motive := fun _ => x_Z) none (fun q => Prod.rec (motive := fun _ => x_Z) (fun v T => K v T) q) o
theorem x_bd_some {o : x_Z} {K : Option Value → x_T → x_Z} {q : Option Value × x_T} (h : x_bd o K = some q) : ∃ v T', o = some (v, T') ∧ K v T' = some q := by
  cases o with
  | none => cases h
  | some p => exact ⟨p.1, p.2, rfl, h⟩
/-- what the machine knows of the classes and methods: the fields of a class, all of ints 0 and references null; of a method how many parameters it has and the class of its receiver; how many slots its frame has; its code -/
abbrev x_E : Type := (Nat → List (Option Nat)) × (Nat → Nat × Nat) × (Nat → Nat) × (Nat → List Instr)
/-- from an instruction on (rest: the code from there), k steps at most, a jump back is B's, a call is O's -/
noncomputable def x_ev (E : x_E) (XT : x_Xt) (O : Nat → List Value → x_T → x_Z) (B : Nat → x_L → x_T → x_Z) (code : List Instr) : Nat → List Instr → x_L → List Value → x_T → x_Z
  | 0, _, _, _, _ => none
  | _ + 1, [], _, _, _ => none
  | k + 1, i :: rest, lv, st, T => match i with
    | .goto j => x_ev E XT O B code k (code.drop j.toNat) lv st T
    | .jsr_w j => match st with
      | [] => B j.toNat lv T
      | _ => none
    | .ifCond c j => match st with
      | .int x :: st => if x_cmp c x 0 then (match j with
        | .ofNat t => x_ev E XT O B code k (code.drop t) lv st T
        | .negSucc t => (match st with
          | [] => B t lv T
          | _ => none)) else x_ev E XT O B code k rest lv st T
      | _ => none
    | .if_icmp c j => match st with
      | .int y :: .int x :: st => if x_cmp c x y then (match j with
        | .ofNat t => x_ev E XT O B code k (code.drop t) lv st T
        | .negSucc t => (match st with
          | [] => B t lv T
          | _ => none)) else x_ev E XT O B code k rest lv st T
      | _ => none
    | .tableswitch d lo _ offs => match st with
      | .int x :: st => x_ev E XT O B code k (code.drop (x_pick lo offs.toList d x).toNat) lv st T
      | _ => none
    | .lookupswitch d ps => match st with
      | .int x :: st => x_ev E XT O B code k (code.drop (Op.lookupswitch.offset ps.toList d x.toInt).toNat) lv st T
      | _ => none
    | .return_ => match st with
      | [] => some (none, T)
      | _ => none
    | .ireturn => match st with
      | [.int v] => some (some (.int v), T)
      | _ => none
    | .areturn => match st with
      | [.int v] => x_g (decide (v = 0 ∨ v = 1)) (some (some (.int v), T))
      | _ => none
    | .lreturn => match st with
      | [.long v] => some (some (.long v), T)
      | _ => none
    | .new ci => x_g (x_okl T.1.length lv && x_oks T.1.length st && x_okT T.1.length T.1) (x_ev E XT O B code k rest lv (.ref T.1.length :: st) (x_new T (.inr (ci, E.1 ci))))
    | .invokevirtual μ => match st.drop (E.2.1 μ).1 with
      | .ref b :: r => match T.1[b]? with
        | some (.inr o) => x_g (Nat.beq o.1 (E.2.1 μ).2 && (Nat.ble (x_sm r) 8 && (x_okl T.1.length lv && x_oks T.1.length r))) (x_bd (O μ (.ref b :: (st.take (E.2.1 μ).1).reverse) T) (fun v T' => x_ev E XT O B code k rest lv (v.toList ++ r) T'))
        | _ => none
      | _ => none
    | .checkcast μ => match st.drop (E.2.1 μ).1 with
      | .retAddr b :: r => x_g (Nat.blt b 2 && (Nat.ble (x_sm r) 8 && (x_okl T.1.length lv && x_oks T.1.length r))) (x_bd (O μ (.retAddr b :: (st.take (E.2.1 μ).1).reverse) T) (fun v T' => x_ev E XT O B code k rest lv (v.toList ++ r) T'))
      | _ => none
    | .invokespecial μ => match st.drop (E.2.1 μ).1 with
      | .ref b :: r => x_g (Nat.ble (x_sm r) 8 && (x_okl T.1.length lv && x_oks T.1.length r)) (x_bd (O μ (.ref b :: (st.take (E.2.1 μ).1).reverse) T) (fun v T' => x_ev E XT O B code k rest lv (v.toList ++ r) T'))
      | _ => none
    | .invokestatic μ => x_g (Nat.ble (x_sm (st.drop (E.2.1 μ).1)) 8 && (Nat.ble (E.2.1 μ).1 st.length && (x_okl T.1.length lv && x_oks T.1.length (st.drop (E.2.1 μ).1)))) (x_bd (O μ (st.take (E.2.1 μ).1).reverse T) (fun v T' => x_ev E XT O B code k rest lv (v.toList ++ st.drop (E.2.1 μ).1) T'))
    | i => x_s1 XT i lv st T (fun lv st T => x_ev E XT O B code k rest lv st T)
/-- a loop's head comes up n times at most -/
noncomputable def x_lp (E : x_E) (XT : x_Xt) (O : Nat → List Value → x_T → x_Z) (code : List Instr) (k : Nat) : Nat → Nat → x_L → x_T → x_Z
  | 0, _, _, _ => none
  | n + 1, j, lv, T => x_ev E XT O (x_lp E XT O code k n) code k (code.drop j) lv [] T
/-- the first locals of a method -/
def x_ar : List Value → x_L
  | [] => []
  | v :: l => if v.category = 2 then some v :: none :: x_ar l else some v :: x_ar l
/-- a method, calls d deep, each loop's head n times at most; from number 1000 on the methods are others' (SO) -/
noncomputable def x_P (E : x_E) (SO : Nat → List Value → x_T → x_Z) (k n : Nat) : Nat → Nat → List Value → x_T → x_Z
  | 0, _, _, _ => none
  | d + 1, μ, vs, T => if Nat.ble 1000 μ then (if Nat.ble 8 d then SO μ vs T else none) else if (x_ar vs).length ≤ E.2.2.1 μ then x_ev E x_nx (x_P E SO k n d) (x_lp E x_nx (x_P E SO k n d) (E.2.2.2 μ) k n) (E.2.2.2 μ) k (E.2.2.2 μ) (x_ar vs ++ List.replicate (E.2.2.1 μ - (x_ar vs).length) none) [] T else none
end
section
/-! ===== the small machine's cells in the heap: ad: the address of a cell, sad: of a text; C: the class of an array by its type ===== -/
def x_val (ad sad : Nat → Nat) : Value → Value
  | .ref i => .ref (ad i)
  | .retAddr j => .ref (sad j)
  | v => v
def x_fv (ad : Nat → Nat) (f : Nat → Int32) (k : Nat) : Option Nat → Value
  | none => .int (f k)
  | some 0 => .null
  | some (d + 1) => .ref (ad d)
def x_vp (ty : FieldType) (n : Nat) (f : Nat → Int32) (g : Nat → Int64) : vp_A := (n, if ty = .long then .inr (.inl g) else .inl f)
def x_ent (ad : Nat → Nat) (C : FieldType → ClassId) (f : Nat → Int32) (g : Nat → Int64) : x_S → va_E
  | .inl q => .inl (C q.1, x_vp q.1 q.2 f g)
  | .inr o => .inr (o.1, o.2.mapIdx (fun k r => x_fv ad f k r))
def x_W (ad : Nat → Nat) (C : FieldType → ClassId) (T : x_T) : va_W := T.1.mapIdx (fun c sh => (ad c, x_ent ad C (T.2.1 c) (T.2.2 c) sh))
def x_ls (ad sad : Nat → Nat) (ls : Array Slot) (nL : Nat) (lv : x_L) : Prop := ∃ l : List (Nat × Value), lv_has ls nL l ∧ lv.length = nL ∧ ∀ (j : Nat) (v : Value), lv[j]? = some (some v) → (j, x_val ad sad v) ∈ l
theorem x_W_len (ad : Nat → Nat) (C : FieldType → ClassId) (T : x_T) : (x_W ad C T).length = T.1.length := by simp [x_W]
theorem x_W_get {ad : Nat → Nat} {C : FieldType → ClassId} {T : x_T} {a : Nat} {sh : x_S} (h : T.1[a]? = some sh) : (x_W ad C T)[a]? = some (ad a, x_ent ad C (T.2.1 a) (T.2.2 a) sh) := by
  simp [x_W, List.getElem?_mapIdx, h]
theorem x_W_of {ad : Nat → Nat} {C : FieldType → ClassId} {T : x_T} {a : Nat} {q : Nat × va_E} (h : (x_W ad C T)[a]? = some q) : ∃ sh, T.1[a]? = some sh ∧ q = (ad a, x_ent ad C (T.2.1 a) (T.2.2 a) sh) := by
  simp only [x_W, List.getElem?_mapIdx] at h
  cases hs : T.1[a]? with
  | none => simp [hs] at h
  | some sh => simp [hs] at h; exact ⟨sh, rfl, h.symm⟩
/-- one cell is another: the world with that cell set -/
theorem x_W_set {ad : Nat → Nat} {C : FieldType → ClassId} {T U : x_T} {a : Nat} {sh sh' : x_S} (h : T.1[a]? = some sh) (hl : U.1 = T.1.set a sh') (hf : ∀ b, b ≠ a → U.2.1 b = T.2.1 b) (hg : ∀ b, b ≠ a → U.2.2 b = T.2.2 b) : (x_W ad C T).set a (ad a, x_ent ad C (U.2.1 a) (U.2.2 a) sh') = x_W ad C U := by
  have ha : a < T.1.length := (List.getElem?_eq_some_iff.mp h).1
  apply List.ext_getElem?
  intro j
  by_cases hj : j = a
  · subst hj
    rw [List.getElem?_set_self (by rw [x_W_len]; exact ha), x_W_get (sh := sh') (by rw [hl, List.getElem?_set_self ha])]
  · rw [List.getElem?_set_ne (Ne.symm hj)]
    simp only [x_W, List.getElem?_mapIdx, hl, List.getElem?_set_ne (Ne.symm hj), hf j hj, hg j hj]
theorem x_set_self {α : Type} {l : List α} {a : Nat} {x : α} (h : l[a]? = some x) : l = l.set a x := by
  apply List.ext_getElem?
  intro j
  by_cases hj : j = a
  · subst hj
    rw [List.getElem?_set_self (List.getElem?_eq_some_iff.mp h).1, h]
  · rw [List.getElem?_set_ne (Ne.symm hj)]
theorem x_up_s {α : Type} (f : Nat → α) (k : Nat) (v : α) : va_up f k v k = v := if_pos rfl
theorem x_up_n {α : Type} (f : Nat → α) {k j : Nat} (v : α) (h : j ≠ k) : va_up f k v j = f j := if_neg h
/-- an int of an array -/
theorem x_W_ia {ad : Nat → Nat} {C : FieldType → ClassId} {T : x_T} {a n k : Nat} {ty : FieldType} {v : Int32} (h : T.1[a]? = some (.inl (ty, n))) (hty : ty ≠ .long) : (x_W ad C T).set a (ad a, .inl (C ty, n, .inl (upd (T.2.1 a) k v))) = x_W ad C (x_si T a k v) := by
  have h1 := x_W_set (ad := ad) (C := C) (U := x_si T a k v) (sh' := .inl (ty, n)) h (x_set_self h) (fun b hb => x_up_n _ _ hb) (fun b hb => rfl)
  rw [← h1]
  simp [x_ent, x_vp, hty, x_si, x_up_s]
theorem x_W_fa {ad : Nat → Nat} {C : FieldType → ClassId} {T : x_T} {a n : Nat} {ty : FieldType} {f : Nat → Int32} (h : T.1[a]? = some (.inl (ty, n))) (hty : ty ≠ .long) : (x_W ad C T).set a (ad a, .inl (C ty, n, .inl f)) = x_W ad C (x_sf T a f) := by
  have h1 := x_W_set (ad := ad) (C := C) (U := x_sf T a f) (sh' := .inl (ty, n)) h (x_set_self h) (fun b hb => x_up_n _ _ hb) (fun b hb => rfl)
  rw [← h1]
  simp [x_ent, x_vp, hty, x_sf, x_up_s]
theorem x_W_la {ad : Nat → Nat} {C : FieldType → ClassId} {T : x_T} {a n k : Nat} {v : Int64} (h : T.1[a]? = some (.inl (.long, n))) : (x_W ad C T).set a (ad a, .inl (C .long, n, .inr (.inl (vp_updL (T.2.2 a) k v)))) = x_W ad C (x_sl T a k v) := by
  have h1 := x_W_set (ad := ad) (C := C) (U := x_sl T a k v) (sh' := .inl (.long, n)) h (x_set_self h) (fun b hb => rfl) (fun b hb => x_up_n _ _ hb)
  rw [← h1]
  simp [x_ent, x_vp, x_sl, x_up_s]
/-- an int field -/
theorem x_W_if {ad : Nat → Nat} {C : FieldType → ClassId} {T : x_T} {a k ci : Nat} {fs : List (Option Nat)} {v : Int32} (h : T.1[a]? = some (.inr (ci, fs))) (hk : fs[k]? = some none) : (x_W ad C T).set a (ad a, .inr (ci, (fs.mapIdx (fun k r => x_fv ad (T.2.1 a) k r)).set k (.int v))) = x_W ad C (x_si T a k v) := by
  have h1 := x_W_set (ad := ad) (C := C) (U := x_si T a k v) (sh' := .inr (ci, fs)) h (x_set_self h) (fun b hb => x_up_n _ _ hb) (fun b hb => rfl)
  rw [← h1]
  congr 1
  simp only [x_ent, x_si, x_up_s, Prod.mk.injEq, true_and, Sum.inr.injEq]
  have hlt : k < fs.length := (List.getElem?_eq_some_iff.mp hk).1
  apply List.ext_getElem?
  intro j
  by_cases hj : j = k
  · subst hj
    rw [List.getElem?_set_self (by simpa using hlt), List.getElem?_mapIdx, hk]
    simp [x_fv, upd]
  · rw [List.getElem?_set_ne (Ne.symm hj), List.getElem?_mapIdx, List.getElem?_mapIdx]
    cases fs[j]? with
    | none => rfl
    | some r => cases r with
      | none => simp [x_fv, upd, hj]
      | some d => cases d <;> simp [x_fv]
/-- a reference field -/
theorem x_W_rf {ad : Nat → Nat} {C : FieldType → ClassId} {T : x_T} {a k ci d : Nat} {fs : List (Option Nat)} (h : T.1[a]? = some (.inr (ci, fs))) (hk : k < fs.length) : (x_W ad C T).set a (ad a, .inr (ci, (fs.mapIdx (fun k r => x_fv ad (T.2.1 a) k r)).set k (.ref (ad d)))) = x_W ad C (x_sr T a ci k fs d) := by
  have h1 := x_W_set (ad := ad) (C := C) (U := x_sr T a ci k fs d) (sh' := .inr (ci, fs.set k (some (d + 1)))) h rfl (fun b hb => rfl) (fun b hb => rfl)
  rw [← h1]
  congr 1
  simp only [x_ent, x_sr, Prod.mk.injEq, true_and, Sum.inr.injEq]
  apply List.ext_getElem?
  intro j
  by_cases hj : j = k
  · subst hj
    rw [List.getElem?_set_self (by simpa using hk), List.getElem?_mapIdx, List.getElem?_set_self hk]
    simp [x_fv]
  · rw [List.getElem?_set_ne (Ne.symm hj), List.getElem?_mapIdx, List.getElem?_mapIdx, List.getElem?_set_ne (Ne.symm hj)]
/-- a new cell -/
theorem x_W_new {ad : Nat → Nat} {C : FieldType → ClassId} {T : x_T} {sh : x_S} {q : Nat} (hok : x_okT T.1.length T.1 = true) : x_W (va_up ad T.1.length q) C (x_new T sh) = x_W ad C T ++ [(q, x_ent (va_up ad T.1.length q) C (fun _ => 0) (fun _ => 0) sh)] := by
  apply List.ext_getElem?
  intro j
  rcases Nat.lt_trichotomy j T.1.length with hj | hj | hj
  · rw [List.getElem?_append_left (by rw [x_W_len]; exact hj)]
    obtain ⟨s0, hs0⟩ : ∃ s0, T.1[j]? = some s0 := ⟨T.1[j], List.getElem?_eq_getElem hj⟩
    rw [x_W_get hs0, x_W_get (sh := s0) (by show (T.1 ++ [sh])[j]? = _; rw [List.getElem?_append_left hj]; exact hs0)]
    have hne : j ≠ T.1.length := by omega
    simp only [x_new, x_up_n _ _ hne]
    have hall := List.all_eq_true.mp hok s0 (List.mem_of_getElem? hs0)
    cases s0 with
    | inl r => rfl
    | inr o =>
      simp only at hall
      have he : o.2.mapIdx (fun k r => x_fv (va_up ad T.1.length q) (T.2.1 j) k r) = o.2.mapIdx (fun k r => x_fv ad (T.2.1 j) k r) := by
        apply List.ext_getElem?
        intro i
        rw [List.getElem?_mapIdx, List.getElem?_mapIdx]
        cases hi : o.2[i]? with
        | none => rfl
        | some r =>
          have hr := List.all_eq_true.mp hall r (List.mem_of_getElem? hi)
          cases r with
          | none => rfl
          | some d => cases d with
            | zero => rfl
            | succ d =>
              have hd : d < T.1.length := by simpa using hr
              simp [x_fv, x_up_n ad q (show d ≠ T.1.length by omega)]
      simp [x_ent, he]
  · subst hj
    rw [List.getElem?_append_right (by rw [x_W_len]; exact Nat.le_refl _), x_W_len, Nat.sub_self]
    rw [x_W_get (sh := sh) (by show (T.1 ++ [sh])[T.1.length]? = _; rw [List.getElem?_append_right (Nat.le_refl _), Nat.sub_self]; rfl)]
    simp [x_new, x_up_s]
  · rw [List.getElem?_eq_none (by rw [x_W_len]; simp [x_new]; omega), List.getElem?_eq_none (by simp [x_W_len]; omega)]
/-- values keep their addresses, if a new cell comes -/
theorem x_val_up {ad sad : Nat → Nat} {n q : Nat} {v : Value} (h : x_okv n v = true) : x_val (va_up ad n q) sad v = x_val ad sad v := by
  cases v with
  | ref i =>
    have hi : i < n := by simpa [x_okv] using h
    simp [x_val, x_up_n ad q (Nat.ne_of_lt hi)]
  | _ => rfl
theorem x_val_ex {ad ad' sad : Nat → Nat} {n : Nat} (hx : ∀ i, i < n → ad' i = ad i) {v : Value} (h : x_okv n v = true) : x_val ad' sad v = x_val ad sad v := by
  cases v with
  | ref i =>
    have hi : i < n := by simpa [x_okv] using h
    simp [x_val, hx i hi]
  | _ => rfl
theorem x_st_ex {ad ad' sad : Nat → Nat} {n : Nat} (hx : ∀ i, i < n → ad' i = ad i) {st : List Value} (h : x_oks n st = true) : st.map (x_val ad' sad) = st.map (x_val ad sad) := by
  apply List.map_congr_left
  intro v hv
  exact x_val_ex hx (List.all_eq_true.mp h v hv)
theorem x_ls_ex {ad ad' sad : Nat → Nat} {n nL : Nat} {ls : Array Slot} {lv : x_L} (hx : ∀ i, i < n → ad' i = ad i) (h : x_okl n lv = true) (hl : x_ls ad sad ls nL lv) : x_ls ad' sad ls nL lv := by
  obtain ⟨l, h1, h2, h3⟩ := hl
  refine ⟨l, h1, h2, fun j v hj => ?_⟩
  have := List.all_eq_true.mp h _ (List.mem_of_getElem? hj)
  rw [x_val_ex hx this]
  exact h3 j v hj
theorem x_ls_get {ad sad : Nat → Nat} {nL j : Nat} {ls : Array Slot} {lv : x_L} {v : Value} (hl : x_ls ad sad ls nL lv) (hj : lv[j]? = some (some v)) : ls[j]? = some (.val (x_val ad sad v)) := by
  obtain ⟨l, h1, -, h3⟩ := hl
  exact h1.2.2 _ (h3 j v hj)
theorem x_in_vp {i : Int32} {n : Nat} (h : x_in i n = true) : vp_in i n := by
  simp only [x_in, Bool.and_eq_true, decide_eq_true_eq] at h
  exact vp_in_iff.mpr h
theorem x_z_app (a b : List x_S) : x_z (a ++ b) = x_z a + x_z b := by
  induction a with
  | nil => simp [x_z]
  | cons x l ih => simp [x_z, ih]; omega
theorem x_z_set {l : List x_S} {a : Nat} {x y : x_S} (h : l[a]? = some x) (he : x_z1 y = x_z1 x) : x_z (l.set a y) = x_z l := by
  induction l generalizing a with
  | nil => rfl
  | cons b l ih =>
    cases a with
    | zero => simp at h; subst h; simp [x_z, he]
    | succ a => simp at h; simp [x_z, ih h]
end
section
/-! ===== the plain instructions of the small machine, over the kit's rows ===== -/
/-- how a raw instruction of length len is meant; F: the constants of the class, Gp: the fields that may be written -/
def x_rs (F Gp : Nat → Option Instr) (raw : Instr) (len : Nat) (res : Instr) : Bool :=
  match raw with
  | .iconst v => len == 1 && decide (res = .iconst v)
  | .bipush v => len == 2 && decide (res = .iconst v) && decide ((Int8.ofInt v).toInt32 = Int32.ofInt v)
  | .sipush v => len == 3 && decide (res = .iconst v) && decide ((Int16.ofInt v).toInt32 = Int32.ofInt v)
  | .lconst n => len == 1 && decide (res = .jsr ((n : Nat) : Int))
  | .ldc ix => len == 2 && decide (F ix = some res) && (match res with | .iconst _ => true | .ldc _ => true | _ => false)
  | .ldc_w ix => len == 3 && decide (F ix = some res) && (match res with | .iconst _ => true | _ => false)
  | .ldc2_w ix => len == 3 && decide (F ix = some res) && (match res with | .jsr _ => true | _ => false)
  | .iload_n k => len == 1 && decide (res = .iload (k : Nat))
  | .lload_n k => len == 1 && decide (res = .lload (k : Nat))
  | .aload_n k => len == 1 && decide (res = .aload (k : Nat))
  | .istore_n k => len == 1 && decide (res = .istore (k : Nat))
  | .lstore_n k => len == 1 && decide (res = .lstore (k : Nat))
  | .astore_n k => len == 1 && decide (res = .astore (k : Nat))
  | .iload k => len == 2 && decide (res = .iload k)
  | .lload k => len == 2 && decide (res = .lload k)
  | .aload k => len == 2 && decide (res = .aload k)
  | .istore k => len == 2 && decide (res = .istore k)
  | .lstore k => len == 2 && decide (res = .lstore k)
  | .astore k => len == 2 && decide (res = .astore k)
  | .iinc k n => len == 3 && decide (res = .iinc k n)
  | .getfield ix => len == 3 && decide (F ix = some res) && (match res with | .invokeinterface _ _ => true | _ => false)
  | .putfield ix => len == 3 && decide (Gp ix = some res) && (match res with | .multianewarray _ _ => true | _ => false)
  | .invokespecial ix => len == 3 && decide (F ix = some res) && (match res with | .pop => true | _ => false)
  | .invokestatic ix => len == 3 && decide (F ix = some res) && (match res with | .invokedynamic _ => true | _ => false)
  | .newarray ty => len == 2 && decide (res = .newarray ty)
  | i => len == 1 && decide (res = i) && (match i with
    | .iadd => true | .isub => true | .imul => true | .idiv => true | .irem => true | .iand => true | .ior => true | .ishl => true | .ishr => true | .iushr => true
    | .ladd => true | .lmul => true | .ldiv => true | .land => true | .lor => true | .lshl => true | .lushr => true | .lcmp => true | .i2l => true | .l2i => true | .i2c => true
    | .dup => true | .dup2 => true | .arraylength => true | .iaload => true | .baload => true | .laload => true | .iastore => true | .bastore => true | .lastore => true | _ => false)
/-- what the constants of a class give -/
def x_lk (Ts : List Cond) (own : String) (cl : List vw_C) (sad : Nat → Nat) (s : State) (ix : Nat) (i : Instr) : Prop := match i with
  | .iconst v => Cond.constant own ix (Int32.ofInt v) ∈ Ts
  | .jsr v => Cond.constantLong own ix (Int64.ofInt v) ∈ Ts
  | .ldc j => ∃ tx, vk_R own ix tx (sad j) s
  | .invokeinterface ci k => ∃ (C : String) (T : u_T) (N : Nat), cl[ci]? = some (C, T, N) ∧ k < N ∧ (∀ w ∈ u_ws C T N, w ∈ Ts) ∧ (Cond.fieldLink own ix (T k).1 (T k).2.1 (T k).2.2.1 ∈ Ts ∨ ∃ host, va_Nw (Cond.fieldLinkNest own ix (T k).1 (T k).2.1 (T k).2.2.1 host) s)
  | .pop => Cond.methodLink own ix Lib.objectInit ∈ Ts ∧ Cond.instanceMethod Lib.objectInit ∈ Ts ∧ Cond.code Lib.objectInit ⟨#[0xb1]⟩ 1 none ∈ Ts
  | .invokedynamic 0 => Cond.methodLink own ix Lib.Math.max.name ∈ Ts ∧ Cond.static Lib.Math.max.name ∈ Ts ∧ Cond.initialized "java/lang/Math" ∈ Ts ∧ Cond.code Lib.Math.max.name Lib.Math.max.code 2 (some .int) ∈ Ts
  | .invokedynamic 1 => Cond.methodLink own ix Lib.Math.min.name ∈ Ts ∧ Cond.static Lib.Math.min.name ∈ Ts ∧ Cond.initialized "java/lang/Math" ∈ Ts ∧ Cond.code Lib.Math.min.name Lib.Math.min.code 2 (some .int) ∈ Ts
  | .invokedynamic 2 => Cond.methodLink own ix arraycopyName ∈ Ts ∧ Cond.native arraycopyName ∈ Ts ∧ Cond.static arraycopyName ∈ Ts ∧ Cond.initialized "java/lang/System" ∈ Ts
  | _ => True
/-- a field that may be written: its type; a final one only in a constructor of its own class -/
def x_pk (Ts : List Cond) (own : String) (cl : List vw_C) (s : State) (meth : Method) (ix : Nat) (i : Instr) : Prop := match i with
  | .multianewarray ci k => ∃ (C : String) (T : u_T) (N : Nat) (ty0 : Nat → FieldType), cl[ci]? = some (C, T, N) ∧ x_kk k < N ∧ (∀ w ∈ u_ws C T N, w ∈ Ts) ∧ (∀ k, k < N → parseFieldDescriptor (T k).2.2.1 = some (ty0 k)) ∧ (∀ a, a < N → ∀ b, b < N → a ≠ b → (T a).2.1 ≠ (T b).2.1)
      ∧ ((k < 1000 ∧ ty0 (x_kk k) = FieldType.int) ∨ (1000 ≤ k ∧ k < 2000 ∧ ty0 (x_kk k) = FieldType.boolean) ∨ (2000 ≤ k ∧ ((∃ n, ty0 (x_kk k) = FieldType.object n) ∨ ∃ t, ty0 (x_kk k) = FieldType.array t)))
      ∧ (((Cond.fieldLink own ix (T (x_kk k)).1 (T (x_kk k)).2.1 (T (x_kk k)).2.2.1 ∈ Ts ∨ ∃ host, va_Nw (Cond.fieldLinkNest own ix (T (x_kk k)).1 (T (x_kk k)).2.1 (T (x_kk k)).2.2.1 host) s) ∧ (T (x_kk k)).2.2.2 = false)
        ∨ (Cond.fieldLink own ix (T (x_kk k)).1 (T (x_kk k)).2.1 (T (x_kk k)).2.2.1 ∈ Ts ∧ (T (x_kk k)).2.2.2 = true ∧ meth.name = "<init>" ∧ (T (x_kk k)).1 = own))
  | _ => True
section X4
variable {p : Program} {l : Launch} {e : Env} {R : Room} {s : State} {m : MethodId} {args : Array Value} {below : List Frame} {meth : Method} {c : Code} {Q : State → Prop} {cc : ByteArray} {D : va_G} {cl : List vw_C} {C : FieldType → ClassId} {A : Nat → Prop} {nL n0 z0 : Nat} {sad ad0 : Nat → Nat} {own : String} {Ts : List Cond} {F Gp : Nat → Option Instr} {pc len : Nat} {lv lv' : x_L} {st st' : List Value} {T T' : x_T} {q : Option Value × x_T} {K : x_L → List Value → x_T → x_Z} {raw res : Instr} {XT : x_Xt}
/-- from this place, locals, stack and cells on the machine comes to Q -/
def x_G (p : Program) (l : Launch) (e : Env) (R : Room) (s : State) (m : MethodId) (args : Array Value) (below : List Frame) (meth : Method) (c : Code) (D : va_G) (cl : List vw_C) (C : FieldType → ClassId) (A : Nat → Prop) (nL n0 z0 : Nat) (sad ad0 : Nat → Nat) (Q : State → Prop) (pc : Nat) (lv : x_L) (st : List Value) (T : x_T) : Prop :=
  ∀ (ad : Nat → Nat) (H : Heap) (locs : List Loc) (cells slots : Nat) (ls : Array Slot), (∀ i, i < n0 → ad i = ad0 i) → va_P D cl (x_W ad C T) H → va_D A (x_W ad C T) → va_S A s.heap H locs → x_ls ad sad ls nL lv → cells + n0 = T.1.length → slots + z0 = x_z T.1 → W p l e R s m args below meth c H locs cells slots Q (F0 m pc ls (st.map (x_val ad sad)))
def x_mo (T U : x_T) : Prop := T.1.length ≤ U.1.length ∧ x_z T.1 ≤ x_z U.1
/-- all that a frame's walk knows -/
def x_cx (p : Program) (R : Room) (s : State) (m : MethodId) (args : Array Value) (meth : Method) (c : Code) (cc : ByteArray) (D : va_G) (cl : List vw_C) (C : FieldType → ClassId) (A : Nat → Prop) (nL n0 z0 : Nat) (sad : Nat → Nat) (own : String) (Ts : List Cond) (F Gp : Nat → Option Instr) (XT : x_Xt) (q : Option Value × x_T) : Prop :=
  p.tables.exec = Jvm.exec ∧ c.code = cc ∧ c.maxLocals = nL ∧ s.vm.findClass own = some m.cls ∧ (∀ w ∈ Ts, w.before args s = true) ∧ va_K D cl [(C .int, .int), (C .boolean, .boolean), (C .long, .long)] s ∧ (∀ q, s.heap.size ≤ q → A q) ∧ (∀ ix i, F ix = some i → x_lk Ts own cl sad s ix i) ∧ (∀ ix i, Gp ix = some i → x_pk Ts own cl s meth ix i) ∧ 1 ≤ R.frames ∧ 60 ≤ R.locals ∧ q.2.1.length ≤ n0 + R.cells ∧ x_z q.2.1 ≤ z0 + R.slots ∧ (∀ ty, Cond.arrayClass ty ∈ Ts ∨ (ty ≠ .int ∧ ty ≠ .boolean ∧ ty ≠ .long)) ∧ ∀ j n f, XT j = some (n, f) → va_X (sad j) n f s s.heap ∧ sad j < s.heap.size ∧ ¬ A (sad j)
theorem x_go (g : x_mo T q.2 ∧ x_G p l e R s m args below meth c D cl C A nL n0 z0 sad ad0 Q (pc + len) lv st' T) (h : ∀ (ad : Nat → Nat) (H : Heap) (locs : List Loc) (cells slots : Nat) (ls : Array Slot), va_P D cl (x_W ad C T) H → va_D A (x_W ad C T) → va_S A s.heap H locs → x_ls ad sad ls nL lv → W p l e R s m args below meth c H locs cells slots Q (F0 m (pc + len) ls (st'.map (x_val ad sad))) → W p l e R s m args below meth c H locs cells slots Q (F0 m pc ls (st.map (x_val ad sad)))) : x_mo T q.2 ∧ x_G p l e R s m args below meth c D cl C A nL n0 z0 sad ad0 Q pc lv st T :=
  ⟨g.1, fun ad H locs cells slots ls e1 hP hD hS hl c1 c2 => h ad H locs cells slots ls hP hD hS hl (g.2 ad H locs cells slots ls e1 hP hD hS hl c1 c2)⟩
theorem x_ls_set {ad : Nat → Nat} {ls ls' : Array Slot} {lst : List (Nat × Value)} {i : Nat} {v : Value} (h1 : lv_has ls' nL ((i, x_val ad sad v) :: lst.filter (fun q => !(q.1 == i) && !(q.1 + 1 == i && q.2.category == 2)))) (h2 : lv.length = nL) (h3 : ∀ (j : Nat) (v : Value), lv[j]? = some (some v) → (j, x_val ad sad v) ∈ lst) (hok : x_okp lv i = true) : x_ls ad sad ls' nL (lv.set i (some v)) := by
  refine ⟨_, h1, by rw [List.length_set]; exact h2, fun j v' hj => ?_⟩
  by_cases hji : j = i
  · subst hji
    have hlt : j < lv.length := by
      have := (List.getElem?_eq_some_iff.mp hj).1
      rwa [List.length_set] at this
    rw [List.getElem?_set_self hlt] at hj
    cases hj
    exact List.mem_cons_self
  · rw [List.getElem?_set_ne (Ne.symm hji)] at hj
    refine List.mem_cons_of_mem _ (List.mem_filter.mpr ⟨h3 j v' hj, ?_⟩)
    have hc : ¬ (j + 1 = i ∧ (x_val ad sad v').category = 2) := by
      rintro ⟨rfl, hcat⟩
      simp only [x_okp] at hok
      rw [hj] at hok
      cases v' <;> first | (simp [x_val, Value.category] at hcat; done) | simp_all [x_val, Value.category]
    simp only [Bool.and_eq_true, Bool.not_eq_true', beq_eq_false_iff_ne, ne_eq, Bool.and_eq_false_iff]
    refine ⟨hji, ?_⟩
    by_cases hj1 : j + 1 = i
    · exact Or.inr (fun h => hc ⟨hj1, h⟩)
    · exact Or.inl hj1
end X4
end
section
section X5
variable {p : Program} {l : Launch} {e : Env} {R : Room} {s : State} {m : MethodId} {args : Array Value} {below : List Frame} {meth : Method} {c : Code} {Q : State → Prop} {cc : ByteArray} {D : va_G} {cl : List vw_C} {C : FieldType → ClassId} {A : Nat → Prop} {nL n0 z0 : Nat} {sad ad0 : Nat → Nat} {own : String} {Ts : List Cond} {F Gp : Nat → Option Instr} {pc len : Nat} {lv lv' : x_L} {st st' : List Value} {T T' : x_T} {q : Option Value × x_T} {K : x_L → List Value → x_T → x_Z} {raw res : Instr} {XT : x_Xt}
set_option maxHeartbeats 1000000 in
theorem x_o_iadd  (hc : x_cx p R s m args meth c cc D cl C A nL n0 z0 sad own Ts F Gp XT q) (hdg : decode cc pc = .ok (.iadd, 1)) (hK : ∀ lv' st' T', K lv' st' T' = some q → x_mo T' q.2 ∧ x_G p l e R s m args below meth c D cl C A nL n0 z0 sad ad0 Q (pc + 1) lv' st' T') (h : x_s1 XT (.iadd) lv st T K = some q) : x_mo T q.2 ∧ x_G p l e R s m args below meth c D cl C A nL n0 z0 sad ad0 Q pc lv st T := by
  obtain ⟨hx, hb, hml, hown, hts, hKa, hA, hF, hG, hfr, hlo, hce, hsl, har, hXT⟩ := id hc
  simp only [x_s1] at h
  split at h
  · exact x_go (hK _ _ _ h) (fun ad H locs cells slots ls hP hD hS hl g => lv_iadd hx hb hdg g)
  · cases h
set_option maxHeartbeats 1000000 in
theorem x_o_isub  (hc : x_cx p R s m args meth c cc D cl C A nL n0 z0 sad own Ts F Gp XT q) (hdg : decode cc pc = .ok (.isub, 1)) (hK : ∀ lv' st' T', K lv' st' T' = some q → x_mo T' q.2 ∧ x_G p l e R s m args below meth c D cl C A nL n0 z0 sad ad0 Q (pc + 1) lv' st' T') (h : x_s1 XT (.isub) lv st T K = some q) : x_mo T q.2 ∧ x_G p l e R s m args below meth c D cl C A nL n0 z0 sad ad0 Q pc lv st T := by
  obtain ⟨hx, hb, hml, hown, hts, hKa, hA, hF, hG, hfr, hlo, hce, hsl, har, hXT⟩ := id hc
  simp only [x_s1] at h
  split at h
  · exact x_go (hK _ _ _ h) (fun ad H locs cells slots ls hP hD hS hl g => lv_isub hx hb hdg g)
  · cases h
set_option maxHeartbeats 1000000 in
theorem x_o_imul  (hc : x_cx p R s m args meth c cc D cl C A nL n0 z0 sad own Ts F Gp XT q) (hdg : decode cc pc = .ok (.imul, 1)) (hK : ∀ lv' st' T', K lv' st' T' = some q → x_mo T' q.2 ∧ x_G p l e R s m args below meth c D cl C A nL n0 z0 sad ad0 Q (pc + 1) lv' st' T') (h : x_s1 XT (.imul) lv st T K = some q) : x_mo T q.2 ∧ x_G p l e R s m args below meth c D cl C A nL n0 z0 sad ad0 Q pc lv st T := by
  obtain ⟨hx, hb, hml, hown, hts, hKa, hA, hF, hG, hfr, hlo, hce, hsl, har, hXT⟩ := id hc
  simp only [x_s1] at h
  split at h
  · exact x_go (hK _ _ _ h) (fun ad H locs cells slots ls hP hD hS hl g => lv_imul hx hb hdg g)
  · cases h
set_option maxHeartbeats 1000000 in
theorem x_o_iand  (hc : x_cx p R s m args meth c cc D cl C A nL n0 z0 sad own Ts F Gp XT q) (hdg : decode cc pc = .ok (.iand, 1)) (hK : ∀ lv' st' T', K lv' st' T' = some q → x_mo T' q.2 ∧ x_G p l e R s m args below meth c D cl C A nL n0 z0 sad ad0 Q (pc + 1) lv' st' T') (h : x_s1 XT (.iand) lv st T K = some q) : x_mo T q.2 ∧ x_G p l e R s m args below meth c D cl C A nL n0 z0 sad ad0 Q pc lv st T := by
  obtain ⟨hx, hb, hml, hown, hts, hKa, hA, hF, hG, hfr, hlo, hce, hsl, har, hXT⟩ := id hc
  simp only [x_s1] at h
  split at h
  · exact x_go (hK _ _ _ h) (fun ad H locs cells slots ls hP hD hS hl g => lv_iand hx hb hdg g)
  · cases h
set_option maxHeartbeats 1000000 in
theorem x_o_ior  (hc : x_cx p R s m args meth c cc D cl C A nL n0 z0 sad own Ts F Gp XT q) (hdg : decode cc pc = .ok (.ior, 1)) (hK : ∀ lv' st' T', K lv' st' T' = some q → x_mo T' q.2 ∧ x_G p l e R s m args below meth c D cl C A nL n0 z0 sad ad0 Q (pc + 1) lv' st' T') (h : x_s1 XT (.ior) lv st T K = some q) : x_mo T q.2 ∧ x_G p l e R s m args below meth c D cl C A nL n0 z0 sad ad0 Q pc lv st T := by
  obtain ⟨hx, hb, hml, hown, hts, hKa, hA, hF, hG, hfr, hlo, hce, hsl, har, hXT⟩ := id hc
  simp only [x_s1] at h
  split at h
  · exact x_go (hK _ _ _ h) (fun ad H locs cells slots ls hP hD hS hl g => lv_ior hx hb hdg g)
  · cases h
set_option maxHeartbeats 1000000 in
theorem x_o_ishl  (hc : x_cx p R s m args meth c cc D cl C A nL n0 z0 sad own Ts F Gp XT q) (hdg : decode cc pc = .ok (.ishl, 1)) (hK : ∀ lv' st' T', K lv' st' T' = some q → x_mo T' q.2 ∧ x_G p l e R s m args below meth c D cl C A nL n0 z0 sad ad0 Q (pc + 1) lv' st' T') (h : x_s1 XT (.ishl) lv st T K = some q) : x_mo T q.2 ∧ x_G p l e R s m args below meth c D cl C A nL n0 z0 sad ad0 Q pc lv st T := by
  obtain ⟨hx, hb, hml, hown, hts, hKa, hA, hF, hG, hfr, hlo, hce, hsl, har, hXT⟩ := id hc
  simp only [x_s1] at h
  split at h
  · exact x_go (hK _ _ _ h) (fun ad H locs cells slots ls hP hD hS hl g => lv_ishl hx hb hdg g)
  · cases h
set_option maxHeartbeats 1000000 in
theorem x_o_ishr  (hc : x_cx p R s m args meth c cc D cl C A nL n0 z0 sad own Ts F Gp XT q) (hdg : decode cc pc = .ok (.ishr, 1)) (hK : ∀ lv' st' T', K lv' st' T' = some q → x_mo T' q.2 ∧ x_G p l e R s m args below meth c D cl C A nL n0 z0 sad ad0 Q (pc + 1) lv' st' T') (h : x_s1 XT (.ishr) lv st T K = some q) : x_mo T q.2 ∧ x_G p l e R s m args below meth c D cl C A nL n0 z0 sad ad0 Q pc lv st T := by
  obtain ⟨hx, hb, hml, hown, hts, hKa, hA, hF, hG, hfr, hlo, hce, hsl, har, hXT⟩ := id hc
  simp only [x_s1] at h
  split at h
  · exact x_go (hK _ _ _ h) (fun ad H locs cells slots ls hP hD hS hl g => lv_ishr hx hb hdg g)
  · cases h
set_option maxHeartbeats 1000000 in
theorem x_o_ladd  (hc : x_cx p R s m args meth c cc D cl C A nL n0 z0 sad own Ts F Gp XT q) (hdg : decode cc pc = .ok (.ladd, 1)) (hK : ∀ lv' st' T', K lv' st' T' = some q → x_mo T' q.2 ∧ x_G p l e R s m args below meth c D cl C A nL n0 z0 sad ad0 Q (pc + 1) lv' st' T') (h : x_s1 XT (.ladd) lv st T K = some q) : x_mo T q.2 ∧ x_G p l e R s m args below meth c D cl C A nL n0 z0 sad ad0 Q pc lv st T := by
  obtain ⟨hx, hb, hml, hown, hts, hKa, hA, hF, hG, hfr, hlo, hce, hsl, har, hXT⟩ := id hc
  simp only [x_s1] at h
  split at h
  · exact x_go (hK _ _ _ h) (fun ad H locs cells slots ls hP hD hS hl g => lv_ladd hx hb hdg g)
  · cases h
set_option maxHeartbeats 1000000 in
theorem x_o_lmul  (hc : x_cx p R s m args meth c cc D cl C A nL n0 z0 sad own Ts F Gp XT q) (hdg : decode cc pc = .ok (.lmul, 1)) (hK : ∀ lv' st' T', K lv' st' T' = some q → x_mo T' q.2 ∧ x_G p l e R s m args below meth c D cl C A nL n0 z0 sad ad0 Q (pc + 1) lv' st' T') (h : x_s1 XT (.lmul) lv st T K = some q) : x_mo T q.2 ∧ x_G p l e R s m args below meth c D cl C A nL n0 z0 sad ad0 Q pc lv st T := by
  obtain ⟨hx, hb, hml, hown, hts, hKa, hA, hF, hG, hfr, hlo, hce, hsl, har, hXT⟩ := id hc
  simp only [x_s1] at h
  split at h
  · exact x_go (hK _ _ _ h) (fun ad H locs cells slots ls hP hD hS hl g => lv_lmul hx hb hdg g)
  · cases h
set_option maxHeartbeats 1000000 in
theorem x_o_land  (hc : x_cx p R s m args meth c cc D cl C A nL n0 z0 sad own Ts F Gp XT q) (hdg : decode cc pc = .ok (.land, 1)) (hK : ∀ lv' st' T', K lv' st' T' = some q → x_mo T' q.2 ∧ x_G p l e R s m args below meth c D cl C A nL n0 z0 sad ad0 Q (pc + 1) lv' st' T') (h : x_s1 XT (.land) lv st T K = some q) : x_mo T q.2 ∧ x_G p l e R s m args below meth c D cl C A nL n0 z0 sad ad0 Q pc lv st T := by
  obtain ⟨hx, hb, hml, hown, hts, hKa, hA, hF, hG, hfr, hlo, hce, hsl, har, hXT⟩ := id hc
  simp only [x_s1] at h
  split at h
  · exact x_go (hK _ _ _ h) (fun ad H locs cells slots ls hP hD hS hl g => lv_land hx hb hdg g)
  · cases h
set_option maxHeartbeats 1000000 in
theorem x_o_lor  (hc : x_cx p R s m args meth c cc D cl C A nL n0 z0 sad own Ts F Gp XT q) (hdg : decode cc pc = .ok (.lor, 1)) (hK : ∀ lv' st' T', K lv' st' T' = some q → x_mo T' q.2 ∧ x_G p l e R s m args below meth c D cl C A nL n0 z0 sad ad0 Q (pc + 1) lv' st' T') (h : x_s1 XT (.lor) lv st T K = some q) : x_mo T q.2 ∧ x_G p l e R s m args below meth c D cl C A nL n0 z0 sad ad0 Q pc lv st T := by
  obtain ⟨hx, hb, hml, hown, hts, hKa, hA, hF, hG, hfr, hlo, hce, hsl, har, hXT⟩ := id hc
  simp only [x_s1] at h
  split at h
  · exact x_go (hK _ _ _ h) (fun ad H locs cells slots ls hP hD hS hl g => lv_lor hx hb hdg g)
  · cases h
set_option maxHeartbeats 1000000 in
theorem x_o_iushr  (hc : x_cx p R s m args meth c cc D cl C A nL n0 z0 sad own Ts F Gp XT q) (hdg : decode cc pc = .ok (.iushr, 1)) (hK : ∀ lv' st' T', K lv' st' T' = some q → x_mo T' q.2 ∧ x_G p l e R s m args below meth c D cl C A nL n0 z0 sad ad0 Q (pc + 1) lv' st' T') (h : x_s1 XT (.iushr) lv st T K = some q) : x_mo T q.2 ∧ x_G p l e R s m args below meth c D cl C A nL n0 z0 sad ad0 Q pc lv st T := by
  obtain ⟨hx, hb, hml, hown, hts, hKa, hA, hF, hG, hfr, hlo, hce, hsl, har, hXT⟩ := id hc
  simp only [x_s1] at h
  split at h
  · exact x_go (hK _ _ _ h) (fun ad H locs cells slots ls hP hD hS hl g => lv_iushr hx hb hdg rfl g)
  · cases h
set_option maxHeartbeats 1000000 in
theorem x_o_lshl  (hc : x_cx p R s m args meth c cc D cl C A nL n0 z0 sad own Ts F Gp XT q) (hdg : decode cc pc = .ok (.lshl, 1)) (hK : ∀ lv' st' T', K lv' st' T' = some q → x_mo T' q.2 ∧ x_G p l e R s m args below meth c D cl C A nL n0 z0 sad ad0 Q (pc + 1) lv' st' T') (h : x_s1 XT (.lshl) lv st T K = some q) : x_mo T q.2 ∧ x_G p l e R s m args below meth c D cl C A nL n0 z0 sad ad0 Q pc lv st T := by
  obtain ⟨hx, hb, hml, hown, hts, hKa, hA, hF, hG, hfr, hlo, hce, hsl, har, hXT⟩ := id hc
  simp only [x_s1] at h
  split at h
  · exact x_go (hK _ _ _ h) (fun ad H locs cells slots ls hP hD hS hl g => lv_lshl hx hb hdg rfl g)
  · cases h
set_option maxHeartbeats 1000000 in
theorem x_o_lushr  (hc : x_cx p R s m args meth c cc D cl C A nL n0 z0 sad own Ts F Gp XT q) (hdg : decode cc pc = .ok (.lushr, 1)) (hK : ∀ lv' st' T', K lv' st' T' = some q → x_mo T' q.2 ∧ x_G p l e R s m args below meth c D cl C A nL n0 z0 sad ad0 Q (pc + 1) lv' st' T') (h : x_s1 XT (.lushr) lv st T K = some q) : x_mo T q.2 ∧ x_G p l e R s m args below meth c D cl C A nL n0 z0 sad ad0 Q pc lv st T := by
  obtain ⟨hx, hb, hml, hown, hts, hKa, hA, hF, hG, hfr, hlo, hce, hsl, har, hXT⟩ := id hc
  simp only [x_s1] at h
  split at h
  · exact x_go (hK _ _ _ h) (fun ad H locs cells slots ls hP hD hS hl g => lv_lushr hx hb hdg rfl g)
  · cases h
set_option maxHeartbeats 1000000 in
theorem x_o_lcmp  (hc : x_cx p R s m args meth c cc D cl C A nL n0 z0 sad own Ts F Gp XT q) (hdg : decode cc pc = .ok (.lcmp, 1)) (hK : ∀ lv' st' T', K lv' st' T' = some q → x_mo T' q.2 ∧ x_G p l e R s m args below meth c D cl C A nL n0 z0 sad ad0 Q (pc + 1) lv' st' T') (h : x_s1 XT (.lcmp) lv st T K = some q) : x_mo T q.2 ∧ x_G p l e R s m args below meth c D cl C A nL n0 z0 sad ad0 Q pc lv st T := by
  obtain ⟨hx, hb, hml, hown, hts, hKa, hA, hF, hG, hfr, hlo, hce, hsl, har, hXT⟩ := id hc
  simp only [x_s1] at h
  split at h
  · exact x_go (hK _ _ _ h) (fun ad H locs cells slots ls hP hD hS hl g => W.lcmp hx hb hdg g)
  · cases h
set_option maxHeartbeats 1000000 in
theorem x_o_i2l  (hc : x_cx p R s m args meth c cc D cl C A nL n0 z0 sad own Ts F Gp XT q) (hdg : decode cc pc = .ok (.i2l, 1)) (hK : ∀ lv' st' T', K lv' st' T' = some q → x_mo T' q.2 ∧ x_G p l e R s m args below meth c D cl C A nL n0 z0 sad ad0 Q (pc + 1) lv' st' T') (h : x_s1 XT (.i2l) lv st T K = some q) : x_mo T q.2 ∧ x_G p l e R s m args below meth c D cl C A nL n0 z0 sad ad0 Q pc lv st T := by
  obtain ⟨hx, hb, hml, hown, hts, hKa, hA, hF, hG, hfr, hlo, hce, hsl, har, hXT⟩ := id hc
  simp only [x_s1] at h
  split at h
  · exact x_go (hK _ _ _ h) (fun ad H locs cells slots ls hP hD hS hl g => lv_i2l hx hb hdg rfl g)
  · cases h
set_option maxHeartbeats 1000000 in
theorem x_o_l2i  (hc : x_cx p R s m args meth c cc D cl C A nL n0 z0 sad own Ts F Gp XT q) (hdg : decode cc pc = .ok (.l2i, 1)) (hK : ∀ lv' st' T', K lv' st' T' = some q → x_mo T' q.2 ∧ x_G p l e R s m args below meth c D cl C A nL n0 z0 sad ad0 Q (pc + 1) lv' st' T') (h : x_s1 XT (.l2i) lv st T K = some q) : x_mo T q.2 ∧ x_G p l e R s m args below meth c D cl C A nL n0 z0 sad ad0 Q pc lv st T := by
  obtain ⟨hx, hb, hml, hown, hts, hKa, hA, hF, hG, hfr, hlo, hce, hsl, har, hXT⟩ := id hc
  simp only [x_s1] at h
  split at h
  · exact x_go (hK _ _ _ h) (fun ad H locs cells slots ls hP hD hS hl g => lv_l2i hx hb hdg rfl g)
  · cases h
set_option maxHeartbeats 1000000 in
theorem x_o_i2c  (hc : x_cx p R s m args meth c cc D cl C A nL n0 z0 sad own Ts F Gp XT q) (hdg : decode cc pc = .ok (.i2c, 1)) (hK : ∀ lv' st' T', K lv' st' T' = some q → x_mo T' q.2 ∧ x_G p l e R s m args below meth c D cl C A nL n0 z0 sad ad0 Q (pc + 1) lv' st' T') (h : x_s1 XT (.i2c) lv st T K = some q) : x_mo T q.2 ∧ x_G p l e R s m args below meth c D cl C A nL n0 z0 sad ad0 Q pc lv st T := by
  obtain ⟨hx, hb, hml, hown, hts, hKa, hA, hF, hG, hfr, hlo, hce, hsl, har, hXT⟩ := id hc
  simp only [x_s1] at h
  split at h
  · exact x_go (hK _ _ _ h) (fun ad H locs cells slots ls hP hD hS hl g => lv_i2c hx hb hdg rfl g)
  · cases h
set_option maxHeartbeats 1000000 in
theorem x_o_idiv  (hc : x_cx p R s m args meth c cc D cl C A nL n0 z0 sad own Ts F Gp XT q) (hdg : decode cc pc = .ok (.idiv, 1)) (hK : ∀ lv' st' T', K lv' st' T' = some q → x_mo T' q.2 ∧ x_G p l e R s m args below meth c D cl C A nL n0 z0 sad ad0 Q (pc + 1) lv' st' T') (h : x_s1 XT (.idiv) lv st T K = some q) : x_mo T q.2 ∧ x_G p l e R s m args below meth c D cl C A nL n0 z0 sad ad0 Q pc lv st T := by
  obtain ⟨hx, hb, hml, hown, hts, hKa, hA, hF, hG, hfr, hlo, hce, hsl, har, hXT⟩ := id hc
  simp only [x_s1] at h
  split at h
  · split at h
    · cases h
    · rename_i hz
      exact x_go (hK _ _ _ h) (fun ad H locs cells slots ls hP hD hS hl g => lv_idiv hx hb hdg hz g)
  · cases h
set_option maxHeartbeats 1000000 in
theorem x_o_irem  (hc : x_cx p R s m args meth c cc D cl C A nL n0 z0 sad own Ts F Gp XT q) (hdg : decode cc pc = .ok (.irem, 1)) (hK : ∀ lv' st' T', K lv' st' T' = some q → x_mo T' q.2 ∧ x_G p l e R s m args below meth c D cl C A nL n0 z0 sad ad0 Q (pc + 1) lv' st' T') (h : x_s1 XT (.irem) lv st T K = some q) : x_mo T q.2 ∧ x_G p l e R s m args below meth c D cl C A nL n0 z0 sad ad0 Q pc lv st T := by
  obtain ⟨hx, hb, hml, hown, hts, hKa, hA, hF, hG, hfr, hlo, hce, hsl, har, hXT⟩ := id hc
  simp only [x_s1] at h
  split at h
  · split at h
    · cases h
    · rename_i hz
      exact x_go (hK _ _ _ h) (fun ad H locs cells slots ls hP hD hS hl g => lv_irem hx hb hdg hz g)
  · cases h
set_option maxHeartbeats 1000000 in
theorem x_o_ldiv  (hc : x_cx p R s m args meth c cc D cl C A nL n0 z0 sad own Ts F Gp XT q) (hdg : decode cc pc = .ok (.ldiv, 1)) (hK : ∀ lv' st' T', K lv' st' T' = some q → x_mo T' q.2 ∧ x_G p l e R s m args below meth c D cl C A nL n0 z0 sad ad0 Q (pc + 1) lv' st' T') (h : x_s1 XT (.ldiv) lv st T K = some q) : x_mo T q.2 ∧ x_G p l e R s m args below meth c D cl C A nL n0 z0 sad ad0 Q pc lv st T := by
  obtain ⟨hx, hb, hml, hown, hts, hKa, hA, hF, hG, hfr, hlo, hce, hsl, har, hXT⟩ := id hc
  simp only [x_s1] at h
  split at h
  · split at h
    · cases h
    · rename_i hz
      exact x_go (hK _ _ _ h) (fun ad H locs cells slots ls hP hD hS hl g => lv_ldiv hx hb hdg hz g)
  · cases h
set_option maxHeartbeats 1000000 in
theorem x_o_iconst {v : Int} (hc : x_cx p R s m args meth c cc D cl C A nL n0 z0 sad own Ts F Gp XT q) (hdg : decode cc pc = .ok (.iconst v, 1)) (hK : ∀ lv' st' T', K lv' st' T' = some q → x_mo T' q.2 ∧ x_G p l e R s m args below meth c D cl C A nL n0 z0 sad ad0 Q (pc + 1) lv' st' T') (h : x_s1 XT (.iconst v) lv st T K = some q) : x_mo T q.2 ∧ x_G p l e R s m args below meth c D cl C A nL n0 z0 sad ad0 Q pc lv st T := by
  obtain ⟨hx, hb, hml, hown, hts, hKa, hA, hF, hG, hfr, hlo, hce, hsl, har, hXT⟩ := id hc
  simp only [x_s1] at h
  exact x_go (hK _ _ _ h) (fun ad H locs cells slots ls hP hD hS hl g => lv_iconst hx hb hdg rfl g)
set_option maxHeartbeats 1000000 in
theorem x_o_bipush {v : Int} (hv : (Int8.ofInt v).toInt32 = Int32.ofInt v) (hc : x_cx p R s m args meth c cc D cl C A nL n0 z0 sad own Ts F Gp XT q) (hdg : decode cc pc = .ok (.bipush v, 2)) (hK : ∀ lv' st' T', K lv' st' T' = some q → x_mo T' q.2 ∧ x_G p l e R s m args below meth c D cl C A nL n0 z0 sad ad0 Q (pc + 2) lv' st' T') (h : x_s1 XT (.iconst v) lv st T K = some q) : x_mo T q.2 ∧ x_G p l e R s m args below meth c D cl C A nL n0 z0 sad ad0 Q pc lv st T := by
  obtain ⟨hx, hb, hml, hown, hts, hKa, hA, hF, hG, hfr, hlo, hce, hsl, har, hXT⟩ := id hc
  simp only [x_s1] at h
  exact x_go (hK _ _ _ h) (fun ad H locs cells slots ls hP hD hS hl g => lv_bipush hx hb hdg hv g)
set_option maxHeartbeats 1000000 in
theorem x_o_sipush {v : Int} (hv : (Int16.ofInt v).toInt32 = Int32.ofInt v) (hc : x_cx p R s m args meth c cc D cl C A nL n0 z0 sad own Ts F Gp XT q) (hdg : decode cc pc = .ok (.sipush v, 3)) (hK : ∀ lv' st' T', K lv' st' T' = some q → x_mo T' q.2 ∧ x_G p l e R s m args below meth c D cl C A nL n0 z0 sad ad0 Q (pc + 3) lv' st' T') (h : x_s1 XT (.iconst v) lv st T K = some q) : x_mo T q.2 ∧ x_G p l e R s m args below meth c D cl C A nL n0 z0 sad ad0 Q pc lv st T := by
  obtain ⟨hx, hb, hml, hown, hts, hKa, hA, hF, hG, hfr, hlo, hce, hsl, har, hXT⟩ := id hc
  simp only [x_s1] at h
  exact x_go (hK _ _ _ h) (fun ad H locs cells slots ls hP hD hS hl g => lv_sipush hx hb hdg hv g)
set_option maxHeartbeats 1000000 in
theorem x_o_lconst {v : Fin 2} (hc : x_cx p R s m args meth c cc D cl C A nL n0 z0 sad own Ts F Gp XT q) (hdg : decode cc pc = .ok (.lconst v, 1)) (hK : ∀ lv' st' T', K lv' st' T' = some q → x_mo T' q.2 ∧ x_G p l e R s m args below meth c D cl C A nL n0 z0 sad ad0 Q (pc + 1) lv' st' T') (h : x_s1 XT (.jsr ((v : Nat) : Int)) lv st T K = some q) : x_mo T q.2 ∧ x_G p l e R s m args below meth c D cl C A nL n0 z0 sad ad0 Q pc lv st T := by
  obtain ⟨hx, hb, hml, hown, hts, hKa, hA, hF, hG, hfr, hlo, hce, hsl, har, hXT⟩ := id hc
  simp only [x_s1] at h
  exact x_go (hK _ _ _ h) (fun ad H locs cells slots ls hP hD hS hl g => lv_lconst hx hb hdg ((by decide : ∀ v : Fin 2, Int64.ofNat (v : Nat) = Int64.ofInt ((v : Nat) : Int)) v) g)
set_option maxHeartbeats 1000000 in
theorem x_o_ldc {v : Int} {ix : Nat} (hv : F ix = some (.iconst v)) (hc : x_cx p R s m args meth c cc D cl C A nL n0 z0 sad own Ts F Gp XT q) (hdg : decode cc pc = .ok (.ldc ix, 2)) (hK : ∀ lv' st' T', K lv' st' T' = some q → x_mo T' q.2 ∧ x_G p l e R s m args below meth c D cl C A nL n0 z0 sad ad0 Q (pc + 2) lv' st' T') (h : x_s1 XT (.iconst v) lv st T K = some q) : x_mo T q.2 ∧ x_G p l e R s m args below meth c D cl C A nL n0 z0 sad ad0 Q pc lv st T := by
  obtain ⟨hx, hb, hml, hown, hts, hKa, hA, hF, hG, hfr, hlo, hce, hsl, har, hXT⟩ := id hc
  simp only [x_s1] at h
  exact x_go (hK _ _ _ h) (fun ad H locs cells slots ls hP hD hS hl g => lv_ldc hx hb hown (hts _ (hF _ _ hv)) hdg g)
set_option maxHeartbeats 1000000 in
theorem x_o_ldcw {v : Int} {ix : Nat} (hv : F ix = some (.iconst v)) (hc : x_cx p R s m args meth c cc D cl C A nL n0 z0 sad own Ts F Gp XT q) (hdg : decode cc pc = .ok (.ldc_w ix, 3)) (hK : ∀ lv' st' T', K lv' st' T' = some q → x_mo T' q.2 ∧ x_G p l e R s m args below meth c D cl C A nL n0 z0 sad ad0 Q (pc + 3) lv' st' T') (h : x_s1 XT (.iconst v) lv st T K = some q) : x_mo T q.2 ∧ x_G p l e R s m args below meth c D cl C A nL n0 z0 sad ad0 Q pc lv st T := by
  obtain ⟨hx, hb, hml, hown, hts, hKa, hA, hF, hG, hfr, hlo, hce, hsl, har, hXT⟩ := id hc
  simp only [x_s1] at h
  exact x_go (hK _ _ _ h) (fun ad H locs cells slots ls hP hD hS hl g => lv_ldcw hx hb hown (hts _ (hF _ _ hv)) hdg g)
set_option maxHeartbeats 1000000 in
theorem x_o_ldc2 {v : Int} {ix : Nat} (hv : F ix = some (.jsr v)) (hc : x_cx p R s m args meth c cc D cl C A nL n0 z0 sad own Ts F Gp XT q) (hdg : decode cc pc = .ok (.ldc2_w ix, 3)) (hK : ∀ lv' st' T', K lv' st' T' = some q → x_mo T' q.2 ∧ x_G p l e R s m args below meth c D cl C A nL n0 z0 sad ad0 Q (pc + 3) lv' st' T') (h : x_s1 XT (.jsr v) lv st T K = some q) : x_mo T q.2 ∧ x_G p l e R s m args below meth c D cl C A nL n0 z0 sad ad0 Q pc lv st T := by
  obtain ⟨hx, hb, hml, hown, hts, hKa, hA, hF, hG, hfr, hlo, hce, hsl, har, hXT⟩ := id hc
  simp only [x_s1] at h
  exact x_go (hK _ _ _ h) (fun ad H locs cells slots ls hP hD hS hl g => lv_ldc2 hx hb hown (hts _ (hF _ _ hv)) hdg g)
set_option maxHeartbeats 1000000 in
theorem x_o_ldcS {j ix : Nat} (hv : F ix = some (.ldc j)) (hc : x_cx p R s m args meth c cc D cl C A nL n0 z0 sad own Ts F Gp XT q) (hdg : decode cc pc = .ok (.ldc ix, 2)) (hK : ∀ lv' st' T', K lv' st' T' = some q → x_mo T' q.2 ∧ x_G p l e R s m args below meth c D cl C A nL n0 z0 sad ad0 Q (pc + 2) lv' st' T') (h : x_s1 XT (.ldc j) lv st T K = some q) : x_mo T q.2 ∧ x_G p l e R s m args below meth c D cl C A nL n0 z0 sad ad0 Q pc lv st T := by
  obtain ⟨hx, hb, hml, hown, hts, hKa, hA, hF, hG, hfr, hlo, hce, hsl, har, hXT⟩ := id hc
  simp only [x_s1] at h
  obtain ⟨tx, htx⟩ := hF _ _ hv
  exact x_go (hK _ _ _ h) (fun ad H locs cells slots ls hP hD hS hl g => va_ldcS hx hb hown htx hdg g)
set_option maxHeartbeats 1000000 in
theorem x_o_iload {i : Nat} (hc : x_cx p R s m args meth c cc D cl C A nL n0 z0 sad own Ts F Gp XT q) (hdg : decode cc pc = .ok (.iload i, 2)) (hK : ∀ lv' st' T', K lv' st' T' = some q → x_mo T' q.2 ∧ x_G p l e R s m args below meth c D cl C A nL n0 z0 sad ad0 Q (pc + 2) lv' st' T') (h : x_s1 XT (.iload i) lv st T K = some q) : x_mo T q.2 ∧ x_G p l e R s m args below meth c D cl C A nL n0 z0 sad ad0 Q pc lv st T := by
  obtain ⟨hx, hb, hml, hown, hts, hKa, hA, hF, hG, hfr, hlo, hce, hsl, har, hXT⟩ := id hc
  simp only [x_s1] at h
  split at h
  · rename_i hj
    exact x_go (hK _ _ _ h) (fun ad H locs cells slots ls hP hD hS hl g => lv_iload hx hb hdg (x_ls_get hl hj) g)
  · cases h
set_option maxHeartbeats 1000000 in
theorem x_o_iload_n {k : Fin 4} (hc : x_cx p R s m args meth c cc D cl C A nL n0 z0 sad own Ts F Gp XT q) (hdg : decode cc pc = .ok (.iload_n k, 1)) (hK : ∀ lv' st' T', K lv' st' T' = some q → x_mo T' q.2 ∧ x_G p l e R s m args below meth c D cl C A nL n0 z0 sad ad0 Q (pc + 1) lv' st' T') (h : x_s1 XT (.iload (k : Nat)) lv st T K = some q) : x_mo T q.2 ∧ x_G p l e R s m args below meth c D cl C A nL n0 z0 sad ad0 Q pc lv st T := by
  obtain ⟨hx, hb, hml, hown, hts, hKa, hA, hF, hG, hfr, hlo, hce, hsl, har, hXT⟩ := id hc
  simp only [x_s1] at h
  split at h
  · rename_i hj
    exact x_go (hK _ _ _ h) (fun ad H locs cells slots ls hP hD hS hl g => lv_iload_n hx hb hdg rfl (x_ls_get hl hj) g)
  · cases h
set_option maxHeartbeats 1000000 in
theorem x_o_lload {i : Nat} (hc : x_cx p R s m args meth c cc D cl C A nL n0 z0 sad own Ts F Gp XT q) (hdg : decode cc pc = .ok (.lload i, 2)) (hK : ∀ lv' st' T', K lv' st' T' = some q → x_mo T' q.2 ∧ x_G p l e R s m args below meth c D cl C A nL n0 z0 sad ad0 Q (pc + 2) lv' st' T') (h : x_s1 XT (.lload i) lv st T K = some q) : x_mo T q.2 ∧ x_G p l e R s m args below meth c D cl C A nL n0 z0 sad ad0 Q pc lv st T := by
  obtain ⟨hx, hb, hml, hown, hts, hKa, hA, hF, hG, hfr, hlo, hce, hsl, har, hXT⟩ := id hc
  simp only [x_s1] at h
  split at h
  · rename_i hj
    exact x_go (hK _ _ _ h) (fun ad H locs cells slots ls hP hD hS hl g => lv_lload hx hb hdg (x_ls_get hl hj) g)
  · cases h
set_option maxHeartbeats 1000000 in
theorem x_o_lload_n {k : Fin 4} (hc : x_cx p R s m args meth c cc D cl C A nL n0 z0 sad own Ts F Gp XT q) (hdg : decode cc pc = .ok (.lload_n k, 1)) (hK : ∀ lv' st' T', K lv' st' T' = some q → x_mo T' q.2 ∧ x_G p l e R s m args below meth c D cl C A nL n0 z0 sad ad0 Q (pc + 1) lv' st' T') (h : x_s1 XT (.lload (k : Nat)) lv st T K = some q) : x_mo T q.2 ∧ x_G p l e R s m args below meth c D cl C A nL n0 z0 sad ad0 Q pc lv st T := by
  obtain ⟨hx, hb, hml, hown, hts, hKa, hA, hF, hG, hfr, hlo, hce, hsl, har, hXT⟩ := id hc
  simp only [x_s1] at h
  split at h
  · rename_i hj
    exact x_go (hK _ _ _ h) (fun ad H locs cells slots ls hP hD hS hl g => lv_lload_n hx hb hdg rfl (x_ls_get hl hj) g)
  · cases h
set_option maxHeartbeats 1000000 in
theorem x_o_aload {i : Nat} (hc : x_cx p R s m args meth c cc D cl C A nL n0 z0 sad own Ts F Gp XT q) (hdg : decode cc pc = .ok (.aload i, 2)) (hK : ∀ lv' st' T', K lv' st' T' = some q → x_mo T' q.2 ∧ x_G p l e R s m args below meth c D cl C A nL n0 z0 sad ad0 Q (pc + 2) lv' st' T') (h : x_s1 XT (.aload i) lv st T K = some q) : x_mo T q.2 ∧ x_G p l e R s m args below meth c D cl C A nL n0 z0 sad ad0 Q pc lv st T := by
  obtain ⟨hx, hb, hml, hown, hts, hKa, hA, hF, hG, hfr, hlo, hce, hsl, har, hXT⟩ := id hc
  simp only [x_s1] at h
  split at h
  · rename_i hj
    exact x_go (hK _ _ _ h) (fun ad H locs cells slots ls hP hD hS hl g => lv_aload hx hb hdg (x_ls_get hl hj) g)
  · rename_i hj
    exact x_go (hK _ _ _ h) (fun ad H locs cells slots ls hP hD hS hl g => lv_aload hx hb hdg (x_ls_get hl hj) g)
  · cases h
set_option maxHeartbeats 1000000 in
theorem x_o_aload_n {k : Fin 4} (hc : x_cx p R s m args meth c cc D cl C A nL n0 z0 sad own Ts F Gp XT q) (hdg : decode cc pc = .ok (.aload_n k, 1)) (hK : ∀ lv' st' T', K lv' st' T' = some q → x_mo T' q.2 ∧ x_G p l e R s m args below meth c D cl C A nL n0 z0 sad ad0 Q (pc + 1) lv' st' T') (h : x_s1 XT (.aload (k : Nat)) lv st T K = some q) : x_mo T q.2 ∧ x_G p l e R s m args below meth c D cl C A nL n0 z0 sad ad0 Q pc lv st T := by
  obtain ⟨hx, hb, hml, hown, hts, hKa, hA, hF, hG, hfr, hlo, hce, hsl, har, hXT⟩ := id hc
  simp only [x_s1] at h
  split at h
  · rename_i hj
    exact x_go (hK _ _ _ h) (fun ad H locs cells slots ls hP hD hS hl g => lv_aload_n hx hb hdg rfl (x_ls_get hl hj) g)
  · rename_i hj
    exact x_go (hK _ _ _ h) (fun ad H locs cells slots ls hP hD hS hl g => lv_aload_n hx hb hdg rfl (x_ls_get hl hj) g)
  · cases h
set_option maxHeartbeats 1000000 in
theorem x_o_istore {k : Nat} (hc : x_cx p R s m args meth c cc D cl C A nL n0 z0 sad own Ts F Gp XT q) (hdg : decode cc pc = .ok (.istore k, 2)) (hK : ∀ lv' st' T', K lv' st' T' = some q → x_mo T' q.2 ∧ x_G p l e R s m args below meth c D cl C A nL n0 z0 sad ad0 Q (pc + 2) lv' st' T') (h : x_s1 XT (.istore (k : Nat)) lv st T K = some q) : x_mo T q.2 ∧ x_G p l e R s m args below meth c D cl C A nL n0 z0 sad ad0 Q pc lv st T := by
  obtain ⟨hx, hb, hml, hown, hts, hKa, hA, hF, hG, hfr, hlo, hce, hsl, har, hXT⟩ := id hc
  simp only [x_s1] at h
  split at h
  · have hx0 := x_g_some h
    clear h
    obtain ⟨hok, h⟩ := hx0
    · simp only [Bool.and_eq_true] at hok
      have hlt := Nat.blt_eq.mp hok.2
      have g := hK _ _ _ h
      refine ⟨g.1, fun ad H locs cells slots ls e1 hP hD hS hl c1 c2 => ?_⟩
      obtain ⟨lst, h1, h2, h3⟩ := hl
      refine lv_istore hx hb hdg h1 (by omega) rfl (fun ls' hl' => g.2 ad H locs cells slots ls' e1 hP hD hS (x_ls_set (ls := ls) hl' h2 h3 hok.1) c1 c2)
  · cases h
set_option maxHeartbeats 1000000 in
theorem x_o_istore_n {k : Fin 4} (hc : x_cx p R s m args meth c cc D cl C A nL n0 z0 sad own Ts F Gp XT q) (hdg : decode cc pc = .ok (.istore_n k, 1)) (hK : ∀ lv' st' T', K lv' st' T' = some q → x_mo T' q.2 ∧ x_G p l e R s m args below meth c D cl C A nL n0 z0 sad ad0 Q (pc + 1) lv' st' T') (h : x_s1 XT (.istore (k : Nat)) lv st T K = some q) : x_mo T q.2 ∧ x_G p l e R s m args below meth c D cl C A nL n0 z0 sad ad0 Q pc lv st T := by
  obtain ⟨hx, hb, hml, hown, hts, hKa, hA, hF, hG, hfr, hlo, hce, hsl, har, hXT⟩ := id hc
  simp only [x_s1] at h
  split at h
  · have hx0 := x_g_some h
    clear h
    obtain ⟨hok, h⟩ := hx0
    · simp only [Bool.and_eq_true] at hok
      have hlt := Nat.blt_eq.mp hok.2
      have g := hK _ _ _ h
      refine ⟨g.1, fun ad H locs cells slots ls e1 hP hD hS hl c1 c2 => ?_⟩
      obtain ⟨lst, h1, h2, h3⟩ := hl
      refine lv_istore_n hx hb hdg rfl h1 (by omega) rfl (fun ls' hl' => g.2 ad H locs cells slots ls' e1 hP hD hS (x_ls_set (ls := ls) hl' h2 h3 hok.1) c1 c2)
  · cases h
set_option maxHeartbeats 1000000 in
theorem x_o_astore {k : Nat} (hc : x_cx p R s m args meth c cc D cl C A nL n0 z0 sad own Ts F Gp XT q) (hdg : decode cc pc = .ok (.astore k, 2)) (hK : ∀ lv' st' T', K lv' st' T' = some q → x_mo T' q.2 ∧ x_G p l e R s m args below meth c D cl C A nL n0 z0 sad ad0 Q (pc + 2) lv' st' T') (h : x_s1 XT (.astore (k : Nat)) lv st T K = some q) : x_mo T q.2 ∧ x_G p l e R s m args below meth c D cl C A nL n0 z0 sad ad0 Q pc lv st T := by
  obtain ⟨hx, hb, hml, hown, hts, hKa, hA, hF, hG, hfr, hlo, hce, hsl, har, hXT⟩ := id hc
  simp only [x_s1] at h
  split at h
  · have hx0 := x_g_some h
    clear h
    obtain ⟨hok, h⟩ := hx0
    · simp only [Bool.and_eq_true] at hok
      have hlt := Nat.blt_eq.mp hok.2
      have g := hK _ _ _ h
      refine ⟨g.1, fun ad H locs cells slots ls e1 hP hD hS hl c1 c2 => ?_⟩
      obtain ⟨lst, h1, h2, h3⟩ := hl
      refine lv_astore hx hb hdg h1 (by omega) rfl (fun ls' hl' => g.2 ad H locs cells slots ls' e1 hP hD hS (x_ls_set (ls := ls) hl' h2 h3 hok.1) c1 c2)
  · cases h
set_option maxHeartbeats 1000000 in
theorem x_o_astore_n {k : Fin 4} (hc : x_cx p R s m args meth c cc D cl C A nL n0 z0 sad own Ts F Gp XT q) (hdg : decode cc pc = .ok (.astore_n k, 1)) (hK : ∀ lv' st' T', K lv' st' T' = some q → x_mo T' q.2 ∧ x_G p l e R s m args below meth c D cl C A nL n0 z0 sad ad0 Q (pc + 1) lv' st' T') (h : x_s1 XT (.astore (k : Nat)) lv st T K = some q) : x_mo T q.2 ∧ x_G p l e R s m args below meth c D cl C A nL n0 z0 sad ad0 Q pc lv st T := by
  obtain ⟨hx, hb, hml, hown, hts, hKa, hA, hF, hG, hfr, hlo, hce, hsl, har, hXT⟩ := id hc
  simp only [x_s1] at h
  split at h
  · have hx0 := x_g_some h
    clear h
    obtain ⟨hok, h⟩ := hx0
    · simp only [Bool.and_eq_true] at hok
      have hlt := Nat.blt_eq.mp hok.2
      have g := hK _ _ _ h
      refine ⟨g.1, fun ad H locs cells slots ls e1 hP hD hS hl c1 c2 => ?_⟩
      obtain ⟨lst, h1, h2, h3⟩ := hl
      refine lv_astore_n hx hb hdg rfl h1 (by omega) rfl (fun ls' hl' => g.2 ad H locs cells slots ls' e1 hP hD hS (x_ls_set (ls := ls) hl' h2 h3 hok.1) c1 c2)
  · cases h
theorem x_ls_setL {ad : Nat → Nat} {ls ls' : Array Slot} {lst : List (Nat × Value)} {i : Nat} {v : Int64} (h1 : lv_has ls' nL ((i, .long v) :: lst.filter (fun q => !(q.1 == i) && (!(q.1 == i + 1) && !(q.1 + 1 == i && q.2.category == 2))))) (h2 : lv.length = nL) (h3 : ∀ (j : Nat) (v : Value), lv[j]? = some (some v) → (j, x_val ad sad v) ∈ lst) (hok : x_okp lv i = true) (hlt : i + 1 < lv.length) : x_ls ad sad ls' nL ((lv.set i (some (.long v))).set (i + 1) none) := by
  refine ⟨_, h1, by rw [List.length_set, List.length_set]; exact h2, fun j v' hj => ?_⟩
  by_cases hj2 : j = i + 1
  · subst hj2
    rw [List.getElem?_set_self (by rw [List.length_set]; exact hlt)] at hj
    cases hj
  rw [List.getElem?_set_ne (Ne.symm hj2)] at hj
  by_cases hji : j = i
  · subst hji
    rw [List.getElem?_set_self (by omega)] at hj
    cases hj
    exact List.mem_cons_self
  · rw [List.getElem?_set_ne (Ne.symm hji)] at hj
    refine List.mem_cons_of_mem _ (List.mem_filter.mpr ⟨h3 j v' hj, ?_⟩)
    have hc : ¬ (j + 1 = i ∧ (x_val ad sad v').category = 2) := by
      rintro ⟨rfl, hcat⟩
      simp only [x_okp] at hok
      rw [hj] at hok
      cases v' <;> first | (simp [x_val, Value.category] at hcat; done) | simp_all [x_val, Value.category]
    simp only [Bool.and_eq_true, Bool.not_eq_true', beq_eq_false_iff_ne, ne_eq, Bool.and_eq_false_iff]
    refine ⟨hji, hj2, ?_⟩
    by_cases hj1 : j + 1 = i
    · exact Or.inr (fun h => hc ⟨hj1, h⟩)
    · exact Or.inl hj1
set_option maxHeartbeats 1000000 in
theorem x_o_lstore {k : Nat} (hc : x_cx p R s m args meth c cc D cl C A nL n0 z0 sad own Ts F Gp XT q) (hdg : decode cc pc = .ok (.lstore k, 2)) (hK : ∀ lv' st' T', K lv' st' T' = some q → x_mo T' q.2 ∧ x_G p l e R s m args below meth c D cl C A nL n0 z0 sad ad0 Q (pc + 2) lv' st' T') (h : x_s1 XT (.lstore (k : Nat)) lv st T K = some q) : x_mo T q.2 ∧ x_G p l e R s m args below meth c D cl C A nL n0 z0 sad ad0 Q pc lv st T := by
  obtain ⟨hx, hb, hml, hown, hts, hKa, hA, hF, hG, hfr, hlo, hce, hsl, har, hXT⟩ := id hc
  simp only [x_s1] at h
  split at h
  · have hx0 := x_g_some h
    clear h
    obtain ⟨hok, h⟩ := hx0
    · simp only [Bool.and_eq_true] at hok
      have hlt := Nat.blt_eq.mp hok.2
      have g := hK _ _ _ h
      refine ⟨g.1, fun ad H locs cells slots ls e1 hP hD hS hl c1 c2 => ?_⟩
      obtain ⟨lst, h1, h2, h3⟩ := hl
      refine lv_lstore hx hb hdg h1 (by omega) rfl (fun ls' hl' => g.2 ad H locs cells slots ls' e1 hP hD hS (x_ls_setL (ls := ls) hl' h2 h3 hok.1 hlt) c1 c2)
  · cases h
set_option maxHeartbeats 1000000 in
theorem x_o_lstore_n {k : Fin 4} (hc : x_cx p R s m args meth c cc D cl C A nL n0 z0 sad own Ts F Gp XT q) (hdg : decode cc pc = .ok (.lstore_n k, 1)) (hK : ∀ lv' st' T', K lv' st' T' = some q → x_mo T' q.2 ∧ x_G p l e R s m args below meth c D cl C A nL n0 z0 sad ad0 Q (pc + 1) lv' st' T') (h : x_s1 XT (.lstore (k : Nat)) lv st T K = some q) : x_mo T q.2 ∧ x_G p l e R s m args below meth c D cl C A nL n0 z0 sad ad0 Q pc lv st T := by
  obtain ⟨hx, hb, hml, hown, hts, hKa, hA, hF, hG, hfr, hlo, hce, hsl, har, hXT⟩ := id hc
  simp only [x_s1] at h
  split at h
  · have hx0 := x_g_some h
    clear h
    obtain ⟨hok, h⟩ := hx0
    · simp only [Bool.and_eq_true] at hok
      have hlt := Nat.blt_eq.mp hok.2
      have g := hK _ _ _ h
      refine ⟨g.1, fun ad H locs cells slots ls e1 hP hD hS hl c1 c2 => ?_⟩
      obtain ⟨lst, h1, h2, h3⟩ := hl
      refine lv_lstore_n hx hb hdg rfl h1 (by omega) rfl (fun ls' hl' => g.2 ad H locs cells slots ls' e1 hP hD hS (x_ls_setL (ls := ls) hl' h2 h3 hok.1 hlt) c1 c2)
  · cases h
set_option maxHeartbeats 1000000 in
theorem x_o_iinc {k : Nat} {n : Int} (hc : x_cx p R s m args meth c cc D cl C A nL n0 z0 sad own Ts F Gp XT q) (hdg : decode cc pc = .ok (.iinc k n, 3)) (hK : ∀ lv' st' T', K lv' st' T' = some q → x_mo T' q.2 ∧ x_G p l e R s m args below meth c D cl C A nL n0 z0 sad ad0 Q (pc + 3) lv' st' T') (h : x_s1 XT (.iinc k n) lv st T K = some q) : x_mo T q.2 ∧ x_G p l e R s m args below meth c D cl C A nL n0 z0 sad ad0 Q pc lv st T := by
  obtain ⟨hx, hb, hml, hown, hts, hKa, hA, hF, hG, hfr, hlo, hce, hsl, har, hXT⟩ := id hc
  simp only [x_s1] at h
  split at h
  · rename_i hj
    have hx0 := x_g_some h
    clear h
    obtain ⟨hok, h⟩ := hx0
    · have g := hK _ _ _ h
      refine ⟨g.1, fun ad H locs cells slots ls e1 hP hD hS hl c1 c2 => ?_⟩
      obtain ⟨lst, h1, h2, h3⟩ := hl
      obtain ⟨kk, hkk⟩ := List.getElem?_of_mem (h3 _ _ hj)
      have hlt := (List.getElem?_eq_some_iff.mp hj).1
      refine lv_iinc hx hb hdg h1 hkk rfl (by omega) rfl (fun ls' hl' => g.2 ad H locs cells slots ls' e1 hP hD hS (x_ls_set (ls := ls) hl' h2 h3 hok) c1 c2)
  · cases h
set_option maxHeartbeats 1000000 in
theorem x_o_dup  (hc : x_cx p R s m args meth c cc D cl C A nL n0 z0 sad own Ts F Gp XT q) (hdg : decode cc pc = .ok (.dup, 1)) (hK : ∀ lv' st' T', K lv' st' T' = some q → x_mo T' q.2 ∧ x_G p l e R s m args below meth c D cl C A nL n0 z0 sad ad0 Q (pc + 1) lv' st' T') (h : x_s1 XT (.dup) lv st T K = some q) : x_mo T q.2 ∧ x_G p l e R s m args below meth c D cl C A nL n0 z0 sad ad0 Q pc lv st T := by
  obtain ⟨hx, hb, hml, hown, hts, hKa, hA, hF, hG, hfr, hlo, hce, hsl, har, hXT⟩ := id hc
  simp only [x_s1] at h
  split at h
  · exact x_go (hK _ _ _ h) (fun ad H locs cells slots ls hP hD hS hl g => lv_dup hx hb hdg rfl g)
  · exact x_go (hK _ _ _ h) (fun ad H locs cells slots ls hP hD hS hl g => lv_dup hx hb hdg rfl g)
  · cases h
set_option maxHeartbeats 1000000 in
theorem x_o_dup2  (hc : x_cx p R s m args meth c cc D cl C A nL n0 z0 sad own Ts F Gp XT q) (hdg : decode cc pc = .ok (.dup2, 1)) (hK : ∀ lv' st' T', K lv' st' T' = some q → x_mo T' q.2 ∧ x_G p l e R s m args below meth c D cl C A nL n0 z0 sad ad0 Q (pc + 1) lv' st' T') (h : x_s1 XT (.dup2) lv st T K = some q) : x_mo T q.2 ∧ x_G p l e R s m args below meth c D cl C A nL n0 z0 sad ad0 Q pc lv st T := by
  obtain ⟨hx, hb, hml, hown, hts, hKa, hA, hF, hG, hfr, hlo, hce, hsl, har, hXT⟩ := id hc
  simp only [x_s1] at h
  split at h
  · exact x_go (hK _ _ _ h) (fun ad H locs cells slots ls hP hD hS hl g => lv_dup2_11 hx hb hdg rfl rfl g)
  · cases h
end X5
end
section
section X6
variable {p : Program} {l : Launch} {e : Env} {R : Room} {s : State} {m : MethodId} {args : Array Value} {below : List Frame} {meth : Method} {c : Code} {Q : State → Prop} {cc : ByteArray} {D : va_G} {cl : List vw_C} {C : FieldType → ClassId} {A : Nat → Prop} {nL n0 z0 : Nat} {sad ad0 : Nat → Nat} {own : String} {Ts : List Cond} {F Gp : Nat → Option Instr} {pc len : Nat} {lv lv' : x_L} {st st' : List Value} {T T' : x_T} {q : Option Value × x_T} {K : x_L → List Value → x_T → x_Z} {raw res : Instr} {XT : x_Xt}
theorem x_W_arr {ad : Nat → Nat} {a n : Nat} {ty : FieldType} (h : T.1[a]? = some (.inl (ty, n))) (hty : ty ≠ .long) : (x_W ad C T)[a]? = some (ad a, .inl (C ty, n, .inl (T.2.1 a))) := by
  rw [x_W_get h]
  simp [x_ent, x_vp, hty]
theorem x_W_arrL {ad : Nat → Nat} {a n : Nat} (h : T.1[a]? = some (.inl (.long, n))) : (x_W ad C T)[a]? = some (ad a, .inl (C .long, n, .inr (.inl (T.2.2 a)))) := by
  rw [x_W_get h]
  simp [x_ent, x_vp]
theorem x_mo_of {U V : x_T} (h : x_mo U V) (h1 : T.1.length = U.1.length) (h2 : x_z T.1 = x_z U.1) : x_mo T V := ⟨by rw [h1]; exact h.1, by rw [h2]; exact h.2⟩
theorem x_sm_val (ad : Nat → Nat) (st : List Value) : ((st.map (x_val ad sad)).map fun v => v.category).sum = x_sm st := by
  unfold x_sm
  congr 1
  rw [List.map_map]
  apply List.map_congr_left
  intro v hv
  cases v <;> rfl
set_option maxHeartbeats 1000000 in
theorem x_o_alen  (hc : x_cx p R s m args meth c cc D cl C A nL n0 z0 sad own Ts F Gp XT q) (hdg : decode cc pc = .ok (.arraylength, 1)) (hK : ∀ lv' st' T', K lv' st' T' = some q → x_mo T' q.2 ∧ x_G p l e R s m args below meth c D cl C A nL n0 z0 sad ad0 Q (pc + 1) lv' st' T') (h : x_s1 XT (.arraylength) lv st T K = some q) : x_mo T q.2 ∧ x_G p l e R s m args below meth c D cl C A nL n0 z0 sad ad0 Q pc lv st T := by
  obtain ⟨hx, hb, hml, hown, hts, hKa, hA, hF, hG, hfr, hlo, hce, hsl, har, hXT⟩ := id hc
  simp only [x_s1] at h
  split at h
  · split at h
    · rename_i qq ha
      obtain ⟨ty, n⟩ := qq
      have hx0 := x_g_some h
      clear h
      obtain ⟨hty, h⟩ := hx0
      have hty := of_decide_eq_true hty
      · refine x_go (hK _ _ _ h) (fun ad H locs cells slots ls hP hD hS hl g => ?_)
        have hw := x_W_get (ad := ad) (C := C) ha
        simp only at hty
        rcases hty with rfl | rfl | rfl
        · exact va_alen hx hb hKa hP _ 0 hw rfl rfl hdg g
        · exact va_alen hx hb hKa hP _ 1 hw rfl rfl hdg g
        · exact va_alen hx hb hKa hP _ 2 hw rfl rfl hdg g
    · cases h
  · split at h
    · rename_i qq hq
      obtain ⟨n, f⟩ := qq
      obtain ⟨x1, x2, x3⟩ := hXT _ _ _ hq
      exact x_go (hK _ _ _ h) (fun ad H locs cells slots ls hP hD hS hl g => va_slen hx hb x1 x2 x3 hS hdg g)
    · cases h
  · cases h
set_option maxHeartbeats 1000000 in
theorem x_o_iaload  (hc : x_cx p R s m args meth c cc D cl C A nL n0 z0 sad own Ts F Gp XT q) (hdg : decode cc pc = .ok (.iaload, 1)) (hK : ∀ lv' st' T', K lv' st' T' = some q → x_mo T' q.2 ∧ x_G p l e R s m args below meth c D cl C A nL n0 z0 sad ad0 Q (pc + 1) lv' st' T') (h : x_s1 XT (.iaload) lv st T K = some q) : x_mo T q.2 ∧ x_G p l e R s m args below meth c D cl C A nL n0 z0 sad ad0 Q pc lv st T := by
  obtain ⟨hx, hb, hml, hown, hts, hKa, hA, hF, hG, hfr, hlo, hce, hsl, har, hXT⟩ := id hc
  simp only [x_s1] at h
  split at h
  · split at h
    · rename_i ha
      split at h
      · rename_i hin
        exact x_go (hK _ _ _ h) (fun ad H locs cells slots ls hP hD hS hl g => va_iald hx hb hKa hP _ 0 (x_W_arr ha (by decide)) rfl (x_in_vp hin) hdg g)
      · cases h
    · cases h
  · split at h
    · rename_i qq hq
      obtain ⟨n, f⟩ := qq
      obtain ⟨x1, x2, x3⟩ := hXT _ _ _ hq
      split at h
      · rename_i hin
        exact x_go (hK _ _ _ h) (fun ad H locs cells slots ls hP hD hS hl g => va_sld hx hb x1 x2 x3 hS (x_in_vp hin) hdg g)
      · cases h
    · cases h
  · cases h
set_option maxHeartbeats 1000000 in
theorem x_o_baload  (hc : x_cx p R s m args meth c cc D cl C A nL n0 z0 sad own Ts F Gp XT q) (hdg : decode cc pc = .ok (.baload, 1)) (hK : ∀ lv' st' T', K lv' st' T' = some q → x_mo T' q.2 ∧ x_G p l e R s m args below meth c D cl C A nL n0 z0 sad ad0 Q (pc + 1) lv' st' T') (h : x_s1 XT (.baload) lv st T K = some q) : x_mo T q.2 ∧ x_G p l e R s m args below meth c D cl C A nL n0 z0 sad ad0 Q pc lv st T := by
  obtain ⟨hx, hb, hml, hown, hts, hKa, hA, hF, hG, hfr, hlo, hce, hsl, har, hXT⟩ := id hc
  simp only [x_s1] at h
  split at h
  · split at h
    · rename_i ha
      split at h
      · rename_i hin
        exact x_go (hK _ _ _ h) (fun ad H locs cells slots ls hP hD hS hl g => va_zald hx hb hKa hP _ 1 (x_W_arr ha (by decide)) rfl (x_in_vp hin) hdg g)
      · cases h
    · cases h
  · cases h
set_option maxHeartbeats 1000000 in
theorem x_o_laload  (hc : x_cx p R s m args meth c cc D cl C A nL n0 z0 sad own Ts F Gp XT q) (hdg : decode cc pc = .ok (.laload, 1)) (hK : ∀ lv' st' T', K lv' st' T' = some q → x_mo T' q.2 ∧ x_G p l e R s m args below meth c D cl C A nL n0 z0 sad ad0 Q (pc + 1) lv' st' T') (h : x_s1 XT (.laload) lv st T K = some q) : x_mo T q.2 ∧ x_G p l e R s m args below meth c D cl C A nL n0 z0 sad ad0 Q pc lv st T := by
  obtain ⟨hx, hb, hml, hown, hts, hKa, hA, hF, hG, hfr, hlo, hce, hsl, har, hXT⟩ := id hc
  simp only [x_s1] at h
  split at h
  · split at h
    · rename_i ha
      split at h
      · rename_i hin
        exact x_go (hK _ _ _ h) (fun ad H locs cells slots ls hP hD hS hl g => va_lald hx hb hKa hP _ 2 (x_W_arrL ha) rfl (x_in_vp hin) hdg g)
      · cases h
    · cases h
  · cases h
set_option maxHeartbeats 1000000 in
theorem x_o_iastore  (hc : x_cx p R s m args meth c cc D cl C A nL n0 z0 sad own Ts F Gp XT q) (hdg : decode cc pc = .ok (.iastore, 1)) (hK : ∀ lv' st' T', K lv' st' T' = some q → x_mo T' q.2 ∧ x_G p l e R s m args below meth c D cl C A nL n0 z0 sad ad0 Q (pc + 1) lv' st' T') (h : x_s1 XT (.iastore) lv st T K = some q) : x_mo T q.2 ∧ x_G p l e R s m args below meth c D cl C A nL n0 z0 sad ad0 Q pc lv st T := by
  obtain ⟨hx, hb, hml, hown, hts, hKa, hA, hF, hG, hfr, hlo, hce, hsl, har, hXT⟩ := id hc
  simp only [x_s1] at h
  split at h
  · split at h
    · rename_i ha
      split at h
      · rename_i hin
        have g := hK _ _ _ h
        refine ⟨x_mo_of g.1 rfl rfl, fun ad H locs cells slots ls e1 hP hD hS hl c1 c2 => ?_⟩
        refine va_iast hx hb hKa hP hD hS _ 0 (x_W_arr ha (by decide)) rfl (x_in_vp hin) hdg (fun H1 locs1 hP1 hD1 hS1 => ?_)
        rw [x_W_ia ha (by decide)] at hP1 hD1
        exact g.2 ad H1 locs1 cells slots ls e1 hP1 hD1 hS1 hl c1 c2
      · cases h
    · cases h
  · cases h
set_option maxHeartbeats 1000000 in
theorem x_o_bastore  (hc : x_cx p R s m args meth c cc D cl C A nL n0 z0 sad own Ts F Gp XT q) (hdg : decode cc pc = .ok (.bastore, 1)) (hK : ∀ lv' st' T', K lv' st' T' = some q → x_mo T' q.2 ∧ x_G p l e R s m args below meth c D cl C A nL n0 z0 sad ad0 Q (pc + 1) lv' st' T') (h : x_s1 XT (.bastore) lv st T K = some q) : x_mo T q.2 ∧ x_G p l e R s m args below meth c D cl C A nL n0 z0 sad ad0 Q pc lv st T := by
  obtain ⟨hx, hb, hml, hown, hts, hKa, hA, hF, hG, hfr, hlo, hce, hsl, har, hXT⟩ := id hc
  simp only [x_s1] at h
  split at h
  · split at h
    · rename_i ha
      split at h
      · rename_i hin
        have g := hK _ _ _ h
        refine ⟨x_mo_of g.1 rfl rfl, fun ad H locs cells slots ls e1 hP hD hS hl c1 c2 => ?_⟩
        refine va_zast hx hb hKa hP hD hS _ 1 (x_W_arr ha (by decide)) rfl (x_in_vp hin) hdg (fun H1 locs1 hP1 hD1 hS1 => ?_)
        rw [x_W_ia ha (by decide)] at hP1 hD1
        exact g.2 ad H1 locs1 cells slots ls e1 hP1 hD1 hS1 hl c1 c2
      · cases h
    · cases h
  · cases h
set_option maxHeartbeats 1000000 in
theorem x_o_lastore  (hc : x_cx p R s m args meth c cc D cl C A nL n0 z0 sad own Ts F Gp XT q) (hdg : decode cc pc = .ok (.lastore, 1)) (hK : ∀ lv' st' T', K lv' st' T' = some q → x_mo T' q.2 ∧ x_G p l e R s m args below meth c D cl C A nL n0 z0 sad ad0 Q (pc + 1) lv' st' T') (h : x_s1 XT (.lastore) lv st T K = some q) : x_mo T q.2 ∧ x_G p l e R s m args below meth c D cl C A nL n0 z0 sad ad0 Q pc lv st T := by
  obtain ⟨hx, hb, hml, hown, hts, hKa, hA, hF, hG, hfr, hlo, hce, hsl, har, hXT⟩ := id hc
  simp only [x_s1] at h
  split at h
  · split at h
    · rename_i ha
      split at h
      · rename_i hin
        have g := hK _ _ _ h
        refine ⟨x_mo_of g.1 rfl rfl, fun ad H locs cells slots ls e1 hP hD hS hl c1 c2 => ?_⟩
        refine va_last hx hb hKa hP hD hS _ 2 (x_W_arrL ha) rfl (x_in_vp hin) hdg (fun H1 locs1 hP1 hD1 hS1 => ?_)
        rw [x_W_la ha] at hP1 hD1
        exact g.2 ad H1 locs1 cells slots ls e1 hP1 hD1 hS1 hl c1 c2
      · cases h
    · cases h
  · cases h
set_option maxHeartbeats 1000000 in
theorem x_o_getf {ix ci k : Nat} (hv : F ix = some (.invokeinterface ci k)) (hc : x_cx p R s m args meth c cc D cl C A nL n0 z0 sad own Ts F Gp XT q) (hdg : decode cc pc = .ok (.getfield ix, 3)) (hK : ∀ lv' st' T', K lv' st' T' = some q → x_mo T' q.2 ∧ x_G p l e R s m args below meth c D cl C A nL n0 z0 sad ad0 Q (pc + 3) lv' st' T') (h : x_s1 XT (.invokeinterface ci k) lv st T K = some q) : x_mo T q.2 ∧ x_G p l e R s m args below meth c D cl C A nL n0 z0 sad ad0 Q pc lv st T := by
  obtain ⟨hx, hb, hml, hown, hts, hKa, hA, hF, hG, hfr, hlo, hce, hsl, har, hXT⟩ := id hc
  simp only [x_s1] at h
  obtain ⟨Cn, Tn, N, hcl, hk, hin, hlink⟩ := hF _ _ hv
  split at h
  · rename_i a st2
    split at h
    · rename_i o ha
      obtain ⟨c1, fs⟩ := o
      have hx0 := x_g_some h
      clear h
      obtain ⟨hci, h⟩ := hx0
      · have hci := Nat.eq_of_beq_eq_true hci
        simp only at hci
        subst hci
        split at h
        · rename_i hf
          refine x_go (hK _ _ _ h) (fun ad H locs cells slots ls hP hD hS hl g => ?_)
          have hw := x_W_get (ad := ad) (C := C) ha
          have hfv : (fs.mapIdx (fun k r => x_fv ad (T.2.1 a) k r))[k]? = some (.int (T.2.1 a k)) := by rw [List.getElem?_mapIdx, hf]; rfl
          rcases hlink with hlink | ⟨host, hlink⟩
          · exact va_get hx hb hts hin hown hKa hP _ hw hcl k hk (hts _ hlink) (fun _ h => h) hfv hdg g
          · exact va_getN hx hb hts hin hown hKa hP _ hw hcl k hk (va_Nw.use rfl hlink) (fun _ h => h) hfv hdg g
        · rename_i d hf
          refine x_go (hK _ _ _ h) (fun ad H locs cells slots ls hP hD hS hl g => ?_)
          have hw := x_W_get (ad := ad) (C := C) ha
          have hfv : (fs.mapIdx (fun k r => x_fv ad (T.2.1 a) k r))[k]? = some (.ref (ad d)) := by rw [List.getElem?_mapIdx, hf]; rfl
          rcases hlink with hlink | ⟨host, hlink⟩
          · exact va_get hx hb hts hin hown hKa hP _ hw hcl k hk (hts _ hlink) (fun _ h => h) hfv hdg g
          · exact va_getN hx hb hts hin hown hKa hP _ hw hcl k hk (va_Nw.use rfl hlink) (fun _ h => h) hfv hdg g
        · cases h
    · cases h
  · cases h
set_option maxHeartbeats 1000000 in
theorem x_o_pop {ix : Nat} (hv : F ix = some .pop) (hc : x_cx p R s m args meth c cc D cl C A nL n0 z0 sad own Ts F Gp XT q) (hdg : decode cc pc = .ok (.invokespecial ix, 3)) (hK : ∀ lv' st' T', K lv' st' T' = some q → x_mo T' q.2 ∧ x_G p l e R s m args below meth c D cl C A nL n0 z0 sad ad0 Q (pc + 3) lv' st' T') (h : x_s1 XT (.pop) lv st T K = some q) : x_mo T q.2 ∧ x_G p l e R s m args below meth c D cl C A nL n0 z0 sad ad0 Q pc lv st T := by
  obtain ⟨hx, hb, hml, hown, hts, hKa, hA, hF, hG, hfr, hlo, hce, hsl, har, hXT⟩ := id hc
  simp only [x_s1] at h
  obtain ⟨h1, h2, h3⟩ := hF _ _ hv
  split at h
  · have hx0 := x_g_some h
    clear h
    obtain ⟨hsm, h⟩ := hx0
    have hsm := Nat.le_of_ble_eq_true hsm
    · refine x_go (hK _ _ _ h) (fun ad H locs cells slots ls hP hD hS hl g => ?_)
      obtain ⟨lst, hl1, hl2, hl3⟩ := hl
      refine W.objInit hx hb hown (hts _ h1) (hts _ h2) (hts _ h3) rfl (by rw [hml]; exact hl1.1) rfl hdg hfr ?_ g
      have := lv_room (m := m) (pc := pc) (ls := ls) (rest := []) (st := List.map (x_val ad sad) _) (by rw [x_sm_val (sad := sad) ad]; exact hsm)
      simp only [JFrame.monitorRoom] at this ⊢
      omega
  · cases h
set_option maxHeartbeats 1000000 in
theorem x_o_mmax {ix : Nat} (hv : F ix = some (.invokedynamic 0)) (hc : x_cx p R s m args meth c cc D cl C A nL n0 z0 sad own Ts F Gp XT q) (hdg : decode cc pc = .ok (.invokestatic ix, 3)) (hK : ∀ lv' st' T', K lv' st' T' = some q → x_mo T' q.2 ∧ x_G p l e R s m args below meth c D cl C A nL n0 z0 sad ad0 Q (pc + 3) lv' st' T') (h : x_s1 XT (.invokedynamic 0) lv st T K = some q) : x_mo T q.2 ∧ x_G p l e R s m args below meth c D cl C A nL n0 z0 sad ad0 Q pc lv st T := by
  obtain ⟨hx, hb, hml, hown, hts, hKa, hA, hF, hG, hfr, hlo, hce, hsl, har, hXT⟩ := id hc
  simp only [x_s1] at h
  obtain ⟨h1, h2, h3, h4⟩ := hF _ _ hv
  split at h
  · have hx0 := x_g_some h
    clear h
    obtain ⟨hsm, h⟩ := hx0
    have hsm := Nat.le_of_ble_eq_true hsm
    · have g := hK _ _ _ h
      refine ⟨g.1, fun ad H locs cells slots ls e1 hP hD hS hl c1 c2 => ?_⟩
      have hmo := g.1
      unfold x_mo at hmo
      refine va_mmax hx hb (by rw [hml]; obtain ⟨lst, hl1, hl2, hl3⟩ := hl; exact hl1.1.symm) hown (hts _ h1) (hts _ h2) (hts _ h3) (hts _ h4) hfr ?_ (by omega) (by omega) hdg (g.2 ad H locs cells slots ls e1 hP hD hS hl c1 c2)
      rw [x_sm_val (sad := sad) ad]
      omega
  · cases h
set_option maxHeartbeats 1000000 in
theorem x_o_mmin {ix : Nat} (hv : F ix = some (.invokedynamic 1)) (hc : x_cx p R s m args meth c cc D cl C A nL n0 z0 sad own Ts F Gp XT q) (hdg : decode cc pc = .ok (.invokestatic ix, 3)) (hK : ∀ lv' st' T', K lv' st' T' = some q → x_mo T' q.2 ∧ x_G p l e R s m args below meth c D cl C A nL n0 z0 sad ad0 Q (pc + 3) lv' st' T') (h : x_s1 XT (.invokedynamic 1) lv st T K = some q) : x_mo T q.2 ∧ x_G p l e R s m args below meth c D cl C A nL n0 z0 sad ad0 Q pc lv st T := by
  obtain ⟨hx, hb, hml, hown, hts, hKa, hA, hF, hG, hfr, hlo, hce, hsl, har, hXT⟩ := id hc
  simp only [x_s1] at h
  obtain ⟨h1, h2, h3, h4⟩ := hF _ _ hv
  split at h
  · have hx0 := x_g_some h
    clear h
    obtain ⟨hsm, h⟩ := hx0
    have hsm := Nat.le_of_ble_eq_true hsm
    · have g := hK _ _ _ h
      refine ⟨g.1, fun ad H locs cells slots ls e1 hP hD hS hl c1 c2 => ?_⟩
      have hmo := g.1
      unfold x_mo at hmo
      refine va_mmin hx hb (by rw [hml]; obtain ⟨lst, hl1, hl2, hl3⟩ := hl; exact hl1.1.symm) hown (hts _ h1) (hts _ h2) (hts _ h3) (hts _ h4) hfr ?_ (by omega) (by omega) hdg (g.2 ad H locs cells slots ls e1 hP hD hS hl c1 c2)
      rw [x_sm_val (sad := sad) ad]
      omega
  · cases h
theorem x_nfw : nativeFrameWords "java/lang/System" "arraycopy" 5 ≤ 30 := by decide +kernel
set_option maxHeartbeats 1000000 in
theorem x_o_copy {ix : Nat} (hv : F ix = some (.invokedynamic 2)) (hc : x_cx p R s m args meth c cc D cl C A nL n0 z0 sad own Ts F Gp XT q) (hdg : decode cc pc = .ok (.invokestatic ix, 3)) (hK : ∀ lv' st' T', K lv' st' T' = some q → x_mo T' q.2 ∧ x_G p l e R s m args below meth c D cl C A nL n0 z0 sad ad0 Q (pc + 3) lv' st' T') (h : x_s1 XT (.invokedynamic 2) lv st T K = some q) : x_mo T q.2 ∧ x_G p l e R s m args below meth c D cl C A nL n0 z0 sad ad0 Q pc lv st T := by
  obtain ⟨hx, hb, hml, hown, hts, hKa, hA, hF, hG, hfr, hlo, hce, hsl, har, hXT⟩ := id hc
  simp only [x_s1] at h
  obtain ⟨h1, h2, h3, h4⟩ := hF _ _ hv
  split at h
  · split at h
    · rename_i ha hb'
      split at h
      · rename_i hcond
        obtain ⟨hsm, k1, k2, k3, k4, k5⟩ := hcond
        have g := hK _ _ _ h
        refine ⟨x_mo_of g.1 rfl rfl, fun ad H locs cells slots ls e1 hP hD hS hl c1 c2 => ?_⟩
        have hnf := x_nfw
        refine va_copyi hx hb (by rw [hml]; obtain ⟨lst, hl1, hl2, hl3⟩ := hl; exact hl1.1.symm) hown (hts _ h1) (hts _ h2) (hts _ h3) (hts _ h4) hKa hP hD hS _ _ 0 0 (x_W_arr ha (by decide)) (x_W_arr hb' (by decide)) rfl rfl rfl k1 k2 k3 k4 k5 (fun i _ => rfl) hfr ?_ hdg (fun H1 locs1 hP1 hD1 hS1 => ?_)
        · rw [x_sm_val (sad := sad) ad]
          omega
        · rw [x_W_fa hb' (by decide)] at hP1 hD1
          exact g.2 ad H1 locs1 cells slots ls e1 hP1 hD1 hS1 hl c1 c2
      · cases h
    · cases h
  · cases h
theorem x_putany {ix ci k a : Nat} {fs : List (Option Nat)} {v : Value} {st2 : List Value} (hc : x_cx p R s m args meth c cc D cl C A nL n0 z0 sad own Ts F Gp XT q) (hpk : x_pk Ts own cl s meth ix (.multianewarray ci k)) (hdg : decode cc pc = .ok (.putfield ix, 3)) (ha : T.1[a]? = some (.inr (ci, fs))) (hlen : x_kk k < fs.length) (hn : ∀ ty0 : FieldType, ((k < 1000 ∧ ty0 = FieldType.int) ∨ (1000 ≤ k ∧ k < 2000 ∧ ty0 = FieldType.boolean) ∨ (2000 ≤ k ∧ ((∃ n, ty0 = FieldType.object n) ∨ ∃ t, ty0 = FieldType.array t))) → ∀ ad : Nat → Nat, narrow ty0 (x_val ad sad v) = x_val ad sad v ∧ fits ty0 (x_val ad sad v) = true) (hWe : ∀ ad : Nat → Nat, (x_W ad C T).set a (ad a, .inr (ci, (fs.mapIdx (fun k r => x_fv ad (T.2.1 a) k r)).set (x_kk k) (x_val ad sad v))) = x_W ad C T') (h1 : T.1.length = T'.1.length) (h2 : x_z T.1 = x_z T'.1) (g : x_mo T' q.2 ∧ x_G p l e R s m args below meth c D cl C A nL n0 z0 sad ad0 Q (pc + 3) lv st2 T') : x_mo T q.2 ∧ x_G p l e R s m args below meth c D cl C A nL n0 z0 sad ad0 Q pc lv (v :: .ref a :: st2) T := by
  obtain ⟨hx, hb, hml, hown, hts, hKa, hA, hF, hG, hfr, hlo, hce, hsl, har, hXT⟩ := id hc
  obtain ⟨Cn, Tn, N, ty0, hcl, hk, hin, hty, hnm, hkind, hlink⟩ := hpk
  refine ⟨x_mo_of g.1 h1 h2, fun ad H locs cells slots ls e1 hP hD hS hl c1 c2 => ?_⟩
  have hw := x_W_get (ad := ad) (C := C) ha
  obtain ⟨n1, n2⟩ := hn _ hkind ad
  have fin : ∀ (H1 : Heap) (locs1 : List Loc), va_P D cl ((x_W ad C T).set a (ad a, .inr (ci, (fs.mapIdx (fun k r => x_fv ad (T.2.1 a) k r)).set (x_kk k) (x_val ad sad v)))) H1 → va_D A ((x_W ad C T).set a (ad a, .inr (ci, (fs.mapIdx (fun k r => x_fv ad (T.2.1 a) k r)).set (x_kk k) (x_val ad sad v)))) → va_S A s.heap H1 locs1 → W p l e R s m args below meth c H1 locs1 cells slots Q (F0 m (pc + 3) ls (st2.map (x_val ad sad))) := fun H1 locs1 hP1 hD1 hS1 => by
    rw [hWe ad] at hP1 hD1
    exact g.2 ad H1 locs1 cells slots ls e1 hP1 hD1 hS1 hl (by rw [c1, h1]) (by rw [c2, h2])
  rcases hlink with ⟨hlink | ⟨host, hlink⟩, hfin⟩ | ⟨hlink, hfin, hini, hdecl⟩
  · exact va_put hx hb hts hin ty0 hty hnm hown hKa hP hD hS _ hw hcl _ hk (hts _ hlink) (fun _ h => h) hfin (hty _ hk) n1 n2 (by rw [List.length_mapIdx]; exact hlen) hdg fin
  · exact va_putN hx hb hts hin ty0 hty hnm hown hKa hP hD hS _ hw hcl _ hk (va_Nw.use rfl hlink) (fun _ h => h) hfin (hty _ hk) n1 n2 (by rw [List.length_mapIdx]; exact hlen) hdg fin
  · exact va_putF hx hb hts hin ty0 hty hnm hown hKa hP hD hS _ hw hcl _ hk (hts _ hlink) (fun _ h => h) hfin hini hdecl (hty _ hk) n1 n2 (by rw [List.length_mapIdx]; exact hlen) hdg fin
set_option maxHeartbeats 1000000 in
theorem x_o_putf {ix ci k : Nat} (hv : Gp ix = some (.multianewarray ci k)) (hc : x_cx p R s m args meth c cc D cl C A nL n0 z0 sad own Ts F Gp XT q) (hdg : decode cc pc = .ok (.putfield ix, 3)) (hK : ∀ lv' st' T', K lv' st' T' = some q → x_mo T' q.2 ∧ x_G p l e R s m args below meth c D cl C A nL n0 z0 sad ad0 Q (pc + 3) lv' st' T') (h : x_s1 XT (.multianewarray ci k) lv st T K = some q) : x_mo T q.2 ∧ x_G p l e R s m args below meth c D cl C A nL n0 z0 sad ad0 Q pc lv st T := by
  obtain ⟨hx, hb, hml, hown, hts, hKa, hA, hF, hG, hfr, hlo, hce, hsl, har, hXT⟩ := id hc
  simp only [x_s1] at h
  split at h
  · rename_i v a st2
    split at h
    · rename_i o ha
      obtain ⟨c1', fs⟩ := o
      have hx0 := x_g_some h
      clear h
      obtain ⟨hci, h⟩ := hx0
      · simp only [Bool.and_eq_true] at hci
        obtain ⟨hc0, hk2⟩ := hci
        have hk2 := Nat.blt_eq.mp hk2
        obtain rfl := Nat.eq_of_beq_eq_true hc0
        split at h
        · rename_i hf
          have hx0 := x_g_some h
          clear h
          obtain ⟨hv0, h⟩ := hx0
          · have hv1 : k < 1000 ∨ v = 0 ∨ v = 1 := by
              simp only [Bool.or_eq_true, decide_eq_true_eq] at hv0
              rcases hv0 with h0 | h0
              · exact Or.inl (Nat.blt_eq.mp h0)
              · exact Or.inr h0
            refine x_putany hc (hG _ _ hv) hdg ha (List.getElem?_eq_some_iff.mp hf).1 (fun ty0 hk ad => ?_) (fun ad => x_W_if ha hf) rfl rfl (hK _ _ _ h)
            rcases hk with ⟨_, rfl⟩ | ⟨k1, _, rfl⟩ | ⟨k1, _⟩
            · exact ⟨rfl, rfl⟩
            · rcases hv1 with h0 | rfl | rfl
              · omega
              · exact ⟨(by decide : narrow FieldType.boolean (Value.int 0) = Value.int 0), (by decide : fits FieldType.boolean (Value.int 0) = true)⟩
              · exact ⟨(by decide : narrow FieldType.boolean (Value.int 1) = Value.int 1), (by decide : fits FieldType.boolean (Value.int 1) = true)⟩
            · omega
        · cases h
    · cases h
  · rename_i d a st2
    split at h
    · rename_i o ha
      obtain ⟨c1', fs⟩ := o
      have hx0 := x_g_some h
      clear h
      obtain ⟨hci, h⟩ := hx0
      · simp only [Bool.and_eq_true] at hci
        obtain ⟨⟨hc0, hk2⟩, hk3⟩ := hci
        have hk2 := Nat.le_of_ble_eq_true hk2
        have hk3 := Nat.blt_eq.mp hk3
        obtain rfl := Nat.eq_of_beq_eq_true hc0
        refine x_putany hc (hG _ _ hv) hdg ha hk3 (fun ty0 hk ad => ?_) (fun ad => x_W_rf ha hk3) (by simp [x_sr]) (by simp only [x_sr]; rw [x_z_set ha]; simp [x_z1]) (hK _ _ _ h)
        rcases hk with ⟨_, rfl⟩ | ⟨k1, _, rfl⟩ | ⟨k1, ⟨n, rfl⟩ | ⟨n, rfl⟩⟩
        · omega
        · omega
        · exact ⟨rfl, rfl⟩
        · exact ⟨rfl, rfl⟩
    · cases h
  · cases h
theorem x_cA {tys : List (ClassId × FieldType)} {ty : FieldType} {cA cB : ClassId} (h1 : va_RA s cA ty) (h2 : va_RA s cB ty) (hty : ty = .int ∨ ty = .boolean ∨ ty = .long) : cA = cB := by
  rcases hty with rfl | rfl | rfl
  · exact Option.some.inj (h1.symm.trans h2)
  · exact Option.some.inj (h1.symm.trans h2)
  · exact Option.some.inj (h1.symm.trans h2)
set_option maxHeartbeats 1000000 in
theorem x_o_newa {ty : ArrayType} (hc : x_cx p R s m args meth c cc D cl C A nL n0 z0 sad own Ts F Gp XT q) (hdg : decode cc pc = .ok (.newarray ty, 2)) (hK : ∀ lv' st' T', K lv' st' T' = some q → x_mo T' q.2 ∧ x_G p l e R s m args below meth c D cl C A nL n0 z0 sad ad0 Q (pc + 2) lv' st' T') (h : x_s1 XT (.newarray ty) lv st T K = some q) : x_mo T q.2 ∧ x_G p l e R s m args below meth c D cl C A nL n0 z0 sad ad0 Q pc lv st T := by
  obtain ⟨hx, hb, hml, hown, hts, hKa, hA, hF, hG, hfr, hlo, hce, hsl, har, hXT⟩ := id hc
  simp only [x_s1] at h
  split at h
  · rename_i n st2
    have hx0 := x_g_some h
    clear h
    obtain ⟨hcond, h⟩ := hx0
    · obtain ⟨k1, k2, k3, k4, k5, k6⟩ := of_decide_eq_true hcond
      have g := hK _ _ _ h
      have hmo := g.1
      unfold x_mo at hmo
      have hl1 : (x_new T (.inl (newarray.typeOf ty, n.toNatClampNeg))).1.length = T.1.length + 1 := by simp [x_new]
      have hz1 : x_z (x_new T (.inl (newarray.typeOf ty, n.toNatClampNeg))).1 = x_z T.1 + n.toNatClampNeg := by simp [x_new, x_z_app, x_z, x_z1]
      rw [hl1, hz1] at hmo
      have hty : newarray.typeOf ty = .int ∨ newarray.typeOf ty = .boolean ∨ newarray.typeOf ty = .long := by rcases k3 with rfl | rfl | rfl <;> simp [newarray.typeOf]
      refine ⟨⟨by omega, by omega⟩, fun ad H locs cells slots ls e1 hP hD hS hl c1 c2 => ?_⟩
      have har1 : Cond.arrayClass (newarray.typeOf ty) ∈ Ts := by
        rcases har (newarray.typeOf ty) with h1 | ⟨h1, h2, h3⟩
        · exact h1
        · rcases hty with h | h | h
          · exact absurd h h1
          · exact absurd h h2
          · exact absurd h h3
      refine va_newa hx hb (hts _ har1) rfl hKa hP hD hS hA (a0 := x_vp (newarray.typeOf ty) n.toNatClampNeg (fun _ => 0) (fun _ => 0)) (fun cA => ?_) k1 rfl ?_ (by omega) (by omega) hdg (fun q' cA H1 hK1 hP1 hD1 hS1 => ?_)
      · rcases k3 with rfl | rfl | rfl <;> rfl
      · rcases k3 with rfl | rfl | rfl <;> simp [newarray.typeOf, componentBytes] <;> omega
      · have hcA : cA = C (newarray.typeOf ty) := by
          have r1 := (hK1.2 3 (cA, newarray.typeOf ty) rfl).2
          rcases k3 with rfl | rfl | rfl
          · exact x_cA (tys := []) r1 (hKa.2 0 _ rfl).2 (Or.inl rfl)
          · exact x_cA (tys := []) r1 (hKa.2 1 _ rfl).2 (Or.inr (Or.inl rfl))
          · exact x_cA (tys := []) r1 (hKa.2 2 _ rfl).2 (Or.inr (Or.inr rfl))
        subst hcA
        have hWn := x_W_new (ad := ad) (C := C) (T := T) (sh := .inl (newarray.typeOf ty, n.toNatClampNeg)) (q := q') k6
        simp only [x_ent] at hWn
        rw [← hWn] at hP1 hD1
        have hex : ∀ i, i < T.1.length → va_up ad T.1.length q' i = ad i := fun i hi => x_up_n _ _ (by omega)
        have hg := g.2 (va_up ad T.1.length q') H1 locs (cells + 1) (slots + n.toNatClampNeg) ls (fun i hi => by rw [hex i (by omega)]; exact e1 i hi) hP1 hD1 hS1 (x_ls_ex hex k4 hl) (by rw [hl1]; omega) (by rw [hz1]; omega)
        simp only [List.map_cons, x_val, x_up_s] at hg
        rw [x_st_ex hex k5] at hg
        exact hg
  · cases h
end X6
end
section
section X7
variable {p : Program} {l : Launch} {e : Env} {R : Room} {s : State} {m : MethodId} {args : Array Value} {below : List Frame} {meth : Method} {c : Code} {Q : State → Prop} {cc : ByteArray} {D : va_G} {cl : List vw_C} {C : FieldType → ClassId} {A : Nat → Prop} {nL n0 z0 : Nat} {sad ad0 : Nat → Nat} {own : String} {Ts : List Cond} {F Gp : Nat → Option Instr} {pc len : Nat} {lv lv' : x_L} {st st' : List Value} {T T' : x_T} {q : Option Value × x_T} {K : x_L → List Value → x_T → x_Z} {raw res : Instr} {XT : x_Xt}
set_option maxHeartbeats 4000000 in
theorem x_s1_ok (hc : x_cx p R s m args meth c cc D cl C A nL n0 z0 sad own Ts F Gp XT q) (hdg : decode cc pc = .ok (raw, len)) (hrs : x_rs F Gp raw len res = true) (hK : ∀ lv' st' T', K lv' st' T' = some q → x_mo T' q.2 ∧ x_G p l e R s m args below meth c D cl C A nL n0 z0 sad ad0 Q (pc + len) lv' st' T') (h : x_s1 XT res lv st T K = some q) : x_mo T q.2 ∧ x_G p l e R s m args below meth c D cl C A nL n0 z0 sad ad0 Q pc lv st T := by
  cases raw with
  | iconst v => simp only [x_rs, Bool.and_eq_true, beq_iff_eq, decide_eq_true_eq] at hrs; obtain ⟨rfl, rfl⟩ := hrs; exact x_o_iconst hc hdg hK h
  | bipush v => simp only [x_rs, Bool.and_eq_true, beq_iff_eq, decide_eq_true_eq] at hrs; obtain ⟨⟨rfl, rfl⟩, hv⟩ := hrs; exact x_o_bipush hv hc hdg hK h
  | sipush v => simp only [x_rs, Bool.and_eq_true, beq_iff_eq, decide_eq_true_eq] at hrs; obtain ⟨⟨rfl, rfl⟩, hv⟩ := hrs; exact x_o_sipush hv hc hdg hK h
  | lconst v => simp only [x_rs, Bool.and_eq_true, beq_iff_eq, decide_eq_true_eq] at hrs; obtain ⟨rfl, rfl⟩ := hrs; exact x_o_lconst hc hdg hK h
  | ldc ix =>
    simp only [x_rs, Bool.and_eq_true, beq_iff_eq, decide_eq_true_eq] at hrs
    obtain ⟨⟨rfl, hv⟩, hm⟩ := hrs
    split at hm
    · exact x_o_ldc hv hc hdg hK h
    · exact x_o_ldcS hv hc hdg hK h
    · cases hm
  | ldc_w ix =>
    simp only [x_rs, Bool.and_eq_true, beq_iff_eq, decide_eq_true_eq] at hrs
    obtain ⟨⟨rfl, hv⟩, hm⟩ := hrs
    split at hm
    · exact x_o_ldcw hv hc hdg hK h
    · cases hm
  | ldc2_w ix =>
    simp only [x_rs, Bool.and_eq_true, beq_iff_eq, decide_eq_true_eq] at hrs
    obtain ⟨⟨rfl, hv⟩, hm⟩ := hrs
    split at hm
    · exact x_o_ldc2 hv hc hdg hK h
    · cases hm
  | iload k => simp only [x_rs, Bool.and_eq_true, beq_iff_eq, decide_eq_true_eq] at hrs; obtain ⟨rfl, rfl⟩ := hrs; exact x_o_iload hc hdg hK h
  | iload_n k => simp only [x_rs, Bool.and_eq_true, beq_iff_eq, decide_eq_true_eq] at hrs; obtain ⟨rfl, rfl⟩ := hrs; exact x_o_iload_n hc hdg hK h
  | lload k => simp only [x_rs, Bool.and_eq_true, beq_iff_eq, decide_eq_true_eq] at hrs; obtain ⟨rfl, rfl⟩ := hrs; exact x_o_lload hc hdg hK h
  | lload_n k => simp only [x_rs, Bool.and_eq_true, beq_iff_eq, decide_eq_true_eq] at hrs; obtain ⟨rfl, rfl⟩ := hrs; exact x_o_lload_n hc hdg hK h
  | aload k => simp only [x_rs, Bool.and_eq_true, beq_iff_eq, decide_eq_true_eq] at hrs; obtain ⟨rfl, rfl⟩ := hrs; exact x_o_aload hc hdg hK h
  | aload_n k => simp only [x_rs, Bool.and_eq_true, beq_iff_eq, decide_eq_true_eq] at hrs; obtain ⟨rfl, rfl⟩ := hrs; exact x_o_aload_n hc hdg hK h
  | istore k => simp only [x_rs, Bool.and_eq_true, beq_iff_eq, decide_eq_true_eq] at hrs; obtain ⟨rfl, rfl⟩ := hrs; exact x_o_istore hc hdg hK h
  | istore_n k => simp only [x_rs, Bool.and_eq_true, beq_iff_eq, decide_eq_true_eq] at hrs; obtain ⟨rfl, rfl⟩ := hrs; exact x_o_istore_n hc hdg hK h
  | lstore k => simp only [x_rs, Bool.and_eq_true, beq_iff_eq, decide_eq_true_eq] at hrs; obtain ⟨rfl, rfl⟩ := hrs; exact x_o_lstore hc hdg hK h
  | lstore_n k => simp only [x_rs, Bool.and_eq_true, beq_iff_eq, decide_eq_true_eq] at hrs; obtain ⟨rfl, rfl⟩ := hrs; exact x_o_lstore_n hc hdg hK h
  | astore k => simp only [x_rs, Bool.and_eq_true, beq_iff_eq, decide_eq_true_eq] at hrs; obtain ⟨rfl, rfl⟩ := hrs; exact x_o_astore hc hdg hK h
  | astore_n k => simp only [x_rs, Bool.and_eq_true, beq_iff_eq, decide_eq_true_eq] at hrs; obtain ⟨rfl, rfl⟩ := hrs; exact x_o_astore_n hc hdg hK h
  | iinc k n => simp only [x_rs, Bool.and_eq_true, beq_iff_eq, decide_eq_true_eq] at hrs; obtain ⟨rfl, rfl⟩ := hrs; exact x_o_iinc hc hdg hK h
  | newarray ty => simp only [x_rs, Bool.and_eq_true, beq_iff_eq, decide_eq_true_eq] at hrs; obtain ⟨rfl, rfl⟩ := hrs; exact x_o_newa hc hdg hK h
  | getfield ix =>
    simp only [x_rs, Bool.and_eq_true, beq_iff_eq, decide_eq_true_eq] at hrs
    obtain ⟨⟨rfl, hv⟩, hm⟩ := hrs
    split at hm
    · exact x_o_getf hv hc hdg hK h
    · cases hm
  | putfield ix =>
    simp only [x_rs, Bool.and_eq_true, beq_iff_eq, decide_eq_true_eq] at hrs
    obtain ⟨⟨rfl, hv⟩, hm⟩ := hrs
    split at hm
    · exact x_o_putf hv hc hdg hK h
    · cases hm
  | invokespecial ix =>
    simp only [x_rs, Bool.and_eq_true, beq_iff_eq, decide_eq_true_eq] at hrs
    obtain ⟨⟨rfl, hv⟩, hm⟩ := hrs
    split at hm
    · exact x_o_pop hv hc hdg hK h
    · cases hm
  | invokestatic ix =>
    simp only [x_rs, Bool.and_eq_true, beq_iff_eq, decide_eq_true_eq] at hrs
    obtain ⟨⟨rfl, hv⟩, hm⟩ := hrs
    split at hm
    · rename_i b
      match b, hv, h with
      | 0, hv, h => exact x_o_mmax hv hc hdg hK h
      | 1, hv, h => exact x_o_mmin hv hc hdg hK h
      | 2, hv, h => exact x_o_copy hv hc hdg hK h
      | b + 3, hv, h => simp [x_s1] at h
    · cases hm
  | iadd => simp only [x_rs, Bool.and_eq_true, beq_iff_eq, decide_eq_true_eq, and_true] at hrs; obtain ⟨rfl, rfl⟩ := hrs; exact x_o_iadd hc hdg hK h
  | isub => simp only [x_rs, Bool.and_eq_true, beq_iff_eq, decide_eq_true_eq, and_true] at hrs; obtain ⟨rfl, rfl⟩ := hrs; exact x_o_isub hc hdg hK h
  | imul => simp only [x_rs, Bool.and_eq_true, beq_iff_eq, decide_eq_true_eq, and_true] at hrs; obtain ⟨rfl, rfl⟩ := hrs; exact x_o_imul hc hdg hK h
  | idiv => simp only [x_rs, Bool.and_eq_true, beq_iff_eq, decide_eq_true_eq, and_true] at hrs; obtain ⟨rfl, rfl⟩ := hrs; exact x_o_idiv hc hdg hK h
  | irem => simp only [x_rs, Bool.and_eq_true, beq_iff_eq, decide_eq_true_eq, and_true] at hrs; obtain ⟨rfl, rfl⟩ := hrs; exact x_o_irem hc hdg hK h
  | iand => simp only [x_rs, Bool.and_eq_true, beq_iff_eq, decide_eq_true_eq, and_true] at hrs; obtain ⟨rfl, rfl⟩ := hrs; exact x_o_iand hc hdg hK h
  | ior => simp only [x_rs, Bool.and_eq_true, beq_iff_eq, decide_eq_true_eq, and_true] at hrs; obtain ⟨rfl, rfl⟩ := hrs; exact x_o_ior hc hdg hK h
  | ishl => simp only [x_rs, Bool.and_eq_true, beq_iff_eq, decide_eq_true_eq, and_true] at hrs; obtain ⟨rfl, rfl⟩ := hrs; exact x_o_ishl hc hdg hK h
  | ishr => simp only [x_rs, Bool.and_eq_true, beq_iff_eq, decide_eq_true_eq, and_true] at hrs; obtain ⟨rfl, rfl⟩ := hrs; exact x_o_ishr hc hdg hK h
  | iushr => simp only [x_rs, Bool.and_eq_true, beq_iff_eq, decide_eq_true_eq, and_true] at hrs; obtain ⟨rfl, rfl⟩ := hrs; exact x_o_iushr hc hdg hK h
  | ladd => simp only [x_rs, Bool.and_eq_true, beq_iff_eq, decide_eq_true_eq, and_true] at hrs; obtain ⟨rfl, rfl⟩ := hrs; exact x_o_ladd hc hdg hK h
  | lmul => simp only [x_rs, Bool.and_eq_true, beq_iff_eq, decide_eq_true_eq, and_true] at hrs; obtain ⟨rfl, rfl⟩ := hrs; exact x_o_lmul hc hdg hK h
  | ldiv => simp only [x_rs, Bool.and_eq_true, beq_iff_eq, decide_eq_true_eq, and_true] at hrs; obtain ⟨rfl, rfl⟩ := hrs; exact x_o_ldiv hc hdg hK h
  | land => simp only [x_rs, Bool.and_eq_true, beq_iff_eq, decide_eq_true_eq, and_true] at hrs; obtain ⟨rfl, rfl⟩ := hrs; exact x_o_land hc hdg hK h
  | lor => simp only [x_rs, Bool.and_eq_true, beq_iff_eq, decide_eq_true_eq, and_true] at hrs; obtain ⟨rfl, rfl⟩ := hrs; exact x_o_lor hc hdg hK h
  | lshl => simp only [x_rs, Bool.and_eq_true, beq_iff_eq, decide_eq_true_eq, and_true] at hrs; obtain ⟨rfl, rfl⟩ := hrs; exact x_o_lshl hc hdg hK h
  | lushr => simp only [x_rs, Bool.and_eq_true, beq_iff_eq, decide_eq_true_eq, and_true] at hrs; obtain ⟨rfl, rfl⟩ := hrs; exact x_o_lushr hc hdg hK h
  | lcmp => simp only [x_rs, Bool.and_eq_true, beq_iff_eq, decide_eq_true_eq, and_true] at hrs; obtain ⟨rfl, rfl⟩ := hrs; exact x_o_lcmp hc hdg hK h
  | i2l => simp only [x_rs, Bool.and_eq_true, beq_iff_eq, decide_eq_true_eq, and_true] at hrs; obtain ⟨rfl, rfl⟩ := hrs; exact x_o_i2l hc hdg hK h
  | l2i => simp only [x_rs, Bool.and_eq_true, beq_iff_eq, decide_eq_true_eq, and_true] at hrs; obtain ⟨rfl, rfl⟩ := hrs; exact x_o_l2i hc hdg hK h
  | i2c => simp only [x_rs, Bool.and_eq_true, beq_iff_eq, decide_eq_true_eq, and_true] at hrs; obtain ⟨rfl, rfl⟩ := hrs; exact x_o_i2c hc hdg hK h
  | dup => simp only [x_rs, Bool.and_eq_true, beq_iff_eq, decide_eq_true_eq, and_true] at hrs; obtain ⟨rfl, rfl⟩ := hrs; exact x_o_dup hc hdg hK h
  | dup2 => simp only [x_rs, Bool.and_eq_true, beq_iff_eq, decide_eq_true_eq, and_true] at hrs; obtain ⟨rfl, rfl⟩ := hrs; exact x_o_dup2 hc hdg hK h
  | iaload => simp only [x_rs, Bool.and_eq_true, beq_iff_eq, decide_eq_true_eq, and_true] at hrs; obtain ⟨rfl, rfl⟩ := hrs; exact x_o_iaload hc hdg hK h
  | baload => simp only [x_rs, Bool.and_eq_true, beq_iff_eq, decide_eq_true_eq, and_true] at hrs; obtain ⟨rfl, rfl⟩ := hrs; exact x_o_baload hc hdg hK h
  | laload => simp only [x_rs, Bool.and_eq_true, beq_iff_eq, decide_eq_true_eq, and_true] at hrs; obtain ⟨rfl, rfl⟩ := hrs; exact x_o_laload hc hdg hK h
  | iastore => simp only [x_rs, Bool.and_eq_true, beq_iff_eq, decide_eq_true_eq, and_true] at hrs; obtain ⟨rfl, rfl⟩ := hrs; exact x_o_iastore hc hdg hK h
  | bastore => simp only [x_rs, Bool.and_eq_true, beq_iff_eq, decide_eq_true_eq, and_true] at hrs; obtain ⟨rfl, rfl⟩ := hrs; exact x_o_bastore hc hdg hK h
  | lastore => simp only [x_rs, Bool.and_eq_true, beq_iff_eq, decide_eq_true_eq, and_true] at hrs; obtain ⟨rfl, rfl⟩ := hrs; exact x_o_lastore hc hdg hK h
  | arraylength => simp only [x_rs, Bool.and_eq_true, beq_iff_eq, decide_eq_true_eq, and_true] at hrs; obtain ⟨rfl, rfl⟩ := hrs; exact x_o_alen hc hdg hK h
  | _ => simp [x_rs] at hrs
end X7
end
section
/-! ===== jumps, returns, calls ===== -/
abbrev x_tys (C : FieldType → ClassId) : List (ClassId × FieldType) := [(C .int, .int), (C .boolean, .boolean), (C .long, .long)]
/-- a method: its name, code, how many locals, what it returns -/
abbrev x_M : Type := Nat → MethodName × ByteArray × Nat × Option FieldType
/-- the texts: (class, number of its constant, text, number), how many, their lengths and bytes; the links between nest mates; static fields that are only read -/
abbrev x_X : Type := List (String × Nat × String × Nat) × Nat × List Nat × List (List Int32) × List (String × Nat × MethodName × String) × List (String × String × String × Value)
/-- a static field: an int, or a reference that may be null -/
def x_zs (r : String × String × String × Value) (A : Nat → Prop) (U : State) (H : Heap) : Prop := (r.2.2.2 = .null ∧ va_Zq r.1 r.2.1 r.2.2.1 A U H) ∨ va_Z r.1 r.2.1 r.2.2.1 r.2.2.2 A U H
theorem x_zs.moved {r : String × String × String × Value} {A : Nat → Prop} {u U : State} {H : Heap} (hvm : u.vm.Alike U.vm) (h : x_zs r A u H) : x_zs r A U H := h.elim (fun h => Or.inl ⟨h.1, h.2.elim (fun h => Or.inl (va_Z.moved hvm h)) (fun ⟨t, h⟩ => Or.inr ⟨t, va_Z.moved hvm h⟩)⟩) (fun h => Or.inr (va_Z.moved hvm h))
theorem x_zs.kept {r : String × String × String × Value} {A : Nat → Prop} {U : State} {H H1 : Heap} (h : x_zs r A U H) (hq : ∀ a : Nat, a < H.size → ¬ A a → H1[a]? = H[a]?) : x_zs r A U H1 := h.elim (fun h => Or.inl ⟨h.1, h.2.elim (fun h => Or.inl (va_Z.kept h hq)) (fun ⟨t, h⟩ => Or.inr ⟨t, va_Z.kept h hq⟩)⟩) (fun h => Or.inr (va_Z.kept h hq))
theorem x_zs.narrow {r : String × String × String × Value} {A B : Nat → Prop} {U : State} {H : Heap} (h : x_zs r A U H) (hAB : ∀ q, B q → A q) : x_zs r B U H := h.elim (fun h => Or.inl ⟨h.1, h.2.elim (fun h => Or.inl (va_Z.narrow h hAB)) (fun ⟨t, h⟩ => Or.inr ⟨t, va_Z.narrow h hAB⟩)⟩) (fun h => Or.inr (va_Z.narrow h hAB))
/-- what is known of a state beside its cells: texts and links -/
def x_xs (X : x_X) (sad adV : Nat → Nat) (A : Nat → Prop) (U : State) : Prop := (∀ r ∈ X.1, vk_R r.1 r.2.1 r.2.2.1 (sad r.2.2.2) U) ∧ vk_S X.2.1 X.2.2.1 X.2.2.2.1 sad adV A U U.heap ∧ (∀ r ∈ X.2.2.2.2.1, va_Nw (.methodLinkNest r.1 r.2.1 r.2.2.1 r.2.2.2) U) ∧ ∀ r ∈ X.2.2.2.2.2, x_zs r A U U.heap
def x_ws (Ts : List Cond) (M : x_M) (μ : Nat) : List Cond := .code (M μ).1 (M μ).2.1 (M μ).2.2.1 (M μ).2.2.2 :: Ts
def x_rm (d mc ms : Nat) : Room := { frames := d, cells := mc, slots := ms, locals := 100 * d }
def x_B (D : va_G) (cl : List vw_C) (C : FieldType → ClassId) (A : Nat → Prop) (T : x_T) (ad : Nat → Nat) (t : State) : Prop := va_P D cl (x_W ad C T) t.heap ∧ va_K D cl (x_tys C) t ∧ va_D A (x_W ad C T)
def x_post (D : va_G) (cl : List vw_C) (C : FieldType → ClassId) (A : Nat → Prop) (ad : Nat → Nat) (n : Nat) (q : Option Value × x_T) : Array Value → State → Outcome → State → Prop := match q.1 with
  | none => va_Qv (fun ad' : Nat → Nat => ∀ i, i < n → ad' i = ad i) (x_B D cl C A q.2) A
  | some (.int r) => va_Qi (fun r' (ad' : Nat → Nat) => r' = r ∧ ∀ i, i < n → ad' i = ad i) (x_B D cl C A q.2) A
  | some (.long r) => va_Ql (fun r' (ad' : Nat → Nat) => r' = r ∧ ∀ i, i < n → ad' i = ad i) (x_B D cl C A q.2) A
  | _ => fun _ _ _ _ => False
def x_pre (D : va_G) (cl : List vw_C) (C : FieldType → ClassId) (X : x_X) (ad sad adV : Nat → Nat) (T : x_T) (sz : Nat) (U : State) : Prop := U.heap.size = sz ∧ va_P D cl (x_W ad C T) U.heap ∧ va_K D cl (x_tys C) U ∧ va_D (fun _ => True) (x_W ad C T) ∧ x_xs X sad adV (va_A (x_W ad C T) sz) U
/-- the method's contract: it returns q.1 and leaves the cells q.2 -/
def x_C (l : Launch) (cl : List vw_C) (X : x_X) (Ts : List Cond) (M : x_M) (d μ : Nat) (vs : List Value) (T : x_T) (q : Option Value × x_T) : Prop := x_mo T q.2 ∧
  ∀ (ad sad adV : Nat → Nat) (D : va_G) (C : FieldType → ClassId) (sz : Nat), Met l (M μ).1 (x_ws Ts M μ) (x_rm d (q.2.1.length - T.1.length) (x_z q.2.1 - x_z T.1)) (va_Pc (vs.map (x_val ad sad)) (x_pre D cl C X ad sad adV T sz)) (x_post D cl C (va_A (x_W ad C T) sz) ad T.1.length q) (q.2.1.length - T.1.length) (x_z q.2.1 - x_z T.1) (va_A (x_W ad C T) sz)
/-- the classes' fields by their types -/
def x_df (ty0 : Nat → FieldType) (fs : List (Option Nat)) (N : Nat) : Prop := fs.length = N ∧ ∀ j, j < N → (fs[j]? = some none ∧ (ty0 j = .int ∨ ty0 j = .boolean)) ∨ (fs[j]? = some (some 0) ∧ ((∃ n, ty0 j = FieldType.object n) ∨ ∃ t, ty0 j = FieldType.array t))
/-- what is known of a method that is called -/
def x_mk (Ts : List Cond) (E : x_E) (M : x_M) (μ : Nat) : Prop := Cond.code (M μ).1 (M μ).2.1 (M μ).2.2.1 (M μ).2.2.2 ∈ Ts ∧ Cond.initialized (M μ).1.cls ∈ Ts ∧ ((M μ).1.cls ≠ "java/lang/invoke/MethodHandle" ∧ (M μ).1.cls ≠ "java/lang/invoke/VarHandle" ∧ (parseMethodDescriptor (M μ).1.desc).map (fun d => d.parameters.length) = some (E.2.1 μ).1) ∧ (M μ).2.2.1 ≤ 80
/-- what the constants of a class give: makings and calls -/
def x_l2 (Ts : List Cond) (E : x_E) (M : x_M) (X : x_X) (own : String) (cl : List vw_C) (ix : Nat) (i : Instr) : Prop := match i with
  | .new ci => ∃ (C : String) (T : u_T) (N : Nat) (ty0 : Nat → FieldType), cl[ci]? = some (C, T, N) ∧ (∀ w ∈ u_ws C T N, w ∈ Ts) ∧ (∀ k, k < N → parseFieldDescriptor (T k).2.2.1 = some (ty0 k)) ∧ Cond.classLink own ix C ∈ Ts ∧ Cond.instantiable C N ∈ Ts ∧ Cond.initialized C ∈ Ts ∧ x_df ty0 (E.1 ci) N
  | .invokevirtual μ => x_mk Ts E M μ ∧ (Cond.methodLink own ix (M μ).1 ∈ Ts ∨ ∃ host, (own, ix, (M μ).1, host) ∈ X.2.2.2.2.1) ∧ Cond.instanceMethod (M μ).1 ∈ Ts ∧ Cond.selects (M μ).1.cls (M μ).1 (M μ).1 ∈ Ts ∧ ∃ (T : u_T) (N : Nat), cl[(E.2.1 μ).2]? = some ((M μ).1.cls, T, N)
  | .invokestatic μ => x_mk Ts E M μ ∧ (Cond.methodLink own ix (M μ).1 ∈ Ts ∨ ∃ host, (own, ix, (M μ).1, host) ∈ X.2.2.2.2.1) ∧ Cond.static (M μ).1 ∈ Ts
  | .invokespecial μ => x_mk Ts E M μ ∧ (Cond.methodLink own ix (M μ).1 ∈ Ts ∨ ∃ host, (own, ix, (M μ).1, host) ∈ X.2.2.2.2.1) ∧ Cond.instanceMethod (M μ).1 ∈ Ts ∧ (M μ).1.name = "<init>" ∧ (M μ).2.2.2 = none
  | .checkcast μ => x_mk Ts E M μ ∧ Cond.methodLink own ix (M μ).1 ∈ Ts ∧ Cond.instanceMethod (M μ).1 ∈ Ts ∧ Cond.selects (M μ).1.cls (M μ).1 (M μ).1 ∈ Ts ∧ (M μ).1.cls = "java/lang/String" ∧ 2 ≤ X.2.1
  | _ => True
/-- the target of a jump: ahead as it is, back as its negSucc -/
def x_tg : Int → Nat
  | .ofNat j => j
  | .negSucc j => j
/-- how a row of a method's table is meant: (place, raw, length, resolved) -/
def x_rv (F Gp : Nat → Option Instr) (ret : Option FieldType) (pcs : Nat → Nat) (pc : Nat) (raw : Instr) (len : Nat) (res : Instr) : Bool := match res with
  | .goto t => (match raw with | .goto off => len == 3 && decide ((pc : Int) + off = ((pcs t.toNat : Nat) : Int)) | _ => false)
  | .jsr_w t => (match raw with | .goto off => len == 3 && decide ((pc : Int) + off = ((pcs t.toNat : Nat) : Int)) | _ => false)
  | .ifCond c t => (match raw with | .ifCond c' off => len == 3 && decide (c = c') && decide ((pc : Int) + off = ((pcs (x_tg t) : Nat) : Int)) | _ => false)
  | .if_icmp c t => (match raw with | .if_icmp c' off => len == 3 && decide (c = c') && decide ((pc : Int) + off = ((pcs (x_tg t) : Nat) : Int)) | _ => false)
  | .tableswitch d lo _ offs => (match raw with | .tableswitch d' lo' hi' offs' => decide (lo = lo') && decide ((pc : Int) + d' = ((pcs d.toNat : Nat) : Int)) && decide (hi' + 1 = lo + (offs.toList.length : Int)) && decide (offs'.toList.map (fun o => (pc : Int) + o) = offs.toList.map (fun t => ((pcs t.toNat : Nat) : Int))) | _ => false)
  | .lookupswitch d ps => (match raw with | .lookupswitch d' ps' => decide ((pc : Int) + d' = ((pcs d.toNat : Nat) : Int)) && decide (ps'.toList.map (fun q => (q.1, (pc : Int) + q.2)) = ps.toList.map (fun q => (q.1, ((pcs q.2.toNat : Nat) : Int)))) && (ps'.toList.zip (ps'.toList.drop 1)).all (fun (a, next) => a.1 < next.1) | _ => false)
  | .return_ => decide (raw = .return_) && len == 1 && decide (ret = none)
  | .ireturn => decide (raw = .ireturn) && len == 1 && decide (ret = some .int)
  | .areturn => decide (raw = .ireturn) && len == 1 && decide (ret = some .boolean)
  | .lreturn => decide (raw = .lreturn) && len == 1 && decide (ret = some .long)
  | .new ci => (match raw with | .new ix => len == 3 && decide (F ix = some (.new ci)) | _ => false)
  | .invokevirtual μ => (match raw with | .invokevirtual ix => len == 3 && decide (F ix = some (.invokevirtual μ)) | _ => false)
  | .checkcast μ => (match raw with | .invokevirtual ix => len == 3 && decide (F ix = some (.checkcast μ)) | _ => false)
  | .invokespecial μ => (match raw with | .invokespecial ix => len == 3 && decide (F ix = some (.invokespecial μ)) | _ => false)
  | .invokestatic μ => (match raw with | .invokestatic ix => len == 3 && decide (F ix = some (.invokestatic μ)) | _ => false)
  | _ => x_rs F Gp raw len res
abbrev x_R : Type := List (Nat × Instr × Nat × Instr)
def x_pc (tab : x_R) (j : Nat) : Nat := (tab.map (fun r => r.1)).getD j 0
def x_cd (tab : x_R) : List Instr := tab.map (fun r => r.2.2.2)
/-- a method's table is right -/
def x_tok (cc : ByteArray) (F Gp : Nat → Option Instr) (ret : Option FieldType) (tab : x_R) : Prop := ∀ (j pc : Nat) (raw : Instr) (len : Nat) (res : Instr), tab[j]? = some (pc, raw, len, res) → decode cc pc = .ok (raw, len) ∧ x_rv F Gp ret (x_pc tab) pc raw len res = true ∧ (j + 1 < tab.length → x_pc tab (j + 1) = pc + len)
section X8
variable {p : Program} {l : Launch} {e : Env} {R : Room} {s : State} {m : MethodId} {args : Array Value} {below : List Frame} {meth : Method} {c : Code} {Q : State → Prop} {cc : ByteArray} {D : va_G} {cl : List vw_C} {C : FieldType → ClassId} {A : Nat → Prop} {nL n0 z0 : Nat} {sad ad0 : Nat → Nat} {own : String} {Ts : List Cond} {F Gp : Nat → Option Instr} {pc len : Nat} {lv lv' : x_L} {st st' : List Value} {T T' : x_T} {q : Option Value × x_T} {K : x_L → List Value → x_T → x_Z} {raw res : Instr} {XT : x_Xt} {E : x_E} {O : Nat → List Value → x_T → x_Z} {B : Nat → x_L → x_T → x_Z} {tab : x_R} {X : x_X} {M : x_M} {adV : Nat → Nat} {d j : Nat} {ret : Option FieldType}
theorem x_cd_at {i : Instr} {rest : List Instr} (h : (x_cd tab).drop j = i :: rest) : ∃ (pc : Nat) (raw : Instr) (len : Nat), tab[j]? = some (pc, raw, len, i) ∧ rest = (x_cd tab).drop (j + 1) ∧ x_pc tab j = pc := by
  have hlt : j < (x_cd tab).length := by
    rcases Nat.lt_or_ge j (x_cd tab).length with h1 | h1
    · exact h1
    · rw [List.drop_eq_nil_of_le h1] at h; cases h
  have h2 := List.drop_eq_getElem_cons hlt
  rw [h2] at h
  injection h with h3 h4
  have hlt2 : j < tab.length := by simpa [x_cd] using hlt
  refine ⟨tab[j].1, tab[j].2.1, tab[j].2.2.1, ?_, h4.symm, ?_⟩
  · rw [List.getElem?_eq_getElem hlt2, ← h3]
    simp [x_cd]
  · simp [x_pc, List.getD, hlt2]
theorem x_drop_lt {i : Instr} {rest : List Instr} (h : (x_cd tab).drop j = i :: rest) : j < tab.length := by
  rcases Nat.lt_or_ge j (x_cd tab).length with h1 | h1
  · simpa [x_cd] using h1
  · rw [List.drop_eq_nil_of_le h1] at h; cases h
theorem x_jmp {t : Nat} (g : x_mo T q.2 ∧ x_G p l e R s m args below meth c D cl C A nL n0 z0 sad ad0 Q t lv st' T) (h : ∀ (ad : Nat → Nat) (H : Heap) (locs : List Loc) (cells slots : Nat) (ls : Array Slot), W p l e R s m args below meth c H locs cells slots Q (F0 m t ls (st'.map (x_val ad sad))) → W p l e R s m args below meth c H locs cells slots Q (F0 m pc ls (st.map (x_val ad sad)))) : x_mo T q.2 ∧ x_G p l e R s m args below meth c D cl C A nL n0 z0 sad ad0 Q pc lv st T :=
  ⟨g.1, fun ad H locs cells slots ls e1 hP hD hS hl c1 c2 => h ad H locs cells slots ls (g.2 ad H locs cells slots ls e1 hP hD hS hl c1 c2)⟩
theorem x_o_ifc {cd : ClassFile.Cond} {off : Int} {t : Nat} {x : Int32} (hc : x_cx p R s m args meth c cc D cl C A nL n0 z0 sad own Ts F Gp XT q) (hdg : decode cc pc = .ok (.ifCond cd off, 3)) (ht : (pc : Int) + off = (t : Int)) (gt : x_cmp cd x 0 = true → x_mo T q.2 ∧ x_G p l e R s m args below meth c D cl C A nL n0 z0 sad ad0 Q t lv st T) (gf : x_cmp cd x 0 = false → x_mo T q.2 ∧ x_G p l e R s m args below meth c D cl C A nL n0 z0 sad ad0 Q (pc + 3) lv st T) : x_mo T q.2 ∧ x_G p l e R s m args below meth c D cl C A nL n0 z0 sad ad0 Q pc lv (.int x :: st) T := by
  obtain ⟨hx, hb, hml, hown, hts, hKa, hA, hF, hG, hfr, hlo, hce, hsl, har, hXT⟩ := id hc
  have hmo : x_mo T q.2 := by
    cases hcm : x_cmp cd x 0 with
    | true => exact (gt hcm).1
    | false => exact (gf hcm).1
  refine ⟨hmo, fun ad H locs cells slots ls e1 hP hD hS hl c1 c2 => ?_⟩
  cases cd with
  | eq =>
    refine lv_if_eq hx hb hdg ht (fun hh => ?_) (fun hh => ?_)
    · exact (gt (by simp [x_cmp, hh])).2 ad H locs cells slots ls e1 hP hD hS hl c1 c2
    · exact (gf (by simpa [x_cmp] using hh)).2 ad H locs cells slots ls e1 hP hD hS hl c1 c2
  | ne =>
    refine lv_if_ne hx hb hdg ht (fun hh => ?_) (fun hh => ?_)
    · exact (gt (by simp [x_cmp, hh])).2 ad H locs cells slots ls e1 hP hD hS hl c1 c2
    · exact (gf (by simpa [x_cmp] using hh)).2 ad H locs cells slots ls e1 hP hD hS hl c1 c2
  | lt =>
    refine lv_if_lt hx hb hdg ht (fun hh => ?_) (fun hh => ?_)
    · exact (gt (by simp [x_cmp, hh])).2 ad H locs cells slots ls e1 hP hD hS hl c1 c2
    · exact (gf (by simpa [x_cmp] using hh)).2 ad H locs cells slots ls e1 hP hD hS hl c1 c2
  | ge =>
    refine lv_if_ge hx hb hdg ht (fun hh => ?_) (fun hh => ?_)
    · exact (gt (by simp [x_cmp, hh])).2 ad H locs cells slots ls e1 hP hD hS hl c1 c2
    · exact (gf (by simpa [x_cmp] using hh)).2 ad H locs cells slots ls e1 hP hD hS hl c1 c2
  | gt =>
    refine lv_if_gt hx hb hdg ht (fun hh => ?_) (fun hh => ?_)
    · exact (gt (by simp [x_cmp, hh])).2 ad H locs cells slots ls e1 hP hD hS hl c1 c2
    · exact (gf (by simpa [x_cmp] using hh)).2 ad H locs cells slots ls e1 hP hD hS hl c1 c2
  | le =>
    refine lv_if_le hx hb hdg ht (fun hh => ?_) (fun hh => ?_)
    · exact (gt (by simp [x_cmp, hh])).2 ad H locs cells slots ls e1 hP hD hS hl c1 c2
    · exact (gf (by simpa [x_cmp] using hh)).2 ad H locs cells slots ls e1 hP hD hS hl c1 c2
theorem x_o_icm {cd : ClassFile.Cond} {off : Int} {t : Nat} {x y : Int32} (hc : x_cx p R s m args meth c cc D cl C A nL n0 z0 sad own Ts F Gp XT q) (hdg : decode cc pc = .ok (.if_icmp cd off, 3)) (ht : (pc : Int) + off = (t : Int)) (gt : x_cmp cd x y = true → x_mo T q.2 ∧ x_G p l e R s m args below meth c D cl C A nL n0 z0 sad ad0 Q t lv st T) (gf : x_cmp cd x y = false → x_mo T q.2 ∧ x_G p l e R s m args below meth c D cl C A nL n0 z0 sad ad0 Q (pc + 3) lv st T) : x_mo T q.2 ∧ x_G p l e R s m args below meth c D cl C A nL n0 z0 sad ad0 Q pc lv (.int y :: .int x :: st) T := by
  obtain ⟨hx, hb, hml, hown, hts, hKa, hA, hF, hG, hfr, hlo, hce, hsl, har, hXT⟩ := id hc
  have hmo : x_mo T q.2 := by
    cases hcm : x_cmp cd x y with
    | true => exact (gt hcm).1
    | false => exact (gf hcm).1
  refine ⟨hmo, fun ad H locs cells slots ls e1 hP hD hS hl c1 c2 => ?_⟩
  cases cd with
  | eq =>
    refine lv_icmp_eq hx hb hdg ht (fun hh => ?_) (fun hh => ?_)
    · exact (gt (by simp [x_cmp, hh])).2 ad H locs cells slots ls e1 hP hD hS hl c1 c2
    · exact (gf (by simpa [x_cmp] using hh)).2 ad H locs cells slots ls e1 hP hD hS hl c1 c2
  | ne =>
    refine lv_icmp_ne hx hb hdg ht (fun hh => ?_) (fun hh => ?_)
    · exact (gt (by simp [x_cmp, hh])).2 ad H locs cells slots ls e1 hP hD hS hl c1 c2
    · exact (gf (by simpa [x_cmp] using hh)).2 ad H locs cells slots ls e1 hP hD hS hl c1 c2
  | lt =>
    refine lv_icmp_lt hx hb hdg ht (fun hh => ?_) (fun hh => ?_)
    · exact (gt (by simp [x_cmp, hh])).2 ad H locs cells slots ls e1 hP hD hS hl c1 c2
    · exact (gf (by simpa [x_cmp] using hh)).2 ad H locs cells slots ls e1 hP hD hS hl c1 c2
  | ge =>
    refine lv_icmp_ge hx hb hdg ht (fun hh => ?_) (fun hh => ?_)
    · exact (gt (by simp [x_cmp, hh])).2 ad H locs cells slots ls e1 hP hD hS hl c1 c2
    · exact (gf (by simpa [x_cmp] using hh)).2 ad H locs cells slots ls e1 hP hD hS hl c1 c2
  | gt =>
    refine lv_icmp_gt hx hb hdg ht (fun hh => ?_) (fun hh => ?_)
    · exact (gt (by simp [x_cmp, hh])).2 ad H locs cells slots ls e1 hP hD hS hl c1 c2
    · exact (gf (by simpa [x_cmp] using hh)).2 ad H locs cells slots ls e1 hP hD hS hl c1 c2
  | le =>
    refine lv_icmp_le hx hb hdg ht (fun hh => ?_) (fun hh => ?_)
    · exact (gt (by simp [x_cmp, hh])).2 ad H locs cells slots ls e1 hP hD hS hl c1 c2
    · exact (gf (by simpa [x_cmp] using hh)).2 ad H locs cells slots ls e1 hP hD hS hl c1 c2
end X8
end
section
section X9
variable {p : Program} {l : Launch} {e : Env} {R : Room} {s : State} {m : MethodId} {args : Array Value} {below : List Frame} {meth : Method} {c : Code} {Q : State → Prop} {cc : ByteArray} {D : va_G} {cl : List vw_C} {C : FieldType → ClassId} {A : Nat → Prop} {nL n0 z0 : Nat} {sad ad0 : Nat → Nat} {own : String} {Ts : List Cond} {F Gp : Nat → Option Instr} {pc len : Nat} {lv lv' : x_L} {st st' : List Value} {T T' : x_T} {q : Option Value × x_T} {K : x_L → List Value → x_T → x_Z} {raw res : Instr} {XT : x_Xt} {E : x_E} {O : Nat → List Value → x_T → x_Z} {B : Nat → x_L → x_T → x_Z} {tab : x_R} {X : x_X} {M : x_M} {adV : Nat → Nat} {d j : Nat} {ret : Option FieldType} {Ts0 : List Cond}
/-- the end of a method's walk -/
def x_Q (below : List Frame) (args : Array Value) (s : State) (D : va_G) (cl : List vw_C) (C : FieldType → ClassId) (A : Nat → Prop) (ad : Nat → Nat) (n z : Nat) (q : Option Value × x_T) : State → Prop := MQ below (x_post D cl C A ad n q) args s (q.2.1.length - n) (x_z q.2.1 - z) A
theorem x_o_vret  (hc : x_cx p R s m args meth c cc D cl C A nL n0 z0 sad own Ts F Gp XT (none, T)) (hr : meth.sig.returnType = none) (hlk : meth.locks = false) (hdg : decode cc pc = .ok (.return_, 1)) : x_mo T T ∧ x_G p l e R s m args below meth c D cl C A nL n0 z0 sad ad0 (x_Q below args s D cl C A ad0 n0 z0 (none, T)) pc lv [] T := by
  obtain ⟨hx, hb, hml, hown, hts, hKa, hA, hF, hG, hfr, hlo, hce, hsl, har, hXT⟩ := id hc
  refine ⟨⟨Nat.le_refl _, Nat.le_refl _⟩, fun ad H locs cells slots ls e1 hP hD hS hl c1 c2 => ?_⟩
  obtain rfl : cells = T.1.length - n0 := by omega
  obtain rfl : slots = x_z T.1 - z0 := by omega
  refine W.vret hx hb hr ?_ hS.2.2 hdg hlk
  intro t ht hw
  exact ⟨⟨ad, rfl, e1, ⟨by rw [ht]; exact hP, va_K.moved hw.alike hKa, hD⟩⟩, hS.F ht⟩
theorem x_o_iret {v : Int32} (hc : x_cx p R s m args meth c cc D cl C A nL n0 z0 sad own Ts F Gp XT (some (.int v), T)) (hr : meth.sig.returnType = some .int) (hlk : meth.locks = false) (hdg : decode cc pc = .ok (.ireturn, 1)) : x_mo T T ∧ x_G p l e R s m args below meth c D cl C A nL n0 z0 sad ad0 (x_Q below args s D cl C A ad0 n0 z0 (some (.int v), T)) pc lv [.int v] T := by
  obtain ⟨hx, hb, hml, hown, hts, hKa, hA, hF, hG, hfr, hlo, hce, hsl, har, hXT⟩ := id hc
  refine ⟨⟨Nat.le_refl _, Nat.le_refl _⟩, fun ad H locs cells slots ls e1 hP hD hS hl c1 c2 => ?_⟩
  obtain rfl : cells = T.1.length - n0 := by omega
  obtain rfl : slots = x_z T.1 - z0 := by omega
  refine W.iret hx hb hr ?_ hS.2.2 hdg hlk
  intro t ht hw
  exact ⟨⟨v, ad, rfl, ⟨rfl, e1⟩, ⟨by rw [ht]; exact hP, va_K.moved hw.alike hKa, hD⟩⟩, hS.F ht⟩
theorem x_o_zret {v : Int32} (hc : x_cx p R s m args meth c cc D cl C A nL n0 z0 sad own Ts F Gp XT (some (.int v), T)) (hr : meth.sig.returnType = some .boolean) (hlk : meth.locks = false) (hv : narrow .boolean (.int v) = .int v) (hdg : decode cc pc = .ok (.ireturn, 1)) : x_mo T T ∧ x_G p l e R s m args below meth c D cl C A nL n0 z0 sad ad0 (x_Q below args s D cl C A ad0 n0 z0 (some (.int v), T)) pc lv [.int v] T := by
  obtain ⟨hx, hb, hml, hown, hts, hKa, hA, hF, hG, hfr, hlo, hce, hsl, har, hXT⟩ := id hc
  refine ⟨⟨Nat.le_refl _, Nat.le_refl _⟩, fun ad H locs cells slots ls e1 hP hD hS hl c1 c2 => ?_⟩
  obtain rfl : cells = T.1.length - n0 := by omega
  obtain rfl : slots = x_z T.1 - z0 := by omega
  refine W.zret hx hb hr hv ?_ hS.2.2 hdg hlk
  intro t ht hw
  exact ⟨⟨v, ad, rfl, ⟨rfl, e1⟩, ⟨by rw [ht]; exact hP, va_K.moved hw.alike hKa, hD⟩⟩, hS.F ht⟩
theorem x_o_lret {v : Int64} (hc : x_cx p R s m args meth c cc D cl C A nL n0 z0 sad own Ts F Gp XT (some (.long v), T)) (hr : meth.sig.returnType = some .long) (hlk : meth.locks = false) (hdg : decode cc pc = .ok (.lreturn, 1)) : x_mo T T ∧ x_G p l e R s m args below meth c D cl C A nL n0 z0 sad ad0 (x_Q below args s D cl C A ad0 n0 z0 (some (.long v), T)) pc lv [.long v] T := by
  obtain ⟨hx, hb, hml, hown, hts, hKa, hA, hF, hG, hfr, hlo, hce, hsl, har, hXT⟩ := id hc
  refine ⟨⟨Nat.le_refl _, Nat.le_refl _⟩, fun ad H locs cells slots ls e1 hP hD hS hl c1 c2 => ?_⟩
  obtain rfl : cells = T.1.length - n0 := by omega
  obtain rfl : slots = x_z T.1 - z0 := by omega
  refine W.lret hx hb hr ?_ hS.2.2 hdg hlk
  intro t ht hw
  exact ⟨⟨v, ad, rfl, ⟨rfl, e1⟩, ⟨by rw [ht]; exact hP, va_K.moved hw.alike hKa, hD⟩⟩, hS.F ht⟩
set_option maxHeartbeats 1000000 in
theorem x_o_new {ix ci : Nat} (hc : x_cx p R s m args meth c cc D cl C A nL n0 z0 sad own Ts F Gp XT q) (hl2 : x_l2 Ts E M X own cl ix (.new ci)) (hdg : decode cc pc = .ok (.new ix, 3)) (k4 : x_okl T.1.length lv = true) (k5 : x_oks T.1.length st = true) (k6 : x_okT T.1.length T.1 = true) (g : x_mo (x_new T (.inr (ci, E.1 ci))) q.2 ∧ x_G p l e R s m args below meth c D cl C A nL n0 z0 sad ad0 Q (pc + 3) lv (.ref T.1.length :: st) (x_new T (.inr (ci, E.1 ci)))) : x_mo T q.2 ∧ x_G p l e R s m args below meth c D cl C A nL n0 z0 sad ad0 Q pc lv st T := by
  obtain ⟨hx, hb, hml, hown, hts, hKa, hA, hF, hG, hfr, hlo, hce, hsl, har, hXT⟩ := id hc
  obtain ⟨Cn, Tn, N, ty0, hcl, hin, hty, hlk, hinst, hini, hlen, hdf⟩ := hl2
  have hmo := g.1
  unfold x_mo at hmo
  have hl1 : (x_new T (.inr (ci, E.1 ci))).1.length = T.1.length + 1 := by simp [x_new]
  have hz1 : x_z (x_new T (.inr (ci, E.1 ci))).1 = x_z T.1 + N := by simp [x_new, x_z_app, x_z, x_z1, hlen]
  rw [hl1, hz1] at hmo
  refine ⟨⟨by omega, by omega⟩, fun ad H locs cells slots ls e1 hP hD hS hl c1 c2 => ?_⟩
  have hsame : ∀ ad' : Nat → Nat, (E.1 ci).mapIdx (fun k r => x_fv ad' (fun _ => 0) k r) = (E.1 ci).mapIdx (fun k r => x_fv ad (fun _ => 0) k r) := by
    intro ad'
    apply List.ext_getElem?
    intro i
    rw [List.getElem?_mapIdx, List.getElem?_mapIdx]
    rcases Nat.lt_or_ge i N with hi | hi
    · rcases hdf i hi with ⟨h1, -⟩ | ⟨h1, -⟩
      · rw [h1]; rfl
      · rw [h1]; rfl
    · rw [List.getElem?_eq_none (by omega)]; rfl
  refine va_new (ci := ci) (fs := (E.1 ci).mapIdx (fun k r => x_fv ad (fun _ => 0) k r)) hx hb hts hin ty0 hty hown (hts _ hlk) (hts _ hinst) (hts _ hini) hKa hP hD hS hA hcl (fun j hj => ?_) (by omega) (by omega) hdg (fun q' H1 hP1 hD1 hS1 => ?_)
  · rcases hdf j hj with ⟨h1, h2 | h2⟩ | ⟨h1, ⟨n, h2⟩ | ⟨n, h2⟩⟩
    · simp [vp_V, List.getD, List.getElem?_mapIdx, h1, h2, x_fv, defaultValue]
    · simp [vp_V, List.getD, List.getElem?_mapIdx, h1, h2, x_fv, defaultValue]
    · simp [vp_V, List.getD, List.getElem?_mapIdx, h1, h2, x_fv, defaultValue]
    · simp [vp_V, List.getD, List.getElem?_mapIdx, h1, h2, x_fv, defaultValue]
  · have hWn := x_W_new (ad := ad) (C := C) (T := T) (sh := .inr (ci, E.1 ci)) (q := q') k6
    simp only [x_ent] at hWn
    rw [hsame] at hWn
    rw [← hWn] at hP1 hD1
    have hex : ∀ i, i < T.1.length → va_up ad T.1.length q' i = ad i := fun i hi => x_up_n _ _ (by omega)
    have hg := g.2 (va_up ad T.1.length q') H1 locs (cells + 1) (slots + N) ls (fun i hi => by rw [hex i (by omega)]; exact e1 i hi) hP1 hD1 hS1 (x_ls_ex hex k4 hl) (by rw [hl1]; omega) (by rw [hz1]; omega)
    simp only [List.map_cons, x_val, x_up_s] at hg
    rw [x_st_ex hex k5] at hg
    exact hg
theorem x_A_sub {ad : Nat → Nat} {H : Heap} {locs : List Loc} (hA : ∀ q, s.heap.size ≤ q → A q) (hD : va_D A (x_W ad C T)) (hS : va_S A s.heap H locs) : ∀ q, va_A (x_W ad C T) H.size q → A q := by
  intro q h
  rcases h with ⟨k, e, h⟩ | h
  · exact hD.2 k (q, e) h
  · exact hA q (Nat.le_trans hS.1 h)
theorem x_xs_call {ad : Nat → Nat} {H : Heap} {locs : List Loc} (hxs : x_xs X sad adV A s) (hA : ∀ q, s.heap.size ≤ q → A q) (hD : va_D A (x_W ad C T)) (hS : va_S A s.heap H locs) {U : State} (hU : U.heap = H) (hW : s.WarmedH U.vm) : x_xs X sad adV (va_A (x_W ad C T) H.size) U := by
  obtain ⟨h1, h2, h3, h4⟩ := hxs
  refine ⟨fun r hr => vk_R.warm hW (h1 r hr), ?_, fun r hr => va_Nw.warmM hW (h3 r hr), fun r hr => ?_⟩
  rotate_left
  · rw [hU]
    exact x_zs.moved hW.alike (x_zs.narrow (x_zs.kept (h4 r hr) (fun a ha hn => hS.2.1 a ha hn)) (x_A_sub hA hD hS))
  rw [hU]
  exact vk_S.moved hW.alike (vk_S.narrow (vk_S.kept h2 (fun a ha hn => hS.2.1 a ha hn)) (x_A_sub hA hD hS))
theorem x_blind {ad : Nat → Nat} {vs : List Value} {sz : Nat} : FrameBlind (va_Pc vs (x_pre D cl C X ad sad adV T sz)) := by
  intro a U g mk h
  obtain ⟨h0, h1, h2, h3, h4, h5, h6, h7, h8⟩ := h
  exact ⟨h0, h1, h2, va_K.moved (u := U) (U := U.calling g mk a) (Vm.Alike.refl U.vm) h3, h4, fun r hr => vk_R.same (u := U) rfl (h5 r hr), vk_S.moved (u := U) (U := U.calling g mk a) (Vm.Alike.refl U.vm) h6, fun r hr => va_Nw.same rfl (u := U) rfl (h7 r hr), fun r hr => x_zs.moved (u := U) (U := U.calling g mk a) (Vm.Alike.refl U.vm) (h8 r hr)⟩
theorem x_pre_call {ad : Nat → Nat} {H : Heap} {locs : List Loc} (hKa : va_K D cl (x_tys C) s) (hxs : x_xs X sad adV A s) (hA : ∀ q, s.heap.size ≤ q → A q) (hP : va_P D cl (x_W ad C T) H) (hD : va_D A (x_W ad C T)) (hS : va_S A s.heap H locs) {U : State} (hU : U.heap = H) (hW : s.WarmedH U.vm) : x_pre D cl C X ad sad adV T H.size U :=
  ⟨by rw [hU], by rw [hU]; exact hP, va_K.moved hW.alike hKa, hD.weaken (fun _ _ _ _ => trivial), x_xs_call hxs hA hD hS hU hW⟩
set_option maxHeartbeats 1000000 in
/-- behind a call -/
theorem x_back {q1 : Option Value × x_T} {μ : Nat} {vs r : List Value} (hc : x_cx p R s m args meth c cc D cl C A nL n0 z0 sad own Ts F Gp XT q) (hC : x_C l cl X Ts0 M d μ vs T q1) (k4 : x_okl T.1.length lv = true) (k5 : x_oks T.1.length r = true) (hrun : ∀ (ad : Nat → Nat) (H : Heap) (locs : List Loc) (cells slots : Nat) (ls : Array Slot), (∀ i, i < n0 → ad i = ad0 i) → va_P D cl (x_W ad C T) H → va_D A (x_W ad C T) → va_S A s.heap H locs → x_ls ad sad ls nL lv → cells + (q1.2.1.length - T.1.length) ≤ R.cells ∧ slots + (x_z q1.2.1 - x_z T.1) ≤ R.slots → va_Run p l e R s m args below meth c H locs cells slots (q1.2.1.length - T.1.length) (x_z q1.2.1 - x_z T.1) (F0 m pc ls (st.map (x_val ad sad))) (r.map (x_val ad sad)) (x_post D cl C (va_A (x_W ad C T) H.size) ad T.1.length q1 (vs.map (x_val ad sad)).toArray) (va_A (x_W ad C T) H.size)) (g : x_mo q1.2 q.2 ∧ x_G p l e R s m args below meth c D cl C A nL n0 z0 sad ad0 Q (pc + 3) lv (q1.1.toList ++ r) q1.2) : x_mo T q.2 ∧ x_G p l e R s m args below meth c D cl C A nL n0 z0 sad ad0 Q pc lv st T := by
  obtain ⟨hx, hb, hml, hown, hts, hKa, hA, hF, hG, hfr, hlo, hce, hsl, har, hXT⟩ := id hc
  have hm1 := hC.1
  have hm2 := g.1
  have hmo : x_mo T q.2 := ⟨Nat.le_trans hm1.1 hm2.1, Nat.le_trans hm1.2 hm2.2⟩
  refine ⟨hmo, fun ad H locs cells slots ls e1 hP hD hS hl c1 c2 => ?_⟩
  unfold x_mo at hm1 hm2
  have hr := hrun ad H locs cells slots ls e1 hP hD hS hl ⟨by omega, by omega⟩
  have hsub := x_A_sub (C := C) hA hD hS
  have go : ∀ (ad' : Nat → Nat) (t : State) (H1 : Heap) (locs1 : List Loc), t.heap = H1 → (∀ i, i < T.1.length → ad' i = ad i) → x_B D cl C (va_A (x_W ad C T) H.size) q1.2 ad' t → va_S A s.heap H1 locs1 → W p l e R s m args below meth c H1 locs1 (cells + (q1.2.1.length - T.1.length)) (slots + (x_z q1.2.1 - x_z T.1)) Q (F0 m (pc + 3) ls ((q1.1.toList ++ r).map (x_val ad' sad))) := by
    intro ad' t H1 locs1 ht hex hB hS1
    obtain ⟨b1, b2, b3⟩ := hB
    rw [ht] at b1
    exact g.2 ad' H1 locs1 _ _ ls (fun i hi => by rw [hex i (by omega)]; exact e1 i hi) b1 (b3.weaken (fun _ _ _ h => hsub _ h)) hS1 (x_ls_ex hex k4 hl) (by omega) (by omega)
  obtain ⟨v, T1⟩ := q1
  match v, hr, go with
  | none, hr, go =>
    refine va_callv (a := (vs.map (x_val ad sad)).toArray) hr hS (fun q _ h => hsub q h) hsub (fun ad' t H1 locs1 ht hvm hw hB hz1 hk1 hS1 => ?_)
    have hgo := go ad' t H1 locs1 ht hw hB hS1
    simp only [Option.toList_none, List.nil_append] at hgo
    rw [x_st_ex hw k5] at hgo
    exact hgo
  | some (.int x), hr, go =>
    refine va_calli (a := (vs.map (x_val ad sad)).toArray) hr hS (fun q _ h => hsub q h) hsub (fun x' ad' t H1 locs1 ht hvm hw hB hz1 hk1 hS1 => ?_)
    obtain ⟨rfl, hw⟩ := hw
    have hgo := go ad' t H1 locs1 ht hw hB hS1
    simp only [Option.toList_some, List.cons_append, List.nil_append, List.map_cons, x_val] at hgo
    rw [x_st_ex hw k5] at hgo
    exact hgo
  | some (.long x), hr, go =>
    refine va_calll (a := (vs.map (x_val ad sad)).toArray) hr hS (fun q _ h => hsub q h) hsub (fun x' ad' t H1 locs1 ht hvm hw hB hz1 hk1 hS1 => ?_)
    obtain ⟨rfl, hw⟩ := hw
    have hgo := go ad' t H1 locs1 ht hw hB hS1
    simp only [Option.toList_some, List.cons_append, List.nil_append, List.map_cons, x_val] at hgo
    rw [x_st_ex hw k5] at hgo
    exact hgo
  | some .null, hr, go =>
    intro T2 hT2 X2
    obtain ⟨v, s1, t, T3, L, h1, h2, h3, h4, h5, h6, h7⟩ := hr T2 hT2 X2
    exact h6.elim
  | some (.ref _), hr, go =>
    intro T2 hT2 X2
    obtain ⟨v, s1, t, T3, L, h1, h2, h3, h4, h5, h6, h7⟩ := hr T2 hT2 X2
    exact h6.elim
  | some (.float _), hr, go =>
    intro T2 hT2 X2
    obtain ⟨v, s1, t, T3, L, h1, h2, h3, h4, h5, h6, h7⟩ := hr T2 hT2 X2
    exact h6.elim
  | some (.double _), hr, go =>
    intro T2 hT2 X2
    obtain ⟨v, s1, t, T3, L, h1, h2, h3, h4, h5, h6, h7⟩ := hr T2 hT2 X2
    exact h6.elim
  | some (.retAddr _), hr, go =>
    intro T2 hT2 X2
    obtain ⟨v, s1, t, T3, L, h1, h2, h3, h4, h5, h6, h7⟩ := hr T2 hT2 X2
    exact h6.elim
set_option maxHeartbeats 1000000 in
theorem x_o_callV {ix μ b : Nat} {As r : List Value} {q1 : Option Value × x_T} {ci : Nat} {fs : List (Option Nat)} (hc : x_cx p R s m args meth c cc D cl C A nL n0 z0 sad own Ts F Gp XT q) (hl2 : x_l2 Ts E M X own cl ix (.invokevirtual μ)) (hxs : x_xs X sad adV A s) (hGi : GoodIn Ts (x_ws Ts0 M μ)) (hdg : decode cc pc = .ok (.invokevirtual ix, 3)) (hC : x_C l cl X Ts0 M d μ (.ref b :: As) T q1) (hn : As.length = (E.2.1 μ).1) (hsh : T.1[b]? = some (.inr (ci, fs))) (hci : ci = (E.2.1 μ).2) (hsm : x_sm r ≤ 8) (k4 : x_okl T.1.length lv = true) (k5 : x_oks T.1.length r = true) (hR1 : d + 1 ≤ R.frames) (hR2 : 100 * d + 100 ≤ R.locals) (g : x_mo q1.2 q.2 ∧ x_G p l e R s m args below meth c D cl C A nL n0 z0 sad ad0 Q (pc + 3) lv (q1.1.toList ++ r) q1.2) : x_mo T q.2 ∧ x_G p l e R s m args below meth c D cl C A nL n0 z0 sad ad0 Q pc lv (As.reverse ++ .ref b :: r) T := by
  obtain ⟨hx, hb, hml, hown, hts, hKa, hA, hF, hG, hfr, hlo, hce, hsl, har, hXT⟩ := id hc
  obtain ⟨hmk, hlink, hinst, hsel, Tn, N, hcl⟩ := hl2
  subst hci
  obtain ⟨m1, m2, m3, m4⟩ := hmk
  refine x_back hc hC k4 k5 (fun ad H locs cells slots ls e1 hP hD hS hl hf => ?_) g
  have hlsz : ls.size = nL := by obtain ⟨lst, hl1, hl2, hl3⟩ := hl; exact hl1.1
  have hM := hC.2 ad sad adV D C H.size
  have hst : (As.reverse ++ .ref b :: r).map (x_val ad sad) = (As.map (x_val ad sad)).reverse ++ .ref (ad b) :: r.map (x_val ad sad) := by simp [x_val]
  rw [hst]
  rcases hlink with hlink | ⟨host, hlink⟩
  · exact va_runV (nL := nL) (As := As.map (x_val ad sad)) (rest := r.map (x_val ad sad)) (n := (E.2.1 μ).1) ⟨hx, hb, hml, hown, hts⟩ hM ⟨(callB_of (bytes := (M μ).2.1) (maxL := (M μ).2.2.1) (ret := (M μ).2.2.2) (ws' := Ts0) _ hts hGi rfl rfl rfl (hts _ m2) (hts _ hlink) m3 ⟨hR1, by show 8 + (_ + 11) + 100 * d ≤ _; omega⟩), hts _ hinst, hts _ hsel⟩ ⟨x_blind, va_recv hKa hP hcl (x_W_get (ad := ad) (C := C) hsh), fun U hU hW => ⟨by simp [x_val], x_pre_call hKa hxs hA hP hD hS hU hW⟩⟩ rfl (by rw [List.length_map]; exact hn) hlsz rfl (lv_room (by rw [x_sm_val (sad := sad) ad]; exact hsm)) hdg hf
  · exact va_runVN (nL := nL) (As := As.map (x_val ad sad)) (rest := r.map (x_val ad sad)) (n := (E.2.1 μ).1) ⟨hx, hb, hml, hown, hts⟩ hM ⟨(va_cnB (bytes := (M μ).2.1) (maxL := (M μ).2.2.1) (ret := (M μ).2.2.2) (ws' := Ts0) _ hts hGi rfl rfl rfl (hxs.2.2.1 _ hlink) (hts _ m2) m3 ⟨hR1, by show 8 + (_ + 11) + 100 * d ≤ _; omega⟩), hts _ hinst, hts _ hsel⟩ ⟨x_blind, va_recv hKa hP hcl (x_W_get (ad := ad) (C := C) hsh), fun U hU hW => ⟨by simp [x_val], x_pre_call hKa hxs hA hP hD hS hU hW⟩⟩ rfl (by rw [List.length_map]; exact hn) hlsz rfl (lv_room (by rw [x_sm_val (sad := sad) ad]; exact hsm)) hdg hf
set_option maxHeartbeats 1000000 in
theorem x_o_callI {ix μ b : Nat} {As r : List Value} {q1 : Option Value × x_T}  (hc : x_cx p R s m args meth c cc D cl C A nL n0 z0 sad own Ts F Gp XT q) (hl2 : x_l2 Ts E M X own cl ix (.invokespecial μ)) (hxs : x_xs X sad adV A s) (hGi : GoodIn Ts (x_ws Ts0 M μ)) (hdg : decode cc pc = .ok (.invokespecial ix, 3)) (hC : x_C l cl X Ts0 M d μ (.ref b :: As) T q1) (hn : As.length = (E.2.1 μ).1)  (hsm : x_sm r ≤ 8) (k4 : x_okl T.1.length lv = true) (k5 : x_oks T.1.length r = true) (hR1 : d + 1 ≤ R.frames) (hR2 : 100 * d + 100 ≤ R.locals) (g : x_mo q1.2 q.2 ∧ x_G p l e R s m args below meth c D cl C A nL n0 z0 sad ad0 Q (pc + 3) lv (q1.1.toList ++ r) q1.2) : x_mo T q.2 ∧ x_G p l e R s m args below meth c D cl C A nL n0 z0 sad ad0 Q pc lv (As.reverse ++ .ref b :: r) T := by
  obtain ⟨hx, hb, hml, hown, hts, hKa, hA, hF, hG, hfr, hlo, hce, hsl, har, hXT⟩ := id hc
  obtain ⟨hmk, hlink, hinst, hnm, hret⟩ := hl2
  obtain ⟨m1, m2, m3, m4⟩ := hmk
  refine x_back hc hC k4 k5 (fun ad H locs cells slots ls e1 hP hD hS hl hf => ?_) g
  have hlsz : ls.size = nL := by obtain ⟨lst, hl1, hl2, hl3⟩ := hl; exact hl1.1
  have hM := hC.2 ad sad adV D C H.size
  have hst : (As.reverse ++ .ref b :: r).map (x_val ad sad) = (As.map (x_val ad sad)).reverse ++ .ref (ad b) :: r.map (x_val ad sad) := by simp [x_val]
  rw [hst]
  rcases hlink with hlink | ⟨host, hlink⟩
  · exact va_runI (nL := nL) (As := As.map (x_val ad sad)) (rest := r.map (x_val ad sad)) (n := (E.2.1 μ).1) ⟨hx, hb, hml, hown, hts⟩ hM ⟨(callB_of (bytes := (M μ).2.1) (maxL := (M μ).2.2.1) (ret := none) (ws' := Ts0) _ hts hGi (by unfold x_ws; rw [hret]) rfl rfl (hts _ m2) (hts _ hlink) m3 ⟨hR1, by show 8 + (_ + 11) + 100 * d ≤ _; omega⟩), hnm, hts _ hinst⟩ ⟨x_blind, fun U hU hW => ⟨by simp [x_val], x_pre_call hKa hxs hA hP hD hS hU hW⟩⟩ rfl (by rw [List.length_map]; exact hn) hlsz rfl (lv_room (by rw [x_sm_val (sad := sad) ad]; exact hsm)) hdg hf
  · exact va_runIN (nL := nL) (As := As.map (x_val ad sad)) (rest := r.map (x_val ad sad)) (n := (E.2.1 μ).1) ⟨hx, hb, hml, hown, hts⟩ hM ⟨(va_cnB (bytes := (M μ).2.1) (maxL := (M μ).2.2.1) (ret := none) (ws' := Ts0) _ hts hGi (by unfold x_ws; rw [hret]) rfl rfl (hxs.2.2.1 _ hlink) (hts _ m2) m3 ⟨hR1, by show 8 + (_ + 11) + 100 * d ≤ _; omega⟩), hnm, hts _ hinst⟩ ⟨x_blind, fun U hU hW => ⟨by simp [x_val], x_pre_call hKa hxs hA hP hD hS hU hW⟩⟩ rfl (by rw [List.length_map]; exact hn) hlsz rfl (lv_room (by rw [x_sm_val (sad := sad) ad]; exact hsm)) hdg hf
set_option maxHeartbeats 1000000 in
theorem x_o_callS {ix μ b : Nat} {As r : List Value} {q1 : Option Value × x_T}  (hc : x_cx p R s m args meth c cc D cl C A nL n0 z0 sad own Ts F Gp XT q) (hl2 : x_l2 Ts E M X own cl ix (.invokestatic μ)) (hxs : x_xs X sad adV A s) (hGi : GoodIn Ts (x_ws Ts0 M μ)) (hdg : decode cc pc = .ok (.invokestatic ix, 3)) (hC : x_C l cl X Ts0 M d μ As T q1) (hn : As.length = (E.2.1 μ).1)  (hsm : x_sm r ≤ 8) (k4 : x_okl T.1.length lv = true) (k5 : x_oks T.1.length r = true) (hR1 : d + 1 ≤ R.frames) (hR2 : 100 * d + 100 ≤ R.locals) (g : x_mo q1.2 q.2 ∧ x_G p l e R s m args below meth c D cl C A nL n0 z0 sad ad0 Q (pc + 3) lv (q1.1.toList ++ r) q1.2) : x_mo T q.2 ∧ x_G p l e R s m args below meth c D cl C A nL n0 z0 sad ad0 Q pc lv (As.reverse ++ r) T := by
  obtain ⟨hx, hb, hml, hown, hts, hKa, hA, hF, hG, hfr, hlo, hce, hsl, har, hXT⟩ := id hc
  obtain ⟨hmk, hlink, hstat⟩ := hl2
  obtain ⟨m1, m2, m3, m4⟩ := hmk
  refine x_back hc hC k4 k5 (fun ad H locs cells slots ls e1 hP hD hS hl hf => ?_) g
  have hlsz : ls.size = nL := by obtain ⟨lst, hl1, hl2, hl3⟩ := hl; exact hl1.1
  have hM := hC.2 ad sad adV D C H.size
  have hst : (As.reverse ++ r).map (x_val ad sad) = (As.map (x_val ad sad)).reverse ++ r.map (x_val ad sad) := by simp [x_val]
  rw [hst]
  rcases hlink with hlink | ⟨host, hlink⟩
  · exact va_runS (nL := nL) (As := As.map (x_val ad sad)) (rest := r.map (x_val ad sad)) (n := (E.2.1 μ).1) ⟨hx, hb, hml, hown, hts⟩ hM ⟨(callB_of (bytes := (M μ).2.1) (maxL := (M μ).2.2.1) (ret := (M μ).2.2.2) (ws' := Ts0) _ hts hGi rfl rfl rfl (hts _ m2) (hts _ hlink) m3 ⟨hR1, by show 8 + (_ + 11) + 100 * d ≤ _; omega⟩), hts _ hstat⟩ ⟨x_blind, fun U hU hW => ⟨by simp [x_val], x_pre_call hKa hxs hA hP hD hS hU hW⟩⟩ rfl (by rw [List.length_map]; exact hn) hlsz rfl (lv_room (by rw [x_sm_val (sad := sad) ad]; exact hsm)) hdg hf
  · exact va_runSN (nL := nL) (As := As.map (x_val ad sad)) (rest := r.map (x_val ad sad)) (n := (E.2.1 μ).1) ⟨hx, hb, hml, hown, hts⟩ hM ⟨(va_cnB (bytes := (M μ).2.1) (maxL := (M μ).2.2.1) (ret := (M μ).2.2.2) (ws' := Ts0) _ hts hGi rfl rfl rfl (hxs.2.2.1 _ hlink) (hts _ m2) m3 ⟨hR1, by show 8 + (_ + 11) + 100 * d ≤ _; omega⟩), hts _ hstat, trivial⟩ ⟨x_blind, fun U hU hW => ⟨by simp [x_val], x_pre_call hKa hxs hA hP hD hS hU hW⟩⟩ rfl (by rw [List.length_map]; exact hn) hlsz rfl (lv_room (by rw [x_sm_val (sad := sad) ad]; exact hsm)) hdg hf
set_option maxHeartbeats 1000000 in
theorem x_o_callT {ix μ b : Nat} {As r : List Value} {q1 : Option Value × x_T}  (hc : x_cx p R s m args meth c cc D cl C A nL n0 z0 sad own Ts F Gp XT q) (hl2 : x_l2 Ts E M X own cl ix (.checkcast μ)) (hxs : x_xs X sad adV A s) (hGi : GoodIn Ts (x_ws Ts0 M μ)) (hdg : decode cc pc = .ok (.invokevirtual ix, 3)) (hC : x_C l cl X Ts0 M d μ (.retAddr b :: As) T q1) (hn : As.length = (E.2.1 μ).1) (hb2 : b < 2) (hsm : x_sm r ≤ 8) (k4 : x_okl T.1.length lv = true) (k5 : x_oks T.1.length r = true) (hR1 : d + 1 ≤ R.frames) (hR2 : 100 * d + 100 ≤ R.locals) (g : x_mo q1.2 q.2 ∧ x_G p l e R s m args below meth c D cl C A nL n0 z0 sad ad0 Q (pc + 3) lv (q1.1.toList ++ r) q1.2) : x_mo T q.2 ∧ x_G p l e R s m args below meth c D cl C A nL n0 z0 sad ad0 Q pc lv (As.reverse ++ .retAddr b :: r) T := by
  obtain ⟨hx, hb, hml, hown, hts, hKa, hA, hF, hG, hfr, hlo, hce, hsl, har, hXT⟩ := id hc
  obtain ⟨hmk, hlink0, hinst, hsel, hcls, hX2⟩ := hl2
  have hlink : Cond.methodLink own ix (M μ).1 ∈ Ts ∨ ∃ host, (own, ix, (M μ).1, host) ∈ X.2.2.2.2.1 := Or.inl hlink0
  obtain ⟨m1, m2, m3, m4⟩ := hmk
  refine x_back hc hC k4 k5 (fun ad H locs cells slots ls e1 hP hD hS hl hf => ?_) g
  have hlsz : ls.size = nL := by obtain ⟨lst, hl1, hl2, hl3⟩ := hl; exact hl1.1
  have hM := hC.2 ad sad adV D C H.size
  have hst : (As.reverse ++ .retAddr b :: r).map (x_val ad sad) = (As.map (x_val ad sad)).reverse ++ .ref (sad b) :: r.map (x_val ad sad) := by simp [x_val]
  rw [hst]
  have hrec : ∃ cellB : Cell, H[sad b]? = some cellB ∧ cellB.vm.isStatics = false ∧ s.vm.findClass (M μ).1.cls = some cellB.cls := by
    obtain ⟨cell, e1, e2, e3, e4⟩ := ((vk_S.kept hxs.2.1 (fun a ha hn => hS.2.1 a ha hn)).1 b (by omega)).1
    exact ⟨cell, e1, e2, by rw [hcls]; exact e3⟩
  rcases hlink with hlink | ⟨host, hlink⟩
  · exact va_runV (nL := nL) (As := As.map (x_val ad sad)) (rest := r.map (x_val ad sad)) (n := (E.2.1 μ).1) ⟨hx, hb, hml, hown, hts⟩ hM ⟨(callB_of (bytes := (M μ).2.1) (maxL := (M μ).2.2.1) (ret := (M μ).2.2.2) (ws' := Ts0) _ hts hGi rfl rfl rfl (hts _ m2) (hts _ hlink) m3 ⟨hR1, by show 8 + (_ + 11) + 100 * d ≤ _; omega⟩), hts _ hinst, hts _ hsel⟩ ⟨x_blind, hrec, fun U hU hW => ⟨by simp [x_val], x_pre_call hKa hxs hA hP hD hS hU hW⟩⟩ rfl (by rw [List.length_map]; exact hn) hlsz rfl (lv_room (by rw [x_sm_val (sad := sad) ad]; exact hsm)) hdg hf
  · exact va_runVN (nL := nL) (As := As.map (x_val ad sad)) (rest := r.map (x_val ad sad)) (n := (E.2.1 μ).1) ⟨hx, hb, hml, hown, hts⟩ hM ⟨(va_cnB (bytes := (M μ).2.1) (maxL := (M μ).2.2.1) (ret := (M μ).2.2.2) (ws' := Ts0) _ hts hGi rfl rfl rfl (hxs.2.2.1 _ hlink) (hts _ m2) m3 ⟨hR1, by show 8 + (_ + 11) + 100 * d ≤ _; omega⟩), hts _ hinst, hts _ hsel⟩ ⟨x_blind, hrec, fun U hU hW => ⟨by simp [x_val], x_pre_call hKa hxs hA hP hD hS hU hW⟩⟩ rfl (by rw [List.length_map]; exact hn) hlsz rfl (lv_room (by rw [x_sm_val (sad := sad) ad]; exact hsm)) hdg hf
end X9
end
section
section X10
variable {p : Program} {l : Launch} {e : Env} {R : Room} {s : State} {m : MethodId} {args : Array Value} {below : List Frame} {meth : Method} {c : Code} {Q : State → Prop} {cc : ByteArray} {D : va_G} {cl : List vw_C} {C : FieldType → ClassId} {A : Nat → Prop} {nL n0 z0 : Nat} {sad ad0 : Nat → Nat} {own : String} {Ts : List Cond} {F Gp : Nat → Option Instr} {pc len : Nat} {lv lv' : x_L} {st st' : List Value} {T T' : x_T} {q : Option Value × x_T} {K : x_L → List Value → x_T → x_Z} {raw res : Instr} {XT : x_Xt} {E : x_E} {O : Nat → List Value → x_T → x_Z} {B : Nat → x_L → x_T → x_Z} {tab : x_R} {X : x_X} {M : x_M} {adV : Nat → Nat} {d j : Nat} {ret : Option FieldType} {Ts0 : List Cond}
theorem x_tsw {pcs : Nat → Nat} {offs offs' : List Int} {lo hi dd dd' : Int} {x : Int32} (h1 : (pc : Int) + dd' = ((pcs dd.toNat : Nat) : Int)) (h2 : hi + 1 = lo + (offs.length : Int)) (h3 : offs'.map (fun o => (pc : Int) + o) = offs.map (fun t => ((pcs t.toNat : Nat) : Int))) : (x.toInt < lo ∨ hi < x.toInt) ∧ x_pick lo offs dd x = dd ∨ ¬ x.toInt < lo ∧ ¬ hi < x.toInt ∧ ∃ off, offs'[(x.toInt - lo).toNat]? = some off ∧ (pc : Int) + off = ((pcs (x_pick lo offs dd x).toNat : Nat) : Int) := by
  have hlen : offs'.length = offs.length := by simpa using congrArg List.length h3
  by_cases ha : x.toInt < lo
  · exact Or.inl ⟨Or.inl ha, if_pos ha⟩
  · by_cases hb : hi < x.toInt
    · refine Or.inl ⟨Or.inr hb, ?_⟩
      unfold x_pick
      rw [if_neg ha, List.getElem?_eq_none (by omega)]
      rfl
    · refine Or.inr ⟨ha, hb, ?_⟩
      have hi2 : (x.toInt - lo).toNat < offs'.length := by omega
      have h4 := congrArg (fun l => l[(x.toInt - lo).toNat]?) h3
      simp only [List.getElem?_map] at h4
      rw [List.getElem?_eq_getElem hi2, List.getElem?_eq_getElem (by omega : (x.toInt - lo).toNat < offs.length)] at h4
      simp only [Option.map_some, Option.some.injEq] at h4
      refine ⟨_, List.getElem?_eq_getElem hi2, ?_⟩
      unfold x_pick
      rw [if_neg ha, List.getElem?_eq_getElem (by omega : (x.toInt - lo).toNat < offs.length)]
      exact h4
theorem x_lsw {pcs : Nat → Nat} {dd dd' : Int} {x : Int} (h1 : (pc : Int) + dd' = ((pcs dd.toNat : Nat) : Int)) : ∀ (ps ps' : List (Int × Int)), ps'.map (fun q => (q.1, (pc : Int) + q.2)) = ps.map (fun q => (q.1, ((pcs q.2.toNat : Nat) : Int))) → (pc : Int) + Op.lookupswitch.offset ps' dd' x = ((pcs (Op.lookupswitch.offset ps dd x).toNat : Nat) : Int)
  | [], [], _ => by rw [Op.lookupswitch.offset_nil, Op.lookupswitch.offset_nil]; exact h1
  | [], _ :: _, h => by simp at h
  | _ :: _, [], h => by simp at h
  | (a, o) :: ps, (a', o') :: ps', h => by
    simp only [List.map_cons, List.cons.injEq, Prod.mk.injEq] at h
    obtain ⟨⟨rfl, h2⟩, h3⟩ := h
    rw [Op.lookupswitch.offset_cons, Op.lookupswitch.offset_cons]
    split
    · exact h2
    · exact x_lsw h1 ps ps' h3
/-- what a method's walk needs beside x_cx -/
def x_c2 (R : Room) (s : State) (meth : Method) (cc : ByteArray) (cl : List vw_C) (A : Nat → Prop) (sad adV : Nat → Nat) (own : String) (Ts Ts0 : List Cond) (F Gp : Nat → Option Instr) (E : x_E) (X : x_X) (M : x_M) (d : Nat) (ret : Option FieldType) (tab : x_R) : Prop :=
  x_tok cc F Gp ret tab ∧ meth.sig.returnType = ret ∧ meth.locks = false ∧ (∀ ix i, F ix = some i → x_l2 Ts E M X own cl ix i) ∧ x_xs X sad adV A s ∧ (∀ μ, x_mk Ts E M μ → GoodIn Ts (x_ws Ts0 M μ)) ∧ d + 1 ≤ R.frames ∧ 100 * d + 100 ≤ R.locals
set_option maxHeartbeats 8000000 in
theorem x_ev_ok (hc : x_cx p R s m args meth c cc D cl C A nL n0 z0 sad own Ts F Gp XT q) (h2 : x_c2 R s meth cc cl A sad adV own Ts Ts0 F Gp E X M d ret tab) (hO : ∀ μ vs T q', O μ vs T = some q' → x_C l cl X Ts0 M d μ vs T q') (hB : ∀ j lv T, B j lv T = some q → x_mo T q.2 ∧ x_G p l e R s m args below meth c D cl C A nL n0 z0 sad ad0 (x_Q below args s D cl C A ad0 n0 z0 q) (x_pc tab j) lv [] T) : ∀ (k j : Nat) (lv : x_L) (st : List Value) (T : x_T), x_ev E XT O B (x_cd tab) k ((x_cd tab).drop j) lv st T = some q → x_mo T q.2 ∧ x_G p l e R s m args below meth c D cl C A nL n0 z0 sad ad0 (x_Q below args s D cl C A ad0 n0 z0 q) (x_pc tab j) lv st T := by
  obtain ⟨hx, hb, hml, hown, hts, hKa, hA, hF, hG, hfr, hlo, hce, hsl, har, hXT⟩ := id hc
  obtain ⟨htab, hret, hlk, hF2, hxs, hGI, hR1, hR2⟩ := id h2
  intro k
  induction k with
  | zero => intro j lv st T h; simp [x_ev] at h
  | succ k ih =>
    intro j lv st T h
    cases hcd : (x_cd tab).drop j with
    | nil => rw [hcd] at h; simp [x_ev] at h
    | cons i rest =>
      rw [hcd] at h
      obtain ⟨pc, raw, len, ht, hrest, hpc⟩ := x_cd_at hcd
      obtain ⟨hdg, hrv, hnx⟩ := htab j pc raw len i ht
      rw [hpc]
      subst hrest
      have next : ∀ (lv : x_L) (st : List Value) (T : x_T), x_ev E XT O B (x_cd tab) k ((x_cd tab).drop (j + 1)) lv st T = some q → x_mo T q.2 ∧ x_G p l e R s m args below meth c D cl C A nL n0 z0 sad ad0 (x_Q below args s D cl C A ad0 n0 z0 q) (pc + len) lv st T := by
        intro lv st T h
        have hlt : j + 1 < tab.length := by
          rcases Nat.lt_or_ge (j + 1) tab.length with h1 | h1
          · exact h1
          · rw [List.drop_eq_nil_of_le (by simpa [x_cd] using h1)] at h
            cases k <;> simp [x_ev] at h
        have := ih (j + 1) lv st T h
        rwa [hnx hlt] at this
      have plain : x_rs F Gp raw len i = true → x_s1 XT i lv st T (fun lv st T => x_ev E XT O B (x_cd tab) k ((x_cd tab).drop (j + 1)) lv st T) = some q → x_mo T q.2 ∧ x_G p l e R s m args below meth c D cl C A nL n0 z0 sad ad0 (x_Q below args s D cl C A ad0 n0 z0 q) pc lv st T := by
        intro hrs h
        exact x_s1_ok hc hdg hrs (fun lv' st' T' h' => next lv' st' T' h') h
      cases i with
      | goto t =>
        simp only [x_ev] at h
        simp only [x_rv] at hrv
        split at hrv
        · simp only [Bool.and_eq_true, beq_iff_eq, decide_eq_true_eq] at hrv
          obtain ⟨rfl, ht1⟩ := hrv
          exact x_jmp (ih _ lv st T h) (fun ad H locs cells slots ls g => lv_goto hx hb hdg ht1 g)
        · cases hrv
      | jsr_w t =>
        simp only [x_ev] at h
        simp only [x_rv] at hrv
        split at hrv
        · simp only [Bool.and_eq_true, beq_iff_eq, decide_eq_true_eq] at hrv
          obtain ⟨rfl, ht1⟩ := hrv
          split at h
          · exact x_jmp (hB _ lv T h) (fun ad H locs cells slots ls g => lv_goto hx hb hdg ht1 g)
          · cases h
        · cases hrv
      | ifCond cd t =>
        simp only [x_ev] at h
        simp only [x_rv] at hrv
        split at hrv
        · simp only [Bool.and_eq_true, beq_iff_eq, decide_eq_true_eq] at hrv
          obtain ⟨⟨rfl, rfl⟩, ht1⟩ := hrv
          split at h
          · refine x_o_ifc hc hdg ht1 (fun hh => ?_) (fun hh => ?_)
            · rw [if_pos hh] at h
              cases t with
              | ofNat t => exact ih _ _ _ _ h
              | negSucc t =>
                simp only at h
                split at h
                · exact hB _ _ _ h
                · cases h
            · rw [if_neg (by rw [hh]; decide)] at h; exact next _ _ _ h
          · cases h
        · cases hrv
      | if_icmp cd t =>
        simp only [x_ev] at h
        simp only [x_rv] at hrv
        split at hrv
        · simp only [Bool.and_eq_true, beq_iff_eq, decide_eq_true_eq] at hrv
          obtain ⟨⟨rfl, rfl⟩, ht1⟩ := hrv
          split at h
          · refine x_o_icm hc hdg ht1 (fun hh => ?_) (fun hh => ?_)
            · rw [if_pos hh] at h
              cases t with
              | ofNat t => exact ih _ _ _ _ h
              | negSucc t =>
                simp only at h
                split at h
                · exact hB _ _ _ h
                · cases h
            · rw [if_neg (by rw [hh]; decide)] at h; exact next _ _ _ h
          · cases h
        · cases hrv
      | tableswitch dd lo hi offs =>
        simp only [x_ev] at h
        simp only [x_rv] at hrv
        split at hrv
        · simp only [Bool.and_eq_true, beq_iff_eq, decide_eq_true_eq] at hrv
          obtain ⟨⟨⟨rfl, t1⟩, t2⟩, t3⟩ := hrv
          split at h
          · rename_i x st2
            rcases x_tsw (x := x) t1 t2 t3 with ⟨ho, hp⟩ | ⟨ha, hb2, off, ho, hp⟩
            · rw [hp] at h
              exact x_jmp (ih _ lv st2 T h) (fun ad H locs cells slots ls g => lv_tableOut hx hb hdg ho t1 g)
            · exact x_jmp (ih _ lv st2 T h) (fun ad H locs cells slots ls g => lv_tableIn hx hb hdg ha hb2 (by rw [← Array.getElem?_toList]; exact ho) hp g)
          · cases h
        · cases hrv
      | lookupswitch dd ps =>
        simp only [x_ev] at h
        simp only [x_rv] at hrv
        split at hrv
        · simp only [Bool.and_eq_true, beq_iff_eq, decide_eq_true_eq] at hrv
          obtain ⟨⟨t1, t2⟩, t3⟩ := hrv
          split at h
          · rename_i x st2
            exact x_jmp (ih _ lv st2 T h) (fun ad H locs cells slots ls g => lv_lookup hx hb hdg t3 rfl (x_lsw t1 _ _ t2) g)
          · cases h
        · cases hrv
      | return_ =>
        simp only [x_ev] at h
        simp only [x_rv, Bool.and_eq_true, beq_iff_eq, decide_eq_true_eq] at hrv
        obtain ⟨⟨rfl, rfl⟩, hr⟩ := hrv
        split at h
        · cases h
          exact x_o_vret hc (hret.trans hr) hlk hdg
        · cases h
      | ireturn =>
        simp only [x_ev] at h
        simp only [x_rv, Bool.and_eq_true, beq_iff_eq, decide_eq_true_eq] at hrv
        obtain ⟨⟨rfl, rfl⟩, hr⟩ := hrv
        split at h
        · cases h
          exact x_o_iret hc (hret.trans hr) hlk hdg
        · cases h
      | areturn =>
        simp only [x_ev] at h
        simp only [x_rv, Bool.and_eq_true, beq_iff_eq, decide_eq_true_eq] at hrv
        obtain ⟨⟨rfl, rfl⟩, hr⟩ := hrv
        split at h
        · have hx0 := x_g_some h
          clear h
          obtain ⟨hv, h⟩ := hx0
          have hv := of_decide_eq_true hv
          cases h
          exact x_o_zret hc (hret.trans hr) hlk (by rcases hv with rfl | rfl <;> decide) hdg
        · cases h
      | lreturn =>
        simp only [x_ev] at h
        simp only [x_rv, Bool.and_eq_true, beq_iff_eq, decide_eq_true_eq] at hrv
        obtain ⟨⟨rfl, rfl⟩, hr⟩ := hrv
        split at h
        · cases h
          exact x_o_lret hc (hret.trans hr) hlk hdg
        · cases h
      | new ci =>
        simp only [x_ev] at h
        simp only [x_rv] at hrv
        split at hrv
        · simp only [Bool.and_eq_true, beq_iff_eq, decide_eq_true_eq] at hrv
          obtain ⟨rfl, hv⟩ := hrv
          have hx0 := x_g_some h
          clear h
          obtain ⟨hok, h⟩ := hx0
          simp only [Bool.and_eq_true] at hok
          exact x_o_new hc (hF2 _ _ hv) hdg hok.1.1 hok.1.2 hok.2 (next _ _ _ h)
        · cases hrv
      | invokevirtual μ =>
        simp only [x_ev] at h
        simp only [x_rv] at hrv
        split at hrv
        · simp only [Bool.and_eq_true, beq_iff_eq, decide_eq_true_eq] at hrv
          obtain ⟨rfl, hv⟩ := hrv
          split at h
          · rename_i b r hst
            split at h
            · rename_i o hsh
              obtain ⟨ci, fs⟩ := o
              have hx0 := x_g_some h
              clear h
              obtain ⟨hok, h⟩ := hx0
              simp only [Bool.and_eq_true] at hok
              have hx1 := x_bd_some h
              clear h
              obtain ⟨v, T1, hO1, h⟩ := hx1
              have hC := hO _ _ _ _ hO1
              have hl2 := hF2 _ _ hv
              have hlen : (E.2.1 μ).1 ≤ st.length := by
                rcases Nat.lt_or_ge st.length (E.2.1 μ).1 with h1 | h1
                · rw [List.drop_eq_nil_of_le (by omega)] at hst; cases hst
                · exact h1
              have hste : st = ((st.take (E.2.1 μ).1).reverse).reverse ++ .ref b :: r := by rw [List.reverse_reverse, ← hst, List.take_append_drop]
              rw [hste]
              exact x_o_callV hc hl2 hxs (hGI _ hl2.1) hdg hC (by simp; omega) hsh (Nat.eq_of_beq_eq_true hok.1) (Nat.le_of_ble_eq_true hok.2.1) hok.2.2.1 hok.2.2.2 hR1 hR2 (next _ _ _ h)
            · cases h
          · cases h
        · cases hrv
      | checkcast μ =>
        simp only [x_ev] at h
        simp only [x_rv] at hrv
        split at hrv
        · simp only [Bool.and_eq_true, beq_iff_eq, decide_eq_true_eq] at hrv
          obtain ⟨rfl, hv⟩ := hrv
          split at h
          · rename_i b r hst
            have hx0 := x_g_some h
            clear h
            obtain ⟨hok, h⟩ := hx0
            simp only [Bool.and_eq_true] at hok
            have hx1 := x_bd_some h
            clear h
            obtain ⟨v, T1, hO1, h⟩ := hx1
            have hC := hO _ _ _ _ hO1
            have hl2 := hF2 _ _ hv
            have hlen : (E.2.1 μ).1 ≤ st.length := by
              rcases Nat.lt_or_ge st.length (E.2.1 μ).1 with h1 | h1
              · rw [List.drop_eq_nil_of_le (by omega)] at hst; cases hst
              · exact h1
            have hste : st = ((st.take (E.2.1 μ).1).reverse).reverse ++ .retAddr b :: r := by rw [List.reverse_reverse, ← hst, List.take_append_drop]
            rw [hste]
            exact x_o_callT hc hl2 hxs (hGI _ hl2.1) hdg hC (by simp; omega) (Nat.blt_eq.mp hok.1) (Nat.le_of_ble_eq_true hok.2.1) hok.2.2.1 hok.2.2.2 hR1 hR2 (next _ _ _ h)
          · cases h
        · cases hrv
      | invokespecial μ =>
        simp only [x_ev] at h
        simp only [x_rv] at hrv
        split at hrv
        · simp only [Bool.and_eq_true, beq_iff_eq, decide_eq_true_eq] at hrv
          obtain ⟨rfl, hv⟩ := hrv
          split at h
          · rename_i b r hst
            have hx0 := x_g_some h
            clear h
            obtain ⟨hok, h⟩ := hx0
            simp only [Bool.and_eq_true] at hok
            have hx1 := x_bd_some h
            clear h
            obtain ⟨v, T1, hO1, h⟩ := hx1
            have hC := hO _ _ _ _ hO1
            have hl2 := hF2 _ _ hv
            have hlen : (E.2.1 μ).1 ≤ st.length := by
              rcases Nat.lt_or_ge st.length (E.2.1 μ).1 with h1 | h1
              · rw [List.drop_eq_nil_of_le (by omega)] at hst; cases hst
              · exact h1
            have hste : st = ((st.take (E.2.1 μ).1).reverse).reverse ++ .ref b :: r := by rw [List.reverse_reverse, ← hst, List.take_append_drop]
            rw [hste]
            exact x_o_callI hc hl2 hxs (hGI _ hl2.1) hdg hC (by simp; omega) (Nat.le_of_ble_eq_true hok.1) hok.2.1 hok.2.2 hR1 hR2 (next _ _ _ h)
          · cases h
        · cases hrv
      | invokestatic μ =>
        simp only [x_ev] at h
        simp only [x_rv] at hrv
        split at hrv
        · simp only [Bool.and_eq_true, beq_iff_eq, decide_eq_true_eq] at hrv
          obtain ⟨rfl, hv⟩ := hrv
          have hx0 := x_g_some h
          clear h
          obtain ⟨hok, h⟩ := hx0
          simp only [Bool.and_eq_true] at hok
          have hx1 := x_bd_some h
          clear h
          obtain ⟨v, T1, hO1, h⟩ := hx1
          have hC := hO _ _ _ _ hO1
          have hl2 := hF2 _ _ hv
          have hste : st = ((st.take (E.2.1 μ).1).reverse).reverse ++ st.drop (E.2.1 μ).1 := by rw [List.reverse_reverse, List.take_append_drop]
          have hgo := x_o_callS (b := 0) (r := st.drop (E.2.1 μ).1) hc hl2 hxs (hGI _ hl2.1) hdg hC (by have := Nat.le_of_ble_eq_true hok.2.1; simp; omega) (Nat.le_of_ble_eq_true hok.1) hok.2.2.1 hok.2.2.2 hR1 hR2 (next _ _ _ h)
          rwa [← hste] at hgo
        · cases hrv
      | _ => exact plain hrv h
/-- all that is known of the methods: F and Gp of a method's class, its table -/
def x_ok (cl : List vw_C) (E : x_E) (X : x_X) (Ts0 : List Cond) (M : x_M) (F Gp : Nat → Nat → Option Instr) (tb : Nat → x_R) (μ : Nat) : Prop :=
  plainName (M μ).1.cls = true ∧ x_tok (M μ).2.1 (F μ) (Gp μ) (M μ).2.2.2 (tb μ) ∧ E.2.2.2 μ = x_cd (tb μ) ∧ E.2.2.1 μ = (M μ).2.2.1 ∧ (x_pc (tb μ) 0 = 0)
    ∧ (∀ ix i, F μ ix = some i → x_l2 Ts0 E M X (M μ).1.cls cl ix i) ∧ (∀ ix i, F μ ix = some i → ∀ (sad : Nat → Nat) (s : State), (∀ r ∈ X.1, vk_R r.1 r.2.1 r.2.2.1 (sad r.2.2.2) s) → x_lk Ts0 (M μ).1.cls cl sad s ix i)
    ∧ (∀ ix i, Gp μ ix = some i → ∀ (s : State) (meth : Method), meth.name = (M μ).1.name → x_pk Ts0 (M μ).1.cls cl s meth ix i)
end X10
end
section
section X10b
variable {E : x_E} {O : Nat → List Value → x_T → x_Z} {B : Nat → x_L → x_T → x_Z} {q : Option Value × x_T} {code : List Instr}
theorem x_mo_rf (T : x_T) : x_mo T T := ⟨Nat.le_refl _, Nat.le_refl _⟩
theorem x_mo_tr {T U V : x_T} (h : x_mo T U) (g : x_mo U V) : x_mo T V := ⟨Nat.le_trans h.1 g.1, Nat.le_trans h.2 g.2⟩
theorem x_mo_new (T : x_T) (sh : x_S) : x_mo T (x_new T sh) := ⟨by simp [x_new], by simp [x_new, x_z_app]⟩
theorem x_mo_sr {T : x_T} {a ci k d : Nat} {o : Nat × List (Option Nat)} (h : T.1[a]? = some (.inr o)) : x_mo T (x_sr T a ci k o.2 d) := by
  refine ⟨by simp [x_sr], ?_⟩
  simp only [x_sr]
  rw [x_z_set h (by simp [x_z1])]
  exact Nat.le_refl _
set_option maxHeartbeats 4000000 in
theorem x_s1_mo {XT : x_Xt} {i : Instr} {lv : x_L} {st : List Value} {T : x_T} {K : x_L → List Value → x_T → x_Z} (hK : ∀ lv st T', K lv st T' = some q → x_mo T' q.2) (h : x_s1 XT i lv st T K = some q) : x_mo T q.2 := by
  unfold x_s1 at h
  split at h
  all_goals (repeat' (first | split at h | (replace h := (x_g_some h).2)))
  all_goals first
    | (cases h; done)
    | exact hK _ _ _ h
    | exact x_mo_tr (x_mo_new _ _) (hK _ _ _ h)
    | exact ⟨(hK _ _ _ h).1, (hK _ _ _ h).2⟩
    | (rename_i o h1; exact x_mo_tr (x_mo_sr h1) (hK _ _ _ h))
set_option maxHeartbeats 4000000 in
theorem x_ev_mo {XT : x_Xt} (hO : ∀ μ vs T q', O μ vs T = some q' → x_mo T q'.2) (hB : ∀ j lv T, B j lv T = some q → x_mo T q.2) : ∀ (k : Nat) (rest : List Instr) (lv : x_L) (st : List Value) (T : x_T), x_ev E XT O B code k rest lv st T = some q → x_mo T q.2 := by
  intro k
  induction k with
  | zero => intro rest lv st T h; simp [x_ev] at h
  | succ k ih =>
    intro rest lv st T h
    cases rest with
    | nil => simp [x_ev] at h
    | cons i rest =>
      unfold x_ev at h
      split at h
      all_goals (repeat' (first | split at h | (replace h := (x_g_some h).2)))
      all_goals first
        | (cases h; done)
        | exact ih _ _ _ _ h
        | exact hB _ _ _ h
        | (cases h; exact x_mo_rf _)
        | exact x_mo_tr (x_mo_new _ _) (ih _ _ _ _ h)
        | (obtain ⟨v, T1, h1, h⟩ := x_bd_some h; exact x_mo_tr (hO _ _ _ _ h1) (ih _ _ _ _ h))
        | exact x_s1_mo (fun _ _ _ h => ih _ _ _ _ h) h
theorem x_P_mo {SO : Nat → List Value → x_T → x_Z} (hSO : ∀ μ vs T q, SO μ vs T = some q → x_mo T q.2) (k n : Nat) : ∀ (d μ : Nat) (vs : List Value) (T : x_T) (q : Option Value × x_T), x_P E SO k n d μ vs T = some q → x_mo T q.2 := by
  intro d
  induction d with
  | zero => intro μ vs T q h; simp [x_P] at h
  | succ d ih =>
    intro μ vs T q h
    simp only [x_P] at h
    split at h
    · split at h
      · exact hSO _ _ _ _ h
      · cases h
    split at h
    · have hB : ∀ (n' j : Nat) (lv : x_L) (T' : x_T), x_lp E x_nx (x_P E SO k n d) (E.2.2.2 μ) k n' j lv T' = some q → x_mo T' q.2 := by
        intro n'
        induction n' with
        | zero => intro j lv T' h; simp [x_lp] at h
        | succ n' ihn =>
          intro j lv T' h
          simp only [x_lp] at h
          exact x_ev_mo ih ihn _ _ _ _ _ h
      exact x_ev_mo ih (hB n) _ _ _ _ _ h
    · cases h
end X10b
end
section
section X11
variable {l : Launch} {cl : List vw_C} {E : x_E} {X : x_X} {Ts0 : List Cond} {M : x_M} {F Gp : Nat → Nat → Option Instr} {tb : Nat → x_R}
theorem x_vcat (ad sad : Nat → Nat) (v : Value) : (x_val ad sad v).category = v.category := by cases v <;> rfl
theorem x_ar_len (ad sad : Nat → Nat) : ∀ vs : List Value, (lg_sl (vs.map (x_val ad sad))).length = (x_ar vs).length
  | [] => rfl
  | v :: l => by
    have ih := x_ar_len ad sad l
    simp only [lg_sl, List.map_cons, List.flatMap_cons, List.length_append, x_ar, x_vcat] at ih ⊢
    split
    · simp only [List.length_cons, List.length_nil, ih]; omega
    · simp only [List.length_cons, List.length_nil, ih]; omega
theorem x_ar_in (ad sad : Nat → Nat) : ∀ (vs : List Value) (k j : Nat) (v : Value), (x_ar vs)[j]? = some (some v) → (k + j, x_val ad sad v) ∈ lv_args k (vs.map (x_val ad sad))
  | [], k, j, v, h => by simp [x_ar] at h
  | a :: l, k, j, v, h => by
    simp only [x_ar] at h
    simp only [List.map_cons, lv_args, x_vcat]
    split at h
    · rename_i hcat
      match j, h with
      | 0, h => simp at h; subst h; exact List.mem_cons_self
      | 1, h => simp at h
      | j + 2, h =>
        simp at h
        have := x_ar_in ad sad l (k + 2) j v h
        rw [show k + (j + 2) = k + 2 + j by omega]
        refine List.mem_cons_of_mem _ ?_
        simpa [hcat] using this
    · rename_i hcat
      match j, h with
      | 0, h => simp at h; subst h; exact List.mem_cons_self
      | j + 1, h =>
        simp at h
        have := x_ar_in ad sad l (k + 1) j v h
        rw [show k + (j + 1) = k + 1 + j by omega]
        refine List.mem_cons_of_mem _ ?_
        have h1 : a.category = 1 := by rcases lv_cat a with h | h; exact h; exact absurd h hcat
        simpa [hcat, h1] using this
set_option maxHeartbeats 4000000 in
/-- EVERY METHOD: what x_P answers is what the machine does -/
theorem x_P_ok {SO : Nat → List Value → x_T → x_Z} (hok : ∀ μ, μ < 1000 → x_ok cl E X Ts0 M F Gp tb μ) (hSO : ∀ μ vs T q, SO μ vs T = some q → x_mo T q.2 ∧ ∀ d, 8 ≤ d → x_C l cl X Ts0 M (d + 1) μ vs T q) (hgood : ∀ w ∈ Ts0, goodWord w = true) (har : Cond.arrayClass .int ∈ Ts0 ∧ Cond.arrayClass .boolean ∈ Ts0 ∧ Cond.arrayClass .long ∈ Ts0) (k n : Nat) : ∀ (d μ : Nat) (vs : List Value) (T : x_T) (q : Option Value × x_T), x_P E SO k n d μ vs T = some q → x_C l cl X Ts0 M d μ vs T q := by
  intro d
  induction d with
  | zero => intro μ vs T q h; simp [x_P] at h
  | succ d ih =>
    intro μ vs T q h
    have h0 := h
    simp only [x_P] at h
    split at h
    case isTrue hbig =>
      split at h
      · rename_i hd
        exact (hSO _ _ _ _ h).2 d (Nat.le_of_ble_eq_true hd)
      · cases h
    case isFalse hbig =>
    split at h
    case isFalse => cases h
    case isTrue hlen =>
    obtain ⟨hpl, htok, hcode, hloc, hpc0, hF2, hF1, hGp⟩ := hok μ (by rcases Nat.lt_or_ge μ 1000 with h | h; exact h; exact absurd (Nat.ble_eq_true_of_le h) hbig)
    have key : ∀ (ad sad adV : Nat → Nat) (D : va_G) (C : FieldType → ClassId) (p : Program) (e : Env) (s : State) (m : MethodId) (args : Array Value) (below : List Frame) (meth : Method) (c : Code) (s₁ : State), BodyLoose p l (M μ).1 (headSpec (x_ws Ts0 M μ) (x_rm (d + 1) (q.2.1.length - T.1.length) (x_z q.2.1 - x_z T.1))) (M μ).2.1 (M μ).2.2.1 (M μ).2.2.2 e s m args below meth c s₁ → c.maxLocals = (M μ).2.2.1 → va_K D cl (x_tys C) s → x_xs X sad adV (va_A (x_W ad C T) s.heap.size) s →
        x_mo T q.2 ∧ x_G p l e (x_rm (d + 1) (q.2.1.length - T.1.length) (x_z q.2.1 - x_z T.1)) s m args below meth c D cl C (va_A (x_W ad C T) s.heap.size) (M μ).2.2.1 T.1.length (x_z T.1) sad ad (x_Q below args s D cl C (va_A (x_W ad C T) s.heap.size) ad T.1.length (x_z T.1) q) 0 (x_ar vs ++ List.replicate (E.2.2.1 μ - (x_ar vs).length) none) [] T := by
      intro ad sad adV D C p e s m args below meth c s₁ Bd hml hKa hxs
      have hts0 := atoms_spec (ws := x_ws Ts0 M μ) Bd.pre
      have hc : x_cx p (x_rm (d + 1) (q.2.1.length - T.1.length) (x_z q.2.1 - x_z T.1)) s m args meth c (M μ).2.1 D cl C (va_A (x_W ad C T) s.heap.size) (M μ).2.2.1 T.1.length (x_z T.1) sad (M μ).1.cls Ts0 (F μ) (Gp μ) x_nx q := by
        refine ⟨Bd.exec, Bd.bytes, hml, findClass_of_methodNamed Bd.named, fun w hw => hts0 w (List.mem_cons_of_mem _ hw), hKa, fun q hq => Or.inr hq, fun ix i hi => hF1 ix i hi sad s hxs.1, fun ix i hi => hGp ix i hi s meth (name_of_methodNamed Bd.named Bd.method).1, ?_, ?_, ?_, ?_, ?_, fun j n f h => by cases h⟩
        · show 1 ≤ d + 1; omega
        · show 60 ≤ 100 * (d + 1); omega
        · show q.2.1.length ≤ T.1.length + (q.2.1.length - T.1.length); omega
        · show x_z q.2.1 ≤ x_z T.1 + (x_z q.2.1 - x_z T.1); omega
        · intro ty
          by_cases h1 : ty = .int
          · subst h1; exact Or.inl har.1
          · by_cases h2 : ty = .boolean
            · subst h2; exact Or.inl har.2.1
            · by_cases h3 : ty = .long
              · subst h3; exact Or.inl har.2.2
              · exact Or.inr ⟨h1, h2, h3⟩
      have h2 : x_c2 (x_rm (d + 1) (q.2.1.length - T.1.length) (x_z q.2.1 - x_z T.1)) s meth (M μ).2.1 cl (va_A (x_W ad C T) s.heap.size) sad adV (M μ).1.cls Ts0 Ts0 (F μ) (Gp μ) E X M d (M μ).2.2.2 (tb μ) := by
        refine ⟨htok, Bd.returns, Bd.notSynchronized, hF2, hxs, fun μ' hmk w hw => ?_, ?_, ?_⟩
        · have hm : w ∈ Ts0 := by
            rcases List.mem_cons.mp hw with rfl | h
            · exact hmk.1
            · exact h
          exact ⟨hm, good_of_word (hgood w hm)⟩
        · show d + 1 ≤ d + 1; omega
        · show 100 * d + 100 ≤ 100 * (d + 1); omega
      have hB : ∀ (n' j : Nat) (lv : x_L) (T' : x_T), x_lp E x_nx (x_P E SO k n d) (x_cd (tb μ)) k n' j lv T' = some q → x_mo T' q.2 ∧ x_G p l e (x_rm (d + 1) (q.2.1.length - T.1.length) (x_z q.2.1 - x_z T.1)) s m args below meth c D cl C (va_A (x_W ad C T) s.heap.size) (M μ).2.2.1 T.1.length (x_z T.1) sad ad (x_Q below args s D cl C (va_A (x_W ad C T) s.heap.size) ad T.1.length (x_z T.1) q) (x_pc (tb μ) j) lv [] T' := by
        intro n'
        induction n' with
        | zero => intro j lv T' h; simp [x_lp] at h
        | succ n' ihn =>
          intro j lv T' h
          simp only [x_lp] at h
          exact x_ev_ok hc h2 ih ihn k j lv [] T' h
      rw [hcode] at h
      have hres := x_ev_ok hc h2 ih (hB n) k 0 _ [] T (by rw [List.drop_zero]; exact h)
      rwa [hpc0] at hres
    refine ⟨?_, fun ad sad adV D C sz => ?_⟩
    · exact x_P_mo (fun _ _ _ _ h => (hSO _ _ _ _ h).1) k n (d + 1) μ vs T q h0
    · refine Met.ofW (cc := (M μ).2.1) (maxL := (M μ).2.2.1) (ret := (M μ).2.2.2) hpl rfl ?_
      intro p e s m args below meth c s₁ Bd hml hv
      obtain ⟨rfl, hsz, hP, hKa, hD0, hxs⟩ := hv
      subst hsz
      have hg := (key ad sad adV D C p e s m _ below meth c s₁ Bd hml hKa hxs).2
      have hl := lv_entry (vs.map (x_val ad sad)) (n := (M μ).2.2.1) (by rw [x_ar_len]; omega)
      rw [lg_entry_eq]
      refine hg ad s.heap [] 0 0 _ (fun _ _ => rfl) hP (hD0.self) va_S.rf ⟨_, hl, by rw [List.length_append, List.length_replicate]; omega, fun j v hj => ?_⟩ (Nat.zero_add _) (Nat.zero_add _)
      have hj2 : (x_ar vs)[j]? = some (some v) := by
        rcases Nat.lt_or_ge j (x_ar vs).length with h1 | h1
        · rwa [List.getElem?_append_left h1] at hj
        · rw [List.getElem?_append_right h1, List.getElem?_replicate] at hj
          split at hj
          · cases hj
          · cases hj
      have := x_ar_in ad sad vs 0 j v hj2
      rwa [Nat.zero_add] at this
end X11
end
section
/-! ===== the tables of the classes and methods, checked ===== -/
/-- classes with the types of their fields; methods: name, code, locals, returned type, parameters, receiver's class; of each class the constants that are used -/
abbrev x_CL : Type := List (vw_C × (Nat → FieldType))
abbrev x_ML : Type := List ((MethodName × ByteArray × Nat × Option FieldType) × Nat × Nat)
abbrev x_PL : Type := List (String × List (Nat × Instr))
def x_cl (CL : x_CL) : List vw_C := CL.map (fun q => q.1)
def x_m0 : MethodName × ByteArray × Nat × Option FieldType := (⟨"", "", ""⟩, ⟨#[]⟩, 0, none)
def x_Mf (ML : x_ML) : x_M := fun μ => (ML[μ]?.map (fun q => q.1)).getD x_m0
def x_d1 (t : FieldType) : Option Nat := match t with
  | .int => none
  | .boolean => none
  | _ => some 0
def x_dfl (ty : Nat → FieldType) (N : Nat) : List (Option Nat) := (List.range N).map (fun k => x_d1 (ty k))
def x_pool (PL : x_PL) (own : String) : List (Nat × Instr) := (PL.lookup own).getD []
def x_Ff (PL : x_PL) (ML : x_ML) (μ : Nat) (ix : Nat) : Option Instr := (x_pool PL (x_Mf ML μ).1.cls).lookup ix
/-- how a field is written -/
def x_gp1 (CL : x_CL) (own name : String) (i : Instr) : Option Instr := match i with
  | .invokeinterface ci k => match CL[ci]? with
    | some (r, ty) => if k < r.2.2 ∧ k < 1000 ∧ ((r.2.1 k).2.2.2 = false ∨ (name = "<init>" ∧ (r.2.1 k).1 = own)) then (match ty k with
      | .int => some (.multianewarray ci k)
      | .boolean => some (.multianewarray ci (k + 1000))
      | .object _ => some (.multianewarray ci (k + 2000))
      | .array _ => some (.multianewarray ci (k + 2000))
      | _ => none) else none
    | none => none
  | _ => none
def x_Gf (CL : x_CL) (PL : x_PL) (ML : x_ML) (μ : Nat) (ix : Nat) : Option Instr := match x_Ff PL ML μ ix with
  | some i => x_gp1 CL (x_Mf ML μ).1.cls (x_Mf ML μ).1.name i
  | none => none
def x_Ef (CL : x_CL) (ML : x_ML) (TB : List x_R) : x_E := (fun ci => match CL[ci]? with | some (r, ty) => x_dfl ty r.2.2 | none => [], fun μ => (ML[μ]?.map (fun q => q.2)).getD (0, 0), fun μ => (x_Mf ML μ).2.2.1, fun μ => x_cd (TB[μ]?.getD []))
/-- the words that a method needs that is called -/
def x_nm (ML : x_ML) (μ : Nat) : List Cond := [.code (x_Mf ML μ).1 (x_Mf ML μ).2.1 (x_Mf ML μ).2.2.1 (x_Mf ML μ).2.2.2, .initialized (x_Mf ML μ).1.cls]
def x_ne (X : x_X) (ML : x_ML) (own : String) (ix μ : Nat) : List Cond := if X.2.2.2.2.1.any (fun r => decide (r.1 = own) && decide (r.2.1 = ix) && decide (r.2.2.1 = (x_Mf ML μ).1)) then [] else [.methodLink own ix (x_Mf ML μ).1]
/-- the words that a constant needs -/
def x_need (CL : x_CL) (X : x_X) (ML : x_ML) (own : String) (ix : Nat) (i : Instr) : List Cond := match i with
  | .iconst v => [.constant own ix (Int32.ofInt v)]
  | .jsr v => [.constantLong own ix (Int64.ofInt v)]
  | .invokeinterface ci k => match CL[ci]? with
    | some (r, _) => [.fieldLink own ix (r.2.1 k).1 (r.2.1 k).2.1 (r.2.1 k).2.2.1]
    | none => []
  | .pop => [.methodLink own ix Lib.objectInit, .instanceMethod Lib.objectInit, .code Lib.objectInit ⟨#[0xb1]⟩ 1 none]
  | .invokedynamic 0 => [.methodLink own ix Lib.Math.max.name, .static Lib.Math.max.name, .initialized "java/lang/Math", .code Lib.Math.max.name Lib.Math.max.code 2 (some .int)]
  | .invokedynamic 1 => [.methodLink own ix Lib.Math.min.name, .static Lib.Math.min.name, .initialized "java/lang/Math", .code Lib.Math.min.name Lib.Math.min.code 2 (some .int)]
  | .invokedynamic 2 => [.methodLink own ix arraycopyName, .native arraycopyName, .static arraycopyName, .initialized "java/lang/System"]
  | .new ci => match CL[ci]? with
    | some (r, _) => [.classLink own ix r.1, .instantiable r.1 r.2.2, .initialized r.1]
    | none => []
  | .invokevirtual μ => x_ne X ML own ix μ ++ [.instanceMethod (x_Mf ML μ).1, .selects (x_Mf ML μ).1.cls (x_Mf ML μ).1 (x_Mf ML μ).1]
  | .invokestatic μ => x_ne X ML own ix μ ++ [.static (x_Mf ML μ).1]
  | .invokespecial μ => x_ne X ML own ix μ ++ [.instanceMethod (x_Mf ML μ).1]
  | .checkcast μ => [.methodLink own ix (x_Mf ML μ).1, .instanceMethod (x_Mf ML μ).1, .selects (x_Mf ML μ).1.cls (x_Mf ML μ).1 (x_Mf ML μ).1]
  | _ => []
/-- the rest that a constant needs -/
def x_mck (MU : List Nat) (ML : x_ML) (μ : Nat) : Bool := decide (μ ∈ MU) && decide ((x_Mf ML μ).1.cls ≠ "java/lang/invoke/MethodHandle") && decide ((x_Mf ML μ).1.cls ≠ "java/lang/invoke/VarHandle") && decide ((parseMethodDescriptor (x_Mf ML μ).1.desc).map (fun d => d.parameters.length) = some ((ML[μ]?.map (fun q => q.2)).getD (0, 0)).1) && decide ((x_Mf ML μ).2.2.1 ≤ 80)
def x_chk (MU : List Nat) (CL : x_CL) (X : x_X) (ML : x_ML) (own : String) (ix : Nat) (i : Instr) : Bool := match i with
  | .iconst _ => true
  | .jsr _ => true
  | .ldc j => X.1.any (fun r => decide (r.1 = own) && decide (r.2.1 = ix) && decide (r.2.2.2 = j))
  | .invokeinterface ci k => match CL[ci]? with
    | some (r, _) => decide (k < r.2.2)
    | none => false
  | .pop => true
  | .invokedynamic b => decide (b < 3)
  | .new ci => match CL[ci]? with
    | some _ => true
    | none => false
  | .invokevirtual μ => x_mck MU ML μ && (match CL[((ML[μ]?.map (fun q => q.2)).getD (0, 0)).2]? with
    | some (r, _) => decide (r.1 = (x_Mf ML μ).1.cls)
    | none => false)
  | .invokestatic μ => x_mck MU ML μ
  | .invokespecial μ => x_mck MU ML μ && decide ((x_Mf ML μ).1.name = "<init>") && decide ((x_Mf ML μ).2.2.2 = none)
  | .checkcast μ => x_mck MU ML μ && decide ((x_Mf ML μ).1.cls = "java/lang/String") && decide (2 ≤ X.2.1)
  | _ => false
/-- the words of all constants, of the classes' fields, of arrays -/
def x_all (MU : List Nat) (CL : x_CL) (X : x_X) (ML : x_ML) (PL : x_PL) : List Cond := ([.arrayClass .int, .arrayClass .boolean, .arrayClass .long] ++ MU.flatMap (x_nm ML)) ++ CL.flatMap (fun q => u_ws q.1.1 q.1.2.1 q.1.2.2) ++ PL.flatMap (fun q => q.2.flatMap (fun r => x_need CL X ML q.1 r.1 r.2))
def x_clk (CL : x_CL) : Prop := ∀ q ∈ CL, (∀ k, k < q.1.2.2 → parseFieldDescriptor (q.1.2.1 k).2.2.1 = some (q.2 k)) ∧ (∀ a, a < q.1.2.2 → ∀ b, b < q.1.2.2 → a ≠ b → (q.1.2.1 a).2.1 ≠ (q.1.2.1 b).2.1) ∧ ∀ k, k < q.1.2.2 → (q.2 k = .int ∨ q.2 k = .boolean) ∨ ((∃ n, q.2 k = FieldType.object n) ∨ ∃ t, q.2 k = FieldType.array t)
/-- a method's table against its constants; the decoding is checked apart -/
def x_tck (F Gp : Nat → Option Instr) (ret : Option FieldType) (tab : x_R) : Bool := (List.range tab.length).all (fun j => match tab[j]? with
  | some r => x_rv F Gp ret (x_pc tab) r.1 r.2.1 r.2.2.1 r.2.2.2 && (decide (tab.length ≤ j + 1) || decide (x_pc tab (j + 1) = r.1 + r.2.2.1))
  | none => true)
def x_dck (cc : ByteArray) (tab : x_R) : Bool := tab.all (fun r => decide (decode cc r.1 = .ok (r.2.1, r.2.2.1)))
section X12
variable {CL : x_CL} {X : x_X} {ML : x_ML} {PL : x_PL} {TB : List x_R} {MU : List Nat}
theorem x_look {α : Type} {l : List (Nat × α)} {k : Nat} {v : α} (h : l.lookup k = some v) : (k, v) ∈ l := by
  induction l with
  | nil => simp at h
  | cons a l ih =>
    obtain ⟨b, w⟩ := a
    rw [List.lookup_cons] at h
    cases hk : k == b with
    | true =>
      rw [hk] at h
      simp only [beq_iff_eq] at hk
      cases h
      subst hk
      exact List.mem_cons_self
    | false =>
      rw [hk] at h
      exact List.mem_cons_of_mem _ (ih h)
theorem x_lookS {α : Type} {l : List (String × α)} {k : String} {v : α} (h : l.lookup k = some v) : (k, v) ∈ l := by
  induction l with
  | nil => simp at h
  | cons a l ih =>
    obtain ⟨b, w⟩ := a
    rw [List.lookup_cons] at h
    cases hk : k == b with
    | true =>
      rw [hk] at h
      simp only [beq_iff_eq] at hk
      cases h
      subst hk
      exact List.mem_cons_self
    | false =>
      rw [hk] at h
      exact List.mem_cons_of_mem _ (ih h)
theorem x_F_in {μ ix : Nat} {i : Instr} (h : x_Ff PL ML μ ix = some i) : ∃ q ∈ PL, q.1 = (x_Mf ML μ).1.cls ∧ (ix, i) ∈ q.2 := by
  unfold x_Ff x_pool at h
  cases hl : PL.lookup (x_Mf ML μ).1.cls with
  | none => rw [hl] at h; simp at h
  | some pl =>
    rw [hl] at h
    exact ⟨_, x_lookS hl, rfl, x_look h⟩
theorem x_need_in {q : String × List (Nat × Instr)} {r : Nat × Instr} (hq : q ∈ PL) (hr : r ∈ q.2) : ∀ w ∈ x_need CL X ML q.1 r.1 r.2, w ∈ x_all MU CL X ML PL := by
  intro w hw
  unfold x_all
  exact List.mem_append_right _ (List.mem_flatMap.mpr ⟨q, hq, List.mem_flatMap.mpr ⟨r, hr, hw⟩⟩)
theorem x_cl_at {ci : Nat} {r : vw_C} {ty : Nat → FieldType} (h : CL[ci]? = some (r, ty)) : (x_cl CL)[ci]? = some r := by simp [x_cl, h]
theorem x_ws_in {q : vw_C × (Nat → FieldType)} (hq : q ∈ CL) : ∀ w ∈ u_ws q.1.1 q.1.2.1 q.1.2.2, w ∈ x_all MU CL X ML PL := by
  intro w hw
  unfold x_all
  exact List.mem_append_left _ (List.mem_append_right _ (List.mem_flatMap.mpr ⟨q, hq, hw⟩))
theorem x_nm_in {μ : Nat} (h : μ ∈ MU) : ∀ w ∈ x_nm ML μ, w ∈ x_all MU CL X ML PL := by
  intro w hw
  unfold x_all
  exact List.mem_append_left _ (List.mem_append_left _ (List.mem_append_right _ (List.mem_flatMap.mpr ⟨μ, h, hw⟩)))
theorem x_mk_of {μ : Nat} (h : x_mck MU ML μ = true) : x_mk (x_all MU CL X ML PL) (x_Ef CL ML TB) (x_Mf ML) μ := by
  simp only [x_mck, Bool.and_eq_true, decide_eq_true_eq] at h
  obtain ⟨⟨⟨⟨h0, h1⟩, h2⟩, h3⟩, h4⟩ := h
  exact ⟨x_nm_in h0 _ (by simp [x_nm]), x_nm_in h0 _ (by simp [x_nm]), ⟨h1, h2, h3⟩, h4⟩
theorem x_ne_of {Ts : List Cond} {own : String} {ix μ : Nat} (hw : ∀ w ∈ x_ne X ML own ix μ, w ∈ Ts) : Cond.methodLink own ix (x_Mf ML μ).1 ∈ Ts ∨ ∃ host, (own, ix, (x_Mf ML μ).1, host) ∈ X.2.2.2.2.1 := by
  unfold x_ne at hw
  split at hw
  · rename_i h
    obtain ⟨r, hr, h2⟩ := List.any_eq_true.mp h
    simp only [Bool.and_eq_true, decide_eq_true_eq] at h2
    obtain ⟨⟨h3, h4⟩, h5⟩ := h2
    obtain ⟨a, b, c, d⟩ := r
    simp only at h3 h4 h5
    subst h3; subst h4; subst h5
    exact Or.inr ⟨d, hr⟩
  · exact Or.inl (hw _ (by simp))
end X12
end
section
section X13
variable {CL : x_CL} {X : x_X} {ML : x_ML} {PL : x_PL} {TB : List x_R} {MU : List Nat}
theorem x_l2_of {own : String} {ix : Nat} {i : Instr} (hcl : x_clk CL) (hc : x_chk MU CL X ML own ix i = true) (hw : ∀ w ∈ x_need CL X ML own ix i, w ∈ x_all MU CL X ML PL) : x_l2 (x_all MU CL X ML PL) (x_Ef CL ML TB) (x_Mf ML) X own (x_cl CL) ix i := by
  unfold x_l2
  split
  · rename_i ci
    simp only [x_chk] at hc
    split at hc
    · rename_i q hq
      obtain ⟨⟨Cn, Tn, N⟩, ty⟩ := q
      simp only [x_need, hq] at hw
      obtain ⟨h1, h2, h3⟩ := hcl _ (List.mem_of_getElem? hq)
      refine ⟨Cn, Tn, N, ty, x_cl_at hq, x_ws_in (List.mem_of_getElem? hq), h1, hw _ (by simp), hw _ (by simp), hw _ (by simp), ?_⟩
      simp only [x_Ef, hq]
      refine ⟨by simp [x_dfl], fun j hj => ?_⟩
      have hget : (x_dfl ty N)[j]? = some (x_d1 (ty j)) := by simp [x_dfl, hj]
      rw [hget]
      rcases h3 j hj with (h | h) | ⟨n, h⟩ | ⟨n, h⟩
      · simp only at h; rw [h]; exact Or.inl ⟨rfl, Or.inl rfl⟩
      · simp only at h; rw [h]; exact Or.inl ⟨rfl, Or.inr rfl⟩
      · simp only at h; rw [h]; exact Or.inr ⟨rfl, Or.inl ⟨n, rfl⟩⟩
      · simp only at h; rw [h]; exact Or.inr ⟨rfl, Or.inr ⟨n, rfl⟩⟩
    · cases hc
  · rename_i μ
    simp only [x_chk, Bool.and_eq_true] at hc
    obtain ⟨h1, h2⟩ := hc
    simp only [x_need] at hw
    refine ⟨x_mk_of h1, x_ne_of (fun w h => hw w (List.mem_append_left _ h)), hw _ (by simp), hw _ (by simp), ?_⟩
    split at h2
    · rename_i r ty hq
      obtain ⟨Cn, Tn, N⟩ := r
      simp only [decide_eq_true_eq] at h2
      exact ⟨Tn, N, by rw [← h2]; exact x_cl_at hq⟩
    · cases h2
  · rename_i μ
    simp only [x_chk] at hc
    simp only [x_need] at hw
    exact ⟨x_mk_of hc, x_ne_of (fun w h => hw w (List.mem_append_left _ h)), hw _ (by simp)⟩
  · rename_i μ
    simp only [x_chk, Bool.and_eq_true, decide_eq_true_eq] at hc
    simp only [x_need] at hw
    exact ⟨x_mk_of hc.1.1, x_ne_of (fun w h => hw w (List.mem_append_left _ h)), hw _ (by simp), hc.1.2, hc.2⟩
  · rename_i μ
    simp only [x_chk, Bool.and_eq_true, decide_eq_true_eq] at hc
    simp only [x_need] at hw
    exact ⟨x_mk_of hc.1.1, hw _ (by simp), hw _ (by simp), hw _ (by simp), hc.1.2, hc.2⟩
  · trivial
theorem x_lk_of {own : String} {ix : Nat} {i : Instr} {sad : Nat → Nat} {s : State} (hs : ∀ r ∈ X.1, vk_R r.1 r.2.1 r.2.2.1 (sad r.2.2.2) s) (hc : x_chk MU CL X ML own ix i = true) (hw : ∀ w ∈ x_need CL X ML own ix i, w ∈ x_all MU CL X ML PL) : x_lk (x_all MU CL X ML PL) own (x_cl CL) sad s ix i := by
  unfold x_lk
  split
  · exact hw _ (by simp [x_need])
  · exact hw _ (by simp [x_need])
  · rename_i j
    simp only [x_chk] at hc
    obtain ⟨r, hr, h2⟩ := List.any_eq_true.mp hc
    simp only [Bool.and_eq_true, decide_eq_true_eq] at h2
    obtain ⟨⟨h3, h4⟩, h5⟩ := h2
    have := hs r hr
    rw [h3, h4, h5] at this
    exact ⟨_, this⟩
  · rename_i ci k
    simp only [x_chk] at hc
    split at hc
    · rename_i r ty hq
      obtain ⟨Cn, Tn, N⟩ := r
      simp only [decide_eq_true_eq] at hc
      simp only [x_need, hq] at hw
      exact ⟨Cn, Tn, N, x_cl_at hq, hc, x_ws_in (List.mem_of_getElem? hq), Or.inl (hw _ (by simp))⟩
    · cases hc
  · exact ⟨hw _ (by simp [x_need]), hw _ (by simp [x_need]), hw _ (by simp [x_need])⟩
  · exact ⟨hw _ (by simp [x_need]), hw _ (by simp [x_need]), hw _ (by simp [x_need]), hw _ (by simp [x_need])⟩
  · exact ⟨hw _ (by simp [x_need]), hw _ (by simp [x_need]), hw _ (by simp [x_need]), hw _ (by simp [x_need])⟩
  · exact ⟨hw _ (by simp [x_need]), hw _ (by simp [x_need]), hw _ (by simp [x_need]), hw _ (by simp [x_need])⟩
  · trivial
theorem x_kk_1 {k : Nat} (h : k < 1000) : x_kk k = k := if_pos h
theorem x_kk_2 {k : Nat} (h : k < 1000) : x_kk (k + 1000) = k := by unfold x_kk; rw [if_neg (by omega), if_pos (by omega)]; omega
theorem x_kk_3 {k : Nat} (h : k < 1000) : x_kk (k + 2000) = k := by unfold x_kk; rw [if_neg (by omega), if_neg (by omega)]; omega
set_option maxHeartbeats 1000000 in
theorem x_pk_of {own : String} {ix : Nat} {i0 i : Instr} {s : State} {meth : Method} (hcl : x_clk CL) (hi : x_gp1 CL own meth.name i0 = some i) (hw : ∀ w ∈ x_need CL X ML own ix i0, w ∈ x_all MU CL X ML PL) : x_pk (x_all MU CL X ML PL) own (x_cl CL) s meth ix i := by
  unfold x_gp1 at hi
  split at hi
  · rename_i ci k
    split at hi
    · rename_i r ty hq
      obtain ⟨Cn, Tn, N⟩ := r
      simp only [x_need, hq] at hw
      obtain ⟨h1, h2, h3⟩ := hcl _ (List.mem_of_getElem? hq)
      split at hi
      · rename_i hk
        obtain ⟨k1, k2, k3⟩ := hk
        simp only at k1 k3 h1 h2
        have hl := hw _ (List.mem_cons_self)
        have hlink : ∀ kk, x_kk kk = k → (((Cond.fieldLink own ix (Tn (x_kk kk)).1 (Tn (x_kk kk)).2.1 (Tn (x_kk kk)).2.2.1 ∈ x_all MU CL X ML PL ∨ ∃ host, va_Nw (Cond.fieldLinkNest own ix (Tn (x_kk kk)).1 (Tn (x_kk kk)).2.1 (Tn (x_kk kk)).2.2.1 host) s) ∧ (Tn (x_kk kk)).2.2.2 = false)
            ∨ (Cond.fieldLink own ix (Tn (x_kk kk)).1 (Tn (x_kk kk)).2.1 (Tn (x_kk kk)).2.2.1 ∈ x_all MU CL X ML PL ∧ (Tn (x_kk kk)).2.2.2 = true ∧ meth.name = "<init>" ∧ (Tn (x_kk kk)).1 = own)) := by
          intro kk hkk
          rw [hkk]
          cases hf : (Tn k).2.2.2 with
          | false => exact Or.inl ⟨Or.inl hl, rfl⟩
          | true =>
            rcases k3 with k3 | ⟨k3, k4⟩
            · rw [hf] at k3; cases k3
            · exact Or.inr ⟨hl, rfl, k3, k4⟩
        split at hi
        · rename_i hty
          cases hi
          exact ⟨Cn, Tn, N, ty, x_cl_at hq, by rw [x_kk_1 k2]; exact k1, x_ws_in (List.mem_of_getElem? hq), h1, h2, Or.inl ⟨k2, by rw [x_kk_1 k2]; exact hty⟩, hlink _ (x_kk_1 k2)⟩
        · rename_i hty
          cases hi
          exact ⟨Cn, Tn, N, ty, x_cl_at hq, by rw [x_kk_2 k2]; exact k1, x_ws_in (List.mem_of_getElem? hq), h1, h2, Or.inr (Or.inl ⟨by omega, by omega, by rw [x_kk_2 k2]; exact hty⟩), hlink _ (x_kk_2 k2)⟩
        · rename_i hty
          cases hi
          exact ⟨Cn, Tn, N, ty, x_cl_at hq, by rw [x_kk_3 k2]; exact k1, x_ws_in (List.mem_of_getElem? hq), h1, h2, Or.inr (Or.inr ⟨by omega, Or.inl ⟨_, by rw [x_kk_3 k2]; exact hty⟩⟩), hlink _ (x_kk_3 k2)⟩
        · rename_i hty
          cases hi
          exact ⟨Cn, Tn, N, ty, x_cl_at hq, by rw [x_kk_3 k2]; exact k1, x_ws_in (List.mem_of_getElem? hq), h1, h2, Or.inr (Or.inr ⟨by omega, Or.inr ⟨_, by rw [x_kk_3 k2]; exact hty⟩⟩), hlink _ (x_kk_3 k2)⟩
        · cases hi
      · cases hi
    · cases hi
  · cases hi
theorem x_tok_of {cc : ByteArray} {F Gp : Nat → Option Instr} {ret : Option FieldType} {tab : x_R} (h1 : x_tck F Gp ret tab = true) (h2 : x_dck cc tab = true) : x_tok cc F Gp ret tab := by
  intro j pc raw len res hj
  have hlt : j < tab.length := (List.getElem?_eq_some_iff.mp hj).1
  have a := List.all_eq_true.mp h1 j (List.mem_range.mpr hlt)
  rw [hj] at a
  simp only [Bool.and_eq_true, Bool.or_eq_true, decide_eq_true_eq] at a
  have b := List.all_eq_true.mp h2 _ (List.mem_of_getElem? hj)
  simp only [decide_eq_true_eq] at b
  refine ⟨b, a.1, fun h => ?_⟩
  rcases a.2 with c | c
  · omega
  · exact c
theorem x_ok_of (hcl : x_clk CL) (hchk : ∀ q ∈ PL, ∀ r ∈ q.2, x_chk MU CL X ML q.1 r.1 r.2 = true) {μ : Nat} (hpl : plainName (x_Mf ML μ).1.cls = true) (h1 : x_tck (x_Ff PL ML μ) (x_Gf CL PL ML μ) (x_Mf ML μ).2.2.2 (TB[μ]?.getD []) = true) (h2 : x_dck (x_Mf ML μ).2.1 (TB[μ]?.getD []) = true) (h3 : x_pc (TB[μ]?.getD []) 0 = 0) : x_ok (x_cl CL) (x_Ef CL ML TB) X (x_all MU CL X ML PL) (x_Mf ML) (x_Ff PL ML) (x_Gf CL PL ML) (fun μ => TB[μ]?.getD []) μ := by
  refine ⟨hpl, x_tok_of h1 h2, rfl, rfl, h3, fun ix i hi => ?_, fun ix i hi sad s hs => ?_, fun ix i hi s meth hn => ?_⟩
  · obtain ⟨q, hq, e, hr⟩ := x_F_in hi
    rw [← e]
    exact x_l2_of hcl (hchk q hq _ hr) (x_need_in hq hr)
  · obtain ⟨q, hq, e, hr⟩ := x_F_in hi
    rw [← e]
    exact x_lk_of hs (hchk q hq _ hr) (x_need_in hq hr)
  · unfold x_Gf at hi
    split at hi
    · rename_i i0 h0
      obtain ⟨q, hq, e, hr⟩ := x_F_in h0
      rw [← e] at hi ⊢
      rw [← hn] at hi
      exact x_pk_of hcl hi (x_need_in hq hr)
    · cases hi
end X13
end
section
/-! ===== the classes of this claim, their methods and constants: written by a program out of the printed names ===== -/
def kT0 : u_T := fun k => match k with
  | 0 => ("CommaOrphansModel", "told", "I", false)
  | 1 => ("CommaOrphansModel", "now", "[I", true)
  | 2 => ("CommaOrphansModel", "rows", "[I", true)
  | 3 => ("CommaOrphansModel", "undoable", "I", false)
  | 4 => ("CommaOrphansModel", "apprentices", "I", false)
  | 5 => ("CommaOrphansModel", "bread", "[I", true)
  | 6 => ("CommaOrphansModel", "strike", "[I", true)
  | 7 => ("CommaOrphansModel", "hungry", "[I", true)
  | 8 => ("CommaOrphansModel", "toldOf", "[I", true)
  | 9 => ("CommaOrphansModel", "ownedBy", "[I", true)
  | 10 => ("CommaOrphansModel", "burnt", "[I", true)
  | 11 => ("CommaOrphansModel", "jealousy", "I", false)
  | 12 => ("CommaOrphansModel", "day", "I", false)
  | 13 => ("CommaOrphansModel", "pageMany", "I", false)
  | 14 => ("CommaOrphansModel", "pageOf", "[I", true)
  | 15 => ("CommaOrphansModel", "rowMany", "I", false)
  | 16 => ("CommaOrphansModel", "row", "[I", true)
  | 17 => ("CommaOrphansModel", "listMany", "I", false)
  | 18 => ("CommaOrphansModel", "listLong", "[I", true)
  | 19 => ("CommaOrphansModel", "listOf", "[I", true)
  | 20 => ("CommaOrphansModel", "tape", "[I", true)
  | 21 => ("CommaOrphansModel", "taped", "I", false)
  | 22 => ("CommaOrphansModel", "spot", "I", false)
  | 23 => ("CommaOrphansModel", "from", "I", false)
  | 24 => ("CommaOrphansModel", "token", "I", false)
  | 25 => ("CommaOrphansModel", "value", "I", false)
  | 26 => ("CommaOrphansModel", "words", "[I", true)
  | 27 => ("CommaOrphansModel", "lineMany", "I", false)
  | 28 => ("CommaOrphansModel", "lineWhen", "[I", true)
  | 29 => ("CommaOrphansModel", "lineFrom", "[I", true)
  | 30 => ("CommaOrphansModel", "lineTo", "[I", true)
  | 31 => ("CommaOrphansModel", "op", "[I", true)
  | 32 => ("CommaOrphansModel", "arg", "[I", true)
  | 33 => ("CommaOrphansModel", "codes", "I", false)
  | 34 => ("CommaOrphansModel", "open", "I", false)
  | 35 => ("CommaOrphansModel", "pending", "[I", true)
  | 36 => ("CommaOrphansModel", "pendings", "I", false)
  | 37 => ("CommaOrphansModel", "readFault", "I", false)
  | 38 => ("CommaOrphansModel", "readPlace", "I", false)
  | 39 => ("CommaOrphansModel", "faultKind", "I", false)
  | 40 => ("CommaOrphansModel", "faultPlace", "I", false)
  | 41 => ("CommaOrphansModel", "asked", "[I", true)
  | 42 => ("CommaOrphansModel", "stack", "[I", true)
  | 43 => ("CommaOrphansModel", "earns", "[I", true)
  | 44 => ("CommaOrphansModel", "roll", "[I", true)
  | 45 => ("CommaOrphansModel", "oneSign", "I", false)
  | 46 => ("CommaOrphansModel", "otherSign", "I", false)
  | 47 => ("CommaOrphansModel", "mostBought", "I", false)
  | 48 => ("CommaOrphansModel", "bought", "[I", true)
  | 49 => ("CommaOrphansModel", "isTaking", "Z", false)
  | 50 => ("CommaOrphansModel", "hasImage", "Z", false)
  | 51 => ("CommaOrphansModel", "keptAt", "I", false)
  | _ => ("CommaOrphansModel", "images", "[I", true)
def kY0 : Nat → FieldType := fun k => match k with
  | 0 => .int
  | 1 => .array .int
  | 2 => .array .int
  | 3 => .int
  | 4 => .int
  | 5 => .array .int
  | 6 => .array .int
  | 7 => .array .int
  | 8 => .array .int
  | 9 => .array .int
  | 10 => .array .int
  | 11 => .int
  | 12 => .int
  | 13 => .int
  | 14 => .array .int
  | 15 => .int
  | 16 => .array .int
  | 17 => .int
  | 18 => .array .int
  | 19 => .array .int
  | 20 => .array .int
  | 21 => .int
  | 22 => .int
  | 23 => .int
  | 24 => .int
  | 25 => .int
  | 26 => .array .int
  | 27 => .int
  | 28 => .array .int
  | 29 => .array .int
  | 30 => .array .int
  | 31 => .array .int
  | 32 => .array .int
  | 33 => .int
  | 34 => .int
  | 35 => .array .int
  | 36 => .int
  | 37 => .int
  | 38 => .int
  | 39 => .int
  | 40 => .int
  | 41 => .array .int
  | 42 => .array .int
  | 43 => .array .int
  | 44 => .array .int
  | 45 => .int
  | 46 => .int
  | 47 => .int
  | 48 => .array .int
  | 49 => .boolean
  | 50 => .boolean
  | 51 => .int
  | _ => .array .int
def kT1 : u_T := fun k => match k with
  | 0 => ("CommaOrphans$Barter", "known", "Z", false)
  | 1 => ("CommaOrphans$Barter", "answer", "[I", true)
  | 2 => ("CommaOrphans$Barter", "house", "LCommaOrphans$House;", true)
  | 3 => ("CommaOrphans$Barter", "press", "LCommaOrphans$Press;", true)
  | _ => ("CommaOrphans$Barter", "earned", "[I", true)
def kY1 : Nat → FieldType := fun k => match k with
  | 0 => .boolean
  | 1 => .array .int
  | 2 => .object "CommaOrphans$House"
  | 3 => .object "CommaOrphans$Press"
  | _ => .array .int
def kT2 : u_T := fun k => match k with
  | 0 => ("CommaOrphans$Basket", "buyer", "I", false)
  | 1 => ("CommaOrphans$Basket", "answer", "[I", true)
  | 2 => ("CommaOrphans$Basket", "house", "LCommaOrphans$House;", true)
  | 3 => ("CommaOrphans$Basket", "press", "LCommaOrphans$Press;", true)
  | _ => ("CommaOrphans$Basket", "row", "LCommaOrphans$Row;", true)
def kY2 : Nat → FieldType := fun k => match k with
  | 0 => .int
  | 1 => .array .int
  | 2 => .object "CommaOrphans$House"
  | 3 => .object "CommaOrphans$Press"
  | _ => .object "CommaOrphans$Row"
def kT3 : u_T := fun k => match k with
  | 0 => ("CommaOrphans$House", "crew", "I", false)
  | 1 => ("CommaOrphans$House", "purse", "[I", true)
  | 2 => ("CommaOrphans$House", "bread", "[I", true)
  | 3 => ("CommaOrphans$House", "strike", "[I", true)
  | 4 => ("CommaOrphans$House", "hungry", "[I", true)
  | 5 => ("CommaOrphans$House", "told", "[I", true)
  | 6 => ("CommaOrphans$House", "owner", "[I", true)
  | 7 => ("CommaOrphans$House", "burnt", "[I", true)
  | 8 => ("CommaOrphans$House", "printed", "[I", true)
  | 9 => ("CommaOrphans$House", "page", "LCommaOrphans$Row;", true)
  | 10 => ("CommaOrphans$House", "words", "LCommaOrphans$WordList;", true)
  | 11 => ("CommaOrphans$House", "law", "LCommaOrphans$Law;", true)
  | 12 => ("CommaOrphans$House", "roll", "[I", true)
  | 13 => ("CommaOrphans$House", "rollLines", "I", false)
  | 14 => ("CommaOrphans$House", "gaps", "I", false)
  | 15 => ("CommaOrphans$House", "day", "I", false)
  | 16 => ("CommaOrphans$House", "jealousy", "I", false)
  | _ => ("CommaOrphans$House", "state", "I", false)
def kY3 : Nat → FieldType := fun k => match k with
  | 0 => .int
  | 1 => .array .int
  | 2 => .array .int
  | 3 => .array .int
  | 4 => .array .int
  | 5 => .array .int
  | 6 => .array .int
  | 7 => .array .int
  | 8 => .array .int
  | 9 => .object "CommaOrphans$Row"
  | 10 => .object "CommaOrphans$WordList"
  | 11 => .object "CommaOrphans$Law"
  | 12 => .array .int
  | 13 => .int
  | 14 => .int
  | 15 => .int
  | 16 => .int
  | _ => .int
def kT4 : u_T := fun k => match k with
  | 0 => ("CommaOrphans$Law", "code", "[I", true)
  | 1 => ("CommaOrphans$Law", "starts", "[I", true)
  | 2 => ("CommaOrphans$Law", "conditions", "[I", true)
  | 3 => ("CommaOrphans$Law", "size", "I", false)
  | 4 => ("CommaOrphans$Law", "lines", "I", false)
  | _ => ("CommaOrphans$Law", "asked", "I", false)
def kY4 : Nat → FieldType := fun k => match k with
  | 0 => .array .int
  | 1 => .array .int
  | 2 => .array .int
  | 3 => .int
  | 4 => .int
  | _ => .int
def kT5 : u_T := fun k => match k with
  | 0 => ("CommaOrphans$LawReader", "draft", "LCommaOrphans$Law;", true)
  | 1 => ("CommaOrphans$LawReader", "fault", "I", false)
  | 2 => ("CommaOrphans$LawReader", "faultPlace", "I", false)
  | 3 => ("CommaOrphans$LawReader", "tape", "LCommaOrphans$Row;", true)
  | 4 => ("CommaOrphans$LawReader", "kinds", "[I", true)
  | 5 => ("CommaOrphans$LawReader", "places", "[I", true)
  | 6 => ("CommaOrphans$LawReader", "now", "I", false)
  | _ => ("CommaOrphans$LawReader", "kind", "I", false)
def kY5 : Nat → FieldType := fun k => match k with
  | 0 => .object "CommaOrphans$Law"
  | 1 => .int
  | 2 => .int
  | 3 => .object "CommaOrphans$Row"
  | 4 => .array .int
  | 5 => .array .int
  | 6 => .int
  | _ => .int
def kT6 : u_T := fun k => match k with
  | 0 => ("CommaOrphans$Press", "house", "LCommaOrphans$House;", true)
  | 1 => ("CommaOrphans$Press", "able", "[Z", true)
  | 2 => ("CommaOrphans$Press", "longs", "[I", true)
  | 3 => ("CommaOrphans$Press", "facts", "[I", true)
  | 4 => ("CommaOrphans$Press", "stack", "[I", true)
  | 5 => ("CommaOrphans$Press", "known", "[J", true)
  | 6 => ("CommaOrphans$Press", "before", "[I", true)
  | _ => ("CommaOrphans$Press", "after", "[I", true)
def kY6 : Nat → FieldType := fun k => match k with
  | 0 => .object "CommaOrphans$House"
  | 1 => .array .boolean
  | 2 => .array .int
  | 3 => .array .int
  | 4 => .array .int
  | 5 => .array .long
  | 6 => .array .int
  | _ => .array .int
def kT7 : u_T := fun k => match k with
  | 0 => ("CommaOrphans$Remedy", "known", "Z", false)
  | 1 => ("CommaOrphans$Remedy", "answer", "[I", true)
  | 2 => ("CommaOrphans$Remedy", "house", "LCommaOrphans$House;", true)
  | 3 => ("CommaOrphans$Remedy", "press", "LCommaOrphans$Press;", true)
  | 4 => ("CommaOrphans$Remedy", "row", "LCommaOrphans$Row;", true)
  | 5 => ("CommaOrphans$Remedy", "choices", "[I", true)
  | 6 => ("CommaOrphans$Remedy", "choiceCounts", "[I", true)
  | 7 => ("CommaOrphans$Remedy", "least", "[I", true)
  | 8 => ("CommaOrphans$Remedy", "signsNeeded", "[I", true)
  | 9 => ("CommaOrphans$Remedy", "hands", "[I", true)
  | 10 => ("CommaOrphans$Remedy", "earned", "[I", true)
  | _ => ("CommaOrphans$Remedy", "hungriest", "I", false)
def kY7 : Nat → FieldType := fun k => match k with
  | 0 => .boolean
  | 1 => .array .int
  | 2 => .object "CommaOrphans$House"
  | 3 => .object "CommaOrphans$Press"
  | 4 => .object "CommaOrphans$Row"
  | 5 => .array .int
  | 6 => .array .int
  | 7 => .array .int
  | 8 => .array .int
  | 9 => .array .int
  | 10 => .array .int
  | _ => .int
def kT8 : u_T := fun k => match k with
  | 0 => ("CommaOrphans$Row", "places", "[I", true)
  | _ => ("CommaOrphans$Row", "length", "I", false)
def kY8 : Nat → FieldType := fun k => match k with
  | 0 => .array .int
  | _ => .int
def kT9 : u_T := fun k => match k with
  | 0 => ("CommaOrphans$Shelf", "purses", "[I", true)
  | 1 => ("CommaOrphans$Shelf", "printed", "[I", true)
  | 2 => ("CommaOrphans$Shelf", "rollLines", "[I", true)
  | 3 => ("CommaOrphans$Shelf", "gaps", "[I", true)
  | 4 => ("CommaOrphans$Shelf", "states", "[I", true)
  | _ => ("CommaOrphans$Shelf", "count", "I", false)
def kY9 : Nat → FieldType := fun k => match k with
  | 0 => .array .int
  | 1 => .array .int
  | 2 => .array .int
  | 3 => .array .int
  | 4 => .array .int
  | _ => .int
def kT10 : u_T := fun k => match k with
  | 0 => ("CommaOrphans$WordList", "letters", "[I", true)
  | 1 => ("CommaOrphans$WordList", "lengths", "[I", true)
  | _ => ("CommaOrphans$WordList", "count", "I", false)
def kY10 : Nat → FieldType := fun k => match k with
  | 0 => .array .int
  | 1 => .array .int
  | _ => .int
def kT11 : u_T := fun k => match k with
  | 0 => ("CommaOrphans", "house", "LCommaOrphans$House;", true)
  | 1 => ("CommaOrphans", "kept", "LCommaOrphans$House;", true)
  | 2 => ("CommaOrphans", "imaged", "Z", false)
  | 3 => ("CommaOrphans", "tape", "LCommaOrphans$Row;", true)
  | 4 => ("CommaOrphans", "reader", "LCommaOrphans$LawReader;", true)
  | 5 => ("CommaOrphans", "shelf", "LCommaOrphans$Shelf;", true)
  | 6 => ("CommaOrphans", "press", "LCommaOrphans$Press;", true)
  | 7 => ("CommaOrphans", "remedy", "LCommaOrphans$Remedy;", true)
  | 8 => ("CommaOrphans", "basket", "LCommaOrphans$Basket;", true)
  | _ => ("CommaOrphans", "barter", "LCommaOrphans$Barter;", true)
def kY11 : Nat → FieldType := fun k => match k with
  | 0 => .object "CommaOrphans$House"
  | 1 => .object "CommaOrphans$House"
  | 2 => .boolean
  | 3 => .object "CommaOrphans$Row"
  | 4 => .object "CommaOrphans$LawReader"
  | 5 => .object "CommaOrphans$Shelf"
  | 6 => .object "CommaOrphans$Press"
  | 7 => .object "CommaOrphans$Remedy"
  | 8 => .object "CommaOrphans$Basket"
  | _ => .object "CommaOrphans$Barter"
def kCL : x_CL := [(("CommaOrphansModel", kT0, 53), kY0), (("CommaOrphans$Barter", kT1, 5), kY1), (("CommaOrphans$Basket", kT2, 5), kY2), (("CommaOrphans$House", kT3, 18), kY3), (("CommaOrphans$Law", kT4, 6), kY4), (("CommaOrphans$LawReader", kT5, 8), kY5), (("CommaOrphans$Press", kT6, 8), kY6), (("CommaOrphans$Remedy", kT7, 12), kY7), (("CommaOrphans$Row", kT8, 2), kY8), (("CommaOrphans$Shelf", kT9, 6), kY9), (("CommaOrphans$WordList", kT10, 3), kY10), (("CommaOrphans", kT11, 10), kY11)]
def kML0 : x_ML := [
  ((⟨"CommaOrphansModel", "<init>", "()V"⟩, prog_13_method_1_code, 1, none), 0, 0),
  ((⟨"CommaOrphansModel", "isIn", "(III)Z"⟩, prog_13_method_3_code, 4, some .boolean), 3, 0),
  ((⟨"CommaOrphansModel", "keepsAhead", "()V"⟩, prog_13_method_4_code, 2, none), 0, 0),
  ((⟨"CommaOrphansModel", "undo", "()Z"⟩, prog_13_method_5_code, 2, some .boolean), 0, 0),
  ((⟨"CommaOrphansModel", "state", "(I)I"⟩, prog_13_method_6_code, 3, some .int), 1, 0),
  ((⟨"CommaOrphansModel", "draw", "(I)I"⟩, prog_13_method_7_code, 2, some .int), 1, 0),
  ((⟨"CommaOrphansModel", "isApprentice", "(I)Z"⟩, prog_13_method_8_code, 2, some .boolean), 1, 0),
  ((⟨"CommaOrphansModel", "isOneOf", "(I)Z"⟩, prog_13_method_9_code, 2, some .boolean), 1, 0),
  ((⟨"CommaOrphansModel", "apprentice", "(II)I"⟩, prog_13_method_10_code, 3, some .int), 2, 0),
  ((⟨"CommaOrphansModel", "own", "(II)Z"⟩, prog_13_method_11_code, 3, some .boolean), 2, 0),
  ((⟨"CommaOrphansModel", "canSet", "(III)Z"⟩, prog_13_method_12_code, 4, some .boolean), 3, 0),
  ((⟨"CommaOrphansModel", "set", "(III)Z"⟩, prog_13_method_13_code, 4, some .boolean), 3, 0),
  ((⟨"CommaOrphansModel", "ownerOf", "(I)I"⟩, prog_13_method_14_code, 2, some .int), 1, 0),
  ((⟨"CommaOrphansModel", "canPrint", "(I)Z"⟩, prog_13_method_15_code, 2, some .boolean), 1, 0),
  ((⟨"CommaOrphansModel", "signOf", "(I)I"⟩, prog_13_method_16_code, 2, some .int), 1, 0),
  ((⟨"CommaOrphansModel", "page", "()I"⟩, prog_13_method_17_code, 3, some .int), 0, 0),
  ((⟨"CommaOrphansModel", "word", "()I"⟩, prog_13_method_18_code, 3, some .int), 0, 0),
  ((⟨"CommaOrphansModel", "clear", "()I"⟩, prog_13_method_19_code, 2, some .int), 0, 0),
  ((⟨"CommaOrphansModel", "thinksOfPage", "()V"⟩, prog_13_method_20_code, 2, none), 0, 0),
  ((⟨"CommaOrphansModel", "types", "(I)V"⟩, prog_13_method_21_code, 3, none), 1, 0),
  ((⟨"CommaOrphansModel", "feed", "(IIIII)I"⟩, prog_13_method_22_code, 6, some .int), 5, 0),
  ((⟨"CommaOrphansModel", "end", "(I)Z"⟩, prog_13_method_23_code, 2, some .boolean), 1, 0),
  ((⟨"CommaOrphansModel", "raw", "(I)I"⟩, prog_13_method_24_code, 2, some .int), 1, 0),
  ((⟨"CommaOrphansModel", "isLetter", "(I)Z"⟩, prog_13_method_25_code, 2, some .boolean), 1, 0),
  ((⟨"CommaOrphansModel", "isDigit", "(I)Z"⟩, prog_13_method_26_code, 2, some .boolean), 1, 0),
  ((⟨"CommaOrphansModel", "isMarkSign", "(I)Z"⟩, prog_13_method_27_code, 2, some .boolean), 1, 0),
  ((⟨"CommaOrphansModel", "wordAt", "(II)I"⟩, prog_13_method_28_code, 6, some .int), 2, 0),
  ((⟨"CommaOrphansModel", "reads", "()V"⟩, prog_13_method_29_code, 2, none), 0, 0),
  ((⟨"CommaOrphansModel", "errs", "(I)I"⟩, prog_13_method_30_code, 2, some .int), 1, 0),
  ((⟨"CommaOrphansModel", "isWord", "(I)Z"⟩, prog_13_method_31_code, 2, some .boolean), 1, 0),
  ((⟨"CommaOrphansModel", "isSign", "(I)Z"⟩, prog_13_method_32_code, 2, some .boolean), 1, 0),
  ((⟨"CommaOrphansModel", "emits", "(II)V"⟩, prog_13_method_33_code, 3, none), 2, 0)]
def kML1 : x_ML := [
  ((⟨"CommaOrphansModel", "readUnit", "()I"⟩, prog_13_method_34_code, 2, some .int), 0, 0),
  ((⟨"CommaOrphansModel", "readProduct", "()I"⟩, prog_13_method_35_code, 2, some .int), 0, 0),
  ((⟨"CommaOrphansModel", "readSum", "()I"⟩, prog_13_method_36_code, 2, some .int), 0, 0),
  ((⟨"CommaOrphansModel", "readCompared", "()I"⟩, prog_13_method_37_code, 2, some .int), 0, 0),
  ((⟨"CommaOrphansModel", "waits", "(I)V"⟩, prog_13_method_38_code, 2, none), 1, 0),
  ((⟨"CommaOrphansModel", "settles", "(I)V"⟩, prog_13_method_39_code, 2, none), 1, 0),
  ((⟨"CommaOrphansModel", "readAny", "()I"⟩, prog_13_method_40_code, 4, some .int), 0, 0),
  ((⟨"CommaOrphansModel", "readText", "()I"⟩, prog_13_method_41_code, 3, some .int), 0, 0),
  ((⟨"CommaOrphansModel", "text", "()I"⟩, prog_13_method_42_code, 3, some .int), 0, 0),
  ((⟨"CommaOrphansModel", "fault", "(I)I"⟩, prog_13_method_43_code, 2, some .int), 1, 0),
  ((⟨"CommaOrphansModel", "twoOf", "(III)I"⟩, prog_13_method_44_code, 4, some .int), 3, 0),
  ((⟨"CommaOrphansModel", "runs", "(II)I"⟩, prog_13_method_45_code, 5, some .int), 2, 0),
  ((⟨"CommaOrphansModel", "isSo", "(I)Z"⟩, prog_13_method_46_code, 2, some .boolean), 1, 0),
  ((⟨"CommaOrphansModel", "isLetterAt", "(I)Z"⟩, prog_13_method_47_code, 2, some .boolean), 1, 0),
  ((⟨"CommaOrphansModel", "longAt", "(I)I"⟩, prog_13_method_48_code, 4, some .int), 1, 0),
  ((⟨"CommaOrphansModel", "usedAt", "(I)I"⟩, prog_13_method_49_code, 4, some .int), 1, 0),
  ((⟨"CommaOrphansModel", "isVowel", "(I)Z"⟩, prog_13_method_50_code, 2, some .boolean), 1, 0),
  ((⟨"CommaOrphansModel", "paysAt", "(I)I"⟩, prog_13_method_51_code, 4, some .int), 1, 0),
  ((⟨"CommaOrphansModel", "findsEarnings", "()V"⟩, prog_13_method_52_code, 3, none), 0, 0),
  ((⟨"CommaOrphansModel", "leastSignOf", "(I)I"⟩, prog_13_method_53_code, 3, some .int), 1, 0),
  ((⟨"CommaOrphansModel", "notes", "(III)V"⟩, prog_13_method_54_code, 5, none), 3, 0),
  ((⟨"CommaOrphansModel", "prints", "(I)Z"⟩, prog_13_method_55_code, 5, some .boolean), 1, 0),
  ((⟨"CommaOrphansModel", "print", "()I"⟩, prog_13_method_56_code, 4, some .int), 0, 0),
  ((⟨"CommaOrphansModel", "day", "()I"⟩, prog_13_method_57_code, 3, some .int), 0, 0),
  ((⟨"CommaOrphansModel", "signsOf", "(I)I"⟩, prog_13_method_58_code, 4, some .int), 1, 0),
  ((⟨"CommaOrphansModel", "earnsByPage", "(I)I"⟩, prog_13_method_59_code, 2, some .int), 1, 0),
  ((⟨"CommaOrphansModel", "of", "(II)I"⟩, prog_13_method_60_code, 3, some .int), 2, 0),
  ((⟨"CommaOrphansModel", "sign", "(II)I"⟩, prog_13_method_61_code, 3, some .int), 2, 0),
  ((⟨"CommaOrphansModel", "at", "(I)I"⟩, prog_13_method_62_code, 2, some .int), 1, 0),
  ((⟨"CommaOrphansModel", "pays", "(I)I"⟩, prog_13_method_63_code, 2, some .int), 1, 0),
  ((⟨"CommaOrphansModel", "roll", "(II)I"⟩, prog_13_method_64_code, 3, some .int), 2, 0),
  ((⟨"CommaOrphansModel", "mustEat", "(I)Z"⟩, prog_13_method_65_code, 3, some .boolean), 1, 0)]
def kML2 : x_ML := [
  ((⟨"CommaOrphansModel", "doAllEat", "()Z"⟩, prog_13_method_66_code, 2, some .boolean), 0, 0),
  ((⟨"CommaOrphansModel", "canBeOne", "(I)Z"⟩, prog_13_method_67_code, 4, some .boolean), 1, 0),
  ((⟨"CommaOrphansModel", "canBeTwo", "(II)Z"⟩, prog_13_method_68_code, 6, some .boolean), 2, 0),
  ((⟨"CommaOrphansModel", "fewest", "(I)I"⟩, prog_13_method_69_code, 4, some .int), 1, 0),
  ((⟨"CommaOrphansModel", "adds", "(I)V"⟩, prog_13_method_70_code, 3, none), 1, 0),
  ((⟨"CommaOrphansModel", "earnsBy", "(IIII)I"⟩, prog_13_method_71_code, 5, some .int), 4, 0),
  ((⟨"CommaOrphansModel", "buys", "(IIII)V"⟩, prog_13_method_72_code, 6, none), 4, 0),
  ((⟨"CommaOrphansModel", "buy", "(II)I"⟩, prog_13_method_73_code, 6, some .int), 2, 0),
  ((⟨"CommaOrphansModel", "can", "()I"⟩, prog_13_method_74_code, 5, some .int), 0, 0),
  ((⟨"CommaOrphansModel", "othersEarn", "(I)I"⟩, prog_13_method_75_code, 4, some .int), 1, 0),
  ((⟨"CommaOrphansModel", "gapsOfRow", "()I"⟩, prog_13_method_76_code, 3, some .int), 0, 0),
  ((⟨"CommaOrphansModel", "hurts", "(II)I"⟩, prog_13_method_77_code, 6, some .int), 2, 0),
  ((⟨"CommaOrphansModel", "changes", "(II)V"⟩, prog_13_method_78_code, 4, none), 2, 0),
  ((⟨"CommaOrphansModel", "isBetter", "(II)Z"⟩, prog_13_method_79_code, 7, some .boolean), 2, 0),
  ((⟨"CommaOrphansModel", "swap", "(I)I"⟩, prog_13_method_80_code, 6, some .int), 1, 0),
  ((⟨"CommaOrphansModel", "liars", "()I"⟩, prog_13_method_81_code, 5, some .int), 0, 0),
  ((⟨"CommaOrphansModel", "kept", "(I)I"⟩, prog_13_method_82_code, 2, some .int), 1, 0),
  ((⟨"CommaOrphansModel", "keepsLaw", "()V"⟩, prog_13_method_83_code, 2, none), 0, 0),
  ((⟨"CommaOrphansModel", "keepsRows", "()V"⟩, prog_13_method_84_code, 2, none), 0, 0),
  ((⟨"CommaOrphansModel", "image", "(Z)Z"⟩, prog_13_method_85_code, 3, some .boolean), 1, 0),
  ((⟨"CommaOrphansModel", "look", "(I)I"⟩, prog_13_method_86_code, 2, some .int), 1, 0),
  ((⟨"java/util/Arrays", "fill", "([JJ)V"⟩, prog_20_method_101_code, 5, none), 2, 99),
  ((⟨"java/util/Arrays", "fill", "([II)V"⟩, prog_20_method_103_code, 4, none), 2, 99),
  ((⟨"CommaOrphansLaw", "law", "([I)Z"⟩, code, 4, some .boolean), 1, 99),
  ((⟨"CommaOrphans$Barter", "<init>", "(LCommaOrphans$House;LCommaOrphans$Press;)V"⟩, prog_2_method_1_code, 3, none), 2, 1),
  ((⟨"CommaOrphans$Barter", "seek", "()V"⟩, prog_2_method_2_code, 3, none), 0, 1),
  ((⟨"CommaOrphans$Barter", "count", "(II)V"⟩, prog_2_method_3_code, 3, none), 2, 1),
  ((⟨"CommaOrphans$Barter", "isGain", "(II)Z"⟩, prog_2_method_4_code, 6, some .boolean), 2, 1),
  ((⟨"CommaOrphans$Barter", "give", "(IIII)V"⟩, prog_2_method_5_code, 5, none), 4, 1),
  ((⟨"CommaOrphans$Basket", "<init>", "(LCommaOrphans$House;LCommaOrphans$Press;)V"⟩, prog_3_method_1_code, 3, none), 2, 2),
  ((⟨"CommaOrphans$Basket", "seek", "(I)V"⟩, prog_3_method_2_code, 10, none), 1, 2),
  ((⟨"CommaOrphans$Basket", "lay", "(II)I"⟩, prog_3_method_3_code, 5, some .int), 2, 2)]
def kML3 : x_ML := [
  ((⟨"CommaOrphans$Basket", "weigh", "(IIII)V"⟩, prog_3_method_4_code, 6, none), 4, 2),
  ((⟨"CommaOrphans$House", "<init>", "()V"⟩, prog_4_method_1_code, 1, none), 0, 3),
  ((⟨"CommaOrphans$House", "has", "(I)Z"⟩, prog_4_method_2_code, 2, some .boolean), 1, 3),
  ((⟨"CommaOrphans$House", "put", "(III)Z"⟩, prog_4_method_3_code, 4, some .boolean), 3, 3),
  ((⟨"CommaOrphans$House", "putIn", "([IIII)Z"⟩, prog_4_method_4_code, 4, some .boolean), 4, 3),
  ((⟨"CommaOrphans$House", "canPrint", "(I)Z"⟩, prog_4_method_5_code, 2, some .boolean), 1, 3),
  ((⟨"CommaOrphans$House", "draw", "(I)I"⟩, prog_4_method_6_code, 2, some .int), 1, 3),
  ((⟨"CommaOrphans$House", "countOwned", "(I)I"⟩, prog_4_method_7_code, 4, some .int), 1, 3),
  ((⟨"CommaOrphans$House", "countPrinted", "(I)I"⟩, prog_4_method_8_code, 4, some .int), 1, 3),
  ((⟨"CommaOrphans$House", "ownsUnburnt", "(I)Z"⟩, prog_4_method_9_code, 3, some .boolean), 1, 3),
  ((⟨"CommaOrphans$House", "leastOwned", "(II)I"⟩, prog_4_method_10_code, 4, some .int), 2, 3),
  ((⟨"CommaOrphans$House", "eat", "()I"⟩, prog_4_method_11_code, 3, some .int), 0, 3),
  ((⟨"CommaOrphans$House", "book", "(III)V"⟩, prog_4_method_12_code, 7, none), 3, 3),
  ((⟨"CommaOrphans$House", "take", "(LCommaOrphans$House;)V"⟩, prog_4_method_13_code, 2, none), 1, 3),
  ((⟨"CommaOrphans$Law", "<init>", "()V"⟩, prog_5_method_1_code, 1, none), 0, 4),
  ((⟨"CommaOrphans$Law", "wipe", "()V"⟩, prog_5_method_2_code, 1, none), 0, 4),
  ((⟨"CommaOrphans$Law", "emit", "(I)V"⟩, prog_5_method_3_code, 2, none), 1, 4),
  ((⟨"CommaOrphans$Law", "asks", "(I)Z"⟩, prog_5_method_4_code, 2, some .boolean), 1, 4),
  ((⟨"CommaOrphans$Law", "endOfPay", "()V"⟩, prog_5_method_5_code, 1, none), 0, 4),
  ((⟨"CommaOrphans$Law", "endOfLine", "()V"⟩, prog_5_method_6_code, 1, none), 0, 4),
  ((⟨"CommaOrphans$Law", "take", "(LCommaOrphans$Law;)V"⟩, prog_5_method_7_code, 2, none), 1, 4),
  ((⟨"CommaOrphans$Law", "isBare", "(I)Z"⟩, prog_5_method_8_code, 2, some .boolean), 1, 4),
  ((⟨"CommaOrphans$Law", "payFor", "([I[I)I"⟩, prog_5_method_9_code, 5, some .int), 2, 4),
  ((⟨"CommaOrphans$Law", "mostPay", "([I[I)I"⟩, prog_5_method_10_code, 5, some .int), 2, 4),
  ((⟨"CommaOrphans$Law", "mostOfSum", "(II[I[I)I"⟩, prog_5_method_11_code, 12, some .int), 4, 4),
  ((⟨"CommaOrphans$Law", "run", "(II[I[I)I"⟩, prog_5_method_12_code, 10, some .int), 4, 4),
  ((⟨"CommaOrphans$LawReader", "<init>", "(LCommaOrphans$Row;)V"⟩, prog_6_method_1_code, 2, none), 1, 5),
  ((⟨"CommaOrphans$LawReader", "readLaw", "()Z"⟩, prog_6_method_2_code, 2, some .boolean), 0, 5),
  ((⟨"CommaOrphans$LawReader", "split", "()V"⟩, prog_6_method_3_code, 4, none), 0, 5),
  ((⟨"CommaOrphans$LawReader", "endOfToken", "(I)I"⟩, prog_6_method_4_code, 5, some .int), 1, 5),
  ((⟨"CommaOrphans$LawReader", "kindOf", "(II)I"⟩, prog_6_method_5_code, 6, some .int), 2, 5),
  ((⟨"CommaOrphans$LawReader", "kindOfWord", "(II)I"⟩, prog_6_method_6_code, 4, some .int), 2, 5)]
def kML4 : x_ML := [
  ((⟨"CommaOrphans$LawReader", "isKeyword", "(III)Z"⟩, prog_6_method_7_code, 6, some .boolean), 3, 5),
  ((⟨"CommaOrphans$LawReader", "step", "()V"⟩, prog_6_method_8_code, 1, none), 0, 5),
  ((⟨"CommaOrphans$LawReader", "fail", "(I)Z"⟩, prog_6_method_9_code, 2, some .boolean), 1, 5),
  ((⟨"CommaOrphans$LawReader", "readLine", "()Z"⟩, prog_6_method_10_code, 1, some .boolean), 0, 5),
  ((⟨"CommaOrphans$LawReader", "readChoice", "(I)Z"⟩, prog_6_method_11_code, 5, some .boolean), 1, 5),
  ((⟨"CommaOrphans$LawReader", "readClaim", "(I)Z"⟩, prog_6_method_12_code, 3, some .boolean), 1, 5),
  ((⟨"CommaOrphans$LawReader", "readOpening", "(I)Z"⟩, prog_6_method_13_code, 3, some .boolean), 1, 5),
  ((⟨"CommaOrphans$LawReader", "readSum", "()Z"⟩, prog_6_method_14_code, 5, some .boolean), 0, 5),
  ((⟨"CommaOrphans$LawReader", "readUnit", "()Z"⟩, prog_6_method_15_code, 2, some .boolean), 0, 5),
  ((⟨"CommaOrphans$LawReader", "readDivisor", "()Z"⟩, prog_6_method_16_code, 1, some .boolean), 0, 5),
  ((⟨"CommaOrphans$Press", "<init>", "(LCommaOrphans$House;)V"⟩, prog_7_method_1_code, 2, none), 1, 6),
  ((⟨"CommaOrphans$Press", "forgetPays", "()V"⟩, prog_7_method_2_code, 1, none), 0, 6),
  ((⟨"CommaOrphans$Press", "lookOver", "()V"⟩, prog_7_method_3_code, 2, none), 0, 6),
  ((⟨"CommaOrphans$Press", "lookAt", "(I)V"⟩, prog_7_method_4_code, 2, none), 1, 6),
  ((⟨"CommaOrphans$Press", "isAble", "(I)Z"⟩, prog_7_method_5_code, 2, some .boolean), 1, 6),
  ((⟨"CommaOrphans$Press", "measure", "(LCommaOrphans$Row;I)V"⟩, prog_7_method_6_code, 8, none), 2, 6),
  ((⟨"CommaOrphans$Press", "payAt", "(LCommaOrphans$Row;I)I"⟩, prog_7_method_7_code, 7, some .int), 2, 6),
  ((⟨"CommaOrphans$Press", "mostPay", "(I)I"⟩, prog_7_method_8_code, 2, some .int), 1, 6),
  ((⟨"CommaOrphans$Press", "gatherFacts", "(LCommaOrphans$Row;II)V"⟩, prog_7_method_9_code, 7, none), 3, 6),
  ((⟨"CommaOrphans$Press", "keyOfFacts", "()J"⟩, prog_7_method_10_code, 3, some .long), 0, 6),
  ((⟨"CommaOrphans$Press", "countAhead", "(LCommaOrphans$Row;II)I"⟩, prog_7_method_11_code, 5, some .int), 3, 6),
  ((⟨"CommaOrphans$Press", "isVowel", "(I)Z"⟩, prog_7_method_12_code, 1, some .boolean), 1, 6),
  ((⟨"CommaOrphans$Press", "earnsFrom", "(LCommaOrphans$Row;II)I"⟩, prog_7_method_13_code, 7, some .int), 3, 6),
  ((⟨"CommaOrphans$Press", "earnsByPage", "(I)I"⟩, prog_7_method_14_code, 2, some .int), 1, 6),
  ((⟨"CommaOrphans$Press", "earnings", "(LCommaOrphans$Row;[I)V"⟩, prog_7_method_15_code, 6, none), 2, 6),
  ((⟨"CommaOrphans$Press", "canSet", "(I)Z"⟩, prog_7_method_16_code, 3, some .boolean), 1, 6),
  ((⟨"CommaOrphans$Press", "lossByStrike", "(I)I"⟩, prog_7_method_17_code, 5, some .int), 1, 6),
  ((⟨"CommaOrphans$Press", "signsOnPage", "(I)I"⟩, prog_7_method_18_code, 5, some .int), 1, 6),
  ((⟨"CommaOrphans$Press", "printPage", "()I"⟩, prog_7_method_19_code, 6, some .int), 0, 6),
  ((⟨"CommaOrphans$Press", "misprinted", "(II)I"⟩, prog_7_method_20_code, 4, some .int), 2, 6),
  ((⟨"CommaOrphans$Press", "payInstead", "(III)I"⟩, prog_7_method_21_code, 5, some .int), 3, 6),
  ((⟨"CommaOrphans$Remedy", "<init>", "(LCommaOrphans$House;LCommaOrphans$Press;)V"⟩, prog_8_method_1_code, 3, none), 2, 7)]
def kML5 : x_ML := [
  ((⟨"CommaOrphans$Remedy", "seek", "()V"⟩, prog_8_method_2_code, 5, none), 0, 7),
  ((⟨"CommaOrphans$Remedy", "tell", "(III)V"⟩, prog_8_method_3_code, 4, none), 3, 7),
  ((⟨"CommaOrphans$Remedy", "weighNeeds", "()V"⟩, prog_8_method_4_code, 4, none), 0, 7),
  ((⟨"CommaOrphans$Remedy", "countLacking", "()I"⟩, prog_8_method_5_code, 4, some .int), 0, 7),
  ((⟨"CommaOrphans$Remedy", "isLacked", "(I)Z"⟩, prog_8_method_6_code, 3, some .boolean), 1, 7),
  ((⟨"CommaOrphans$Remedy", "feedsAll", "()Z"⟩, prog_8_method_7_code, 2, some .boolean), 0, 7),
  ((⟨"CommaOrphans$Remedy", "listChoices", "()V"⟩, prog_8_method_8_code, 7, none), 0, 7),
  ((⟨"CommaOrphans$Remedy", "setsOne", "(I)Z"⟩, prog_8_method_9_code, 6, some .boolean), 1, 7),
  ((⟨"CommaOrphans$Remedy", "choicesAt", "(I)I"⟩, prog_8_method_10_code, 2, some .int), 1, 7),
  ((⟨"CommaOrphans$Row", "<init>", "(I)V"⟩, prog_9_method_1_code, 2, none), 1, 8),
  ((⟨"CommaOrphans$Row", "has", "(I)Z"⟩, prog_9_method_2_code, 2, some .boolean), 1, 8),
  ((⟨"CommaOrphans$Row", "get", "(I)I"⟩, prog_9_method_3_code, 2, some .int), 1, 8),
  ((⟨"CommaOrphans$Row", "put", "(II)V"⟩, prog_9_method_4_code, 3, none), 2, 8),
  ((⟨"CommaOrphans$Row", "add", "(I)V"⟩, prog_9_method_5_code, 2, none), 1, 8),
  ((⟨"CommaOrphans$Row", "take", "(LCommaOrphans$Row;)V"⟩, prog_9_method_6_code, 3, none), 1, 8),
  ((⟨"CommaOrphans$Row", "holds", "(I)Z"⟩, prog_9_method_7_code, 3, some .boolean), 1, 8),
  ((⟨"CommaOrphans$Shelf", "<init>", "()V"⟩, prog_10_method_1_code, 1, none), 0, 9),
  ((⟨"CommaOrphans$Shelf", "keep", "(LCommaOrphans$House;)V"⟩, prog_10_method_2_code, 2, none), 1, 9),
  ((⟨"CommaOrphans$Shelf", "dropOldest", "()V"⟩, prog_10_method_3_code, 1, none), 0, 9),
  ((⟨"CommaOrphans$Shelf", "giveBack", "(LCommaOrphans$House;)Z"⟩, prog_10_method_4_code, 2, some .boolean), 1, 9),
  ((⟨"CommaOrphans$WordList", "<init>", "()V"⟩, prog_11_method_1_code, 1, none), 0, 10),
  ((⟨"CommaOrphans$WordList", "add", "(LCommaOrphans$Row;)Z"⟩, prog_11_method_2_code, 3, some .boolean), 1, 10),
  ((⟨"CommaOrphans$WordList", "lengthOf", "(I)I"⟩, prog_11_method_3_code, 2, some .int), 1, 10),
  ((⟨"CommaOrphans$WordList", "letter", "(II)I"⟩, prog_11_method_4_code, 4, some .int), 2, 10),
  ((⟨"CommaOrphans$WordList", "take", "(LCommaOrphans$WordList;)V"⟩, prog_11_method_5_code, 2, none), 1, 10),
  ((⟨"CommaOrphans", "<init>", "()V"⟩, prog_1_method_1_code, 1, none), 0, 11),
  ((⟨"CommaOrphans", "state", "(I)I"⟩, prog_1_method_2_code, 3, some .int), 1, 11),
  ((⟨"CommaOrphans", "apprentice", "(II)I"⟩, prog_1_method_3_code, 4, some .int), 2, 11),
  ((⟨"CommaOrphans", "own", "(II)Z"⟩, prog_1_method_4_code, 3, some .boolean), 2, 11),
  ((⟨"CommaOrphans", "set", "(III)Z"⟩, prog_1_method_5_code, 5, some .boolean), 3, 11),
  ((⟨"CommaOrphans", "feed", "(IIIII)I"⟩, prog_1_method_6_code, 6, some .int), 5, 11),
  ((⟨"CommaOrphans", "end", "(I)Z"⟩, prog_1_method_7_code, 2, some .boolean), 1, 11)]
def kML6 : x_ML := [
  ((⟨"CommaOrphans", "text", "()I"⟩, prog_1_method_8_code, 2, some .int), 0, 11),
  ((⟨"CommaOrphans", "fault", "(I)I"⟩, prog_1_method_9_code, 2, some .int), 1, 11),
  ((⟨"CommaOrphans", "page", "()I"⟩, prog_1_method_10_code, 3, some .int), 0, 11),
  ((⟨"CommaOrphans", "word", "()I"⟩, prog_1_method_11_code, 2, some .int), 0, 11),
  ((⟨"CommaOrphans", "clear", "()I"⟩, prog_1_method_12_code, 2, some .int), 0, 11),
  ((⟨"CommaOrphans", "print", "()I"⟩, prog_1_method_13_code, 1, some .int), 0, 11),
  ((⟨"CommaOrphans", "day", "()I"⟩, prog_1_method_14_code, 2, some .int), 0, 11),
  ((⟨"CommaOrphans", "of", "(II)I"⟩, prog_1_method_15_code, 3, some .int), 2, 11),
  ((⟨"CommaOrphans", "sign", "(II)I"⟩, prog_1_method_16_code, 3, some .int), 2, 11),
  ((⟨"CommaOrphans", "at", "(I)I"⟩, prog_1_method_17_code, 2, some .int), 1, 11),
  ((⟨"CommaOrphans", "pays", "(I)I"⟩, prog_1_method_18_code, 2, some .int), 1, 11),
  ((⟨"CommaOrphans", "roll", "(II)I"⟩, prog_1_method_19_code, 3, some .int), 2, 11),
  ((⟨"CommaOrphans", "fewest", "(I)I"⟩, prog_1_method_20_code, 2, some .int), 1, 11),
  ((⟨"CommaOrphans", "buy", "(II)I"⟩, prog_1_method_21_code, 3, some .int), 2, 11),
  ((⟨"CommaOrphans", "can", "()I"⟩, prog_1_method_22_code, 3, some .int), 0, 11),
  ((⟨"CommaOrphans", "hurts", "(II)I"⟩, prog_1_method_23_code, 3, some .int), 2, 11),
  ((⟨"CommaOrphans", "swap", "(I)I"⟩, prog_1_method_24_code, 2, some .int), 1, 11),
  ((⟨"CommaOrphans", "liars", "()I"⟩, prog_1_method_25_code, 3, some .int), 0, 11),
  ((⟨"CommaOrphans", "undo", "()Z"⟩, prog_1_method_26_code, 1, some .boolean), 0, 11),
  ((⟨"CommaOrphans", "image", "(Z)Z"⟩, prog_1_method_27_code, 2, some .boolean), 1, 11),
  ((⟨"CommaOrphans", "look", "(I)I"⟩, prog_1_method_28_code, 2, some .int), 1, 11),
  ((⟨"CommaOrphans", "houseChanged", "()V"⟩, prog_1_method_29_code, 1, none), 0, 11),
  ((⟨"CommaOrphans", "lawChanged", "()V"⟩, prog_1_method_30_code, 1, none), 0, 11),
  ((⟨"CommaOrphans", "forgetThoughts", "()V"⟩, prog_1_method_31_code, 1, none), 0, 11),
  ((⟨"CommaOrphans", "wrongPlaceOfPage", "()I"⟩, prog_1_method_32_code, 2, some .int), 0, 11),
  ((⟨"CommaOrphans", "addBytes", "(I)V"⟩, prog_1_method_33_code, 2, none), 1, 11),
  ((⟨"CommaOrphans", "within", "(II)Z"⟩, prog_1_method_34_code, 2, some .boolean), 2, 11),
  ((⟨"CommaOrphans", "isSign", "(I)Z"⟩, prog_1_method_35_code, 1, some .boolean), 1, 11),
  ((⟨"CommaOrphans", "isLetter", "(I)Z"⟩, prog_1_method_36_code, 1, some .boolean), 1, 11),
  ((⟨"CommaOrphans", "isSmallLetter", "(I)Z"⟩, prog_1_method_37_code, 1, some .boolean), 1, 11),
  ((⟨"CommaOrphans", "isLetterOfText", "(I)Z"⟩, prog_1_method_38_code, 1, some .boolean), 1, 11),
  ((⟨"CommaOrphans", "isDigit", "(I)Z"⟩, prog_1_method_39_code, 1, some .boolean), 1, 11)]
def kML7 : x_ML := [
  ((⟨"CommaOrphans", "isBlank", "(I)Z"⟩, prog_1_method_40_code, 1, some .boolean), 1, 11),
  ((⟨"CommaOrphans", "signOf", "(I)I"⟩, prog_1_method_41_code, 1, some .int), 1, 11)]
/-- all methods; a String's own from 1000 on -/
def kML : x_ML := kML0 ++ (kML1 ++ (kML2 ++ (kML3 ++ (kML4 ++ (kML5 ++ (kML6 ++ (kML7 ++ (List.replicate 774 (x_m0, 0, 0) ++ [((⟨"java/lang/String", "length", "()I"⟩, prog_16_method_54_code, 1, some .int), 0, 99), ((⟨"java/lang/String", "charAt", "(I)C"⟩, prog_16_method_56_code, 2, some .char), 1, 99), ((⟨"java/lang/String", "indexOf", "(I)I"⟩, prog_16_method_79_code, 2, some .int), 1, 99)]))))))))
/-- the methods that are called -/
def kMU : List Nat := (List.range 226).filter (fun j => !(j == 87)) ++ [1000, 1001, 1002]
def kPL : x_PL := [
  ("CommaOrphansModel", [(1, .pop), (7, .invokeinterface 0 1), (13, .invokeinterface 0 2), (16, .invokeinterface 0 5), (19, .invokeinterface 0 6), (22, .invokeinterface 0 7), (25, .invokeinterface 0 8), (28, .invokeinterface 0 9), (31, .invokeinterface 0 10), (34, .invokeinterface 0 14), (37, .invokeinterface 0 16), (40, .invokeinterface 0 18), (43, .invokeinterface 0 19), (46, .invokeinterface 0 20), (49, .invokeinterface 0 26), (52, .invokeinterface 0 28), (55, .invokeinterface 0 29), (58, .invokeinterface 0 30), (61, .invokeinterface 0 31), (64, .invokeinterface 0 32), (67, .invokeinterface 0 35), (70, .invokeinterface 0 40), (74, .invokeinterface 0 41), (77, .invokeinterface 0 42), (80, .invokeinterface 0 43), (83, .invokeinterface 0 44), (86, .invokeinterface 0 48), (89, .invokeinterface 0 52), (92, .invokeinterface 0 0), (95, .invokeinterface 0 3), (98, .iconst 1664525), (99, .iconst 1013904223), (100, .invokeinterface 0 4), (103, .iconst 99999), (104, .invokevirtual 1), (108, .invokevirtual 7), (112, .invokevirtual 6), (115, .invokevirtual 10), (118, .invokeinterface 0 11), (121, .invokevirtual 12), (125, .invokeinterface 0 21), (128, .invokevirtual 14), (131, .invokeinterface 0 13), (134, .invokeinterface 0 17), (137, .invokeinterface 0 15), (140, .invokevirtual 19), (144, .invokeinterface 0 22), (147, .invokevirtual 22), (150, .invokeinterface 0 23), (153, .invokeinterface 0 24), (156, .invokeinterface 0 25), (159, .invokevirtual 23), (162, .invokevirtual 26), (166, .invokevirtual 24), (169, .invokevirtual 25), (172, .invokeinterface 0 37), (175, .invokeinterface 0 38), (178, .invokeinterface 0 33), (181, .invokevirtual 28), (184, .invokevirtual 31), (188, .invokevirtual 27), (191, .invokevirtual 32), (195, .invokevirtual 30), (198, .invokevirtual 33), (201, .invokevirtual 34), (204, .invokeinterface 0 36), (207, .invokeinterface 0 34), (210, .invokevirtual 29), (213, .invokevirtual 36), (216, .invokevirtual 35), (219, .invokevirtual 37), (222, .invokevirtual 38), (225, .invokeinterface 0 39), (228, .invokevirtual 39), (231, .invokeinterface 0 27), (234, .invokevirtual 42), (238, .invokevirtual 43), (241, .invokevirtual 45), (244, .invokevirtual 13), (247, .invokevirtual 46), (250, .invokevirtual 47), (253, .invokevirtual 48), (256, .invokeinterface 0 12), (259, .invokevirtual 44), (262, .invokevirtual 49), (265, .invokevirtual 52), (269, .invokevirtual 2), (272, .invokevirtual 18), (275, .invokevirtual 5), (278, .invokevirtual 51), (281, .invokevirtual 53), (284, .invokevirtual 50), (287, .invokevirtual 56), (290, .invokevirtual 57), (293, .invokevirtual 63), (296, .invokevirtual 64), (300, .invokeinterface 0 45), (303, .invokeinterface 0 46), (306, .invokevirtual 65), (309, .invokevirtual 66), (313, .invokevirtual 68), (316, .invokevirtual 69), (320, .invokeinterface 0 47), (323, .invokevirtual 70), (327, .iconst (-100000)), (328, .invokevirtual 73), (331, .invokevirtual 74), (334, .invokevirtual 76), (337, .invokevirtual 77), (340, .invokeinterface 0 51), (343, .invokeinterface 0 49), (347, .invokevirtual 80), (350, .invokeinterface 0 50), (353, .invokevirtual 82), (356, .invokevirtual 81)]),
  ("CommaOrphansLaw", [(7, .new 11), (9, .invokespecial 185), (10, .new 0), (12, .invokespecial 0), (13, .invokevirtual 186), (17, .invokevirtual 4), (18, .invokevirtual 187), (22, .invokevirtual 8), (23, .invokevirtual 188), (27, .invokevirtual 9), (28, .invokevirtual 189), (32, .invokevirtual 11), (33, .invokevirtual 190), (37, .invokevirtual 20), (38, .invokevirtual 191), (42, .invokevirtual 21), (43, .invokevirtual 192), (47, .invokevirtual 40), (48, .invokevirtual 193), (51, .invokevirtual 41), (52, .invokevirtual 194), (55, .invokevirtual 15), (56, .invokevirtual 195), (59, .invokevirtual 16), (60, .invokevirtual 196), (63, .invokevirtual 17), (64, .invokevirtual 197), (67, .invokevirtual 54), (68, .invokevirtual 198), (71, .invokevirtual 55), (72, .invokevirtual 199), (75, .invokevirtual 58), (76, .invokevirtual 200), (79, .invokevirtual 59), (80, .invokevirtual 201), (83, .invokevirtual 60), (84, .invokevirtual 202), (87, .invokevirtual 61), (88, .invokevirtual 203), (91, .invokevirtual 62), (92, .invokevirtual 204), (95, .invokevirtual 67), (96, .invokevirtual 205), (99, .invokevirtual 71), (100, .invokevirtual 206), (103, .invokevirtual 72), (104, .invokevirtual 207), (107, .invokevirtual 75), (108, .invokevirtual 208), (111, .invokevirtual 78), (112, .invokevirtual 209), (115, .invokevirtual 79), (116, .invokevirtual 210), (120, .invokevirtual 3), (121, .invokevirtual 211), (125, .invokevirtual 83), (126, .invokevirtual 212), (129, .invokevirtual 84)]),
  ("CommaOrphans$Barter", [(3, .pop), (9, .invokeinterface 1 1), (15, .invokeinterface 1 4), (18, .invokeinterface 1 2), (22, .invokeinterface 1 3), (26, .invokeinterface 1 0), (30, .invokestatic 86), (36, .invokevirtual 140), (41, .invokeinterface 3 9), (47, .invokevirtual 152), (51, .invokevirtual 175), (57, .invokevirtual 91), (61, .invokevirtual 90), (65, .invokeinterface 3 6), (68, .invokevirtual 98), (71, .invokevirtual 92), (75, .invokevirtual 150), (79, .invokevirtual 141)]),
  ("CommaOrphans$Basket", [(3, .pop), (9, .invokeinterface 2 0), (15, .invokeinterface 2 1), (19, .new 8), (21, .invokespecial 169), (24, .invokeinterface 2 4), (28, .invokeinterface 2 2), (32, .invokeinterface 2 3), (36, .invokestatic 86), (42, .invokevirtual 140), (47, .invokeinterface 3 10), (53, .invokeinterface 10 2), (58, .invokevirtual 95), (62, .invokeinterface 8 1), (65, .invokevirtual 96), (69, .invokevirtual 173), (72, .invokevirtual 182), (76, .invokevirtual 183), (79, .invokevirtual 150)]),
  ("CommaOrphans$House", [(3, .pop), (9, .invokeinterface 3 1), (15, .invokeinterface 3 2), (18, .invokeinterface 3 3), (21, .invokeinterface 3 4), (24, .invokeinterface 3 5), (27, .invokeinterface 3 6), (30, .invokeinterface 3 7), (33, .invokeinterface 3 8), (36, .new 8), (38, .invokespecial 169), (41, .invokeinterface 3 9), (45, .new 10), (47, .invokespecial 180), (48, .invokeinterface 3 10), (52, .new 4), (54, .invokespecial 110), (55, .invokeinterface 3 11), (59, .invokeinterface 3 12), (62, .invokestatic 86), (68, .invokeinterface 3 0), (72, .invokestatic 218), (76, .invokeinterface 3 16), (79, .invokestatic 100), (83, .iconst 99999), (84, .invokestatic 219), (88, .invokevirtual 98), (91, .iconst 1664525), (92, .invokeinterface 3 17), (95, .iconst 1013904223), (96, .invokedynamic 1), (102, .invokeinterface 3 13), (105, .invokeinterface 3 15), (108, .invokedynamic 2), (114, .invokevirtual 174), (118, .invokevirtual 184), (121, .invokevirtual 116), (124, .invokeinterface 3 14)]),
  ("CommaOrphans$Law", [(3, .pop), (9, .invokeinterface 4 0), (15, .invokeinterface 4 1), (18, .invokeinterface 4 2), (21, .invokeinterface 4 3), (25, .invokeinterface 4 4), (28, .invokeinterface 4 5), (31, .invokedynamic 2), (37, .invokevirtual 117), (41, .invokevirtual 121), (45, .invokedynamic 1), (51, .invokedynamic 0), (54, .invokevirtual 120), (57, .jsr 1000000)]),
  ("CommaOrphans$LawReader", [(3, .pop), (9, .new 4), (11, .invokespecial 110), (12, .invokeinterface 5 0), (18, .invokeinterface 5 2), (22, .invokeinterface 5 4), (26, .invokeinterface 5 5), (29, .invokeinterface 5 3), (33, .invokevirtual 111), (36, .invokeinterface 5 1), (39, .invokevirtual 124), (42, .invokeinterface 5 6), (45, .invokeinterface 5 7), (48, .invokevirtual 131), (52, .invokeinterface 8 1), (57, .invokevirtual 171), (61, .invokestatic 224), (65, .invokevirtual 125), (68, .invokevirtual 126), (72, .invokestatic 222), (75, .invokestatic 223), (78, .invokevirtual 127), (81, .ldc 0), (83, .checkcast 1002), (88, .ldc 1), (90, .checkcast 1000), (93, .invokevirtual 128), (97, .checkcast 1001), (101, .invokevirtual 130), (104, .invokeinterface 4 4), (107, .invokevirtual 129), (110, .invokevirtual 135), (113, .invokevirtual 114), (116, .invokevirtual 132), (119, .invokevirtual 115), (122, .invokevirtual 133), (125, .invokevirtual 112), (129, .invokevirtual 134), (132, .invokevirtual 136), (135, .invokevirtual 137), (138, .invokeinterface 4 5)]),
  ("CommaOrphans$Press", [(3, .pop), (9, .invokeinterface 6 1), (15, .invokeinterface 6 2), (19, .invokeinterface 6 3), (22, .invokeinterface 6 4), (25, .invokeinterface 6 5), (29, .invokeinterface 6 6), (32, .invokeinterface 6 7), (35, .invokeinterface 6 0), (39, .jsr (-1)), (41, .invokestatic 85), (47, .invokevirtual 101), (53, .invokestatic 219), (56, .invokeinterface 3 11), (60, .invokevirtual 113), (65, .invokeinterface 8 1), (71, .invokedynamic 1), (77, .invokedynamic 0), (80, .invokevirtual 171), (84, .invokestatic 220), (87, .invokevirtual 142), (90, .invokeinterface 4 4), (93, .invokevirtual 146), (97, .invokevirtual 118), (101, .invokevirtual 147), (105, .jsr 127), (107, .invokeinterface 3 15), (110, .invokevirtual 119), (113, .invokeinterface 3 6), (116, .invokestatic 148), (120, .invokestatic 149), (123, .invokeinterface 8 0), (126, .invokevirtual 143), (130, .invokevirtual 144), (134, .invokevirtual 140), (137, .invokeinterface 3 9), (141, .invokevirtual 150), (144, .invokestatic 86), (147, .invokeinterface 3 10), (151, .invokevirtual 182), (156, .invokevirtual 183), (159, .invokevirtual 98), (162, .invokevirtual 152), (166, .invokeinterface 3 3), (169, .invokevirtual 157), (172, .invokevirtual 158), (176, .invokevirtual 108), (180, .invokeinterface 3 14), (183, .invokeinterface 3 16), (186, .invokevirtual 102), (189, .invokevirtual 106), (192, .invokevirtual 172)]),
  ("CommaOrphans$Remedy", [(3, .pop), (9, .invokeinterface 7 1), (15, .new 8), (17, .invokespecial 169), (20, .invokeinterface 7 4), (24, .invokeinterface 7 5), (27, .invokeinterface 7 6), (30, .invokeinterface 7 7), (33, .invokeinterface 7 8), (36, .invokeinterface 7 9), (39, .invokeinterface 7 10), (42, .invokeinterface 7 2), (46, .invokeinterface 7 3), (50, .invokeinterface 7 0), (54, .invokestatic 86), (60, .invokeinterface 3 9), (65, .invokeinterface 8 1), (69, .invokevirtual 140), (74, .invokevirtual 174), (78, .invokevirtual 162), (81, .invokevirtual 166), (84, .invokevirtual 165), (88, .invokevirtual 167), (92, .invokevirtual 161), (96, .invokevirtual 171), (100, .invokevirtual 168), (103, .invokevirtual 172), (107, .invokevirtual 145), (110, .invokevirtual 98), (113, .invokeinterface 3 3), (116, .invokevirtual 105), (119, .invokeinterface 3 2), (122, .invokevirtual 142), (125, .invokeinterface 3 6), (128, .invokedynamic 0), (134, .invokeinterface 7 11), (137, .invokevirtual 150), (141, .invokevirtual 152), (145, .invokestatic 219), (148, .invokestatic 220), (151, .invokevirtual 163), (155, .invokevirtual 164)]),
  ("CommaOrphans$Row", [(3, .pop), (9, .invokedynamic 0), (15, .invokeinterface 8 0), (21, .invokeinterface 8 1), (25, .invokevirtual 170), (29, .invokedynamic 1), (32, .invokevirtual 171)]),
  ("CommaOrphans$Shelf", [(3, .pop), (9, .invokeinterface 9 0), (15, .invokeinterface 9 1), (18, .invokeinterface 9 2), (21, .invokeinterface 9 3), (24, .invokeinterface 9 4), (27, .invokeinterface 9 5), (31, .invokevirtual 178), (34, .invokeinterface 3 1), (39, .invokedynamic 2), (45, .invokeinterface 3 8), (46, .invokeinterface 3 13), (48, .invokeinterface 3 14), (50, .invokeinterface 3 17)]),
  ("CommaOrphans$WordList", [(3, .pop), (9, .invokeinterface 10 0), (15, .invokeinterface 10 1), (18, .invokeinterface 10 2), (22, .invokeinterface 8 1), (27, .invokevirtual 171), (31, .invokestatic 221), (35, .invokestatic 225), (38, .invokedynamic 2)]),
  ("CommaOrphans", [(1, .pop), (7, .new 3), (9, .invokespecial 97), (10, .invokeinterface 11 0), (16, .invokeinterface 11 1), (19, .new 8), (21, .invokespecial 169), (24, .invokeinterface 11 3), (28, .new 5), (30, .invokespecial 122), (33, .invokeinterface 11 4), (37, .new 9), (39, .invokespecial 176), (40, .invokeinterface 11 5), (44, .new 6), (46, .invokespecial 138), (49, .invokeinterface 11 6), (53, .new 7), (55, .invokespecial 159), (58, .invokeinterface 11 7), (62, .new 2), (64, .invokespecial 93), (65, .invokeinterface 11 8), (69, .new 1), (71, .invokespecial 88), (72, .invokeinterface 11 9), (76, .invokeinterface 3 17), (80, .invokeinterface 9 5), (83, .invokeinterface 3 0), (86, .iconst 99999), (87, .invokestatic 218), (91, .invokeinterface 3 1), (95, .invokeinterface 3 2), (98, .invokeinterface 3 3), (101, .invokeinterface 3 4), (104, .invokeinterface 3 5), (107, .invokevirtual 213), (110, .invokestatic 219), (114, .invokevirtual 98), (117, .invokeinterface 3 6), (120, .invokevirtual 99), (124, .invokeinterface 8 1), (127, .invokevirtual 217), (130, .invokevirtual 123), (134, .invokeinterface 3 11), (138, .invokeinterface 5 0), (141, .invokevirtual 116), (147, .invokevirtual 214), (150, .invokeinterface 4 4), (153, .invokeinterface 5 1), (156, .invokeinterface 5 2), (159, .invokevirtual 216), (163, .invokeinterface 3 9), (166, .invokevirtual 171), (170, .invokestatic 225), (173, .invokevirtual 173), (176, .invokevirtual 215), (179, .invokeinterface 3 10), (183, .invokevirtual 181), (188, .invokeinterface 10 2), (189, .invokevirtual 177), (192, .invokevirtual 156), (195, .invokeinterface 3 15), (198, .invokevirtual 107), (201, .invokevirtual 103), (204, .invokevirtual 151), (207, .invokeinterface 3 7), (210, .invokeinterface 3 8), (213, .invokevirtual 170), (214, .invokevirtual 140), (217, .invokevirtual 143), (221, .invokevirtual 144), (225, .invokeinterface 3 13), (228, .invokeinterface 3 12), (231, .invokeinterface 7 0), (235, .invokevirtual 160), (238, .invokeinterface 7 1), (241, .invokeinterface 2 0), (244, .invokevirtual 94), (246, .invokeinterface 2 1), (247, .invokevirtual 153), (250, .iconst (-100000)), (251, .invokevirtual 154), (254, .invokevirtual 155), (257, .invokeinterface 1 0), (258, .invokevirtual 89), (259, .invokeinterface 1 1), (260, .invokevirtual 104), (263, .invokevirtual 179), (267, .invokevirtual 109), (269, .invokeinterface 11 2), (272, .invokeinterface 3 14), (275, .invokeinterface 3 16), (278, .invokevirtual 139), (281, .invokestatic 221)])]
def kX : x_X := ([("CommaOrphans$LawReader", 81, ";+-*/()<=>", 0), ("CommaOrphans$LawReader", 88, "pay  when or   and  not  sign placelong used vowelownerday  left first", 1)], 2, [10, 70], [[59, 43, 45, 42, 47, 40, 41, 60, 61, 62], [112, 97, 121, 32, 32, 119, 104, 101, 110, 32, 111, 114, 32, 32, 32, 97, 110, 100, 32, 32, 110, 111, 116, 32, 32, 115, 105, 103, 110, 32, 112, 108, 97, 99, 101, 108, 111, 110, 103, 32, 117, 115, 101, 100, 32, 118, 111, 119, 101, 108, 111, 119, 110, 101, 114, 100, 97, 121, 32, 32, 108, 101, 102, 116, 32, 102, 105, 114, 115, 116]], [("CommaOrphans", 39, ⟨"CommaOrphans$Shelf", "<init>", "()V"⟩, "CommaOrphans"), ("CommaOrphans$House", 47, ⟨"CommaOrphans$WordList", "<init>", "()V"⟩, "CommaOrphans"), ("CommaOrphans$House", 54, ⟨"CommaOrphans$Law", "<init>", "()V"⟩, "CommaOrphans"), ("CommaOrphans$House", 72, ⟨"CommaOrphans", "within", "(II)Z"⟩, "CommaOrphans"), ("CommaOrphans$House", 84, ⟨"CommaOrphans", "isSign", "(I)Z"⟩, "CommaOrphans"), ("CommaOrphans$LawReader", 11, ⟨"CommaOrphans$Law", "<init>", "()V"⟩, "CommaOrphans"), ("CommaOrphans$LawReader", 61, ⟨"CommaOrphans", "isBlank", "(I)Z"⟩, "CommaOrphans"), ("CommaOrphans$LawReader", 72, ⟨"CommaOrphans", "isLetterOfText", "(I)Z"⟩, "CommaOrphans"), ("CommaOrphans$LawReader", 75, ⟨"CommaOrphans", "isDigit", "(I)Z"⟩, "CommaOrphans"), ("CommaOrphans$Press", 53, ⟨"CommaOrphans", "isSign", "(I)Z"⟩, "CommaOrphans"), ("CommaOrphans$Press", 84, ⟨"CommaOrphans", "isLetter", "(I)Z"⟩, "CommaOrphans"), ("CommaOrphans$Remedy", 145, ⟨"CommaOrphans", "isSign", "(I)Z"⟩, "CommaOrphans"), ("CommaOrphans$Remedy", 148, ⟨"CommaOrphans", "isLetter", "(I)Z"⟩, "CommaOrphans"), ("CommaOrphans$WordList", 31, ⟨"CommaOrphans", "isSmallLetter", "(I)Z"⟩, "CommaOrphans"), ("CommaOrphans$WordList", 35, ⟨"CommaOrphans", "signOf", "(I)I"⟩, "CommaOrphans")], [("java/lang/String", "COMPACT_STRINGS", "Z", .int 1), ("jdk/internal/util/Preconditions", "SIOOBE_FORMATTER", "Ljava/util/function/BiFunction;", .null)])
end
section
def kB0 : x_R := [(0, .aload_n 0, 1, .aload 0), (1, .invokespecial 1, 3, .pop), (4, .aload_n 0, 1, .aload 0), (5, .bipush 40, 2, .iconst 40), (7, .newarray .int, 2, .newarray .int), (9, .putfield 7, 3, .multianewarray 0 2001), (12, .aload_n 0, 1, .aload 0), (13, .sipush 240, 3, .iconst 240), (16, .newarray .int, 2, .newarray .int), (18, .putfield 13, 3, .multianewarray 0 2002), (21, .aload_n 0, 1, .aload 0), (22, .bipush 8, 2, .iconst 8), (24, .newarray .int, 2, .newarray .int), (26, .putfield 16, 3, .multianewarray 0 2005), (29, .aload_n 0, 1, .aload 0), (30, .bipush 8, 2, .iconst 8), (32, .newarray .int, 2, .newarray .int), (34, .putfield 19, 3, .multianewarray 0 2006), (37, .aload_n 0, 1, .aload 0), (38, .bipush 8, 2, .iconst 8), (40, .newarray .int, 2, .newarray .int), (42, .putfield 22, 3, .multianewarray 0 2007), (45, .aload_n 0, 1, .aload 0), (46, .bipush 8, 2, .iconst 8), (48, .newarray .int, 2, .newarray .int), (50, .putfield 25, 3, .multianewarray 0 2008), (53, .aload_n 0, 1, .aload 0), (54, .bipush 29, 2, .iconst 29), (56, .newarray .int, 2, .newarray .int), (58, .putfield 28, 3, .multianewarray 0 2009), (61, .aload_n 0, 1, .aload 0), (62, .bipush 29, 2, .iconst 29), (64, .newarray .int, 2, .newarray .int), (66, .putfield 31, 3, .multianewarray 0 2010), (69, .aload_n 0, 1, .aload 0), (70, .bipush 60, 2, .iconst 60), (72, .newarray .int, 2, .newarray .int), (74, .putfield 34, 3, .multianewarray 0 2014), (77, .aload_n 0, 1, .aload 0), (78, .bipush 60, 2, .iconst 60), (80, .newarray .int, 2, .newarray .int), (82, .putfield 37, 3, .multianewarray 0 2016), (85, .aload_n 0, 1, .aload 0), (86, .bipush 20, 2, .iconst 20), (88, .newarray .int, 2, .newarray .int), (90, .putfield 40, 3, .multianewarray 0 2018), (93, .aload_n 0, 1, .aload 0), (94, .sipush 240, 3, .iconst 240), (97, .newarray .int, 2, .newarray .int), (99, .putfield 43, 3, .multianewarray 0 2019), (102, .aload_n 0, 1, .aload 0), (103, .sipush 400, 3, .iconst 400), (106, .newarray .int, 2, .newarray .int), (108, .putfield 46, 3, .multianewarray 0 2020), (111, .aload_n 0, 1, .aload 0), (112, .bipush 69, 2, .iconst 69), (114, .newarray .int, 2, .newarray .int), (116, .dup, 1, .dup), (117, .iconst 0, 1, .iconst 0), (118, .bipush 32, 2, .iconst 32), (120, .iastore, 1, .iastore), (121, .dup, 1, .dup), (122, .iconst 1, 1, .iconst 1), (123, .bipush 112, 2, .iconst 112), (125, .iastore, 1, .iastore), (126, .dup, 1, .dup), (127, .iconst 2, 1, .iconst 2), (128, .bipush 97, 2, .iconst 97), (130, .iastore, 1, .iastore), (131, .dup, 1, .dup), (132, .iconst 3, 1, .iconst 3), (133, .bipush 121, 2, .iconst 121), (135, .iastore, 1, .iastore), (136, .dup, 1, .dup), (137, .iconst 4, 1, .iconst 4), (138, .bipush 32, 2, .iconst 32), (140, .iastore, 1, .iastore), (141, .dup, 1, .dup), (142, .iconst 5, 1, .iconst 5), (143, .bipush 119, 2, .iconst 119), (145, .iastore, 1, .iastore), (146, .dup, 1, .dup), (147, .bipush 6, 2, .iconst 6), (149, .bipush 104, 2, .iconst 104), (151, .iastore, 1, .iastore), (152, .dup, 1, .dup), (153, .bipush 7, 2, .iconst 7), (155, .bipush 101, 2, .iconst 101), (157, .iastore, 1, .iastore), (158, .dup, 1, .dup), (159, .bipush 8, 2, .iconst 8), (161, .bipush 110, 2, .iconst 110), (163, .iastore, 1, .iastore), (164, .dup, 1, .dup), (165, .bipush 9, 2, .iconst 9), (167, .bipush 32, 2, .iconst 32), (169, .iastore, 1, .iastore), (170, .dup, 1, .dup), (171, .bipush 10, 2, .iconst 10), (173, .bipush 111, 2, .iconst 111), (175, .iastore, 1, .iastore), (176, .dup, 1, .dup), (177, .bipush 11, 2, .iconst 11), (179, .bipush 114, 2, .iconst 114), (181, .iastore, 1, .iastore), (182, .dup, 1, .dup), (183, .bipush 12, 2, .iconst 12), (185, .bipush 32, 2, .iconst 32), (187, .iastore, 1, .iastore), (188, .dup, 1, .dup), (189, .bipush 13, 2, .iconst 13), (191, .bipush 97, 2, .iconst 97), (193, .iastore, 1, .iastore), (194, .dup, 1, .dup), (195, .bipush 14, 2, .iconst 14), (197, .bipush 110, 2, .iconst 110), (199, .iastore, 1, .iastore), (200, .dup, 1, .dup), (201, .bipush 15, 2, .iconst 15), (203, .bipush 100, 2, .iconst 100), (205, .iastore, 1, .iastore), (206, .dup, 1, .dup), (207, .bipush 16, 2, .iconst 16), (209, .bipush 32, 2, .iconst 32), (211, .iastore, 1, .iastore), (212, .dup, 1, .dup), (213, .bipush 17, 2, .iconst 17), (215, .bipush 110, 2, .iconst 110), (217, .iastore, 1, .iastore), (218, .dup, 1, .dup), (219, .bipush 18, 2, .iconst 18), (221, .bipush 111, 2, .iconst 111), (223, .iastore, 1, .iastore), (224, .dup, 1, .dup), (225, .bipush 19, 2, .iconst 19), (227, .bipush 116, 2, .iconst 116), (229, .iastore, 1, .iastore), (230, .dup, 1, .dup), (231, .bipush 20, 2, .iconst 20), (233, .bipush 32, 2, .iconst 32), (235, .iastore, 1, .iastore), (236, .dup, 1, .dup), (237, .bipush 21, 2, .iconst 21), (239, .bipush 115, 2, .iconst 115), (241, .iastore, 1, .iastore), (242, .dup, 1, .dup), (243, .bipush 22, 2, .iconst 22), (245, .bipush 105, 2, .iconst 105), (247, .iastore, 1, .iastore), (248, .dup, 1, .dup), (249, .bipush 23, 2, .iconst 23), (251, .bipush 103, 2, .iconst 103), (253, .iastore, 1, .iastore), (254, .dup, 1, .dup), (255, .bipush 24, 2, .iconst 24), (257, .bipush 110, 2, .iconst 110), (259, .iastore, 1, .iastore), (260, .dup, 1, .dup), (261, .bipush 25, 2, .iconst 25), (263, .bipush 32, 2, .iconst 32), (265, .iastore, 1, .iastore), (266, .dup, 1, .dup), (267, .bipush 26, 2, .iconst 26), (269, .bipush 112, 2, .iconst 112), (271, .iastore, 1, .iastore), (272, .dup, 1, .dup), (273, .bipush 27, 2, .iconst 27), (275, .bipush 108, 2, .iconst 108), (277, .iastore, 1, .iastore), (278, .dup, 1, .dup), (279, .bipush 28, 2, .iconst 28), (281, .bipush 97, 2, .iconst 97), (283, .iastore, 1, .iastore), (284, .dup, 1, .dup), (285, .bipush 29, 2, .iconst 29), (287, .bipush 99, 2, .iconst 99), (289, .iastore, 1, .iastore), (290, .dup, 1, .dup), (291, .bipush 30, 2, .iconst 30), (293, .bipush 101, 2, .iconst 101), (295, .iastore, 1, .iastore), (296, .dup, 1, .dup), (297, .bipush 31, 2, .iconst 31), (299, .bipush 32, 2, .iconst 32), (301, .iastore, 1, .iastore), (302, .dup, 1, .dup), (303, .bipush 32, 2, .iconst 32), (305, .bipush 108, 2, .iconst 108), (307, .iastore, 1, .iastore), (308, .dup, 1, .dup), (309, .bipush 33, 2, .iconst 33), (311, .bipush 111, 2, .iconst 111), (313, .iastore, 1, .iastore), (314, .dup, 1, .dup), (315, .bipush 34, 2, .iconst 34), (317, .bipush 110, 2, .iconst 110), (319, .iastore, 1, .iastore), (320, .dup, 1, .dup), (321, .bipush 35, 2, .iconst 35), (323, .bipush 103, 2, .iconst 103), (325, .iastore, 1, .iastore), (326, .dup, 1, .dup), (327, .bipush 36, 2, .iconst 36), (329, .bipush 32, 2, .iconst 32), (331, .iastore, 1, .iastore), (332, .dup, 1, .dup), (333, .bipush 37, 2, .iconst 37), (335, .bipush 117, 2, .iconst 117), (337, .iastore, 1, .iastore), (338, .dup, 1, .dup), (339, .bipush 38, 2, .iconst 38), (341, .bipush 115, 2, .iconst 115), (343, .iastore, 1, .iastore), (344, .dup, 1, .dup), (345, .bipush 39, 2, .iconst 39), (347, .bipush 101, 2, .iconst 101), (349, .iastore, 1, .iastore), (350, .dup, 1, .dup), (351, .bipush 40, 2, .iconst 40), (353, .bipush 100, 2, .iconst 100), (355, .iastore, 1, .iastore), (356, .dup, 1, .dup), (357, .bipush 41, 2, .iconst 41), (359, .bipush 32, 2, .iconst 32), (361, .iastore, 1, .iastore), (362, .dup, 1, .dup), (363, .bipush 42, 2, .iconst 42), (365, .bipush 118, 2, .iconst 118), (367, .iastore, 1, .iastore), (368, .dup, 1, .dup), (369, .bipush 43, 2, .iconst 43), (371, .bipush 111, 2, .iconst 111), (373, .iastore, 1, .iastore), (374, .dup, 1, .dup), (375, .bipush 44, 2, .iconst 44), (377, .bipush 119, 2, .iconst 119), (379, .iastore, 1, .iastore), (380, .dup, 1, .dup), (381, .bipush 45, 2, .iconst 45), (383, .bipush 101, 2, .iconst 101), (385, .iastore, 1, .iastore), (386, .dup, 1, .dup), (387, .bipush 46, 2, .iconst 46), (389, .bipush 108, 2, .iconst 108), (391, .iastore, 1, .iastore), (392, .dup, 1, .dup), (393, .bipush 47, 2, .iconst 47), (395, .bipush 32, 2, .iconst 32), (397, .iastore, 1, .iastore), (398, .dup, 1, .dup), (399, .bipush 48, 2, .iconst 48), (401, .bipush 111, 2, .iconst 111), (403, .iastore, 1, .iastore), (404, .dup, 1, .dup), (405, .bipush 49, 2, .iconst 49), (407, .bipush 119, 2, .iconst 119), (409, .iastore, 1, .iastore), (410, .dup, 1, .dup), (411, .bipush 50, 2, .iconst 50), (413, .bipush 110, 2, .iconst 110), (415, .iastore, 1, .iastore), (416, .dup, 1, .dup), (417, .bipush 51, 2, .iconst 51), (419, .bipush 101, 2, .iconst 101), (421, .iastore, 1, .iastore), (422, .dup, 1, .dup), (423, .bipush 52, 2, .iconst 52), (425, .bipush 114, 2, .iconst 114), (427, .iastore, 1, .iastore), (428, .dup, 1, .dup), (429, .bipush 53, 2, .iconst 53), (431, .bipush 32, 2, .iconst 32), (433, .iastore, 1, .iastore), (434, .dup, 1, .dup), (435, .bipush 54, 2, .iconst 54), (437, .bipush 100, 2, .iconst 100), (439, .iastore, 1, .iastore), (440, .dup, 1, .dup), (441, .bipush 55, 2, .iconst 55), (443, .bipush 97, 2, .iconst 97), (445, .iastore, 1, .iastore), (446, .dup, 1, .dup), (447, .bipush 56, 2, .iconst 56), (449, .bipush 121, 2, .iconst 121), (451, .iastore, 1, .iastore), (452, .dup, 1, .dup), (453, .bipush 57, 2, .iconst 57), (455, .bipush 32, 2, .iconst 32), (457, .iastore, 1, .iastore), (458, .dup, 1, .dup), (459, .bipush 58, 2, .iconst 58), (461, .bipush 108, 2, .iconst 108), (463, .iastore, 1, .iastore), (464, .dup, 1, .dup), (465, .bipush 59, 2, .iconst 59), (467, .bipush 101, 2, .iconst 101), (469, .iastore, 1, .iastore), (470, .dup, 1, .dup), (471, .bipush 60, 2, .iconst 60), (473, .bipush 102, 2, .iconst 102), (475, .iastore, 1, .iastore), (476, .dup, 1, .dup), (477, .bipush 61, 2, .iconst 61), (479, .bipush 116, 2, .iconst 116), (481, .iastore, 1, .iastore), (482, .dup, 1, .dup), (483, .bipush 62, 2, .iconst 62), (485, .bipush 32, 2, .iconst 32), (487, .iastore, 1, .iastore), (488, .dup, 1, .dup), (489, .bipush 63, 2, .iconst 63), (491, .bipush 102, 2, .iconst 102), (493, .iastore, 1, .iastore), (494, .dup, 1, .dup), (495, .bipush 64, 2, .iconst 64), (497, .bipush 105, 2, .iconst 105), (499, .iastore, 1, .iastore), (500, .dup, 1, .dup), (501, .bipush 65, 2, .iconst 65), (503, .bipush 114, 2, .iconst 114), (505, .iastore, 1, .iastore), (506, .dup, 1, .dup), (507, .bipush 66, 2, .iconst 66), (509, .bipush 115, 2, .iconst 115), (511, .iastore, 1, .iastore), (512, .dup, 1, .dup), (513, .bipush 67, 2, .iconst 67), (515, .bipush 116, 2, .iconst 116), (517, .iastore, 1, .iastore), (518, .dup, 1, .dup), (519, .bipush 68, 2, .iconst 68), (521, .bipush 32, 2, .iconst 32), (523, .iastore, 1, .iastore), (524, .putfield 49, 3, .multianewarray 0 2026), (527, .aload_n 0, 1, .aload 0), (528, .bipush 32, 2, .iconst 32), (530, .newarray .int, 2, .newarray .int), (532, .putfield 52, 3, .multianewarray 0 2028), (535, .aload_n 0, 1, .aload 0), (536, .bipush 32, 2, .iconst 32), (538, .newarray .int, 2, .newarray .int), (540, .putfield 55, 3, .multianewarray 0 2029), (543, .aload_n 0, 1, .aload 0), (544, .bipush 32, 2, .iconst 32), (546, .newarray .int, 2, .newarray .int), (548, .putfield 58, 3, .multianewarray 0 2030), (551, .aload_n 0, 1, .aload 0), (552, .sipush 800, 3, .iconst 800), (555, .newarray .int, 2, .newarray .int), (557, .putfield 61, 3, .multianewarray 0 2031), (560, .aload_n 0, 1, .aload 0), (561, .sipush 800, 3, .iconst 800), (564, .newarray .int, 2, .newarray .int), (566, .putfield 64, 3, .multianewarray 0 2032), (569, .aload_n 0, 1, .aload 0), (570, .bipush 40, 2, .iconst 40), (572, .newarray .int, 2, .newarray .int), (574, .putfield 67, 3, .multianewarray 0 2035), (577, .aload_n 0, 1, .aload 0), (578, .iconst (-1), 1, .iconst (-1)), (579, .putfield 70, 3, .multianewarray 0 40), (582, .aload_n 0, 1, .aload 0), (583, .bipush 9, 2, .iconst 9), (585, .newarray .int, 2, .newarray .int), (587, .putfield 74, 3, .multianewarray 0 2041), (590, .aload_n 0, 1, .aload 0), (591, .sipush 420, 3, .iconst 420), (594, .newarray .int, 2, .newarray .int), (596, .putfield 77, 3, .multianewarray 0 2042), (599, .aload_n 0, 1, .aload 0), (600, .bipush 8, 2, .iconst 8), (602, .newarray .int, 2, .newarray .int), (604, .putfield 80, 3, .multianewarray 0 2043), (607, .aload_n 0, 1, .aload 0), (608, .sipush 1000, 3, .iconst 1000), (611, .newarray .int, 2, .newarray .int), (613, .putfield 83, 3, .multianewarray 0 2044), (616, .aload_n 0, 1, .aload 0), (617, .iconst 3, 1, .iconst 3), (618, .newarray .int, 2, .newarray .int), (620, .putfield 86, 3, .multianewarray 0 2048), (623, .aload_n 0, 1, .aload 0), (624, .sipush 2400, 3, .iconst 2400), (627, .newarray .int, 2, .newarray .int), (629, .putfield 89, 3, .multianewarray 0 2052), (632, .return_, 1, .return_)]
def kB1 : x_R := [(0, .iload_n 1, 1, .iload 1), (1, .iload_n 2, 1, .iload 2), (2, .if_icmp .lt 12, 3, .if_icmp .lt (.ofNat 8)), (5, .iload_n 1, 1, .iload 1), (6, .iload_n 3, 1, .iload 3), (7, .if_icmp .gt 7, 3, .if_icmp .gt (.ofNat 8)), (10, .iconst 1, 1, .iconst 1), (11, .goto 4, 3, .goto 9), (14, .iconst 0, 1, .iconst 0), (15, .ireturn, 1, .areturn)]
def kB2 : x_R := [(0, .aload_n 0, 1, .aload 0), (1, .getfield 95, 3, .invokeinterface 0 3), (4, .bipush 6, 2, .iconst 6), (6, .if_icmp .ne 47, 3, .if_icmp .ne (.ofNat 30)), (9, .aload_n 0, 1, .aload 0), (10, .aload_n 0, 1, .aload 0), (11, .getfield 95, 3, .invokeinterface 0 3), (14, .iconst 1, 1, .iconst 1), (15, .isub, 1, .isub), (16, .putfield 95, 3, .multianewarray 0 3), (19, .iconst 0, 1, .iconst 0), (20, .istore_n 1, 1, .istore 1), (21, .iload_n 1, 1, .iload 1), (22, .bipush 40, 2, .iconst 40), (24, .aload_n 0, 1, .aload 0), (25, .getfield 95, 3, .invokeinterface 0 3), (28, .imul, 1, .imul), (29, .if_icmp .ge 24, 3, .if_icmp .ge (.ofNat 30)), (32, .aload_n 0, 1, .aload 0), (33, .getfield 13, 3, .invokeinterface 0 2), (36, .iload_n 1, 1, .iload 1), (37, .aload_n 0, 1, .aload 0), (38, .getfield 13, 3, .invokeinterface 0 2), (41, .iload_n 1, 1, .iload 1), (42, .bipush 40, 2, .iconst 40), (44, .iadd, 1, .iadd), (45, .iaload, 1, .iaload), (46, .iastore, 1, .iastore), (47, .iinc 1 1, 3, .iinc 1 1), (50, .goto (-29), 3, .jsr_w 12), (53, .iconst 0, 1, .iconst 0), (54, .istore_n 1, 1, .istore 1), (55, .iload_n 1, 1, .iload 1), (56, .bipush 40, 2, .iconst 40), (58, .if_icmp .ge 29, 3, .if_icmp .ge (.ofNat 50)), (61, .aload_n 0, 1, .aload 0), (62, .getfield 13, 3, .invokeinterface 0 2), (65, .bipush 40, 2, .iconst 40), (67, .aload_n 0, 1, .aload 0), (68, .getfield 95, 3, .invokeinterface 0 3), (71, .imul, 1, .imul), (72, .iload_n 1, 1, .iload 1), (73, .iadd, 1, .iadd), (74, .aload_n 0, 1, .aload 0), (75, .getfield 7, 3, .invokeinterface 0 1), (78, .iload_n 1, 1, .iload 1), (79, .iaload, 1, .iaload), (80, .iastore, 1, .iastore), (81, .iinc 1 1, 3, .iinc 1 1), (84, .goto (-29), 3, .jsr_w 32), (87, .aload_n 0, 1, .aload 0), (88, .aload_n 0, 1, .aload 0), (89, .getfield 95, 3, .invokeinterface 0 3), (92, .iconst 1, 1, .iconst 1), (93, .iadd, 1, .iadd), (94, .putfield 95, 3, .multianewarray 0 3), (97, .return_, 1, .return_)]
def kB3 : x_R := [(0, .aload_n 0, 1, .aload 0), (1, .iconst 0, 1, .iconst 0), (2, .putfield 92, 3, .multianewarray 0 0), (5, .aload_n 0, 1, .aload 0), (6, .getfield 95, 3, .invokeinterface 0 3), (9, .ifCond .ne 5, 3, .ifCond .ne (.ofNat 8)), (12, .iconst 0, 1, .iconst 0), (13, .ireturn, 1, .areturn), (14, .aload_n 0, 1, .aload 0), (15, .aload_n 0, 1, .aload 0), (16, .getfield 95, 3, .invokeinterface 0 3), (19, .iconst 1, 1, .iconst 1), (20, .isub, 1, .isub), (21, .putfield 95, 3, .multianewarray 0 3), (24, .iconst 0, 1, .iconst 0), (25, .istore_n 1, 1, .istore 1), (26, .iload_n 1, 1, .iload 1), (27, .bipush 40, 2, .iconst 40), (29, .if_icmp .ge 29, 3, .if_icmp .ge (.ofNat 34)), (32, .aload_n 0, 1, .aload 0), (33, .getfield 7, 3, .invokeinterface 0 1), (36, .iload_n 1, 1, .iload 1), (37, .aload_n 0, 1, .aload 0), (38, .getfield 13, 3, .invokeinterface 0 2), (41, .bipush 40, 2, .iconst 40), (43, .aload_n 0, 1, .aload 0), (44, .getfield 95, 3, .invokeinterface 0 3), (47, .imul, 1, .imul), (48, .iload_n 1, 1, .iload 1), (49, .iadd, 1, .iadd), (50, .iaload, 1, .iaload), (51, .iastore, 1, .iastore), (52, .iinc 1 1, 3, .iinc 1 1), (55, .goto (-29), 3, .jsr_w 16), (58, .iconst 1, 1, .iconst 1), (59, .ireturn, 1, .areturn)]
def kB4 : x_R := [(0, .aload_n 0, 1, .aload 0), (1, .iconst 0, 1, .iconst 0), (2, .putfield 92, 3, .multianewarray 0 0), (5, .aload_n 0, 1, .aload 0), (6, .getfield 7, 3, .invokeinterface 0 1), (9, .bipush 39, 2, .iconst 39), (11, .iaload, 1, .iaload), (12, .istore_n 2, 1, .istore 2), (13, .aload_n 0, 1, .aload 0), (14, .getfield 7, 3, .invokeinterface 0 1), (17, .bipush 39, 2, .iconst 39), (19, .iload_n 1, 1, .iload 1), (20, .iastore, 1, .iastore), (21, .aload_n 0, 1, .aload 0), (22, .iconst 0, 1, .iconst 0), (23, .putfield 95, 3, .multianewarray 0 3), (26, .iload_n 2, 1, .iload 2), (27, .ireturn, 1, .ireturn)]
def kB5 : x_R := [(0, .aload_n 0, 1, .aload 0), (1, .getfield 7, 3, .invokeinterface 0 1), (4, .bipush 39, 2, .iconst 39), (6, .ldc 98, 2, .iconst 1664525), (8, .aload_n 0, 1, .aload 0), (9, .getfield 7, 3, .invokeinterface 0 1), (12, .bipush 39, 2, .iconst 39), (14, .iaload, 1, .iaload), (15, .imul, 1, .imul), (16, .ldc 99, 2, .iconst 1013904223), (18, .iadd, 1, .iadd), (19, .iastore, 1, .iastore), (20, .aload_n 0, 1, .aload 0), (21, .getfield 7, 3, .invokeinterface 0 1), (24, .bipush 39, 2, .iconst 39), (26, .iaload, 1, .iaload), (27, .bipush 8, 2, .iconst 8), (29, .iushr, 1, .iushr), (30, .iload_n 1, 1, .iload 1), (31, .irem, 1, .irem), (32, .ireturn, 1, .ireturn)]
def kB6 : x_R := [(0, .iload_n 1, 1, .iload 1), (1, .ifCond .lt 15, 3, .ifCond .lt (.ofNat 8)), (4, .iload_n 1, 1, .iload 1), (5, .aload_n 0, 1, .aload 0), (6, .getfield 100, 3, .invokeinterface 0 4), (9, .if_icmp .ge 7, 3, .if_icmp .ge (.ofNat 8)), (12, .iconst 1, 1, .iconst 1), (13, .goto 4, 3, .goto 9), (16, .iconst 0, 1, .iconst 0), (17, .ireturn, 1, .areturn)]
def kB7 : x_R := [(0, .iload_n 1, 1, .iload 1), (1, .ifCond .lt 13, 3, .ifCond .lt (.ofNat 7)), (4, .iload_n 1, 1, .iload 1), (5, .bipush 29, 2, .iconst 29), (7, .if_icmp .ge 7, 3, .if_icmp .ge (.ofNat 7)), (10, .iconst 1, 1, .iconst 1), (11, .goto 4, 3, .goto 8), (14, .iconst 0, 1, .iconst 0), (15, .ireturn, 1, .areturn)]
def kB8 : x_R := [(0, .aload_n 0, 1, .aload 0), (1, .iconst 0, 1, .iconst 0), (2, .putfield 92, 3, .multianewarray 0 0), (5, .aload_n 0, 1, .aload 0), (6, .iload_n 1, 1, .iload 1), (7, .iconst 0, 1, .iconst 0), (8, .ldc 103, 2, .iconst 99999), (10, .invokevirtual 104, 3, .invokevirtual 1), (13, .ifCond .eq 23, 3, .ifCond .eq (.ofNat 19)), (16, .aload_n 0, 1, .aload 0), (17, .iload_n 2, 1, .iload 2), (18, .iconst 0, 1, .iconst 0), (19, .bipush 99, 2, .iconst 99), (21, .invokevirtual 104, 3, .invokevirtual 1), (24, .ifCond .eq 12, 3, .ifCond .eq (.ofNat 19)), (27, .aload_n 0, 1, .aload 0), (28, .getfield 100, 3, .invokeinterface 0 4), (31, .bipush 8, 2, .iconst 8), (33, .if_icmp .ne 5, 3, .if_icmp .ne (.ofNat 21)), (36, .iconst (-1), 1, .iconst (-1)), (37, .ireturn, 1, .ireturn), (38, .aload_n 0, 1, .aload 0), (39, .getfield 7, 3, .invokeinterface 0 1), (42, .iconst 0, 1, .iconst 0), (43, .aload_n 0, 1, .aload 0), (44, .getfield 100, 3, .invokeinterface 0 4), (47, .iadd, 1, .iadd), (48, .iload_n 1, 1, .iload 1), (49, .iastore, 1, .iastore), (50, .aload_n 0, 1, .aload 0), (51, .getfield 16, 3, .invokeinterface 0 5), (54, .aload_n 0, 1, .aload 0), (55, .getfield 100, 3, .invokeinterface 0 4), (58, .iload_n 2, 1, .iload 2), (59, .iastore, 1, .iastore), (60, .aload_n 0, 1, .aload 0), (61, .aload_n 0, 1, .aload 0), (62, .getfield 100, 3, .invokeinterface 0 4), (65, .iconst 1, 1, .iconst 1), (66, .iadd, 1, .iadd), (67, .putfield 100, 3, .multianewarray 0 4), (70, .aload_n 0, 1, .aload 0), (71, .iconst 0, 1, .iconst 0), (72, .putfield 95, 3, .multianewarray 0 3), (75, .aload_n 0, 1, .aload 0), (76, .getfield 100, 3, .invokeinterface 0 4), (79, .iconst 1, 1, .iconst 1), (80, .isub, 1, .isub), (81, .ireturn, 1, .ireturn)]
def kB9 : x_R := [(0, .aload_n 0, 1, .aload 0), (1, .iconst 0, 1, .iconst 0), (2, .putfield 92, 3, .multianewarray 0 0), (5, .aload_n 0, 1, .aload 0), (6, .iload_n 1, 1, .iload 1), (7, .invokevirtual 108, 3, .invokevirtual 7), (10, .ifCond .eq 16, 3, .ifCond .eq (.ofNat 14)), (13, .iload_n 2, 1, .iload 2), (14, .iconst (-1), 1, .iconst (-1)), (15, .if_icmp .eq 13, 3, .if_icmp .eq (.ofNat 16)), (18, .aload_n 0, 1, .aload 0), (19, .iload_n 2, 1, .iload 2), (20, .invokevirtual 112, 3, .invokevirtual 6), (23, .ifCond .ne 5, 3, .ifCond .ne (.ofNat 16)), (26, .iconst 0, 1, .iconst 0), (27, .ireturn, 1, .areturn), (28, .aload_n 0, 1, .aload 0), (29, .getfield 28, 3, .invokeinterface 0 9), (32, .iload_n 1, 1, .iload 1), (33, .iload_n 2, 1, .iload 2), (34, .iconst 1, 1, .iconst 1), (35, .iadd, 1, .iadd), (36, .iastore, 1, .iastore), (37, .aload_n 0, 1, .aload 0), (38, .iconst 0, 1, .iconst 0), (39, .putfield 95, 3, .multianewarray 0 3), (42, .iconst 1, 1, .iconst 1), (43, .ireturn, 1, .areturn)]
def kB10 : x_R := [(0, .iload_n 1, 1, .iload 1), (1, .ifCond .ne 13, 3, .ifCond .ne (.ofNat 8)), (4, .aload_n 0, 1, .aload 0), (5, .iload_n 3, 1, .iload 3), (6, .iconst 0, 1, .iconst 0), (7, .sipush 1000, 3, .iconst 1000), (10, .invokevirtual 104, 3, .invokevirtual 1), (13, .ireturn, 1, .areturn), (14, .iload_n 1, 1, .iload 1), (15, .iconst 1, 1, .iconst 1), (16, .if_icmp .ne 27, 3, .if_icmp .ne (.ofNat 25)), (19, .aload_n 0, 1, .aload 0), (20, .iload_n 2, 1, .iload 2), (21, .invokevirtual 108, 3, .invokevirtual 7), (24, .ifCond .eq 17, 3, .ifCond .eq (.ofNat 23)), (27, .aload_n 0, 1, .aload 0), (28, .iload_n 3, 1, .iload 3), (29, .iconst 0, 1, .iconst 0), (30, .iconst 1, 1, .iconst 1), (31, .invokevirtual 104, 3, .invokevirtual 1), (34, .ifCond .eq 7, 3, .ifCond .eq (.ofNat 23)), (37, .iconst 1, 1, .iconst 1), (38, .goto 4, 3, .goto 24), (41, .iconst 0, 1, .iconst 0), (42, .ireturn, 1, .areturn), (43, .aload_n 0, 1, .aload 0), (44, .iload_n 1, 1, .iload 1), (45, .iconst 2, 1, .iconst 2), (46, .iconst 5, 1, .iconst 5), (47, .invokevirtual 104, 3, .invokevirtual 1), (50, .ifCond .eq 11, 3, .ifCond .eq (.ofNat 35)), (53, .aload_n 0, 1, .aload 0), (54, .iload_n 2, 1, .iload 2), (55, .invokevirtual 112, 3, .invokevirtual 6), (58, .ifCond .ne 5, 3, .ifCond .ne (.ofNat 37)), (61, .iconst 0, 1, .iconst 0), (62, .ireturn, 1, .areturn), (63, .iload_n 1, 1, .iload 1), (64, .iconst 2, 1, .iconst 2), (65, .if_icmp .ne 14, 3, .if_icmp .ne (.ofNat 46)), (68, .aload_n 0, 1, .aload 0), (69, .iload_n 3, 1, .iload 3), (70, .iconst 0, 1, .iconst 0), (71, .bipush 99, 2, .iconst 99), (73, .invokevirtual 104, 3, .invokevirtual 1), (76, .goto 35, 3, .goto 65), (79, .iload_n 1, 1, .iload 1), (80, .iconst 3, 1, .iconst 3), (81, .if_icmp .ne 13, 3, .if_icmp .ne (.ofNat 55)), (84, .aload_n 0, 1, .aload 0), (85, .iload_n 3, 1, .iload 3), (86, .iconst 0, 1, .iconst 0), (87, .iconst 1, 1, .iconst 1), (88, .invokevirtual 104, 3, .invokevirtual 1), (91, .goto 20, 3, .goto 65), (94, .aload_n 0, 1, .aload 0), (95, .iload_n 3, 1, .iload 3), (96, .iload_n 1, 1, .iload 1), (97, .iconst 4, 1, .iconst 4), (98, .if_icmp .ne 7, 3, .if_icmp .ne (.ofNat 62)), (101, .iconst 0, 1, .iconst 0), (102, .goto 4, 3, .goto 63), (105, .iconst (-1), 1, .iconst (-1)), (106, .ldc 103, 2, .iconst 99999), (108, .invokevirtual 104, 3, .invokevirtual 1), (111, .ireturn, 1, .areturn)]
def kB11 : x_R := [(0, .aload_n 0, 1, .aload 0), (1, .iconst 0, 1, .iconst 0), (2, .putfield 92, 3, .multianewarray 0 0), (5, .aload_n 0, 1, .aload 0), (6, .iload_n 1, 1, .iload 1), (7, .iload_n 2, 1, .iload 2), (8, .iload_n 3, 1, .iload 3), (9, .invokevirtual 115, 3, .invokevirtual 10), (12, .ifCond .ne 5, 3, .ifCond .ne (.ofNat 11)), (15, .iconst 0, 1, .iconst 0), (16, .ireturn, 1, .areturn), (17, .iload_n 1, 1, .iload 1), (18, .ifCond .ne 8, 3, .ifCond .ne (.ofNat 16)), (21, .aload_n 0, 1, .aload 0), (22, .iload_n 3, 1, .iload 3), (23, .putfield 118, 3, .multianewarray 0 11), (26, .iload_n 1, 1, .iload 1), (27, .iconst 1, 1, .iconst 1), (28, .if_icmp .ne 10, 3, .if_icmp .ne (.ofNat 24)), (31, .aload_n 0, 1, .aload 0), (32, .getfield 31, 3, .invokeinterface 0 10), (35, .iload_n 2, 1, .iload 2), (36, .iload_n 3, 1, .iload 3), (37, .iastore, 1, .iastore), (38, .iload_n 1, 1, .iload 1), (39, .iconst 2, 1, .iconst 2), (40, .if_icmp .ne 10, 3, .if_icmp .ne (.ofNat 32)), (43, .aload_n 0, 1, .aload 0), (44, .getfield 16, 3, .invokeinterface 0 5), (47, .iload_n 2, 1, .iload 2), (48, .iload_n 3, 1, .iload 3), (49, .iastore, 1, .iastore), (50, .iload_n 1, 1, .iload 1), (51, .iconst 3, 1, .iconst 3), (52, .if_icmp .ne 10, 3, .if_icmp .ne (.ofNat 40)), (55, .aload_n 0, 1, .aload 0), (56, .getfield 19, 3, .invokeinterface 0 6), (59, .iload_n 2, 1, .iload 2), (60, .iload_n 3, 1, .iload 3), (61, .iastore, 1, .iastore), (62, .iload_n 1, 1, .iload 1), (63, .iconst 4, 1, .iconst 4), (64, .if_icmp .ne 12, 3, .if_icmp .ne (.ofNat 50)), (67, .aload_n 0, 1, .aload 0), (68, .getfield 7, 3, .invokeinterface 0 1), (71, .iconst 0, 1, .iconst 0), (72, .iload_n 2, 1, .iload 2), (73, .iadd, 1, .iadd), (74, .iload_n 3, 1, .iload 3), (75, .iastore, 1, .iastore), (76, .iload_n 1, 1, .iload 1), (77, .iconst 5, 1, .iconst 5), (78, .if_icmp .ne 15, 3, .if_icmp .ne (.ofNat 61)), (81, .aload_n 0, 1, .aload 0), (82, .getfield 25, 3, .invokeinterface 0 8), (85, .iload_n 2, 1, .iload 2), (86, .iload_n 3, 1, .iload 3), (87, .iconst 1, 1, .iconst 1), (88, .iadd, 1, .iadd), (89, .iastore, 1, .iastore), (90, .goto 8, 3, .goto 64), (93, .aload_n 0, 1, .aload 0), (94, .iconst 0, 1, .iconst 0), (95, .putfield 95, 3, .multianewarray 0 3), (98, .iconst 1, 1, .iconst 1), (99, .ireturn, 1, .areturn)]
def kB12 : x_R := [(0, .aload_n 0, 1, .aload 0), (1, .getfield 28, 3, .invokeinterface 0 9), (4, .iload_n 1, 1, .iload 1), (5, .iaload, 1, .iaload), (6, .iconst 1, 1, .iconst 1), (7, .isub, 1, .isub), (8, .ireturn, 1, .ireturn)]
def kB13 : x_R := [(0, .aload_n 0, 1, .aload 0), (1, .getfield 31, 3, .invokeinterface 0 10), (4, .iload_n 1, 1, .iload 1), (5, .iaload, 1, .iaload), (6, .ifCond .ne 29, 3, .ifCond .ne (.ofNat 19)), (9, .aload_n 0, 1, .aload 0), (10, .getfield 28, 3, .invokeinterface 0 9), (13, .iload_n 1, 1, .iload 1), (14, .iaload, 1, .iaload), (15, .ifCond .le 20, 3, .ifCond .le (.ofNat 19)), (18, .aload_n 0, 1, .aload 0), (19, .getfield 19, 3, .invokeinterface 0 6), (22, .aload_n 0, 1, .aload 0), (23, .iload_n 1, 1, .iload 1), (24, .invokevirtual 121, 3, .invokevirtual 12), (27, .iaload, 1, .iaload), (28, .ifCond .ne 7, 3, .ifCond .ne (.ofNat 19)), (31, .iconst 1, 1, .iconst 1), (32, .goto 4, 3, .goto 20), (35, .iconst 0, 1, .iconst 0), (36, .ireturn, 1, .areturn)]
def kB14 : x_R := [(0, .iload_n 1, 1, .iload 1), (1, .bipush 97, 2, .iconst 97), (3, .if_icmp .lt 14, 3, .if_icmp .lt (.ofNat 10)), (6, .iload_n 1, 1, .iload 1), (7, .bipush 122, 2, .iconst 122), (9, .if_icmp .gt 8, 3, .if_icmp .gt (.ofNat 10)), (12, .iload_n 1, 1, .iload 1), (13, .bipush 97, 2, .iconst 97), (15, .isub, 1, .isub), (16, .ireturn, 1, .ireturn), (17, .iload_n 1, 1, .iload 1), (18, .bipush 44, 2, .iconst 44), (20, .if_icmp .ne 8, 3, .if_icmp .ne (.ofNat 15)), (23, .bipush 26, 2, .iconst 26), (25, .goto 43, 3, .goto 34), (28, .iload_n 1, 1, .iload 1), (29, .bipush 46, 2, .iconst 46), (31, .if_icmp .ne 8, 3, .if_icmp .ne (.ofNat 20)), (34, .bipush 27, 2, .iconst 27), (36, .goto 32, 3, .goto 34), (39, .iload_n 1, 1, .iload 1), (40, .bipush 59, 2, .iconst 59), (42, .if_icmp .ne 8, 3, .if_icmp .ne (.ofNat 25)), (45, .bipush 28, 2, .iconst 28), (47, .goto 21, 3, .goto 34), (50, .iload_n 1, 1, .iload 1), (51, .bipush 32, 2, .iconst 32), (53, .if_icmp .eq 9, 3, .if_icmp .eq (.ofNat 31)), (56, .iload_n 1, 1, .iload 1), (57, .bipush 10, 2, .iconst 10), (59, .if_icmp .ne 8, 3, .if_icmp .ne (.ofNat 33)), (62, .bipush 29, 2, .iconst 29), (64, .goto 4, 3, .goto 34), (67, .iconst (-1), 1, .iconst (-1)), (68, .ireturn, 1, .ireturn)]
def kB15 : x_R := [(0, .aload_n 0, 1, .aload 0), (1, .iconst 0, 1, .iconst 0), (2, .putfield 92, 3, .multianewarray 0 0), (5, .aload_n 0, 1, .aload 0), (6, .getfield 125, 3, .invokeinterface 0 21), (9, .istore_n 1, 1, .istore 1), (10, .aload_n 0, 1, .aload 0), (11, .iconst 0, 1, .iconst 0), (12, .putfield 125, 3, .multianewarray 0 21), (15, .iconst 0, 1, .iconst 0), (16, .istore_n 2, 1, .istore 2), (17, .iload_n 2, 1, .iload 2), (18, .iload_n 1, 1, .iload 1), (19, .if_icmp .ge 33, 3, .if_icmp .ge (.ofNat 31)), (22, .iload_n 2, 1, .iload 2), (23, .bipush 60, 2, .iconst 60), (25, .if_icmp .eq 17, 3, .if_icmp .eq (.ofNat 25)), (28, .aload_n 0, 1, .aload 0), (29, .aload_n 0, 1, .aload 0), (30, .getfield 46, 3, .invokeinterface 0 20), (33, .iload_n 2, 1, .iload 2), (34, .iaload, 1, .iaload), (35, .invokevirtual 128, 3, .invokevirtual 14), (38, .iconst (-1), 1, .iconst (-1)), (39, .if_icmp .ne 7, 3, .if_icmp .ne (.ofNat 29)), (42, .iconst (-1), 1, .iconst (-1)), (43, .iload_n 2, 1, .iload 2), (44, .isub, 1, .isub), (45, .ireturn, 1, .ireturn), (46, .iinc 2 1, 3, .iinc 2 1), (49, .goto (-32), 3, .jsr_w 11), (52, .iconst 0, 1, .iconst 0), (53, .istore_n 2, 1, .istore 2), (54, .iload_n 2, 1, .iload 2), (55, .iload_n 1, 1, .iload 1), (56, .if_icmp .ge 25, 3, .if_icmp .ge (.ofNat 48)), (59, .aload_n 0, 1, .aload 0), (60, .getfield 34, 3, .invokeinterface 0 14), (63, .iload_n 2, 1, .iload 2), (64, .aload_n 0, 1, .aload 0), (65, .aload_n 0, 1, .aload 0), (66, .getfield 46, 3, .invokeinterface 0 20), (69, .iload_n 2, 1, .iload 2), (70, .iaload, 1, .iaload), (71, .invokevirtual 128, 3, .invokevirtual 14), (74, .iastore, 1, .iastore), (75, .iinc 2 1, 3, .iinc 2 1), (78, .goto (-24), 3, .jsr_w 33), (81, .aload_n 0, 1, .aload 0), (82, .iload_n 1, 1, .iload 1), (83, .putfield 131, 3, .multianewarray 0 13), (86, .iload_n 1, 1, .iload 1), (87, .ireturn, 1, .ireturn)]
def kB16 : x_R := [(0, .aload_n 0, 1, .aload 0), (1, .iconst 0, 1, .iconst 0), (2, .putfield 92, 3, .multianewarray 0 0), (5, .aload_n 0, 1, .aload 0), (6, .getfield 125, 3, .invokeinterface 0 21), (9, .istore_n 1, 1, .istore 1), (10, .aload_n 0, 1, .aload 0), (11, .iconst 0, 1, .iconst 0), (12, .putfield 125, 3, .multianewarray 0 21), (15, .aload_n 0, 1, .aload 0), (16, .iload_n 1, 1, .iload 1), (17, .iconst 1, 1, .iconst 1), (18, .bipush 12, 2, .iconst 12), (20, .invokevirtual 104, 3, .invokevirtual 1), (23, .ifCond .eq 12, 3, .ifCond .eq (.ofNat 19)), (26, .aload_n 0, 1, .aload 0), (27, .getfield 134, 3, .invokeinterface 0 17), (30, .bipush 20, 2, .iconst 20), (32, .if_icmp .ne 5, 3, .if_icmp .ne (.ofNat 21)), (35, .iconst (-1), 1, .iconst (-1)), (36, .ireturn, 1, .ireturn), (37, .iconst 0, 1, .iconst 0), (38, .istore_n 2, 1, .istore 2), (39, .iload_n 2, 1, .iload 2), (40, .iload_n 1, 1, .iload 1), (41, .if_icmp .ge 33, 3, .if_icmp .ge (.ofNat 42)), (44, .aload_n 0, 1, .aload 0), (45, .getfield 46, 3, .invokeinterface 0 20), (48, .iload_n 2, 1, .iload 2), (49, .iaload, 1, .iaload), (50, .bipush 97, 2, .iconst 97), (52, .if_icmp .lt 14, 3, .if_icmp .lt (.ofNat 38)), (55, .aload_n 0, 1, .aload 0), (56, .getfield 46, 3, .invokeinterface 0 20), (59, .iload_n 2, 1, .iload 2), (60, .iaload, 1, .iaload), (61, .bipush 122, 2, .iconst 122), (63, .if_icmp .le 5, 3, .if_icmp .le (.ofNat 40)), (66, .iconst (-1), 1, .iconst (-1)), (67, .ireturn, 1, .ireturn), (68, .iinc 2 1, 3, .iinc 2 1), (71, .goto (-32), 3, .jsr_w 23), (74, .iconst 0, 1, .iconst 0), (75, .istore_n 2, 1, .istore 2), (76, .iload_n 2, 1, .iload 2), (77, .iload_n 1, 1, .iload 1), (78, .if_icmp .ge 32, 3, .if_icmp .ge (.ofNat 64)), (81, .aload_n 0, 1, .aload 0), (82, .getfield 43, 3, .invokeinterface 0 19), (85, .bipush 12, 2, .iconst 12), (87, .aload_n 0, 1, .aload 0), (88, .getfield 134, 3, .invokeinterface 0 17), (91, .imul, 1, .imul), (92, .iload_n 2, 1, .iload 2), (93, .iadd, 1, .iadd), (94, .aload_n 0, 1, .aload 0), (95, .getfield 46, 3, .invokeinterface 0 20), (98, .iload_n 2, 1, .iload 2), (99, .iaload, 1, .iaload), (100, .bipush 97, 2, .iconst 97), (102, .isub, 1, .isub), (103, .iastore, 1, .iastore), (104, .iinc 2 1, 3, .iinc 2 1), (107, .goto (-31), 3, .jsr_w 44), (110, .aload_n 0, 1, .aload 0), (111, .getfield 40, 3, .invokeinterface 0 18), (114, .aload_n 0, 1, .aload 0), (115, .getfield 134, 3, .invokeinterface 0 17), (118, .iload_n 1, 1, .iload 1), (119, .iastore, 1, .iastore), (120, .aload_n 0, 1, .aload 0), (121, .aload_n 0, 1, .aload 0), (122, .getfield 134, 3, .invokeinterface 0 17), (125, .iconst 1, 1, .iconst 1), (126, .iadd, 1, .iadd), (127, .putfield 134, 3, .multianewarray 0 17), (130, .aload_n 0, 1, .aload 0), (131, .getfield 134, 3, .invokeinterface 0 17), (134, .iconst 1, 1, .iconst 1), (135, .isub, 1, .isub), (136, .ireturn, 1, .ireturn)]
def kB17 : x_R := [(0, .aload_n 0, 1, .aload 0), (1, .iconst 0, 1, .iconst 0), (2, .putfield 92, 3, .multianewarray 0 0), (5, .aload_n 0, 1, .aload 0), (6, .getfield 134, 3, .invokeinterface 0 17), (9, .istore_n 1, 1, .istore 1), (10, .aload_n 0, 1, .aload 0), (11, .iconst 0, 1, .iconst 0), (12, .putfield 134, 3, .multianewarray 0 17), (15, .iload_n 1, 1, .iload 1), (16, .ireturn, 1, .ireturn)]
def kB18 : x_R := [(0, .aload_n 0, 1, .aload 0), (1, .aload_n 0, 1, .aload 0), (2, .getfield 131, 3, .invokeinterface 0 13), (5, .putfield 137, 3, .multianewarray 0 15), (8, .iconst 0, 1, .iconst 0), (9, .istore_n 1, 1, .istore 1), (10, .iload_n 1, 1, .iload 1), (11, .aload_n 0, 1, .aload 0), (12, .getfield 131, 3, .invokeinterface 0 13), (15, .if_icmp .ge 21, 3, .if_icmp .ge (.ofNat 20)), (18, .aload_n 0, 1, .aload 0), (19, .getfield 37, 3, .invokeinterface 0 16), (22, .iload_n 1, 1, .iload 1), (23, .aload_n 0, 1, .aload 0), (24, .getfield 34, 3, .invokeinterface 0 14), (27, .iload_n 1, 1, .iload 1), (28, .iaload, 1, .iaload), (29, .iastore, 1, .iastore), (30, .iinc 1 1, 3, .iinc 1 1), (33, .goto (-23), 3, .jsr_w 6), (36, .return_, 1, .return_)]
def kB19 : x_R := [(0, .bipush 24, 2, .iconst 24), (2, .istore_n 2, 1, .istore 2), (3, .iload_n 2, 1, .iload 2), (4, .ifCond .lt 35, 3, .ifCond .lt (.ofNat 22)), (7, .aload_n 0, 1, .aload 0), (8, .getfield 46, 3, .invokeinterface 0 20), (11, .aload_n 0, 1, .aload 0), (12, .getfield 125, 3, .invokeinterface 0 21), (15, .iload_n 1, 1, .iload 1), (16, .iload_n 2, 1, .iload 2), (17, .ishr, 1, .ishr), (18, .sipush 255, 3, .iconst 255), (21, .iand, 1, .iand), (22, .iastore, 1, .iastore), (23, .aload_n 0, 1, .aload 0), (24, .aload_n 0, 1, .aload 0), (25, .getfield 125, 3, .invokeinterface 0 21), (28, .iconst 1, 1, .iconst 1), (29, .iadd, 1, .iadd), (30, .putfield 125, 3, .multianewarray 0 21), (33, .iinc 2 (-8), 3, .iinc 2 (-8)), (36, .goto (-33), 3, .jsr_w 2), (39, .return_, 1, .return_)]
def kB20 : x_R := [(0, .aload_n 0, 1, .aload 0), (1, .iconst 0, 1, .iconst 0), (2, .putfield 92, 3, .multianewarray 0 0), (5, .aload_n 0, 1, .aload 0), (6, .getfield 125, 3, .invokeinterface 0 21), (9, .sipush 380, 3, .iconst 380), (12, .if_icmp .le 5, 3, .if_icmp .le (.ofNat 9)), (15, .iconst (-1), 1, .iconst (-1)), (16, .ireturn, 1, .ireturn), (17, .aload_n 0, 1, .aload 0), (18, .iload_n 1, 1, .iload 1), (19, .invokevirtual 140, 3, .invokevirtual 19), (22, .aload_n 0, 1, .aload 0), (23, .iload_n 2, 1, .iload 2), (24, .invokevirtual 140, 3, .invokevirtual 19), (27, .aload_n 0, 1, .aload 0), (28, .iload_n 3, 1, .iload 3), (29, .invokevirtual 140, 3, .invokevirtual 19), (32, .aload_n 0, 1, .aload 0), (33, .iload 4, 2, .iload 4), (35, .invokevirtual 140, 3, .invokevirtual 19), (38, .aload_n 0, 1, .aload 0), (39, .iload 5, 2, .iload 5), (41, .invokevirtual 140, 3, .invokevirtual 19), (44, .aload_n 0, 1, .aload 0), (45, .getfield 125, 3, .invokeinterface 0 21), (48, .ireturn, 1, .ireturn)]
def kB21 : x_R := [(0, .aload_n 0, 1, .aload 0), (1, .iconst 0, 1, .iconst 0), (2, .putfield 92, 3, .multianewarray 0 0), (5, .aload_n 0, 1, .aload 0), (6, .iload_n 1, 1, .iload 1), (7, .iconst 0, 1, .iconst 0), (8, .aload_n 0, 1, .aload 0), (9, .getfield 125, 3, .invokeinterface 0 21), (12, .invokevirtual 104, 3, .invokevirtual 1), (15, .ifCond .ne 5, 3, .ifCond .ne (.ofNat 12)), (18, .iconst 0, 1, .iconst 0), (19, .ireturn, 1, .areturn), (20, .aload_n 0, 1, .aload 0), (21, .iload_n 1, 1, .iload 1), (22, .putfield 125, 3, .multianewarray 0 21), (25, .iconst 1, 1, .iconst 1), (26, .ireturn, 1, .areturn)]
def kB22 : x_R := [(0, .iload_n 1, 1, .iload 1), (1, .aload_n 0, 1, .aload 0), (2, .getfield 125, 3, .invokeinterface 0 21), (5, .if_icmp .ge 12, 3, .if_icmp .ge (.ofNat 9)), (8, .aload_n 0, 1, .aload 0), (9, .getfield 46, 3, .invokeinterface 0 20), (12, .iload_n 1, 1, .iload 1), (13, .iaload, 1, .iaload), (14, .goto 4, 3, .goto 10), (17, .iconst (-1), 1, .iconst (-1)), (18, .ireturn, 1, .ireturn)]
def kB23 : x_R := [(0, .aload_n 0, 1, .aload 0), (1, .iload_n 1, 1, .iload 1), (2, .bipush 97, 2, .iconst 97), (4, .bipush 122, 2, .iconst 122), (6, .invokevirtual 104, 3, .invokevirtual 1), (9, .ifCond .ne 15, 3, .ifCond .ne (.ofNat 12)), (12, .aload_n 0, 1, .aload 0), (13, .iload_n 1, 1, .iload 1), (14, .bipush 65, 2, .iconst 65), (16, .bipush 90, 2, .iconst 90), (18, .invokevirtual 104, 3, .invokevirtual 1), (21, .ifCond .eq 7, 3, .ifCond .eq (.ofNat 14)), (24, .iconst 1, 1, .iconst 1), (25, .goto 4, 3, .goto 15), (28, .iconst 0, 1, .iconst 0), (29, .ireturn, 1, .areturn)]
def kB24 : x_R := [(0, .aload_n 0, 1, .aload 0), (1, .iload_n 1, 1, .iload 1), (2, .bipush 48, 2, .iconst 48), (4, .bipush 57, 2, .iconst 57), (6, .invokevirtual 104, 3, .invokevirtual 1), (9, .ireturn, 1, .areturn)]
def kB25 : x_R := [(0, .iload_n 1, 1, .iload 1), (1, .bipush 59, 2, .iconst 59), (3, .if_icmp .eq 57, 3, .if_icmp .eq (.ofNat 30)), (6, .iload_n 1, 1, .iload 1), (7, .bipush 43, 2, .iconst 43), (9, .if_icmp .eq 51, 3, .if_icmp .eq (.ofNat 30)), (12, .iload_n 1, 1, .iload 1), (13, .bipush 45, 2, .iconst 45), (15, .if_icmp .eq 45, 3, .if_icmp .eq (.ofNat 30)), (18, .iload_n 1, 1, .iload 1), (19, .bipush 42, 2, .iconst 42), (21, .if_icmp .eq 39, 3, .if_icmp .eq (.ofNat 30)), (24, .iload_n 1, 1, .iload 1), (25, .bipush 47, 2, .iconst 47), (27, .if_icmp .eq 33, 3, .if_icmp .eq (.ofNat 30)), (30, .iload_n 1, 1, .iload 1), (31, .bipush 40, 2, .iconst 40), (33, .if_icmp .eq 27, 3, .if_icmp .eq (.ofNat 30)), (36, .iload_n 1, 1, .iload 1), (37, .bipush 41, 2, .iconst 41), (39, .if_icmp .eq 21, 3, .if_icmp .eq (.ofNat 30)), (42, .iload_n 1, 1, .iload 1), (43, .bipush 60, 2, .iconst 60), (45, .if_icmp .eq 15, 3, .if_icmp .eq (.ofNat 30)), (48, .iload_n 1, 1, .iload 1), (49, .bipush 61, 2, .iconst 61), (51, .if_icmp .eq 9, 3, .if_icmp .eq (.ofNat 30)), (54, .iload_n 1, 1, .iload 1), (55, .bipush 62, 2, .iconst 62), (57, .if_icmp .ne 7, 3, .if_icmp .ne (.ofNat 32)), (60, .iconst 1, 1, .iconst 1), (61, .goto 4, 3, .goto 33), (64, .iconst 0, 1, .iconst 0), (65, .ireturn, 1, .areturn)]
def kB26 : x_R := [(0, .iconst (-1), 1, .iconst (-1)), (1, .istore_n 3, 1, .istore 3), (2, .iconst 0, 1, .iconst 0), (3, .istore 4, 2, .istore 4), (5, .iload 4, 2, .iload 4), (7, .bipush 68, 2, .iconst 68), (9, .if_icmp .ge 108, 3, .if_icmp .ge (.ofNat 71)), (12, .iconst 0, 1, .iconst 0), (13, .istore 5, 2, .istore 5), (15, .iload_n 3, 1, .iload 3), (16, .iconst 1, 1, .iconst 1), (17, .iadd, 1, .iadd), (18, .istore_n 3, 1, .istore 3), (19, .iload_n 1, 1, .iload 1), (20, .iload 5, 2, .iload 5), (22, .iadd, 1, .iadd), (23, .iload_n 2, 1, .iload 2), (24, .if_icmp .ge 36, 3, .if_icmp .ge (.ofNat 38)), (27, .aload_n 0, 1, .aload 0), (28, .getfield 49, 3, .invokeinterface 0 26), (31, .iload 4, 2, .iload 4), (33, .iconst 1, 1, .iconst 1), (34, .iadd, 1, .iadd), (35, .iload 5, 2, .iload 5), (37, .iadd, 1, .iadd), (38, .iaload, 1, .iaload), (39, .aload_n 0, 1, .aload 0), (40, .getfield 46, 3, .invokeinterface 0 20), (43, .iload_n 1, 1, .iload 1), (44, .iload 5, 2, .iload 5), (46, .iadd, 1, .iadd), (47, .iaload, 1, .iaload), (48, .if_icmp .ne 12, 3, .if_icmp .ne (.ofNat 38)), (51, .iload 5, 2, .iload 5), (53, .iconst 1, 1, .iconst 1), (54, .iadd, 1, .iadd), (55, .istore 5, 2, .istore 5), (57, .goto (-38), 3, .jsr_w 13), (60, .iload_n 1, 1, .iload 1), (61, .iload 5, 2, .iload 5), (63, .iadd, 1, .iadd), (64, .iload_n 2, 1, .iload 2), (65, .if_icmp .ne 22, 3, .if_icmp .ne (.ofNat 55)), (68, .aload_n 0, 1, .aload 0), (69, .getfield 49, 3, .invokeinterface 0 26), (72, .iload 4, 2, .iload 4), (74, .iconst 1, 1, .iconst 1), (75, .iadd, 1, .iadd), (76, .iload 5, 2, .iload 5), (78, .iadd, 1, .iadd), (79, .iaload, 1, .iaload), (80, .bipush 32, 2, .iconst 32), (82, .if_icmp .ne 5, 3, .if_icmp .ne (.ofNat 55)), (85, .iload_n 3, 1, .iload 3), (86, .ireturn, 1, .ireturn), (87, .iload 4, 2, .iload 4), (89, .iconst 1, 1, .iconst 1), (90, .iadd, 1, .iadd), (91, .istore 4, 2, .istore 4), (93, .aload_n 0, 1, .aload 0), (94, .getfield 49, 3, .invokeinterface 0 26), (97, .iload 4, 2, .iload 4), (99, .iaload, 1, .iaload), (100, .bipush 32, 2, .iconst 32), (102, .if_icmp .eq 12, 3, .if_icmp .eq (.ofNat 70)), (105, .iload 4, 2, .iload 4), (107, .iconst 1, 1, .iconst 1), (108, .iadd, 1, .iadd), (109, .istore 4, 2, .istore 4), (111, .goto (-18), 3, .jsr_w 59), (114, .goto (-109), 3, .jsr_w 4), (117, .iconst (-1), 1, .iconst (-1)), (118, .ireturn, 1, .ireturn)]
def kB27 : x_R := [(0, .aload_n 0, 1, .aload 0), (1, .aload_n 0, 1, .aload 0), (2, .getfield 144, 3, .invokeinterface 0 22), (5, .invokevirtual 147, 3, .invokevirtual 22), (8, .bipush 32, 2, .iconst 32), (10, .if_icmp .eq 16, 3, .if_icmp .eq (.ofNat 12)), (13, .aload_n 0, 1, .aload 0), (14, .aload_n 0, 1, .aload 0), (15, .getfield 144, 3, .invokeinterface 0 22), (18, .invokevirtual 147, 3, .invokevirtual 22), (21, .bipush 10, 2, .iconst 10), (23, .if_icmp .ne 16, 3, .if_icmp .ne (.ofNat 19)), (26, .aload_n 0, 1, .aload 0), (27, .aload_n 0, 1, .aload 0), (28, .getfield 144, 3, .invokeinterface 0 22), (31, .iconst 1, 1, .iconst 1), (32, .iadd, 1, .iadd), (33, .putfield 144, 3, .multianewarray 0 22), (36, .goto (-36), 3, .jsr_w 0), (39, .aload_n 0, 1, .aload 0), (40, .aload_n 0, 1, .aload 0), (41, .getfield 144, 3, .invokeinterface 0 22), (44, .putfield 150, 3, .multianewarray 0 23), (47, .aload_n 0, 1, .aload 0), (48, .iconst 1, 1, .iconst 1), (49, .putfield 153, 3, .multianewarray 0 24), (52, .aload_n 0, 1, .aload 0), (53, .aload_n 0, 1, .aload 0), (54, .getfield 144, 3, .invokeinterface 0 22), (57, .invokevirtual 147, 3, .invokevirtual 22), (60, .istore_n 1, 1, .istore 1), (61, .iload_n 1, 1, .iload 1), (62, .iconst (-1), 1, .iconst (-1)), (63, .if_icmp .ne 9, 3, .if_icmp .ne (.ofNat 38)), (66, .aload_n 0, 1, .aload 0), (67, .iconst 0, 1, .iconst 0), (68, .putfield 153, 3, .multianewarray 0 24), (71, .return_, 1, .return_), (72, .aload_n 0, 1, .aload 0), (73, .aload_n 0, 1, .aload 0), (74, .getfield 144, 3, .invokeinterface 0 22), (77, .iconst 1, 1, .iconst 1), (78, .iadd, 1, .iadd), (79, .putfield 144, 3, .multianewarray 0 22), (82, .aload_n 0, 1, .aload 0), (83, .iload_n 1, 1, .iload 1), (84, .putfield 156, 3, .multianewarray 0 25), (87, .aload_n 0, 1, .aload 0), (88, .iload_n 1, 1, .iload 1), (89, .invokevirtual 159, 3, .invokevirtual 23), (92, .ifCond .eq 63, 3, .ifCond .eq (.ofNat 81)), (95, .aload_n 0, 1, .aload 0), (96, .aload_n 0, 1, .aload 0), (97, .aload_n 0, 1, .aload 0), (98, .getfield 144, 3, .invokeinterface 0 22), (101, .invokevirtual 147, 3, .invokevirtual 22), (104, .invokevirtual 159, 3, .invokevirtual 23), (107, .ifCond .eq 16, 3, .ifCond .eq (.ofNat 65)), (110, .aload_n 0, 1, .aload 0), (111, .aload_n 0, 1, .aload 0), (112, .getfield 144, 3, .invokeinterface 0 22), (115, .iconst 1, 1, .iconst 1), (116, .iadd, 1, .iadd), (117, .putfield 144, 3, .multianewarray 0 22), (120, .goto (-25), 3, .jsr_w 51), (123, .aload_n 0, 1, .aload 0), (124, .aload_n 0, 1, .aload 0), (125, .aload_n 0, 1, .aload 0), (126, .getfield 150, 3, .invokeinterface 0 23), (129, .aload_n 0, 1, .aload 0), (130, .getfield 144, 3, .invokeinterface 0 22), (133, .invokevirtual 162, 3, .invokevirtual 26), (136, .putfield 156, 3, .multianewarray 0 25), (139, .aload_n 0, 1, .aload 0), (140, .getfield 156, 3, .invokeinterface 0 25), (143, .iconst (-1), 1, .iconst (-1)), (144, .if_icmp .eq 129, 3, .if_icmp .eq (.ofNat 142)), (147, .aload_n 0, 1, .aload 0), (148, .iconst 2, 1, .iconst 2), (149, .putfield 153, 3, .multianewarray 0 24), (152, .goto 121, 3, .goto 142), (155, .aload_n 0, 1, .aload 0), (156, .iload_n 1, 1, .iload 1), (157, .invokevirtual 166, 3, .invokevirtual 24), (160, .ifCond .eq 100, 3, .ifCond .eq (.ofNat 135)), (163, .aload_n 0, 1, .aload 0), (164, .iload_n 1, 1, .iload 1), (165, .bipush 48, 2, .iconst 48), (167, .isub, 1, .isub), (168, .putfield 156, 3, .multianewarray 0 25), (171, .aload_n 0, 1, .aload 0), (172, .aload_n 0, 1, .aload 0), (173, .aload_n 0, 1, .aload 0), (174, .getfield 144, 3, .invokeinterface 0 22), (177, .invokevirtual 147, 3, .invokevirtual 22), (180, .invokevirtual 166, 3, .invokevirtual 24), (183, .ifCond .eq 56, 3, .ifCond .eq (.ofNat 124)), (186, .aload_n 0, 1, .aload 0), (187, .aload_n 0, 1, .aload 0), (188, .getfield 156, 3, .invokeinterface 0 25), (191, .sipush 10000, 3, .iconst 10000), (194, .if_icmp .ge 25, 3, .if_icmp .ge (.ofNat 114)), (197, .bipush 10, 2, .iconst 10), (199, .aload_n 0, 1, .aload 0), (200, .getfield 156, 3, .invokeinterface 0 25), (203, .imul, 1, .imul), (204, .aload_n 0, 1, .aload 0), (205, .aload_n 0, 1, .aload 0), (206, .getfield 144, 3, .invokeinterface 0 22), (209, .invokevirtual 147, 3, .invokevirtual 22), (212, .iadd, 1, .iadd), (213, .bipush 48, 2, .iconst 48), (215, .isub, 1, .isub), (216, .goto 7, 3, .goto 116), (219, .aload_n 0, 1, .aload 0), (220, .getfield 156, 3, .invokeinterface 0 25), (223, .putfield 156, 3, .multianewarray 0 25), (226, .aload_n 0, 1, .aload 0), (227, .aload_n 0, 1, .aload 0), (228, .getfield 144, 3, .invokeinterface 0 22), (231, .iconst 1, 1, .iconst 1), (232, .iadd, 1, .iadd), (233, .putfield 144, 3, .multianewarray 0 22), (236, .goto (-65), 3, .jsr_w 90), (239, .aload_n 0, 1, .aload 0), (240, .getfield 144, 3, .invokeinterface 0 22), (243, .aload_n 0, 1, .aload 0), (244, .getfield 150, 3, .invokeinterface 0 23), (247, .isub, 1, .isub), (248, .iconst 5, 1, .iconst 5), (249, .if_icmp .ge 24, 3, .if_icmp .ge (.ofNat 142)), (252, .aload_n 0, 1, .aload 0), (253, .iconst 3, 1, .iconst 3), (254, .putfield 153, 3, .multianewarray 0 24), (257, .goto 16, 3, .goto 142), (260, .aload_n 0, 1, .aload 0), (261, .iload_n 1, 1, .iload 1), (262, .invokevirtual 169, 3, .invokevirtual 25), (265, .ifCond .eq 8, 3, .ifCond .eq (.ofNat 142)), (268, .aload_n 0, 1, .aload 0), (269, .iconst 4, 1, .iconst 4), (270, .putfield 153, 3, .multianewarray 0 24), (273, .return_, 1, .return_)]
def kB28 : x_R := [(0, .aload_n 0, 1, .aload 0), (1, .iload_n 1, 1, .iload 1), (2, .putfield 172, 3, .multianewarray 0 37), (5, .aload_n 0, 1, .aload 0), (6, .aload_n 0, 1, .aload 0), (7, .getfield 150, 3, .invokeinterface 0 23), (10, .putfield 175, 3, .multianewarray 0 38), (13, .iconst (-1), 1, .iconst (-1)), (14, .ireturn, 1, .ireturn)]
def kB29 : x_R := [(0, .aload_n 0, 1, .aload 0), (1, .getfield 153, 3, .invokeinterface 0 24), (4, .iconst 2, 1, .iconst 2), (5, .if_icmp .ne 15, 3, .if_icmp .ne (.ofNat 10)), (8, .aload_n 0, 1, .aload 0), (9, .getfield 156, 3, .invokeinterface 0 25), (12, .iload_n 1, 1, .iload 1), (13, .if_icmp .ne 7, 3, .if_icmp .ne (.ofNat 10)), (16, .iconst 1, 1, .iconst 1), (17, .goto 4, 3, .goto 11), (20, .iconst 0, 1, .iconst 0), (21, .ireturn, 1, .areturn)]
def kB30 : x_R := [(0, .aload_n 0, 1, .aload 0), (1, .getfield 153, 3, .invokeinterface 0 24), (4, .iconst 4, 1, .iconst 4), (5, .if_icmp .ne 15, 3, .if_icmp .ne (.ofNat 10)), (8, .aload_n 0, 1, .aload 0), (9, .getfield 156, 3, .invokeinterface 0 25), (12, .iload_n 1, 1, .iload 1), (13, .if_icmp .ne 7, 3, .if_icmp .ne (.ofNat 10)), (16, .iconst 1, 1, .iconst 1), (17, .goto 4, 3, .goto 11), (20, .iconst 0, 1, .iconst 0), (21, .ireturn, 1, .areturn)]
def kB31 : x_R := [(0, .aload_n 0, 1, .aload 0), (1, .getfield 61, 3, .invokeinterface 0 31), (4, .sipush 400, 3, .iconst 400), (7, .aload_n 0, 1, .aload 0), (8, .getfield 178, 3, .invokeinterface 0 33), (11, .iadd, 1, .iadd), (12, .iload_n 1, 1, .iload 1), (13, .iastore, 1, .iastore), (14, .aload_n 0, 1, .aload 0), (15, .getfield 64, 3, .invokeinterface 0 32), (18, .sipush 400, 3, .iconst 400), (21, .aload_n 0, 1, .aload 0), (22, .getfield 178, 3, .invokeinterface 0 33), (25, .iadd, 1, .iadd), (26, .iload_n 2, 1, .iload 2), (27, .iastore, 1, .iastore), (28, .aload_n 0, 1, .aload 0), (29, .aload_n 0, 1, .aload 0), (30, .getfield 178, 3, .invokeinterface 0 33), (33, .iconst 1, 1, .iconst 1), (34, .iadd, 1, .iadd), (35, .putfield 178, 3, .multianewarray 0 33), (38, .return_, 1, .return_)]
def kB32 : x_R := [(0, .aload_n 0, 1, .aload 0), (1, .getfield 153, 3, .invokeinterface 0 24), (4, .iconst 2, 1, .iconst 2), (5, .if_icmp .ne 15, 3, .if_icmp .ne (.ofNat 10)), (8, .aload_n 0, 1, .aload 0), (9, .getfield 156, 3, .invokeinterface 0 25), (12, .iconst 5, 1, .iconst 5), (13, .if_icmp .lt 7, 3, .if_icmp .lt (.ofNat 10)), (16, .iconst 1, 1, .iconst 1), (17, .goto 4, 3, .goto 11), (20, .iconst 0, 1, .iconst 0), (21, .istore_n 1, 1, .istore 1), (22, .iload_n 1, 1, .iload 1), (23, .ifCond .ne 17, 3, .ifCond .ne (.ofNat 22)), (26, .aload_n 0, 1, .aload 0), (27, .getfield 153, 3, .invokeinterface 0 24), (30, .iconst 3, 1, .iconst 3), (31, .if_icmp .eq 9, 3, .if_icmp .eq (.ofNat 22)), (34, .aload_n 0, 1, .aload 0), (35, .iconst 1, 1, .iconst 1), (36, .invokevirtual 181, 3, .invokevirtual 28), (39, .ireturn, 1, .ireturn), (40, .aload_n 0, 1, .aload 0), (41, .iload_n 1, 1, .iload 1), (42, .ifCond .eq 7, 3, .ifCond .eq (.ofNat 27)), (45, .iconst 1, 1, .iconst 1), (46, .goto 4, 3, .goto 28), (49, .iconst 0, 1, .iconst 0), (50, .iload_n 1, 1, .iload 1), (51, .ifCond .eq 12, 3, .ifCond .eq (.ofNat 35)), (54, .aload_n 0, 1, .aload 0), (55, .getfield 156, 3, .invokeinterface 0 25), (58, .iconst 5, 1, .iconst 5), (59, .isub, 1, .isub), (60, .goto 7, 3, .goto 37), (63, .aload_n 0, 1, .aload 0), (64, .getfield 156, 3, .invokeinterface 0 25), (67, .invokevirtual 184, 3, .invokevirtual 31), (70, .aload_n 0, 1, .aload 0), (71, .invokevirtual 188, 3, .invokevirtual 27), (74, .iconst 0, 1, .iconst 0), (75, .ireturn, 1, .ireturn)]
def kB33 : x_R := [(0, .aload_n 0, 1, .aload 0), (1, .invokevirtual 191, 3, .invokevirtual 32), (4, .iconst (-1), 1, .iconst (-1)), (5, .if_icmp .ne 5, 3, .if_icmp .ne (.ofNat 6)), (8, .iconst (-1), 1, .iconst (-1)), (9, .ireturn, 1, .ireturn), (10, .aload_n 0, 1, .aload 0), (11, .bipush 42, 2, .iconst 42), (13, .invokevirtual 195, 3, .invokevirtual 30), (16, .ifCond .ne 12, 3, .ifCond .ne (.ofNat 14)), (19, .aload_n 0, 1, .aload 0), (20, .bipush 47, 2, .iconst 47), (22, .invokevirtual 195, 3, .invokevirtual 30), (25, .ifCond .eq 76, 3, .ifCond .eq (.ofNat 54)), (28, .aload_n 0, 1, .aload 0), (29, .bipush 42, 2, .iconst 42), (31, .invokevirtual 195, 3, .invokevirtual 30), (34, .istore_n 1, 1, .istore 1), (35, .aload_n 0, 1, .aload 0), (36, .invokevirtual 188, 3, .invokevirtual 27), (39, .iload_n 1, 1, .iload 1), (40, .ifCond .ne 17, 3, .ifCond .ne (.ofNat 30)), (43, .aload_n 0, 1, .aload 0), (44, .getfield 153, 3, .invokeinterface 0 24), (47, .iconst 3, 1, .iconst 3), (48, .if_icmp .eq 9, 3, .if_icmp .eq (.ofNat 30)), (51, .aload_n 0, 1, .aload 0), (52, .iconst 1, 1, .iconst 1), (53, .invokevirtual 181, 3, .invokevirtual 28), (56, .ireturn, 1, .ireturn), (57, .iload_n 1, 1, .iload 1), (58, .ifCond .ne 16, 3, .ifCond .ne (.ofNat 39)), (61, .aload_n 0, 1, .aload 0), (62, .getfield 156, 3, .invokeinterface 0 25), (65, .ifCond .ne 9, 3, .ifCond .ne (.ofNat 39)), (68, .aload_n 0, 1, .aload 0), (69, .iconst 2, 1, .iconst 2), (70, .invokevirtual 181, 3, .invokevirtual 28), (73, .ireturn, 1, .ireturn), (74, .aload_n 0, 1, .aload 0), (75, .invokevirtual 191, 3, .invokevirtual 32), (78, .iconst (-1), 1, .iconst (-1)), (79, .if_icmp .ne 5, 3, .if_icmp .ne (.ofNat 45)), (82, .iconst (-1), 1, .iconst (-1)), (83, .ireturn, 1, .ireturn), (84, .aload_n 0, 1, .aload 0), (85, .iload_n 1, 1, .iload 1), (86, .ifCond .eq 7, 3, .ifCond .eq (.ofNat 50)), (89, .iconst 4, 1, .iconst 4), (90, .goto 4, 3, .goto 51), (93, .iconst 5, 1, .iconst 5), (94, .iconst 0, 1, .iconst 0), (95, .invokevirtual 184, 3, .invokevirtual 31), (98, .goto (-88), 3, .jsr_w 6), (101, .iconst 0, 1, .iconst 0), (102, .ireturn, 1, .ireturn)]
def kB34 : x_R := [(0, .aload_n 0, 1, .aload 0), (1, .invokevirtual 198, 3, .invokevirtual 33), (4, .iconst (-1), 1, .iconst (-1)), (5, .if_icmp .ne 5, 3, .if_icmp .ne (.ofNat 6)), (8, .iconst (-1), 1, .iconst (-1)), (9, .ireturn, 1, .ireturn), (10, .aload_n 0, 1, .aload 0), (11, .bipush 43, 2, .iconst 43), (13, .invokevirtual 195, 3, .invokevirtual 30), (16, .ifCond .ne 12, 3, .ifCond .ne (.ofNat 14)), (19, .aload_n 0, 1, .aload 0), (20, .bipush 45, 2, .iconst 45), (22, .invokevirtual 195, 3, .invokevirtual 30), (25, .ifCond .eq 41, 3, .ifCond .eq (.ofNat 35)), (28, .aload_n 0, 1, .aload 0), (29, .getfield 156, 3, .invokeinterface 0 25), (32, .bipush 43, 2, .iconst 43), (34, .if_icmp .ne 7, 3, .if_icmp .ne (.ofNat 20)), (37, .iconst 2, 1, .iconst 2), (38, .goto 4, 3, .goto 21), (41, .iconst 3, 1, .iconst 3), (42, .istore_n 1, 1, .istore 1), (43, .aload_n 0, 1, .aload 0), (44, .invokevirtual 188, 3, .invokevirtual 27), (47, .aload_n 0, 1, .aload 0), (48, .invokevirtual 198, 3, .invokevirtual 33), (51, .iconst (-1), 1, .iconst (-1)), (52, .if_icmp .ne 5, 3, .if_icmp .ne (.ofNat 30)), (55, .iconst (-1), 1, .iconst (-1)), (56, .ireturn, 1, .ireturn), (57, .aload_n 0, 1, .aload 0), (58, .iload_n 1, 1, .iload 1), (59, .iconst 0, 1, .iconst 0), (60, .invokevirtual 184, 3, .invokevirtual 31), (63, .goto (-53), 3, .jsr_w 6), (66, .iconst 0, 1, .iconst 0), (67, .ireturn, 1, .ireturn)]
def kB35 : x_R := [(0, .aload_n 0, 1, .aload 0), (1, .invokevirtual 201, 3, .invokevirtual 34), (4, .iconst (-1), 1, .iconst (-1)), (5, .if_icmp .ne 5, 3, .if_icmp .ne (.ofNat 6)), (8, .iconst (-1), 1, .iconst (-1)), (9, .ireturn, 1, .ireturn), (10, .aload_n 0, 1, .aload 0), (11, .bipush 60, 2, .iconst 60), (13, .invokevirtual 195, 3, .invokevirtual 30), (16, .ifCond .ne 27, 3, .ifCond .ne (.ofNat 22)), (19, .aload_n 0, 1, .aload 0), (20, .bipush 61, 2, .iconst 61), (22, .invokevirtual 195, 3, .invokevirtual 30), (25, .ifCond .ne 18, 3, .ifCond .ne (.ofNat 22)), (28, .aload_n 0, 1, .aload 0), (29, .bipush 62, 2, .iconst 62), (31, .invokevirtual 195, 3, .invokevirtual 30), (34, .ifCond .ne 9, 3, .ifCond .ne (.ofNat 22)), (37, .aload_n 0, 1, .aload 0), (38, .iconst 1, 1, .iconst 1), (39, .invokevirtual 181, 3, .invokevirtual 28), (42, .ireturn, 1, .ireturn), (43, .aload_n 0, 1, .aload 0), (44, .getfield 156, 3, .invokeinterface 0 25), (47, .bipush 60, 2, .iconst 60), (49, .if_icmp .ne 8, 3, .if_icmp .ne (.ofNat 28)), (52, .bipush 6, 2, .iconst 6), (54, .goto 19, 3, .goto 35), (57, .aload_n 0, 1, .aload 0), (58, .getfield 156, 3, .invokeinterface 0 25), (61, .bipush 61, 2, .iconst 61), (63, .if_icmp .ne 8, 3, .if_icmp .ne (.ofNat 34)), (66, .bipush 7, 2, .iconst 7), (68, .goto 5, 3, .goto 35), (71, .bipush 8, 2, .iconst 8), (73, .istore_n 1, 1, .istore 1), (74, .aload_n 0, 1, .aload 0), (75, .invokevirtual 188, 3, .invokevirtual 27), (78, .aload_n 0, 1, .aload 0), (79, .invokevirtual 201, 3, .invokevirtual 34), (82, .iconst (-1), 1, .iconst (-1)), (83, .if_icmp .ne 5, 3, .if_icmp .ne (.ofNat 44)), (86, .iconst (-1), 1, .iconst (-1)), (87, .ireturn, 1, .ireturn), (88, .aload_n 0, 1, .aload 0), (89, .iload_n 1, 1, .iload 1), (90, .iconst 0, 1, .iconst 0), (91, .invokevirtual 184, 3, .invokevirtual 31), (94, .iconst 0, 1, .iconst 0), (95, .ireturn, 1, .ireturn)]
def kB36 : x_R := [(0, .aload_n 0, 1, .aload 0), (1, .getfield 67, 3, .invokeinterface 0 35), (4, .aload_n 0, 1, .aload 0), (5, .getfield 204, 3, .invokeinterface 0 36), (8, .iload_n 1, 1, .iload 1), (9, .iastore, 1, .iastore), (10, .aload_n 0, 1, .aload 0), (11, .aload_n 0, 1, .aload 0), (12, .getfield 204, 3, .invokeinterface 0 36), (15, .iconst 1, 1, .iconst 1), (16, .iadd, 1, .iadd), (17, .putfield 204, 3, .multianewarray 0 36), (20, .return_, 1, .return_)]
def kB37 : x_R := [(0, .aload_n 0, 1, .aload 0), (1, .getfield 204, 3, .invokeinterface 0 36), (4, .ifCond .le 53, 3, .ifCond .le (.ofNat 32)), (7, .aload_n 0, 1, .aload 0), (8, .getfield 67, 3, .invokeinterface 0 35), (11, .aload_n 0, 1, .aload 0), (12, .getfield 204, 3, .invokeinterface 0 36), (15, .iconst 1, 1, .iconst 1), (16, .isub, 1, .isub), (17, .iaload, 1, .iaload), (18, .iload_n 1, 1, .iload 1), (19, .if_icmp .ne 38, 3, .if_icmp .ne (.ofNat 32)), (22, .aload_n 0, 1, .aload 0), (23, .aload_n 0, 1, .aload 0), (24, .getfield 204, 3, .invokeinterface 0 36), (27, .iconst 1, 1, .iconst 1), (28, .isub, 1, .isub), (29, .putfield 204, 3, .multianewarray 0 36), (32, .aload_n 0, 1, .aload 0), (33, .iload_n 1, 1, .iload 1), (34, .iconst 0, 1, .iconst 0), (35, .invokevirtual 184, 3, .invokevirtual 31), (38, .iload_n 1, 1, .iload 1), (39, .bipush 9, 2, .iconst 9), (41, .if_icmp .ne (-41), 3, .if_icmp .ne (.negSucc 0)), (44, .aload_n 0, 1, .aload 0), (45, .aload_n 0, 1, .aload 0), (46, .getfield 207, 3, .invokeinterface 0 34), (49, .iconst 1, 1, .iconst 1), (50, .isub, 1, .isub), (51, .putfield 207, 3, .multianewarray 0 34), (54, .goto (-54), 3, .jsr_w 0), (57, .return_, 1, .return_)]
def kB38 : x_R := [(0, .iconst 0, 1, .iconst 0), (1, .istore_n 1, 1, .istore 1), (2, .aload_n 0, 1, .aload 0), (3, .iconst 0, 1, .iconst 0), (4, .putfield 204, 3, .multianewarray 0 36), (7, .iconst 1, 1, .iconst 1), (8, .istore_n 2, 1, .istore 2), (9, .iload_n 2, 1, .iload 2), (10, .ifCond .eq 98, 3, .ifCond .eq (.ofNat 61)), (13, .aload_n 0, 1, .aload 0), (14, .iconst 4, 1, .iconst 4), (15, .invokevirtual 210, 3, .invokevirtual 29), (18, .istore_n 3, 1, .istore 3), (19, .iload_n 3, 1, .iload 3), (20, .ifCond .ne 12, 3, .ifCond .ne (.ofNat 19)), (23, .aload_n 0, 1, .aload 0), (24, .bipush 40, 2, .iconst 40), (26, .invokevirtual 195, 3, .invokevirtual 30), (29, .ifCond .eq 58, 3, .ifCond .eq (.ofNat 49)), (32, .aload_n 0, 1, .aload 0), (33, .getfield 207, 3, .invokeinterface 0 34), (36, .bipush 8, 2, .iconst 8), (38, .if_icmp .ne 9, 3, .if_icmp .ne (.ofNat 27)), (41, .aload_n 0, 1, .aload 0), (42, .iconst 3, 1, .iconst 3), (43, .invokevirtual 181, 3, .invokevirtual 28), (46, .ireturn, 1, .ireturn), (47, .aload_n 0, 1, .aload 0), (48, .aload_n 0, 1, .aload 0), (49, .getfield 207, 3, .invokeinterface 0 34), (52, .iconst 1, 1, .iconst 1), (53, .iadd, 1, .iadd), (54, .putfield 207, 3, .multianewarray 0 34), (57, .iload_n 3, 1, .iload 3), (58, .ifCond .ne 7, 3, .ifCond .ne (.ofNat 39)), (61, .iload_n 1, 1, .iload 1), (62, .iconst 1, 1, .iconst 1), (63, .iadd, 1, .iadd), (64, .istore_n 1, 1, .istore 1), (65, .aload_n 0, 1, .aload 0), (66, .iload_n 3, 1, .iload 3), (67, .ifCond .eq 8, 3, .ifCond .eq (.ofNat 44)), (70, .bipush 9, 2, .iconst 9), (72, .goto 5, 3, .goto 45), (75, .bipush 12, 2, .iconst 12), (77, .invokevirtual 213, 3, .invokevirtual 36), (80, .aload_n 0, 1, .aload 0), (81, .invokevirtual 188, 3, .invokevirtual 27), (84, .goto (-75), 3, .jsr_w 7), (87, .aload_n 0, 1, .aload 0), (88, .invokevirtual 216, 3, .invokevirtual 35), (91, .iconst (-1), 1, .iconst (-1)), (92, .if_icmp .ne 5, 3, .if_icmp .ne (.ofNat 55)), (95, .iconst (-1), 1, .iconst (-1)), (96, .ireturn, 1, .ireturn), (97, .aload_n 0, 1, .aload 0), (98, .bipush 9, 2, .iconst 9), (100, .invokevirtual 219, 3, .invokevirtual 37), (103, .iconst 0, 1, .iconst 0), (104, .istore_n 2, 1, .istore 2), (105, .goto (-96), 3, .jsr_w 7), (108, .aload_n 0, 1, .aload 0), (109, .iconst 3, 1, .iconst 3), (110, .invokevirtual 210, 3, .invokevirtual 29), (113, .ifCond .eq 24, 3, .ifCond .eq (.ofNat 76)), (116, .aload_n 0, 1, .aload 0), (117, .bipush 10, 2, .iconst 10), (119, .invokevirtual 219, 3, .invokevirtual 37), (122, .aload_n 0, 1, .aload 0), (123, .bipush 10, 2, .iconst 10), (125, .invokevirtual 213, 3, .invokevirtual 36), (128, .aload_n 0, 1, .aload 0), (129, .invokevirtual 188, 3, .invokevirtual 27), (132, .iconst 1, 1, .iconst 1), (133, .istore_n 2, 1, .istore 2), (134, .goto (-125), 3, .jsr_w 7), (137, .aload_n 0, 1, .aload 0), (138, .iconst 2, 1, .iconst 2), (139, .invokevirtual 210, 3, .invokevirtual 29), (142, .ifCond .eq 30, 3, .ifCond .eq (.ofNat 94)), (145, .aload_n 0, 1, .aload 0), (146, .bipush 10, 2, .iconst 10), (148, .invokevirtual 219, 3, .invokevirtual 37), (151, .aload_n 0, 1, .aload 0), (152, .bipush 11, 2, .iconst 11), (154, .invokevirtual 219, 3, .invokevirtual 37), (157, .aload_n 0, 1, .aload 0), (158, .bipush 11, 2, .iconst 11), (160, .invokevirtual 213, 3, .invokevirtual 36), (163, .aload_n 0, 1, .aload 0), (164, .invokevirtual 188, 3, .invokevirtual 27), (167, .iconst 1, 1, .iconst 1), (168, .istore_n 2, 1, .istore 2), (169, .goto (-160), 3, .jsr_w 7), (172, .aload_n 0, 1, .aload 0), (173, .bipush 10, 2, .iconst 10), (175, .invokevirtual 219, 3, .invokevirtual 37), (178, .aload_n 0, 1, .aload 0), (179, .bipush 11, 2, .iconst 11), (181, .invokevirtual 219, 3, .invokevirtual 37), (184, .iload_n 1, 1, .iload 1), (185, .ifCond .ne 5, 3, .ifCond .ne (.ofNat 104)), (188, .iconst 0, 1, .iconst 0), (189, .ireturn, 1, .ireturn), (190, .aload_n 0, 1, .aload 0), (191, .bipush 41, 2, .iconst 41), (193, .invokevirtual 195, 3, .invokevirtual 30), (196, .ifCond .ne 9, 3, .ifCond .ne (.ofNat 112)), (199, .aload_n 0, 1, .aload 0), (200, .iconst 1, 1, .iconst 1), (201, .invokevirtual 181, 3, .invokevirtual 28), (204, .ireturn, 1, .ireturn), (205, .aload_n 0, 1, .aload 0), (206, .aload_n 0, 1, .aload 0), (207, .getfield 204, 3, .invokeinterface 0 36), (210, .iconst 1, 1, .iconst 1), (211, .isub, 1, .isub), (212, .putfield 204, 3, .multianewarray 0 36), (215, .iload_n 1, 1, .iload 1), (216, .iconst 1, 1, .iconst 1), (217, .isub, 1, .isub), (218, .istore_n 1, 1, .istore 1), (219, .aload_n 0, 1, .aload 0), (220, .aload_n 0, 1, .aload 0), (221, .getfield 207, 3, .invokeinterface 0 34), (224, .iconst 1, 1, .iconst 1), (225, .isub, 1, .isub), (226, .putfield 207, 3, .multianewarray 0 34), (229, .aload_n 0, 1, .aload 0), (230, .bipush 9, 2, .iconst 9), (232, .invokevirtual 219, 3, .invokevirtual 37), (235, .aload_n 0, 1, .aload 0), (236, .invokevirtual 188, 3, .invokevirtual 27), (239, .goto (-230), 3, .jsr_w 7)]
def kB39 : x_R := [(0, .iconst 0, 1, .iconst 0), (1, .istore_n 1, 1, .istore 1), (2, .aload_n 0, 1, .aload 0), (3, .iconst 0, 1, .iconst 0), (4, .invokevirtual 210, 3, .invokevirtual 29), (7, .ifCond .eq 112, 3, .ifCond .eq (.ofNat 70)), (10, .iload_n 1, 1, .iload 1), (11, .bipush 16, 2, .iconst 16), (13, .if_icmp .ne 9, 3, .if_icmp .ne (.ofNat 13)), (16, .aload_n 0, 1, .aload 0), (17, .iconst 3, 1, .iconst 3), (18, .invokevirtual 181, 3, .invokevirtual 28), (21, .ireturn, 1, .ireturn), (22, .bipush 16, 2, .iconst 16), (24, .iload_n 1, 1, .iload 1), (25, .iadd, 1, .iadd), (26, .istore_n 2, 1, .istore 2), (27, .aload_n 0, 1, .aload 0), (28, .invokevirtual 188, 3, .invokevirtual 27), (31, .aload_n 0, 1, .aload 0), (32, .getfield 55, 3, .invokeinterface 0 29), (35, .iload_n 2, 1, .iload 2), (36, .aload_n 0, 1, .aload 0), (37, .getfield 178, 3, .invokeinterface 0 33), (40, .iastore, 1, .iastore), (41, .aload_n 0, 1, .aload 0), (42, .invokevirtual 201, 3, .invokevirtual 34), (45, .iconst (-1), 1, .iconst (-1)), (46, .if_icmp .ne 5, 3, .if_icmp .ne (.ofNat 31)), (49, .iconst (-1), 1, .iconst (-1)), (50, .ireturn, 1, .ireturn), (51, .aload_n 0, 1, .aload 0), (52, .getfield 52, 3, .invokeinterface 0 28), (55, .iload_n 2, 1, .iload 2), (56, .aload_n 0, 1, .aload 0), (57, .getfield 178, 3, .invokeinterface 0 33), (60, .iastore, 1, .iastore), (61, .aload_n 0, 1, .aload 0), (62, .iconst 1, 1, .iconst 1), (63, .invokevirtual 210, 3, .invokevirtual 29), (66, .ifCond .eq 17, 3, .ifCond .eq (.ofNat 49)), (69, .aload_n 0, 1, .aload 0), (70, .invokevirtual 188, 3, .invokevirtual 27), (73, .aload_n 0, 1, .aload 0), (74, .invokevirtual 222, 3, .invokevirtual 38), (77, .iconst (-1), 1, .iconst (-1)), (78, .if_icmp .ne 5, 3, .if_icmp .ne (.ofNat 49)), (81, .iconst (-1), 1, .iconst (-1)), (82, .ireturn, 1, .ireturn), (83, .aload_n 0, 1, .aload 0), (84, .getfield 58, 3, .invokeinterface 0 30), (87, .iload_n 2, 1, .iload 2), (88, .aload_n 0, 1, .aload 0), (89, .getfield 178, 3, .invokeinterface 0 33), (92, .iastore, 1, .iastore), (93, .aload_n 0, 1, .aload 0), (94, .bipush 59, 2, .iconst 59), (96, .invokevirtual 195, 3, .invokevirtual 30), (99, .ifCond .ne 9, 3, .ifCond .ne (.ofNat 63)), (102, .aload_n 0, 1, .aload 0), (103, .iconst 1, 1, .iconst 1), (104, .invokevirtual 181, 3, .invokevirtual 28), (107, .ireturn, 1, .ireturn), (108, .aload_n 0, 1, .aload 0), (109, .invokevirtual 188, 3, .invokevirtual 27), (112, .iload_n 1, 1, .iload 1), (113, .iconst 1, 1, .iconst 1), (114, .iadd, 1, .iadd), (115, .istore_n 1, 1, .istore 1), (116, .goto (-114), 3, .jsr_w 2), (119, .aload_n 0, 1, .aload 0), (120, .getfield 153, 3, .invokeinterface 0 24), (123, .ifCond .ne 7, 3, .ifCond .ne (.ofNat 75)), (126, .iload_n 1, 1, .iload 1), (127, .goto 8, 3, .goto 78), (130, .aload_n 0, 1, .aload 0), (131, .iconst 1, 1, .iconst 1), (132, .invokevirtual 181, 3, .invokevirtual 28), (135, .ireturn, 1, .ireturn)]
def kB40 : x_R := [(0, .aload_n 0, 1, .aload 0), (1, .iconst 0, 1, .iconst 0), (2, .putfield 92, 3, .multianewarray 0 0), (5, .aload_n 0, 1, .aload 0), (6, .iconst 0, 1, .iconst 0), (7, .putfield 225, 3, .multianewarray 0 39), (10, .aload_n 0, 1, .aload 0), (11, .iconst (-1), 1, .iconst (-1)), (12, .putfield 70, 3, .multianewarray 0 40), (15, .aload_n 0, 1, .aload 0), (16, .iconst 0, 1, .iconst 0), (17, .putfield 144, 3, .multianewarray 0 22), (20, .aload_n 0, 1, .aload 0), (21, .iconst 0, 1, .iconst 0), (22, .putfield 178, 3, .multianewarray 0 33), (25, .aload_n 0, 1, .aload 0), (26, .iconst 0, 1, .iconst 0), (27, .putfield 207, 3, .multianewarray 0 34), (30, .aload_n 0, 1, .aload 0), (31, .invokevirtual 188, 3, .invokevirtual 27), (34, .aload_n 0, 1, .aload 0), (35, .invokevirtual 228, 3, .invokevirtual 39), (38, .istore_n 1, 1, .istore 1), (39, .aload_n 0, 1, .aload 0), (40, .iconst 0, 1, .iconst 0), (41, .putfield 125, 3, .multianewarray 0 21), (44, .iload_n 1, 1, .iload 1), (45, .iconst (-1), 1, .iconst (-1)), (46, .if_icmp .ne 21, 3, .if_icmp .ne (.ofNat 39)), (49, .aload_n 0, 1, .aload 0), (50, .aload_n 0, 1, .aload 0), (51, .getfield 172, 3, .invokeinterface 0 37), (54, .putfield 225, 3, .multianewarray 0 39), (57, .aload_n 0, 1, .aload 0), (58, .aload_n 0, 1, .aload 0), (59, .getfield 175, 3, .invokeinterface 0 38), (62, .putfield 70, 3, .multianewarray 0 40), (65, .iconst (-1), 1, .iconst (-1)), (66, .ireturn, 1, .ireturn), (67, .iconst 0, 1, .iconst 0), (68, .istore_n 2, 1, .istore 2), (69, .iload_n 2, 1, .iload 2), (70, .iload_n 1, 1, .iload 1), (71, .if_icmp .ge 54, 3, .if_icmp .ge (.ofNat 76)), (74, .aload_n 0, 1, .aload 0), (75, .getfield 52, 3, .invokeinterface 0 28), (78, .iload_n 2, 1, .iload 2), (79, .aload_n 0, 1, .aload 0), (80, .getfield 52, 3, .invokeinterface 0 28), (83, .bipush 16, 2, .iconst 16), (85, .iload_n 2, 1, .iload 2), (86, .iadd, 1, .iadd), (87, .iaload, 1, .iaload), (88, .iastore, 1, .iastore), (89, .aload_n 0, 1, .aload 0), (90, .getfield 55, 3, .invokeinterface 0 29), (93, .iload_n 2, 1, .iload 2), (94, .aload_n 0, 1, .aload 0), (95, .getfield 55, 3, .invokeinterface 0 29), (98, .bipush 16, 2, .iconst 16), (100, .iload_n 2, 1, .iload 2), (101, .iadd, 1, .iadd), (102, .iaload, 1, .iaload), (103, .iastore, 1, .iastore), (104, .aload_n 0, 1, .aload 0), (105, .getfield 58, 3, .invokeinterface 0 30), (108, .iload_n 2, 1, .iload 2), (109, .aload_n 0, 1, .aload 0), (110, .getfield 58, 3, .invokeinterface 0 30), (113, .bipush 16, 2, .iconst 16), (115, .iload_n 2, 1, .iload 2), (116, .iadd, 1, .iadd), (117, .iaload, 1, .iaload), (118, .iastore, 1, .iastore), (119, .iinc 2 1, 3, .iinc 2 1), (122, .goto (-53), 3, .jsr_w 41), (125, .iconst 0, 1, .iconst 0), (126, .istore_n 2, 1, .istore 2), (127, .iload_n 2, 1, .iload 2), (128, .aload_n 0, 1, .aload 0), (129, .getfield 178, 3, .invokeinterface 0 33), (132, .if_icmp .ge 41, 3, .if_icmp .ge (.ofNat 104)), (135, .aload_n 0, 1, .aload 0), (136, .getfield 61, 3, .invokeinterface 0 31), (139, .iload_n 2, 1, .iload 2), (140, .aload_n 0, 1, .aload 0), (141, .getfield 61, 3, .invokeinterface 0 31), (144, .sipush 400, 3, .iconst 400), (147, .iload_n 2, 1, .iload 2), (148, .iadd, 1, .iadd), (149, .iaload, 1, .iaload), (150, .iastore, 1, .iastore), (151, .aload_n 0, 1, .aload 0), (152, .getfield 64, 3, .invokeinterface 0 32), (155, .iload_n 2, 1, .iload 2), (156, .aload_n 0, 1, .aload 0), (157, .getfield 64, 3, .invokeinterface 0 32), (160, .sipush 400, 3, .iconst 400), (163, .iload_n 2, 1, .iload 2), (164, .iadd, 1, .iadd), (165, .iaload, 1, .iaload), (166, .iastore, 1, .iastore), (167, .iinc 2 1, 3, .iinc 2 1), (170, .goto (-43), 3, .jsr_w 78), (173, .aload_n 0, 1, .aload 0), (174, .iload_n 1, 1, .iload 1), (175, .putfield 231, 3, .multianewarray 0 27), (178, .iload_n 1, 1, .iload 1), (179, .ireturn, 1, .ireturn)]
def kB41 : x_R := [(0, .aload_n 0, 1, .aload 0), (1, .iconst 0, 1, .iconst 0), (2, .putfield 92, 3, .multianewarray 0 0), (5, .iload_n 1, 1, .iload 1), (6, .ifCond .ne 10, 3, .ifCond .ne (.ofNat 8)), (9, .aload_n 0, 1, .aload 0), (10, .getfield 225, 3, .invokeinterface 0 39), (13, .goto 16, 3, .goto 15), (16, .iload_n 1, 1, .iload 1), (17, .iconst 1, 1, .iconst 1), (18, .if_icmp .ne 10, 3, .if_icmp .ne (.ofNat 14)), (21, .aload_n 0, 1, .aload 0), (22, .getfield 70, 3, .invokeinterface 0 40), (25, .goto 4, 3, .goto 15), (28, .iconst (-1), 1, .iconst (-1)), (29, .ireturn, 1, .ireturn)]
def kB42 : x_R := [(0, .iload_n 1, 1, .iload 1), (1, .iconst 2, 1, .iconst 2), (2, .if_icmp .ne 7, 3, .if_icmp .ne (.ofNat 7)), (5, .iload_n 2, 1, .iload 2), (6, .iload_n 3, 1, .iload 3), (7, .iadd, 1, .iadd), (8, .ireturn, 1, .ireturn), (9, .iload_n 1, 1, .iload 1), (10, .iconst 3, 1, .iconst 3), (11, .if_icmp .ne 7, 3, .if_icmp .ne (.ofNat 14)), (14, .iload_n 2, 1, .iload 2), (15, .iload_n 3, 1, .iload 3), (16, .isub, 1, .isub), (17, .ireturn, 1, .ireturn), (18, .iload_n 1, 1, .iload 1), (19, .iconst 4, 1, .iconst 4), (20, .if_icmp .ne 7, 3, .if_icmp .ne (.ofNat 21)), (23, .iload_n 2, 1, .iload 2), (24, .iload_n 3, 1, .iload 3), (25, .imul, 1, .imul), (26, .ireturn, 1, .ireturn), (27, .iload_n 1, 1, .iload 1), (28, .iconst 5, 1, .iconst 5), (29, .if_icmp .ne 7, 3, .if_icmp .ne (.ofNat 28)), (32, .iload_n 2, 1, .iload 2), (33, .iload_n 3, 1, .iload 3), (34, .idiv, 1, .idiv), (35, .ireturn, 1, .ireturn), (36, .iload_n 1, 1, .iload 1), (37, .bipush 6, 2, .iconst 6), (39, .if_icmp .ne 14, 3, .if_icmp .ne (.ofNat 38)), (42, .iload_n 2, 1, .iload 2), (43, .iload_n 3, 1, .iload 3), (44, .if_icmp .ge 7, 3, .if_icmp .ge (.ofNat 36)), (47, .iconst 1, 1, .iconst 1), (48, .goto 4, 3, .goto 37), (51, .iconst 0, 1, .iconst 0), (52, .ireturn, 1, .ireturn), (53, .iload_n 1, 1, .iload 1), (54, .bipush 7, 2, .iconst 7), (56, .if_icmp .ne 14, 3, .if_icmp .ne (.ofNat 48)), (59, .iload_n 2, 1, .iload 2), (60, .iload_n 3, 1, .iload 3), (61, .if_icmp .ne 7, 3, .if_icmp .ne (.ofNat 46)), (64, .iconst 1, 1, .iconst 1), (65, .goto 4, 3, .goto 47), (68, .iconst 0, 1, .iconst 0), (69, .ireturn, 1, .ireturn), (70, .iload_n 1, 1, .iload 1), (71, .bipush 8, 2, .iconst 8), (73, .if_icmp .ne 14, 3, .if_icmp .ne (.ofNat 58)), (76, .iload_n 2, 1, .iload 2), (77, .iload_n 3, 1, .iload 3), (78, .if_icmp .le 7, 3, .if_icmp .le (.ofNat 56)), (81, .iconst 1, 1, .iconst 1), (82, .goto 4, 3, .goto 57), (85, .iconst 0, 1, .iconst 0), (86, .ireturn, 1, .ireturn), (87, .iload_n 1, 1, .iload 1), (88, .bipush 10, 2, .iconst 10), (90, .if_icmp .ne 9, 3, .if_icmp .ne (.ofNat 65)), (93, .iload_n 2, 1, .iload 2), (94, .iload_n 3, 1, .iload 3), (95, .imul, 1, .imul), (96, .goto 14, 3, .goto 72), (99, .iload_n 2, 1, .iload 2), (100, .iload_n 3, 1, .iload 3), (101, .iadd, 1, .iadd), (102, .ifCond .le 7, 3, .ifCond .le (.ofNat 71)), (105, .iconst 1, 1, .iconst 1), (106, .goto 4, 3, .goto 72), (109, .iconst 0, 1, .iconst 0), (110, .ireturn, 1, .ireturn)]
def kB43 : x_R := [(0, .iconst 0, 1, .iconst 0), (1, .istore_n 3, 1, .istore 3), (2, .iload_n 1, 1, .iload 1), (3, .istore 4, 2, .istore 4), (5, .iload 4, 2, .iload 4), (7, .iload_n 2, 1, .iload 2), (8, .if_icmp .ge 145, 3, .if_icmp .ge (.ofNat 93)), (11, .aload_n 0, 1, .aload 0), (12, .getfield 61, 3, .invokeinterface 0 31), (15, .iload 4, 2, .iload 4), (17, .iaload, 1, .iaload), (18, .ifCond .eq 14, 3, .ifCond .eq (.ofNat 18)), (21, .aload_n 0, 1, .aload 0), (22, .getfield 61, 3, .invokeinterface 0 31), (25, .iload 4, 2, .iload 4), (27, .iaload, 1, .iaload), (28, .iconst 1, 1, .iconst 1), (29, .if_icmp .ne 48, 3, .if_icmp .ne (.ofNat 44)), (32, .aload_n 0, 1, .aload 0), (33, .getfield 77, 3, .invokeinterface 0 42), (36, .iload_n 3, 1, .iload 3), (37, .aload_n 0, 1, .aload 0), (38, .getfield 61, 3, .invokeinterface 0 31), (41, .iload 4, 2, .iload 4), (43, .iaload, 1, .iaload), (44, .ifCond .ne 13, 3, .ifCond .ne (.ofNat 31)), (47, .aload_n 0, 1, .aload 0), (48, .getfield 64, 3, .invokeinterface 0 32), (51, .iload 4, 2, .iload 4), (53, .iaload, 1, .iaload), (54, .goto 15, 3, .goto 38), (57, .aload_n 0, 1, .aload 0), (58, .getfield 74, 3, .invokeinterface 0 41), (61, .aload_n 0, 1, .aload 0), (62, .getfield 64, 3, .invokeinterface 0 32), (65, .iload 4, 2, .iload 4), (67, .iaload, 1, .iaload), (68, .iaload, 1, .iaload), (69, .iastore, 1, .iastore), (70, .iload_n 3, 1, .iload 3), (71, .iconst 1, 1, .iconst 1), (72, .iadd, 1, .iadd), (73, .istore_n 3, 1, .istore 3), (74, .goto 73, 3, .goto 91), (77, .aload_n 0, 1, .aload 0), (78, .getfield 61, 3, .invokeinterface 0 31), (81, .iload 4, 2, .iload 4), (83, .iaload, 1, .iaload), (84, .bipush 9, 2, .iconst 9), (86, .if_icmp .ne 24, 3, .if_icmp .ne (.ofNat 65)), (89, .aload_n 0, 1, .aload 0), (90, .getfield 77, 3, .invokeinterface 0 42), (93, .iload_n 3, 1, .iload 3), (94, .iconst 1, 1, .iconst 1), (95, .isub, 1, .isub), (96, .iconst 1, 1, .iconst 1), (97, .aload_n 0, 1, .aload 0), (98, .getfield 77, 3, .invokeinterface 0 42), (101, .iload_n 3, 1, .iload 3), (102, .iconst 1, 1, .iconst 1), (103, .isub, 1, .isub), (104, .iaload, 1, .iaload), (105, .isub, 1, .isub), (106, .iastore, 1, .iastore), (107, .goto 40, 3, .goto 91), (110, .iload_n 3, 1, .iload 3), (111, .iconst 1, 1, .iconst 1), (112, .isub, 1, .isub), (113, .istore_n 3, 1, .istore 3), (114, .aload_n 0, 1, .aload 0), (115, .getfield 77, 3, .invokeinterface 0 42), (118, .iload_n 3, 1, .iload 3), (119, .iconst 1, 1, .iconst 1), (120, .isub, 1, .isub), (121, .aload_n 0, 1, .aload 0), (122, .aload_n 0, 1, .aload 0), (123, .getfield 61, 3, .invokeinterface 0 31), (126, .iload 4, 2, .iload 4), (128, .iaload, 1, .iaload), (129, .aload_n 0, 1, .aload 0), (130, .getfield 77, 3, .invokeinterface 0 42), (133, .iload_n 3, 1, .iload 3), (134, .iconst 1, 1, .iconst 1), (135, .isub, 1, .isub), (136, .iaload, 1, .iaload), (137, .aload_n 0, 1, .aload 0), (138, .getfield 77, 3, .invokeinterface 0 42), (141, .iload_n 3, 1, .iload 3), (142, .iaload, 1, .iaload), (143, .invokevirtual 234, 3, .invokevirtual 42), (146, .iastore, 1, .iastore), (147, .iinc 4 1, 3, .iinc 4 1), (150, .goto (-145), 3, .jsr_w 4), (153, .aload_n 0, 1, .aload 0), (154, .getfield 77, 3, .invokeinterface 0 42), (157, .iconst 0, 1, .iconst 0), (158, .iaload, 1, .iaload), (159, .ireturn, 1, .ireturn)]
def kB44 : x_R := [(0, .aload_n 0, 1, .aload 0), (1, .getfield 52, 3, .invokeinterface 0 28), (4, .iload_n 1, 1, .iload 1), (5, .iaload, 1, .iaload), (6, .aload_n 0, 1, .aload 0), (7, .getfield 58, 3, .invokeinterface 0 30), (10, .iload_n 1, 1, .iload 1), (11, .iaload, 1, .iaload), (12, .if_icmp .eq 22, 3, .if_icmp .eq (.ofNat 20)), (15, .aload_n 0, 1, .aload 0), (16, .aload_n 0, 1, .aload 0), (17, .getfield 52, 3, .invokeinterface 0 28), (20, .iload_n 1, 1, .iload 1), (21, .iaload, 1, .iaload), (22, .aload_n 0, 1, .aload 0), (23, .getfield 58, 3, .invokeinterface 0 30), (26, .iload_n 1, 1, .iload 1), (27, .iaload, 1, .iaload), (28, .invokevirtual 238, 3, .invokevirtual 43), (31, .ifCond .eq 7, 3, .ifCond .eq (.ofNat 22)), (34, .iconst 1, 1, .iconst 1), (35, .goto 4, 3, .goto 23), (38, .iconst 0, 1, .iconst 0), (39, .ireturn, 1, .areturn)]
def kB45 : x_R := [(0, .iload_n 1, 1, .iload 1), (1, .ifCond .lt 26, 3, .ifCond .lt (.ofNat 14)), (4, .iload_n 1, 1, .iload 1), (5, .aload_n 0, 1, .aload 0), (6, .getfield 137, 3, .invokeinterface 0 15), (9, .if_icmp .ge 18, 3, .if_icmp .ge (.ofNat 14)), (12, .aload_n 0, 1, .aload 0), (13, .getfield 37, 3, .invokeinterface 0 16), (16, .iload_n 1, 1, .iload 1), (17, .iaload, 1, .iaload), (18, .bipush 26, 2, .iconst 26), (20, .if_icmp .ge 7, 3, .if_icmp .ge (.ofNat 14)), (23, .iconst 1, 1, .iconst 1), (24, .goto 4, 3, .goto 15), (27, .iconst 0, 1, .iconst 0), (28, .ireturn, 1, .areturn)]
def kB46 : x_R := [(0, .aload_n 0, 1, .aload 0), (1, .iload_n 1, 1, .iload 1), (2, .invokevirtual 241, 3, .invokevirtual 45), (5, .ifCond .ne 5, 3, .ifCond .ne (.ofNat 6)), (8, .iconst 0, 1, .iconst 0), (9, .ireturn, 1, .ireturn), (10, .iload_n 1, 1, .iload 1), (11, .istore_n 2, 1, .istore 2), (12, .aload_n 0, 1, .aload 0), (13, .iload_n 2, 1, .iload 2), (14, .iconst 1, 1, .iconst 1), (15, .isub, 1, .isub), (16, .invokevirtual 241, 3, .invokevirtual 45), (19, .ifCond .eq 10, 3, .ifCond .eq (.ofNat 19)), (22, .iload_n 2, 1, .iload 2), (23, .iconst 1, 1, .iconst 1), (24, .isub, 1, .isub), (25, .istore_n 2, 1, .istore 2), (26, .goto (-14), 3, .jsr_w 8), (29, .iconst 0, 1, .iconst 0), (30, .istore_n 3, 1, .istore 3), (31, .aload_n 0, 1, .aload 0), (32, .iload_n 2, 1, .iload 2), (33, .invokevirtual 241, 3, .invokevirtual 45), (36, .ifCond .eq 27, 3, .ifCond .eq (.ofNat 41)), (39, .aload_n 0, 1, .aload 0), (40, .aload_n 0, 1, .aload 0), (41, .getfield 37, 3, .invokeinterface 0 16), (44, .iload_n 2, 1, .iload 2), (45, .iaload, 1, .iaload), (46, .invokevirtual 244, 3, .invokevirtual 13), (49, .ifCond .eq 7, 3, .ifCond .eq (.ofNat 36)), (52, .iload_n 3, 1, .iload 3), (53, .iconst 1, 1, .iconst 1), (54, .iadd, 1, .iadd), (55, .istore_n 3, 1, .istore 3), (56, .iload_n 2, 1, .iload 2), (57, .iconst 1, 1, .iconst 1), (58, .iadd, 1, .iadd), (59, .istore_n 2, 1, .istore 2), (60, .goto (-29), 3, .jsr_w 21), (63, .iload_n 3, 1, .iload 3), (64, .ireturn, 1, .ireturn)]
def kB47 : x_R := [(0, .iconst 0, 1, .iconst 0), (1, .istore_n 2, 1, .istore 2), (2, .iconst 0, 1, .iconst 0), (3, .istore_n 3, 1, .istore 3), (4, .iload_n 3, 1, .iload 3), (5, .iload_n 1, 1, .iload 1), (6, .if_icmp .ge 28, 3, .if_icmp .ge (.ofNat 22)), (9, .aload_n 0, 1, .aload 0), (10, .getfield 37, 3, .invokeinterface 0 16), (13, .iload_n 3, 1, .iload 3), (14, .iaload, 1, .iaload), (15, .aload_n 0, 1, .aload 0), (16, .getfield 37, 3, .invokeinterface 0 16), (19, .iload_n 1, 1, .iload 1), (20, .iaload, 1, .iaload), (21, .if_icmp .ne 7, 3, .if_icmp .ne (.ofNat 20)), (24, .iload_n 2, 1, .iload 2), (25, .iconst 1, 1, .iconst 1), (26, .iadd, 1, .iadd), (27, .istore_n 2, 1, .istore 2), (28, .iinc 3 1, 3, .iinc 3 1), (31, .goto (-27), 3, .jsr_w 4), (34, .iload_n 2, 1, .iload 2), (35, .ireturn, 1, .ireturn)]
def kB48 : x_R := [(0, .iload_n 1, 1, .iload 1), (1, .ifCond .eq 26, 3, .ifCond .eq (.ofNat 14)), (4, .iload_n 1, 1, .iload 1), (5, .iconst 4, 1, .iconst 4), (6, .if_icmp .eq 21, 3, .if_icmp .eq (.ofNat 14)), (9, .iload_n 1, 1, .iload 1), (10, .bipush 8, 2, .iconst 8), (12, .if_icmp .eq 15, 3, .if_icmp .eq (.ofNat 14)), (15, .iload_n 1, 1, .iload 1), (16, .bipush 14, 2, .iconst 14), (18, .if_icmp .eq 9, 3, .if_icmp .eq (.ofNat 14)), (21, .iload_n 1, 1, .iload 1), (22, .bipush 20, 2, .iconst 20), (24, .if_icmp .ne 7, 3, .if_icmp .ne (.ofNat 16)), (27, .iconst 1, 1, .iconst 1), (28, .goto 4, 3, .goto 17), (31, .iconst 0, 1, .iconst 0), (32, .ireturn, 1, .areturn)]
def kB49 : x_R := [(0, .aload_n 0, 1, .aload 0), (1, .getfield 74, 3, .invokeinterface 0 41), (4, .iconst 0, 1, .iconst 0), (5, .aload_n 0, 1, .aload 0), (6, .getfield 37, 3, .invokeinterface 0 16), (9, .iload_n 1, 1, .iload 1), (10, .iaload, 1, .iaload), (11, .iastore, 1, .iastore), (12, .aload_n 0, 1, .aload 0), (13, .getfield 74, 3, .invokeinterface 0 41), (16, .iconst 1, 1, .iconst 1), (17, .iload_n 1, 1, .iload 1), (18, .iastore, 1, .iastore), (19, .aload_n 0, 1, .aload 0), (20, .getfield 74, 3, .invokeinterface 0 41), (23, .iconst 2, 1, .iconst 2), (24, .aload_n 0, 1, .aload 0), (25, .iload_n 1, 1, .iload 1), (26, .invokevirtual 247, 3, .invokevirtual 46), (29, .iastore, 1, .iastore), (30, .aload_n 0, 1, .aload 0), (31, .getfield 74, 3, .invokeinterface 0 41), (34, .iconst 3, 1, .iconst 3), (35, .aload_n 0, 1, .aload 0), (36, .iload_n 1, 1, .iload 1), (37, .invokevirtual 250, 3, .invokevirtual 47), (40, .iastore, 1, .iastore), (41, .aload_n 0, 1, .aload 0), (42, .getfield 74, 3, .invokeinterface 0 41), (45, .iconst 4, 1, .iconst 4), (46, .aload_n 0, 1, .aload 0), (47, .aload_n 0, 1, .aload 0), (48, .getfield 37, 3, .invokeinterface 0 16), (51, .iload_n 1, 1, .iload 1), (52, .iaload, 1, .iaload), (53, .invokevirtual 253, 3, .invokevirtual 48), (56, .ifCond .eq 7, 3, .ifCond .eq (.ofNat 39)), (59, .iconst 1, 1, .iconst 1), (60, .goto 4, 3, .goto 40), (63, .iconst 0, 1, .iconst 0), (64, .iastore, 1, .iastore), (65, .aload_n 0, 1, .aload 0), (66, .getfield 74, 3, .invokeinterface 0 41), (69, .iconst 5, 1, .iconst 5), (70, .aload_n 0, 1, .aload 0), (71, .getfield 28, 3, .invokeinterface 0 9), (74, .aload_n 0, 1, .aload 0), (75, .getfield 37, 3, .invokeinterface 0 16), (78, .iload_n 1, 1, .iload 1), (79, .iaload, 1, .iaload), (80, .iaload, 1, .iaload), (81, .ifCond .ne 8, 3, .ifCond .ne (.ofNat 54)), (84, .bipush 9, 2, .iconst 9), (86, .goto 13, 3, .goto 60), (89, .aload_n 0, 1, .aload 0), (90, .aload_n 0, 1, .aload 0), (91, .getfield 37, 3, .invokeinterface 0 16), (94, .iload_n 1, 1, .iload 1), (95, .iaload, 1, .iaload), (96, .invokevirtual 121, 3, .invokevirtual 12), (99, .iastore, 1, .iastore), (100, .aload_n 0, 1, .aload 0), (101, .getfield 74, 3, .invokeinterface 0 41), (104, .bipush 6, 2, .iconst 6), (106, .aload_n 0, 1, .aload 0), (107, .getfield 256, 3, .invokeinterface 0 12), (110, .iastore, 1, .iastore), (111, .aload_n 0, 1, .aload 0), (112, .getfield 74, 3, .invokeinterface 0 41), (115, .bipush 7, 2, .iconst 7), (117, .iload_n 1, 1, .iload 1), (118, .ifCond .eq 31, 3, .ifCond .eq (.ofNat 89)), (121, .aload_n 0, 1, .aload 0), (122, .getfield 37, 3, .invokeinterface 0 16), (125, .iload_n 1, 1, .iload 1), (126, .iconst 1, 1, .iconst 1), (127, .isub, 1, .isub), (128, .iaload, 1, .iaload), (129, .bipush 29, 2, .iconst 29), (131, .if_icmp .eq 18, 3, .if_icmp .eq (.ofNat 89)), (134, .aload_n 0, 1, .aload 0), (135, .aload_n 0, 1, .aload 0), (136, .getfield 37, 3, .invokeinterface 0 16), (139, .iload_n 1, 1, .iload 1), (140, .iconst 1, 1, .iconst 1), (141, .isub, 1, .isub), (142, .iaload, 1, .iaload), (143, .invokevirtual 244, 3, .invokevirtual 13), (146, .ifCond .ne 8, 3, .ifCond .ne (.ofNat 91)), (149, .bipush 29, 2, .iconst 29), (151, .goto 11, 3, .goto 97), (154, .aload_n 0, 1, .aload 0), (155, .getfield 37, 3, .invokeinterface 0 16), (158, .iload_n 1, 1, .iload 1), (159, .iconst 1, 1, .iconst 1), (160, .isub, 1, .isub), (161, .iaload, 1, .iaload), (162, .iastore, 1, .iastore), (163, .aload_n 0, 1, .aload 0), (164, .getfield 74, 3, .invokeinterface 0 41), (167, .bipush 8, 2, .iconst 8), (169, .aload_n 0, 1, .aload 0), (170, .iload_n 1, 1, .iload 1), (171, .invokevirtual 241, 3, .invokevirtual 45), (174, .ifCond .eq 17, 3, .ifCond .eq (.ofNat 113)), (177, .aload_n 0, 1, .aload 0), (178, .iload_n 1, 1, .iload 1), (179, .iconst 1, 1, .iconst 1), (180, .isub, 1, .isub), (181, .invokevirtual 241, 3, .invokevirtual 45), (184, .ifCond .ne 7, 3, .ifCond .ne (.ofNat 113)), (187, .iconst 1, 1, .iconst 1), (188, .goto 4, 3, .goto 114), (191, .iconst 0, 1, .iconst 0), (192, .iastore, 1, .iastore), (193, .iconst 0, 1, .iconst 0), (194, .istore_n 2, 1, .istore 2), (195, .iload_n 2, 1, .iload 2), (196, .aload_n 0, 1, .aload 0), (197, .getfield 231, 3, .invokeinterface 0 27), (200, .if_icmp .ge 58, 3, .if_icmp .ge (.ofNat 150)), (203, .aload_n 0, 1, .aload 0), (204, .iload_n 2, 1, .iload 2), (205, .invokevirtual 259, 3, .invokevirtual 44), (208, .ifCond .ne 6, 3, .ifCond .ne (.ofNat 126)), (211, .goto 41, 3, .goto 148), (214, .aload_n 0, 1, .aload 0), (215, .aload_n 0, 1, .aload 0), (216, .getfield 55, 3, .invokeinterface 0 29), (219, .iload_n 2, 1, .iload 2), (220, .iaload, 1, .iaload), (221, .aload_n 0, 1, .aload 0), (222, .getfield 52, 3, .invokeinterface 0 28), (225, .iload_n 2, 1, .iload 2), (226, .iaload, 1, .iaload), (227, .invokevirtual 238, 3, .invokevirtual 43), (230, .istore_n 3, 1, .istore 3), (231, .iload_n 3, 1, .iload 3), (232, .ifCond .ge 7, 3, .ifCond .ge (.ofNat 141)), (235, .iconst 0, 1, .iconst 0), (236, .goto 15, 3, .goto 147), (239, .iload_n 3, 1, .iload 3), (240, .bipush 99, 2, .iconst 99), (242, .if_icmp .le 8, 3, .if_icmp .le (.ofNat 146)), (245, .bipush 99, 2, .iconst 99), (247, .goto 4, 3, .goto 147), (250, .iload_n 3, 1, .iload 3), (251, .ireturn, 1, .ireturn), (252, .iinc 2 1, 3, .iinc 2 1), (255, .goto (-60), 3, .jsr_w 117), (258, .iconst 1, 1, .iconst 1), (259, .ireturn, 1, .ireturn)]
def kB50 : x_R := [(0, .iconst 0, 1, .iconst 0), (1, .istore_n 1, 1, .istore 1), (2, .iload_n 1, 1, .iload 1), (3, .bipush 8, 2, .iconst 8), (5, .if_icmp .ge 16, 3, .if_icmp .ge (.ofNat 12)), (8, .aload_n 0, 1, .aload 0), (9, .getfield 80, 3, .invokeinterface 0 43), (12, .iload_n 1, 1, .iload 1), (13, .iconst 0, 1, .iconst 0), (14, .iastore, 1, .iastore), (15, .iinc 1 1, 3, .iinc 1 1), (18, .goto (-16), 3, .jsr_w 2), (21, .iconst 0, 1, .iconst 0), (22, .istore_n 1, 1, .istore 1), (23, .iload_n 1, 1, .iload 1), (24, .aload_n 0, 1, .aload 0), (25, .getfield 137, 3, .invokeinterface 0 15), (28, .if_icmp .ge 65, 3, .if_icmp .ge (.ofNat 53)), (31, .aload_n 0, 1, .aload 0), (32, .getfield 37, 3, .invokeinterface 0 16), (35, .iload_n 1, 1, .iload 1), (36, .iaload, 1, .iaload), (37, .bipush 29, 2, .iconst 29), (39, .if_icmp .eq 48, 3, .if_icmp .eq (.ofNat 51)), (42, .aload_n 0, 1, .aload 0), (43, .aload_n 0, 1, .aload 0), (44, .getfield 37, 3, .invokeinterface 0 16), (47, .iload_n 1, 1, .iload 1), (48, .iaload, 1, .iaload), (49, .invokevirtual 244, 3, .invokevirtual 13), (52, .ifCond .ne 6, 3, .ifCond .ne (.ofNat 32)), (55, .goto 32, 3, .goto 51), (58, .aload_n 0, 1, .aload 0), (59, .aload_n 0, 1, .aload 0), (60, .getfield 37, 3, .invokeinterface 0 16), (63, .iload_n 1, 1, .iload 1), (64, .iaload, 1, .iaload), (65, .invokevirtual 121, 3, .invokevirtual 12), (68, .istore_n 2, 1, .istore 2), (69, .aload_n 0, 1, .aload 0), (70, .getfield 80, 3, .invokeinterface 0 43), (73, .iload_n 2, 1, .iload 2), (74, .aload_n 0, 1, .aload 0), (75, .getfield 80, 3, .invokeinterface 0 43), (78, .iload_n 2, 1, .iload 2), (79, .iaload, 1, .iaload), (80, .aload_n 0, 1, .aload 0), (81, .iload_n 1, 1, .iload 1), (82, .invokevirtual 262, 3, .invokevirtual 49), (85, .iadd, 1, .iadd), (86, .iastore, 1, .iastore), (87, .iinc 1 1, 3, .iinc 1 1), (90, .goto (-67), 3, .jsr_w 14), (93, .return_, 1, .return_)]
def kB51 : x_R := [(0, .iconst 0, 1, .iconst 0), (1, .istore_n 2, 1, .istore 2), (2, .aload_n 0, 1, .aload 0), (3, .iload_n 2, 1, .iload 2), (4, .invokevirtual 121, 3, .invokevirtual 12), (7, .iload_n 1, 1, .iload 1), (8, .if_icmp .eq 10, 3, .if_icmp .eq (.ofNat 12)), (11, .iload_n 2, 1, .iload 2), (12, .iconst 1, 1, .iconst 1), (13, .iadd, 1, .iadd), (14, .istore_n 2, 1, .istore 2), (15, .goto (-13), 3, .jsr_w 2), (18, .iload_n 2, 1, .iload 2), (19, .ireturn, 1, .ireturn)]
def kB52 : x_R := [(0, .aload_n 0, 1, .aload 0), (1, .getfield 7, 3, .invokeinterface 0 1), (4, .bipush 37, 2, .iconst 37), (6, .iaload, 1, .iaload), (7, .istore 4, 2, .istore 4), (9, .iload 4, 2, .iload 4), (11, .sipush 200, 3, .iconst 200), (14, .if_icmp .ne 4, 3, .if_icmp .ne (.ofNat 9)), (17, .return_, 1, .return_), (18, .aload_n 0, 1, .aload 0), (19, .getfield 83, 3, .invokeinterface 0 44), (22, .iconst 5, 1, .iconst 5), (23, .iload 4, 2, .iload 4), (25, .imul, 1, .imul), (26, .iload_n 1, 1, .iload 1), (27, .iastore, 1, .iastore), (28, .aload_n 0, 1, .aload 0), (29, .getfield 83, 3, .invokeinterface 0 44), (32, .iconst 5, 1, .iconst 5), (33, .iload 4, 2, .iload 4), (35, .imul, 1, .imul), (36, .iconst 1, 1, .iconst 1), (37, .iadd, 1, .iadd), (38, .aload_n 0, 1, .aload 0), (39, .getfield 256, 3, .invokeinterface 0 12), (42, .iastore, 1, .iastore), (43, .aload_n 0, 1, .aload 0), (44, .getfield 83, 3, .invokeinterface 0 44), (47, .iconst 5, 1, .iconst 5), (48, .iload 4, 2, .iload 4), (50, .imul, 1, .imul), (51, .iconst 2, 1, .iconst 2), (52, .iadd, 1, .iadd), (53, .iload_n 2, 1, .iload 2), (54, .iastore, 1, .iastore), (55, .aload_n 0, 1, .aload 0), (56, .getfield 83, 3, .invokeinterface 0 44), (59, .iconst 5, 1, .iconst 5), (60, .iload 4, 2, .iload 4), (62, .imul, 1, .imul), (63, .iconst 3, 1, .iconst 3), (64, .iadd, 1, .iadd), (65, .aload_n 0, 1, .aload 0), (66, .iload_n 1, 1, .iload 1), (67, .invokevirtual 121, 3, .invokevirtual 12), (70, .iastore, 1, .iastore), (71, .aload_n 0, 1, .aload 0), (72, .getfield 83, 3, .invokeinterface 0 44), (75, .iconst 5, 1, .iconst 5), (76, .iload 4, 2, .iload 4), (78, .imul, 1, .imul), (79, .iconst 4, 1, .iconst 4), (80, .iadd, 1, .iadd), (81, .iload_n 3, 1, .iload 3), (82, .iastore, 1, .iastore), (83, .aload_n 0, 1, .aload 0), (84, .getfield 7, 3, .invokeinterface 0 1), (87, .bipush 37, 2, .iconst 37), (89, .iload 4, 2, .iload 4), (91, .iconst 1, 1, .iconst 1), (92, .iadd, 1, .iadd), (93, .iastore, 1, .iastore), (94, .return_, 1, .return_)]
end
section
def kB53 : x_R := [(0, .aload_n 0, 1, .aload 0), (1, .aload_n 0, 1, .aload 0), (2, .getfield 37, 3, .invokeinterface 0 16), (5, .iload_n 1, 1, .iload 1), (6, .iaload, 1, .iaload), (7, .invokevirtual 244, 3, .invokevirtual 13), (10, .ifCond .ne 21, 3, .ifCond .ne (.ofNat 19)), (13, .aload_n 0, 1, .aload 0), (14, .getfield 7, 3, .invokeinterface 0 1), (17, .bipush 38, 2, .iconst 38), (19, .aload_n 0, 1, .aload 0), (20, .getfield 7, 3, .invokeinterface 0 1), (23, .bipush 38, 2, .iconst 38), (25, .iaload, 1, .iaload), (26, .iconst 1, 1, .iconst 1), (27, .iadd, 1, .iadd), (28, .iastore, 1, .iastore), (29, .iconst 0, 1, .iconst 0), (30, .ireturn, 1, .areturn), (31, .aload_n 0, 1, .aload 0), (32, .aload_n 0, 1, .aload 0), (33, .getfield 37, 3, .invokeinterface 0 16), (36, .iload_n 1, 1, .iload 1), (37, .iaload, 1, .iaload), (38, .invokevirtual 121, 3, .invokevirtual 12), (41, .istore_n 2, 1, .istore 2), (42, .aload_n 0, 1, .aload 0), (43, .getfield 7, 3, .invokeinterface 0 1), (46, .iconst 0, 1, .iconst 0), (47, .iload_n 2, 1, .iload 2), (48, .iadd, 1, .iadd), (49, .iaload, 1, .iaload), (50, .istore_n 3, 1, .istore 3), (51, .iload_n 3, 1, .iload 3), (52, .aload_n 0, 1, .aload 0), (53, .iload_n 1, 1, .iload 1), (54, .invokevirtual 262, 3, .invokevirtual 49), (57, .iadd, 1, .iadd), (58, .istore 4, 2, .istore 4), (60, .aload_n 0, 1, .aload 0), (61, .getfield 7, 3, .invokeinterface 0 1), (64, .iconst 0, 1, .iconst 0), (65, .iload_n 2, 1, .iload 2), (66, .iadd, 1, .iadd), (67, .iload 4, 2, .iload 4), (69, .ldc 103, 2, .iconst 99999), (71, .if_icmp .le 8, 3, .if_icmp .le (.ofNat 49)), (74, .ldc 103, 2, .iconst 99999), (76, .goto 5, 3, .goto 50), (79, .iload 4, 2, .iload 4), (81, .iastore, 1, .iastore), (82, .aload_n 0, 1, .aload 0), (83, .getfield 7, 3, .invokeinterface 0 1), (86, .bipush 8, 2, .iconst 8), (88, .aload_n 0, 1, .aload 0), (89, .getfield 37, 3, .invokeinterface 0 16), (92, .iload_n 1, 1, .iload 1), (93, .iaload, 1, .iaload), (94, .iadd, 1, .iadd), (95, .aload_n 0, 1, .aload 0), (96, .getfield 7, 3, .invokeinterface 0 1), (99, .bipush 8, 2, .iconst 8), (101, .aload_n 0, 1, .aload 0), (102, .getfield 37, 3, .invokeinterface 0 16), (105, .iload_n 1, 1, .iload 1), (106, .iaload, 1, .iaload), (107, .iadd, 1, .iadd), (108, .iaload, 1, .iaload), (109, .iconst 1, 1, .iconst 1), (110, .iadd, 1, .iadd), (111, .iastore, 1, .iastore), (112, .aload_n 0, 1, .aload 0), (113, .aload_n 0, 1, .aload 0), (114, .getfield 37, 3, .invokeinterface 0 16), (117, .iload_n 1, 1, .iload 1), (118, .iaload, 1, .iaload), (119, .iload_n 1, 1, .iload 1), (120, .aload_n 0, 1, .aload 0), (121, .getfield 7, 3, .invokeinterface 0 1), (124, .iconst 0, 1, .iconst 0), (125, .iload_n 2, 1, .iload 2), (126, .iadd, 1, .iadd), (127, .iaload, 1, .iaload), (128, .iload_n 3, 1, .iload 3), (129, .isub, 1, .isub), (130, .invokevirtual 265, 3, .invokevirtual 52), (133, .iconst 1, 1, .iconst 1), (134, .ireturn, 1, .areturn)]
def kB54 : x_R := [(0, .aload_n 0, 1, .aload 0), (1, .iconst 0, 1, .iconst 0), (2, .putfield 92, 3, .multianewarray 0 0), (5, .aload_n 0, 1, .aload 0), (6, .invokevirtual 269, 3, .invokevirtual 2), (9, .aload_n 0, 1, .aload 0), (10, .invokevirtual 272, 3, .invokevirtual 18), (13, .iconst (-1), 1, .iconst (-1)), (14, .istore_n 1, 1, .istore 1), (15, .iconst 0, 1, .iconst 0), (16, .istore_n 2, 1, .istore 2), (17, .iconst 0, 1, .iconst 0), (18, .istore_n 3, 1, .istore 3), (19, .iload_n 3, 1, .iload 3), (20, .aload_n 0, 1, .aload 0), (21, .getfield 131, 3, .invokeinterface 0 13), (24, .if_icmp .ge 95, 3, .if_icmp .ge (.ofNat 68)), (27, .aload_n 0, 1, .aload 0), (28, .getfield 34, 3, .invokeinterface 0 14), (31, .iload_n 3, 1, .iload 3), (32, .iaload, 1, .iaload), (33, .bipush 29, 2, .iconst 29), (35, .if_icmp .ne 6, 3, .if_icmp .ne (.ofNat 24)), (38, .goto 75, 3, .goto 66), (41, .aload_n 0, 1, .aload 0), (42, .getfield 118, 3, .invokeinterface 0 11), (45, .ifCond .le 37, 3, .ifCond .le (.ofNat 45)), (48, .aload_n 0, 1, .aload 0), (49, .sipush 1000, 3, .iconst 1000), (52, .invokevirtual 275, 3, .invokevirtual 5), (55, .aload_n 0, 1, .aload 0), (56, .getfield 118, 3, .invokeinterface 0 11), (59, .if_icmp .ge 23, 3, .if_icmp .ge (.ofNat 45)), (62, .iload_n 1, 1, .iload 1), (63, .iconst (-1), 1, .iconst (-1)), (64, .if_icmp .eq 18, 3, .if_icmp .eq (.ofNat 45)), (67, .aload_n 0, 1, .aload 0), (68, .getfield 37, 3, .invokeinterface 0 16), (71, .iload_n 3, 1, .iload 3), (72, .aload_n 0, 1, .aload 0), (73, .aload_n 0, 1, .aload 0), (74, .iload_n 1, 1, .iload 1), (75, .invokevirtual 121, 3, .invokevirtual 12), (78, .invokevirtual 278, 3, .invokevirtual 51), (81, .iastore, 1, .iastore), (82, .aload_n 0, 1, .aload 0), (83, .iload_n 3, 1, .iload 3), (84, .invokevirtual 281, 3, .invokevirtual 53), (87, .ifCond .eq 14, 3, .ifCond .eq (.ofNat 58)), (90, .aload_n 0, 1, .aload 0), (91, .getfield 37, 3, .invokeinterface 0 16), (94, .iload_n 3, 1, .iload 3), (95, .iaload, 1, .iaload), (96, .istore_n 1, 1, .istore 1), (97, .iload_n 2, 1, .iload 2), (98, .iconst 1, 1, .iconst 1), (99, .iadd, 1, .iadd), (100, .istore_n 2, 1, .istore 2), (101, .aload_n 0, 1, .aload 0), (102, .getfield 37, 3, .invokeinterface 0 16), (105, .iload_n 3, 1, .iload 3), (106, .aload_n 0, 1, .aload 0), (107, .getfield 34, 3, .invokeinterface 0 14), (110, .iload_n 3, 1, .iload 3), (111, .iaload, 1, .iaload), (112, .iastore, 1, .iastore), (113, .iinc 3 1, 3, .iinc 3 1), (116, .goto (-97), 3, .jsr_w 13), (119, .iload_n 2, 1, .iload 2), (120, .ireturn, 1, .ireturn)]
def kB55 : x_R := [(0, .aload_n 0, 1, .aload 0), (1, .iconst 0, 1, .iconst 0), (2, .putfield 92, 3, .multianewarray 0 0), (5, .aload_n 0, 1, .aload 0), (6, .getfield 256, 3, .invokeinterface 0 12), (9, .sipush 9999, 3, .iconst 9999), (12, .if_icmp .ne 5, 3, .if_icmp .ne (.ofNat 9)), (15, .iconst (-1), 1, .iconst (-1)), (16, .ireturn, 1, .ireturn), (17, .iconst 0, 1, .iconst 0), (18, .istore_n 1, 1, .istore 1), (19, .iconst 0, 1, .iconst 0), (20, .istore_n 2, 1, .istore 2), (21, .iload_n 2, 1, .iload 2), (22, .aload_n 0, 1, .aload 0), (23, .getfield 100, 3, .invokeinterface 0 4), (26, .if_icmp .ge 70, 3, .if_icmp .ge (.ofNat 62)), (29, .aload_n 0, 1, .aload 0), (30, .getfield 7, 3, .invokeinterface 0 1), (33, .iconst 0, 1, .iconst 0), (34, .iload_n 2, 1, .iload 2), (35, .iadd, 1, .iadd), (36, .iaload, 1, .iaload), (37, .aload_n 0, 1, .aload 0), (38, .getfield 16, 3, .invokeinterface 0 5), (41, .iload_n 2, 1, .iload 2), (42, .iaload, 1, .iaload), (43, .if_icmp .lt 29, 3, .if_icmp .lt (.ofNat 46)), (46, .aload_n 0, 1, .aload 0), (47, .getfield 7, 3, .invokeinterface 0 1), (50, .iconst 0, 1, .iconst 0), (51, .iload_n 2, 1, .iload 2), (52, .iadd, 1, .iadd), (53, .aload_n 0, 1, .aload 0), (54, .getfield 7, 3, .invokeinterface 0 1), (57, .iconst 0, 1, .iconst 0), (58, .iload_n 2, 1, .iload 2), (59, .iadd, 1, .iadd), (60, .iaload, 1, .iaload), (61, .aload_n 0, 1, .aload 0), (62, .getfield 16, 3, .invokeinterface 0 5), (65, .iload_n 2, 1, .iload 2), (66, .iaload, 1, .iaload), (67, .isub, 1, .isub), (68, .iastore, 1, .iastore), (69, .goto 21, 3, .goto 60), (72, .aload_n 0, 1, .aload 0), (73, .getfield 22, 3, .invokeinterface 0 7), (76, .iload_n 2, 1, .iload 2), (77, .aload_n 0, 1, .aload 0), (78, .getfield 22, 3, .invokeinterface 0 7), (81, .iload_n 2, 1, .iload 2), (82, .iaload, 1, .iaload), (83, .iconst 1, 1, .iconst 1), (84, .iadd, 1, .iadd), (85, .iastore, 1, .iastore), (86, .iload_n 1, 1, .iload 1), (87, .iconst 1, 1, .iconst 1), (88, .iadd, 1, .iadd), (89, .istore_n 1, 1, .istore 1), (90, .iinc 2 1, 3, .iinc 2 1), (93, .goto (-72), 3, .jsr_w 13), (96, .aload_n 0, 1, .aload 0), (97, .aload_n 0, 1, .aload 0), (98, .getfield 256, 3, .invokeinterface 0 12), (101, .iconst 1, 1, .iconst 1), (102, .iadd, 1, .iadd), (103, .putfield 256, 3, .multianewarray 0 12), (106, .aload_n 0, 1, .aload 0), (107, .iconst 0, 1, .iconst 0), (108, .putfield 95, 3, .multianewarray 0 3), (111, .iload_n 1, 1, .iload 1), (112, .ireturn, 1, .ireturn)]
def kB56 : x_R := [(0, .iconst 0, 1, .iconst 0), (1, .istore_n 2, 1, .istore 2), (2, .iconst 0, 1, .iconst 0), (3, .istore_n 3, 1, .istore 3), (4, .iload_n 3, 1, .iload 3), (5, .bipush 29, 2, .iconst 29), (7, .if_icmp .ge 22, 3, .if_icmp .ge (.ofNat 18)), (10, .aload_n 0, 1, .aload 0), (11, .iload_n 3, 1, .iload 3), (12, .invokevirtual 121, 3, .invokevirtual 12), (15, .iload_n 1, 1, .iload 1), (16, .if_icmp .ne 7, 3, .if_icmp .ne (.ofNat 16)), (19, .iload_n 2, 1, .iload 2), (20, .iconst 1, 1, .iconst 1), (21, .iadd, 1, .iadd), (22, .istore_n 2, 1, .istore 2), (23, .iinc 3 1, 3, .iinc 3 1), (26, .goto (-22), 3, .jsr_w 4), (29, .iload_n 2, 1, .iload 2), (30, .ireturn, 1, .ireturn)]
def kB57 : x_R := [(0, .aload_n 0, 1, .aload 0), (1, .invokevirtual 272, 3, .invokevirtual 18), (4, .aload_n 0, 1, .aload 0), (5, .invokevirtual 284, 3, .invokevirtual 50), (8, .aload_n 0, 1, .aload 0), (9, .getfield 80, 3, .invokeinterface 0 43), (12, .iload_n 1, 1, .iload 1), (13, .iaload, 1, .iaload), (14, .ireturn, 1, .ireturn)]
def kB58 : x_R := [(0, .aload_n 0, 1, .aload 0), (1, .iconst 0, 1, .iconst 0), (2, .putfield 92, 3, .multianewarray 0 0), (5, .aload_n 0, 1, .aload 0), (6, .iload_n 1, 1, .iload 1), (7, .invokevirtual 112, 3, .invokevirtual 6), (10, .ifCond .ne 6, 3, .ifCond .ne (.ofNat 9)), (13, .bipush (-2), 2, .iconst (-2)), (15, .ireturn, 1, .ireturn), (16, .iload_n 2, 1, .iload 2), (17, .ifCond .ne 12, 3, .ifCond .ne (.ofNat 18)), (20, .aload_n 0, 1, .aload 0), (21, .getfield 7, 3, .invokeinterface 0 1), (24, .iconst 0, 1, .iconst 0), (25, .iload_n 1, 1, .iload 1), (26, .iadd, 1, .iadd), (27, .iaload, 1, .iaload), (28, .ireturn, 1, .ireturn), (29, .iload_n 2, 1, .iload 2), (30, .iconst 1, 1, .iconst 1), (31, .if_icmp .ne 10, 3, .if_icmp .ne (.ofNat 26)), (34, .aload_n 0, 1, .aload 0), (35, .getfield 16, 3, .invokeinterface 0 5), (38, .iload_n 1, 1, .iload 1), (39, .iaload, 1, .iaload), (40, .ireturn, 1, .ireturn), (41, .iload_n 2, 1, .iload 2), (42, .iconst 2, 1, .iconst 2), (43, .if_icmp .ne 10, 3, .if_icmp .ne (.ofNat 34)), (46, .aload_n 0, 1, .aload 0), (47, .getfield 19, 3, .invokeinterface 0 6), (50, .iload_n 1, 1, .iload 1), (51, .iaload, 1, .iaload), (52, .ireturn, 1, .ireturn), (53, .iload_n 2, 1, .iload 2), (54, .iconst 3, 1, .iconst 3), (55, .if_icmp .ne 10, 3, .if_icmp .ne (.ofNat 42)), (58, .aload_n 0, 1, .aload 0), (59, .getfield 22, 3, .invokeinterface 0 7), (62, .iload_n 1, 1, .iload 1), (63, .iaload, 1, .iaload), (64, .ireturn, 1, .ireturn), (65, .iload_n 2, 1, .iload 2), (66, .iconst 4, 1, .iconst 4), (67, .if_icmp .ne 9, 3, .if_icmp .ne (.ofNat 49)), (70, .aload_n 0, 1, .aload 0), (71, .iload_n 1, 1, .iload 1), (72, .invokevirtual 287, 3, .invokevirtual 56), (75, .ireturn, 1, .ireturn), (76, .iload_n 2, 1, .iload 2), (77, .iconst 5, 1, .iconst 5), (78, .if_icmp .ne 14, 3, .if_icmp .ne (.ofNat 59)), (81, .aload_n 0, 1, .aload 0), (82, .getfield 25, 3, .invokeinterface 0 8), (85, .iload_n 1, 1, .iload 1), (86, .iaload, 1, .iaload), (87, .iconst 1, 1, .iconst 1), (88, .isub, 1, .isub), (89, .goto 19, 3, .goto 67), (92, .iload_n 2, 1, .iload 2), (93, .bipush 6, 2, .iconst 6), (95, .if_icmp .ne 11, 3, .if_icmp .ne (.ofNat 66)), (98, .aload_n 0, 1, .aload 0), (99, .iload_n 1, 1, .iload 1), (100, .invokevirtual 290, 3, .invokevirtual 57), (103, .goto 5, 3, .goto 67), (106, .bipush (-2), 2, .iconst (-2)), (108, .ireturn, 1, .ireturn)]
def kB59 : x_R := [(0, .aload_n 0, 1, .aload 0), (1, .iconst 0, 1, .iconst 0), (2, .putfield 92, 3, .multianewarray 0 0), (5, .aload_n 0, 1, .aload 0), (6, .iload_n 1, 1, .iload 1), (7, .invokevirtual 108, 3, .invokevirtual 7), (10, .ifCond .eq 13, 3, .ifCond .eq (.ofNat 13)), (13, .aload_n 0, 1, .aload 0), (14, .iload_n 2, 1, .iload 2), (15, .iconst 0, 1, .iconst 0), (16, .iconst 2, 1, .iconst 2), (17, .invokevirtual 104, 3, .invokevirtual 1), (20, .ifCond .ne 6, 3, .ifCond .ne (.ofNat 15)), (23, .bipush (-2), 2, .iconst (-2)), (25, .ireturn, 1, .ireturn), (26, .iload_n 2, 1, .iload 2), (27, .ifCond .ne 11, 3, .ifCond .ne (.ofNat 21)), (30, .aload_n 0, 1, .aload 0), (31, .iload_n 1, 1, .iload 1), (32, .invokevirtual 121, 3, .invokevirtual 12), (35, .goto 26, 3, .goto 35), (38, .iload_n 2, 1, .iload 2), (39, .iconst 1, 1, .iconst 1), (40, .if_icmp .ne 12, 3, .if_icmp .ne (.ofNat 29)), (43, .aload_n 0, 1, .aload 0), (44, .getfield 31, 3, .invokeinterface 0 10), (47, .iload_n 1, 1, .iload 1), (48, .iaload, 1, .iaload), (49, .goto 12, 3, .goto 35), (52, .aload_n 0, 1, .aload 0), (53, .getfield 7, 3, .invokeinterface 0 1), (56, .bipush 8, 2, .iconst 8), (58, .iload_n 1, 1, .iload 1), (59, .iadd, 1, .iadd), (60, .iaload, 1, .iaload), (61, .ireturn, 1, .ireturn)]
def kB60 : x_R := [(0, .aload_n 0, 1, .aload 0), (1, .iconst 0, 1, .iconst 0), (2, .putfield 92, 3, .multianewarray 0 0), (5, .aload_n 0, 1, .aload 0), (6, .iload_n 1, 1, .iload 1), (7, .iconst 0, 1, .iconst 0), (8, .aload_n 0, 1, .aload 0), (9, .getfield 131, 3, .invokeinterface 0 13), (12, .iconst 1, 1, .iconst 1), (13, .isub, 1, .isub), (14, .invokevirtual 104, 3, .invokevirtual 1), (17, .ifCond .eq 12, 3, .ifCond .eq (.ofNat 17)), (20, .aload_n 0, 1, .aload 0), (21, .getfield 34, 3, .invokeinterface 0 14), (24, .iload_n 1, 1, .iload 1), (25, .iaload, 1, .iaload), (26, .goto 4, 3, .goto 18), (29, .iconst (-1), 1, .iconst (-1)), (30, .ireturn, 1, .ireturn)]
def kB61 : x_R := [(0, .aload_n 0, 1, .aload 0), (1, .iconst 0, 1, .iconst 0), (2, .putfield 92, 3, .multianewarray 0 0), (5, .aload_n 0, 1, .aload 0), (6, .iload_n 1, 1, .iload 1), (7, .iconst 0, 1, .iconst 0), (8, .aload_n 0, 1, .aload 0), (9, .getfield 131, 3, .invokeinterface 0 13), (12, .iconst 1, 1, .iconst 1), (13, .isub, 1, .isub), (14, .invokevirtual 104, 3, .invokevirtual 1), (17, .ifCond .eq 14, 3, .ifCond .eq (.ofNat 18)), (20, .aload_n 0, 1, .aload 0), (21, .getfield 34, 3, .invokeinterface 0 14), (24, .iload_n 1, 1, .iload 1), (25, .iaload, 1, .iaload), (26, .bipush 29, 2, .iconst 29), (28, .if_icmp .ne 5, 3, .if_icmp .ne (.ofNat 20)), (31, .iconst (-1), 1, .iconst (-1)), (32, .ireturn, 1, .ireturn), (33, .aload_n 0, 1, .aload 0), (34, .invokevirtual 272, 3, .invokevirtual 18), (37, .aload_n 0, 1, .aload 0), (38, .iload_n 1, 1, .iload 1), (39, .invokevirtual 262, 3, .invokevirtual 49), (42, .ireturn, 1, .ireturn)]
def kB62 : x_R := [(0, .aload_n 0, 1, .aload 0), (1, .iconst 0, 1, .iconst 0), (2, .putfield 92, 3, .multianewarray 0 0), (5, .aload_n 0, 1, .aload 0), (6, .iload_n 1, 1, .iload 1), (7, .iconst 0, 1, .iconst 0), (8, .aload_n 0, 1, .aload 0), (9, .getfield 7, 3, .invokeinterface 0 1), (12, .bipush 37, 2, .iconst 37), (14, .iaload, 1, .iaload), (15, .iconst 1, 1, .iconst 1), (16, .isub, 1, .isub), (17, .invokevirtual 104, 3, .invokevirtual 1), (20, .ifCond .eq 26, 3, .ifCond .eq (.ofNat 29)), (23, .aload_n 0, 1, .aload 0), (24, .iload_n 2, 1, .iload 2), (25, .iconst 0, 1, .iconst 0), (26, .iconst 4, 1, .iconst 4), (27, .invokevirtual 104, 3, .invokevirtual 1), (30, .ifCond .eq 16, 3, .ifCond .eq (.ofNat 29)), (33, .aload_n 0, 1, .aload 0), (34, .getfield 83, 3, .invokeinterface 0 44), (37, .iconst 5, 1, .iconst 5), (38, .iload_n 1, 1, .iload 1), (39, .imul, 1, .imul), (40, .iload_n 2, 1, .iload 2), (41, .iadd, 1, .iadd), (42, .iaload, 1, .iaload), (43, .goto 4, 3, .goto 30), (46, .iconst (-1), 1, .iconst (-1)), (47, .ireturn, 1, .ireturn)]
def kB63 : x_R := [(0, .aload_n 0, 1, .aload 0), (1, .getfield 19, 3, .invokeinterface 0 6), (4, .iload_n 1, 1, .iload 1), (5, .iaload, 1, .iaload), (6, .iconst 1, 1, .iconst 1), (7, .if_icmp .ne 5, 3, .if_icmp .ne (.ofNat 8)), (10, .iconst 0, 1, .iconst 0), (11, .ireturn, 1, .areturn), (12, .iconst 0, 1, .iconst 0), (13, .istore_n 2, 1, .istore 2), (14, .iload_n 2, 1, .iload 2), (15, .bipush 29, 2, .iconst 29), (17, .if_icmp .ge 29, 3, .if_icmp .ge (.ofNat 27)), (20, .aload_n 0, 1, .aload 0), (21, .iload_n 2, 1, .iload 2), (22, .invokevirtual 121, 3, .invokevirtual 12), (25, .iload_n 1, 1, .iload 1), (26, .if_icmp .ne 14, 3, .if_icmp .ne (.ofNat 25)), (29, .aload_n 0, 1, .aload 0), (30, .getfield 31, 3, .invokeinterface 0 10), (33, .iload_n 2, 1, .iload 2), (34, .iaload, 1, .iaload), (35, .ifCond .ne 5, 3, .ifCond .ne (.ofNat 25)), (38, .iconst 1, 1, .iconst 1), (39, .ireturn, 1, .areturn), (40, .iinc 2 1, 3, .iinc 2 1), (43, .goto (-29), 3, .jsr_w 10), (46, .iconst 0, 1, .iconst 0), (47, .ireturn, 1, .areturn)]
def kB64 : x_R := [(0, .aload_n 0, 1, .aload 0), (1, .invokevirtual 284, 3, .invokevirtual 50), (4, .iconst 0, 1, .iconst 0), (5, .istore_n 1, 1, .istore 1), (6, .iload_n 1, 1, .iload 1), (7, .aload_n 0, 1, .aload 0), (8, .getfield 100, 3, .invokeinterface 0 4), (11, .if_icmp .ge 34, 3, .if_icmp .ge (.ofNat 25)), (14, .aload_n 0, 1, .aload 0), (15, .getfield 80, 3, .invokeinterface 0 43), (18, .iload_n 1, 1, .iload 1), (19, .iaload, 1, .iaload), (20, .aload_n 0, 1, .aload 0), (21, .getfield 16, 3, .invokeinterface 0 5), (24, .iload_n 1, 1, .iload 1), (25, .iaload, 1, .iaload), (26, .if_icmp .ge 13, 3, .if_icmp .ge (.ofNat 23)), (29, .aload_n 0, 1, .aload 0), (30, .iload_n 1, 1, .iload 1), (31, .invokevirtual 293, 3, .invokevirtual 63), (34, .ifCond .eq 5, 3, .ifCond .eq (.ofNat 23)), (37, .iconst 0, 1, .iconst 0), (38, .ireturn, 1, .areturn), (39, .iinc 1 1, 3, .iinc 1 1), (42, .goto (-36), 3, .jsr_w 4), (45, .iconst 1, 1, .iconst 1), (46, .ireturn, 1, .areturn)]
def kB65 : x_R := [(0, .iconst 0, 1, .iconst 0), (1, .istore_n 2, 1, .istore 2), (2, .iload_n 2, 1, .iload 2), (3, .bipush 29, 2, .iconst 29), (5, .if_icmp .ge 62, 3, .if_icmp .ge (.ofNat 40)), (8, .aload_n 0, 1, .aload 0), (9, .getfield 37, 3, .invokeinterface 0 16), (12, .iload_n 1, 1, .iload 1), (13, .iload_n 2, 1, .iload 2), (14, .iastore, 1, .iastore), (15, .iload_n 2, 1, .iload 2), (16, .aload_n 0, 1, .aload 0), (17, .getfield 34, 3, .invokeinterface 0 14), (20, .iload_n 1, 1, .iload 1), (21, .iaload, 1, .iaload), (22, .if_icmp .eq 14, 3, .if_icmp .eq (.ofNat 21)), (25, .aload_n 0, 1, .aload 0), (26, .invokevirtual 296, 3, .invokevirtual 64), (29, .ifCond .eq 7, 3, .ifCond .eq (.ofNat 21)), (32, .iconst 1, 1, .iconst 1), (33, .goto 4, 3, .goto 22), (36, .iconst 0, 1, .iconst 0), (37, .istore_n 3, 1, .istore 3), (38, .aload_n 0, 1, .aload 0), (39, .getfield 37, 3, .invokeinterface 0 16), (42, .iload_n 1, 1, .iload 1), (43, .aload_n 0, 1, .aload 0), (44, .getfield 34, 3, .invokeinterface 0 14), (47, .iload_n 1, 1, .iload 1), (48, .iaload, 1, .iaload), (49, .iastore, 1, .iastore), (50, .aload_n 0, 1, .aload 0), (51, .iload_n 2, 1, .iload 2), (52, .putfield 300, 3, .multianewarray 0 45), (55, .iload_n 3, 1, .iload 3), (56, .ifCond .eq 5, 3, .ifCond .eq (.ofNat 38)), (59, .iconst 1, 1, .iconst 1), (60, .ireturn, 1, .areturn), (61, .iinc 2 1, 3, .iinc 2 1), (64, .goto (-62), 3, .jsr_w 2), (67, .iconst 0, 1, .iconst 0), (68, .ireturn, 1, .areturn)]
def kB66 : x_R := [(0, .iconst 0, 1, .iconst 0), (1, .istore_n 3, 1, .istore 3), (2, .iload_n 3, 1, .iload 3), (3, .bipush 29, 2, .iconst 29), (5, .if_icmp .ge 115, 3, .if_icmp .ge (.ofNat 67)), (8, .iload_n 3, 1, .iload 3), (9, .aload_n 0, 1, .aload 0), (10, .getfield 34, 3, .invokeinterface 0 14), (13, .iload_n 1, 1, .iload 1), (14, .iaload, 1, .iaload), (15, .if_icmp .ne 6, 3, .if_icmp .ne (.ofNat 12)), (18, .goto 96, 3, .goto 65), (21, .iconst 0, 1, .iconst 0), (22, .istore 4, 2, .istore 4), (24, .iload 4, 2, .iload 4), (26, .bipush 29, 2, .iconst 29), (28, .if_icmp .ge 86, 3, .if_icmp .ge (.ofNat 65)), (31, .iload 4, 2, .iload 4), (33, .aload_n 0, 1, .aload 0), (34, .getfield 34, 3, .invokeinterface 0 14), (37, .iload_n 2, 1, .iload 2), (38, .iaload, 1, .iaload), (39, .if_icmp .ne 6, 3, .if_icmp .ne (.ofNat 24)), (42, .goto 66, 3, .goto 63), (45, .aload_n 0, 1, .aload 0), (46, .getfield 37, 3, .invokeinterface 0 16), (49, .iload_n 1, 1, .iload 1), (50, .iload_n 3, 1, .iload 3), (51, .iastore, 1, .iastore), (52, .aload_n 0, 1, .aload 0), (53, .getfield 37, 3, .invokeinterface 0 16), (56, .iload_n 2, 1, .iload 2), (57, .iload 4, 2, .iload 4), (59, .iastore, 1, .iastore), (60, .aload_n 0, 1, .aload 0), (61, .invokevirtual 296, 3, .invokevirtual 64), (64, .istore 5, 2, .istore 5), (66, .aload_n 0, 1, .aload 0), (67, .getfield 37, 3, .invokeinterface 0 16), (70, .iload_n 1, 1, .iload 1), (71, .aload_n 0, 1, .aload 0), (72, .getfield 34, 3, .invokeinterface 0 14), (75, .iload_n 1, 1, .iload 1), (76, .iaload, 1, .iaload), (77, .iastore, 1, .iastore), (78, .aload_n 0, 1, .aload 0), (79, .getfield 37, 3, .invokeinterface 0 16), (82, .iload_n 2, 1, .iload 2), (83, .aload_n 0, 1, .aload 0), (84, .getfield 34, 3, .invokeinterface 0 14), (87, .iload_n 2, 1, .iload 2), (88, .iaload, 1, .iaload), (89, .iastore, 1, .iastore), (90, .aload_n 0, 1, .aload 0), (91, .iload_n 3, 1, .iload 3), (92, .putfield 300, 3, .multianewarray 0 45), (95, .aload_n 0, 1, .aload 0), (96, .iload 4, 2, .iload 4), (98, .putfield 303, 3, .multianewarray 0 46), (101, .iload 5, 2, .iload 5), (103, .ifCond .eq 5, 3, .ifCond .eq (.ofNat 63)), (106, .iconst 1, 1, .iconst 1), (107, .ireturn, 1, .areturn), (108, .iinc 4 1, 3, .iinc 4 1), (111, .goto (-87), 3, .jsr_w 14), (114, .iinc 3 1, 3, .iinc 3 1), (117, .goto (-115), 3, .jsr_w 2), (120, .iconst 0, 1, .iconst 0), (121, .ireturn, 1, .areturn)]
def kB67 : x_R := [(0, .aload_n 0, 1, .aload 0), (1, .iconst 0, 1, .iconst 0), (2, .putfield 92, 3, .multianewarray 0 0), (5, .aload_n 0, 1, .aload 0), (6, .getfield 131, 3, .invokeinterface 0 13), (9, .bipush 12, 2, .iconst 12), (11, .if_icmp .gt 13, 3, .if_icmp .gt (.ofNat 13)), (14, .aload_n 0, 1, .aload 0), (15, .iload_n 1, 1, .iload 1), (16, .iconst 0, 1, .iconst 0), (17, .iconst 4, 1, .iconst 4), (18, .invokevirtual 104, 3, .invokevirtual 1), (21, .ifCond .ne 5, 3, .ifCond .ne (.ofNat 15)), (24, .iconst (-1), 1, .iconst (-1)), (25, .ireturn, 1, .ireturn), (26, .aload_n 0, 1, .aload 0), (27, .invokevirtual 272, 3, .invokevirtual 18), (30, .aload_n 0, 1, .aload 0), (31, .invokevirtual 296, 3, .invokevirtual 64), (34, .ifCond .eq 13, 3, .ifCond .eq (.ofNat 26)), (37, .iload_n 1, 1, .iload 1), (38, .ifCond .ne 7, 3, .ifCond .ne (.ofNat 24)), (41, .iconst 0, 1, .iconst 0), (42, .goto 4, 3, .goto 25), (45, .iconst (-1), 1, .iconst (-1)), (46, .ireturn, 1, .ireturn), (47, .iconst 0, 1, .iconst 0), (48, .istore_n 2, 1, .istore 2), (49, .iload_n 2, 1, .iload 2), (50, .aload_n 0, 1, .aload 0), (51, .getfield 131, 3, .invokeinterface 0 13), (54, .if_icmp .ge 59, 3, .if_icmp .ge (.ofNat 61)), (57, .aload_n 0, 1, .aload 0), (58, .getfield 34, 3, .invokeinterface 0 14), (61, .iload_n 2, 1, .iload 2), (62, .iaload, 1, .iaload), (63, .bipush 29, 2, .iconst 29), (65, .if_icmp .eq 42, 3, .if_icmp .eq (.ofNat 59)), (68, .aload_n 0, 1, .aload 0), (69, .iload_n 2, 1, .iload 2), (70, .invokevirtual 306, 3, .invokevirtual 65), (73, .ifCond .eq 34, 3, .ifCond .eq (.ofNat 59)), (76, .iload_n 1, 1, .iload 1), (77, .ifCond .ne 7, 3, .ifCond .ne (.ofNat 46)), (80, .iconst 1, 1, .iconst 1), (81, .goto 25, 3, .goto 58), (84, .iload_n 1, 1, .iload 1), (85, .iconst 1, 1, .iconst 1), (86, .if_icmp .ne 7, 3, .if_icmp .ne (.ofNat 51)), (89, .iload_n 2, 1, .iload 2), (90, .goto 16, 3, .goto 58), (93, .iload_n 1, 1, .iload 1), (94, .iconst 2, 1, .iconst 2), (95, .if_icmp .ne 10, 3, .if_icmp .ne (.ofNat 57)), (98, .aload_n 0, 1, .aload 0), (99, .getfield 300, 3, .invokeinterface 0 45), (102, .goto 4, 3, .goto 58), (105, .iconst (-1), 1, .iconst (-1)), (106, .ireturn, 1, .ireturn), (107, .iinc 2 1, 3, .iinc 2 1), (110, .goto (-61), 3, .jsr_w 28), (113, .iconst 0, 1, .iconst 0), (114, .istore_n 2, 1, .istore 2), (115, .iload_n 2, 1, .iload 2), (116, .aload_n 0, 1, .aload 0), (117, .getfield 131, 3, .invokeinterface 0 13), (120, .if_icmp .ge 104, 3, .if_icmp .ge (.ofNat 120)), (123, .iload_n 2, 1, .iload 2), (124, .iconst 1, 1, .iconst 1), (125, .iadd, 1, .iadd), (126, .istore_n 3, 1, .istore 3), (127, .iload_n 3, 1, .iload 3), (128, .aload_n 0, 1, .aload 0), (129, .getfield 131, 3, .invokeinterface 0 13), (132, .if_icmp .ge 86, 3, .if_icmp .ge (.ofNat 118)), (135, .aload_n 0, 1, .aload 0), (136, .getfield 34, 3, .invokeinterface 0 14), (139, .iload_n 2, 1, .iload 2), (140, .iaload, 1, .iaload), (141, .bipush 29, 2, .iconst 29), (143, .if_icmp .eq 69, 3, .if_icmp .eq (.ofNat 116)), (146, .aload_n 0, 1, .aload 0), (147, .getfield 34, 3, .invokeinterface 0 14), (150, .iload_n 3, 1, .iload 3), (151, .iaload, 1, .iaload), (152, .bipush 29, 2, .iconst 29), (154, .if_icmp .eq 58, 3, .if_icmp .eq (.ofNat 116)), (157, .aload_n 0, 1, .aload 0), (158, .iload_n 2, 1, .iload 2), (159, .iload_n 3, 1, .iload 3), (160, .invokevirtual 309, 3, .invokevirtual 66), (163, .ifCond .ne 6, 3, .ifCond .ne (.ofNat 93)), (166, .goto 46, 3, .goto 116), (169, .iload_n 1, 1, .iload 1), (170, .ifCond .ne 7, 3, .ifCond .ne (.ofNat 97)), (173, .iconst 2, 1, .iconst 2), (174, .goto 37, 3, .goto 115), (177, .iload_n 1, 1, .iload 1), (178, .iconst 1, 1, .iconst 1), (179, .if_icmp .ne 7, 3, .if_icmp .ne (.ofNat 102)), (182, .iload_n 2, 1, .iload 2), (183, .goto 28, 3, .goto 115), (186, .iload_n 1, 1, .iload 1), (187, .iconst 2, 1, .iconst 2), (188, .if_icmp .ne 10, 3, .if_icmp .ne (.ofNat 108)), (191, .aload_n 0, 1, .aload 0), (192, .getfield 300, 3, .invokeinterface 0 45), (195, .goto 16, 3, .goto 115), (198, .iload_n 1, 1, .iload 1), (199, .iconst 3, 1, .iconst 3), (200, .if_icmp .ne 7, 3, .if_icmp .ne (.ofNat 113)), (203, .iload_n 3, 1, .iload 3), (204, .goto 7, 3, .goto 115), (207, .aload_n 0, 1, .aload 0), (208, .getfield 303, 3, .invokeinterface 0 46), (211, .ireturn, 1, .ireturn), (212, .iinc 3 1, 3, .iinc 3 1), (215, .goto (-88), 3, .jsr_w 71), (218, .iinc 2 1, 3, .iinc 2 1), (221, .goto (-106), 3, .jsr_w 63), (224, .iconst (-1), 1, .iconst (-1)), (225, .ireturn, 1, .ireturn)]
def kB68 : x_R := [(0, .aload_n 0, 1, .aload 0), (1, .getfield 137, 3, .invokeinterface 0 15), (4, .ifCond .le 24, 3, .ifCond .le (.ofNat 15)), (7, .aload_n 0, 1, .aload 0), (8, .getfield 37, 3, .invokeinterface 0 16), (11, .aload_n 0, 1, .aload 0), (12, .getfield 137, 3, .invokeinterface 0 15), (15, .bipush 29, 2, .iconst 29), (17, .iastore, 1, .iastore), (18, .aload_n 0, 1, .aload 0), (19, .aload_n 0, 1, .aload 0), (20, .getfield 137, 3, .invokeinterface 0 15), (23, .iconst 1, 1, .iconst 1), (24, .iadd, 1, .iadd), (25, .putfield 137, 3, .multianewarray 0 15), (28, .iconst 0, 1, .iconst 0), (29, .istore_n 2, 1, .istore 2), (30, .iload_n 2, 1, .iload 2), (31, .aload_n 0, 1, .aload 0), (32, .getfield 40, 3, .invokeinterface 0 18), (35, .iload_n 1, 1, .iload 1), (36, .iaload, 1, .iaload), (37, .if_icmp .ge 39, 3, .if_icmp .ge (.ofNat 44)), (40, .aload_n 0, 1, .aload 0), (41, .getfield 37, 3, .invokeinterface 0 16), (44, .aload_n 0, 1, .aload 0), (45, .getfield 137, 3, .invokeinterface 0 15), (48, .aload_n 0, 1, .aload 0), (49, .getfield 43, 3, .invokeinterface 0 19), (52, .bipush 12, 2, .iconst 12), (54, .iload_n 1, 1, .iload 1), (55, .imul, 1, .imul), (56, .iload_n 2, 1, .iload 2), (57, .iadd, 1, .iadd), (58, .iaload, 1, .iaload), (59, .iastore, 1, .iastore), (60, .aload_n 0, 1, .aload 0), (61, .aload_n 0, 1, .aload 0), (62, .getfield 137, 3, .invokeinterface 0 15), (65, .iconst 1, 1, .iconst 1), (66, .iadd, 1, .iadd), (67, .putfield 137, 3, .multianewarray 0 15), (70, .iinc 2 1, 3, .iinc 2 1), (73, .goto (-43), 3, .jsr_w 17), (76, .return_, 1, .return_)]
def kB69 : x_R := [(0, .aload_n 0, 1, .aload 0), (1, .iconst 0, 1, .iconst 0), (2, .putfield 137, 3, .multianewarray 0 15), (5, .aload_n 0, 1, .aload 0), (6, .iload_n 2, 1, .iload 2), (7, .invokevirtual 313, 3, .invokevirtual 68), (10, .iload_n 3, 1, .iload 3), (11, .iconst (-1), 1, .iconst (-1)), (12, .if_icmp .eq 8, 3, .if_icmp .eq (.ofNat 12)), (15, .aload_n 0, 1, .aload 0), (16, .iload_n 3, 1, .iload 3), (17, .invokevirtual 313, 3, .invokevirtual 68), (20, .iload 4, 2, .iload 4), (22, .iconst (-1), 1, .iconst (-1)), (23, .if_icmp .eq 9, 3, .if_icmp .eq (.ofNat 18)), (26, .aload_n 0, 1, .aload 0), (27, .iload 4, 2, .iload 4), (29, .invokevirtual 313, 3, .invokevirtual 68), (32, .aload_n 0, 1, .aload 0), (33, .invokevirtual 284, 3, .invokevirtual 50), (36, .aload_n 0, 1, .aload 0), (37, .getfield 80, 3, .invokeinterface 0 43), (40, .iload_n 1, 1, .iload 1), (41, .iaload, 1, .iaload), (42, .ireturn, 1, .ireturn)]
def kB70 : x_R := [(0, .aload_n 0, 1, .aload 0), (1, .iload_n 1, 1, .iload 1), (2, .iload_n 2, 1, .iload 2), (3, .iload_n 3, 1, .iload 3), (4, .iload 4, 2, .iload 4), (6, .invokevirtual 316, 3, .invokevirtual 69), (9, .istore 5, 2, .istore 5), (11, .iload 5, 2, .iload 5), (13, .aload_n 0, 1, .aload 0), (14, .getfield 320, 3, .invokeinterface 0 47), (17, .if_icmp .gt 4, 3, .if_icmp .gt (.ofNat 12)), (20, .return_, 1, .return_), (21, .aload_n 0, 1, .aload 0), (22, .iload 5, 2, .iload 5), (24, .putfield 320, 3, .multianewarray 0 47), (27, .aload_n 0, 1, .aload 0), (28, .getfield 86, 3, .invokeinterface 0 48), (31, .iconst 0, 1, .iconst 0), (32, .iload_n 2, 1, .iload 2), (33, .iastore, 1, .iastore), (34, .aload_n 0, 1, .aload 0), (35, .getfield 86, 3, .invokeinterface 0 48), (38, .iconst 1, 1, .iconst 1), (39, .iload_n 3, 1, .iload 3), (40, .iastore, 1, .iastore), (41, .aload_n 0, 1, .aload 0), (42, .getfield 86, 3, .invokeinterface 0 48), (45, .iconst 2, 1, .iconst 2), (46, .iload 4, 2, .iload 4), (48, .iastore, 1, .iastore), (49, .return_, 1, .return_)]
def kB71 : x_R := [(0, .aload_n 0, 1, .aload 0), (1, .iconst 0, 1, .iconst 0), (2, .putfield 92, 3, .multianewarray 0 0), (5, .aload_n 0, 1, .aload 0), (6, .iload_n 1, 1, .iload 1), (7, .invokevirtual 112, 3, .invokevirtual 6), (10, .ifCond .eq 20, 3, .ifCond .eq (.ofNat 16)), (13, .aload_n 0, 1, .aload 0), (14, .getfield 134, 3, .invokeinterface 0 17), (17, .ifCond .eq 13, 3, .ifCond .eq (.ofNat 16)), (20, .aload_n 0, 1, .aload 0), (21, .iload_n 2, 1, .iload 2), (22, .iconst 0, 1, .iconst 0), (23, .iconst 3, 1, .iconst 3), (24, .invokevirtual 104, 3, .invokevirtual 1), (27, .ifCond .ne 5, 3, .ifCond .ne (.ofNat 18)), (30, .iconst (-1), 1, .iconst (-1)), (31, .ireturn, 1, .ireturn), (32, .aload_n 0, 1, .aload 0), (33, .iconst (-1), 1, .iconst (-1)), (34, .putfield 320, 3, .multianewarray 0 47), (37, .iconst 0, 1, .iconst 0), (38, .istore_n 3, 1, .istore 3), (39, .iload_n 3, 1, .iload 3), (40, .aload_n 0, 1, .aload 0), (41, .getfield 134, 3, .invokeinterface 0 17), (44, .if_icmp .ge 17, 3, .if_icmp .ge (.ofNat 35)), (47, .aload_n 0, 1, .aload 0), (48, .iload_n 1, 1, .iload 1), (49, .iload_n 3, 1, .iload 3), (50, .iconst (-1), 1, .iconst (-1)), (51, .iconst (-1), 1, .iconst (-1)), (52, .invokevirtual 323, 3, .invokevirtual 70), (55, .iinc 3 1, 3, .iinc 3 1), (58, .goto (-19), 3, .jsr_w 23), (61, .iconst 0, 1, .iconst 0), (62, .istore_n 3, 1, .istore 3), (63, .iload_n 3, 1, .iload 3), (64, .aload_n 0, 1, .aload 0), (65, .getfield 134, 3, .invokeinterface 0 17), (68, .if_icmp .ge 38, 3, .if_icmp .ge (.ofNat 59)), (71, .iload_n 3, 1, .iload 3), (72, .iconst 1, 1, .iconst 1), (73, .iadd, 1, .iadd), (74, .istore 4, 2, .istore 4), (76, .iload 4, 2, .iload 4), (78, .aload_n 0, 1, .aload 0), (79, .getfield 134, 3, .invokeinterface 0 17), (82, .if_icmp .ge 18, 3, .if_icmp .ge (.ofNat 57)), (85, .aload_n 0, 1, .aload 0), (86, .iload_n 1, 1, .iload 1), (87, .iload_n 3, 1, .iload 3), (88, .iload 4, 2, .iload 4), (90, .iconst (-1), 1, .iconst (-1)), (91, .invokevirtual 323, 3, .invokevirtual 70), (94, .iinc 4 1, 3, .iinc 4 1), (97, .goto (-21), 3, .jsr_w 45), (100, .iinc 3 1, 3, .iinc 3 1), (103, .goto (-40), 3, .jsr_w 37), (106, .iconst 0, 1, .iconst 0), (107, .istore_n 3, 1, .istore 3), (108, .iload_n 3, 1, .iload 3), (109, .aload_n 0, 1, .aload 0), (110, .getfield 134, 3, .invokeinterface 0 17), (113, .if_icmp .ge 60, 3, .if_icmp .ge (.ofNat 93)), (116, .iload_n 3, 1, .iload 3), (117, .iconst 1, 1, .iconst 1), (118, .iadd, 1, .iadd), (119, .istore 4, 2, .istore 4), (121, .iload 4, 2, .iload 4), (123, .aload_n 0, 1, .aload 0), (124, .getfield 134, 3, .invokeinterface 0 17), (127, .if_icmp .ge 40, 3, .if_icmp .ge (.ofNat 91)), (130, .iload 4, 2, .iload 4), (132, .iconst 1, 1, .iconst 1), (133, .iadd, 1, .iadd), (134, .istore 5, 2, .istore 5), (136, .iload 5, 2, .iload 5), (138, .aload_n 0, 1, .aload 0), (139, .getfield 134, 3, .invokeinterface 0 17), (142, .if_icmp .ge 19, 3, .if_icmp .ge (.ofNat 89)), (145, .aload_n 0, 1, .aload 0), (146, .iload_n 1, 1, .iload 1), (147, .iload_n 3, 1, .iload 3), (148, .iload 4, 2, .iload 4), (150, .iload 5, 2, .iload 5), (152, .invokevirtual 323, 3, .invokevirtual 70), (155, .iinc 5 1, 3, .iinc 5 1), (158, .goto (-22), 3, .jsr_w 77), (161, .iinc 4 1, 3, .iinc 4 1), (164, .goto (-43), 3, .jsr_w 69), (167, .iinc 3 1, 3, .iinc 3 1), (170, .goto (-62), 3, .jsr_w 61), (173, .iload_n 2, 1, .iload 2), (174, .ifCond .ne 10, 3, .ifCond .ne (.ofNat 98)), (177, .aload_n 0, 1, .aload 0), (178, .getfield 320, 3, .invokeinterface 0 47), (181, .goto 11, 3, .goto 104), (184, .aload_n 0, 1, .aload 0), (185, .getfield 86, 3, .invokeinterface 0 48), (188, .iload_n 2, 1, .iload 2), (189, .iconst 1, 1, .iconst 1), (190, .isub, 1, .isub), (191, .iaload, 1, .iaload), (192, .ireturn, 1, .ireturn)]
def kB72 : x_R := [(0, .aload_n 0, 1, .aload 0), (1, .iconst 0, 1, .iconst 0), (2, .putfield 92, 3, .multianewarray 0 0), (5, .iconst 0, 1, .iconst 0), (6, .istore_n 1, 1, .istore 1), (7, .iconst 0, 1, .iconst 0), (8, .istore_n 2, 1, .istore 2), (9, .iload_n 2, 1, .iload 2), (10, .aload_n 0, 1, .aload 0), (11, .getfield 134, 3, .invokeinterface 0 17), (14, .if_icmp .ge 74, 3, .if_icmp .ge (.ofNat 52)), (17, .iconst 1, 1, .iconst 1), (18, .istore_n 3, 1, .istore 3), (19, .iconst 0, 1, .iconst 0), (20, .istore 4, 2, .istore 4), (22, .iload 4, 2, .iload 4), (24, .aload_n 0, 1, .aload 0), (25, .getfield 40, 3, .invokeinterface 0 18), (28, .iload_n 2, 1, .iload 2), (29, .iaload, 1, .iaload), (30, .if_icmp .ge 38, 3, .if_icmp .ge (.ofNat 40)), (33, .iload_n 3, 1, .iload 3), (34, .ifCond .eq 26, 3, .ifCond .eq (.ofNat 36)), (37, .aload_n 0, 1, .aload 0), (38, .aload_n 0, 1, .aload 0), (39, .getfield 43, 3, .invokeinterface 0 19), (42, .bipush 12, 2, .iconst 12), (44, .iload_n 2, 1, .iload 2), (45, .imul, 1, .imul), (46, .iload 4, 2, .iload 4), (48, .iadd, 1, .iadd), (49, .iaload, 1, .iaload), (50, .invokevirtual 244, 3, .invokevirtual 13), (53, .ifCond .eq 7, 3, .ifCond .eq (.ofNat 36)), (56, .iconst 1, 1, .iconst 1), (57, .goto 4, 3, .goto 37), (60, .iconst 0, 1, .iconst 0), (61, .istore_n 3, 1, .istore 3), (62, .iinc 4 1, 3, .iinc 4 1), (65, .goto (-43), 3, .jsr_w 15), (68, .iload_n 3, 1, .iload 3), (69, .ifCond .eq 11, 3, .ifCond .eq (.ofNat 48)), (72, .iload_n 1, 1, .iload 1), (73, .iconst 1, 1, .iconst 1), (74, .iload_n 2, 1, .iload 2), (75, .ishl, 1, .ishl), (76, .ior, 1, .ior), (77, .goto 4, 3, .goto 49), (80, .iload_n 1, 1, .iload 1), (81, .istore_n 1, 1, .istore 1), (82, .iinc 2 1, 3, .iinc 2 1), (85, .goto (-76), 3, .jsr_w 7), (88, .iload_n 1, 1, .iload 1), (89, .ireturn, 1, .ireturn)]
def kB73 : x_R := [(0, .aload_n 0, 1, .aload 0), (1, .invokevirtual 284, 3, .invokevirtual 50), (4, .iconst 0, 1, .iconst 0), (5, .istore_n 2, 1, .istore 2), (6, .iconst 0, 1, .iconst 0), (7, .istore_n 3, 1, .istore 3), (8, .iload_n 3, 1, .iload 3), (9, .aload_n 0, 1, .aload 0), (10, .getfield 100, 3, .invokeinterface 0 4), (13, .if_icmp .ge 27, 3, .if_icmp .ge (.ofNat 24)), (16, .iload_n 3, 1, .iload 3), (17, .iload_n 1, 1, .iload 1), (18, .if_icmp .ne 7, 3, .if_icmp .ne (.ofNat 15)), (21, .iload_n 2, 1, .iload 2), (22, .goto 11, 3, .goto 21), (25, .iload_n 2, 1, .iload 2), (26, .aload_n 0, 1, .aload 0), (27, .getfield 80, 3, .invokeinterface 0 43), (30, .iload_n 3, 1, .iload 3), (31, .iaload, 1, .iaload), (32, .iadd, 1, .iadd), (33, .istore_n 2, 1, .istore 2), (34, .iinc 3 1, 3, .iinc 3 1), (37, .goto (-29), 3, .jsr_w 6), (40, .iload_n 2, 1, .iload 2), (41, .ireturn, 1, .ireturn)]
def kB74 : x_R := [(0, .iconst 0, 1, .iconst 0), (1, .istore_n 1, 1, .istore 1), (2, .iconst 0, 1, .iconst 0), (3, .istore_n 2, 1, .istore 2), (4, .iload_n 2, 1, .iload 2), (5, .aload_n 0, 1, .aload 0), (6, .getfield 137, 3, .invokeinterface 0 15), (9, .if_icmp .ge 37, 3, .if_icmp .ge (.ofNat 27)), (12, .aload_n 0, 1, .aload 0), (13, .getfield 37, 3, .invokeinterface 0 16), (16, .iload_n 2, 1, .iload 2), (17, .iaload, 1, .iaload), (18, .bipush 29, 2, .iconst 29), (20, .if_icmp .eq 20, 3, .if_icmp .eq (.ofNat 25)), (23, .aload_n 0, 1, .aload 0), (24, .aload_n 0, 1, .aload 0), (25, .getfield 37, 3, .invokeinterface 0 16), (28, .iload_n 2, 1, .iload 2), (29, .iaload, 1, .iaload), (30, .invokevirtual 244, 3, .invokevirtual 13), (33, .ifCond .ne 7, 3, .ifCond .ne (.ofNat 25)), (36, .iload_n 1, 1, .iload 1), (37, .iconst 1, 1, .iconst 1), (38, .iadd, 1, .iadd), (39, .istore_n 1, 1, .istore 1), (40, .iinc 2 1, 3, .iinc 2 1), (43, .goto (-39), 3, .jsr_w 4), (46, .iload_n 1, 1, .iload 1), (47, .ireturn, 1, .ireturn)]
def kB75 : x_R := [(0, .aload_n 0, 1, .aload 0), (1, .iconst 0, 1, .iconst 0), (2, .putfield 92, 3, .multianewarray 0 0), (5, .aload_n 0, 1, .aload 0), (6, .iload_n 1, 1, .iload 1), (7, .invokevirtual 112, 3, .invokevirtual 6), (10, .ifCond .eq 13, 3, .ifCond .eq (.ofNat 13)), (13, .aload_n 0, 1, .aload 0), (14, .iload_n 2, 1, .iload 2), (15, .iconst 0, 1, .iconst 0), (16, .iconst 1, 1, .iconst 1), (17, .invokevirtual 104, 3, .invokevirtual 1), (20, .ifCond .ne 7, 3, .ifCond .ne (.ofNat 15)), (23, .ldc_w 327, 3, .iconst (-100000)), (26, .ireturn, 1, .ireturn), (27, .aload_n 0, 1, .aload 0), (28, .invokevirtual 272, 3, .invokevirtual 18), (31, .iload_n 2, 1, .iload 2), (32, .ifCond .ne 11, 3, .ifCond .ne (.ofNat 23)), (35, .aload_n 0, 1, .aload 0), (36, .iload_n 1, 1, .iload 1), (37, .invokevirtual 328, 3, .invokevirtual 73), (40, .goto 7, 3, .goto 25), (43, .aload_n 0, 1, .aload 0), (44, .invokevirtual 331, 3, .invokevirtual 74), (47, .istore_n 3, 1, .istore 3), (48, .aload_n 0, 1, .aload 0), (49, .getfield 19, 3, .invokeinterface 0 6), (52, .iload_n 1, 1, .iload 1), (53, .iaload, 1, .iaload), (54, .istore 4, 2, .istore 4), (56, .aload_n 0, 1, .aload 0), (57, .getfield 19, 3, .invokeinterface 0 6), (60, .iload_n 1, 1, .iload 1), (61, .iconst 1, 1, .iconst 1), (62, .iastore, 1, .iastore), (63, .iload_n 2, 1, .iload 2), (64, .ifCond .ne 11, 3, .ifCond .ne (.ofNat 42)), (67, .aload_n 0, 1, .aload 0), (68, .iload_n 1, 1, .iload 1), (69, .invokevirtual 328, 3, .invokevirtual 73), (72, .goto 7, 3, .goto 44), (75, .aload_n 0, 1, .aload 0), (76, .invokevirtual 331, 3, .invokevirtual 74), (79, .istore 5, 2, .istore 5), (81, .aload_n 0, 1, .aload 0), (82, .getfield 19, 3, .invokeinterface 0 6), (85, .iload_n 1, 1, .iload 1), (86, .iload 4, 2, .iload 4), (88, .iastore, 1, .iastore), (89, .iload_n 2, 1, .iload 2), (90, .ifCond .ne 10, 3, .ifCond .ne (.ofNat 56)), (93, .iload_n 3, 1, .iload 3), (94, .iload 5, 2, .iload 5), (96, .isub, 1, .isub), (97, .goto 7, 3, .goto 59), (100, .iload 5, 2, .iload 5), (102, .iload_n 3, 1, .iload 3), (103, .isub, 1, .isub), (104, .ireturn, 1, .ireturn)]
def kB76 : x_R := [(0, .aload_n 0, 1, .aload 0), (1, .getfield 28, 3, .invokeinterface 0 9), (4, .iload_n 1, 1, .iload 1), (5, .iaload, 1, .iaload), (6, .istore_n 3, 1, .istore 3), (7, .aload_n 0, 1, .aload 0), (8, .getfield 28, 3, .invokeinterface 0 9), (11, .iload_n 1, 1, .iload 1), (12, .aload_n 0, 1, .aload 0), (13, .getfield 28, 3, .invokeinterface 0 9), (16, .iload_n 2, 1, .iload 2), (17, .iaload, 1, .iaload), (18, .iastore, 1, .iastore), (19, .aload_n 0, 1, .aload 0), (20, .getfield 28, 3, .invokeinterface 0 9), (23, .iload_n 2, 1, .iload 2), (24, .iload_n 3, 1, .iload 3), (25, .iastore, 1, .iastore), (26, .return_, 1, .return_)]
def kB77 : x_R := [(0, .aload_n 0, 1, .aload 0), (1, .iload_n 1, 1, .iload 1), (2, .invokevirtual 121, 3, .invokevirtual 12), (5, .istore_n 3, 1, .istore 3), (6, .aload_n 0, 1, .aload 0), (7, .iload_n 2, 1, .iload 2), (8, .invokevirtual 121, 3, .invokevirtual 12), (11, .istore 4, 2, .istore 4), (13, .iload_n 3, 1, .iload 3), (14, .iconst (-1), 1, .iconst (-1)), (15, .if_icmp .eq 15, 3, .if_icmp .eq (.ofNat 17)), (18, .iload 4, 2, .iload 4), (20, .iconst (-1), 1, .iconst (-1)), (21, .if_icmp .eq 9, 3, .if_icmp .eq (.ofNat 17)), (24, .iload_n 3, 1, .iload 3), (25, .iload 4, 2, .iload 4), (27, .if_icmp .ne 5, 3, .if_icmp .ne (.ofNat 19)), (30, .iconst 0, 1, .iconst 0), (31, .ireturn, 1, .areturn), (32, .aload_n 0, 1, .aload 0), (33, .invokevirtual 284, 3, .invokevirtual 50), (36, .aload_n 0, 1, .aload 0), (37, .getfield 80, 3, .invokeinterface 0 43), (40, .iload_n 3, 1, .iload 3), (41, .iaload, 1, .iaload), (42, .istore 5, 2, .istore 5), (44, .aload_n 0, 1, .aload 0), (45, .getfield 80, 3, .invokeinterface 0 43), (48, .iload 4, 2, .iload 4), (50, .iaload, 1, .iaload), (51, .istore 6, 2, .istore 6), (53, .aload_n 0, 1, .aload 0), (54, .iload_n 1, 1, .iload 1), (55, .iload_n 2, 1, .iload 2), (56, .invokevirtual 334, 3, .invokevirtual 76), (59, .aload_n 0, 1, .aload 0), (60, .invokevirtual 284, 3, .invokevirtual 50), (63, .aload_n 0, 1, .aload 0), (64, .iload_n 1, 1, .iload 1), (65, .iload_n 2, 1, .iload 2), (66, .invokevirtual 334, 3, .invokevirtual 76), (69, .aload_n 0, 1, .aload 0), (70, .getfield 80, 3, .invokeinterface 0 43), (73, .iload_n 3, 1, .iload 3), (74, .iaload, 1, .iaload), (75, .iload 5, 2, .iload 5), (77, .if_icmp .le 19, 3, .if_icmp .le (.ofNat 55)), (80, .aload_n 0, 1, .aload 0), (81, .getfield 80, 3, .invokeinterface 0 43), (84, .iload 4, 2, .iload 4), (86, .iaload, 1, .iaload), (87, .iload 6, 2, .iload 6), (89, .if_icmp .le 7, 3, .if_icmp .le (.ofNat 55)), (92, .iconst 1, 1, .iconst 1), (93, .goto 4, 3, .goto 56), (96, .iconst 0, 1, .iconst 0), (97, .ireturn, 1, .areturn)]
def kB78 : x_R := [(0, .aload_n 0, 1, .aload 0), (1, .iconst 0, 1, .iconst 0), (2, .putfield 92, 3, .multianewarray 0 0), (5, .aload_n 0, 1, .aload 0), (6, .iload_n 1, 1, .iload 1), (7, .iconst 0, 1, .iconst 0), (8, .iconst 2, 1, .iconst 2), (9, .invokevirtual 104, 3, .invokevirtual 1), (12, .ifCond .ne 5, 3, .ifCond .ne (.ofNat 11)), (15, .iconst (-1), 1, .iconst (-1)), (16, .ireturn, 1, .ireturn), (17, .aload_n 0, 1, .aload 0), (18, .invokevirtual 272, 3, .invokevirtual 18), (21, .iconst 0, 1, .iconst 0), (22, .istore_n 2, 1, .istore 2), (23, .iconst (-1), 1, .iconst (-1)), (24, .istore_n 3, 1, .istore 3), (25, .iconst 0, 1, .iconst 0), (26, .istore 4, 2, .istore 4), (28, .iload 4, 2, .iload 4), (30, .bipush 29, 2, .iconst 29), (32, .if_icmp .ge 63, 3, .if_icmp .ge (.ofNat 53)), (35, .iload 4, 2, .iload 4), (37, .iconst 1, 1, .iconst 1), (38, .iadd, 1, .iadd), (39, .istore 5, 2, .istore 5), (41, .iload 5, 2, .iload 5), (43, .bipush 29, 2, .iconst 29), (45, .if_icmp .ge 44, 3, .if_icmp .ge (.ofNat 51)), (48, .aload_n 0, 1, .aload 0), (49, .iload 4, 2, .iload 4), (51, .iload 5, 2, .iload 5), (53, .invokevirtual 337, 3, .invokevirtual 77), (56, .ifCond .ne 6, 3, .ifCond .ne (.ofNat 35)), (59, .goto 24, 3, .goto 49), (62, .iload_n 2, 1, .iload 2), (63, .ifCond .ne 14, 3, .ifCond .ne (.ofNat 43)), (66, .bipush 29, 2, .iconst 29), (68, .iload 4, 2, .iload 4), (70, .imul, 1, .imul), (71, .iload 5, 2, .iload 5), (73, .iadd, 1, .iadd), (74, .goto 4, 3, .goto 44), (77, .iload_n 3, 1, .iload 3), (78, .istore_n 3, 1, .istore 3), (79, .iload_n 2, 1, .iload 2), (80, .iconst 1, 1, .iconst 1), (81, .iadd, 1, .iadd), (82, .istore_n 2, 1, .istore 2), (83, .iinc 5 1, 3, .iinc 5 1), (86, .goto (-45), 3, .jsr_w 26), (89, .iinc 4 1, 3, .iinc 4 1), (92, .goto (-64), 3, .jsr_w 19), (95, .iload_n 1, 1, .iload 1), (96, .ifCond .ne 5, 3, .ifCond .ne (.ofNat 57)), (99, .iload_n 2, 1, .iload 2), (100, .ireturn, 1, .ireturn), (101, .iload_n 3, 1, .iload 3), (102, .iconst (-1), 1, .iconst (-1)), (103, .if_icmp .ne 7, 3, .if_icmp .ne (.ofNat 62)), (106, .iconst (-1), 1, .iconst (-1)), (107, .goto 19, 3, .goto 72), (110, .iload_n 1, 1, .iload 1), (111, .iconst 1, 1, .iconst 1), (112, .if_icmp .ne 10, 3, .if_icmp .ne (.ofNat 69)), (115, .iload_n 3, 1, .iload 3), (116, .bipush 29, 2, .iconst 29), (118, .idiv, 1, .idiv), (119, .goto 7, 3, .goto 72), (122, .iload_n 3, 1, .iload 3), (123, .bipush 29, 2, .iconst 29), (125, .irem, 1, .irem), (126, .ireturn, 1, .ireturn)]
def kB79 : x_R := [(0, .aload_n 0, 1, .aload 0), (1, .iconst 0, 1, .iconst 0), (2, .putfield 92, 3, .multianewarray 0 0), (5, .iconst 0, 1, .iconst 0), (6, .istore_n 1, 1, .istore 1), (7, .iconst 0, 1, .iconst 0), (8, .istore_n 2, 1, .istore 2), (9, .iload_n 2, 1, .iload 2), (10, .aload_n 0, 1, .aload 0), (11, .getfield 100, 3, .invokeinterface 0 4), (14, .if_icmp .ge 77, 3, .if_icmp .ge (.ofNat 55)), (17, .iconst 0, 1, .iconst 0), (18, .istore_n 3, 1, .istore 3), (19, .iconst 0, 1, .iconst 0), (20, .istore 4, 2, .istore 4), (22, .iload 4, 2, .iload 4), (24, .bipush 29, 2, .iconst 29), (26, .if_icmp .ge 32, 3, .if_icmp .ge (.ofNat 34)), (29, .aload_n 0, 1, .aload 0), (30, .iload 4, 2, .iload 4), (32, .invokevirtual 121, 3, .invokevirtual 12), (35, .iload_n 2, 1, .iload 2), (36, .if_icmp .ne 16, 3, .if_icmp .ne (.ofNat 32)), (39, .iload_n 3, 1, .iload 3), (40, .aload_n 0, 1, .aload 0), (41, .getfield 7, 3, .invokeinterface 0 1), (44, .bipush 8, 2, .iconst 8), (46, .iload 4, 2, .iload 4), (48, .iadd, 1, .iadd), (49, .iaload, 1, .iaload), (50, .iadd, 1, .iadd), (51, .istore_n 3, 1, .istore 3), (52, .iinc 4 1, 3, .iinc 4 1), (55, .goto (-33), 3, .jsr_w 15), (58, .aload_n 0, 1, .aload 0), (59, .getfield 25, 3, .invokeinterface 0 8), (62, .iload_n 2, 1, .iload 2), (63, .iaload, 1, .iaload), (64, .ifCond .le 21, 3, .ifCond .le (.ofNat 53)), (67, .aload_n 0, 1, .aload 0), (68, .getfield 25, 3, .invokeinterface 0 8), (71, .iload_n 2, 1, .iload 2), (72, .iaload, 1, .iaload), (73, .iconst 1, 1, .iconst 1), (74, .isub, 1, .isub), (75, .iload_n 3, 1, .iload 3), (76, .if_icmp .eq 9, 3, .if_icmp .eq (.ofNat 53)), (79, .iload_n 1, 1, .iload 1), (80, .iconst 1, 1, .iconst 1), (81, .iload_n 2, 1, .iload 2), (82, .ishl, 1, .ishl), (83, .ior, 1, .ior), (84, .istore_n 1, 1, .istore 1), (85, .iinc 2 1, 3, .iinc 2 1), (88, .goto (-79), 3, .jsr_w 7), (91, .iload_n 1, 1, .iload 1), (92, .ireturn, 1, .ireturn)]
def kB80 : x_R := [(0, .aload_n 0, 1, .aload 0), (1, .aload_n 0, 1, .aload 0), (2, .getfield 340, 3, .invokeinterface 0 51), (5, .iconst 1, 1, .iconst 1), (6, .iadd, 1, .iadd), (7, .putfield 340, 3, .multianewarray 0 51), (10, .aload_n 0, 1, .aload 0), (11, .getfield 343, 3, .invokeinterface 0 49), (14, .ifCond .ne 15, 3, .ifCond .ne (.ofNat 17)), (17, .aload_n 0, 1, .aload 0), (18, .getfield 89, 3, .invokeinterface 0 52), (21, .aload_n 0, 1, .aload 0), (22, .getfield 340, 3, .invokeinterface 0 51), (25, .iconst 1, 1, .iconst 1), (26, .isub, 1, .isub), (27, .iaload, 1, .iaload), (28, .ireturn, 1, .ireturn), (29, .aload_n 0, 1, .aload 0), (30, .getfield 89, 3, .invokeinterface 0 52), (33, .aload_n 0, 1, .aload 0), (34, .getfield 340, 3, .invokeinterface 0 51), (37, .iconst 1, 1, .iconst 1), (38, .isub, 1, .isub), (39, .iload_n 1, 1, .iload 1), (40, .iastore, 1, .iastore), (41, .iload_n 1, 1, .iload 1), (42, .ireturn, 1, .ireturn)]
def kB81 : x_R := [(0, .aload_n 0, 1, .aload 0), (1, .aload_n 0, 1, .aload 0), (2, .aload_n 0, 1, .aload 0), (3, .getfield 231, 3, .invokeinterface 0 27), (6, .invokevirtual 347, 3, .invokevirtual 80), (9, .putfield 231, 3, .multianewarray 0 27), (12, .iconst 0, 1, .iconst 0), (13, .istore_n 1, 1, .istore 1), (14, .iload_n 1, 1, .iload 1), (15, .bipush 16, 2, .iconst 16), (17, .if_icmp .ge 57, 3, .if_icmp .ge (.ofNat 43)), (20, .aload_n 0, 1, .aload 0), (21, .getfield 52, 3, .invokeinterface 0 28), (24, .iload_n 1, 1, .iload 1), (25, .aload_n 0, 1, .aload 0), (26, .aload_n 0, 1, .aload 0), (27, .getfield 52, 3, .invokeinterface 0 28), (30, .iload_n 1, 1, .iload 1), (31, .iaload, 1, .iaload), (32, .invokevirtual 347, 3, .invokevirtual 80), (35, .iastore, 1, .iastore), (36, .aload_n 0, 1, .aload 0), (37, .getfield 55, 3, .invokeinterface 0 29), (40, .iload_n 1, 1, .iload 1), (41, .aload_n 0, 1, .aload 0), (42, .aload_n 0, 1, .aload 0), (43, .getfield 55, 3, .invokeinterface 0 29), (46, .iload_n 1, 1, .iload 1), (47, .iaload, 1, .iaload), (48, .invokevirtual 347, 3, .invokevirtual 80), (51, .iastore, 1, .iastore), (52, .aload_n 0, 1, .aload 0), (53, .getfield 58, 3, .invokeinterface 0 30), (56, .iload_n 1, 1, .iload 1), (57, .aload_n 0, 1, .aload 0), (58, .aload_n 0, 1, .aload 0), (59, .getfield 58, 3, .invokeinterface 0 30), (62, .iload_n 1, 1, .iload 1), (63, .iaload, 1, .iaload), (64, .invokevirtual 347, 3, .invokevirtual 80), (67, .iastore, 1, .iastore), (68, .iinc 1 1, 3, .iinc 1 1), (71, .goto (-57), 3, .jsr_w 8), (74, .iconst 0, 1, .iconst 0), (75, .istore_n 1, 1, .istore 1), (76, .iload_n 1, 1, .iload 1), (77, .sipush 400, 3, .iconst 400), (80, .if_icmp .ge 41, 3, .if_icmp .ge (.ofNat 70)), (83, .aload_n 0, 1, .aload 0), (84, .getfield 61, 3, .invokeinterface 0 31), (87, .iload_n 1, 1, .iload 1), (88, .aload_n 0, 1, .aload 0), (89, .aload_n 0, 1, .aload 0), (90, .getfield 61, 3, .invokeinterface 0 31), (93, .iload_n 1, 1, .iload 1), (94, .iaload, 1, .iaload), (95, .invokevirtual 347, 3, .invokevirtual 80), (98, .iastore, 1, .iastore), (99, .aload_n 0, 1, .aload 0), (100, .getfield 64, 3, .invokeinterface 0 32), (103, .iload_n 1, 1, .iload 1), (104, .aload_n 0, 1, .aload 0), (105, .aload_n 0, 1, .aload 0), (106, .getfield 64, 3, .invokeinterface 0 32), (109, .iload_n 1, 1, .iload 1), (110, .iaload, 1, .iaload), (111, .invokevirtual 347, 3, .invokevirtual 80), (114, .iastore, 1, .iastore), (115, .iinc 1 1, 3, .iinc 1 1), (118, .goto (-42), 3, .jsr_w 45), (121, .return_, 1, .return_)]
def kB82 : x_R := [(0, .aload_n 0, 1, .aload 0), (1, .aload_n 0, 1, .aload 0), (2, .aload_n 0, 1, .aload 0), (3, .getfield 131, 3, .invokeinterface 0 13), (6, .invokevirtual 347, 3, .invokevirtual 80), (9, .putfield 131, 3, .multianewarray 0 13), (12, .iconst 0, 1, .iconst 0), (13, .istore_n 1, 1, .istore 1), (14, .iload_n 1, 1, .iload 1), (15, .bipush 60, 2, .iconst 60), (17, .if_icmp .ge 25, 3, .if_icmp .ge (.ofNat 23)), (20, .aload_n 0, 1, .aload 0), (21, .getfield 34, 3, .invokeinterface 0 14), (24, .iload_n 1, 1, .iload 1), (25, .aload_n 0, 1, .aload 0), (26, .aload_n 0, 1, .aload 0), (27, .getfield 34, 3, .invokeinterface 0 14), (30, .iload_n 1, 1, .iload 1), (31, .iaload, 1, .iaload), (32, .invokevirtual 347, 3, .invokevirtual 80), (35, .iastore, 1, .iastore), (36, .iinc 1 1, 3, .iinc 1 1), (39, .goto (-25), 3, .jsr_w 8), (42, .aload_n 0, 1, .aload 0), (43, .aload_n 0, 1, .aload 0), (44, .aload_n 0, 1, .aload 0), (45, .getfield 134, 3, .invokeinterface 0 17), (48, .invokevirtual 347, 3, .invokevirtual 80), (51, .putfield 134, 3, .multianewarray 0 17), (54, .iconst 0, 1, .iconst 0), (55, .istore_n 1, 1, .istore 1), (56, .iload_n 1, 1, .iload 1), (57, .bipush 20, 2, .iconst 20), (59, .if_icmp .ge 25, 3, .if_icmp .ge (.ofNat 46)), (62, .aload_n 0, 1, .aload 0), (63, .getfield 40, 3, .invokeinterface 0 18), (66, .iload_n 1, 1, .iload 1), (67, .aload_n 0, 1, .aload 0), (68, .aload_n 0, 1, .aload 0), (69, .getfield 40, 3, .invokeinterface 0 18), (72, .iload_n 1, 1, .iload 1), (73, .iaload, 1, .iaload), (74, .invokevirtual 347, 3, .invokevirtual 80), (77, .iastore, 1, .iastore), (78, .iinc 1 1, 3, .iinc 1 1), (81, .goto (-25), 3, .jsr_w 31), (84, .iconst 0, 1, .iconst 0), (85, .istore_n 1, 1, .istore 1), (86, .iload_n 1, 1, .iload 1), (87, .sipush 240, 3, .iconst 240), (90, .if_icmp .ge 25, 3, .if_icmp .ge (.ofNat 63)), (93, .aload_n 0, 1, .aload 0), (94, .getfield 43, 3, .invokeinterface 0 19), (97, .iload_n 1, 1, .iload 1), (98, .aload_n 0, 1, .aload 0), (99, .aload_n 0, 1, .aload 0), (100, .getfield 43, 3, .invokeinterface 0 19), (103, .iload_n 1, 1, .iload 1), (104, .iaload, 1, .iaload), (105, .invokevirtual 347, 3, .invokevirtual 80), (108, .iastore, 1, .iastore), (109, .iinc 1 1, 3, .iinc 1 1), (112, .goto (-26), 3, .jsr_w 48), (115, .iconst 0, 1, .iconst 0), (116, .istore_n 1, 1, .istore 1), (117, .iload_n 1, 1, .iload 1), (118, .sipush 1000, 3, .iconst 1000), (121, .if_icmp .ge 25, 3, .if_icmp .ge (.ofNat 80)), (124, .aload_n 0, 1, .aload 0), (125, .getfield 83, 3, .invokeinterface 0 44), (128, .iload_n 1, 1, .iload 1), (129, .aload_n 0, 1, .aload 0), (130, .aload_n 0, 1, .aload 0), (131, .getfield 83, 3, .invokeinterface 0 44), (134, .iload_n 1, 1, .iload 1), (135, .iaload, 1, .iaload), (136, .invokevirtual 347, 3, .invokevirtual 80), (139, .iastore, 1, .iastore), (140, .iinc 1 1, 3, .iinc 1 1), (143, .goto (-26), 3, .jsr_w 65), (146, .return_, 1, .return_)]
def kB83 : x_R := [(0, .aload_n 0, 1, .aload 0), (1, .iconst 0, 1, .iconst 0), (2, .putfield 92, 3, .multianewarray 0 0), (5, .iload_n 1, 1, .iload 1), (6, .ifCond .ne 12, 3, .ifCond .ne (.ofNat 10)), (9, .aload_n 0, 1, .aload 0), (10, .getfield 350, 3, .invokeinterface 0 50), (13, .ifCond .ne 5, 3, .ifCond .ne (.ofNat 10)), (16, .iconst 0, 1, .iconst 0), (17, .ireturn, 1, .areturn), (18, .aload_n 0, 1, .aload 0), (19, .iload_n 1, 1, .iload 1), (20, .putfield 343, 3, .multianewarray 0 1049), (23, .aload_n 0, 1, .aload 0), (24, .iconst 1, 1, .iconst 1), (25, .putfield 350, 3, .multianewarray 0 1050), (28, .aload_n 0, 1, .aload 0), (29, .iconst 0, 1, .iconst 0), (30, .putfield 340, 3, .multianewarray 0 51), (33, .iconst 0, 1, .iconst 0), (34, .istore_n 2, 1, .istore 2), (35, .iload_n 2, 1, .iload 2), (36, .bipush 40, 2, .iconst 40), (38, .if_icmp .ge 25, 3, .if_icmp .ge (.ofNat 36)), (41, .aload_n 0, 1, .aload 0), (42, .getfield 7, 3, .invokeinterface 0 1), (45, .iload_n 2, 1, .iload 2), (46, .aload_n 0, 1, .aload 0), (47, .aload_n 0, 1, .aload 0), (48, .getfield 7, 3, .invokeinterface 0 1), (51, .iload_n 2, 1, .iload 2), (52, .iaload, 1, .iaload), (53, .invokevirtual 347, 3, .invokevirtual 80), (56, .iastore, 1, .iastore), (57, .iinc 2 1, 3, .iinc 2 1), (60, .goto (-25), 3, .jsr_w 21), (63, .aload_n 0, 1, .aload 0), (64, .aload_n 0, 1, .aload 0), (65, .aload_n 0, 1, .aload 0), (66, .getfield 100, 3, .invokeinterface 0 4), (69, .invokevirtual 347, 3, .invokevirtual 80), (72, .putfield 100, 3, .multianewarray 0 4), (75, .iconst 0, 1, .iconst 0), (76, .istore_n 2, 1, .istore 2), (77, .iload_n 2, 1, .iload 2), (78, .bipush 8, 2, .iconst 8), (80, .if_icmp .ge 73, 3, .if_icmp .ge (.ofNat 89)), (83, .aload_n 0, 1, .aload 0), (84, .getfield 16, 3, .invokeinterface 0 5), (87, .iload_n 2, 1, .iload 2), (88, .aload_n 0, 1, .aload 0), (89, .aload_n 0, 1, .aload 0), (90, .getfield 16, 3, .invokeinterface 0 5), (93, .iload_n 2, 1, .iload 2), (94, .iaload, 1, .iaload), (95, .invokevirtual 347, 3, .invokevirtual 80), (98, .iastore, 1, .iastore), (99, .aload_n 0, 1, .aload 0), (100, .getfield 19, 3, .invokeinterface 0 6), (103, .iload_n 2, 1, .iload 2), (104, .aload_n 0, 1, .aload 0), (105, .aload_n 0, 1, .aload 0), (106, .getfield 19, 3, .invokeinterface 0 6), (109, .iload_n 2, 1, .iload 2), (110, .iaload, 1, .iaload), (111, .invokevirtual 347, 3, .invokevirtual 80), (114, .iastore, 1, .iastore), (115, .aload_n 0, 1, .aload 0), (116, .getfield 22, 3, .invokeinterface 0 7), (119, .iload_n 2, 1, .iload 2), (120, .aload_n 0, 1, .aload 0), (121, .aload_n 0, 1, .aload 0), (122, .getfield 22, 3, .invokeinterface 0 7), (125, .iload_n 2, 1, .iload 2), (126, .iaload, 1, .iaload), (127, .invokevirtual 347, 3, .invokevirtual 80), (130, .iastore, 1, .iastore), (131, .aload_n 0, 1, .aload 0), (132, .getfield 25, 3, .invokeinterface 0 8), (135, .iload_n 2, 1, .iload 2), (136, .aload_n 0, 1, .aload 0), (137, .aload_n 0, 1, .aload 0), (138, .getfield 25, 3, .invokeinterface 0 8), (141, .iload_n 2, 1, .iload 2), (142, .iaload, 1, .iaload), (143, .invokevirtual 347, 3, .invokevirtual 80), (146, .iastore, 1, .iastore), (147, .iinc 2 1, 3, .iinc 2 1), (150, .goto (-73), 3, .jsr_w 44), (153, .iconst 0, 1, .iconst 0), (154, .istore_n 2, 1, .istore 2), (155, .iload_n 2, 1, .iload 2), (156, .bipush 29, 2, .iconst 29), (158, .if_icmp .ge 41, 3, .if_icmp .ge (.ofNat 116)), (161, .aload_n 0, 1, .aload 0), (162, .getfield 28, 3, .invokeinterface 0 9), (165, .iload_n 2, 1, .iload 2), (166, .aload_n 0, 1, .aload 0), (167, .aload_n 0, 1, .aload 0), (168, .getfield 28, 3, .invokeinterface 0 9), (171, .iload_n 2, 1, .iload 2), (172, .iaload, 1, .iaload), (173, .invokevirtual 347, 3, .invokevirtual 80), (176, .iastore, 1, .iastore), (177, .aload_n 0, 1, .aload 0), (178, .getfield 31, 3, .invokeinterface 0 10), (181, .iload_n 2, 1, .iload 2), (182, .aload_n 0, 1, .aload 0), (183, .aload_n 0, 1, .aload 0), (184, .getfield 31, 3, .invokeinterface 0 10), (187, .iload_n 2, 1, .iload 2), (188, .iaload, 1, .iaload), (189, .invokevirtual 347, 3, .invokevirtual 80), (192, .iastore, 1, .iastore), (193, .iinc 2 1, 3, .iinc 2 1), (196, .goto (-41), 3, .jsr_w 91), (199, .aload_n 0, 1, .aload 0), (200, .aload_n 0, 1, .aload 0), (201, .aload_n 0, 1, .aload 0), (202, .getfield 118, 3, .invokeinterface 0 11), (205, .invokevirtual 347, 3, .invokevirtual 80), (208, .putfield 118, 3, .multianewarray 0 11), (211, .aload_n 0, 1, .aload 0), (212, .aload_n 0, 1, .aload 0), (213, .aload_n 0, 1, .aload 0), (214, .getfield 256, 3, .invokeinterface 0 12), (217, .invokevirtual 347, 3, .invokevirtual 80), (220, .putfield 256, 3, .multianewarray 0 12), (223, .aload_n 0, 1, .aload 0), (224, .invokevirtual 353, 3, .invokevirtual 82), (227, .aload_n 0, 1, .aload 0), (228, .invokevirtual 356, 3, .invokevirtual 81), (231, .iload_n 1, 1, .iload 1), (232, .ifCond .ne 8, 3, .ifCond .ne (.ofNat 137)), (235, .aload_n 0, 1, .aload 0), (236, .iconst 0, 1, .iconst 0), (237, .putfield 95, 3, .multianewarray 0 3), (240, .iconst 1, 1, .iconst 1), (241, .ireturn, 1, .areturn)]
def kB84 : x_R := [(0, .aload_n 0, 1, .aload 0), (1, .iconst 0, 1, .iconst 0), (2, .putfield 92, 3, .multianewarray 0 0), (5, .iload_n 1, 1, .iload 1), (6, .ifCond .ne 8, 3, .ifCond .ne (.ofNat 8)), (9, .aload_n 0, 1, .aload 0), (10, .getfield 100, 3, .invokeinterface 0 4), (13, .ireturn, 1, .ireturn), (14, .iload_n 1, 1, .iload 1), (15, .iconst 1, 1, .iconst 1), (16, .if_icmp .ne 8, 3, .if_icmp .ne (.ofNat 14)), (19, .aload_n 0, 1, .aload 0), (20, .getfield 131, 3, .invokeinterface 0 13), (23, .ireturn, 1, .ireturn), (24, .iload_n 1, 1, .iload 1), (25, .iconst 2, 1, .iconst 2), (26, .if_icmp .ne 8, 3, .if_icmp .ne (.ofNat 20)), (29, .aload_n 0, 1, .aload 0), (30, .getfield 134, 3, .invokeinterface 0 17), (33, .ireturn, 1, .ireturn), (34, .iload_n 1, 1, .iload 1), (35, .iconst 3, 1, .iconst 3), (36, .if_icmp .ne 11, 3, .if_icmp .ne (.ofNat 28)), (39, .aload_n 0, 1, .aload 0), (40, .getfield 7, 3, .invokeinterface 0 1), (43, .bipush 37, 2, .iconst 37), (45, .iaload, 1, .iaload), (46, .ireturn, 1, .ireturn), (47, .iload_n 1, 1, .iload 1), (48, .iconst 4, 1, .iconst 4), (49, .if_icmp .ne 11, 3, .if_icmp .ne (.ofNat 36)), (52, .aload_n 0, 1, .aload 0), (53, .getfield 7, 3, .invokeinterface 0 1), (56, .bipush 38, 2, .iconst 38), (58, .iaload, 1, .iaload), (59, .ireturn, 1, .ireturn), (60, .iload_n 1, 1, .iload 1), (61, .iconst 5, 1, .iconst 5), (62, .if_icmp .ne 8, 3, .if_icmp .ne (.ofNat 42)), (65, .aload_n 0, 1, .aload 0), (66, .getfield 256, 3, .invokeinterface 0 12), (69, .ireturn, 1, .ireturn), (70, .iload_n 1, 1, .iload 1), (71, .bipush 6, 2, .iconst 6), (73, .if_icmp .ne 8, 3, .if_icmp .ne (.ofNat 48)), (76, .aload_n 0, 1, .aload 0), (77, .getfield 118, 3, .invokeinterface 0 11), (80, .ireturn, 1, .ireturn), (81, .iload_n 1, 1, .iload 1), (82, .bipush 7, 2, .iconst 7), (84, .if_icmp .ne 8, 3, .if_icmp .ne (.ofNat 54)), (87, .aload_n 0, 1, .aload 0), (88, .getfield 231, 3, .invokeinterface 0 27), (91, .ireturn, 1, .ireturn), (92, .iload_n 1, 1, .iload 1), (93, .bipush 8, 2, .iconst 8), (95, .if_icmp .ne 10, 3, .if_icmp .ne (.ofNat 60)), (98, .aload_n 0, 1, .aload 0), (99, .getfield 95, 3, .invokeinterface 0 3), (102, .goto 20, 3, .goto 69), (105, .iload_n 1, 1, .iload 1), (106, .bipush 9, 2, .iconst 9), (108, .if_icmp .ne 13, 3, .if_icmp .ne (.ofNat 68)), (111, .aload_n 0, 1, .aload 0), (112, .getfield 7, 3, .invokeinterface 0 1), (115, .bipush 39, 2, .iconst 39), (117, .iaload, 1, .iaload), (118, .goto 4, 3, .goto 69), (121, .iconst (-1), 1, .iconst (-1)), (122, .ireturn, 1, .ireturn)]
def kB85 : x_R := [(0, .iconst 0, 1, .iconst 0), (1, .istore_n 3, 1, .istore 3), (2, .aload_n 0, 1, .aload 0), (3, .arraylength, 1, .arraylength), (4, .istore 4, 2, .istore 4), (6, .iload_n 3, 1, .iload 3), (7, .iload 4, 2, .iload 4), (9, .if_icmp .ge 13, 3, .if_icmp .ge (.ofNat 14)), (12, .aload_n 0, 1, .aload 0), (13, .iload_n 3, 1, .iload 3), (14, .lload_n 1, 1, .lload 1), (15, .lastore, 1, .lastore), (16, .iinc 3 1, 3, .iinc 3 1), (19, .goto (-13), 3, .jsr_w 5), (22, .return_, 1, .return_)]
def kB86 : x_R := [(0, .iconst 0, 1, .iconst 0), (1, .istore_n 2, 1, .istore 2), (2, .aload_n 0, 1, .aload 0), (3, .arraylength, 1, .arraylength), (4, .istore_n 3, 1, .istore 3), (5, .iload_n 2, 1, .iload 2), (6, .iload_n 3, 1, .iload 3), (7, .if_icmp .ge 13, 3, .if_icmp .ge (.ofNat 14)), (10, .aload_n 0, 1, .aload 0), (11, .iload_n 2, 1, .iload 2), (12, .iload_n 1, 1, .iload 1), (13, .iastore, 1, .iastore), (14, .iinc 2 1, 3, .iinc 2 1), (17, .goto (-12), 3, .jsr_w 5), (20, .return_, 1, .return_)]
def kB87 : x_R := [(0, .new 7, 3, .new 11), (3, .dup, 1, .dup), (4, .invokespecial 9, 3, .invokespecial 185), (7, .astore_n 1, 1, .astore 1), (8, .new 10, 3, .new 0), (11, .dup, 1, .dup), (12, .invokespecial 12, 3, .invokespecial 0), (15, .astore_n 2, 1, .astore 2), (16, .iconst 0, 1, .iconst 0), (17, .istore_n 3, 1, .istore 3), (18, .iload_n 3, 1, .iload 3), (19, .aload_n 0, 1, .aload 0), (20, .arraylength, 1, .arraylength), (21, .bipush 6, 2, .iconst 6), (23, .isub, 1, .isub), (24, .if_icmp .gt 815, 3, .if_icmp .gt (.ofNat 531)), (27, .aload_n 0, 1, .aload 0), (28, .iload_n 3, 1, .iload 3), (29, .iaload, 1, .iaload), (30, .bipush 31, 2, .iconst 31), (32, .iand, 1, .iand), (33, .tableswitch 800 0 26 #[123, 146, 179, 212, 255, 318, 341, 354, 377, 390, 403, 416, 429, 442, 475, 508, 531, 554, 587, 610, 643, 656, 689, 712, 725, 738, 777], 123, .tableswitch 529 0 26 #[22, 39, 66, 93, 130, 187, 204, 211, 228, 235, 242, 249, 256, 263, 290, 317, 334, 351, 378, 395, 422, 429, 456, 473, 480, 487, 512]), (156, .aload_n 1, 1, .aload 1), (157, .aload_n 0, 1, .aload 0), (158, .iload_n 3, 1, .iload 3), (159, .iconst 1, 1, .iconst 1), (160, .iadd, 1, .iadd), (161, .iaload, 1, .iaload), (162, .invokevirtual 13, 3, .invokevirtual 186), (165, .aload_n 2, 1, .aload 2), (166, .aload_n 0, 1, .aload 0), (167, .iload_n 3, 1, .iload 3), (168, .iconst 1, 1, .iconst 1), (169, .iadd, 1, .iadd), (170, .iaload, 1, .iaload), (171, .invokevirtual 17, 3, .invokevirtual 4), (174, .if_icmp .eq 659, 3, .if_icmp .eq (.ofNat 529)), (177, .iconst 0, 1, .iconst 0), (178, .ireturn, 1, .areturn), (179, .aload_n 1, 1, .aload 1), (180, .aload_n 0, 1, .aload 0), (181, .iload_n 3, 1, .iload 3), (182, .iconst 1, 1, .iconst 1), (183, .iadd, 1, .iadd), (184, .iaload, 1, .iaload), (185, .aload_n 0, 1, .aload 0), (186, .iload_n 3, 1, .iload 3), (187, .iconst 2, 1, .iconst 2), (188, .iadd, 1, .iadd), (189, .iaload, 1, .iaload), (190, .invokevirtual 18, 3, .invokevirtual 187), (193, .aload_n 2, 1, .aload 2), (194, .aload_n 0, 1, .aload 0), (195, .iload_n 3, 1, .iload 3), (196, .iconst 1, 1, .iconst 1), (197, .iadd, 1, .iadd), (198, .iaload, 1, .iaload), (199, .aload_n 0, 1, .aload 0), (200, .iload_n 3, 1, .iload 3), (201, .iconst 2, 1, .iconst 2), (202, .iadd, 1, .iadd), (203, .iaload, 1, .iaload), (204, .invokevirtual 22, 3, .invokevirtual 8), (207, .if_icmp .eq 626, 3, .if_icmp .eq (.ofNat 529)), (210, .iconst 0, 1, .iconst 0), (211, .ireturn, 1, .areturn), (212, .aload_n 1, 1, .aload 1), (213, .aload_n 0, 1, .aload 0), (214, .iload_n 3, 1, .iload 3), (215, .iconst 1, 1, .iconst 1), (216, .iadd, 1, .iadd), (217, .iaload, 1, .iaload), (218, .aload_n 0, 1, .aload 0), (219, .iload_n 3, 1, .iload 3), (220, .iconst 2, 1, .iconst 2), (221, .iadd, 1, .iadd), (222, .iaload, 1, .iaload), (223, .invokevirtual 23, 3, .invokevirtual 188), (226, .aload_n 2, 1, .aload 2), (227, .aload_n 0, 1, .aload 0), (228, .iload_n 3, 1, .iload 3), (229, .iconst 1, 1, .iconst 1), (230, .iadd, 1, .iadd), (231, .iaload, 1, .iaload), (232, .aload_n 0, 1, .aload 0), (233, .iload_n 3, 1, .iload 3), (234, .iconst 2, 1, .iconst 2), (235, .iadd, 1, .iadd), (236, .iaload, 1, .iaload), (237, .invokevirtual 27, 3, .invokevirtual 9), (240, .if_icmp .eq 593, 3, .if_icmp .eq (.ofNat 529)), (243, .iconst 0, 1, .iconst 0), (244, .ireturn, 1, .areturn), (245, .aload_n 1, 1, .aload 1), (246, .aload_n 0, 1, .aload 0), (247, .iload_n 3, 1, .iload 3), (248, .iconst 1, 1, .iconst 1), (249, .iadd, 1, .iadd), (250, .iaload, 1, .iaload), (251, .aload_n 0, 1, .aload 0), (252, .iload_n 3, 1, .iload 3), (253, .iconst 2, 1, .iconst 2), (254, .iadd, 1, .iadd), (255, .iaload, 1, .iaload), (256, .aload_n 0, 1, .aload 0), (257, .iload_n 3, 1, .iload 3), (258, .iconst 3, 1, .iconst 3), (259, .iadd, 1, .iadd), (260, .iaload, 1, .iaload), (261, .invokevirtual 28, 3, .invokevirtual 189), (264, .aload_n 2, 1, .aload 2), (265, .aload_n 0, 1, .aload 0), (266, .iload_n 3, 1, .iload 3), (267, .iconst 1, 1, .iconst 1), (268, .iadd, 1, .iadd), (269, .iaload, 1, .iaload), (270, .aload_n 0, 1, .aload 0), (271, .iload_n 3, 1, .iload 3), (272, .iconst 2, 1, .iconst 2), (273, .iadd, 1, .iadd), (274, .iaload, 1, .iaload), (275, .aload_n 0, 1, .aload 0), (276, .iload_n 3, 1, .iload 3), (277, .iconst 3, 1, .iconst 3), (278, .iadd, 1, .iadd), (279, .iaload, 1, .iaload), (280, .invokevirtual 32, 3, .invokevirtual 11), (283, .if_icmp .eq 550, 3, .if_icmp .eq (.ofNat 529)), (286, .iconst 0, 1, .iconst 0), (287, .ireturn, 1, .areturn), (288, .aload_n 1, 1, .aload 1), (289, .aload_n 0, 1, .aload 0), (290, .iload_n 3, 1, .iload 3), (291, .iconst 1, 1, .iconst 1), (292, .iadd, 1, .iadd), (293, .iaload, 1, .iaload), (294, .aload_n 0, 1, .aload 0), (295, .iload_n 3, 1, .iload 3), (296, .iconst 2, 1, .iconst 2), (297, .iadd, 1, .iadd), (298, .iaload, 1, .iaload), (299, .aload_n 0, 1, .aload 0), (300, .iload_n 3, 1, .iload 3), (301, .iconst 3, 1, .iconst 3), (302, .iadd, 1, .iadd), (303, .iaload, 1, .iaload), (304, .aload_n 0, 1, .aload 0), (305, .iload_n 3, 1, .iload 3), (306, .iconst 4, 1, .iconst 4), (307, .iadd, 1, .iadd), (308, .iaload, 1, .iaload), (309, .aload_n 0, 1, .aload 0), (310, .iload_n 3, 1, .iload 3), (311, .iconst 5, 1, .iconst 5), (312, .iadd, 1, .iadd), (313, .iaload, 1, .iaload), (314, .invokevirtual 33, 3, .invokevirtual 190), (317, .aload_n 2, 1, .aload 2), (318, .aload_n 0, 1, .aload 0), (319, .iload_n 3, 1, .iload 3), (320, .iconst 1, 1, .iconst 1), (321, .iadd, 1, .iadd), (322, .iaload, 1, .iaload), (323, .aload_n 0, 1, .aload 0), (324, .iload_n 3, 1, .iload 3), (325, .iconst 2, 1, .iconst 2), (326, .iadd, 1, .iadd), (327, .iaload, 1, .iaload), (328, .aload_n 0, 1, .aload 0), (329, .iload_n 3, 1, .iload 3), (330, .iconst 3, 1, .iconst 3), (331, .iadd, 1, .iadd), (332, .iaload, 1, .iaload), (333, .aload_n 0, 1, .aload 0), (334, .iload_n 3, 1, .iload 3), (335, .iconst 4, 1, .iconst 4), (336, .iadd, 1, .iadd), (337, .iaload, 1, .iaload), (338, .aload_n 0, 1, .aload 0), (339, .iload_n 3, 1, .iload 3), (340, .iconst 5, 1, .iconst 5), (341, .iadd, 1, .iadd), (342, .iaload, 1, .iaload), (343, .invokevirtual 37, 3, .invokevirtual 20), (346, .if_icmp .eq 487, 3, .if_icmp .eq (.ofNat 529)), (349, .iconst 0, 1, .iconst 0), (350, .ireturn, 1, .areturn), (351, .aload_n 1, 1, .aload 1), (352, .aload_n 0, 1, .aload 0), (353, .iload_n 3, 1, .iload 3), (354, .iconst 1, 1, .iconst 1), (355, .iadd, 1, .iadd), (356, .iaload, 1, .iaload), (357, .invokevirtual 38, 3, .invokevirtual 191), (360, .aload_n 2, 1, .aload 2), (361, .aload_n 0, 1, .aload 0), (362, .iload_n 3, 1, .iload 3), (363, .iconst 1, 1, .iconst 1), (364, .iadd, 1, .iadd), (365, .iaload, 1, .iaload), (366, .invokevirtual 42, 3, .invokevirtual 21), (369, .if_icmp .eq 464, 3, .if_icmp .eq (.ofNat 529)), (372, .iconst 0, 1, .iconst 0), (373, .ireturn, 1, .areturn), (374, .aload_n 1, 1, .aload 1), (375, .invokevirtual 43, 3, .invokevirtual 192), (378, .aload_n 2, 1, .aload 2), (379, .invokevirtual 47, 3, .invokevirtual 40), (382, .if_icmp .eq 451, 3, .if_icmp .eq (.ofNat 529)), (385, .iconst 0, 1, .iconst 0), (386, .ireturn, 1, .areturn), (387, .aload_n 1, 1, .aload 1), (388, .aload_n 0, 1, .aload 0), (389, .iload_n 3, 1, .iload 3), (390, .iconst 1, 1, .iconst 1), (391, .iadd, 1, .iadd), (392, .iaload, 1, .iaload), (393, .invokevirtual 48, 3, .invokevirtual 193), (396, .aload_n 2, 1, .aload 2), (397, .aload_n 0, 1, .aload 0), (398, .iload_n 3, 1, .iload 3), (399, .iconst 1, 1, .iconst 1), (400, .iadd, 1, .iadd), (401, .iaload, 1, .iaload), (402, .invokevirtual 51, 3, .invokevirtual 41), (405, .if_icmp .eq 428, 3, .if_icmp .eq (.ofNat 529)), (408, .iconst 0, 1, .iconst 0), (409, .ireturn, 1, .areturn), (410, .aload_n 1, 1, .aload 1), (411, .invokevirtual 52, 3, .invokevirtual 194), (414, .aload_n 2, 1, .aload 2), (415, .invokevirtual 55, 3, .invokevirtual 15), (418, .if_icmp .eq 415, 3, .if_icmp .eq (.ofNat 529)), (421, .iconst 0, 1, .iconst 0), (422, .ireturn, 1, .areturn), (423, .aload_n 1, 1, .aload 1), (424, .invokevirtual 56, 3, .invokevirtual 195), (427, .aload_n 2, 1, .aload 2), (428, .invokevirtual 59, 3, .invokevirtual 16), (431, .if_icmp .eq 402, 3, .if_icmp .eq (.ofNat 529)), (434, .iconst 0, 1, .iconst 0), (435, .ireturn, 1, .areturn), (436, .aload_n 1, 1, .aload 1), (437, .invokevirtual 60, 3, .invokevirtual 196), (440, .aload_n 2, 1, .aload 2), (441, .invokevirtual 63, 3, .invokevirtual 17), (444, .if_icmp .eq 389, 3, .if_icmp .eq (.ofNat 529)), (447, .iconst 0, 1, .iconst 0), (448, .ireturn, 1, .areturn), (449, .aload_n 1, 1, .aload 1), (450, .invokevirtual 64, 3, .invokevirtual 197), (453, .aload_n 2, 1, .aload 2), (454, .invokevirtual 67, 3, .invokevirtual 54), (457, .if_icmp .eq 376, 3, .if_icmp .eq (.ofNat 529)), (460, .iconst 0, 1, .iconst 0), (461, .ireturn, 1, .areturn), (462, .aload_n 1, 1, .aload 1), (463, .invokevirtual 68, 3, .invokevirtual 198), (466, .aload_n 2, 1, .aload 2), (467, .invokevirtual 71, 3, .invokevirtual 55), (470, .if_icmp .eq 363, 3, .if_icmp .eq (.ofNat 529)), (473, .iconst 0, 1, .iconst 0), (474, .ireturn, 1, .areturn), (475, .aload_n 1, 1, .aload 1), (476, .aload_n 0, 1, .aload 0), (477, .iload_n 3, 1, .iload 3), (478, .iconst 1, 1, .iconst 1), (479, .iadd, 1, .iadd), (480, .iaload, 1, .iaload), (481, .aload_n 0, 1, .aload 0), (482, .iload_n 3, 1, .iload 3), (483, .iconst 2, 1, .iconst 2), (484, .iadd, 1, .iadd), (485, .iaload, 1, .iaload), (486, .invokevirtual 72, 3, .invokevirtual 199), (489, .aload_n 2, 1, .aload 2), (490, .aload_n 0, 1, .aload 0), (491, .iload_n 3, 1, .iload 3), (492, .iconst 1, 1, .iconst 1), (493, .iadd, 1, .iadd), (494, .iaload, 1, .iaload), (495, .aload_n 0, 1, .aload 0), (496, .iload_n 3, 1, .iload 3), (497, .iconst 2, 1, .iconst 2), (498, .iadd, 1, .iadd), (499, .iaload, 1, .iaload), (500, .invokevirtual 75, 3, .invokevirtual 58), (503, .if_icmp .eq 330, 3, .if_icmp .eq (.ofNat 529)), (506, .iconst 0, 1, .iconst 0), (507, .ireturn, 1, .areturn), (508, .aload_n 1, 1, .aload 1), (509, .aload_n 0, 1, .aload 0), (510, .iload_n 3, 1, .iload 3), (511, .iconst 1, 1, .iconst 1), (512, .iadd, 1, .iadd), (513, .iaload, 1, .iaload), (514, .aload_n 0, 1, .aload 0), (515, .iload_n 3, 1, .iload 3), (516, .iconst 2, 1, .iconst 2), (517, .iadd, 1, .iadd), (518, .iaload, 1, .iaload), (519, .invokevirtual 76, 3, .invokevirtual 200), (522, .aload_n 2, 1, .aload 2), (523, .aload_n 0, 1, .aload 0), (524, .iload_n 3, 1, .iload 3), (525, .iconst 1, 1, .iconst 1), (526, .iadd, 1, .iadd), (527, .iaload, 1, .iaload), (528, .aload_n 0, 1, .aload 0), (529, .iload_n 3, 1, .iload 3), (530, .iconst 2, 1, .iconst 2), (531, .iadd, 1, .iadd), (532, .iaload, 1, .iaload), (533, .invokevirtual 79, 3, .invokevirtual 59), (536, .if_icmp .eq 297, 3, .if_icmp .eq (.ofNat 529)), (539, .iconst 0, 1, .iconst 0), (540, .ireturn, 1, .areturn), (541, .aload_n 1, 1, .aload 1), (542, .aload_n 0, 1, .aload 0), (543, .iload_n 3, 1, .iload 3), (544, .iconst 1, 1, .iconst 1), (545, .iadd, 1, .iadd), (546, .iaload, 1, .iaload), (547, .invokevirtual 80, 3, .invokevirtual 201), (550, .aload_n 2, 1, .aload 2), (551, .aload_n 0, 1, .aload 0), (552, .iload_n 3, 1, .iload 3), (553, .iconst 1, 1, .iconst 1), (554, .iadd, 1, .iadd), (555, .iaload, 1, .iaload), (556, .invokevirtual 83, 3, .invokevirtual 60), (559, .if_icmp .eq 274, 3, .if_icmp .eq (.ofNat 529)), (562, .iconst 0, 1, .iconst 0), (563, .ireturn, 1, .areturn), (564, .aload_n 1, 1, .aload 1), (565, .aload_n 0, 1, .aload 0), (566, .iload_n 3, 1, .iload 3), (567, .iconst 1, 1, .iconst 1), (568, .iadd, 1, .iadd), (569, .iaload, 1, .iaload), (570, .invokevirtual 84, 3, .invokevirtual 202), (573, .aload_n 2, 1, .aload 2), (574, .aload_n 0, 1, .aload 0), (575, .iload_n 3, 1, .iload 3), (576, .iconst 1, 1, .iconst 1), (577, .iadd, 1, .iadd), (578, .iaload, 1, .iaload), (579, .invokevirtual 87, 3, .invokevirtual 61), (582, .if_icmp .eq 251, 3, .if_icmp .eq (.ofNat 529)), (585, .iconst 0, 1, .iconst 0), (586, .ireturn, 1, .areturn), (587, .aload_n 1, 1, .aload 1), (588, .aload_n 0, 1, .aload 0), (589, .iload_n 3, 1, .iload 3), (590, .iconst 1, 1, .iconst 1), (591, .iadd, 1, .iadd), (592, .iaload, 1, .iaload), (593, .aload_n 0, 1, .aload 0), (594, .iload_n 3, 1, .iload 3), (595, .iconst 2, 1, .iconst 2), (596, .iadd, 1, .iadd), (597, .iaload, 1, .iaload), (598, .invokevirtual 88, 3, .invokevirtual 203), (601, .aload_n 2, 1, .aload 2), (602, .aload_n 0, 1, .aload 0), (603, .iload_n 3, 1, .iload 3), (604, .iconst 1, 1, .iconst 1), (605, .iadd, 1, .iadd), (606, .iaload, 1, .iaload), (607, .aload_n 0, 1, .aload 0), (608, .iload_n 3, 1, .iload 3), (609, .iconst 2, 1, .iconst 2), (610, .iadd, 1, .iadd), (611, .iaload, 1, .iaload), (612, .invokevirtual 91, 3, .invokevirtual 62), (615, .if_icmp .eq 218, 3, .if_icmp .eq (.ofNat 529)), (618, .iconst 0, 1, .iconst 0), (619, .ireturn, 1, .areturn), (620, .aload_n 1, 1, .aload 1), (621, .aload_n 0, 1, .aload 0), (622, .iload_n 3, 1, .iload 3), (623, .iconst 1, 1, .iconst 1), (624, .iadd, 1, .iadd), (625, .iaload, 1, .iaload), (626, .invokevirtual 92, 3, .invokevirtual 204), (629, .aload_n 2, 1, .aload 2), (630, .aload_n 0, 1, .aload 0), (631, .iload_n 3, 1, .iload 3), (632, .iconst 1, 1, .iconst 1), (633, .iadd, 1, .iadd), (634, .iaload, 1, .iaload), (635, .invokevirtual 95, 3, .invokevirtual 67), (638, .if_icmp .eq 195, 3, .if_icmp .eq (.ofNat 529)), (641, .iconst 0, 1, .iconst 0), (642, .ireturn, 1, .areturn), (643, .aload_n 1, 1, .aload 1), (644, .aload_n 0, 1, .aload 0), (645, .iload_n 3, 1, .iload 3), (646, .iconst 1, 1, .iconst 1), (647, .iadd, 1, .iadd), (648, .iaload, 1, .iaload), (649, .aload_n 0, 1, .aload 0), (650, .iload_n 3, 1, .iload 3), (651, .iconst 2, 1, .iconst 2), (652, .iadd, 1, .iadd), (653, .iaload, 1, .iaload), (654, .invokevirtual 96, 3, .invokevirtual 205), (657, .aload_n 2, 1, .aload 2), (658, .aload_n 0, 1, .aload 0), (659, .iload_n 3, 1, .iload 3), (660, .iconst 1, 1, .iconst 1), (661, .iadd, 1, .iadd), (662, .iaload, 1, .iaload), (663, .aload_n 0, 1, .aload 0), (664, .iload_n 3, 1, .iload 3), (665, .iconst 2, 1, .iconst 2), (666, .iadd, 1, .iadd), (667, .iaload, 1, .iaload), (668, .invokevirtual 99, 3, .invokevirtual 71), (671, .if_icmp .eq 162, 3, .if_icmp .eq (.ofNat 529)), (674, .iconst 0, 1, .iconst 0), (675, .ireturn, 1, .areturn), (676, .aload_n 1, 1, .aload 1), (677, .invokevirtual 100, 3, .invokevirtual 206), (680, .aload_n 2, 1, .aload 2), (681, .invokevirtual 103, 3, .invokevirtual 72), (684, .if_icmp .eq 149, 3, .if_icmp .eq (.ofNat 529)), (687, .iconst 0, 1, .iconst 0), (688, .ireturn, 1, .areturn), (689, .aload_n 1, 1, .aload 1), (690, .aload_n 0, 1, .aload 0), (691, .iload_n 3, 1, .iload 3), (692, .iconst 1, 1, .iconst 1), (693, .iadd, 1, .iadd), (694, .iaload, 1, .iaload), (695, .aload_n 0, 1, .aload 0), (696, .iload_n 3, 1, .iload 3), (697, .iconst 2, 1, .iconst 2), (698, .iadd, 1, .iadd), (699, .iaload, 1, .iaload), (700, .invokevirtual 104, 3, .invokevirtual 207), (703, .aload_n 2, 1, .aload 2), (704, .aload_n 0, 1, .aload 0), (705, .iload_n 3, 1, .iload 3), (706, .iconst 1, 1, .iconst 1), (707, .iadd, 1, .iadd), (708, .iaload, 1, .iaload), (709, .aload_n 0, 1, .aload 0), (710, .iload_n 3, 1, .iload 3), (711, .iconst 2, 1, .iconst 2), (712, .iadd, 1, .iadd), (713, .iaload, 1, .iaload), (714, .invokevirtual 107, 3, .invokevirtual 75), (717, .if_icmp .eq 116, 3, .if_icmp .eq (.ofNat 529)), (720, .iconst 0, 1, .iconst 0), (721, .ireturn, 1, .areturn), (722, .aload_n 1, 1, .aload 1), (723, .aload_n 0, 1, .aload 0), (724, .iload_n 3, 1, .iload 3), (725, .iconst 1, 1, .iconst 1), (726, .iadd, 1, .iadd), (727, .iaload, 1, .iaload), (728, .invokevirtual 108, 3, .invokevirtual 208), (731, .aload_n 2, 1, .aload 2), (732, .aload_n 0, 1, .aload 0), (733, .iload_n 3, 1, .iload 3), (734, .iconst 1, 1, .iconst 1), (735, .iadd, 1, .iadd), (736, .iaload, 1, .iaload), (737, .invokevirtual 111, 3, .invokevirtual 78), (740, .if_icmp .eq 93, 3, .if_icmp .eq (.ofNat 529)), (743, .iconst 0, 1, .iconst 0), (744, .ireturn, 1, .areturn), (745, .aload_n 1, 1, .aload 1), (746, .invokevirtual 112, 3, .invokevirtual 209), (749, .aload_n 2, 1, .aload 2), (750, .invokevirtual 115, 3, .invokevirtual 79), (753, .if_icmp .eq 80, 3, .if_icmp .eq (.ofNat 529)), (756, .iconst 0, 1, .iconst 0), (757, .ireturn, 1, .areturn), (758, .aload_n 1, 1, .aload 1), (759, .invokevirtual 116, 3, .invokevirtual 210), (762, .aload_n 2, 1, .aload 2), (763, .invokevirtual 120, 3, .invokevirtual 3), (766, .if_icmp .eq 67, 3, .if_icmp .eq (.ofNat 529)), (769, .iconst 0, 1, .iconst 0), (770, .ireturn, 1, .areturn), (771, .aload_n 1, 1, .aload 1), (772, .aload_n 0, 1, .aload 0), (773, .iload_n 3, 1, .iload 3), (774, .iconst 1, 1, .iconst 1), (775, .iadd, 1, .iadd), (776, .iaload, 1, .iaload), (777, .ifCond .eq 7, 3, .ifCond .eq (.ofNat 496)), (780, .iconst 1, 1, .iconst 1), (781, .goto 4, 3, .goto 497), (784, .iconst 0, 1, .iconst 0), (785, .invokevirtual 121, 3, .invokevirtual 211), (788, .aload_n 2, 1, .aload 2), (789, .aload_n 0, 1, .aload 0), (790, .iload_n 3, 1, .iload 3), (791, .iconst 1, 1, .iconst 1), (792, .iadd, 1, .iadd), (793, .iaload, 1, .iaload), (794, .ifCond .eq 7, 3, .ifCond .eq (.ofNat 507)), (797, .iconst 1, 1, .iconst 1), (798, .goto 4, 3, .goto 508), (801, .iconst 0, 1, .iconst 0), (802, .invokevirtual 125, 3, .invokevirtual 83), (805, .if_icmp .eq 28, 3, .if_icmp .eq (.ofNat 529)), (808, .iconst 0, 1, .iconst 0), (809, .ireturn, 1, .areturn), (810, .aload_n 1, 1, .aload 1), (811, .aload_n 0, 1, .aload 0), (812, .iload_n 3, 1, .iload 3), (813, .iconst 1, 1, .iconst 1), (814, .iadd, 1, .iadd), (815, .iaload, 1, .iaload), (816, .invokevirtual 126, 3, .invokevirtual 212), (819, .aload_n 2, 1, .aload 2), (820, .aload_n 0, 1, .aload 0), (821, .iload_n 3, 1, .iload 3), (822, .iconst 1, 1, .iconst 1), (823, .iadd, 1, .iadd), (824, .iaload, 1, .iaload), (825, .invokevirtual 129, 3, .invokevirtual 84), (828, .if_icmp .eq 5, 3, .if_icmp .eq (.ofNat 529)), (831, .iconst 0, 1, .iconst 0), (832, .ireturn, 1, .areturn), (833, .iinc 3 6, 3, .iinc 3 6), (836, .goto (-818), 3, .jsr_w 10), (839, .iconst 1, 1, .iconst 1), (840, .ireturn, 1, .areturn)]
def kB88 : x_R := [(0, .aload_n 0, 1, .aload 0), (1, .invokespecial 3, 3, .pop), (4, .aload_n 0, 1, .aload 0), (5, .iconst 3, 1, .iconst 3), (6, .newarray .int, 2, .newarray .int), (8, .putfield 9, 3, .multianewarray 1 2001), (11, .aload_n 0, 1, .aload 0), (12, .bipush 8, 2, .iconst 8), (14, .newarray .int, 2, .newarray .int), (16, .putfield 15, 3, .multianewarray 1 2004), (19, .aload_n 0, 1, .aload 0), (20, .aload_n 1, 1, .aload 1), (21, .putfield 18, 3, .multianewarray 1 2002), (24, .aload_n 0, 1, .aload 0), (25, .aload_n 2, 1, .aload 2), (26, .putfield 22, 3, .multianewarray 1 2003), (29, .return_, 1, .return_)]
def kB89 : x_R := [(0, .aload_n 0, 1, .aload 0), (1, .iconst 1, 1, .iconst 1), (2, .putfield 26, 3, .multianewarray 1 1000), (5, .aload_n 0, 1, .aload 0), (6, .getfield 9, 3, .invokeinterface 1 1), (9, .iconst (-1), 1, .iconst (-1)), (10, .invokestatic 30, 3, .invokestatic 86), (13, .aload_n 0, 1, .aload 0), (14, .getfield 9, 3, .invokeinterface 1 1), (17, .iconst 0, 1, .iconst 0), (18, .iconst 0, 1, .iconst 0), (19, .iastore, 1, .iastore), (20, .aload_n 0, 1, .aload 0), (21, .getfield 22, 3, .invokeinterface 1 3), (24, .invokevirtual 36, 3, .invokevirtual 140), (27, .aload_n 0, 1, .aload 0), (28, .getfield 22, 3, .invokeinterface 1 3), (31, .aload_n 0, 1, .aload 0), (32, .getfield 18, 3, .invokeinterface 1 2), (35, .getfield 41, 3, .invokeinterface 3 9), (38, .aload_n 0, 1, .aload 0), (39, .getfield 15, 3, .invokeinterface 1 4), (42, .invokevirtual 47, 3, .invokevirtual 152), (45, .iconst 0, 1, .iconst 0), (46, .istore_n 1, 1, .istore 1), (47, .iload_n 1, 1, .iload 1), (48, .bipush 29, 2, .iconst 29), (50, .if_icmp .ge 71, 3, .if_icmp .ge (.ofNat 61)), (53, .aload_n 0, 1, .aload 0), (54, .getfield 18, 3, .invokeinterface 1 2), (57, .getfield 41, 3, .invokeinterface 3 9), (60, .iload_n 1, 1, .iload 1), (61, .invokevirtual 51, 3, .invokevirtual 175), (64, .ifCond .ne 6, 3, .ifCond .ne (.ofNat 35)), (67, .goto 48, 3, .goto 59), (70, .iload_n 1, 1, .iload 1), (71, .iconst 1, 1, .iconst 1), (72, .iadd, 1, .iadd), (73, .istore_n 2, 1, .istore 2), (74, .iload_n 2, 1, .iload 2), (75, .bipush 29, 2, .iconst 29), (77, .if_icmp .ge 38, 3, .if_icmp .ge (.ofNat 59)), (80, .aload_n 0, 1, .aload 0), (81, .getfield 18, 3, .invokeinterface 1 2), (84, .getfield 41, 3, .invokeinterface 3 9), (87, .iload_n 2, 1, .iload 2), (88, .invokevirtual 51, 3, .invokevirtual 175), (91, .ifCond .eq 18, 3, .ifCond .eq (.ofNat 57)), (94, .aload_n 0, 1, .aload 0), (95, .iload_n 1, 1, .iload 1), (96, .iload_n 2, 1, .iload 2), (97, .invokevirtual 57, 3, .invokevirtual 91), (100, .ifCond .eq 9, 3, .ifCond .eq (.ofNat 57)), (103, .aload_n 0, 1, .aload 0), (104, .iload_n 1, 1, .iload 1), (105, .iload_n 2, 1, .iload 2), (106, .invokevirtual 61, 3, .invokevirtual 90), (109, .iinc 2 1, 3, .iinc 2 1), (112, .goto (-38), 3, .jsr_w 39), (115, .iinc 1 1, 3, .iinc 1 1), (118, .goto (-71), 3, .jsr_w 25), (121, .return_, 1, .return_)]
def kB90 : x_R := [(0, .aload_n 0, 1, .aload 0), (1, .getfield 9, 3, .invokeinterface 1 1), (4, .iconst 0, 1, .iconst 0), (5, .iaload, 1, .iaload), (6, .ifCond .ne 17, 3, .ifCond .ne (.ofNat 15)), (9, .aload_n 0, 1, .aload 0), (10, .getfield 9, 3, .invokeinterface 1 1), (13, .iconst 1, 1, .iconst 1), (14, .iload_n 1, 1, .iload 1), (15, .iastore, 1, .iastore), (16, .aload_n 0, 1, .aload 0), (17, .getfield 9, 3, .invokeinterface 1 1), (20, .iconst 2, 1, .iconst 2), (21, .iload_n 2, 1, .iload 2), (22, .iastore, 1, .iastore), (23, .aload_n 0, 1, .aload 0), (24, .getfield 9, 3, .invokeinterface 1 1), (27, .iconst 0, 1, .iconst 0), (28, .dup2, 1, .dup2), (29, .iaload, 1, .iaload), (30, .iconst 1, 1, .iconst 1), (31, .iadd, 1, .iadd), (32, .iastore, 1, .iastore), (33, .return_, 1, .return_)]
def kB91 : x_R := [(0, .aload_n 0, 1, .aload 0), (1, .getfield 18, 3, .invokeinterface 1 2), (4, .getfield 65, 3, .invokeinterface 3 6), (7, .iload_n 1, 1, .iload 1), (8, .iaload, 1, .iaload), (9, .istore_n 3, 1, .istore 3), (10, .aload_n 0, 1, .aload 0), (11, .getfield 18, 3, .invokeinterface 1 2), (14, .getfield 65, 3, .invokeinterface 3 6), (17, .iload_n 2, 1, .iload 2), (18, .iaload, 1, .iaload), (19, .istore 4, 2, .istore 4), (21, .iload_n 3, 1, .iload 3), (22, .iload 4, 2, .iload 4), (24, .if_icmp .eq 26, 3, .if_icmp .eq (.ofNat 25)), (27, .aload_n 0, 1, .aload 0), (28, .getfield 18, 3, .invokeinterface 1 2), (31, .iload_n 3, 1, .iload 3), (32, .invokevirtual 68, 3, .invokevirtual 98), (35, .ifCond .eq 15, 3, .ifCond .eq (.ofNat 25)), (38, .aload_n 0, 1, .aload 0), (39, .getfield 18, 3, .invokeinterface 1 2), (42, .iload 4, 2, .iload 4), (44, .invokevirtual 68, 3, .invokevirtual 98), (47, .ifCond .ne 5, 3, .ifCond .ne (.ofNat 27)), (50, .iconst 0, 1, .iconst 0), (51, .ireturn, 1, .areturn), (52, .aload_n 0, 1, .aload 0), (53, .iload_n 1, 1, .iload 1), (54, .iload 4, 2, .iload 4), (56, .iload_n 2, 1, .iload 2), (57, .iload_n 3, 1, .iload 3), (58, .invokevirtual 71, 3, .invokevirtual 92), (61, .aload_n 0, 1, .aload 0), (62, .getfield 22, 3, .invokeinterface 1 3), (65, .aload_n 0, 1, .aload 0), (66, .getfield 18, 3, .invokeinterface 1 2), (69, .getfield 41, 3, .invokeinterface 3 9), (72, .iconst 0, 1, .iconst 0), (73, .iload_n 3, 1, .iload 3), (74, .invokevirtual 75, 3, .invokevirtual 150), (77, .aload_n 0, 1, .aload 0), (78, .getfield 15, 3, .invokeinterface 1 4), (81, .iload_n 3, 1, .iload 3), (82, .iaload, 1, .iaload), (83, .if_icmp .le 34, 3, .if_icmp .le (.ofNat 61)), (86, .aload_n 0, 1, .aload 0), (87, .getfield 22, 3, .invokeinterface 1 3), (90, .aload_n 0, 1, .aload 0), (91, .getfield 18, 3, .invokeinterface 1 2), (94, .getfield 41, 3, .invokeinterface 3 9), (97, .iconst 0, 1, .iconst 0), (98, .iload 4, 2, .iload 4), (100, .invokevirtual 75, 3, .invokevirtual 150), (103, .aload_n 0, 1, .aload 0), (104, .getfield 15, 3, .invokeinterface 1 4), (107, .iload 4, 2, .iload 4), (109, .iaload, 1, .iaload), (110, .if_icmp .le 7, 3, .if_icmp .le (.ofNat 61)), (113, .iconst 1, 1, .iconst 1), (114, .goto 4, 3, .goto 62), (117, .iconst 0, 1, .iconst 0), (118, .istore 5, 2, .istore 5), (120, .aload_n 0, 1, .aload 0), (121, .iload_n 1, 1, .iload 1), (122, .iload_n 3, 1, .iload 3), (123, .iload_n 2, 1, .iload 2), (124, .iload 4, 2, .iload 4), (126, .invokevirtual 71, 3, .invokevirtual 92), (129, .iload 5, 2, .iload 5), (131, .ireturn, 1, .areturn)]
def kB92 : x_R := [(0, .aload_n 0, 1, .aload 0), (1, .getfield 18, 3, .invokeinterface 1 2), (4, .getfield 65, 3, .invokeinterface 3 6), (7, .iload_n 1, 1, .iload 1), (8, .iload_n 2, 1, .iload 2), (9, .iastore, 1, .iastore), (10, .aload_n 0, 1, .aload 0), (11, .getfield 18, 3, .invokeinterface 1 2), (14, .getfield 65, 3, .invokeinterface 3 6), (17, .iload_n 3, 1, .iload 3), (18, .iload 4, 2, .iload 4), (20, .iastore, 1, .iastore), (21, .aload_n 0, 1, .aload 0), (22, .getfield 22, 3, .invokeinterface 1 3), (25, .iload_n 1, 1, .iload 1), (26, .invokevirtual 79, 3, .invokevirtual 141), (29, .aload_n 0, 1, .aload 0), (30, .getfield 22, 3, .invokeinterface 1 3), (33, .iload_n 3, 1, .iload 3), (34, .invokevirtual 79, 3, .invokevirtual 141), (37, .return_, 1, .return_)]
def kB93 : x_R := [(0, .aload_n 0, 1, .aload 0), (1, .invokespecial 3, 3, .pop), (4, .aload_n 0, 1, .aload 0), (5, .iconst (-1), 1, .iconst (-1)), (6, .putfield 9, 3, .multianewarray 2 0), (9, .aload_n 0, 1, .aload 0), (10, .iconst 4, 1, .iconst 4), (11, .newarray .int, 2, .newarray .int), (13, .putfield 15, 3, .multianewarray 2 2001), (16, .aload_n 0, 1, .aload 0), (17, .new 19, 3, .new 8), (20, .dup, 1, .dup), (21, .bipush 60, 2, .iconst 60), (23, .invokespecial 21, 3, .invokespecial 169), (26, .putfield 24, 3, .multianewarray 2 2004), (29, .aload_n 0, 1, .aload 0), (30, .aload_n 1, 1, .aload 1), (31, .putfield 28, 3, .multianewarray 2 2002), (34, .aload_n 0, 1, .aload 0), (35, .aload_n 2, 1, .aload 2), (36, .putfield 32, 3, .multianewarray 2 2003), (39, .return_, 1, .return_)]
def kB94 : x_R := [(0, .aload_n 0, 1, .aload 0), (1, .iload_n 1, 1, .iload 1), (2, .putfield 9, 3, .multianewarray 2 0), (5, .aload_n 0, 1, .aload 0), (6, .getfield 15, 3, .invokeinterface 2 1), (9, .iconst (-1), 1, .iconst (-1)), (10, .invokestatic 36, 3, .invokestatic 86), (13, .aload_n 0, 1, .aload 0), (14, .getfield 32, 3, .invokeinterface 2 3), (17, .invokevirtual 42, 3, .invokevirtual 140), (20, .aload_n 0, 1, .aload 0), (21, .getfield 28, 3, .invokeinterface 2 2), (24, .getfield 47, 3, .invokeinterface 3 10), (27, .getfield 53, 3, .invokeinterface 10 2), (30, .istore_n 2, 1, .istore 2), (31, .iconst 0, 1, .iconst 0), (32, .istore_n 3, 1, .istore 3), (33, .iload_n 3, 1, .iload 3), (34, .iload_n 2, 1, .iload 2), (35, .if_icmp .ge 122, 3, .if_icmp .ge (.ofNat 83)), (38, .aload_n 0, 1, .aload 0), (39, .iload_n 3, 1, .iload 3), (40, .iconst 0, 1, .iconst 0), (41, .invokevirtual 58, 3, .invokevirtual 95), (44, .istore 4, 2, .istore 4), (46, .aload_n 0, 1, .aload 0), (47, .getfield 24, 3, .invokeinterface 2 4), (50, .getfield 62, 3, .invokeinterface 8 1), (53, .istore 5, 2, .istore 5), (55, .aload_n 0, 1, .aload 0), (56, .iload 4, 2, .iload 4), (58, .iload_n 3, 1, .iload 3), (59, .iconst (-1), 1, .iconst (-1)), (60, .iconst (-1), 1, .iconst (-1)), (61, .invokevirtual 65, 3, .invokevirtual 96), (64, .iload_n 3, 1, .iload 3), (65, .iconst 1, 1, .iconst 1), (66, .iadd, 1, .iadd), (67, .istore 6, 2, .istore 6), (69, .iload 6, 2, .iload 6), (71, .iload_n 2, 1, .iload 2), (72, .if_icmp .ge 79, 3, .if_icmp .ge (.ofNat 81)), (75, .iload 4, 2, .iload 4), (77, .aload_n 0, 1, .aload 0), (78, .iload 6, 2, .iload 6), (80, .iload 5, 2, .iload 5), (82, .invokevirtual 58, 3, .invokevirtual 95), (85, .iadd, 1, .iadd), (86, .istore 7, 2, .istore 7), (88, .aload_n 0, 1, .aload 0), (89, .getfield 24, 3, .invokeinterface 2 4), (92, .getfield 62, 3, .invokeinterface 8 1), (95, .istore 8, 2, .istore 8), (97, .aload_n 0, 1, .aload 0), (98, .iload 7, 2, .iload 7), (100, .iload_n 3, 1, .iload 3), (101, .iload 6, 2, .iload 6), (103, .iconst (-1), 1, .iconst (-1)), (104, .invokevirtual 65, 3, .invokevirtual 96), (107, .iload 6, 2, .iload 6), (109, .iconst 1, 1, .iconst 1), (110, .iadd, 1, .iadd), (111, .istore 9, 2, .istore 9), (113, .iload 9, 2, .iload 9), (115, .iload_n 2, 1, .iload 2), (116, .if_icmp .ge 29, 3, .if_icmp .ge (.ofNat 79)), (119, .aload_n 0, 1, .aload 0), (120, .iload 7, 2, .iload 7), (122, .aload_n 0, 1, .aload 0), (123, .iload 9, 2, .iload 9), (125, .iload 8, 2, .iload 8), (127, .invokevirtual 58, 3, .invokevirtual 95), (130, .iadd, 1, .iadd), (131, .iload_n 3, 1, .iload 3), (132, .iload 6, 2, .iload 6), (134, .iload 9, 2, .iload 9), (136, .invokevirtual 65, 3, .invokevirtual 96), (139, .iinc 9 1, 3, .iinc 9 1), (142, .goto (-29), 3, .jsr_w 63), (145, .iinc 6 1, 3, .iinc 6 1), (148, .goto (-79), 3, .jsr_w 39), (151, .iinc 3 1, 3, .iinc 3 1), (154, .goto (-121), 3, .jsr_w 17), (157, .return_, 1, .return_)]
end
section
def kB95 : x_R := [(0, .aload_n 0, 1, .aload 0), (1, .getfield 24, 3, .invokeinterface 2 4), (4, .iload_n 2, 1, .iload 2), (5, .putfield 62, 3, .multianewarray 8 1), (8, .iload_n 2, 1, .iload 2), (9, .ifCond .le 12, 3, .ifCond .le (.ofNat 10)), (12, .aload_n 0, 1, .aload 0), (13, .getfield 24, 3, .invokeinterface 2 4), (16, .bipush 29, 2, .iconst 29), (18, .invokevirtual 69, 3, .invokevirtual 173), (21, .aload_n 0, 1, .aload 0), (22, .getfield 24, 3, .invokeinterface 2 4), (25, .getfield 62, 3, .invokeinterface 8 1), (28, .istore_n 3, 1, .istore 3), (29, .iconst 0, 1, .iconst 0), (30, .istore 4, 2, .istore 4), (32, .iload 4, 2, .iload 4), (34, .aload_n 0, 1, .aload 0), (35, .getfield 28, 3, .invokeinterface 2 2), (38, .getfield 47, 3, .invokeinterface 3 10), (41, .iload_n 1, 1, .iload 1), (42, .invokevirtual 72, 3, .invokevirtual 182), (45, .if_icmp .ge 29, 3, .if_icmp .ge (.ofNat 34)), (48, .aload_n 0, 1, .aload 0), (49, .getfield 24, 3, .invokeinterface 2 4), (52, .aload_n 0, 1, .aload 0), (53, .getfield 28, 3, .invokeinterface 2 2), (56, .getfield 47, 3, .invokeinterface 3 10), (59, .iload_n 1, 1, .iload 1), (60, .iload 4, 2, .iload 4), (62, .invokevirtual 76, 3, .invokevirtual 183), (65, .invokevirtual 69, 3, .invokevirtual 173), (68, .iinc 4 1, 3, .iinc 4 1), (71, .goto (-39), 3, .jsr_w 16), (74, .aload_n 0, 1, .aload 0), (75, .getfield 32, 3, .invokeinterface 2 3), (78, .aload_n 0, 1, .aload 0), (79, .getfield 24, 3, .invokeinterface 2 4), (82, .iload_n 3, 1, .iload 3), (83, .aload_n 0, 1, .aload 0), (84, .getfield 9, 3, .invokeinterface 2 0), (87, .invokevirtual 79, 3, .invokevirtual 150), (90, .ireturn, 1, .ireturn)]
def kB96 : x_R := [(0, .iload_n 3, 1, .iload 3), (1, .iconst (-1), 1, .iconst (-1)), (2, .if_icmp .ne 13, 3, .if_icmp .ne (.ofNat 9)), (5, .aload_n 0, 1, .aload 0), (6, .getfield 15, 3, .invokeinterface 2 1), (9, .iconst 2, 1, .iconst 2), (10, .iaload, 1, .iaload), (11, .iconst (-1), 1, .iconst (-1)), (12, .if_icmp .ne 19, 3, .if_icmp .ne (.ofNat 18)), (15, .iload 4, 2, .iload 4), (17, .iconst (-1), 1, .iconst (-1)), (18, .if_icmp .ne 17, 3, .if_icmp .ne (.ofNat 20)), (21, .aload_n 0, 1, .aload 0), (22, .getfield 15, 3, .invokeinterface 2 1), (25, .iconst 3, 1, .iconst 3), (26, .iaload, 1, .iaload), (27, .iconst (-1), 1, .iconst (-1)), (28, .if_icmp .eq 7, 3, .if_icmp .eq (.ofNat 20)), (31, .iconst 1, 1, .iconst 1), (32, .goto 4, 3, .goto 21), (35, .iconst 0, 1, .iconst 0), (36, .istore 5, 2, .istore 5), (38, .iload_n 1, 1, .iload 1), (39, .aload_n 0, 1, .aload 0), (40, .getfield 15, 3, .invokeinterface 2 1), (43, .iconst 0, 1, .iconst 0), (44, .iaload, 1, .iaload), (45, .if_icmp .gt 18, 3, .if_icmp .gt (.ofNat 36)), (48, .iload_n 1, 1, .iload 1), (49, .aload_n 0, 1, .aload 0), (50, .getfield 15, 3, .invokeinterface 2 1), (53, .iconst 0, 1, .iconst 0), (54, .iaload, 1, .iaload), (55, .if_icmp .ne 37, 3, .if_icmp .ne (.ofNat 56)), (58, .iload 5, 2, .iload 5), (60, .ifCond .eq 32, 3, .ifCond .eq (.ofNat 56)), (63, .aload_n 0, 1, .aload 0), (64, .getfield 15, 3, .invokeinterface 2 1), (67, .iconst 0, 1, .iconst 0), (68, .iload_n 1, 1, .iload 1), (69, .iastore, 1, .iastore), (70, .aload_n 0, 1, .aload 0), (71, .getfield 15, 3, .invokeinterface 2 1), (74, .iconst 1, 1, .iconst 1), (75, .iload_n 2, 1, .iload 2), (76, .iastore, 1, .iastore), (77, .aload_n 0, 1, .aload 0), (78, .getfield 15, 3, .invokeinterface 2 1), (81, .iconst 2, 1, .iconst 2), (82, .iload_n 3, 1, .iload 3), (83, .iastore, 1, .iastore), (84, .aload_n 0, 1, .aload 0), (85, .getfield 15, 3, .invokeinterface 2 1), (88, .iconst 3, 1, .iconst 3), (89, .iload 4, 2, .iload 4), (91, .iastore, 1, .iastore), (92, .return_, 1, .return_)]
def kB97 : x_R := [(0, .aload_n 0, 1, .aload 0), (1, .invokespecial 3, 3, .pop), (4, .aload_n 0, 1, .aload 0), (5, .bipush 8, 2, .iconst 8), (7, .newarray .int, 2, .newarray .int), (9, .putfield 9, 3, .multianewarray 3 2001), (12, .aload_n 0, 1, .aload 0), (13, .bipush 8, 2, .iconst 8), (15, .newarray .int, 2, .newarray .int), (17, .putfield 15, 3, .multianewarray 3 2002), (20, .aload_n 0, 1, .aload 0), (21, .bipush 8, 2, .iconst 8), (23, .newarray .int, 2, .newarray .int), (25, .putfield 18, 3, .multianewarray 3 2003), (28, .aload_n 0, 1, .aload 0), (29, .bipush 8, 2, .iconst 8), (31, .newarray .int, 2, .newarray .int), (33, .putfield 21, 3, .multianewarray 3 2004), (36, .aload_n 0, 1, .aload 0), (37, .bipush 8, 2, .iconst 8), (39, .newarray .int, 2, .newarray .int), (41, .putfield 24, 3, .multianewarray 3 2005), (44, .aload_n 0, 1, .aload 0), (45, .bipush 29, 2, .iconst 29), (47, .newarray .int, 2, .newarray .int), (49, .putfield 27, 3, .multianewarray 3 2006), (52, .aload_n 0, 1, .aload 0), (53, .bipush 29, 2, .iconst 29), (55, .newarray .int, 2, .newarray .int), (57, .putfield 30, 3, .multianewarray 3 2007), (60, .aload_n 0, 1, .aload 0), (61, .bipush 29, 2, .iconst 29), (63, .newarray .int, 2, .newarray .int), (65, .putfield 33, 3, .multianewarray 3 2008), (68, .aload_n 0, 1, .aload 0), (69, .new 36, 3, .new 8), (72, .dup, 1, .dup), (73, .bipush 60, 2, .iconst 60), (75, .invokespecial 38, 3, .invokespecial 169), (78, .putfield 41, 3, .multianewarray 3 2009), (81, .aload_n 0, 1, .aload 0), (82, .new 45, 3, .new 10), (85, .dup, 1, .dup), (86, .invokespecial 47, 3, .invokespecial 180), (89, .putfield 48, 3, .multianewarray 3 2010), (92, .aload_n 0, 1, .aload 0), (93, .new 52, 3, .new 4), (96, .dup, 1, .dup), (97, .invokespecial 54, 3, .invokespecial 110), (100, .putfield 55, 3, .multianewarray 3 2011), (103, .aload_n 0, 1, .aload 0), (104, .sipush 1000, 3, .iconst 1000), (107, .newarray .int, 2, .newarray .int), (109, .putfield 59, 3, .multianewarray 3 2012), (112, .aload_n 0, 1, .aload 0), (113, .getfield 27, 3, .invokeinterface 3 6), (116, .iconst (-1), 1, .iconst (-1)), (117, .invokestatic 62, 3, .invokestatic 86), (120, .return_, 1, .return_)]
def kB98 : x_R := [(0, .iload_n 1, 1, .iload 1), (1, .ifCond .lt 21, 3, .ifCond .lt (.ofNat 11)), (4, .iload_n 1, 1, .iload 1), (5, .aload_n 0, 1, .aload 0), (6, .getfield 68, 3, .invokeinterface 3 0), (9, .if_icmp .ge 13, 3, .if_icmp .ge (.ofNat 11)), (12, .iload_n 1, 1, .iload 1), (13, .bipush 8, 2, .iconst 8), (15, .if_icmp .ge 7, 3, .if_icmp .ge (.ofNat 11)), (18, .iconst 1, 1, .iconst 1), (19, .goto 4, 3, .goto 12), (22, .iconst 0, 1, .iconst 0), (23, .ireturn, 1, .areturn)]
def kB99 : x_R := [(0, .iload_n 1, 1, .iload 1), (1, .tableswitch 151 0 5 #[39, 69, 80, 92, 103, 115], 39, .tableswitch 66 0 5 #[2, 16, 23, 30, 37, 44]), (40, .aload_n 0, 1, .aload 0), (41, .iload_n 3, 1, .iload 3), (42, .sipush 1000, 3, .iconst 1000), (45, .invokestatic 72, 3, .invokestatic 218), (48, .ifCond .eq 7, 3, .ifCond .eq (.ofNat 9)), (51, .iload_n 3, 1, .iload 3), (52, .goto 7, 3, .goto 11), (55, .aload_n 0, 1, .aload 0), (56, .getfield 76, 3, .invokeinterface 3 16), (59, .putfield 76, 3, .multianewarray 3 16), (62, .iload_n 3, 1, .iload 3), (63, .sipush 1000, 3, .iconst 1000), (66, .invokestatic 72, 3, .invokestatic 218), (69, .ireturn, 1, .areturn), (70, .aload_n 0, 1, .aload 0), (71, .getfield 30, 3, .invokeinterface 3 7), (74, .iload_n 2, 1, .iload 2), (75, .iload_n 3, 1, .iload 3), (76, .iconst 1, 1, .iconst 1), (77, .invokestatic 79, 3, .invokestatic 100), (80, .ireturn, 1, .areturn), (81, .aload_n 0, 1, .aload 0), (82, .getfield 15, 3, .invokeinterface 3 2), (85, .iload_n 2, 1, .iload 2), (86, .iload_n 3, 1, .iload 3), (87, .bipush 99, 2, .iconst 99), (89, .invokestatic 79, 3, .invokestatic 100), (92, .ireturn, 1, .areturn), (93, .aload_n 0, 1, .aload 0), (94, .getfield 18, 3, .invokeinterface 3 3), (97, .iload_n 2, 1, .iload 2), (98, .iload_n 3, 1, .iload 3), (99, .iconst 1, 1, .iconst 1), (100, .invokestatic 79, 3, .invokestatic 100), (103, .ireturn, 1, .areturn), (104, .aload_n 0, 1, .aload 0), (105, .getfield 9, 3, .invokeinterface 3 1), (108, .iload_n 2, 1, .iload 2), (109, .iload_n 3, 1, .iload 3), (110, .ldc 83, 2, .iconst 99999), (112, .invokestatic 79, 3, .invokestatic 100), (115, .ireturn, 1, .areturn), (116, .iload_n 3, 1, .iload 3), (117, .iconst (-1), 1, .iconst (-1)), (118, .if_icmp .ne 22, 3, .if_icmp .ne (.ofNat 59)), (121, .iload_n 2, 1, .iload 2), (122, .ifCond .lt 18, 3, .ifCond .lt (.ofNat 59)), (125, .iload_n 2, 1, .iload 2), (126, .bipush 8, 2, .iconst 8), (128, .if_icmp .ge 12, 3, .if_icmp .ge (.ofNat 59)), (131, .aload_n 0, 1, .aload 0), (132, .getfield 24, 3, .invokeinterface 3 5), (135, .iload_n 2, 1, .iload 2), (136, .iconst (-1), 1, .iconst (-1)), (137, .iastore, 1, .iastore), (138, .iconst 1, 1, .iconst 1), (139, .ireturn, 1, .areturn), (140, .aload_n 0, 1, .aload 0), (141, .getfield 24, 3, .invokeinterface 3 5), (144, .iload_n 2, 1, .iload 2), (145, .iload_n 3, 1, .iload 3), (146, .ldc 83, 2, .iconst 99999), (148, .invokestatic 79, 3, .invokestatic 100), (151, .ireturn, 1, .areturn), (152, .iconst 0, 1, .iconst 0), (153, .ireturn, 1, .areturn)]
def kB100 : x_R := [(0, .iload_n 1, 1, .iload 1), (1, .ifCond .lt 17, 3, .ifCond .lt (.ofNat 10)), (4, .iload_n 1, 1, .iload 1), (5, .aload_n 0, 1, .aload 0), (6, .arraylength, 1, .arraylength), (7, .if_icmp .ge 11, 3, .if_icmp .ge (.ofNat 10)), (10, .iload_n 2, 1, .iload 2), (11, .iload_n 3, 1, .iload 3), (12, .invokestatic 72, 3, .invokestatic 218), (15, .ifCond .ne 5, 3, .ifCond .ne (.ofNat 12)), (18, .iconst 0, 1, .iconst 0), (19, .ireturn, 1, .areturn), (20, .aload_n 0, 1, .aload 0), (21, .iload_n 1, 1, .iload 1), (22, .iload_n 2, 1, .iload 2), (23, .iastore, 1, .iastore), (24, .iconst 1, 1, .iconst 1), (25, .ireturn, 1, .areturn)]
def kB101 : x_R := [(0, .iload_n 1, 1, .iload 1), (1, .invokestatic 84, 3, .invokestatic 219), (4, .ifCond .eq 43, 3, .ifCond .eq (.ofNat 25)), (7, .aload_n 0, 1, .aload 0), (8, .getfield 30, 3, .invokeinterface 3 7), (11, .iload_n 1, 1, .iload 1), (12, .iaload, 1, .iaload), (13, .ifCond .ne 34, 3, .ifCond .ne (.ofNat 25)), (16, .aload_n 0, 1, .aload 0), (17, .aload_n 0, 1, .aload 0), (18, .getfield 27, 3, .invokeinterface 3 6), (21, .iload_n 1, 1, .iload 1), (22, .iaload, 1, .iaload), (23, .invokevirtual 88, 3, .invokevirtual 98), (26, .ifCond .eq 21, 3, .ifCond .eq (.ofNat 25)), (29, .aload_n 0, 1, .aload 0), (30, .getfield 18, 3, .invokeinterface 3 3), (33, .aload_n 0, 1, .aload 0), (34, .getfield 27, 3, .invokeinterface 3 6), (37, .iload_n 1, 1, .iload 1), (38, .iaload, 1, .iaload), (39, .iaload, 1, .iaload), (40, .ifCond .ne 7, 3, .ifCond .ne (.ofNat 25)), (43, .iconst 1, 1, .iconst 1), (44, .goto 4, 3, .goto 26), (47, .iconst 0, 1, .iconst 0), (48, .ireturn, 1, .areturn)]
def kB102 : x_R := [(0, .aload_n 0, 1, .aload 0), (1, .ldc 91, 2, .iconst 1664525), (3, .aload_n 0, 1, .aload 0), (4, .getfield 92, 3, .invokeinterface 3 17), (7, .imul, 1, .imul), (8, .ldc 95, 2, .iconst 1013904223), (10, .iadd, 1, .iadd), (11, .putfield 92, 3, .multianewarray 3 17), (14, .iload_n 1, 1, .iload 1), (15, .ifCond .le 15, 3, .ifCond .le (.ofNat 17)), (18, .aload_n 0, 1, .aload 0), (19, .getfield 92, 3, .invokeinterface 3 17), (22, .bipush 8, 2, .iconst 8), (24, .iushr, 1, .iushr), (25, .iload_n 1, 1, .iload 1), (26, .irem, 1, .irem), (27, .goto 4, 3, .goto 18), (30, .iconst 0, 1, .iconst 0), (31, .ireturn, 1, .ireturn)]
def kB103 : x_R := [(0, .iconst 0, 1, .iconst 0), (1, .istore_n 2, 1, .istore 2), (2, .iconst 0, 1, .iconst 0), (3, .istore_n 3, 1, .istore 3), (4, .iload_n 3, 1, .iload 3), (5, .bipush 29, 2, .iconst 29), (7, .if_icmp .ge 22, 3, .if_icmp .ge (.ofNat 16)), (10, .aload_n 0, 1, .aload 0), (11, .getfield 27, 3, .invokeinterface 3 6), (14, .iload_n 3, 1, .iload 3), (15, .iaload, 1, .iaload), (16, .iload_n 1, 1, .iload 1), (17, .if_icmp .ne 6, 3, .if_icmp .ne (.ofNat 14)), (20, .iinc 2 1, 3, .iinc 2 1), (23, .iinc 3 1, 3, .iinc 3 1), (26, .goto (-22), 3, .jsr_w 4), (29, .iload_n 2, 1, .iload 2), (30, .ireturn, 1, .ireturn)]
def kB104 : x_R := [(0, .iconst 0, 1, .iconst 0), (1, .istore_n 2, 1, .istore 2), (2, .iconst 0, 1, .iconst 0), (3, .istore_n 3, 1, .istore 3), (4, .iload_n 3, 1, .iload 3), (5, .bipush 29, 2, .iconst 29), (7, .if_icmp .ge 28, 3, .if_icmp .ge (.ofNat 22)), (10, .aload_n 0, 1, .aload 0), (11, .getfield 27, 3, .invokeinterface 3 6), (14, .iload_n 3, 1, .iload 3), (15, .iaload, 1, .iaload), (16, .iload_n 1, 1, .iload 1), (17, .if_icmp .ne 12, 3, .if_icmp .ne (.ofNat 20)), (20, .iload_n 2, 1, .iload 2), (21, .aload_n 0, 1, .aload 0), (22, .getfield 33, 3, .invokeinterface 3 8), (25, .iload_n 3, 1, .iload 3), (26, .iaload, 1, .iaload), (27, .iadd, 1, .iadd), (28, .istore_n 2, 1, .istore 2), (29, .iinc 3 1, 3, .iinc 3 1), (32, .goto (-28), 3, .jsr_w 4), (35, .iload_n 2, 1, .iload 2), (36, .ireturn, 1, .ireturn)]
def kB105 : x_R := [(0, .iconst 0, 1, .iconst 0), (1, .istore_n 2, 1, .istore 2), (2, .iload_n 2, 1, .iload 2), (3, .bipush 29, 2, .iconst 29), (5, .if_icmp .ge 30, 3, .if_icmp .ge (.ofNat 20)), (8, .aload_n 0, 1, .aload 0), (9, .getfield 27, 3, .invokeinterface 3 6), (12, .iload_n 2, 1, .iload 2), (13, .iaload, 1, .iaload), (14, .iload_n 1, 1, .iload 1), (15, .if_icmp .ne 14, 3, .if_icmp .ne (.ofNat 18)), (18, .aload_n 0, 1, .aload 0), (19, .getfield 30, 3, .invokeinterface 3 7), (22, .iload_n 2, 1, .iload 2), (23, .iaload, 1, .iaload), (24, .ifCond .ne 5, 3, .ifCond .ne (.ofNat 18)), (27, .iconst 1, 1, .iconst 1), (28, .ireturn, 1, .areturn), (29, .iinc 2 1, 3, .iinc 2 1), (32, .goto (-30), 3, .jsr_w 2), (35, .iconst 0, 1, .iconst 0), (36, .ireturn, 1, .areturn)]
def kB106 : x_R := [(0, .iconst 0, 1, .iconst 0), (1, .istore_n 3, 1, .istore 3), (2, .iload_n 3, 1, .iload 3), (3, .bipush 29, 2, .iconst 29), (5, .if_icmp .ge 21, 3, .if_icmp .ge (.ofNat 15)), (8, .aload_n 0, 1, .aload 0), (9, .getfield 27, 3, .invokeinterface 3 6), (12, .iload_n 3, 1, .iload 3), (13, .iaload, 1, .iaload), (14, .iload_n 1, 1, .iload 1), (15, .if_icmp .ne 5, 3, .if_icmp .ne (.ofNat 13)), (18, .iload_n 3, 1, .iload 3), (19, .ireturn, 1, .ireturn), (20, .iinc 3 1, 3, .iinc 3 1), (23, .goto (-21), 3, .jsr_w 2), (26, .iload_n 2, 1, .iload 2), (27, .ireturn, 1, .ireturn)]
def kB107 : x_R := [(0, .iconst 0, 1, .iconst 0), (1, .istore_n 1, 1, .istore 1), (2, .iconst 0, 1, .iconst 0), (3, .istore_n 2, 1, .istore 2), (4, .iload_n 2, 1, .iload 2), (5, .aload_n 0, 1, .aload 0), (6, .getfield 68, 3, .invokeinterface 3 0), (9, .if_icmp .ge 61, 3, .if_icmp .ge (.ofNat 43)), (12, .iload_n 2, 1, .iload 2), (13, .bipush 8, 2, .iconst 8), (15, .if_icmp .ge 55, 3, .if_icmp .ge (.ofNat 43)), (18, .aload_n 0, 1, .aload 0), (19, .getfield 9, 3, .invokeinterface 3 1), (22, .iload_n 2, 1, .iload 2), (23, .iaload, 1, .iaload), (24, .aload_n 0, 1, .aload 0), (25, .getfield 15, 3, .invokeinterface 3 2), (28, .iload_n 2, 1, .iload 2), (29, .iaload, 1, .iaload), (30, .if_icmp .lt 21, 3, .if_icmp .lt (.ofNat 32)), (33, .aload_n 0, 1, .aload 0), (34, .getfield 9, 3, .invokeinterface 3 1), (37, .iload_n 2, 1, .iload 2), (38, .dup2, 1, .dup2), (39, .iaload, 1, .iaload), (40, .aload_n 0, 1, .aload 0), (41, .getfield 15, 3, .invokeinterface 3 2), (44, .iload_n 2, 1, .iload 2), (45, .iaload, 1, .iaload), (46, .isub, 1, .isub), (47, .iastore, 1, .iastore), (48, .goto 16, 3, .goto 41), (51, .aload_n 0, 1, .aload 0), (52, .getfield 21, 3, .invokeinterface 3 4), (55, .iload_n 2, 1, .iload 2), (56, .dup2, 1, .dup2), (57, .iaload, 1, .iaload), (58, .iconst 1, 1, .iconst 1), (59, .iadd, 1, .iadd), (60, .iastore, 1, .iastore), (61, .iinc 1 1, 3, .iinc 1 1), (64, .iinc 2 1, 3, .iinc 2 1), (67, .goto (-63), 3, .jsr_w 4), (70, .iload_n 1, 1, .iload 1), (71, .ireturn, 1, .ireturn)]
def kB108 : x_R := [(0, .aload_n 0, 1, .aload 0), (1, .getfield 27, 3, .invokeinterface 3 6), (4, .iload_n 1, 1, .iload 1), (5, .iaload, 1, .iaload), (6, .istore 4, 2, .istore 4), (8, .aload_n 0, 1, .aload 0), (9, .iload 4, 2, .iload 4), (11, .invokevirtual 88, 3, .invokevirtual 98), (14, .ifCond .ne 4, 3, .ifCond .ne (.ofNat 10)), (17, .return_, 1, .return_), (18, .iload_n 3, 1, .iload 3), (19, .ldc 83, 2, .iconst 99999), (21, .aload_n 0, 1, .aload 0), (22, .getfield 9, 3, .invokeinterface 3 1), (25, .iload 4, 2, .iload 4), (27, .iaload, 1, .iaload), (28, .isub, 1, .isub), (29, .invokestatic 96, 3, .invokedynamic 1), (32, .istore 5, 2, .istore 5), (34, .aload_n 0, 1, .aload 0), (35, .getfield 9, 3, .invokeinterface 3 1), (38, .iload 4, 2, .iload 4), (40, .dup2, 1, .dup2), (41, .iaload, 1, .iaload), (42, .iload 5, 2, .iload 5), (44, .iadd, 1, .iadd), (45, .iastore, 1, .iastore), (46, .aload_n 0, 1, .aload 0), (47, .getfield 33, 3, .invokeinterface 3 8), (50, .iload_n 1, 1, .iload 1), (51, .dup2, 1, .dup2), (52, .iaload, 1, .iaload), (53, .iconst 1, 1, .iconst 1), (54, .iadd, 1, .iadd), (55, .iastore, 1, .iastore), (56, .aload_n 0, 1, .aload 0), (57, .getfield 102, 3, .invokeinterface 3 13), (60, .sipush 200, 3, .iconst 200), (63, .if_icmp .ge 74, 3, .if_icmp .ge (.ofNat 84)), (66, .aload_n 0, 1, .aload 0), (67, .getfield 102, 3, .invokeinterface 3 13), (70, .iconst 5, 1, .iconst 5), (71, .imul, 1, .imul), (72, .istore 6, 2, .istore 6), (74, .aload_n 0, 1, .aload 0), (75, .getfield 59, 3, .invokeinterface 3 12), (78, .iload 6, 2, .iload 6), (80, .iload_n 1, 1, .iload 1), (81, .iastore, 1, .iastore), (82, .aload_n 0, 1, .aload 0), (83, .getfield 59, 3, .invokeinterface 3 12), (86, .iload 6, 2, .iload 6), (88, .iconst 1, 1, .iconst 1), (89, .iadd, 1, .iadd), (90, .aload_n 0, 1, .aload 0), (91, .getfield 105, 3, .invokeinterface 3 15), (94, .iastore, 1, .iastore), (95, .aload_n 0, 1, .aload 0), (96, .getfield 59, 3, .invokeinterface 3 12), (99, .iload 6, 2, .iload 6), (101, .iconst 2, 1, .iconst 2), (102, .iadd, 1, .iadd), (103, .iload_n 2, 1, .iload 2), (104, .iastore, 1, .iastore), (105, .aload_n 0, 1, .aload 0), (106, .getfield 59, 3, .invokeinterface 3 12), (109, .iload 6, 2, .iload 6), (111, .iconst 3, 1, .iconst 3), (112, .iadd, 1, .iadd), (113, .iload 4, 2, .iload 4), (115, .iastore, 1, .iastore), (116, .aload_n 0, 1, .aload 0), (117, .getfield 59, 3, .invokeinterface 3 12), (120, .iload 6, 2, .iload 6), (122, .iconst 4, 1, .iconst 4), (123, .iadd, 1, .iadd), (124, .iload 5, 2, .iload 5), (126, .iastore, 1, .iastore), (127, .aload_n 0, 1, .aload 0), (128, .dup, 1, .dup), (129, .getfield 102, 3, .invokeinterface 3 13), (132, .iconst 1, 1, .iconst 1), (133, .iadd, 1, .iadd), (134, .putfield 102, 3, .multianewarray 3 13), (137, .return_, 1, .return_)]
def kB109 : x_R := [(0, .aload_n 0, 1, .aload 0), (1, .aload_n 1, 1, .aload 1), (2, .getfield 68, 3, .invokeinterface 3 0), (5, .putfield 68, 3, .multianewarray 3 0), (8, .aload_n 1, 1, .aload 1), (9, .getfield 9, 3, .invokeinterface 3 1), (12, .iconst 0, 1, .iconst 0), (13, .aload_n 0, 1, .aload 0), (14, .getfield 9, 3, .invokeinterface 3 1), (17, .iconst 0, 1, .iconst 0), (18, .bipush 8, 2, .iconst 8), (20, .invokestatic 108, 3, .invokedynamic 2), (23, .aload_n 1, 1, .aload 1), (24, .getfield 15, 3, .invokeinterface 3 2), (27, .iconst 0, 1, .iconst 0), (28, .aload_n 0, 1, .aload 0), (29, .getfield 15, 3, .invokeinterface 3 2), (32, .iconst 0, 1, .iconst 0), (33, .bipush 8, 2, .iconst 8), (35, .invokestatic 108, 3, .invokedynamic 2), (38, .aload_n 1, 1, .aload 1), (39, .getfield 18, 3, .invokeinterface 3 3), (42, .iconst 0, 1, .iconst 0), (43, .aload_n 0, 1, .aload 0), (44, .getfield 18, 3, .invokeinterface 3 3), (47, .iconst 0, 1, .iconst 0), (48, .bipush 8, 2, .iconst 8), (50, .invokestatic 108, 3, .invokedynamic 2), (53, .aload_n 1, 1, .aload 1), (54, .getfield 21, 3, .invokeinterface 3 4), (57, .iconst 0, 1, .iconst 0), (58, .aload_n 0, 1, .aload 0), (59, .getfield 21, 3, .invokeinterface 3 4), (62, .iconst 0, 1, .iconst 0), (63, .bipush 8, 2, .iconst 8), (65, .invokestatic 108, 3, .invokedynamic 2), (68, .aload_n 1, 1, .aload 1), (69, .getfield 24, 3, .invokeinterface 3 5), (72, .iconst 0, 1, .iconst 0), (73, .aload_n 0, 1, .aload 0), (74, .getfield 24, 3, .invokeinterface 3 5), (77, .iconst 0, 1, .iconst 0), (78, .bipush 8, 2, .iconst 8), (80, .invokestatic 108, 3, .invokedynamic 2), (83, .aload_n 1, 1, .aload 1), (84, .getfield 27, 3, .invokeinterface 3 6), (87, .iconst 0, 1, .iconst 0), (88, .aload_n 0, 1, .aload 0), (89, .getfield 27, 3, .invokeinterface 3 6), (92, .iconst 0, 1, .iconst 0), (93, .bipush 29, 2, .iconst 29), (95, .invokestatic 108, 3, .invokedynamic 2), (98, .aload_n 1, 1, .aload 1), (99, .getfield 30, 3, .invokeinterface 3 7), (102, .iconst 0, 1, .iconst 0), (103, .aload_n 0, 1, .aload 0), (104, .getfield 30, 3, .invokeinterface 3 7), (107, .iconst 0, 1, .iconst 0), (108, .bipush 29, 2, .iconst 29), (110, .invokestatic 108, 3, .invokedynamic 2), (113, .aload_n 1, 1, .aload 1), (114, .getfield 33, 3, .invokeinterface 3 8), (117, .iconst 0, 1, .iconst 0), (118, .aload_n 0, 1, .aload 0), (119, .getfield 33, 3, .invokeinterface 3 8), (122, .iconst 0, 1, .iconst 0), (123, .bipush 29, 2, .iconst 29), (125, .invokestatic 108, 3, .invokedynamic 2), (128, .aload_n 0, 1, .aload 0), (129, .getfield 41, 3, .invokeinterface 3 9), (132, .aload_n 1, 1, .aload 1), (133, .getfield 41, 3, .invokeinterface 3 9), (136, .invokevirtual 114, 3, .invokevirtual 174), (139, .aload_n 0, 1, .aload 0), (140, .getfield 48, 3, .invokeinterface 3 10), (143, .aload_n 1, 1, .aload 1), (144, .getfield 48, 3, .invokeinterface 3 10), (147, .invokevirtual 118, 3, .invokevirtual 184), (150, .aload_n 0, 1, .aload 0), (151, .getfield 55, 3, .invokeinterface 3 11), (154, .aload_n 1, 1, .aload 1), (155, .getfield 55, 3, .invokeinterface 3 11), (158, .invokevirtual 121, 3, .invokevirtual 116), (161, .aload_n 1, 1, .aload 1), (162, .getfield 59, 3, .invokeinterface 3 12), (165, .iconst 0, 1, .iconst 0), (166, .aload_n 0, 1, .aload 0), (167, .getfield 59, 3, .invokeinterface 3 12), (170, .iconst 0, 1, .iconst 0), (171, .sipush 1000, 3, .iconst 1000), (174, .invokestatic 108, 3, .invokedynamic 2), (177, .aload_n 0, 1, .aload 0), (178, .aload_n 1, 1, .aload 1), (179, .getfield 102, 3, .invokeinterface 3 13), (182, .putfield 102, 3, .multianewarray 3 13), (185, .aload_n 0, 1, .aload 0), (186, .aload_n 1, 1, .aload 1), (187, .getfield 124, 3, .invokeinterface 3 14), (190, .putfield 124, 3, .multianewarray 3 14), (193, .aload_n 0, 1, .aload 0), (194, .aload_n 1, 1, .aload 1), (195, .getfield 105, 3, .invokeinterface 3 15), (198, .putfield 105, 3, .multianewarray 3 15), (201, .aload_n 0, 1, .aload 0), (202, .aload_n 1, 1, .aload 1), (203, .getfield 76, 3, .invokeinterface 3 16), (206, .putfield 76, 3, .multianewarray 3 16), (209, .aload_n 0, 1, .aload 0), (210, .aload_n 1, 1, .aload 1), (211, .getfield 92, 3, .invokeinterface 3 17), (214, .putfield 92, 3, .multianewarray 3 17), (217, .return_, 1, .return_)]
def kB110 : x_R := [(0, .aload_n 0, 1, .aload 0), (1, .invokespecial 3, 3, .pop), (4, .aload_n 0, 1, .aload 0), (5, .sipush 400, 3, .iconst 400), (8, .newarray .int, 2, .newarray .int), (10, .putfield 9, 3, .multianewarray 4 2000), (13, .aload_n 0, 1, .aload 0), (14, .bipush 17, 2, .iconst 17), (16, .newarray .int, 2, .newarray .int), (18, .putfield 15, 3, .multianewarray 4 2001), (21, .aload_n 0, 1, .aload 0), (22, .bipush 16, 2, .iconst 16), (24, .newarray .int, 2, .newarray .int), (26, .putfield 18, 3, .multianewarray 4 2002), (29, .return_, 1, .return_)]
def kB111 : x_R := [(0, .aload_n 0, 1, .aload 0), (1, .iconst 0, 1, .iconst 0), (2, .putfield 21, 3, .multianewarray 4 3), (5, .aload_n 0, 1, .aload 0), (6, .iconst 0, 1, .iconst 0), (7, .putfield 25, 3, .multianewarray 4 4), (10, .aload_n 0, 1, .aload 0), (11, .iconst 0, 1, .iconst 0), (12, .putfield 28, 3, .multianewarray 4 5), (15, .return_, 1, .return_)]
def kB112 : x_R := [(0, .aload_n 0, 1, .aload 0), (1, .getfield 21, 3, .invokeinterface 4 3), (4, .ifCond .lt 35, 3, .ifCond .lt (.ofNat 21)), (7, .aload_n 0, 1, .aload 0), (8, .getfield 21, 3, .invokeinterface 4 3), (11, .aload_n 0, 1, .aload 0), (12, .getfield 9, 3, .invokeinterface 4 0), (15, .arraylength, 1, .arraylength), (16, .if_icmp .ge 23, 3, .if_icmp .ge (.ofNat 21)), (19, .aload_n 0, 1, .aload 0), (20, .getfield 9, 3, .invokeinterface 4 0), (23, .aload_n 0, 1, .aload 0), (24, .getfield 21, 3, .invokeinterface 4 3), (27, .iload_n 1, 1, .iload 1), (28, .iastore, 1, .iastore), (29, .aload_n 0, 1, .aload 0), (30, .dup, 1, .dup), (31, .getfield 21, 3, .invokeinterface 4 3), (34, .iconst 1, 1, .iconst 1), (35, .iadd, 1, .iadd), (36, .putfield 21, 3, .multianewarray 4 3), (39, .return_, 1, .return_)]
def kB113 : x_R := [(0, .aload_n 0, 1, .aload 0), (1, .getfield 28, 3, .invokeinterface 4 5), (4, .iload_n 1, 1, .iload 1), (5, .ishr, 1, .ishr), (6, .iconst 1, 1, .iconst 1), (7, .iand, 1, .iand), (8, .ifCond .eq 7, 3, .ifCond .eq (.ofNat 9)), (11, .iconst 1, 1, .iconst 1), (12, .goto 4, 3, .goto 10), (15, .iconst 0, 1, .iconst 0), (16, .ireturn, 1, .areturn)]
def kB114 : x_R := [(0, .aload_n 0, 1, .aload 0), (1, .getfield 25, 3, .invokeinterface 4 4), (4, .ifCond .lt 25, 3, .ifCond .lt (.ofNat 14)), (7, .aload_n 0, 1, .aload 0), (8, .getfield 25, 3, .invokeinterface 4 4), (11, .bipush 16, 2, .iconst 16), (13, .if_icmp .ge 16, 3, .if_icmp .ge (.ofNat 14)), (16, .aload_n 0, 1, .aload 0), (17, .getfield 18, 3, .invokeinterface 4 2), (20, .aload_n 0, 1, .aload 0), (21, .getfield 25, 3, .invokeinterface 4 4), (24, .aload_n 0, 1, .aload 0), (25, .getfield 21, 3, .invokeinterface 4 3), (28, .iastore, 1, .iastore), (29, .return_, 1, .return_)]
def kB115 : x_R := [(0, .aload_n 0, 1, .aload 0), (1, .getfield 25, 3, .invokeinterface 4 4), (4, .ifCond .lt 35, 3, .ifCond .lt (.ofNat 20)), (7, .aload_n 0, 1, .aload 0), (8, .getfield 25, 3, .invokeinterface 4 4), (11, .bipush 16, 2, .iconst 16), (13, .if_icmp .ge 26, 3, .if_icmp .ge (.ofNat 20)), (16, .aload_n 0, 1, .aload 0), (17, .dup, 1, .dup), (18, .getfield 25, 3, .invokeinterface 4 4), (21, .iconst 1, 1, .iconst 1), (22, .iadd, 1, .iadd), (23, .putfield 25, 3, .multianewarray 4 4), (26, .aload_n 0, 1, .aload 0), (27, .getfield 15, 3, .invokeinterface 4 1), (30, .aload_n 0, 1, .aload 0), (31, .getfield 25, 3, .invokeinterface 4 4), (34, .aload_n 0, 1, .aload 0), (35, .getfield 21, 3, .invokeinterface 4 3), (38, .iastore, 1, .iastore), (39, .return_, 1, .return_)]
def kB116 : x_R := [(0, .aload_n 1, 1, .aload 1), (1, .getfield 9, 3, .invokeinterface 4 0), (4, .iconst 0, 1, .iconst 0), (5, .aload_n 0, 1, .aload 0), (6, .getfield 9, 3, .invokeinterface 4 0), (9, .iconst 0, 1, .iconst 0), (10, .sipush 400, 3, .iconst 400), (13, .invokestatic 31, 3, .invokedynamic 2), (16, .aload_n 1, 1, .aload 1), (17, .getfield 15, 3, .invokeinterface 4 1), (20, .iconst 0, 1, .iconst 0), (21, .aload_n 0, 1, .aload 0), (22, .getfield 15, 3, .invokeinterface 4 1), (25, .iconst 0, 1, .iconst 0), (26, .bipush 17, 2, .iconst 17), (28, .invokestatic 31, 3, .invokedynamic 2), (31, .aload_n 1, 1, .aload 1), (32, .getfield 18, 3, .invokeinterface 4 2), (35, .iconst 0, 1, .iconst 0), (36, .aload_n 0, 1, .aload 0), (37, .getfield 18, 3, .invokeinterface 4 2), (40, .iconst 0, 1, .iconst 0), (41, .bipush 16, 2, .iconst 16), (43, .invokestatic 31, 3, .invokedynamic 2), (46, .aload_n 0, 1, .aload 0), (47, .aload_n 1, 1, .aload 1), (48, .getfield 21, 3, .invokeinterface 4 3), (51, .putfield 21, 3, .multianewarray 4 3), (54, .aload_n 0, 1, .aload 0), (55, .aload_n 1, 1, .aload 1), (56, .getfield 25, 3, .invokeinterface 4 4), (59, .putfield 25, 3, .multianewarray 4 4), (62, .aload_n 0, 1, .aload 0), (63, .aload_n 1, 1, .aload 1), (64, .getfield 28, 3, .invokeinterface 4 5), (67, .putfield 28, 3, .multianewarray 4 5), (70, .return_, 1, .return_)]
def kB117 : x_R := [(0, .aload_n 0, 1, .aload 0), (1, .getfield 18, 3, .invokeinterface 4 2), (4, .iload_n 1, 1, .iload 1), (5, .iaload, 1, .iaload), (6, .aload_n 0, 1, .aload 0), (7, .getfield 15, 3, .invokeinterface 4 1), (10, .iload_n 1, 1, .iload 1), (11, .iconst 1, 1, .iconst 1), (12, .iadd, 1, .iadd), (13, .iaload, 1, .iaload), (14, .if_icmp .lt 7, 3, .if_icmp .lt (.ofNat 13)), (17, .iconst 1, 1, .iconst 1), (18, .goto 4, 3, .goto 14), (21, .iconst 0, 1, .iconst 0), (22, .ireturn, 1, .areturn)]
def kB118 : x_R := [(0, .iconst 0, 1, .iconst 0), (1, .istore_n 3, 1, .istore 3), (2, .iload_n 3, 1, .iload 3), (3, .aload_n 0, 1, .aload 0), (4, .getfield 25, 3, .invokeinterface 4 4), (7, .if_icmp .ge 78, 3, .if_icmp .ge (.ofNat 49)), (10, .iload_n 3, 1, .iload 3), (11, .bipush 16, 2, .iconst 16), (13, .if_icmp .ge 72, 3, .if_icmp .ge (.ofNat 49)), (16, .aload_n 0, 1, .aload 0), (17, .iload_n 3, 1, .iload 3), (18, .invokevirtual 37, 3, .invokevirtual 117), (21, .ifCond .ne 26, 3, .ifCond .ne (.ofNat 28)), (24, .aload_n 0, 1, .aload 0), (25, .aload_n 0, 1, .aload 0), (26, .getfield 18, 3, .invokeinterface 4 2), (29, .iload_n 3, 1, .iload 3), (30, .iaload, 1, .iaload), (31, .aload_n 0, 1, .aload 0), (32, .getfield 15, 3, .invokeinterface 4 1), (35, .iload_n 3, 1, .iload 3), (36, .iconst 1, 1, .iconst 1), (37, .iadd, 1, .iadd), (38, .iaload, 1, .iaload), (39, .aload_n 1, 1, .aload 1), (40, .aload_n 2, 1, .aload 2), (41, .invokevirtual 41, 3, .invokevirtual 121), (44, .ifCond .eq 35, 3, .ifCond .eq (.ofNat 47)), (47, .aload_n 0, 1, .aload 0), (48, .aload_n 0, 1, .aload 0), (49, .getfield 15, 3, .invokeinterface 4 1), (52, .iload_n 3, 1, .iload 3), (53, .iaload, 1, .iaload), (54, .aload_n 0, 1, .aload 0), (55, .getfield 18, 3, .invokeinterface 4 2), (58, .iload_n 3, 1, .iload 3), (59, .iaload, 1, .iaload), (60, .aload_n 1, 1, .aload 1), (61, .aload_n 2, 1, .aload 2), (62, .invokevirtual 41, 3, .invokevirtual 121), (65, .istore 4, 2, .istore 4), (67, .iconst 0, 1, .iconst 0), (68, .bipush 99, 2, .iconst 99), (70, .iload 4, 2, .iload 4), (72, .invokestatic 45, 3, .invokedynamic 1), (75, .invokestatic 51, 3, .invokedynamic 0), (78, .ireturn, 1, .ireturn), (79, .iinc 3 1, 3, .iinc 3 1), (82, .goto (-80), 3, .jsr_w 2), (85, .iconst 1, 1, .iconst 1), (86, .ireturn, 1, .ireturn)]
def kB119 : x_R := [(0, .iconst 0, 1, .iconst 0), (1, .istore_n 3, 1, .istore 3), (2, .iconst 0, 1, .iconst 0), (3, .istore 4, 2, .istore 4), (5, .iload 4, 2, .iload 4), (7, .aload_n 0, 1, .aload 0), (8, .getfield 25, 3, .invokeinterface 4 4), (11, .if_icmp .ge 52, 3, .if_icmp .ge (.ofNat 34)), (14, .iload 4, 2, .iload 4), (16, .bipush 16, 2, .iconst 16), (18, .if_icmp .ge 45, 3, .if_icmp .ge (.ofNat 34)), (21, .iload_n 3, 1, .iload 3), (22, .aload_n 0, 1, .aload 0), (23, .aload_n 0, 1, .aload 0), (24, .getfield 15, 3, .invokeinterface 4 1), (27, .iload 4, 2, .iload 4), (29, .iaload, 1, .iaload), (30, .aload_n 0, 1, .aload 0), (31, .getfield 18, 3, .invokeinterface 4 2), (34, .iload 4, 2, .iload 4), (36, .iaload, 1, .iaload), (37, .aload_n 1, 1, .aload 1), (38, .aload_n 2, 1, .aload 2), (39, .invokevirtual 54, 3, .invokevirtual 120), (42, .invokestatic 51, 3, .invokedynamic 0), (45, .istore_n 3, 1, .istore 3), (46, .aload_n 0, 1, .aload 0), (47, .iload 4, 2, .iload 4), (49, .invokevirtual 37, 3, .invokevirtual 117), (52, .ifCond .eq 5, 3, .ifCond .eq (.ofNat 32)), (55, .iload_n 3, 1, .iload 3), (56, .ireturn, 1, .ireturn), (57, .iinc 4 1, 3, .iinc 4 1), (60, .goto (-55), 3, .jsr_w 4), (63, .iload_n 3, 1, .iload 3), (64, .iconst 1, 1, .iconst 1), (65, .invokestatic 51, 3, .invokedynamic 0), (68, .ireturn, 1, .ireturn)]
def kB120 : x_R := [(0, .iconst 0, 1, .iconst 0), (1, .istore 5, 2, .istore 5), (3, .iload_n 1, 1, .iload 1), (4, .iconst 0, 1, .iconst 0), (5, .invokestatic 51, 3, .invokedynamic 0), (8, .istore 6, 2, .istore 6), (10, .iload 6, 2, .iload 6), (12, .iload_n 2, 1, .iload 2), (13, .if_icmp .ge 181, 3, .if_icmp .ge (.ofNat 102)), (16, .iload 6, 2, .iload 6), (18, .aload_n 0, 1, .aload 0), (19, .getfield 9, 3, .invokeinterface 4 0), (22, .arraylength, 1, .arraylength), (23, .if_icmp .ge 171, 3, .if_icmp .ge (.ofNat 102)), (26, .aload_n 0, 1, .aload 0), (27, .getfield 9, 3, .invokeinterface 4 0), (30, .iload 6, 2, .iload 6), (32, .iaload, 1, .iaload), (33, .istore 7, 2, .istore 7), (35, .iload 7, 2, .iload 7), (37, .bipush (-9), 2, .iconst (-9)), (39, .if_icmp .lt 41, 3, .if_icmp .lt (.ofNat 42)), (42, .iload 5, 2, .iload 5), (44, .aload 4, 2, .aload 4), (46, .arraylength, 1, .arraylength), (47, .if_icmp .lt 6, 3, .if_icmp .lt (.ofNat 28)), (50, .bipush 99, 2, .iconst 99), (52, .ireturn, 1, .ireturn), (53, .aload 4, 2, .aload 4), (55, .iload 5, 2, .iload 5), (57, .iload 7, 2, .iload 7), (59, .ifCond .lt 8, 3, .ifCond .lt (.ofNat 34)), (62, .iload 7, 2, .iload 7), (64, .goto 9, 3, .goto 39), (67, .aload_n 3, 1, .aload 3), (68, .iconst (-1), 1, .iconst (-1)), (69, .iload 7, 2, .iload 7), (71, .isub, 1, .isub), (72, .iaload, 1, .iaload), (73, .iastore, 1, .iastore), (74, .iinc 5 1, 3, .iinc 5 1), (77, .goto 111, 3, .goto 100), (80, .iinc 5 (-1), 3, .iinc 5 (-1)), (83, .iload 5, 2, .iload 5), (85, .iconst 1, 1, .iconst 1), (86, .if_icmp .ge 6, 3, .if_icmp .ge (.ofNat 48)), (89, .bipush 99, 2, .iconst 99), (91, .ireturn, 1, .ireturn), (92, .aload 4, 2, .aload 4), (94, .iload 5, 2, .iload 5), (96, .iconst 1, 1, .iconst 1), (97, .isub, 1, .isub), (98, .iaload, 1, .iaload), (99, .i2l, 1, .i2l), (100, .lstore 8, 2, .lstore 8), (102, .aload 4, 2, .aload 4), (104, .iload 5, 2, .iload 5), (106, .iaload, 1, .iaload), (107, .i2l, 1, .i2l), (108, .lstore 10, 2, .lstore 10), (110, .iload 7, 2, .iload 7), (112, .bipush (-10), 2, .iconst (-10)), (114, .if_icmp .ne 11, 3, .if_icmp .ne (.ofNat 67)), (117, .lload 8, 2, .lload 8), (119, .lload 10, 2, .lload 10), (121, .ladd, 1, .ladd), (122, .goto 42, 3, .goto 86), (125, .iload 7, 2, .iload 7), (127, .bipush (-12), 2, .iconst (-12)), (129, .if_icmp .ne 11, 3, .if_icmp .ne (.ofNat 74)), (132, .lload 8, 2, .lload 8), (134, .lload 10, 2, .lload 10), (136, .lmul, 1, .lmul), (137, .goto 27, 3, .goto 86), (140, .iload 7, 2, .iload 7), (142, .bipush (-13), 2, .iconst (-13)), (144, .if_icmp .ne 18, 3, .if_icmp .ne (.ofNat 85)), (147, .lload 10, 2, .lload 10), (149, .lconst 0, 1, .jsr 0), (150, .lcmp, 1, .lcmp), (151, .ifCond .le 11, 3, .ifCond .le (.ofNat 85)), (154, .lload 8, 2, .lload 8), (156, .lload 10, 2, .lload 10), (158, .ldiv, 1, .ldiv), (159, .goto 5, 3, .goto 86), (162, .lload 8, 2, .lload 8), (164, .lstore 8, 2, .lstore 8), (166, .lload 8, 2, .lload 8), (168, .ldc2_w 57, 3, .jsr 1000000), (171, .lcmp, 1, .lcmp), (172, .ifCond .le 6, 3, .ifCond .le (.ofNat 93)), (175, .bipush 99, 2, .iconst 99), (177, .ireturn, 1, .ireturn), (178, .aload 4, 2, .aload 4), (180, .iload 5, 2, .iload 5), (182, .iconst 1, 1, .iconst 1), (183, .isub, 1, .isub), (184, .lload 8, 2, .lload 8), (186, .l2i, 1, .l2i), (187, .iastore, 1, .iastore), (188, .iinc 6 1, 3, .iinc 6 1), (191, .goto (-181), 3, .jsr_w 6), (194, .iload 5, 2, .iload 5), (196, .ifCond .le 15, 3, .ifCond .le (.ofNat 110)), (199, .bipush 99, 2, .iconst 99), (201, .aload 4, 2, .aload 4), (203, .iconst 0, 1, .iconst 0), (204, .iaload, 1, .iaload), (205, .invokestatic 45, 3, .invokedynamic 1), (208, .goto 5, 3, .goto 111), (211, .bipush 99, 2, .iconst 99), (213, .ireturn, 1, .ireturn)]
def kB121 : x_R := [(0, .iconst 0, 1, .iconst 0), (1, .istore 5, 2, .istore 5), (3, .iload_n 1, 1, .iload 1), (4, .iconst 0, 1, .iconst 0), (5, .invokestatic 51, 3, .invokedynamic 0), (8, .istore 6, 2, .istore 6), (10, .iload 6, 2, .iload 6), (12, .iload_n 2, 1, .iload 2), (13, .if_icmp .ge 312, 3, .if_icmp .ge (.ofNat 144)), (16, .iload 6, 2, .iload 6), (18, .aload_n 0, 1, .aload 0), (19, .getfield 9, 3, .invokeinterface 4 0), (22, .arraylength, 1, .arraylength), (23, .if_icmp .ge 302, 3, .if_icmp .ge (.ofNat 144)), (26, .aload_n 0, 1, .aload 0), (27, .getfield 9, 3, .invokeinterface 4 0), (30, .iload 6, 2, .iload 6), (32, .iaload, 1, .iaload), (33, .istore 7, 2, .istore 7), (35, .iload 7, 2, .iload 7), (37, .bipush (-9), 2, .iconst (-9)), (39, .if_icmp .lt 40, 3, .if_icmp .lt (.ofNat 42)), (42, .iload 5, 2, .iload 5), (44, .aload 4, 2, .aload 4), (46, .arraylength, 1, .arraylength), (47, .if_icmp .lt 5, 3, .if_icmp .lt (.ofNat 28)), (50, .iconst 0, 1, .iconst 0), (51, .ireturn, 1, .ireturn), (52, .aload 4, 2, .aload 4), (54, .iload 5, 2, .iload 5), (56, .iload 7, 2, .iload 7), (58, .ifCond .lt 8, 3, .ifCond .lt (.ofNat 34)), (61, .iload 7, 2, .iload 7), (63, .goto 9, 3, .goto 39), (66, .aload_n 3, 1, .aload 3), (67, .iconst (-1), 1, .iconst (-1)), (68, .iload 7, 2, .iload 7), (70, .isub, 1, .isub), (71, .iaload, 1, .iaload), (72, .iastore, 1, .iastore), (73, .iinc 5 1, 3, .iinc 5 1), (76, .goto 243, 3, .goto 142), (79, .iload 5, 2, .iload 5), (81, .iload 7, 2, .iload 7), (83, .bipush (-19), 2, .iconst (-19)), (85, .if_icmp .ne 7, 3, .if_icmp .ne (.ofNat 48)), (88, .iconst 0, 1, .iconst 0), (89, .goto 4, 3, .goto 49), (92, .iconst 1, 1, .iconst 1), (93, .isub, 1, .isub), (94, .istore 5, 2, .istore 5), (96, .iload 5, 2, .iload 5), (98, .iconst 1, 1, .iconst 1), (99, .if_icmp .ge 5, 3, .if_icmp .ge (.ofNat 56)), (102, .iconst 0, 1, .iconst 0), (103, .ireturn, 1, .ireturn), (104, .aload 4, 2, .aload 4), (106, .iload 5, 2, .iload 5), (108, .iconst 1, 1, .iconst 1), (109, .isub, 1, .isub), (110, .iaload, 1, .iaload), (111, .istore 8, 2, .istore 8), (113, .iload 5, 2, .iload 5), (115, .aload 4, 2, .aload 4), (117, .arraylength, 1, .arraylength), (118, .if_icmp .ge 11, 3, .if_icmp .ge (.ofNat 70)), (121, .aload 4, 2, .aload 4), (123, .iload 5, 2, .iload 5), (125, .iaload, 1, .iaload), (126, .goto 4, 3, .goto 71), (129, .iconst 0, 1, .iconst 0), (130, .istore 9, 2, .istore 9), (132, .iload 7, 2, .iload 7), (134, .tableswitch 170 (-18) (-10) #[160, 150, 133, 116, 99, 80, 70, 60, 50], 50, .tableswitch 132 (-18) (-10) #[127, 122, 114, 106, 98, 89, 84, 79, 74]), (184, .iload 8, 2, .iload 8), (186, .iload 9, 2, .iload 9), (188, .iadd, 1, .iadd), (189, .istore 8, 2, .istore 8), (191, .goto 119, 3, .goto 136), (194, .iload 8, 2, .iload 8), (196, .iload 9, 2, .iload 9), (198, .isub, 1, .isub), (199, .istore 8, 2, .istore 8), (201, .goto 109, 3, .goto 136), (204, .iload 8, 2, .iload 8), (206, .iload 9, 2, .iload 9), (208, .imul, 1, .imul), (209, .istore 8, 2, .istore 8), (211, .goto 99, 3, .goto 136), (214, .iload 9, 2, .iload 9), (216, .ifCond .eq 11, 3, .ifCond .eq (.ofNat 95)), (219, .iload 8, 2, .iload 8), (221, .iload 9, 2, .iload 9), (223, .idiv, 1, .idiv), (224, .goto 4, 3, .goto 96), (227, .iconst 0, 1, .iconst 0), (228, .istore 8, 2, .istore 8), (230, .goto 80, 3, .goto 136), (233, .iload 8, 2, .iload 8), (235, .iload 9, 2, .iload 9), (237, .if_icmp .ge 7, 3, .if_icmp .ge (.ofNat 103)), (240, .iconst 1, 1, .iconst 1), (241, .goto 4, 3, .goto 104), (244, .iconst 0, 1, .iconst 0), (245, .istore 8, 2, .istore 8), (247, .goto 63, 3, .goto 136), (250, .iload 8, 2, .iload 8), (252, .iload 9, 2, .iload 9), (254, .if_icmp .ne 7, 3, .if_icmp .ne (.ofNat 111)), (257, .iconst 1, 1, .iconst 1), (258, .goto 4, 3, .goto 112), (261, .iconst 0, 1, .iconst 0), (262, .istore 8, 2, .istore 8), (264, .goto 46, 3, .goto 136), (267, .iload 8, 2, .iload 8), (269, .iload 9, 2, .iload 9), (271, .if_icmp .le 7, 3, .if_icmp .le (.ofNat 119)), (274, .iconst 1, 1, .iconst 1), (275, .goto 4, 3, .goto 120), (278, .iconst 0, 1, .iconst 0), (279, .istore 8, 2, .istore 8), (281, .goto 29, 3, .goto 136), (284, .iload 8, 2, .iload 8), (286, .iload 9, 2, .iload 9), (288, .iand, 1, .iand), (289, .istore 8, 2, .istore 8), (291, .goto 19, 3, .goto 136), (294, .iload 8, 2, .iload 8), (296, .iload 9, 2, .iload 9), (298, .ior, 1, .ior), (299, .istore 8, 2, .istore 8), (301, .goto 9, 3, .goto 136), (304, .iconst 1, 1, .iconst 1), (305, .iload 8, 2, .iload 8), (307, .isub, 1, .isub), (308, .istore 8, 2, .istore 8), (310, .aload 4, 2, .aload 4), (312, .iload 5, 2, .iload 5), (314, .iconst 1, 1, .iconst 1), (315, .isub, 1, .isub), (316, .iload 8, 2, .iload 8), (318, .iastore, 1, .iastore), (319, .iinc 6 1, 3, .iinc 6 1), (322, .goto (-312), 3, .jsr_w 6), (325, .iload 5, 2, .iload 5), (327, .ifCond .le 10, 3, .ifCond .le (.ofNat 150)), (330, .aload 4, 2, .aload 4), (332, .iconst 0, 1, .iconst 0), (333, .iaload, 1, .iaload), (334, .goto 4, 3, .goto 151), (337, .iconst 0, 1, .iconst 0), (338, .ireturn, 1, .ireturn)]
def kB122 : x_R := [(0, .aload_n 0, 1, .aload 0), (1, .invokespecial 3, 3, .pop), (4, .aload_n 0, 1, .aload 0), (5, .new 9, 3, .new 4), (8, .dup, 1, .dup), (9, .invokespecial 11, 3, .invokespecial 110), (12, .putfield 12, 3, .multianewarray 5 2000), (15, .aload_n 0, 1, .aload 0), (16, .iconst (-1), 1, .iconst (-1)), (17, .putfield 18, 3, .multianewarray 5 2), (20, .aload_n 0, 1, .aload 0), (21, .sipush 401, 3, .iconst 401), (24, .newarray .int, 2, .newarray .int), (26, .putfield 22, 3, .multianewarray 5 2004), (29, .aload_n 0, 1, .aload 0), (30, .sipush 401, 3, .iconst 401), (33, .newarray .int, 2, .newarray .int), (35, .putfield 26, 3, .multianewarray 5 2005), (38, .aload_n 0, 1, .aload 0), (39, .aload_n 1, 1, .aload 1), (40, .putfield 29, 3, .multianewarray 5 2003), (43, .return_, 1, .return_)]
def kB123 : x_R := [(0, .aload_n 0, 1, .aload 0), (1, .getfield 12, 3, .invokeinterface 5 0), (4, .invokevirtual 33, 3, .invokevirtual 111), (7, .aload_n 0, 1, .aload 0), (8, .iconst 0, 1, .iconst 0), (9, .putfield 36, 3, .multianewarray 5 1), (12, .aload_n 0, 1, .aload 0), (13, .iconst (-1), 1, .iconst (-1)), (14, .putfield 18, 3, .multianewarray 5 2), (17, .aload_n 0, 1, .aload 0), (18, .invokevirtual 39, 3, .invokevirtual 124), (21, .aload_n 0, 1, .aload 0), (22, .iconst 0, 1, .iconst 0), (23, .putfield 42, 3, .multianewarray 5 6), (26, .aload_n 0, 1, .aload 0), (27, .aload_n 0, 1, .aload 0), (28, .getfield 22, 3, .invokeinterface 5 4), (31, .iconst 0, 1, .iconst 0), (32, .iaload, 1, .iaload), (33, .putfield 45, 3, .multianewarray 5 7), (36, .iconst 0, 1, .iconst 0), (37, .istore_n 1, 1, .istore 1), (38, .iload_n 1, 1, .iload 1), (39, .bipush 16, 2, .iconst 16), (41, .if_icmp .gt 27, 3, .if_icmp .gt (.ofNat 37)), (44, .aload_n 0, 1, .aload 0), (45, .getfield 45, 3, .invokeinterface 5 7), (48, .ifCond .ne 5, 3, .ifCond .ne (.ofNat 30)), (51, .iconst 1, 1, .iconst 1), (52, .ireturn, 1, .areturn), (53, .aload_n 0, 1, .aload 0), (54, .invokevirtual 48, 3, .invokevirtual 131), (57, .ifCond .ne 5, 3, .ifCond .ne (.ofNat 35)), (60, .iconst 0, 1, .iconst 0), (61, .ireturn, 1, .areturn), (62, .iinc 1 1, 3, .iinc 1 1), (65, .goto (-27), 3, .jsr_w 22), (68, .iconst 0, 1, .iconst 0), (69, .ireturn, 1, .areturn)]
def kB124 : x_R := [(0, .iconst 0, 1, .iconst 0), (1, .istore_n 1, 1, .istore 1), (2, .iconst 0, 1, .iconst 0), (3, .istore_n 2, 1, .istore 2), (4, .iload_n 2, 1, .iload 2), (5, .sipush 400, 3, .iconst 400), (8, .if_icmp .gt 86, 3, .if_icmp .gt (.ofNat 52)), (11, .iload_n 1, 1, .iload 1), (12, .aload_n 0, 1, .aload 0), (13, .getfield 29, 3, .invokeinterface 5 3), (16, .getfield 52, 3, .invokeinterface 8 1), (19, .if_icmp .ge 23, 3, .if_icmp .ge (.ofNat 20)), (22, .aload_n 0, 1, .aload 0), (23, .getfield 29, 3, .invokeinterface 5 3), (26, .iload_n 1, 1, .iload 1), (27, .invokevirtual 57, 3, .invokevirtual 171), (30, .invokestatic 61, 3, .invokestatic 224), (33, .ifCond .eq 9, 3, .ifCond .eq (.ofNat 20)), (36, .iinc 1 1, 3, .iinc 1 1), (39, .goto (-28), 3, .jsr_w 7), (42, .aload_n 0, 1, .aload 0), (43, .getfield 26, 3, .invokeinterface 5 5), (46, .iload_n 2, 1, .iload 2), (47, .iload_n 1, 1, .iload 1), (48, .iastore, 1, .iastore), (49, .aload_n 0, 1, .aload 0), (50, .getfield 22, 3, .invokeinterface 5 4), (53, .iload_n 2, 1, .iload 2), (54, .iconst 0, 1, .iconst 0), (55, .iastore, 1, .iastore), (56, .iload_n 1, 1, .iload 1), (57, .aload_n 0, 1, .aload 0), (58, .getfield 29, 3, .invokeinterface 5 3), (61, .getfield 52, 3, .invokeinterface 8 1), (64, .if_icmp .lt 4, 3, .if_icmp .lt (.ofNat 36)), (67, .return_, 1, .return_), (68, .aload_n 0, 1, .aload 0), (69, .iload_n 1, 1, .iload 1), (70, .invokevirtual 65, 3, .invokevirtual 125), (73, .istore_n 3, 1, .istore 3), (74, .aload_n 0, 1, .aload 0), (75, .getfield 22, 3, .invokeinterface 5 4), (78, .iload_n 2, 1, .iload 2), (79, .aload_n 0, 1, .aload 0), (80, .iload_n 1, 1, .iload 1), (81, .iload_n 3, 1, .iload 3), (82, .invokevirtual 68, 3, .invokevirtual 126), (85, .iastore, 1, .iastore), (86, .iload_n 3, 1, .iload 3), (87, .istore_n 1, 1, .istore 1), (88, .iinc 2 1, 3, .iinc 2 1), (91, .goto (-87), 3, .jsr_w 4), (94, .return_, 1, .return_)]
def kB125 : x_R := [(0, .aload_n 0, 1, .aload 0), (1, .getfield 29, 3, .invokeinterface 5 3), (4, .iload_n 1, 1, .iload 1), (5, .invokevirtual 57, 3, .invokevirtual 171), (8, .invokestatic 72, 3, .invokestatic 222), (11, .istore_n 2, 1, .istore 2), (12, .aload_n 0, 1, .aload 0), (13, .getfield 29, 3, .invokeinterface 5 3), (16, .iload_n 1, 1, .iload 1), (17, .invokevirtual 57, 3, .invokevirtual 171), (20, .invokestatic 75, 3, .invokestatic 223), (23, .istore_n 3, 1, .istore 3), (24, .iload_n 1, 1, .iload 1), (25, .iconst 1, 1, .iconst 1), (26, .iadd, 1, .iadd), (27, .istore 4, 2, .istore 4), (29, .iload 4, 2, .iload 4), (31, .aload_n 0, 1, .aload 0), (32, .getfield 29, 3, .invokeinterface 5 3), (35, .getfield 52, 3, .invokeinterface 8 1), (38, .if_icmp .ge 47, 3, .if_icmp .ge (.ofNat 39)), (41, .iload_n 2, 1, .iload 2), (42, .ifCond .eq 18, 3, .ifCond .eq (.ofNat 29)), (45, .aload_n 0, 1, .aload 0), (46, .getfield 29, 3, .invokeinterface 5 3), (49, .iload 4, 2, .iload 4), (51, .invokevirtual 57, 3, .invokevirtual 171), (54, .invokestatic 72, 3, .invokestatic 222), (57, .ifCond .ne 22, 3, .ifCond .ne (.ofNat 37)), (60, .iload_n 3, 1, .iload 3), (61, .ifCond .eq 24, 3, .ifCond .eq (.ofNat 39)), (64, .aload_n 0, 1, .aload 0), (65, .getfield 29, 3, .invokeinterface 5 3), (68, .iload 4, 2, .iload 4), (70, .invokevirtual 57, 3, .invokevirtual 171), (73, .invokestatic 75, 3, .invokestatic 223), (76, .ifCond .eq 9, 3, .ifCond .eq (.ofNat 39)), (79, .iinc 4 1, 3, .iinc 4 1), (82, .goto (-53), 3, .jsr_w 16), (85, .iload 4, 2, .iload 4), (87, .ireturn, 1, .ireturn)]
def kB126 : x_R := [(0, .aload_n 0, 1, .aload 0), (1, .getfield 29, 3, .invokeinterface 5 3), (4, .iload_n 1, 1, .iload 1), (5, .invokevirtual 57, 3, .invokevirtual 171), (8, .istore_n 3, 1, .istore 3), (9, .iload_n 3, 1, .iload 3), (10, .invokestatic 72, 3, .invokestatic 222), (13, .ifCond .eq 10, 3, .ifCond .eq (.ofNat 13)), (16, .aload_n 0, 1, .aload 0), (17, .iload_n 1, 1, .iload 1), (18, .iload_n 2, 1, .iload 2), (19, .invokevirtual 78, 3, .invokevirtual 127), (22, .ireturn, 1, .ireturn), (23, .iload_n 3, 1, .iload 3), (24, .invokestatic 75, 3, .invokestatic 223), (27, .ifCond .ne 19, 3, .ifCond .ne (.ofNat 25)), (30, .ldc 81, 2, .ldc 0), (32, .iload_n 3, 1, .iload 3), (33, .i2c, 1, .i2c), (34, .invokevirtual 83, 3, .checkcast 1002), (37, .ifCond .lt 7, 3, .ifCond .lt (.ofNat 23)), (40, .iload_n 3, 1, .iload 3), (41, .goto 4, 3, .goto 24), (44, .iconst 1, 1, .iconst 1), (45, .ireturn, 1, .ireturn), (46, .iload_n 2, 1, .iload 2), (47, .iload_n 1, 1, .iload 1), (48, .isub, 1, .isub), (49, .iconst 4, 1, .iconst 4), (50, .if_icmp .le 5, 3, .if_icmp .le (.ofNat 32)), (53, .iconst 1, 1, .iconst 1), (54, .ireturn, 1, .ireturn), (55, .iconst 0, 1, .iconst 0), (56, .istore 4, 2, .istore 4), (58, .iload_n 1, 1, .iload 1), (59, .istore 5, 2, .istore 5), (61, .iload 5, 2, .iload 5), (63, .iload_n 2, 1, .iload 2), (64, .if_icmp .ge 29, 3, .if_icmp .ge (.ofNat 52)), (67, .iload 4, 2, .iload 4), (69, .bipush 10, 2, .iconst 10), (71, .imul, 1, .imul), (72, .aload_n 0, 1, .aload 0), (73, .getfield 29, 3, .invokeinterface 5 3), (76, .iload 5, 2, .iload 5), (78, .invokevirtual 57, 3, .invokevirtual 171), (81, .iadd, 1, .iadd), (82, .bipush 48, 2, .iconst 48), (84, .isub, 1, .isub), (85, .istore 4, 2, .istore 4), (87, .iinc 5 1, 3, .iinc 5 1), (90, .goto (-29), 3, .jsr_w 36), (93, .sipush 1000, 3, .iconst 1000), (96, .iload 4, 2, .iload 4), (98, .iadd, 1, .iadd), (99, .ireturn, 1, .ireturn)]
def kB127 : x_R := [(0, .iload_n 2, 1, .iload 2), (1, .iload_n 1, 1, .iload 1), (2, .isub, 1, .isub), (3, .iconst 5, 1, .iconst 5), (4, .if_icmp .le 5, 3, .if_icmp .le (.ofNat 7)), (7, .iconst 1, 1, .iconst 1), (8, .ireturn, 1, .ireturn), (9, .iconst 0, 1, .iconst 0), (10, .istore_n 3, 1, .istore 3), (11, .iload_n 3, 1, .iload 3), (12, .iconst 5, 1, .iconst 5), (13, .imul, 1, .imul), (14, .ldc 88, 2, .ldc 1), (16, .invokevirtual 90, 3, .checkcast 1000), (19, .if_icmp .ge 25, 3, .if_icmp .ge (.ofNat 29)), (22, .aload_n 0, 1, .aload 0), (23, .iload_n 3, 1, .iload 3), (24, .iconst 5, 1, .iconst 5), (25, .imul, 1, .imul), (26, .iload_n 1, 1, .iload 1), (27, .iload_n 2, 1, .iload 2), (28, .invokevirtual 93, 3, .invokevirtual 128), (31, .ifCond .eq 7, 3, .ifCond .eq (.ofNat 27)), (34, .iconst 3, 1, .iconst 3), (35, .iload_n 3, 1, .iload 3), (36, .iadd, 1, .iadd), (37, .ireturn, 1, .ireturn), (38, .iinc 3 1, 3, .iinc 3 1), (41, .goto (-30), 3, .jsr_w 9), (44, .iconst 1, 1, .iconst 1), (45, .ireturn, 1, .ireturn)]
def kB128 : x_R := [(0, .iconst 0, 1, .iconst 0), (1, .istore 4, 2, .istore 4), (3, .iload 4, 2, .iload 4), (5, .iconst 5, 1, .iconst 5), (6, .if_icmp .ge 63, 3, .if_icmp .ge (.ofNat 36)), (9, .iload_n 1, 1, .iload 1), (10, .iload 4, 2, .iload 4), (12, .iadd, 1, .iadd), (13, .ldc 88, 2, .ldc 1), (15, .invokevirtual 90, 3, .checkcast 1000), (18, .if_icmp .ge 51, 3, .if_icmp .ge (.ofNat 36)), (21, .iload_n 2, 1, .iload 2), (22, .iload 4, 2, .iload 4), (24, .iadd, 1, .iadd), (25, .iload_n 3, 1, .iload 3), (26, .if_icmp .ge 17, 3, .if_icmp .ge (.ofNat 23)), (29, .aload_n 0, 1, .aload 0), (30, .getfield 29, 3, .invokeinterface 5 3), (33, .iload_n 2, 1, .iload 2), (34, .iload 4, 2, .iload 4), (36, .iadd, 1, .iadd), (37, .invokevirtual 57, 3, .invokevirtual 171), (40, .goto 5, 3, .goto 24), (43, .bipush 32, 2, .iconst 32), (45, .istore 5, 2, .istore 5), (47, .ldc 88, 2, .ldc 1), (49, .iload_n 1, 1, .iload 1), (50, .iload 4, 2, .iload 4), (52, .iadd, 1, .iadd), (53, .invokevirtual 97, 3, .checkcast 1001), (56, .iload 5, 2, .iload 5), (58, .if_icmp .eq 5, 3, .if_icmp .eq (.ofNat 34)), (61, .iconst 0, 1, .iconst 0), (62, .ireturn, 1, .areturn), (63, .iinc 4 1, 3, .iinc 4 1), (66, .goto (-63), 3, .jsr_w 2), (69, .iconst 1, 1, .iconst 1), (70, .ireturn, 1, .areturn)]
def kB129 : x_R := [(0, .aload_n 0, 1, .aload 0), (1, .getfield 42, 3, .invokeinterface 5 6), (4, .ifCond .lt 43, 3, .ifCond .lt (.ofNat 23)), (7, .aload_n 0, 1, .aload 0), (8, .getfield 42, 3, .invokeinterface 5 6), (11, .sipush 400, 3, .iconst 400), (14, .if_icmp .ge 33, 3, .if_icmp .ge (.ofNat 23)), (17, .aload_n 0, 1, .aload 0), (18, .getfield 45, 3, .invokeinterface 5 7), (21, .ifCond .eq 26, 3, .ifCond .eq (.ofNat 23)), (24, .aload_n 0, 1, .aload 0), (25, .dup, 1, .dup), (26, .getfield 42, 3, .invokeinterface 5 6), (29, .iconst 1, 1, .iconst 1), (30, .iadd, 1, .iadd), (31, .putfield 42, 3, .multianewarray 5 6), (34, .aload_n 0, 1, .aload 0), (35, .aload_n 0, 1, .aload 0), (36, .getfield 22, 3, .invokeinterface 5 4), (39, .aload_n 0, 1, .aload 0), (40, .getfield 42, 3, .invokeinterface 5 6), (43, .iaload, 1, .iaload), (44, .putfield 45, 3, .multianewarray 5 7), (47, .return_, 1, .return_)]
def kB130 : x_R := [(0, .aload_n 0, 1, .aload 0), (1, .iload_n 1, 1, .iload 1), (2, .putfield 36, 3, .multianewarray 5 1), (5, .aload_n 0, 1, .aload 0), (6, .aload_n 0, 1, .aload 0), (7, .getfield 42, 3, .invokeinterface 5 6), (10, .ifCond .lt 27, 3, .ifCond .lt (.ofNat 19)), (13, .aload_n 0, 1, .aload 0), (14, .getfield 42, 3, .invokeinterface 5 6), (17, .aload_n 0, 1, .aload 0), (18, .getfield 26, 3, .invokeinterface 5 5), (21, .arraylength, 1, .arraylength), (22, .if_icmp .ge 15, 3, .if_icmp .ge (.ofNat 19)), (25, .aload_n 0, 1, .aload 0), (26, .getfield 26, 3, .invokeinterface 5 5), (29, .aload_n 0, 1, .aload 0), (30, .getfield 42, 3, .invokeinterface 5 6), (33, .iaload, 1, .iaload), (34, .goto 4, 3, .goto 20), (37, .iconst (-1), 1, .iconst (-1)), (38, .putfield 18, 3, .multianewarray 5 2), (41, .iconst 0, 1, .iconst 0), (42, .ireturn, 1, .areturn)]
def kB131 : x_R := [(0, .aload_n 0, 1, .aload 0), (1, .getfield 45, 3, .invokeinterface 5 7), (4, .iconst 3, 1, .iconst 3), (5, .if_icmp .eq 9, 3, .if_icmp .eq (.ofNat 8)), (8, .aload_n 0, 1, .aload 0), (9, .iconst 1, 1, .iconst 1), (10, .invokevirtual 101, 3, .invokevirtual 130), (13, .ireturn, 1, .areturn), (14, .aload_n 0, 1, .aload 0), (15, .getfield 12, 3, .invokeinterface 5 0), (18, .getfield 104, 3, .invokeinterface 4 4), (21, .bipush 16, 2, .iconst 16), (23, .if_icmp .lt 9, 3, .if_icmp .lt (.ofNat 17)), (26, .aload_n 0, 1, .aload 0), (27, .iconst 3, 1, .iconst 3), (28, .invokevirtual 101, 3, .invokevirtual 130), (31, .ireturn, 1, .areturn), (32, .aload_n 0, 1, .aload 0), (33, .invokevirtual 107, 3, .invokevirtual 129), (36, .aload_n 0, 1, .aload 0), (37, .invokevirtual 110, 3, .invokevirtual 135), (40, .ifCond .ne 5, 3, .ifCond .ne (.ofNat 24)), (43, .iconst 0, 1, .iconst 0), (44, .ireturn, 1, .areturn), (45, .aload_n 0, 1, .aload 0), (46, .getfield 12, 3, .invokeinterface 5 0), (49, .invokevirtual 113, 3, .invokevirtual 114), (52, .aload_n 0, 1, .aload 0), (53, .getfield 45, 3, .invokeinterface 5 7), (56, .iconst 4, 1, .iconst 4), (57, .if_icmp .ne 17, 3, .if_icmp .ne (.ofNat 39)), (60, .aload_n 0, 1, .aload 0), (61, .invokevirtual 107, 3, .invokevirtual 129), (64, .aload_n 0, 1, .aload 0), (65, .iconst 0, 1, .iconst 0), (66, .invokevirtual 116, 3, .invokevirtual 132), (69, .ifCond .ne 5, 3, .ifCond .ne (.ofNat 39)), (72, .iconst 0, 1, .iconst 0), (73, .ireturn, 1, .areturn), (74, .aload_n 0, 1, .aload 0), (75, .getfield 45, 3, .invokeinterface 5 7), (78, .bipush 59, 2, .iconst 59), (80, .if_icmp .eq 9, 3, .if_icmp .eq (.ofNat 47)), (83, .aload_n 0, 1, .aload 0), (84, .iconst 1, 1, .iconst 1), (85, .invokevirtual 101, 3, .invokevirtual 130), (88, .ireturn, 1, .areturn), (89, .aload_n 0, 1, .aload 0), (90, .getfield 12, 3, .invokeinterface 5 0), (93, .invokevirtual 119, 3, .invokevirtual 115), (96, .aload_n 0, 1, .aload 0), (97, .invokevirtual 107, 3, .invokevirtual 129), (100, .iconst 1, 1, .iconst 1), (101, .ireturn, 1, .areturn)]
def kB132 : x_R := [(0, .iconst 0, 1, .iconst 0), (1, .istore_n 2, 1, .istore 2), (2, .iconst 0, 1, .iconst 0), (3, .istore_n 3, 1, .istore 3), (4, .iload_n 3, 1, .iload 3), (5, .sipush 400, 3, .iconst 400), (8, .if_icmp .ge 97, 3, .if_icmp .ge (.ofNat 54)), (11, .aload_n 0, 1, .aload 0), (12, .iload_n 1, 1, .iload 1), (13, .invokevirtual 122, 3, .invokevirtual 133), (16, .ifCond .ne 5, 3, .ifCond .ne (.ofNat 13)), (19, .iconst 0, 1, .iconst 0), (20, .ireturn, 1, .areturn), (21, .iconst 0, 1, .iconst 0), (22, .istore 4, 2, .istore 4), (24, .iload 4, 2, .iload 4), (26, .sipush 400, 3, .iconst 400), (29, .if_icmp .ge 41, 3, .if_icmp .ge (.ofNat 36)), (32, .aload_n 0, 1, .aload 0), (33, .getfield 45, 3, .invokeinterface 5 7), (36, .bipush 6, 2, .iconst 6), (38, .if_icmp .ne 32, 3, .if_icmp .ne (.ofNat 36)), (41, .aload_n 0, 1, .aload 0), (42, .invokevirtual 107, 3, .invokevirtual 129), (45, .aload_n 0, 1, .aload 0), (46, .iload_n 1, 1, .iload 1), (47, .invokevirtual 122, 3, .invokevirtual 133), (50, .ifCond .ne 5, 3, .ifCond .ne (.ofNat 30)), (53, .iconst 0, 1, .iconst 0), (54, .ireturn, 1, .areturn), (55, .aload_n 0, 1, .aload 0), (56, .getfield 12, 3, .invokeinterface 5 0), (59, .bipush (-17), 2, .iconst (-17)), (61, .invokevirtual 125, 3, .invokevirtual 112), (64, .iinc 4 1, 3, .iinc 4 1), (67, .goto (-43), 3, .jsr_w 15), (70, .iload_n 2, 1, .iload 2), (71, .ifCond .eq 12, 3, .ifCond .eq (.ofNat 42)), (74, .aload_n 0, 1, .aload 0), (75, .getfield 12, 3, .invokeinterface 5 0), (78, .bipush (-18), 2, .iconst (-18)), (80, .invokevirtual 125, 3, .invokevirtual 112), (83, .aload_n 0, 1, .aload 0), (84, .getfield 45, 3, .invokeinterface 5 7), (87, .iconst 5, 1, .iconst 5), (88, .if_icmp .eq 5, 3, .if_icmp .eq (.ofNat 48)), (91, .iconst 1, 1, .iconst 1), (92, .ireturn, 1, .areturn), (93, .iconst 1, 1, .iconst 1), (94, .istore_n 2, 1, .istore 2), (95, .aload_n 0, 1, .aload 0), (96, .invokevirtual 107, 3, .invokevirtual 129), (99, .iinc 3 1, 3, .iinc 3 1), (102, .goto (-98), 3, .jsr_w 4), (105, .iconst 1, 1, .iconst 1), (106, .ireturn, 1, .areturn)]
def kB133 : x_R := [(0, .aload_n 0, 1, .aload 0), (1, .getfield 45, 3, .invokeinterface 5 7), (4, .bipush 7, 2, .iconst 7), (6, .if_icmp .eq 12, 3, .if_icmp .eq (.ofNat 8)), (9, .aload_n 0, 1, .aload 0), (10, .getfield 45, 3, .invokeinterface 5 7), (13, .bipush 40, 2, .iconst 40), (15, .if_icmp .ne 9, 3, .if_icmp .ne (.ofNat 12)), (18, .aload_n 0, 1, .aload 0), (19, .iload_n 1, 1, .iload 1), (20, .invokevirtual 129, 3, .invokevirtual 134), (23, .ireturn, 1, .areturn), (24, .aload_n 0, 1, .aload 0), (25, .invokevirtual 110, 3, .invokevirtual 135), (28, .ifCond .ne 5, 3, .ifCond .ne (.ofNat 17)), (31, .iconst 0, 1, .iconst 0), (32, .ireturn, 1, .areturn), (33, .aload_n 0, 1, .aload 0), (34, .getfield 45, 3, .invokeinterface 5 7), (37, .bipush 60, 2, .iconst 60), (39, .if_icmp .eq 27, 3, .if_icmp .eq (.ofNat 33)), (42, .aload_n 0, 1, .aload 0), (43, .getfield 45, 3, .invokeinterface 5 7), (46, .bipush 61, 2, .iconst 61), (48, .if_icmp .eq 18, 3, .if_icmp .eq (.ofNat 33)), (51, .aload_n 0, 1, .aload 0), (52, .getfield 45, 3, .invokeinterface 5 7), (55, .bipush 62, 2, .iconst 62), (57, .if_icmp .eq 9, 3, .if_icmp .eq (.ofNat 33)), (60, .aload_n 0, 1, .aload 0), (61, .iconst 1, 1, .iconst 1), (62, .invokevirtual 101, 3, .invokevirtual 130), (65, .ireturn, 1, .areturn), (66, .aload_n 0, 1, .aload 0), (67, .getfield 45, 3, .invokeinterface 5 7), (70, .bipush 60, 2, .iconst 60), (72, .if_icmp .ne 8, 3, .if_icmp .ne (.ofNat 39)), (75, .bipush (-14), 2, .iconst (-14)), (77, .goto 19, 3, .goto 46), (80, .aload_n 0, 1, .aload 0), (81, .getfield 45, 3, .invokeinterface 5 7), (84, .bipush 61, 2, .iconst 61), (86, .if_icmp .ne 8, 3, .if_icmp .ne (.ofNat 45)), (89, .bipush (-15), 2, .iconst (-15)), (91, .goto 5, 3, .goto 46), (94, .bipush (-16), 2, .iconst (-16)), (96, .istore_n 2, 1, .istore 2), (97, .aload_n 0, 1, .aload 0), (98, .invokevirtual 107, 3, .invokevirtual 129), (101, .aload_n 0, 1, .aload 0), (102, .invokevirtual 110, 3, .invokevirtual 135), (105, .ifCond .ne 5, 3, .ifCond .ne (.ofNat 54)), (108, .iconst 0, 1, .iconst 0), (109, .ireturn, 1, .areturn), (110, .aload_n 0, 1, .aload 0), (111, .getfield 12, 3, .invokeinterface 5 0), (114, .iload_n 2, 1, .iload 2), (115, .invokevirtual 125, 3, .invokevirtual 112), (118, .iconst 1, 1, .iconst 1), (119, .ireturn, 1, .areturn)]
def kB134 : x_R := [(0, .iload_n 1, 1, .iload 1), (1, .bipush 8, 2, .iconst 8), (3, .if_icmp .lt 9, 3, .if_icmp .lt (.ofNat 7)), (6, .aload_n 0, 1, .aload 0), (7, .iconst 3, 1, .iconst 3), (8, .invokevirtual 101, 3, .invokevirtual 130), (11, .ireturn, 1, .areturn), (12, .aload_n 0, 1, .aload 0), (13, .getfield 45, 3, .invokeinterface 5 7), (16, .bipush 7, 2, .iconst 7), (18, .if_icmp .ne 7, 3, .if_icmp .ne (.ofNat 13)), (21, .iconst 1, 1, .iconst 1), (22, .goto 4, 3, .goto 14), (25, .iconst 0, 1, .iconst 0), (26, .istore_n 2, 1, .istore 2), (27, .aload_n 0, 1, .aload 0), (28, .invokevirtual 107, 3, .invokevirtual 129), (31, .iload_n 2, 1, .iload 2), (32, .ifCond .eq 26, 3, .ifCond .eq (.ofNat 33)), (35, .aload_n 0, 1, .aload 0), (36, .iload_n 1, 1, .iload 1), (37, .iconst 1, 1, .iconst 1), (38, .iadd, 1, .iadd), (39, .invokevirtual 122, 3, .invokevirtual 133), (42, .ifCond .ne 5, 3, .ifCond .ne (.ofNat 27)), (45, .iconst 0, 1, .iconst 0), (46, .ireturn, 1, .areturn), (47, .aload_n 0, 1, .aload 0), (48, .getfield 12, 3, .invokeinterface 5 0), (51, .bipush (-19), 2, .iconst (-19)), (53, .invokevirtual 125, 3, .invokevirtual 112), (56, .iconst 1, 1, .iconst 1), (57, .ireturn, 1, .areturn), (58, .aload_n 0, 1, .aload 0), (59, .iload_n 1, 1, .iload 1), (60, .iconst 1, 1, .iconst 1), (61, .iadd, 1, .iadd), (62, .invokevirtual 116, 3, .invokevirtual 132), (65, .ifCond .ne 5, 3, .ifCond .ne (.ofNat 41)), (68, .iconst 0, 1, .iconst 0), (69, .ireturn, 1, .areturn), (70, .aload_n 0, 1, .aload 0), (71, .getfield 45, 3, .invokeinterface 5 7), (74, .bipush 41, 2, .iconst 41), (76, .if_icmp .eq 9, 3, .if_icmp .eq (.ofNat 49)), (79, .aload_n 0, 1, .aload 0), (80, .iconst 1, 1, .iconst 1), (81, .invokevirtual 101, 3, .invokevirtual 130), (84, .ireturn, 1, .areturn), (85, .aload_n 0, 1, .aload 0), (86, .invokevirtual 107, 3, .invokevirtual 129), (89, .iconst 1, 1, .iconst 1), (90, .ireturn, 1, .areturn)]
def kB135 : x_R := [(0, .iconst 0, 1, .iconst 0), (1, .istore_n 1, 1, .istore 1), (2, .iconst 0, 1, .iconst 0), (3, .istore_n 2, 1, .istore 2), (4, .iload_n 2, 1, .iload 2), (5, .sipush 400, 3, .iconst 400), (8, .if_icmp .ge 167, 3, .if_icmp .ge (.ofNat 84)), (11, .aload_n 0, 1, .aload 0), (12, .invokevirtual 132, 3, .invokevirtual 136), (15, .ifCond .ne 5, 3, .ifCond .ne (.ofNat 12)), (18, .iconst 0, 1, .iconst 0), (19, .ireturn, 1, .areturn), (20, .iconst 0, 1, .iconst 0), (21, .istore_n 3, 1, .istore 3), (22, .iload_n 3, 1, .iload 3), (23, .sipush 400, 3, .iconst 400), (26, .if_icmp .ge 90, 3, .if_icmp .ge (.ofNat 56)), (29, .aload_n 0, 1, .aload 0), (30, .getfield 45, 3, .invokeinterface 5 7), (33, .bipush 42, 2, .iconst 42), (35, .if_icmp .eq 12, 3, .if_icmp .eq (.ofNat 25)), (38, .aload_n 0, 1, .aload 0), (39, .getfield 45, 3, .invokeinterface 5 7), (42, .bipush 47, 2, .iconst 47), (44, .if_icmp .ne 72, 3, .if_icmp .ne (.ofNat 56)), (47, .aload_n 0, 1, .aload 0), (48, .getfield 45, 3, .invokeinterface 5 7), (51, .bipush 42, 2, .iconst 42), (53, .if_icmp .ne 7, 3, .if_icmp .ne (.ofNat 31)), (56, .iconst 1, 1, .iconst 1), (57, .goto 4, 3, .goto 32), (60, .iconst 0, 1, .iconst 0), (61, .istore 4, 2, .istore 4), (63, .aload_n 0, 1, .aload 0), (64, .invokevirtual 107, 3, .invokevirtual 129), (67, .iload 4, 2, .iload 4), (69, .ifCond .eq 13, 3, .ifCond .eq (.ofNat 41)), (72, .aload_n 0, 1, .aload 0), (73, .invokevirtual 132, 3, .invokevirtual 136), (76, .ifCond .ne 15, 3, .ifCond .ne (.ofNat 46)), (79, .goto 10, 3, .goto 44), (82, .aload_n 0, 1, .aload 0), (83, .invokevirtual 135, 3, .invokevirtual 137), (86, .ifCond .ne 5, 3, .ifCond .ne (.ofNat 46)), (89, .iconst 0, 1, .iconst 0), (90, .ireturn, 1, .areturn), (91, .aload_n 0, 1, .aload 0), (92, .getfield 12, 3, .invokeinterface 5 0), (95, .iload 4, 2, .iload 4), (97, .ifCond .eq 8, 3, .ifCond .eq (.ofNat 52)), (100, .bipush (-12), 2, .iconst (-12)), (102, .goto 5, 3, .goto 53), (105, .bipush (-13), 2, .iconst (-13)), (107, .invokevirtual 125, 3, .invokevirtual 112), (110, .iinc 3 1, 3, .iinc 3 1), (113, .goto (-91), 3, .jsr_w 14), (116, .iload_n 1, 1, .iload 1), (117, .ifCond .eq 11, 3, .ifCond .eq (.ofNat 62)), (120, .aload_n 0, 1, .aload 0), (121, .getfield 12, 3, .invokeinterface 5 0), (124, .iload_n 1, 1, .iload 1), (125, .invokevirtual 125, 3, .invokevirtual 112), (128, .aload_n 0, 1, .aload 0), (129, .getfield 45, 3, .invokeinterface 5 7), (132, .bipush 43, 2, .iconst 43), (134, .if_icmp .eq 14, 3, .if_icmp .eq (.ofNat 72)), (137, .aload_n 0, 1, .aload 0), (138, .getfield 45, 3, .invokeinterface 5 7), (141, .bipush 45, 2, .iconst 45), (143, .if_icmp .eq 5, 3, .if_icmp .eq (.ofNat 72)), (146, .iconst 1, 1, .iconst 1), (147, .ireturn, 1, .areturn), (148, .aload_n 0, 1, .aload 0), (149, .getfield 45, 3, .invokeinterface 5 7), (152, .bipush 43, 2, .iconst 43), (154, .if_icmp .ne 8, 3, .if_icmp .ne (.ofNat 78)), (157, .bipush (-10), 2, .iconst (-10)), (159, .goto 5, 3, .goto 79), (162, .bipush (-11), 2, .iconst (-11)), (164, .istore_n 1, 1, .istore 1), (165, .aload_n 0, 1, .aload 0), (166, .invokevirtual 107, 3, .invokevirtual 129), (169, .iinc 2 1, 3, .iinc 2 1), (172, .goto (-168), 3, .jsr_w 4), (175, .iconst 1, 1, .iconst 1), (176, .ireturn, 1, .areturn)]
def kB136 : x_R := [(0, .aload_n 0, 1, .aload 0), (1, .getfield 45, 3, .invokeinterface 5 7), (4, .bipush 8, 2, .iconst 8), (6, .isub, 1, .isub), (7, .istore_n 1, 1, .istore 1), (8, .aload_n 0, 1, .aload 0), (9, .getfield 45, 3, .invokeinterface 5 7), (12, .sipush 1000, 3, .iconst 1000), (15, .if_icmp .lt 21, 3, .if_icmp .lt (.ofNat 17)), (18, .aload_n 0, 1, .aload 0), (19, .getfield 12, 3, .invokeinterface 5 0), (22, .aload_n 0, 1, .aload 0), (23, .getfield 45, 3, .invokeinterface 5 7), (26, .sipush 1000, 3, .iconst 1000), (29, .isub, 1, .isub), (30, .invokevirtual 125, 3, .invokevirtual 112), (33, .goto 47, 3, .goto 42), (36, .iload_n 1, 1, .iload 1), (37, .ifCond .lt 37, 3, .ifCond .lt (.ofNat 38)), (40, .iload_n 1, 1, .iload 1), (41, .bipush 9, 2, .iconst 9), (43, .if_icmp .ge 31, 3, .if_icmp .ge (.ofNat 38)), (46, .aload_n 0, 1, .aload 0), (47, .getfield 12, 3, .invokeinterface 5 0), (50, .dup, 1, .dup), (51, .getfield 138, 3, .invokeinterface 4 5), (54, .iconst 1, 1, .iconst 1), (55, .iload_n 1, 1, .iload 1), (56, .ishl, 1, .ishl), (57, .ior, 1, .ior), (58, .putfield 138, 3, .multianewarray 4 5), (61, .aload_n 0, 1, .aload 0), (62, .getfield 12, 3, .invokeinterface 5 0), (65, .iconst (-1), 1, .iconst (-1)), (66, .iload_n 1, 1, .iload 1), (67, .isub, 1, .isub), (68, .invokevirtual 125, 3, .invokevirtual 112), (71, .goto 9, 3, .goto 42), (74, .aload_n 0, 1, .aload 0), (75, .iconst 1, 1, .iconst 1), (76, .invokevirtual 101, 3, .invokevirtual 130), (79, .ireturn, 1, .areturn), (80, .aload_n 0, 1, .aload 0), (81, .invokevirtual 107, 3, .invokevirtual 129), (84, .iconst 1, 1, .iconst 1), (85, .ireturn, 1, .areturn)]
def kB137 : x_R := [(0, .aload_n 0, 1, .aload 0), (1, .getfield 45, 3, .invokeinterface 5 7), (4, .sipush 1000, 3, .iconst 1000), (7, .if_icmp .gt 23, 3, .if_icmp .gt (.ofNat 14)), (10, .aload_n 0, 1, .aload 0), (11, .aload_n 0, 1, .aload 0), (12, .getfield 45, 3, .invokeinterface 5 7), (15, .sipush 1000, 3, .iconst 1000), (18, .if_icmp .ne 7, 3, .if_icmp .ne (.ofNat 11)), (21, .iconst 2, 1, .iconst 2), (22, .goto 4, 3, .goto 12), (25, .iconst 1, 1, .iconst 1), (26, .invokevirtual 101, 3, .invokevirtual 130), (29, .ireturn, 1, .areturn), (30, .aload_n 0, 1, .aload 0), (31, .getfield 12, 3, .invokeinterface 5 0), (34, .aload_n 0, 1, .aload 0), (35, .getfield 45, 3, .invokeinterface 5 7), (38, .sipush 1000, 3, .iconst 1000), (41, .isub, 1, .isub), (42, .invokevirtual 125, 3, .invokevirtual 112), (45, .aload_n 0, 1, .aload 0), (46, .invokevirtual 107, 3, .invokevirtual 129), (49, .iconst 1, 1, .iconst 1), (50, .ireturn, 1, .areturn)]
def kB138 : x_R := [(0, .aload_n 0, 1, .aload 0), (1, .invokespecial 3, 3, .pop), (4, .aload_n 0, 1, .aload 0), (5, .bipush 29, 2, .iconst 29), (7, .newarray .boolean, 2, .newarray .boolean), (9, .putfield 9, 3, .multianewarray 6 2001), (12, .aload_n 0, 1, .aload 0), (13, .bipush 60, 2, .iconst 60), (15, .newarray .int, 2, .newarray .int), (17, .putfield 15, 3, .multianewarray 6 2002), (20, .aload_n 0, 1, .aload 0), (21, .bipush 9, 2, .iconst 9), (23, .newarray .int, 2, .newarray .int), (25, .putfield 19, 3, .multianewarray 6 2003), (28, .aload_n 0, 1, .aload 0), (29, .bipush 64, 2, .iconst 64), (31, .newarray .int, 2, .newarray .int), (33, .putfield 22, 3, .multianewarray 6 2004), (36, .aload_n 0, 1, .aload 0), (37, .sipush 384, 3, .iconst 384), (40, .newarray .long, 2, .newarray .long), (42, .putfield 25, 3, .multianewarray 6 2005), (45, .aload_n 0, 1, .aload 0), (46, .bipush 8, 2, .iconst 8), (48, .newarray .int, 2, .newarray .int), (50, .putfield 29, 3, .multianewarray 6 2006), (53, .aload_n 0, 1, .aload 0), (54, .bipush 8, 2, .iconst 8), (56, .newarray .int, 2, .newarray .int), (58, .putfield 32, 3, .multianewarray 6 2007), (61, .aload_n 0, 1, .aload 0), (62, .aload_n 1, 1, .aload 1), (63, .putfield 35, 3, .multianewarray 6 2000), (66, .aload_n 0, 1, .aload 0), (67, .getfield 25, 3, .invokeinterface 6 5), (70, .ldc2_w 39, 3, .jsr (-1)), (73, .invokestatic 41, 3, .invokestatic 85), (76, .return_, 1, .return_)]
def kB139 : x_R := [(0, .aload_n 0, 1, .aload 0), (1, .getfield 25, 3, .invokeinterface 6 5), (4, .ldc2_w 39, 3, .jsr (-1)), (7, .invokestatic 41, 3, .invokestatic 85), (10, .return_, 1, .return_)]
def kB140 : x_R := [(0, .iconst 0, 1, .iconst 0), (1, .istore_n 1, 1, .istore 1), (2, .iload_n 1, 1, .iload 1), (3, .bipush 29, 2, .iconst 29), (5, .if_icmp .ge 23, 3, .if_icmp .ge (.ofNat 15)), (8, .aload_n 0, 1, .aload 0), (9, .getfield 9, 3, .invokeinterface 6 1), (12, .iload_n 1, 1, .iload 1), (13, .aload_n 0, 1, .aload 0), (14, .getfield 35, 3, .invokeinterface 6 0), (17, .iload_n 1, 1, .iload 1), (18, .invokevirtual 47, 3, .invokevirtual 101), (21, .bastore, 1, .bastore), (22, .iinc 1 1, 3, .iinc 1 1), (25, .goto (-23), 3, .jsr_w 2), (28, .return_, 1, .return_)]
def kB141 : x_R := [(0, .iload_n 1, 1, .iload 1), (1, .invokestatic 53, 3, .invokestatic 219), (4, .ifCond .eq 17, 3, .ifCond .eq (.ofNat 11)), (7, .aload_n 0, 1, .aload 0), (8, .getfield 9, 3, .invokeinterface 6 1), (11, .iload_n 1, 1, .iload 1), (12, .aload_n 0, 1, .aload 0), (13, .getfield 35, 3, .invokeinterface 6 0), (16, .iload_n 1, 1, .iload 1), (17, .invokevirtual 47, 3, .invokevirtual 101), (20, .bastore, 1, .bastore), (21, .return_, 1, .return_)]
def kB142 : x_R := [(0, .iload_n 1, 1, .iload 1), (1, .ifCond .lt 22, 3, .ifCond .lt (.ofNat 12)), (4, .iload_n 1, 1, .iload 1), (5, .bipush 29, 2, .iconst 29), (7, .if_icmp .ge 16, 3, .if_icmp .ge (.ofNat 12)), (10, .aload_n 0, 1, .aload 0), (11, .getfield 9, 3, .invokeinterface 6 1), (14, .iload_n 1, 1, .iload 1), (15, .baload, 1, .baload), (16, .ifCond .eq 7, 3, .ifCond .eq (.ofNat 12)), (19, .iconst 1, 1, .iconst 1), (20, .goto 4, 3, .goto 13), (23, .iconst 0, 1, .iconst 0), (24, .ireturn, 1, .areturn)]
def kB143 : x_R := [(0, .aload_n 0, 1, .aload 0), (1, .getfield 35, 3, .invokeinterface 6 0), (4, .getfield 56, 3, .invokeinterface 3 11), (7, .iconst 2, 1, .iconst 2), (8, .invokevirtual 60, 3, .invokevirtual 113), (11, .ifCond .ne 4, 3, .ifCond .ne (.ofNat 7)), (14, .return_, 1, .return_), (15, .aload_n 1, 1, .aload 1), (16, .getfield 65, 3, .invokeinterface 8 1), (19, .bipush 60, 2, .iconst 60), (21, .invokestatic 71, 3, .invokedynamic 1), (24, .istore_n 3, 1, .istore 3), (25, .iload_n 2, 1, .iload 2), (26, .iconst 0, 1, .iconst 0), (27, .invokestatic 77, 3, .invokedynamic 0), (30, .istore 4, 2, .istore 4), (32, .iconst 0, 1, .iconst 0), (33, .istore 5, 2, .istore 5), (35, .iload 4, 2, .iload 4), (37, .istore 6, 2, .istore 6), (39, .iload 6, 2, .iload 6), (41, .iload_n 3, 1, .iload 3), (42, .if_icmp .gt 102, 3, .if_icmp .gt (.ofNat 72)), (45, .iload 6, 2, .iload 6), (47, .iload_n 3, 1, .iload 3), (48, .if_icmp .ge 41, 3, .if_icmp .ge (.ofNat 44)), (51, .aload_n 1, 1, .aload 1), (52, .iload 6, 2, .iload 6), (54, .invokevirtual 80, 3, .invokevirtual 171), (57, .invokestatic 84, 3, .invokestatic 220), (60, .ifCond .eq 29, 3, .ifCond .eq (.ofNat 44)), (63, .iload 5, 2, .iload 5), (65, .aload_n 0, 1, .aload 0), (66, .aload_n 1, 1, .aload 1), (67, .iload 6, 2, .iload 6), (69, .invokevirtual 80, 3, .invokevirtual 171), (72, .invokevirtual 87, 3, .invokevirtual 142), (75, .ifCond .eq 7, 3, .ifCond .eq (.ofNat 40)), (78, .iconst 1, 1, .iconst 1), (79, .goto 4, 3, .goto 41), (82, .iconst 0, 1, .iconst 0), (83, .iadd, 1, .iadd), (84, .istore 5, 2, .istore 5), (86, .goto 52, 3, .goto 70), (89, .iload 4, 2, .iload 4), (91, .istore 7, 2, .istore 7), (93, .iload 7, 2, .iload 7), (95, .iload 6, 2, .iload 6), (97, .if_icmp .ge 18, 3, .if_icmp .ge (.ofNat 56)), (100, .aload_n 0, 1, .aload 0), (101, .getfield 15, 3, .invokeinterface 6 2), (104, .iload 7, 2, .iload 7), (106, .iload 5, 2, .iload 5), (108, .iastore, 1, .iastore), (109, .iinc 7 1, 3, .iinc 7 1), (112, .goto (-19), 3, .jsr_w 46), (115, .iload 6, 2, .iload 6), (117, .iload_n 3, 1, .iload 3), (118, .if_icmp .ge 11, 3, .if_icmp .ge (.ofNat 64)), (121, .aload_n 0, 1, .aload 0), (122, .getfield 15, 3, .invokeinterface 6 2), (125, .iload 6, 2, .iload 6), (127, .iconst 0, 1, .iconst 0), (128, .iastore, 1, .iastore), (129, .iload 6, 2, .iload 6), (131, .iconst 1, 1, .iconst 1), (132, .iadd, 1, .iadd), (133, .istore 4, 2, .istore 4), (135, .iconst 0, 1, .iconst 0), (136, .istore 5, 2, .istore 5), (138, .iinc 6 1, 3, .iinc 6 1), (141, .goto (-102), 3, .jsr_w 20), (144, .return_, 1, .return_)]
def kB144 : x_R := [(0, .aload_n 1, 1, .aload 1), (1, .iload_n 2, 1, .iload 2), (2, .invokevirtual 80, 3, .invokevirtual 171), (5, .istore_n 3, 1, .istore 3), (6, .iload_n 2, 1, .iload 2), (7, .ifCond .lt 16, 3, .ifCond .lt (.ofNat 12)), (10, .iload_n 2, 1, .iload 2), (11, .bipush 60, 2, .iconst 60), (13, .if_icmp .ge 10, 3, .if_icmp .ge (.ofNat 12)), (16, .iload_n 3, 1, .iload 3), (17, .invokestatic 53, 3, .invokestatic 219), (20, .ifCond .ne 5, 3, .ifCond .ne (.ofNat 14)), (23, .iconst 0, 1, .iconst 0), (24, .ireturn, 1, .ireturn), (25, .aload_n 0, 1, .aload 0), (26, .getfield 35, 3, .invokeinterface 6 0), (29, .getfield 56, 3, .invokeinterface 3 11), (32, .getfield 90, 3, .invokeinterface 4 4), (35, .ifCond .ne 5, 3, .ifCond .ne (.ofNat 21)), (38, .iconst 1, 1, .iconst 1), (39, .ireturn, 1, .ireturn), (40, .aload_n 0, 1, .aload 0), (41, .aload_n 1, 1, .aload 1), (42, .iload_n 2, 1, .iload 2), (43, .iload_n 3, 1, .iload 3), (44, .invokevirtual 93, 3, .invokevirtual 146), (47, .iload_n 2, 1, .iload 2), (48, .bipush 32, 2, .iconst 32), (50, .imul, 1, .imul), (51, .iload_n 3, 1, .iload 3), (52, .aload_n 0, 1, .aload 0), (53, .getfield 19, 3, .invokeinterface 6 3), (56, .bipush 7, 2, .iconst 7), (58, .iaload, 1, .iaload), (59, .iadd, 1, .iadd), (60, .bipush 32, 2, .iconst 32), (62, .irem, 1, .irem), (63, .iadd, 1, .iadd), (64, .istore 4, 2, .istore 4), (66, .iload 4, 2, .iload 4), (68, .ifCond .lt 13, 3, .ifCond .lt (.ofNat 46)), (71, .iload 4, 2, .iload 4), (73, .aload_n 0, 1, .aload 0), (74, .getfield 25, 3, .invokeinterface 6 5), (77, .arraylength, 1, .arraylength), (78, .if_icmp .lt 22, 3, .if_icmp .lt (.ofNat 55)), (81, .aload_n 0, 1, .aload 0), (82, .getfield 35, 3, .invokeinterface 6 0), (85, .getfield 56, 3, .invokeinterface 3 11), (88, .aload_n 0, 1, .aload 0), (89, .getfield 19, 3, .invokeinterface 6 3), (92, .aload_n 0, 1, .aload 0), (93, .getfield 22, 3, .invokeinterface 6 4), (96, .invokevirtual 97, 3, .invokevirtual 118), (99, .ireturn, 1, .ireturn), (100, .aload_n 0, 1, .aload 0), (101, .invokevirtual 101, 3, .invokevirtual 147), (104, .lstore 5, 2, .lstore 5), (106, .aload_n 0, 1, .aload 0), (107, .getfield 25, 3, .invokeinterface 6 5), (110, .iload 4, 2, .iload 4), (112, .laload, 1, .laload), (113, .bipush 7, 2, .iconst 7), (115, .lushr, 1, .lushr), (116, .lload 5, 2, .lload 5), (118, .lcmp, 1, .lcmp), (119, .ifCond .eq 35, 3, .ifCond .eq (.ofNat 84)), (122, .aload_n 0, 1, .aload 0), (123, .getfield 25, 3, .invokeinterface 6 5), (126, .iload 4, 2, .iload 4), (128, .lload 5, 2, .lload 5), (130, .bipush 7, 2, .iconst 7), (132, .lshl, 1, .lshl), (133, .aload_n 0, 1, .aload 0), (134, .getfield 35, 3, .invokeinterface 6 0), (137, .getfield 56, 3, .invokeinterface 3 11), (140, .aload_n 0, 1, .aload 0), (141, .getfield 19, 3, .invokeinterface 6 3), (144, .aload_n 0, 1, .aload 0), (145, .getfield 22, 3, .invokeinterface 6 4), (148, .invokevirtual 97, 3, .invokevirtual 118), (151, .i2l, 1, .i2l), (152, .lor, 1, .lor), (153, .lastore, 1, .lastore), (154, .aload_n 0, 1, .aload 0), (155, .getfield 25, 3, .invokeinterface 6 5), (158, .iload 4, 2, .iload 4), (160, .laload, 1, .laload), (161, .ldc2_w 105, 3, .jsr 127), (164, .land, 1, .land), (165, .l2i, 1, .l2i), (166, .ireturn, 1, .ireturn)]
def kB145 : x_R := [(0, .aload_n 0, 1, .aload 0), (1, .getfield 19, 3, .invokeinterface 6 3), (4, .iconst 0, 1, .iconst 0), (5, .bipush 29, 2, .iconst 29), (7, .iastore, 1, .iastore), (8, .aload_n 0, 1, .aload 0), (9, .getfield 19, 3, .invokeinterface 6 3), (12, .iconst 1, 1, .iconst 1), (13, .iload_n 1, 1, .iload 1), (14, .iastore, 1, .iastore), (15, .aload_n 0, 1, .aload 0), (16, .getfield 19, 3, .invokeinterface 6 3), (19, .iconst 2, 1, .iconst 2), (20, .iload_n 1, 1, .iload 1), (21, .iastore, 1, .iastore), (22, .aload_n 0, 1, .aload 0), (23, .getfield 19, 3, .invokeinterface 6 3), (26, .iconst 3, 1, .iconst 3), (27, .iload_n 1, 1, .iload 1), (28, .iastore, 1, .iastore), (29, .aload_n 0, 1, .aload 0), (30, .getfield 19, 3, .invokeinterface 6 3), (33, .iconst 4, 1, .iconst 4), (34, .iconst 1, 1, .iconst 1), (35, .iastore, 1, .iastore), (36, .aload_n 0, 1, .aload 0), (37, .getfield 19, 3, .invokeinterface 6 3), (40, .iconst 5, 1, .iconst 5), (41, .bipush 9, 2, .iconst 9), (43, .iastore, 1, .iastore), (44, .aload_n 0, 1, .aload 0), (45, .getfield 19, 3, .invokeinterface 6 3), (48, .bipush 6, 2, .iconst 6), (50, .aload_n 0, 1, .aload 0), (51, .getfield 35, 3, .invokeinterface 6 0), (54, .getfield 107, 3, .invokeinterface 3 15), (57, .iastore, 1, .iastore), (58, .aload_n 0, 1, .aload 0), (59, .getfield 19, 3, .invokeinterface 6 3), (62, .bipush 7, 2, .iconst 7), (64, .bipush 29, 2, .iconst 29), (66, .iastore, 1, .iastore), (67, .aload_n 0, 1, .aload 0), (68, .getfield 19, 3, .invokeinterface 6 3), (71, .bipush 8, 2, .iconst 8), (73, .iconst 1, 1, .iconst 1), (74, .iastore, 1, .iastore), (75, .aload_n 0, 1, .aload 0), (76, .getfield 35, 3, .invokeinterface 6 0), (79, .getfield 56, 3, .invokeinterface 3 11), (82, .aload_n 0, 1, .aload 0), (83, .getfield 19, 3, .invokeinterface 6 3), (86, .aload_n 0, 1, .aload 0), (87, .getfield 22, 3, .invokeinterface 6 4), (90, .invokevirtual 110, 3, .invokevirtual 119), (93, .ireturn, 1, .ireturn)]
def kB146 : x_R := [(0, .aload_n 0, 1, .aload 0), (1, .getfield 35, 3, .invokeinterface 6 0), (4, .getfield 56, 3, .invokeinterface 3 11), (7, .astore 4, 2, .astore 4), (9, .iload_n 2, 1, .iload 2), (10, .ifCond .le 13, 3, .ifCond .le (.ofNat 12)), (13, .aload_n 1, 1, .aload 1), (14, .iload_n 2, 1, .iload 2), (15, .iconst 1, 1, .iconst 1), (16, .isub, 1, .isub), (17, .invokevirtual 80, 3, .invokevirtual 171), (20, .goto 5, 3, .goto 13), (23, .bipush 29, 2, .iconst 29), (25, .istore 5, 2, .istore 5), (27, .aload_n 0, 1, .aload 0), (28, .getfield 35, 3, .invokeinterface 6 0), (31, .getfield 113, 3, .invokeinterface 3 6), (34, .iload_n 3, 1, .iload 3), (35, .iaload, 1, .iaload), (36, .istore 6, 2, .istore 6), (38, .aload_n 0, 1, .aload 0), (39, .getfield 19, 3, .invokeinterface 6 3), (42, .iconst 0, 1, .iconst 0), (43, .iload_n 3, 1, .iload 3), (44, .iastore, 1, .iastore), (45, .aload_n 0, 1, .aload 0), (46, .getfield 19, 3, .invokeinterface 6 3), (49, .iconst 1, 1, .iconst 1), (50, .iload_n 2, 1, .iload 2), (51, .iastore, 1, .iastore), (52, .aload_n 0, 1, .aload 0), (53, .getfield 19, 3, .invokeinterface 6 3), (56, .iconst 2, 1, .iconst 2), (57, .aload 4, 2, .aload 4), (59, .iconst 2, 1, .iconst 2), (60, .invokevirtual 60, 3, .invokevirtual 113), (63, .ifCond .eq 12, 3, .ifCond .eq (.ofNat 42)), (66, .aload_n 0, 1, .aload 0), (67, .getfield 15, 3, .invokeinterface 6 2), (70, .iload_n 2, 1, .iload 2), (71, .iaload, 1, .iaload), (72, .goto 4, 3, .goto 43), (75, .iconst 0, 1, .iconst 0), (76, .iastore, 1, .iastore), (77, .aload_n 0, 1, .aload 0), (78, .getfield 19, 3, .invokeinterface 6 3), (81, .iconst 3, 1, .iconst 3), (82, .aload 4, 2, .aload 4), (84, .iconst 3, 1, .iconst 3), (85, .invokevirtual 60, 3, .invokevirtual 113), (88, .ifCond .eq 12, 3, .ifCond .eq (.ofNat 56)), (91, .aload_n 1, 1, .aload 1), (92, .iload_n 2, 1, .iload 2), (93, .iload_n 3, 1, .iload 3), (94, .invokestatic 116, 3, .invokestatic 148), (97, .goto 4, 3, .goto 57), (100, .iconst 0, 1, .iconst 0), (101, .iastore, 1, .iastore), (102, .aload_n 0, 1, .aload 0), (103, .getfield 19, 3, .invokeinterface 6 3), (106, .iconst 4, 1, .iconst 4), (107, .iload_n 3, 1, .iload 3), (108, .invokestatic 120, 3, .invokestatic 149), (111, .ifCond .eq 7, 3, .ifCond .eq (.ofNat 66)), (114, .iconst 1, 1, .iconst 1), (115, .goto 4, 3, .goto 67), (118, .iconst 0, 1, .iconst 0), (119, .iastore, 1, .iastore), (120, .aload_n 0, 1, .aload 0), (121, .getfield 19, 3, .invokeinterface 6 3), (124, .iconst 5, 1, .iconst 5), (125, .iload 6, 2, .iload 6), (127, .iconst (-1), 1, .iconst (-1)), (128, .if_icmp .ne 8, 3, .if_icmp .ne (.ofNat 76)), (131, .bipush 9, 2, .iconst 9), (133, .goto 5, 3, .goto 77), (136, .iload 6, 2, .iload 6), (138, .iastore, 1, .iastore), (139, .aload_n 0, 1, .aload 0), (140, .getfield 19, 3, .invokeinterface 6 3), (143, .bipush 6, 2, .iconst 6), (145, .aload 4, 2, .aload 4), (147, .bipush 6, 2, .iconst 6), (149, .invokevirtual 60, 3, .invokevirtual 113), (152, .ifCond .eq 13, 3, .ifCond .eq (.ofNat 89)), (155, .aload_n 0, 1, .aload 0), (156, .getfield 35, 3, .invokeinterface 6 0), (159, .getfield 107, 3, .invokeinterface 3 15), (162, .goto 4, 3, .goto 90), (165, .iconst 0, 1, .iconst 0), (166, .iastore, 1, .iastore), (167, .aload_n 0, 1, .aload 0), (168, .getfield 19, 3, .invokeinterface 6 3), (171, .bipush 7, 2, .iconst 7), (173, .aload 4, 2, .aload 4), (175, .bipush 7, 2, .iconst 7), (177, .invokevirtual 60, 3, .invokevirtual 113), (180, .ifCond .eq 22, 3, .ifCond .eq (.ofNat 106)), (183, .aload_n 0, 1, .aload 0), (184, .iload 5, 2, .iload 5), (186, .invokevirtual 87, 3, .invokevirtual 142), (189, .ifCond .eq 8, 3, .ifCond .eq (.ofNat 104)), (192, .iload 5, 2, .iload 5), (194, .goto 9, 3, .goto 107), (197, .bipush 29, 2, .iconst 29), (199, .goto 4, 3, .goto 107), (202, .iconst 0, 1, .iconst 0), (203, .iastore, 1, .iastore), (204, .aload_n 0, 1, .aload 0), (205, .getfield 19, 3, .invokeinterface 6 3), (208, .bipush 8, 2, .iconst 8), (210, .iload_n 3, 1, .iload 3), (211, .invokestatic 84, 3, .invokestatic 220), (214, .ifCond .eq 15, 3, .ifCond .eq (.ofNat 119)), (217, .iload 5, 2, .iload 5), (219, .invokestatic 84, 3, .invokestatic 220), (222, .ifCond .ne 7, 3, .ifCond .ne (.ofNat 119)), (225, .iconst 1, 1, .iconst 1), (226, .goto 4, 3, .goto 120), (229, .iconst 0, 1, .iconst 0), (230, .iastore, 1, .iastore), (231, .return_, 1, .return_)]
def kB147 : x_R := [(0, .aload_n 0, 1, .aload 0), (1, .getfield 19, 3, .invokeinterface 6 3), (4, .bipush 6, 2, .iconst 6), (6, .iaload, 1, .iaload), (7, .i2l, 1, .i2l), (8, .lstore_n 1, 1, .lstore 1), (9, .lload_n 1, 1, .lload 1), (10, .iconst 5, 1, .iconst 5), (11, .lshl, 1, .lshl), (12, .aload_n 0, 1, .aload 0), (13, .getfield 19, 3, .invokeinterface 6 3), (16, .iconst 0, 1, .iconst 0), (17, .iaload, 1, .iaload), (18, .i2l, 1, .i2l), (19, .lor, 1, .lor), (20, .lstore_n 1, 1, .lstore 1), (21, .lload_n 1, 1, .lload 1), (22, .bipush 6, 2, .iconst 6), (24, .lshl, 1, .lshl), (25, .aload_n 0, 1, .aload 0), (26, .getfield 19, 3, .invokeinterface 6 3), (29, .iconst 2, 1, .iconst 2), (30, .iaload, 1, .iaload), (31, .i2l, 1, .i2l), (32, .lor, 1, .lor), (33, .lstore_n 1, 1, .lstore 1), (34, .lload_n 1, 1, .lload 1), (35, .bipush 6, 2, .iconst 6), (37, .lshl, 1, .lshl), (38, .aload_n 0, 1, .aload 0), (39, .getfield 19, 3, .invokeinterface 6 3), (42, .iconst 3, 1, .iconst 3), (43, .iaload, 1, .iaload), (44, .i2l, 1, .i2l), (45, .lor, 1, .lor), (46, .lstore_n 1, 1, .lstore 1), (47, .lload_n 1, 1, .lload 1), (48, .iconst 4, 1, .iconst 4), (49, .lshl, 1, .lshl), (50, .aload_n 0, 1, .aload 0), (51, .getfield 19, 3, .invokeinterface 6 3), (54, .iconst 5, 1, .iconst 5), (55, .iaload, 1, .iaload), (56, .i2l, 1, .i2l), (57, .lor, 1, .lor), (58, .lstore_n 1, 1, .lstore 1), (59, .lload_n 1, 1, .lload 1), (60, .iconst 5, 1, .iconst 5), (61, .lshl, 1, .lshl), (62, .aload_n 0, 1, .aload 0), (63, .getfield 19, 3, .invokeinterface 6 3), (66, .bipush 7, 2, .iconst 7), (68, .iaload, 1, .iaload), (69, .i2l, 1, .i2l), (70, .lor, 1, .lor), (71, .lstore_n 1, 1, .lstore 1), (72, .lload_n 1, 1, .lload 1), (73, .iconst 1, 1, .iconst 1), (74, .lshl, 1, .lshl), (75, .aload_n 0, 1, .aload 0), (76, .getfield 19, 3, .invokeinterface 6 3), (79, .bipush 8, 2, .iconst 8), (81, .iaload, 1, .iaload), (82, .i2l, 1, .i2l), (83, .lor, 1, .lor), (84, .lreturn, 1, .lreturn)]
def kB148 : x_R := [(0, .iconst 0, 1, .iconst 0), (1, .istore_n 3, 1, .istore 3), (2, .iconst 0, 1, .iconst 0), (3, .istore 4, 2, .istore 4), (5, .iload 4, 2, .iload 4), (7, .iload_n 1, 1, .iload 1), (8, .if_icmp .ge 33, 3, .if_icmp .ge (.ofNat 21)), (11, .iload 4, 2, .iload 4), (13, .aload_n 0, 1, .aload 0), (14, .getfield 123, 3, .invokeinterface 8 0), (17, .arraylength, 1, .arraylength), (18, .if_icmp .ge 23, 3, .if_icmp .ge (.ofNat 21)), (21, .aload_n 0, 1, .aload 0), (22, .getfield 123, 3, .invokeinterface 8 0), (25, .iload 4, 2, .iload 4), (27, .iaload, 1, .iaload), (28, .iload_n 2, 1, .iload 2), (29, .if_icmp .ne 6, 3, .if_icmp .ne (.ofNat 19)), (32, .iinc 3 1, 3, .iinc 3 1), (35, .iinc 4 1, 3, .iinc 4 1), (38, .goto (-33), 3, .jsr_w 4), (41, .iload_n 3, 1, .iload 3), (42, .ireturn, 1, .ireturn)]
def kB149 : x_R := [(0, .iload_n 0, 1, .iload 0), (1, .lookupswitch 61 #[(0, 51), (4, 53), (8, 55), (14, 57), (20, 59)], 51, .lookupswitch 12 #[(0, 2), (4, 4), (8, 6), (14, 8), (20, 10)]), (52, .iconst 1, 1, .iconst 1), (53, .ireturn, 1, .areturn), (54, .iconst 1, 1, .iconst 1), (55, .ireturn, 1, .areturn), (56, .iconst 1, 1, .iconst 1), (57, .ireturn, 1, .areturn), (58, .iconst 1, 1, .iconst 1), (59, .ireturn, 1, .areturn), (60, .iconst 1, 1, .iconst 1), (61, .ireturn, 1, .areturn), (62, .iconst 0, 1, .iconst 0), (63, .ireturn, 1, .areturn)]
def kB150 : x_R := [(0, .aload_n 0, 1, .aload 0), (1, .aload_n 1, 1, .aload 1), (2, .iload_n 2, 1, .iload 2), (3, .invokevirtual 126, 3, .invokevirtual 143), (6, .iconst 0, 1, .iconst 0), (7, .istore 4, 2, .istore 4), (9, .iload_n 2, 1, .iload 2), (10, .iconst 0, 1, .iconst 0), (11, .invokestatic 77, 3, .invokedynamic 0), (14, .istore 5, 2, .istore 5), (16, .iload 5, 2, .iload 5), (18, .aload_n 1, 1, .aload 1), (19, .getfield 65, 3, .invokeinterface 8 1), (22, .if_icmp .ge 59, 3, .if_icmp .ge (.ofNat 41)), (25, .iload 5, 2, .iload 5), (27, .bipush 60, 2, .iconst 60), (29, .if_icmp .ge 52, 3, .if_icmp .ge (.ofNat 41)), (32, .aload_n 1, 1, .aload 1), (33, .iload 5, 2, .iload 5), (35, .invokevirtual 80, 3, .invokevirtual 171), (38, .istore 6, 2, .istore 6), (40, .aload_n 0, 1, .aload 0), (41, .iload 6, 2, .iload 6), (43, .invokevirtual 87, 3, .invokevirtual 142), (46, .ifCond .eq 29, 3, .ifCond .eq (.ofNat 39)), (49, .aload_n 0, 1, .aload 0), (50, .getfield 35, 3, .invokeinterface 6 0), (53, .getfield 113, 3, .invokeinterface 3 6), (56, .iload 6, 2, .iload 6), (58, .iaload, 1, .iaload), (59, .iload_n 3, 1, .iload 3), (60, .if_icmp .ne 15, 3, .if_icmp .ne (.ofNat 39)), (63, .iload 4, 2, .iload 4), (65, .aload_n 0, 1, .aload 0), (66, .aload_n 1, 1, .aload 1), (67, .iload 5, 2, .iload 5), (69, .invokevirtual 130, 3, .invokevirtual 144), (72, .iadd, 1, .iadd), (73, .istore 4, 2, .istore 4), (75, .iinc 5 1, 3, .iinc 5 1), (78, .goto (-62), 3, .jsr_w 10), (81, .iload 4, 2, .iload 4), (83, .ireturn, 1, .ireturn)]
def kB151 : x_R := [(0, .aload_n 0, 1, .aload 0), (1, .invokevirtual 134, 3, .invokevirtual 140), (4, .aload_n 0, 1, .aload 0), (5, .aload_n 0, 1, .aload 0), (6, .getfield 35, 3, .invokeinterface 6 0), (9, .getfield 137, 3, .invokeinterface 3 9), (12, .iconst 0, 1, .iconst 0), (13, .iload_n 1, 1, .iload 1), (14, .invokevirtual 141, 3, .invokevirtual 150), (17, .ireturn, 1, .ireturn)]
def kB152 : x_R := [(0, .aload_n 0, 1, .aload 0), (1, .aload_n 1, 1, .aload 1), (2, .iconst 0, 1, .iconst 0), (3, .invokevirtual 126, 3, .invokevirtual 143), (6, .aload_n 2, 1, .aload 2), (7, .iconst 0, 1, .iconst 0), (8, .invokestatic 144, 3, .invokestatic 86), (11, .iconst 0, 1, .iconst 0), (12, .istore_n 3, 1, .istore 3), (13, .iload_n 3, 1, .iload 3), (14, .aload_n 1, 1, .aload 1), (15, .getfield 65, 3, .invokeinterface 8 1), (18, .if_icmp .ge 68, 3, .if_icmp .ge (.ofNat 48)), (21, .iload_n 3, 1, .iload 3), (22, .bipush 60, 2, .iconst 60), (24, .if_icmp .ge 62, 3, .if_icmp .ge (.ofNat 48)), (27, .aload_n 1, 1, .aload 1), (28, .iload_n 3, 1, .iload 3), (29, .invokevirtual 80, 3, .invokevirtual 171), (32, .istore 4, 2, .istore 4), (34, .aload_n 0, 1, .aload 0), (35, .iload 4, 2, .iload 4), (37, .invokevirtual 87, 3, .invokevirtual 142), (40, .ifCond .eq 40, 3, .ifCond .eq (.ofNat 46)), (43, .aload_n 0, 1, .aload 0), (44, .getfield 35, 3, .invokeinterface 6 0), (47, .getfield 113, 3, .invokeinterface 3 6), (50, .iload 4, 2, .iload 4), (52, .iaload, 1, .iaload), (53, .istore 5, 2, .istore 5), (55, .iload 5, 2, .iload 5), (57, .ifCond .lt 23, 3, .ifCond .lt (.ofNat 46)), (60, .iload 5, 2, .iload 5), (62, .aload_n 2, 1, .aload 2), (63, .arraylength, 1, .arraylength), (64, .if_icmp .ge 16, 3, .if_icmp .ge (.ofNat 46)), (67, .aload_n 2, 1, .aload 2), (68, .iload 5, 2, .iload 5), (70, .dup2, 1, .dup2), (71, .iaload, 1, .iaload), (72, .aload_n 0, 1, .aload 0), (73, .aload_n 1, 1, .aload 1), (74, .iload_n 3, 1, .iload 3), (75, .invokevirtual 130, 3, .invokevirtual 144), (78, .iadd, 1, .iadd), (79, .iastore, 1, .iastore), (80, .iinc 3 1, 3, .iinc 3 1), (83, .goto (-70), 3, .jsr_w 9), (86, .return_, 1, .return_)]
def kB153 : x_R := [(0, .iconst 0, 1, .iconst 0), (1, .istore_n 2, 1, .istore 2), (2, .iload_n 2, 1, .iload 2), (3, .aload_n 0, 1, .aload 0), (4, .getfield 35, 3, .invokeinterface 6 0), (7, .getfield 147, 3, .invokeinterface 3 10), (10, .iload_n 1, 1, .iload 1), (11, .invokevirtual 151, 3, .invokevirtual 182), (14, .if_icmp .ge 30, 3, .if_icmp .ge (.ofNat 22)), (17, .aload_n 0, 1, .aload 0), (18, .aload_n 0, 1, .aload 0), (19, .getfield 35, 3, .invokeinterface 6 0), (22, .getfield 147, 3, .invokeinterface 3 10), (25, .iload_n 1, 1, .iload 1), (26, .iload_n 2, 1, .iload 2), (27, .invokevirtual 156, 3, .invokevirtual 183), (30, .invokevirtual 87, 3, .invokevirtual 142), (33, .ifCond .ne 5, 3, .ifCond .ne (.ofNat 20)), (36, .iconst 0, 1, .iconst 0), (37, .ireturn, 1, .areturn), (38, .iinc 2 1, 3, .iinc 2 1), (41, .goto (-39), 3, .jsr_w 2), (44, .iconst 1, 1, .iconst 1), (45, .ireturn, 1, .areturn)]
def kB154 : x_R := [(0, .aload_n 0, 1, .aload 0), (1, .getfield 35, 3, .invokeinterface 6 0), (4, .iload_n 1, 1, .iload 1), (5, .invokevirtual 159, 3, .invokevirtual 98), (8, .ifCond .ne 5, 3, .ifCond .ne (.ofNat 7)), (11, .iconst 0, 1, .iconst 0), (12, .ireturn, 1, .ireturn), (13, .aload_n 0, 1, .aload 0), (14, .invokevirtual 134, 3, .invokevirtual 140), (17, .aload_n 0, 1, .aload 0), (18, .aload_n 0, 1, .aload 0), (19, .getfield 35, 3, .invokeinterface 6 0), (22, .getfield 137, 3, .invokeinterface 3 9), (25, .aload_n 0, 1, .aload 0), (26, .getfield 29, 3, .invokeinterface 6 6), (29, .invokevirtual 162, 3, .invokevirtual 152), (32, .aload_n 0, 1, .aload 0), (33, .getfield 35, 3, .invokeinterface 6 0), (36, .getfield 166, 3, .invokeinterface 3 3), (39, .iload_n 1, 1, .iload 1), (40, .iaload, 1, .iaload), (41, .istore_n 2, 1, .istore 2), (42, .aload_n 0, 1, .aload 0), (43, .getfield 35, 3, .invokeinterface 6 0), (46, .getfield 166, 3, .invokeinterface 3 3), (49, .iload_n 1, 1, .iload 1), (50, .iconst 1, 1, .iconst 1), (51, .iastore, 1, .iastore), (52, .aload_n 0, 1, .aload 0), (53, .invokevirtual 134, 3, .invokevirtual 140), (56, .aload_n 0, 1, .aload 0), (57, .aload_n 0, 1, .aload 0), (58, .getfield 35, 3, .invokeinterface 6 0), (61, .getfield 137, 3, .invokeinterface 3 9), (64, .aload_n 0, 1, .aload 0), (65, .getfield 32, 3, .invokeinterface 6 7), (68, .invokevirtual 162, 3, .invokevirtual 152), (71, .aload_n 0, 1, .aload 0), (72, .getfield 35, 3, .invokeinterface 6 0), (75, .getfield 166, 3, .invokeinterface 3 3), (78, .iload_n 1, 1, .iload 1), (79, .iload_n 2, 1, .iload 2), (80, .iastore, 1, .iastore), (81, .iconst 0, 1, .iconst 0), (82, .istore_n 3, 1, .istore 3), (83, .iconst 0, 1, .iconst 0), (84, .istore 4, 2, .istore 4), (86, .iload 4, 2, .iload 4), (88, .bipush 8, 2, .iconst 8), (90, .if_icmp .ge 37, 3, .if_icmp .ge (.ofNat 69)), (93, .iload_n 3, 1, .iload 3), (94, .iload 4, 2, .iload 4), (96, .iload_n 1, 1, .iload 1), (97, .if_icmp .ne 7, 3, .if_icmp .ne (.ofNat 56)), (100, .iconst 0, 1, .iconst 0), (101, .goto 18, 3, .goto 65), (104, .aload_n 0, 1, .aload 0), (105, .getfield 29, 3, .invokeinterface 6 6), (108, .iload 4, 2, .iload 4), (110, .iaload, 1, .iaload), (111, .aload_n 0, 1, .aload 0), (112, .getfield 32, 3, .invokeinterface 6 7), (115, .iload 4, 2, .iload 4), (117, .iaload, 1, .iaload), (118, .isub, 1, .isub), (119, .iadd, 1, .iadd), (120, .istore_n 3, 1, .istore 3), (121, .iinc 4 1, 3, .iinc 4 1), (124, .goto (-38), 3, .jsr_w 47), (127, .iload_n 3, 1, .iload 3), (128, .ireturn, 1, .ireturn)]
end
section
def kB155 : x_R := [(0, .aload_n 0, 1, .aload 0), (1, .invokevirtual 134, 3, .invokevirtual 140), (4, .iconst 0, 1, .iconst 0), (5, .istore_n 2, 1, .istore 2), (6, .iconst 0, 1, .iconst 0), (7, .istore_n 3, 1, .istore 3), (8, .iload_n 3, 1, .iload 3), (9, .aload_n 0, 1, .aload 0), (10, .getfield 35, 3, .invokeinterface 6 0), (13, .getfield 137, 3, .invokeinterface 3 9), (16, .getfield 65, 3, .invokeinterface 8 1), (19, .if_icmp .ge 48, 3, .if_icmp .ge (.ofNat 32)), (22, .aload_n 0, 1, .aload 0), (23, .getfield 35, 3, .invokeinterface 6 0), (26, .getfield 137, 3, .invokeinterface 3 9), (29, .iload_n 3, 1, .iload 3), (30, .invokevirtual 80, 3, .invokevirtual 171), (33, .istore 4, 2, .istore 4), (35, .aload_n 0, 1, .aload 0), (36, .iload 4, 2, .iload 4), (38, .invokevirtual 87, 3, .invokevirtual 142), (41, .ifCond .eq 20, 3, .ifCond .eq (.ofNat 30)), (44, .aload_n 0, 1, .aload 0), (45, .getfield 35, 3, .invokeinterface 6 0), (48, .getfield 113, 3, .invokeinterface 3 6), (51, .iload 4, 2, .iload 4), (53, .iaload, 1, .iaload), (54, .iload_n 1, 1, .iload 1), (55, .if_icmp .ne 6, 3, .if_icmp .ne (.ofNat 30)), (58, .iinc 2 1, 3, .iinc 2 1), (61, .iinc 3 1, 3, .iinc 3 1), (64, .goto (-56), 3, .jsr_w 6), (67, .iload_n 2, 1, .iload 2), (68, .ireturn, 1, .ireturn)]
def kB156 : x_R := [(0, .aload_n 0, 1, .aload 0), (1, .invokevirtual 134, 3, .invokevirtual 140), (4, .aload_n 0, 1, .aload 0), (5, .aload_n 0, 1, .aload 0), (6, .getfield 35, 3, .invokeinterface 6 0), (9, .getfield 137, 3, .invokeinterface 3 9), (12, .iconst 0, 1, .iconst 0), (13, .invokevirtual 126, 3, .invokevirtual 143), (16, .iconst 0, 1, .iconst 0), (17, .istore_n 1, 1, .istore 1), (18, .iconst (-1), 1, .iconst (-1)), (19, .istore_n 2, 1, .istore 2), (20, .iconst 0, 1, .iconst 0), (21, .istore_n 3, 1, .istore 3), (22, .iload_n 3, 1, .iload 3), (23, .aload_n 0, 1, .aload 0), (24, .getfield 35, 3, .invokeinterface 6 0), (27, .getfield 137, 3, .invokeinterface 3 9), (30, .getfield 65, 3, .invokeinterface 8 1), (33, .if_icmp .ge 106, 3, .if_icmp .ge (.ofNat 69)), (36, .iload_n 3, 1, .iload 3), (37, .bipush 60, 2, .iconst 60), (39, .if_icmp .ge 100, 3, .if_icmp .ge (.ofNat 69)), (42, .aload_n 0, 1, .aload 0), (43, .getfield 35, 3, .invokeinterface 6 0), (46, .getfield 137, 3, .invokeinterface 3 9), (49, .iload_n 3, 1, .iload 3), (50, .invokevirtual 80, 3, .invokevirtual 171), (53, .istore 4, 2, .istore 4), (55, .iload 4, 2, .iload 4), (57, .invokestatic 53, 3, .invokestatic 219), (60, .ifCond .ne 6, 3, .ifCond .ne (.ofNat 33)), (63, .goto 70, 3, .goto 67), (66, .aload_n 0, 1, .aload 0), (67, .iload 4, 2, .iload 4), (69, .iload_n 2, 1, .iload 2), (70, .invokevirtual 169, 3, .invokevirtual 157), (73, .istore 5, 2, .istore 5), (75, .aload_n 0, 1, .aload 0), (76, .iload 5, 2, .iload 5), (78, .invokevirtual 87, 3, .invokevirtual 142), (81, .ifCond .eq 39, 3, .ifCond .eq (.ofNat 60)), (84, .aload_n 0, 1, .aload 0), (85, .getfield 35, 3, .invokeinterface 6 0), (88, .iload 5, 2, .iload 5), (90, .iload_n 3, 1, .iload 3), (91, .aload_n 0, 1, .aload 0), (92, .iload_n 3, 1, .iload 3), (93, .iload 4, 2, .iload 4), (95, .iload 5, 2, .iload 5), (97, .invokevirtual 172, 3, .invokevirtual 158), (100, .invokevirtual 176, 3, .invokevirtual 108), (103, .aload_n 0, 1, .aload 0), (104, .getfield 35, 3, .invokeinterface 6 0), (107, .getfield 113, 3, .invokeinterface 3 6), (110, .iload 5, 2, .iload 5), (112, .iaload, 1, .iaload), (113, .istore_n 2, 1, .istore 2), (114, .iinc 1 1, 3, .iinc 1 1), (117, .goto 16, 3, .goto 67), (120, .aload_n 0, 1, .aload 0), (121, .getfield 35, 3, .invokeinterface 6 0), (124, .dup, 1, .dup), (125, .getfield 180, 3, .invokeinterface 3 14), (128, .iconst 1, 1, .iconst 1), (129, .iadd, 1, .iadd), (130, .putfield 180, 3, .multianewarray 3 14), (133, .iinc 3 1, 3, .iinc 3 1), (136, .goto (-114), 3, .jsr_w 14), (139, .iload_n 1, 1, .iload 1), (140, .ireturn, 1, .ireturn)]
def kB157 : x_R := [(0, .aload_n 0, 1, .aload 0), (1, .getfield 35, 3, .invokeinterface 6 0), (4, .getfield 183, 3, .invokeinterface 3 16), (7, .ifCond .gt 5, 3, .ifCond .gt (.ofNat 6)), (10, .iload_n 1, 1, .iload 1), (11, .ireturn, 1, .ireturn), (12, .aload_n 0, 1, .aload 0), (13, .getfield 35, 3, .invokeinterface 6 0), (16, .sipush 1000, 3, .iconst 1000), (19, .invokevirtual 186, 3, .invokevirtual 102), (22, .aload_n 0, 1, .aload 0), (23, .getfield 35, 3, .invokeinterface 6 0), (26, .getfield 183, 3, .invokeinterface 3 16), (29, .if_icmp .ge 7, 3, .if_icmp .ge (.ofNat 16)), (32, .iconst 1, 1, .iconst 1), (33, .goto 4, 3, .goto 17), (36, .iconst 0, 1, .iconst 0), (37, .istore_n 3, 1, .istore 3), (38, .iload_n 3, 1, .iload 3), (39, .ifCond .eq 20, 3, .ifCond .eq (.ofNat 29)), (42, .iload_n 2, 1, .iload 2), (43, .iconst (-1), 1, .iconst (-1)), (44, .if_icmp .eq 15, 3, .if_icmp .eq (.ofNat 29)), (47, .aload_n 0, 1, .aload 0), (48, .getfield 35, 3, .invokeinterface 6 0), (51, .iload_n 2, 1, .iload 2), (52, .iload_n 1, 1, .iload 1), (53, .invokevirtual 189, 3, .invokevirtual 106), (56, .goto 4, 3, .goto 30), (59, .iload_n 1, 1, .iload 1), (60, .ireturn, 1, .ireturn)]
def kB158 : x_R := [(0, .iload_n 2, 1, .iload 2), (1, .iload_n 3, 1, .iload 3), (2, .if_icmp .ne 16, 3, .if_icmp .ne (.ofNat 10)), (5, .aload_n 0, 1, .aload 0), (6, .aload_n 0, 1, .aload 0), (7, .getfield 35, 3, .invokeinterface 6 0), (10, .getfield 137, 3, .invokeinterface 3 9), (13, .iload_n 1, 1, .iload 1), (14, .invokevirtual 130, 3, .invokevirtual 144), (17, .ireturn, 1, .ireturn), (18, .aload_n 0, 1, .aload 0), (19, .getfield 35, 3, .invokeinterface 6 0), (22, .getfield 137, 3, .invokeinterface 3 9), (25, .iload_n 1, 1, .iload 1), (26, .iload_n 3, 1, .iload 3), (27, .invokevirtual 192, 3, .invokevirtual 172), (30, .aload_n 0, 1, .aload 0), (31, .aload_n 0, 1, .aload 0), (32, .getfield 35, 3, .invokeinterface 6 0), (35, .getfield 137, 3, .invokeinterface 3 9), (38, .iconst 0, 1, .iconst 0), (39, .invokevirtual 126, 3, .invokevirtual 143), (42, .aload_n 0, 1, .aload 0), (43, .aload_n 0, 1, .aload 0), (44, .getfield 35, 3, .invokeinterface 6 0), (47, .getfield 137, 3, .invokeinterface 3 9), (50, .iload_n 1, 1, .iload 1), (51, .invokevirtual 130, 3, .invokevirtual 144), (54, .istore 4, 2, .istore 4), (56, .aload_n 0, 1, .aload 0), (57, .getfield 35, 3, .invokeinterface 6 0), (60, .getfield 137, 3, .invokeinterface 3 9), (63, .iload_n 1, 1, .iload 1), (64, .iload_n 2, 1, .iload 2), (65, .invokevirtual 192, 3, .invokevirtual 172), (68, .aload_n 0, 1, .aload 0), (69, .aload_n 0, 1, .aload 0), (70, .getfield 35, 3, .invokeinterface 6 0), (73, .getfield 137, 3, .invokeinterface 3 9), (76, .iconst 0, 1, .iconst 0), (77, .invokevirtual 126, 3, .invokevirtual 143), (80, .iload 4, 2, .iload 4), (82, .ireturn, 1, .ireturn)]
def kB159 : x_R := [(0, .aload_n 0, 1, .aload 0), (1, .invokespecial 3, 3, .pop), (4, .aload_n 0, 1, .aload 0), (5, .iconst 5, 1, .iconst 5), (6, .newarray .int, 2, .newarray .int), (8, .putfield 9, 3, .multianewarray 7 2001), (11, .aload_n 0, 1, .aload 0), (12, .new 15, 3, .new 8), (15, .dup, 1, .dup), (16, .bipush 12, 2, .iconst 12), (18, .invokespecial 17, 3, .invokespecial 169), (21, .putfield 20, 3, .multianewarray 7 2004), (24, .aload_n 0, 1, .aload 0), (25, .sipush 348, 3, .iconst 348), (28, .newarray .int, 2, .newarray .int), (30, .putfield 24, 3, .multianewarray 7 2005), (33, .aload_n 0, 1, .aload 0), (34, .bipush 12, 2, .iconst 12), (36, .newarray .int, 2, .newarray .int), (38, .putfield 27, 3, .multianewarray 7 2006), (41, .aload_n 0, 1, .aload 0), (42, .bipush 8, 2, .iconst 8), (44, .newarray .int, 2, .newarray .int), (46, .putfield 30, 3, .multianewarray 7 2007), (49, .aload_n 0, 1, .aload 0), (50, .bipush 8, 2, .iconst 8), (52, .newarray .int, 2, .newarray .int), (54, .putfield 33, 3, .multianewarray 7 2008), (57, .aload_n 0, 1, .aload 0), (58, .bipush 8, 2, .iconst 8), (60, .newarray .int, 2, .newarray .int), (62, .putfield 36, 3, .multianewarray 7 2009), (65, .aload_n 0, 1, .aload 0), (66, .bipush 8, 2, .iconst 8), (68, .newarray .int, 2, .newarray .int), (70, .putfield 39, 3, .multianewarray 7 2010), (73, .aload_n 0, 1, .aload 0), (74, .aload_n 1, 1, .aload 1), (75, .putfield 42, 3, .multianewarray 7 2002), (78, .aload_n 0, 1, .aload 0), (79, .aload_n 2, 1, .aload 2), (80, .putfield 46, 3, .multianewarray 7 2003), (83, .return_, 1, .return_)]
def kB160 : x_R := [(0, .aload_n 0, 1, .aload 0), (1, .iconst 1, 1, .iconst 1), (2, .putfield 50, 3, .multianewarray 7 1000), (5, .aload_n 0, 1, .aload 0), (6, .getfield 9, 3, .invokeinterface 7 1), (9, .iconst (-1), 1, .iconst (-1)), (10, .invokestatic 54, 3, .invokestatic 86), (13, .aload_n 0, 1, .aload 0), (14, .getfield 42, 3, .invokeinterface 7 2), (17, .getfield 60, 3, .invokeinterface 3 9), (20, .getfield 65, 3, .invokeinterface 8 1), (23, .bipush 12, 2, .iconst 12), (25, .if_icmp .le 4, 3, .if_icmp .le (.ofNat 14)), (28, .return_, 1, .return_), (29, .aload_n 0, 1, .aload 0), (30, .getfield 46, 3, .invokeinterface 7 3), (33, .invokevirtual 69, 3, .invokevirtual 140), (36, .aload_n 0, 1, .aload 0), (37, .getfield 20, 3, .invokeinterface 7 4), (40, .aload_n 0, 1, .aload 0), (41, .getfield 42, 3, .invokeinterface 7 2), (44, .getfield 60, 3, .invokeinterface 3 9), (47, .invokevirtual 74, 3, .invokevirtual 174), (50, .aload_n 0, 1, .aload 0), (51, .invokevirtual 78, 3, .invokevirtual 162), (54, .aload_n 0, 1, .aload 0), (55, .invokevirtual 81, 3, .invokevirtual 166), (58, .aload_n 0, 1, .aload 0), (59, .invokevirtual 84, 3, .invokevirtual 165), (62, .ifCond .eq 11, 3, .ifCond .eq (.ofNat 36)), (65, .aload_n 0, 1, .aload 0), (66, .getfield 9, 3, .invokeinterface 7 1), (69, .iconst 0, 1, .iconst 0), (70, .iconst 0, 1, .iconst 0), (71, .iastore, 1, .iastore), (72, .return_, 1, .return_), (73, .iconst 0, 1, .iconst 0), (74, .istore_n 1, 1, .istore 1), (75, .iload_n 1, 1, .iload 1), (76, .aload_n 0, 1, .aload 0), (77, .getfield 20, 3, .invokeinterface 7 4), (80, .getfield 65, 3, .invokeinterface 8 1), (83, .if_icmp .ge 25, 3, .if_icmp .ge (.ofNat 55)), (86, .aload_n 0, 1, .aload 0), (87, .iload_n 1, 1, .iload 1), (88, .invokevirtual 88, 3, .invokevirtual 167), (91, .ifCond .eq 11, 3, .ifCond .eq (.ofNat 53)), (94, .aload_n 0, 1, .aload 0), (95, .iconst 1, 1, .iconst 1), (96, .iload_n 1, 1, .iload 1), (97, .iconst (-1), 1, .iconst (-1)), (98, .invokevirtual 92, 3, .invokevirtual 161), (101, .return_, 1, .return_), (102, .iinc 1 1, 3, .iinc 1 1), (105, .goto (-30), 3, .jsr_w 38), (108, .iconst 0, 1, .iconst 0), (109, .istore_n 1, 1, .istore 1), (110, .iload_n 1, 1, .iload 1), (111, .aload_n 0, 1, .aload 0), (112, .getfield 20, 3, .invokeinterface 7 4), (115, .getfield 65, 3, .invokeinterface 8 1), (118, .if_icmp .ge 103, 3, .if_icmp .ge (.ofNat 116)), (121, .aload_n 0, 1, .aload 0), (122, .getfield 20, 3, .invokeinterface 7 4), (125, .iload_n 1, 1, .iload 1), (126, .invokevirtual 96, 3, .invokevirtual 171), (129, .istore_n 2, 1, .istore 2), (130, .iload_n 1, 1, .iload 1), (131, .iconst 1, 1, .iconst 1), (132, .iadd, 1, .iadd), (133, .istore_n 3, 1, .istore 3), (134, .iload_n 3, 1, .iload 3), (135, .aload_n 0, 1, .aload 0), (136, .getfield 20, 3, .invokeinterface 7 4), (139, .getfield 65, 3, .invokeinterface 8 1), (142, .if_icmp .ge 64, 3, .if_icmp .ge (.ofNat 109)), (145, .iconst 0, 1, .iconst 0), (146, .istore 4, 2, .istore 4), (148, .iload 4, 2, .iload 4), (150, .aload_n 0, 1, .aload 0), (151, .iload_n 1, 1, .iload 1), (152, .invokevirtual 100, 3, .invokevirtual 168), (155, .if_icmp .ge 45, 3, .if_icmp .ge (.ofNat 107)), (158, .aload_n 0, 1, .aload 0), (159, .getfield 20, 3, .invokeinterface 7 4), (162, .iload_n 1, 1, .iload 1), (163, .aload_n 0, 1, .aload 0), (164, .getfield 24, 3, .invokeinterface 7 5), (167, .iload_n 1, 1, .iload 1), (168, .bipush 29, 2, .iconst 29), (170, .imul, 1, .imul), (171, .iload 4, 2, .iload 4), (173, .iadd, 1, .iadd), (174, .iaload, 1, .iaload), (175, .invokevirtual 103, 3, .invokevirtual 172), (178, .aload_n 0, 1, .aload 0), (179, .iload_n 3, 1, .iload 3), (180, .invokevirtual 88, 3, .invokevirtual 167), (183, .ifCond .eq 11, 3, .ifCond .eq (.ofNat 105)), (186, .aload_n 0, 1, .aload 0), (187, .iconst 2, 1, .iconst 2), (188, .iload_n 1, 1, .iload 1), (189, .iload_n 3, 1, .iload 3), (190, .invokevirtual 92, 3, .invokevirtual 161), (193, .return_, 1, .return_), (194, .iinc 4 1, 3, .iinc 4 1), (197, .goto (-49), 3, .jsr_w 78), (200, .iinc 3 1, 3, .iinc 3 1), (203, .goto (-69), 3, .jsr_w 71), (206, .aload_n 0, 1, .aload 0), (207, .getfield 20, 3, .invokeinterface 7 4), (210, .iload_n 1, 1, .iload 1), (211, .iload_n 2, 1, .iload 2), (212, .invokevirtual 103, 3, .invokevirtual 172), (215, .iinc 1 1, 3, .iinc 1 1), (218, .goto (-108), 3, .jsr_w 57), (221, .return_, 1, .return_)]
def kB161 : x_R := [(0, .aload_n 0, 1, .aload 0), (1, .getfield 9, 3, .invokeinterface 7 1), (4, .iconst 0, 1, .iconst 0), (5, .iload_n 1, 1, .iload 1), (6, .iastore, 1, .iastore), (7, .aload_n 0, 1, .aload 0), (8, .getfield 9, 3, .invokeinterface 7 1), (11, .iconst 1, 1, .iconst 1), (12, .iload_n 2, 1, .iload 2), (13, .iastore, 1, .iastore), (14, .aload_n 0, 1, .aload 0), (15, .getfield 9, 3, .invokeinterface 7 1), (18, .iconst 2, 1, .iconst 2), (19, .aload_n 0, 1, .aload 0), (20, .getfield 20, 3, .invokeinterface 7 4), (23, .iload_n 2, 1, .iload 2), (24, .invokevirtual 96, 3, .invokevirtual 171), (27, .iastore, 1, .iastore), (28, .iload_n 3, 1, .iload 3), (29, .iconst (-1), 1, .iconst (-1)), (30, .if_icmp .eq 24, 3, .if_icmp .eq (.ofNat 34)), (33, .aload_n 0, 1, .aload 0), (34, .getfield 9, 3, .invokeinterface 7 1), (37, .iconst 3, 1, .iconst 3), (38, .iload_n 3, 1, .iload 3), (39, .iastore, 1, .iastore), (40, .aload_n 0, 1, .aload 0), (41, .getfield 9, 3, .invokeinterface 7 1), (44, .iconst 4, 1, .iconst 4), (45, .aload_n 0, 1, .aload 0), (46, .getfield 20, 3, .invokeinterface 7 4), (49, .iload_n 3, 1, .iload 3), (50, .invokevirtual 96, 3, .invokevirtual 171), (53, .iastore, 1, .iastore), (54, .return_, 1, .return_)]
def kB162 : x_R := [(0, .aload_n 0, 1, .aload 0), (1, .getfield 46, 3, .invokeinterface 7 3), (4, .aload_n 0, 1, .aload 0), (5, .getfield 20, 3, .invokeinterface 7 4), (8, .getfield 65, 3, .invokeinterface 8 1), (11, .invokevirtual 107, 3, .invokevirtual 145), (14, .istore_n 1, 1, .istore 1), (15, .iconst 0, 1, .iconst 0), (16, .istore_n 2, 1, .istore 2), (17, .iload_n 2, 1, .iload 2), (18, .bipush 8, 2, .iconst 8), (20, .if_icmp .ge 106, 3, .if_icmp .ge (.ofNat 71)), (23, .aload_n 0, 1, .aload 0), (24, .getfield 42, 3, .invokeinterface 7 2), (27, .iload_n 2, 1, .iload 2), (28, .invokevirtual 110, 3, .invokevirtual 98), (31, .ifCond .eq 30, 3, .ifCond .eq (.ofNat 30)), (34, .aload_n 0, 1, .aload 0), (35, .getfield 42, 3, .invokeinterface 7 2), (38, .getfield 113, 3, .invokeinterface 3 3), (41, .iload_n 2, 1, .iload 2), (42, .iaload, 1, .iaload), (43, .ifCond .ne 18, 3, .ifCond .ne (.ofNat 30)), (46, .aload_n 0, 1, .aload 0), (47, .getfield 42, 3, .invokeinterface 7 2), (50, .iload_n 2, 1, .iload 2), (51, .invokevirtual 116, 3, .invokevirtual 105), (54, .ifCond .eq 7, 3, .ifCond .eq (.ofNat 30)), (57, .iconst 1, 1, .iconst 1), (58, .goto 4, 3, .goto 31), (61, .iconst 0, 1, .iconst 0), (62, .istore_n 3, 1, .istore 3), (63, .aload_n 0, 1, .aload 0), (64, .getfield 30, 3, .invokeinterface 7 7), (67, .iload_n 2, 1, .iload 2), (68, .iload_n 3, 1, .iload 3), (69, .ifCond .eq 15, 3, .ifCond .eq (.ofNat 43)), (72, .aload_n 0, 1, .aload 0), (73, .getfield 42, 3, .invokeinterface 7 2), (76, .getfield 119, 3, .invokeinterface 3 2), (79, .iload_n 2, 1, .iload 2), (80, .iaload, 1, .iaload), (81, .goto 4, 3, .goto 44), (84, .iconst 0, 1, .iconst 0), (85, .iastore, 1, .iastore), (86, .aload_n 0, 1, .aload 0), (87, .getfield 33, 3, .invokeinterface 7 8), (90, .iload_n 2, 1, .iload 2), (91, .aload_n 0, 1, .aload 0), (92, .getfield 30, 3, .invokeinterface 7 7), (95, .iload_n 2, 1, .iload 2), (96, .iaload, 1, .iaload), (97, .iastore, 1, .iastore), (98, .iload_n 1, 1, .iload 1), (99, .ifCond .le 21, 3, .ifCond .le (.ofNat 69)), (102, .aload_n 0, 1, .aload 0), (103, .getfield 33, 3, .invokeinterface 7 8), (106, .iload_n 2, 1, .iload 2), (107, .aload_n 0, 1, .aload 0), (108, .getfield 30, 3, .invokeinterface 7 7), (111, .iload_n 2, 1, .iload 2), (112, .iaload, 1, .iaload), (113, .iload_n 1, 1, .iload 1), (114, .iadd, 1, .iadd), (115, .iconst 1, 1, .iconst 1), (116, .isub, 1, .isub), (117, .iload_n 1, 1, .iload 1), (118, .idiv, 1, .idiv), (119, .iastore, 1, .iastore), (120, .iinc 2 1, 3, .iinc 2 1), (123, .goto (-106), 3, .jsr_w 9), (126, .return_, 1, .return_)]
def kB163 : x_R := [(0, .aload_n 0, 1, .aload 0), (1, .getfield 36, 3, .invokeinterface 7 9), (4, .iconst 0, 1, .iconst 0), (5, .invokestatic 54, 3, .invokestatic 86), (8, .iconst 0, 1, .iconst 0), (9, .istore_n 1, 1, .istore 1), (10, .iload_n 1, 1, .iload 1), (11, .aload_n 0, 1, .aload 0), (12, .getfield 20, 3, .invokeinterface 7 4), (15, .getfield 65, 3, .invokeinterface 8 1), (18, .if_icmp .ge 59, 3, .if_icmp .ge (.ofNat 42)), (21, .aload_n 0, 1, .aload 0), (22, .getfield 20, 3, .invokeinterface 7 4), (25, .iload_n 1, 1, .iload 1), (26, .invokevirtual 96, 3, .invokevirtual 171), (29, .istore_n 2, 1, .istore 2), (30, .aload_n 0, 1, .aload 0), (31, .getfield 46, 3, .invokeinterface 7 3), (34, .iload_n 2, 1, .iload 2), (35, .invokevirtual 122, 3, .invokevirtual 142), (38, .ifCond .eq 33, 3, .ifCond .eq (.ofNat 40)), (41, .aload_n 0, 1, .aload 0), (42, .getfield 42, 3, .invokeinterface 7 2), (45, .getfield 125, 3, .invokeinterface 3 6), (48, .iload_n 2, 1, .iload 2), (49, .iaload, 1, .iaload), (50, .istore_n 3, 1, .istore 3), (51, .iload_n 3, 1, .iload 3), (52, .ifCond .lt 19, 3, .ifCond .lt (.ofNat 40)), (55, .iload_n 3, 1, .iload 3), (56, .bipush 8, 2, .iconst 8), (58, .if_icmp .ge 13, 3, .if_icmp .ge (.ofNat 40)), (61, .aload_n 0, 1, .aload 0), (62, .getfield 36, 3, .invokeinterface 7 9), (65, .iload_n 3, 1, .iload 3), (66, .dup2, 1, .dup2), (67, .iaload, 1, .iaload), (68, .iconst 1, 1, .iconst 1), (69, .iadd, 1, .iadd), (70, .iastore, 1, .iastore), (71, .iinc 1 1, 3, .iinc 1 1), (74, .goto (-64), 3, .jsr_w 6), (77, .iconst 0, 1, .iconst 0), (78, .istore_n 1, 1, .istore 1), (79, .iconst 0, 1, .iconst 0), (80, .istore_n 2, 1, .istore 2), (81, .iload_n 2, 1, .iload 2), (82, .bipush 8, 2, .iconst 8), (84, .if_icmp .ge 29, 3, .if_icmp .ge (.ofNat 65)), (87, .iload_n 1, 1, .iload 1), (88, .iconst 0, 1, .iconst 0), (89, .aload_n 0, 1, .aload 0), (90, .getfield 33, 3, .invokeinterface 7 8), (93, .iload_n 2, 1, .iload 2), (94, .iaload, 1, .iaload), (95, .aload_n 0, 1, .aload 0), (96, .getfield 36, 3, .invokeinterface 7 9), (99, .iload_n 2, 1, .iload 2), (100, .iaload, 1, .iaload), (101, .isub, 1, .isub), (102, .invokestatic 128, 3, .invokedynamic 0), (105, .iadd, 1, .iadd), (106, .istore_n 1, 1, .istore 1), (107, .iinc 2 1, 3, .iinc 2 1), (110, .goto (-29), 3, .jsr_w 46), (113, .iload_n 1, 1, .iload 1), (114, .ireturn, 1, .ireturn)]
def kB164 : x_R := [(0, .aload_n 0, 1, .aload 0), (1, .getfield 46, 3, .invokeinterface 7 3), (4, .iload_n 1, 1, .iload 1), (5, .invokevirtual 122, 3, .invokevirtual 142), (8, .ifCond .eq 15, 3, .ifCond .eq (.ofNat 11)), (11, .aload_n 0, 1, .aload 0), (12, .getfield 42, 3, .invokeinterface 7 2), (15, .getfield 125, 3, .invokeinterface 3 6), (18, .iload_n 1, 1, .iload 1), (19, .iaload, 1, .iaload), (20, .goto 4, 3, .goto 12), (23, .iconst (-1), 1, .iconst (-1)), (24, .istore_n 2, 1, .istore 2), (25, .iload_n 2, 1, .iload 2), (26, .ifCond .lt 28, 3, .ifCond .lt (.ofNat 29)), (29, .iload_n 2, 1, .iload 2), (30, .bipush 8, 2, .iconst 8), (32, .if_icmp .ge 22, 3, .if_icmp .ge (.ofNat 29)), (35, .aload_n 0, 1, .aload 0), (36, .getfield 36, 3, .invokeinterface 7 9), (39, .iload_n 2, 1, .iload 2), (40, .iaload, 1, .iaload), (41, .aload_n 0, 1, .aload 0), (42, .getfield 33, 3, .invokeinterface 7 8), (45, .iload_n 2, 1, .iload 2), (46, .iaload, 1, .iaload), (47, .if_icmp .ge 7, 3, .if_icmp .ge (.ofNat 29)), (50, .iconst 1, 1, .iconst 1), (51, .goto 4, 3, .goto 30), (54, .iconst 0, 1, .iconst 0), (55, .ireturn, 1, .areturn)]
def kB165 : x_R := [(0, .aload_n 0, 1, .aload 0), (1, .getfield 46, 3, .invokeinterface 7 3), (4, .aload_n 0, 1, .aload 0), (5, .getfield 20, 3, .invokeinterface 7 4), (8, .iconst 0, 1, .iconst 0), (9, .aload_n 0, 1, .aload 0), (10, .getfield 134, 3, .invokeinterface 7 11), (13, .invokevirtual 137, 3, .invokevirtual 150), (16, .aload_n 0, 1, .aload 0), (17, .getfield 30, 3, .invokeinterface 7 7), (20, .aload_n 0, 1, .aload 0), (21, .getfield 134, 3, .invokeinterface 7 11), (24, .iaload, 1, .iaload), (25, .if_icmp .ge 5, 3, .if_icmp .ge (.ofNat 16)), (28, .iconst 0, 1, .iconst 0), (29, .ireturn, 1, .areturn), (30, .aload_n 0, 1, .aload 0), (31, .getfield 46, 3, .invokeinterface 7 3), (34, .aload_n 0, 1, .aload 0), (35, .getfield 20, 3, .invokeinterface 7 4), (38, .aload_n 0, 1, .aload 0), (39, .getfield 39, 3, .invokeinterface 7 10), (42, .invokevirtual 141, 3, .invokevirtual 152), (45, .iconst 0, 1, .iconst 0), (46, .istore_n 1, 1, .istore 1), (47, .iload_n 1, 1, .iload 1), (48, .bipush 8, 2, .iconst 8), (50, .if_icmp .ge 31, 3, .if_icmp .ge (.ofNat 44)), (53, .aload_n 0, 1, .aload 0), (54, .getfield 39, 3, .invokeinterface 7 10), (57, .iload_n 1, 1, .iload 1), (58, .iaload, 1, .iaload), (59, .aload_n 0, 1, .aload 0), (60, .getfield 30, 3, .invokeinterface 7 7), (63, .iload_n 1, 1, .iload 1), (64, .iaload, 1, .iaload), (65, .if_icmp .ge 10, 3, .if_icmp .ge (.ofNat 42)), (68, .aload_n 0, 1, .aload 0), (69, .iload_n 1, 1, .iload 1), (70, .putfield 134, 3, .multianewarray 7 11), (73, .iconst 0, 1, .iconst 0), (74, .ireturn, 1, .areturn), (75, .iinc 1 1, 3, .iinc 1 1), (78, .goto (-31), 3, .jsr_w 25), (81, .iconst 1, 1, .iconst 1), (82, .ireturn, 1, .areturn)]
def kB166 : x_R := [(0, .iconst 0, 1, .iconst 0), (1, .istore_n 1, 1, .istore 1), (2, .iload_n 1, 1, .iload 1), (3, .aload_n 0, 1, .aload 0), (4, .getfield 20, 3, .invokeinterface 7 4), (7, .getfield 65, 3, .invokeinterface 8 1), (10, .if_icmp .ge 197, 3, .if_icmp .ge (.ofNat 100)), (13, .iload_n 1, 1, .iload 1), (14, .bipush 12, 2, .iconst 12), (16, .if_icmp .ge 191, 3, .if_icmp .ge (.ofNat 100)), (19, .iconst 0, 1, .iconst 0), (20, .istore_n 2, 1, .istore 2), (21, .iconst 0, 1, .iconst 0), (22, .istore_n 3, 1, .istore 3), (23, .iconst 0, 1, .iconst 0), (24, .istore 4, 2, .istore 4), (26, .iconst 0, 1, .iconst 0), (27, .istore 5, 2, .istore 5), (29, .iload 5, 2, .iload 5), (31, .bipush 29, 2, .iconst 29), (33, .if_icmp .ge 161, 3, .if_icmp .ge (.ofNat 93)), (36, .aload_n 0, 1, .aload 0), (37, .getfield 20, 3, .invokeinterface 7 4), (40, .iload_n 1, 1, .iload 1), (41, .invokevirtual 96, 3, .invokevirtual 171), (44, .invokestatic 145, 3, .invokestatic 219), (47, .ifCond .eq 147, 3, .ifCond .eq (.ofNat 93)), (50, .aload_n 0, 1, .aload 0), (51, .getfield 46, 3, .invokeinterface 7 3), (54, .iload 5, 2, .iload 5), (56, .invokevirtual 122, 3, .invokevirtual 142), (59, .ifCond .ne 27, 3, .ifCond .ne (.ofNat 42)), (62, .iload 5, 2, .iload 5), (64, .invokestatic 148, 3, .invokestatic 220), (67, .ifCond .eq 10, 3, .ifCond .eq (.ofNat 38)), (70, .iload_n 3, 1, .iload 3), (71, .ifCond .eq 15, 3, .ifCond .eq (.ofNat 42)), (74, .goto 8, 3, .goto 40), (77, .iload 4, 2, .iload 4), (79, .ifCond .eq 7, 3, .ifCond .eq (.ofNat 42)), (82, .iconst 1, 1, .iconst 1), (83, .goto 4, 3, .goto 43), (86, .iconst 0, 1, .iconst 0), (87, .istore 6, 2, .istore 6), (89, .iload 5, 2, .iload 5), (91, .aload_n 0, 1, .aload 0), (92, .getfield 20, 3, .invokeinterface 7 4), (95, .iload_n 1, 1, .iload 1), (96, .invokevirtual 96, 3, .invokevirtual 171), (99, .if_icmp .eq 89, 3, .if_icmp .eq (.ofNat 91)), (102, .iload 6, 2, .iload 6), (104, .ifCond .eq 6, 3, .ifCond .eq (.ofNat 53)), (107, .goto 81, 3, .goto 91), (110, .iload_n 3, 1, .iload 3), (111, .ifCond .ne 23, 3, .ifCond .ne (.ofNat 63)), (114, .aload_n 0, 1, .aload 0), (115, .getfield 46, 3, .invokeinterface 7 3), (118, .iload 5, 2, .iload 5), (120, .invokevirtual 122, 3, .invokevirtual 142), (123, .ifCond .ne 15, 3, .ifCond .ne (.ofNat 65)), (126, .iload 5, 2, .iload 5), (128, .invokestatic 148, 3, .invokestatic 220), (131, .ifCond .eq 7, 3, .ifCond .eq (.ofNat 65)), (134, .iconst 1, 1, .iconst 1), (135, .goto 4, 3, .goto 66), (138, .iconst 0, 1, .iconst 0), (139, .istore_n 3, 1, .istore 3), (140, .iload 4, 2, .iload 4), (142, .ifCond .ne 23, 3, .ifCond .ne (.ofNat 77)), (145, .aload_n 0, 1, .aload 0), (146, .getfield 46, 3, .invokeinterface 7 3), (149, .iload 5, 2, .iload 5), (151, .invokevirtual 122, 3, .invokevirtual 142), (154, .ifCond .ne 15, 3, .ifCond .ne (.ofNat 79)), (157, .iload 5, 2, .iload 5), (159, .invokestatic 148, 3, .invokestatic 220), (162, .ifCond .ne 7, 3, .ifCond .ne (.ofNat 79)), (165, .iconst 1, 1, .iconst 1), (166, .goto 4, 3, .goto 80), (169, .iconst 0, 1, .iconst 0), (170, .istore 4, 2, .istore 4), (172, .aload_n 0, 1, .aload 0), (173, .getfield 24, 3, .invokeinterface 7 5), (176, .iload_n 1, 1, .iload 1), (177, .bipush 29, 2, .iconst 29), (179, .imul, 1, .imul), (180, .iload_n 2, 1, .iload 2), (181, .iadd, 1, .iadd), (182, .iload 5, 2, .iload 5), (184, .iastore, 1, .iastore), (185, .iinc 2 1, 3, .iinc 2 1), (188, .iinc 5 1, 3, .iinc 5 1), (191, .goto (-162), 3, .jsr_w 18), (194, .aload_n 0, 1, .aload 0), (195, .getfield 27, 3, .invokeinterface 7 6), (198, .iload_n 1, 1, .iload 1), (199, .iload_n 2, 1, .iload 2), (200, .iastore, 1, .iastore), (201, .iinc 1 1, 3, .iinc 1 1), (204, .goto (-202), 3, .jsr_w 2), (207, .return_, 1, .return_)]
def kB167 : x_R := [(0, .aload_n 0, 1, .aload 0), (1, .getfield 20, 3, .invokeinterface 7 4), (4, .iload_n 1, 1, .iload 1), (5, .invokevirtual 96, 3, .invokevirtual 171), (8, .istore_n 2, 1, .istore 2), (9, .aload_n 0, 1, .aload 0), (10, .getfield 20, 3, .invokeinterface 7 4), (13, .iload_n 1, 1, .iload 1), (14, .bipush 29, 2, .iconst 29), (16, .invokevirtual 103, 3, .invokevirtual 172), (19, .aload_n 0, 1, .aload 0), (20, .invokevirtual 151, 3, .invokevirtual 163), (23, .istore_n 3, 1, .istore 3), (24, .iconst 0, 1, .iconst 0), (25, .istore 4, 2, .istore 4), (27, .iload 4, 2, .iload 4), (29, .aload_n 0, 1, .aload 0), (30, .iload_n 1, 1, .iload 1), (31, .invokevirtual 100, 3, .invokevirtual 168), (34, .if_icmp .ge 64, 3, .if_icmp .ge (.ofNat 52)), (37, .iload_n 3, 1, .iload 3), (38, .iconst 1, 1, .iconst 1), (39, .if_icmp .gt 59, 3, .if_icmp .gt (.ofNat 52)), (42, .aload_n 0, 1, .aload 0), (43, .getfield 24, 3, .invokeinterface 7 5), (46, .iload_n 1, 1, .iload 1), (47, .bipush 29, 2, .iconst 29), (49, .imul, 1, .imul), (50, .iload 4, 2, .iload 4), (52, .iadd, 1, .iadd), (53, .iaload, 1, .iaload), (54, .istore 5, 2, .istore 5), (56, .iload_n 3, 1, .iload 3), (57, .iconst 1, 1, .iconst 1), (58, .if_icmp .ne 15, 3, .if_icmp .ne (.ofNat 40)), (61, .aload_n 0, 1, .aload 0), (62, .iload 5, 2, .iload 5), (64, .invokevirtual 155, 3, .invokevirtual 164), (67, .ifCond .ne 6, 3, .ifCond .ne (.ofNat 40)), (70, .goto 22, 3, .goto 50), (73, .aload_n 0, 1, .aload 0), (74, .getfield 20, 3, .invokeinterface 7 4), (77, .iload_n 1, 1, .iload 1), (78, .iload 5, 2, .iload 5), (80, .invokevirtual 103, 3, .invokevirtual 172), (83, .aload_n 0, 1, .aload 0), (84, .invokevirtual 84, 3, .invokevirtual 165), (87, .ifCond .eq 5, 3, .ifCond .eq (.ofNat 50)), (90, .iconst 1, 1, .iconst 1), (91, .ireturn, 1, .areturn), (92, .iinc 4 1, 3, .iinc 4 1), (95, .goto (-68), 3, .jsr_w 15), (98, .aload_n 0, 1, .aload 0), (99, .getfield 20, 3, .invokeinterface 7 4), (102, .iload_n 1, 1, .iload 1), (103, .iload_n 2, 1, .iload 2), (104, .invokevirtual 103, 3, .invokevirtual 172), (107, .iconst 0, 1, .iconst 0), (108, .ireturn, 1, .areturn)]
def kB168 : x_R := [(0, .iload_n 1, 1, .iload 1), (1, .ifCond .lt 18, 3, .ifCond .lt (.ofNat 10)), (4, .iload_n 1, 1, .iload 1), (5, .bipush 12, 2, .iconst 12), (7, .if_icmp .ge 12, 3, .if_icmp .ge (.ofNat 10)), (10, .aload_n 0, 1, .aload 0), (11, .getfield 27, 3, .invokeinterface 7 6), (14, .iload_n 1, 1, .iload 1), (15, .iaload, 1, .iaload), (16, .goto 4, 3, .goto 11), (19, .iconst 0, 1, .iconst 0), (20, .ireturn, 1, .ireturn)]
def kB169 : x_R := [(0, .aload_n 0, 1, .aload 0), (1, .invokespecial 3, 3, .pop), (4, .aload_n 0, 1, .aload 0), (5, .iload_n 1, 1, .iload 1), (6, .iconst 0, 1, .iconst 0), (7, .invokestatic 9, 3, .invokedynamic 0), (10, .newarray .int, 2, .newarray .int), (12, .putfield 15, 3, .multianewarray 8 2000), (15, .return_, 1, .return_)]
def kB170 : x_R := [(0, .iload_n 1, 1, .iload 1), (1, .ifCond .lt 24, 3, .ifCond .lt (.ofNat 13)), (4, .iload_n 1, 1, .iload 1), (5, .aload_n 0, 1, .aload 0), (6, .getfield 21, 3, .invokeinterface 8 1), (9, .if_icmp .ge 16, 3, .if_icmp .ge (.ofNat 13)), (12, .iload_n 1, 1, .iload 1), (13, .aload_n 0, 1, .aload 0), (14, .getfield 15, 3, .invokeinterface 8 0), (17, .arraylength, 1, .arraylength), (18, .if_icmp .ge 7, 3, .if_icmp .ge (.ofNat 13)), (21, .iconst 1, 1, .iconst 1), (22, .goto 4, 3, .goto 14), (25, .iconst 0, 1, .iconst 0), (26, .ireturn, 1, .areturn)]
def kB171 : x_R := [(0, .iload_n 1, 1, .iload 1), (1, .ifCond .lt 21, 3, .ifCond .lt (.ofNat 12)), (4, .iload_n 1, 1, .iload 1), (5, .aload_n 0, 1, .aload 0), (6, .getfield 15, 3, .invokeinterface 8 0), (9, .arraylength, 1, .arraylength), (10, .if_icmp .ge 12, 3, .if_icmp .ge (.ofNat 12)), (13, .aload_n 0, 1, .aload 0), (14, .getfield 15, 3, .invokeinterface 8 0), (17, .iload_n 1, 1, .iload 1), (18, .iaload, 1, .iaload), (19, .goto 5, 3, .goto 13), (22, .bipush 29, 2, .iconst 29), (24, .ireturn, 1, .ireturn)]
def kB172 : x_R := [(0, .aload_n 0, 1, .aload 0), (1, .iload_n 1, 1, .iload 1), (2, .invokevirtual 25, 3, .invokevirtual 170), (5, .ifCond .eq 10, 3, .ifCond .eq (.ofNat 9)), (8, .aload_n 0, 1, .aload 0), (9, .getfield 15, 3, .invokeinterface 8 0), (12, .iload_n 1, 1, .iload 1), (13, .iload_n 2, 1, .iload 2), (14, .iastore, 1, .iastore), (15, .return_, 1, .return_)]
def kB173 : x_R := [(0, .aload_n 0, 1, .aload 0), (1, .getfield 21, 3, .invokeinterface 8 1), (4, .ifCond .lt 35, 3, .ifCond .lt (.ofNat 21)), (7, .aload_n 0, 1, .aload 0), (8, .getfield 21, 3, .invokeinterface 8 1), (11, .aload_n 0, 1, .aload 0), (12, .getfield 15, 3, .invokeinterface 8 0), (15, .arraylength, 1, .arraylength), (16, .if_icmp .ge 23, 3, .if_icmp .ge (.ofNat 21)), (19, .aload_n 0, 1, .aload 0), (20, .getfield 15, 3, .invokeinterface 8 0), (23, .aload_n 0, 1, .aload 0), (24, .getfield 21, 3, .invokeinterface 8 1), (27, .iload_n 1, 1, .iload 1), (28, .iastore, 1, .iastore), (29, .aload_n 0, 1, .aload 0), (30, .dup, 1, .dup), (31, .getfield 21, 3, .invokeinterface 8 1), (34, .iconst 1, 1, .iconst 1), (35, .iadd, 1, .iadd), (36, .putfield 21, 3, .multianewarray 8 1), (39, .return_, 1, .return_)]
def kB174 : x_R := [(0, .aload_n 0, 1, .aload 0), (1, .aload_n 1, 1, .aload 1), (2, .getfield 21, 3, .invokeinterface 8 1), (5, .aload_n 0, 1, .aload 0), (6, .getfield 15, 3, .invokeinterface 8 0), (9, .arraylength, 1, .arraylength), (10, .invokestatic 29, 3, .invokedynamic 1), (13, .putfield 21, 3, .multianewarray 8 1), (16, .iconst 0, 1, .iconst 0), (17, .istore_n 2, 1, .istore 2), (18, .iload_n 2, 1, .iload 2), (19, .aload_n 0, 1, .aload 0), (20, .getfield 21, 3, .invokeinterface 8 1), (23, .if_icmp .ge 20, 3, .if_icmp .ge (.ofNat 23)), (26, .aload_n 0, 1, .aload 0), (27, .getfield 15, 3, .invokeinterface 8 0), (30, .iload_n 2, 1, .iload 2), (31, .aload_n 1, 1, .aload 1), (32, .iload_n 2, 1, .iload 2), (33, .invokevirtual 32, 3, .invokevirtual 171), (36, .iastore, 1, .iastore), (37, .iinc 2 1, 3, .iinc 2 1), (40, .goto (-22), 3, .jsr_w 10), (43, .return_, 1, .return_)]
def kB175 : x_R := [(0, .iconst 0, 1, .iconst 0), (1, .istore_n 2, 1, .istore 2), (2, .iload_n 2, 1, .iload 2), (3, .aload_n 0, 1, .aload 0), (4, .getfield 21, 3, .invokeinterface 8 1), (7, .if_icmp .ge 20, 3, .if_icmp .ge (.ofNat 15)), (10, .aload_n 0, 1, .aload 0), (11, .iload_n 2, 1, .iload 2), (12, .invokevirtual 32, 3, .invokevirtual 171), (15, .iload_n 1, 1, .iload 1), (16, .if_icmp .ne 5, 3, .if_icmp .ne (.ofNat 13)), (19, .iconst 1, 1, .iconst 1), (20, .ireturn, 1, .areturn), (21, .iinc 2 1, 3, .iinc 2 1), (24, .goto (-22), 3, .jsr_w 2), (27, .iconst 0, 1, .iconst 0), (28, .ireturn, 1, .areturn)]
def kB176 : x_R := [(0, .aload_n 0, 1, .aload 0), (1, .invokespecial 3, 3, .pop), (4, .aload_n 0, 1, .aload 0), (5, .bipush 48, 2, .iconst 48), (7, .newarray .int, 2, .newarray .int), (9, .putfield 9, 3, .multianewarray 9 2000), (12, .aload_n 0, 1, .aload 0), (13, .sipush 174, 3, .iconst 174), (16, .newarray .int, 2, .newarray .int), (18, .putfield 15, 3, .multianewarray 9 2001), (21, .aload_n 0, 1, .aload 0), (22, .bipush 6, 2, .iconst 6), (24, .newarray .int, 2, .newarray .int), (26, .putfield 18, 3, .multianewarray 9 2002), (29, .aload_n 0, 1, .aload 0), (30, .bipush 6, 2, .iconst 6), (32, .newarray .int, 2, .newarray .int), (34, .putfield 21, 3, .multianewarray 9 2003), (37, .aload_n 0, 1, .aload 0), (38, .bipush 6, 2, .iconst 6), (40, .newarray .int, 2, .newarray .int), (42, .putfield 24, 3, .multianewarray 9 2004), (45, .return_, 1, .return_)]
def kB177 : x_R := [(0, .aload_n 0, 1, .aload 0), (1, .getfield 27, 3, .invokeinterface 9 5), (4, .bipush 6, 2, .iconst 6), (6, .if_icmp .lt 7, 3, .if_icmp .lt (.ofNat 6)), (9, .aload_n 0, 1, .aload 0), (10, .invokevirtual 31, 3, .invokevirtual 178), (13, .aload_n 0, 1, .aload 0), (14, .getfield 27, 3, .invokeinterface 9 5), (17, .ifCond .lt 12, 3, .ifCond .lt (.ofNat 13)), (20, .aload_n 0, 1, .aload 0), (21, .getfield 27, 3, .invokeinterface 9 5), (24, .bipush 6, 2, .iconst 6), (26, .if_icmp .lt 4, 3, .if_icmp .lt (.ofNat 14)), (29, .return_, 1, .return_), (30, .aload_n 1, 1, .aload 1), (31, .getfield 34, 3, .invokeinterface 3 1), (34, .iconst 0, 1, .iconst 0), (35, .aload_n 0, 1, .aload 0), (36, .getfield 9, 3, .invokeinterface 9 0), (39, .aload_n 0, 1, .aload 0), (40, .getfield 27, 3, .invokeinterface 9 5), (43, .bipush 8, 2, .iconst 8), (45, .imul, 1, .imul), (46, .bipush 8, 2, .iconst 8), (48, .invokestatic 39, 3, .invokedynamic 2), (51, .aload_n 1, 1, .aload 1), (52, .getfield 45, 3, .invokeinterface 3 8), (55, .iconst 0, 1, .iconst 0), (56, .aload_n 0, 1, .aload 0), (57, .getfield 15, 3, .invokeinterface 9 1), (60, .aload_n 0, 1, .aload 0), (61, .getfield 27, 3, .invokeinterface 9 5), (64, .bipush 29, 2, .iconst 29), (66, .imul, 1, .imul), (67, .bipush 29, 2, .iconst 29), (69, .invokestatic 39, 3, .invokedynamic 2), (72, .aload_n 0, 1, .aload 0), (73, .getfield 18, 3, .invokeinterface 9 2), (76, .aload_n 0, 1, .aload 0), (77, .getfield 27, 3, .invokeinterface 9 5), (80, .aload_n 1, 1, .aload 1), (81, .getfield 46, 3, .invokeinterface 3 13), (84, .iastore, 1, .iastore), (85, .aload_n 0, 1, .aload 0), (86, .getfield 21, 3, .invokeinterface 9 3), (89, .aload_n 0, 1, .aload 0), (90, .getfield 27, 3, .invokeinterface 9 5), (93, .aload_n 1, 1, .aload 1), (94, .getfield 48, 3, .invokeinterface 3 14), (97, .iastore, 1, .iastore), (98, .aload_n 0, 1, .aload 0), (99, .getfield 24, 3, .invokeinterface 9 4), (102, .aload_n 0, 1, .aload 0), (103, .getfield 27, 3, .invokeinterface 9 5), (106, .aload_n 1, 1, .aload 1), (107, .getfield 50, 3, .invokeinterface 3 17), (110, .iastore, 1, .iastore), (111, .aload_n 0, 1, .aload 0), (112, .dup, 1, .dup), (113, .getfield 27, 3, .invokeinterface 9 5), (116, .iconst 1, 1, .iconst 1), (117, .iadd, 1, .iadd), (118, .putfield 27, 3, .multianewarray 9 5), (121, .return_, 1, .return_)]
def kB178 : x_R := [(0, .aload_n 0, 1, .aload 0), (1, .getfield 9, 3, .invokeinterface 9 0), (4, .bipush 8, 2, .iconst 8), (6, .aload_n 0, 1, .aload 0), (7, .getfield 9, 3, .invokeinterface 9 0), (10, .iconst 0, 1, .iconst 0), (11, .bipush 40, 2, .iconst 40), (13, .invokestatic 39, 3, .invokedynamic 2), (16, .aload_n 0, 1, .aload 0), (17, .getfield 15, 3, .invokeinterface 9 1), (20, .bipush 29, 2, .iconst 29), (22, .aload_n 0, 1, .aload 0), (23, .getfield 15, 3, .invokeinterface 9 1), (26, .iconst 0, 1, .iconst 0), (27, .sipush 145, 3, .iconst 145), (30, .invokestatic 39, 3, .invokedynamic 2), (33, .aload_n 0, 1, .aload 0), (34, .getfield 18, 3, .invokeinterface 9 2), (37, .iconst 1, 1, .iconst 1), (38, .aload_n 0, 1, .aload 0), (39, .getfield 18, 3, .invokeinterface 9 2), (42, .iconst 0, 1, .iconst 0), (43, .iconst 5, 1, .iconst 5), (44, .invokestatic 39, 3, .invokedynamic 2), (47, .aload_n 0, 1, .aload 0), (48, .getfield 21, 3, .invokeinterface 9 3), (51, .iconst 1, 1, .iconst 1), (52, .aload_n 0, 1, .aload 0), (53, .getfield 21, 3, .invokeinterface 9 3), (56, .iconst 0, 1, .iconst 0), (57, .iconst 5, 1, .iconst 5), (58, .invokestatic 39, 3, .invokedynamic 2), (61, .aload_n 0, 1, .aload 0), (62, .getfield 24, 3, .invokeinterface 9 4), (65, .iconst 1, 1, .iconst 1), (66, .aload_n 0, 1, .aload 0), (67, .getfield 24, 3, .invokeinterface 9 4), (70, .iconst 0, 1, .iconst 0), (71, .iconst 5, 1, .iconst 5), (72, .invokestatic 39, 3, .invokedynamic 2), (75, .aload_n 0, 1, .aload 0), (76, .iconst 5, 1, .iconst 5), (77, .putfield 27, 3, .multianewarray 9 5), (80, .return_, 1, .return_)]
def kB179 : x_R := [(0, .aload_n 0, 1, .aload 0), (1, .getfield 27, 3, .invokeinterface 9 5), (4, .iconst 1, 1, .iconst 1), (5, .if_icmp .lt 12, 3, .if_icmp .lt (.ofNat 8)), (8, .aload_n 0, 1, .aload 0), (9, .getfield 27, 3, .invokeinterface 9 5), (12, .bipush 6, 2, .iconst 6), (14, .if_icmp .le 5, 3, .if_icmp .le (.ofNat 10)), (17, .iconst 0, 1, .iconst 0), (18, .ireturn, 1, .areturn), (19, .aload_n 0, 1, .aload 0), (20, .dup, 1, .dup), (21, .getfield 27, 3, .invokeinterface 9 5), (24, .iconst 1, 1, .iconst 1), (25, .isub, 1, .isub), (26, .putfield 27, 3, .multianewarray 9 5), (29, .aload_n 0, 1, .aload 0), (30, .getfield 9, 3, .invokeinterface 9 0), (33, .aload_n 0, 1, .aload 0), (34, .getfield 27, 3, .invokeinterface 9 5), (37, .bipush 8, 2, .iconst 8), (39, .imul, 1, .imul), (40, .aload_n 1, 1, .aload 1), (41, .getfield 34, 3, .invokeinterface 3 1), (44, .iconst 0, 1, .iconst 0), (45, .bipush 8, 2, .iconst 8), (47, .invokestatic 39, 3, .invokedynamic 2), (50, .aload_n 0, 1, .aload 0), (51, .getfield 15, 3, .invokeinterface 9 1), (54, .aload_n 0, 1, .aload 0), (55, .getfield 27, 3, .invokeinterface 9 5), (58, .bipush 29, 2, .iconst 29), (60, .imul, 1, .imul), (61, .aload_n 1, 1, .aload 1), (62, .getfield 45, 3, .invokeinterface 3 8), (65, .iconst 0, 1, .iconst 0), (66, .bipush 29, 2, .iconst 29), (68, .invokestatic 39, 3, .invokedynamic 2), (71, .aload_n 1, 1, .aload 1), (72, .aload_n 0, 1, .aload 0), (73, .getfield 18, 3, .invokeinterface 9 2), (76, .aload_n 0, 1, .aload 0), (77, .getfield 27, 3, .invokeinterface 9 5), (80, .iaload, 1, .iaload), (81, .putfield 46, 3, .multianewarray 3 13), (84, .aload_n 1, 1, .aload 1), (85, .aload_n 0, 1, .aload 0), (86, .getfield 21, 3, .invokeinterface 9 3), (89, .aload_n 0, 1, .aload 0), (90, .getfield 27, 3, .invokeinterface 9 5), (93, .iaload, 1, .iaload), (94, .putfield 48, 3, .multianewarray 3 14), (97, .aload_n 1, 1, .aload 1), (98, .aload_n 0, 1, .aload 0), (99, .getfield 24, 3, .invokeinterface 9 4), (102, .aload_n 0, 1, .aload 0), (103, .getfield 27, 3, .invokeinterface 9 5), (106, .iaload, 1, .iaload), (107, .putfield 50, 3, .multianewarray 3 17), (110, .iconst 1, 1, .iconst 1), (111, .ireturn, 1, .areturn)]
def kB180 : x_R := [(0, .aload_n 0, 1, .aload 0), (1, .invokespecial 3, 3, .pop), (4, .aload_n 0, 1, .aload 0), (5, .sipush 240, 3, .iconst 240), (8, .newarray .int, 2, .newarray .int), (10, .putfield 9, 3, .multianewarray 10 2000), (13, .aload_n 0, 1, .aload 0), (14, .bipush 20, 2, .iconst 20), (16, .newarray .int, 2, .newarray .int), (18, .putfield 15, 3, .multianewarray 10 2001), (21, .return_, 1, .return_)]
def kB181 : x_R := [(0, .aload_n 0, 1, .aload 0), (1, .getfield 18, 3, .invokeinterface 10 2), (4, .ifCond .lt 29, 3, .ifCond .lt (.ofNat 15)), (7, .aload_n 0, 1, .aload 0), (8, .getfield 18, 3, .invokeinterface 10 2), (11, .bipush 20, 2, .iconst 20), (13, .if_icmp .ge 20, 3, .if_icmp .ge (.ofNat 15)), (16, .aload_n 1, 1, .aload 1), (17, .getfield 22, 3, .invokeinterface 8 1), (20, .iconst 1, 1, .iconst 1), (21, .if_icmp .lt 12, 3, .if_icmp .lt (.ofNat 15)), (24, .aload_n 1, 1, .aload 1), (25, .getfield 22, 3, .invokeinterface 8 1), (28, .bipush 12, 2, .iconst 12), (30, .if_icmp .le 5, 3, .if_icmp .le (.ofNat 17)), (33, .iconst 0, 1, .iconst 0), (34, .ireturn, 1, .areturn), (35, .iconst 0, 1, .iconst 0), (36, .istore_n 2, 1, .istore 2), (37, .iload_n 2, 1, .iload 2), (38, .aload_n 1, 1, .aload 1), (39, .getfield 22, 3, .invokeinterface 8 1), (42, .if_icmp .ge 22, 3, .if_icmp .ge (.ofNat 32)), (45, .aload_n 1, 1, .aload 1), (46, .iload_n 2, 1, .iload 2), (47, .invokevirtual 27, 3, .invokevirtual 171), (50, .invokestatic 31, 3, .invokestatic 221), (53, .ifCond .ne 5, 3, .ifCond .ne (.ofNat 30)), (56, .iconst 0, 1, .iconst 0), (57, .ireturn, 1, .areturn), (58, .iinc 2 1, 3, .iinc 2 1), (61, .goto (-24), 3, .jsr_w 19), (64, .iconst 0, 1, .iconst 0), (65, .istore_n 2, 1, .istore 2), (66, .iload_n 2, 1, .iload 2), (67, .aload_n 1, 1, .aload 1), (68, .getfield 22, 3, .invokeinterface 8 1), (71, .if_icmp .ge 37, 3, .if_icmp .ge (.ofNat 56)), (74, .iload_n 2, 1, .iload 2), (75, .bipush 12, 2, .iconst 12), (77, .if_icmp .ge 31, 3, .if_icmp .ge (.ofNat 56)), (80, .aload_n 0, 1, .aload 0), (81, .getfield 9, 3, .invokeinterface 10 0), (84, .aload_n 0, 1, .aload 0), (85, .getfield 18, 3, .invokeinterface 10 2), (88, .bipush 12, 2, .iconst 12), (90, .imul, 1, .imul), (91, .iload_n 2, 1, .iload 2), (92, .iadd, 1, .iadd), (93, .aload_n 1, 1, .aload 1), (94, .iload_n 2, 1, .iload 2), (95, .invokevirtual 27, 3, .invokevirtual 171), (98, .invokestatic 35, 3, .invokestatic 225), (101, .iastore, 1, .iastore), (102, .iinc 2 1, 3, .iinc 2 1), (105, .goto (-39), 3, .jsr_w 34), (108, .aload_n 0, 1, .aload 0), (109, .getfield 15, 3, .invokeinterface 10 1), (112, .aload_n 0, 1, .aload 0), (113, .getfield 18, 3, .invokeinterface 10 2), (116, .aload_n 1, 1, .aload 1), (117, .getfield 22, 3, .invokeinterface 8 1), (120, .iastore, 1, .iastore), (121, .aload_n 0, 1, .aload 0), (122, .dup, 1, .dup), (123, .getfield 18, 3, .invokeinterface 10 2), (126, .iconst 1, 1, .iconst 1), (127, .iadd, 1, .iadd), (128, .putfield 18, 3, .multianewarray 10 2), (131, .iconst 1, 1, .iconst 1), (132, .ireturn, 1, .areturn)]
def kB182 : x_R := [(0, .iload_n 1, 1, .iload 1), (1, .ifCond .lt 20, 3, .ifCond .lt (.ofNat 11)), (4, .iload_n 1, 1, .iload 1), (5, .aload_n 0, 1, .aload 0), (6, .getfield 18, 3, .invokeinterface 10 2), (9, .if_icmp .ge 12, 3, .if_icmp .ge (.ofNat 11)), (12, .aload_n 0, 1, .aload 0), (13, .getfield 15, 3, .invokeinterface 10 1), (16, .iload_n 1, 1, .iload 1), (17, .iaload, 1, .iaload), (18, .goto 4, 3, .goto 12), (21, .iconst 0, 1, .iconst 0), (22, .ireturn, 1, .ireturn)]
def kB183 : x_R := [(0, .iload_n 1, 1, .iload 1), (1, .bipush 12, 2, .iconst 12), (3, .imul, 1, .imul), (4, .iload_n 2, 1, .iload 2), (5, .iadd, 1, .iadd), (6, .istore_n 3, 1, .istore 3), (7, .iload_n 3, 1, .iload 3), (8, .ifCond .lt 21, 3, .ifCond .lt (.ofNat 18)), (11, .iload_n 3, 1, .iload 3), (12, .aload_n 0, 1, .aload 0), (13, .getfield 9, 3, .invokeinterface 10 0), (16, .arraylength, 1, .arraylength), (17, .if_icmp .ge 12, 3, .if_icmp .ge (.ofNat 18)), (20, .aload_n 0, 1, .aload 0), (21, .getfield 9, 3, .invokeinterface 10 0), (24, .iload_n 3, 1, .iload 3), (25, .iaload, 1, .iaload), (26, .goto 5, 3, .goto 19), (29, .bipush 29, 2, .iconst 29), (31, .ireturn, 1, .ireturn)]
def kB184 : x_R := [(0, .aload_n 1, 1, .aload 1), (1, .getfield 9, 3, .invokeinterface 10 0), (4, .iconst 0, 1, .iconst 0), (5, .aload_n 0, 1, .aload 0), (6, .getfield 9, 3, .invokeinterface 10 0), (9, .iconst 0, 1, .iconst 0), (10, .sipush 240, 3, .iconst 240), (13, .invokestatic 38, 3, .invokedynamic 2), (16, .aload_n 1, 1, .aload 1), (17, .getfield 15, 3, .invokeinterface 10 1), (20, .iconst 0, 1, .iconst 0), (21, .aload_n 0, 1, .aload 0), (22, .getfield 15, 3, .invokeinterface 10 1), (25, .iconst 0, 1, .iconst 0), (26, .bipush 20, 2, .iconst 20), (28, .invokestatic 38, 3, .invokedynamic 2), (31, .aload_n 0, 1, .aload 0), (32, .aload_n 1, 1, .aload 1), (33, .getfield 18, 3, .invokeinterface 10 2), (36, .putfield 18, 3, .multianewarray 10 2), (39, .return_, 1, .return_)]
def kB185 : x_R := [(0, .aload_n 0, 1, .aload 0), (1, .invokespecial 1, 3, .pop), (4, .aload_n 0, 1, .aload 0), (5, .new 7, 3, .new 3), (8, .dup, 1, .dup), (9, .invokespecial 9, 3, .invokespecial 97), (12, .putfield 10, 3, .multianewarray 11 2000), (15, .aload_n 0, 1, .aload 0), (16, .new 7, 3, .new 3), (19, .dup, 1, .dup), (20, .invokespecial 9, 3, .invokespecial 97), (23, .putfield 16, 3, .multianewarray 11 2001), (26, .aload_n 0, 1, .aload 0), (27, .new 19, 3, .new 8), (30, .dup, 1, .dup), (31, .sipush 400, 3, .iconst 400), (34, .invokespecial 21, 3, .invokespecial 169), (37, .putfield 24, 3, .multianewarray 11 2003), (40, .aload_n 0, 1, .aload 0), (41, .new 28, 3, .new 5), (44, .dup, 1, .dup), (45, .aload_n 0, 1, .aload 0), (46, .getfield 24, 3, .invokeinterface 11 3), (49, .invokespecial 30, 3, .invokespecial 122), (52, .putfield 33, 3, .multianewarray 11 2004), (55, .aload_n 0, 1, .aload 0), (56, .new 37, 3, .new 9), (59, .dup, 1, .dup), (60, .invokespecial 39, 3, .invokespecial 176), (63, .putfield 40, 3, .multianewarray 11 2005), (66, .aload_n 0, 1, .aload 0), (67, .new 44, 3, .new 6), (70, .dup, 1, .dup), (71, .aload_n 0, 1, .aload 0), (72, .getfield 10, 3, .invokeinterface 11 0), (75, .invokespecial 46, 3, .invokespecial 138), (78, .putfield 49, 3, .multianewarray 11 2006), (81, .aload_n 0, 1, .aload 0), (82, .new 53, 3, .new 7), (85, .dup, 1, .dup), (86, .aload_n 0, 1, .aload 0), (87, .getfield 10, 3, .invokeinterface 11 0), (90, .aload_n 0, 1, .aload 0), (91, .getfield 49, 3, .invokeinterface 11 6), (94, .invokespecial 55, 3, .invokespecial 159), (97, .putfield 58, 3, .multianewarray 11 2007), (100, .aload_n 0, 1, .aload 0), (101, .new 62, 3, .new 2), (104, .dup, 1, .dup), (105, .aload_n 0, 1, .aload 0), (106, .getfield 10, 3, .invokeinterface 11 0), (109, .aload_n 0, 1, .aload 0), (110, .getfield 49, 3, .invokeinterface 11 6), (113, .invokespecial 64, 3, .invokespecial 93), (116, .putfield 65, 3, .multianewarray 11 2008), (119, .aload_n 0, 1, .aload 0), (120, .new 69, 3, .new 1), (123, .dup, 1, .dup), (124, .aload_n 0, 1, .aload 0), (125, .getfield 10, 3, .invokeinterface 11 0), (128, .aload_n 0, 1, .aload 0), (129, .getfield 49, 3, .invokeinterface 11 6), (132, .invokespecial 71, 3, .invokespecial 88), (135, .putfield 72, 3, .multianewarray 11 2009), (138, .return_, 1, .return_)]
def kB186 : x_R := [(0, .aload_n 0, 1, .aload 0), (1, .getfield 10, 3, .invokeinterface 11 0), (4, .getfield 76, 3, .invokeinterface 3 17), (7, .istore_n 2, 1, .istore 2), (8, .aload_n 0, 1, .aload 0), (9, .getfield 10, 3, .invokeinterface 11 0), (12, .iload_n 1, 1, .iload 1), (13, .putfield 76, 3, .multianewarray 3 17), (16, .aload_n 0, 1, .aload 0), (17, .getfield 40, 3, .invokeinterface 11 5), (20, .iconst 0, 1, .iconst 0), (21, .putfield 80, 3, .multianewarray 9 5), (24, .iload_n 2, 1, .iload 2), (25, .ireturn, 1, .ireturn)]
def kB187 : x_R := [(0, .aload_n 0, 1, .aload 0), (1, .getfield 10, 3, .invokeinterface 11 0), (4, .getfield 83, 3, .invokeinterface 3 0), (7, .bipush 8, 2, .iconst 8), (9, .if_icmp .ge 21, 3, .if_icmp .ge (.ofNat 13)), (12, .iload_n 1, 1, .iload 1), (13, .ldc 86, 2, .iconst 99999), (15, .invokestatic 87, 3, .invokestatic 218), (18, .ifCond .eq 12, 3, .ifCond .eq (.ofNat 13)), (21, .iload_n 2, 1, .iload 2), (22, .bipush 99, 2, .iconst 99), (24, .invokestatic 87, 3, .invokestatic 218), (27, .ifCond .ne 5, 3, .ifCond .ne (.ofNat 15)), (30, .iconst (-1), 1, .iconst (-1)), (31, .ireturn, 1, .ireturn), (32, .aload_n 0, 1, .aload 0), (33, .getfield 10, 3, .invokeinterface 11 0), (36, .getfield 83, 3, .invokeinterface 3 0), (39, .istore_n 3, 1, .istore 3), (40, .aload_n 0, 1, .aload 0), (41, .getfield 10, 3, .invokeinterface 11 0), (44, .getfield 91, 3, .invokeinterface 3 1), (47, .iload_n 3, 1, .iload 3), (48, .iload_n 1, 1, .iload 1), (49, .iastore, 1, .iastore), (50, .aload_n 0, 1, .aload 0), (51, .getfield 10, 3, .invokeinterface 11 0), (54, .getfield 95, 3, .invokeinterface 3 2), (57, .iload_n 3, 1, .iload 3), (58, .iload_n 2, 1, .iload 2), (59, .iastore, 1, .iastore), (60, .aload_n 0, 1, .aload 0), (61, .getfield 10, 3, .invokeinterface 11 0), (64, .getfield 98, 3, .invokeinterface 3 3), (67, .iload_n 3, 1, .iload 3), (68, .iconst 0, 1, .iconst 0), (69, .iastore, 1, .iastore), (70, .aload_n 0, 1, .aload 0), (71, .getfield 10, 3, .invokeinterface 11 0), (74, .getfield 101, 3, .invokeinterface 3 4), (77, .iload_n 3, 1, .iload 3), (78, .iconst 0, 1, .iconst 0), (79, .iastore, 1, .iastore), (80, .aload_n 0, 1, .aload 0), (81, .getfield 10, 3, .invokeinterface 11 0), (84, .getfield 104, 3, .invokeinterface 3 5), (87, .iload_n 3, 1, .iload 3), (88, .iconst (-1), 1, .iconst (-1)), (89, .iastore, 1, .iastore), (90, .aload_n 0, 1, .aload 0), (91, .getfield 10, 3, .invokeinterface 11 0), (94, .dup, 1, .dup), (95, .getfield 83, 3, .invokeinterface 3 0), (98, .iconst 1, 1, .iconst 1), (99, .iadd, 1, .iadd), (100, .putfield 83, 3, .multianewarray 3 0), (103, .aload_n 0, 1, .aload 0), (104, .invokevirtual 107, 3, .invokevirtual 213), (107, .iload_n 3, 1, .iload 3), (108, .ireturn, 1, .ireturn)]
def kB188 : x_R := [(0, .iload_n 1, 1, .iload 1), (1, .invokestatic 110, 3, .invokestatic 219), (4, .ifCond .eq 19, 3, .ifCond .eq (.ofNat 11)), (7, .iload_n 2, 1, .iload 2), (8, .iconst (-1), 1, .iconst (-1)), (9, .if_icmp .eq 16, 3, .if_icmp .eq (.ofNat 13)), (12, .aload_n 0, 1, .aload 0), (13, .getfield 10, 3, .invokeinterface 11 0), (16, .iload_n 2, 1, .iload 2), (17, .invokevirtual 114, 3, .invokevirtual 98), (20, .ifCond .ne 5, 3, .ifCond .ne (.ofNat 13)), (23, .iconst 0, 1, .iconst 0), (24, .ireturn, 1, .areturn), (25, .aload_n 0, 1, .aload 0), (26, .getfield 10, 3, .invokeinterface 11 0), (29, .getfield 117, 3, .invokeinterface 3 6), (32, .iload_n 1, 1, .iload 1), (33, .iload_n 2, 1, .iload 2), (34, .iastore, 1, .iastore), (35, .aload_n 0, 1, .aload 0), (36, .invokevirtual 107, 3, .invokevirtual 213), (39, .iconst 1, 1, .iconst 1), (40, .ireturn, 1, .areturn)]
def kB189 : x_R := [(0, .iload_n 1, 1, .iload 1), (1, .ifCond .eq 29, 3, .ifCond .eq (.ofNat 14)), (4, .iload_n 1, 1, .iload 1), (5, .iconst 1, 1, .iconst 1), (6, .if_icmp .ne 13, 3, .if_icmp .ne (.ofNat 9)), (9, .iload_n 2, 1, .iload 2), (10, .invokestatic 110, 3, .invokestatic 219), (13, .ifCond .eq 21, 3, .ifCond .eq (.ofNat 16)), (16, .goto 14, 3, .goto 14), (19, .aload_n 0, 1, .aload 0), (20, .getfield 10, 3, .invokeinterface 11 0), (23, .iload_n 2, 1, .iload 2), (24, .invokevirtual 114, 3, .invokevirtual 98), (27, .ifCond .eq 7, 3, .ifCond .eq (.ofNat 16)), (30, .iconst 1, 1, .iconst 1), (31, .goto 4, 3, .goto 17), (34, .iconst 0, 1, .iconst 0), (35, .istore 4, 2, .istore 4), (37, .iload 4, 2, .iload 4), (39, .ifCond .eq 16, 3, .ifCond .eq (.ofNat 27)), (42, .aload_n 0, 1, .aload 0), (43, .getfield 10, 3, .invokeinterface 11 0), (46, .iload_n 1, 1, .iload 1), (47, .iload_n 2, 1, .iload 2), (48, .iload_n 3, 1, .iload 3), (49, .invokevirtual 120, 3, .invokevirtual 99), (52, .ifCond .ne 5, 3, .ifCond .ne (.ofNat 29)), (55, .iconst 0, 1, .iconst 0), (56, .ireturn, 1, .areturn), (57, .iload_n 1, 1, .iload 1), (58, .iconst 5, 1, .iconst 5), (59, .if_icmp .eq 7, 3, .if_icmp .eq (.ofNat 34)), (62, .aload_n 0, 1, .aload 0), (63, .invokevirtual 107, 3, .invokevirtual 213), (66, .iconst 1, 1, .iconst 1), (67, .ireturn, 1, .areturn)]
def kB190 : x_R := [(0, .aload_n 0, 1, .aload 0), (1, .getfield 24, 3, .invokeinterface 11 3), (4, .getfield 124, 3, .invokeinterface 8 1), (7, .bipush 20, 2, .iconst 20), (9, .iadd, 1, .iadd), (10, .sipush 400, 3, .iconst 400), (13, .if_icmp .le 5, 3, .if_icmp .le (.ofNat 9)), (16, .iconst (-1), 1, .iconst (-1)), (17, .ireturn, 1, .ireturn), (18, .aload_n 0, 1, .aload 0), (19, .iload_n 1, 1, .iload 1), (20, .invokevirtual 127, 3, .invokevirtual 217), (23, .aload_n 0, 1, .aload 0), (24, .iload_n 2, 1, .iload 2), (25, .invokevirtual 127, 3, .invokevirtual 217), (28, .aload_n 0, 1, .aload 0), (29, .iload_n 3, 1, .iload 3), (30, .invokevirtual 127, 3, .invokevirtual 217), (33, .aload_n 0, 1, .aload 0), (34, .iload 4, 2, .iload 4), (36, .invokevirtual 127, 3, .invokevirtual 217), (39, .aload_n 0, 1, .aload 0), (40, .iload 5, 2, .iload 5), (42, .invokevirtual 127, 3, .invokevirtual 217), (45, .aload_n 0, 1, .aload 0), (46, .getfield 24, 3, .invokeinterface 11 3), (49, .getfield 124, 3, .invokeinterface 8 1), (52, .ireturn, 1, .ireturn)]
def kB191 : x_R := [(0, .iload_n 1, 1, .iload 1), (1, .ifCond .lt 14, 3, .ifCond .lt (.ofNat 7)), (4, .iload_n 1, 1, .iload 1), (5, .aload_n 0, 1, .aload 0), (6, .getfield 24, 3, .invokeinterface 11 3), (9, .getfield 124, 3, .invokeinterface 8 1), (12, .if_icmp .le 5, 3, .if_icmp .le (.ofNat 9)), (15, .iconst 0, 1, .iconst 0), (16, .ireturn, 1, .areturn), (17, .aload_n 0, 1, .aload 0), (18, .getfield 24, 3, .invokeinterface 11 3), (21, .iload_n 1, 1, .iload 1), (22, .putfield 124, 3, .multianewarray 8 1), (25, .iconst 1, 1, .iconst 1), (26, .ireturn, 1, .areturn)]
def kB192 : x_R := [(0, .aload_n 0, 1, .aload 0), (1, .getfield 33, 3, .invokeinterface 11 4), (4, .invokevirtual 130, 3, .invokevirtual 123), (7, .istore_n 1, 1, .istore 1), (8, .aload_n 0, 1, .aload 0), (9, .getfield 24, 3, .invokeinterface 11 3), (12, .iconst 0, 1, .iconst 0), (13, .putfield 124, 3, .multianewarray 8 1), (16, .iload_n 1, 1, .iload 1), (17, .ifCond .ne 5, 3, .ifCond .ne (.ofNat 12)), (20, .iconst (-1), 1, .iconst (-1)), (21, .ireturn, 1, .ireturn), (22, .aload_n 0, 1, .aload 0), (23, .getfield 10, 3, .invokeinterface 11 0), (26, .getfield 134, 3, .invokeinterface 3 11), (29, .aload_n 0, 1, .aload 0), (30, .getfield 33, 3, .invokeinterface 11 4), (33, .getfield 138, 3, .invokeinterface 5 0), (36, .invokevirtual 141, 3, .invokevirtual 116), (39, .aload_n 0, 1, .aload 0), (40, .invokevirtual 147, 3, .invokevirtual 214), (43, .aload_n 0, 1, .aload 0), (44, .getfield 10, 3, .invokeinterface 11 0), (47, .getfield 134, 3, .invokeinterface 3 11), (50, .getfield 150, 3, .invokeinterface 4 4), (53, .ireturn, 1, .ireturn)]
def kB193 : x_R := [(0, .iload_n 1, 1, .iload 1), (1, .ifCond .ne 11, 3, .ifCond .ne (.ofNat 6)), (4, .aload_n 0, 1, .aload 0), (5, .getfield 33, 3, .invokeinterface 11 4), (8, .getfield 153, 3, .invokeinterface 5 1), (11, .ireturn, 1, .ireturn), (12, .iload_n 1, 1, .iload 1), (13, .iconst 1, 1, .iconst 1), (14, .if_icmp .ne 13, 3, .if_icmp .ne (.ofNat 13)), (17, .aload_n 0, 1, .aload 0), (18, .getfield 33, 3, .invokeinterface 11 4), (21, .getfield 156, 3, .invokeinterface 5 2), (24, .goto 4, 3, .goto 14), (27, .iconst (-1), 1, .iconst (-1)), (28, .ireturn, 1, .ireturn)]
def kB194 : x_R := [(0, .aload_n 0, 1, .aload 0), (1, .invokevirtual 159, 3, .invokevirtual 216), (4, .istore_n 1, 1, .istore 1), (5, .iload_n 1, 1, .iload 1), (6, .iconst (-1), 1, .iconst (-1)), (7, .if_icmp .ne 58, 3, .if_icmp .ne (.ofNat 31)), (10, .aload_n 0, 1, .aload 0), (11, .getfield 10, 3, .invokeinterface 11 0), (14, .getfield 163, 3, .invokeinterface 3 9), (17, .iconst 0, 1, .iconst 0), (18, .putfield 124, 3, .multianewarray 8 1), (21, .iconst 0, 1, .iconst 0), (22, .istore_n 2, 1, .istore 2), (23, .iload_n 2, 1, .iload 2), (24, .aload_n 0, 1, .aload 0), (25, .getfield 24, 3, .invokeinterface 11 3), (28, .getfield 124, 3, .invokeinterface 8 1), (31, .if_icmp .ge 30, 3, .if_icmp .ge (.ofNat 29)), (34, .aload_n 0, 1, .aload 0), (35, .getfield 10, 3, .invokeinterface 11 0), (38, .getfield 163, 3, .invokeinterface 3 9), (41, .aload_n 0, 1, .aload 0), (42, .getfield 24, 3, .invokeinterface 11 3), (45, .iload_n 2, 1, .iload 2), (46, .invokevirtual 166, 3, .invokevirtual 171), (49, .invokestatic 170, 3, .invokestatic 225), (52, .invokevirtual 173, 3, .invokevirtual 173), (55, .iinc 2 1, 3, .iinc 2 1), (58, .goto (-35), 3, .jsr_w 13), (61, .aload_n 0, 1, .aload 0), (62, .invokevirtual 176, 3, .invokevirtual 215), (65, .aload_n 0, 1, .aload 0), (66, .getfield 24, 3, .invokeinterface 11 3), (69, .iconst 0, 1, .iconst 0), (70, .putfield 124, 3, .multianewarray 8 1), (73, .iload_n 1, 1, .iload 1), (74, .iconst (-1), 1, .iconst (-1)), (75, .if_icmp .ne 16, 3, .if_icmp .ne (.ofNat 43)), (78, .aload_n 0, 1, .aload 0), (79, .getfield 10, 3, .invokeinterface 11 0), (82, .getfield 163, 3, .invokeinterface 3 9), (85, .getfield 124, 3, .invokeinterface 8 1), (88, .goto 6, 3, .goto 46), (91, .iconst (-1), 1, .iconst (-1)), (92, .iload_n 1, 1, .iload 1), (93, .isub, 1, .isub), (94, .ireturn, 1, .ireturn)]
def kB195 : x_R := [(0, .aload_n 0, 1, .aload 0), (1, .getfield 10, 3, .invokeinterface 11 0), (4, .getfield 179, 3, .invokeinterface 3 10), (7, .aload_n 0, 1, .aload 0), (8, .getfield 24, 3, .invokeinterface 11 3), (11, .invokevirtual 183, 3, .invokevirtual 181), (14, .istore_n 1, 1, .istore 1), (15, .aload_n 0, 1, .aload 0), (16, .getfield 24, 3, .invokeinterface 11 3), (19, .iconst 0, 1, .iconst 0), (20, .putfield 124, 3, .multianewarray 8 1), (23, .aload_n 0, 1, .aload 0), (24, .invokevirtual 176, 3, .invokevirtual 215), (27, .iload_n 1, 1, .iload 1), (28, .ifCond .eq 18, 3, .ifCond .eq (.ofNat 22)), (31, .aload_n 0, 1, .aload 0), (32, .getfield 10, 3, .invokeinterface 11 0), (35, .getfield 179, 3, .invokeinterface 3 10), (38, .getfield 188, 3, .invokeinterface 10 2), (41, .iconst 1, 1, .iconst 1), (42, .isub, 1, .isub), (43, .goto 4, 3, .goto 23), (46, .iconst (-1), 1, .iconst (-1)), (47, .ireturn, 1, .ireturn)]
def kB196 : x_R := [(0, .aload_n 0, 1, .aload 0), (1, .getfield 10, 3, .invokeinterface 11 0), (4, .getfield 179, 3, .invokeinterface 3 10), (7, .getfield 188, 3, .invokeinterface 10 2), (10, .istore_n 1, 1, .istore 1), (11, .aload_n 0, 1, .aload 0), (12, .getfield 10, 3, .invokeinterface 11 0), (15, .getfield 179, 3, .invokeinterface 3 10), (18, .iconst 0, 1, .iconst 0), (19, .putfield 188, 3, .multianewarray 10 2), (22, .aload_n 0, 1, .aload 0), (23, .invokevirtual 176, 3, .invokevirtual 215), (26, .iload_n 1, 1, .iload 1), (27, .ireturn, 1, .ireturn)]
def kB197 : x_R := [(0, .aload_n 0, 1, .aload 0), (1, .getfield 40, 3, .invokeinterface 11 5), (4, .aload_n 0, 1, .aload 0), (5, .getfield 10, 3, .invokeinterface 11 0), (8, .invokevirtual 189, 3, .invokevirtual 177), (11, .aload_n 0, 1, .aload 0), (12, .getfield 49, 3, .invokeinterface 11 6), (15, .invokevirtual 192, 3, .invokevirtual 156), (18, .ireturn, 1, .ireturn)]
def kB198 : x_R := [(0, .aload_n 0, 1, .aload 0), (1, .getfield 10, 3, .invokeinterface 11 0), (4, .getfield 195, 3, .invokeinterface 3 15), (7, .sipush 9999, 3, .iconst 9999), (10, .if_icmp .lt 5, 3, .if_icmp .lt (.ofNat 7)), (13, .iconst (-1), 1, .iconst (-1)), (14, .ireturn, 1, .ireturn), (15, .aload_n 0, 1, .aload 0), (16, .getfield 10, 3, .invokeinterface 11 0), (19, .invokevirtual 198, 3, .invokevirtual 107), (22, .istore_n 1, 1, .istore 1), (23, .aload_n 0, 1, .aload 0), (24, .getfield 10, 3, .invokeinterface 11 0), (27, .dup, 1, .dup), (28, .getfield 195, 3, .invokeinterface 3 15), (31, .iconst 1, 1, .iconst 1), (32, .iadd, 1, .iadd), (33, .putfield 195, 3, .multianewarray 3 15), (36, .aload_n 0, 1, .aload 0), (37, .invokevirtual 107, 3, .invokevirtual 213), (40, .iload_n 1, 1, .iload 1), (41, .ireturn, 1, .ireturn)]
def kB199 : x_R := [(0, .aload_n 0, 1, .aload 0), (1, .getfield 10, 3, .invokeinterface 11 0), (4, .iload_n 1, 1, .iload 1), (5, .invokevirtual 114, 3, .invokevirtual 98), (8, .ifCond .ne 6, 3, .ifCond .ne (.ofNat 7)), (11, .bipush (-2), 2, .iconst (-2)), (13, .ireturn, 1, .ireturn), (14, .iload_n 2, 1, .iload 2), (15, .tableswitch 109 0 6 #[41, 51, 61, 71, 81, 90, 100], 41, .tableswitch 49 0 6 #[9, 15, 21, 27, 33, 38, 44]), (56, .aload_n 0, 1, .aload 0), (57, .getfield 10, 3, .invokeinterface 11 0), (60, .getfield 91, 3, .invokeinterface 3 1), (63, .iload_n 1, 1, .iload 1), (64, .iaload, 1, .iaload), (65, .ireturn, 1, .ireturn), (66, .aload_n 0, 1, .aload 0), (67, .getfield 10, 3, .invokeinterface 11 0), (70, .getfield 95, 3, .invokeinterface 3 2), (73, .iload_n 1, 1, .iload 1), (74, .iaload, 1, .iaload), (75, .ireturn, 1, .ireturn), (76, .aload_n 0, 1, .aload 0), (77, .getfield 10, 3, .invokeinterface 11 0), (80, .getfield 98, 3, .invokeinterface 3 3), (83, .iload_n 1, 1, .iload 1), (84, .iaload, 1, .iaload), (85, .ireturn, 1, .ireturn), (86, .aload_n 0, 1, .aload 0), (87, .getfield 10, 3, .invokeinterface 11 0), (90, .getfield 101, 3, .invokeinterface 3 4), (93, .iload_n 1, 1, .iload 1), (94, .iaload, 1, .iaload), (95, .ireturn, 1, .ireturn), (96, .aload_n 0, 1, .aload 0), (97, .getfield 10, 3, .invokeinterface 11 0), (100, .iload_n 1, 1, .iload 1), (101, .invokevirtual 201, 3, .invokevirtual 103), (104, .ireturn, 1, .ireturn), (105, .aload_n 0, 1, .aload 0), (106, .getfield 10, 3, .invokeinterface 11 0), (109, .getfield 104, 3, .invokeinterface 3 5), (112, .iload_n 1, 1, .iload 1), (113, .iaload, 1, .iaload), (114, .ireturn, 1, .ireturn), (115, .aload_n 0, 1, .aload 0), (116, .getfield 49, 3, .invokeinterface 11 6), (119, .iload_n 1, 1, .iload 1), (120, .invokevirtual 204, 3, .invokevirtual 151), (123, .ireturn, 1, .ireturn), (124, .bipush (-2), 2, .iconst (-2)), (126, .ireturn, 1, .ireturn)]
def kB200 : x_R := [(0, .iload_n 1, 1, .iload 1), (1, .invokestatic 110, 3, .invokestatic 219), (4, .ifCond .ne 6, 3, .ifCond .ne (.ofNat 5)), (7, .bipush (-2), 2, .iconst (-2)), (9, .ireturn, 1, .ireturn), (10, .iload_n 2, 1, .iload 2), (11, .tableswitch 55 0 2 #[25, 35, 45], 25, .tableswitch 25 0 2 #[7, 13, 19]), (36, .aload_n 0, 1, .aload 0), (37, .getfield 10, 3, .invokeinterface 11 0), (40, .getfield 117, 3, .invokeinterface 3 6), (43, .iload_n 1, 1, .iload 1), (44, .iaload, 1, .iaload), (45, .ireturn, 1, .ireturn), (46, .aload_n 0, 1, .aload 0), (47, .getfield 10, 3, .invokeinterface 11 0), (50, .getfield 207, 3, .invokeinterface 3 7), (53, .iload_n 1, 1, .iload 1), (54, .iaload, 1, .iaload), (55, .ireturn, 1, .ireturn), (56, .aload_n 0, 1, .aload 0), (57, .getfield 10, 3, .invokeinterface 11 0), (60, .getfield 210, 3, .invokeinterface 3 8), (63, .iload_n 1, 1, .iload 1), (64, .iaload, 1, .iaload), (65, .ireturn, 1, .ireturn), (66, .bipush (-2), 2, .iconst (-2)), (68, .ireturn, 1, .ireturn)]
def kB201 : x_R := [(0, .aload_n 0, 1, .aload 0), (1, .getfield 10, 3, .invokeinterface 11 0), (4, .getfield 163, 3, .invokeinterface 3 9), (7, .iload_n 1, 1, .iload 1), (8, .invokevirtual 213, 3, .invokevirtual 170), (11, .ifCond .eq 17, 3, .ifCond .eq (.ofNat 12)), (14, .aload_n 0, 1, .aload 0), (15, .getfield 10, 3, .invokeinterface 11 0), (18, .getfield 163, 3, .invokeinterface 3 9), (21, .iload_n 1, 1, .iload 1), (22, .invokevirtual 166, 3, .invokevirtual 171), (25, .goto 4, 3, .goto 13), (28, .iconst (-1), 1, .iconst (-1)), (29, .ireturn, 1, .ireturn)]
def kB202 : x_R := [(0, .aload_n 0, 1, .aload 0), (1, .getfield 10, 3, .invokeinterface 11 0), (4, .getfield 163, 3, .invokeinterface 3 9), (7, .iload_n 1, 1, .iload 1), (8, .invokevirtual 213, 3, .invokevirtual 170), (11, .ifCond .eq 20, 3, .ifCond .eq (.ofNat 13)), (14, .aload_n 0, 1, .aload 0), (15, .getfield 10, 3, .invokeinterface 11 0), (18, .getfield 163, 3, .invokeinterface 3 9), (21, .iload_n 1, 1, .iload 1), (22, .invokevirtual 166, 3, .invokevirtual 171), (25, .invokestatic 110, 3, .invokestatic 219), (28, .ifCond .ne 5, 3, .ifCond .ne (.ofNat 15)), (31, .iconst (-1), 1, .iconst (-1)), (32, .ireturn, 1, .ireturn), (33, .aload_n 0, 1, .aload 0), (34, .getfield 49, 3, .invokeinterface 11 6), (37, .invokevirtual 214, 3, .invokevirtual 140), (40, .aload_n 0, 1, .aload 0), (41, .getfield 49, 3, .invokeinterface 11 6), (44, .aload_n 0, 1, .aload 0), (45, .getfield 10, 3, .invokeinterface 11 0), (48, .getfield 163, 3, .invokeinterface 3 9), (51, .iconst 0, 1, .iconst 0), (52, .invokevirtual 217, 3, .invokevirtual 143), (55, .aload_n 0, 1, .aload 0), (56, .getfield 49, 3, .invokeinterface 11 6), (59, .aload_n 0, 1, .aload 0), (60, .getfield 10, 3, .invokeinterface 11 0), (63, .getfield 163, 3, .invokeinterface 3 9), (66, .iload_n 1, 1, .iload 1), (67, .invokevirtual 221, 3, .invokevirtual 144), (70, .ireturn, 1, .ireturn)]
def kB203 : x_R := [(0, .iload_n 1, 1, .iload 1), (1, .ifCond .lt 23, 3, .ifCond .lt (.ofNat 12)), (4, .iload_n 1, 1, .iload 1), (5, .aload_n 0, 1, .aload 0), (6, .getfield 10, 3, .invokeinterface 11 0), (9, .getfield 225, 3, .invokeinterface 3 13), (12, .if_icmp .ge 12, 3, .if_icmp .ge (.ofNat 12)), (15, .iload_n 2, 1, .iload 2), (16, .ifCond .lt 8, 3, .ifCond .lt (.ofNat 12)), (19, .iload_n 2, 1, .iload 2), (20, .iconst 5, 1, .iconst 5), (21, .if_icmp .lt 5, 3, .if_icmp .lt (.ofNat 14)), (24, .iconst (-1), 1, .iconst (-1)), (25, .ireturn, 1, .ireturn), (26, .aload_n 0, 1, .aload 0), (27, .getfield 10, 3, .invokeinterface 11 0), (30, .getfield 228, 3, .invokeinterface 3 12), (33, .iload_n 1, 1, .iload 1), (34, .iconst 5, 1, .iconst 5), (35, .imul, 1, .imul), (36, .iload_n 2, 1, .iload 2), (37, .iadd, 1, .iadd), (38, .iaload, 1, .iaload), (39, .ireturn, 1, .ireturn)]
def kB204 : x_R := [(0, .iload_n 1, 1, .iload 1), (1, .ifCond .lt 8, 3, .ifCond .lt (.ofNat 5)), (4, .iload_n 1, 1, .iload 1), (5, .iconst 4, 1, .iconst 4), (6, .if_icmp .le 5, 3, .if_icmp .le (.ofNat 7)), (9, .iconst (-1), 1, .iconst (-1)), (10, .ireturn, 1, .ireturn), (11, .aload_n 0, 1, .aload 0), (12, .getfield 58, 3, .invokeinterface 11 7), (15, .getfield 231, 3, .invokeinterface 7 0), (18, .ifCond .ne 10, 3, .ifCond .ne (.ofNat 14)), (21, .aload_n 0, 1, .aload 0), (22, .getfield 58, 3, .invokeinterface 11 7), (25, .invokevirtual 235, 3, .invokevirtual 160), (28, .aload_n 0, 1, .aload 0), (29, .getfield 58, 3, .invokeinterface 11 7), (32, .getfield 238, 3, .invokeinterface 7 1), (35, .iload_n 1, 1, .iload 1), (36, .iaload, 1, .iaload), (37, .ireturn, 1, .ireturn)]
def kB205 : x_R := [(0, .aload_n 0, 1, .aload 0), (1, .getfield 10, 3, .invokeinterface 11 0), (4, .iload_n 1, 1, .iload 1), (5, .invokevirtual 114, 3, .invokevirtual 98), (8, .ifCond .eq 25, 3, .ifCond .eq (.ofNat 15)), (11, .aload_n 0, 1, .aload 0), (12, .getfield 10, 3, .invokeinterface 11 0), (15, .getfield 179, 3, .invokeinterface 3 10), (18, .getfield 188, 3, .invokeinterface 10 2), (21, .ifCond .eq 12, 3, .ifCond .eq (.ofNat 15)), (24, .iload_n 2, 1, .iload 2), (25, .ifCond .lt 8, 3, .ifCond .lt (.ofNat 15)), (28, .iload_n 2, 1, .iload 2), (29, .iconst 3, 1, .iconst 3), (30, .if_icmp .le 5, 3, .if_icmp .le (.ofNat 17)), (33, .iconst (-1), 1, .iconst (-1)), (34, .ireturn, 1, .ireturn), (35, .aload_n 0, 1, .aload 0), (36, .getfield 65, 3, .invokeinterface 11 8), (39, .getfield 241, 3, .invokeinterface 2 0), (42, .iload_n 1, 1, .iload 1), (43, .if_icmp .eq 11, 3, .if_icmp .eq (.ofNat 26)), (46, .aload_n 0, 1, .aload 0), (47, .getfield 65, 3, .invokeinterface 11 8), (50, .iload_n 1, 1, .iload 1), (51, .invokevirtual 244, 3, .invokevirtual 94), (54, .aload_n 0, 1, .aload 0), (55, .getfield 65, 3, .invokeinterface 11 8), (58, .getfield 246, 3, .invokeinterface 2 1), (61, .iload_n 2, 1, .iload 2), (62, .iaload, 1, .iaload), (63, .ireturn, 1, .ireturn)]
def kB206 : x_R := [(0, .aload_n 0, 1, .aload 0), (1, .getfield 49, 3, .invokeinterface 11 6), (4, .invokevirtual 214, 3, .invokevirtual 140), (7, .iconst 0, 1, .iconst 0), (8, .istore_n 1, 1, .istore 1), (9, .iconst 0, 1, .iconst 0), (10, .istore_n 2, 1, .istore 2), (11, .iload_n 2, 1, .iload 2), (12, .aload_n 0, 1, .aload 0), (13, .getfield 10, 3, .invokeinterface 11 0), (16, .getfield 179, 3, .invokeinterface 3 10), (19, .getfield 188, 3, .invokeinterface 10 2), (22, .if_icmp .ge 26, 3, .if_icmp .ge (.ofNat 26)), (25, .aload_n 0, 1, .aload 0), (26, .getfield 49, 3, .invokeinterface 11 6), (29, .iload_n 2, 1, .iload 2), (30, .invokevirtual 247, 3, .invokevirtual 153), (33, .ifCond .eq 9, 3, .ifCond .eq (.ofNat 24)), (36, .iload_n 1, 1, .iload 1), (37, .iconst 1, 1, .iconst 1), (38, .iload_n 2, 1, .iload 2), (39, .ishl, 1, .ishl), (40, .ior, 1, .ior), (41, .istore_n 1, 1, .istore 1), (42, .iinc 2 1, 3, .iinc 2 1), (45, .goto (-34), 3, .jsr_w 7), (48, .iload_n 1, 1, .iload 1), (49, .ireturn, 1, .ireturn)]
def kB207 : x_R := [(0, .aload_n 0, 1, .aload 0), (1, .getfield 10, 3, .invokeinterface 11 0), (4, .iload_n 1, 1, .iload 1), (5, .invokevirtual 114, 3, .invokevirtual 98), (8, .ifCond .eq 12, 3, .ifCond .eq (.ofNat 10)), (11, .iload_n 2, 1, .iload 2), (12, .ifCond .lt 8, 3, .ifCond .lt (.ofNat 10)), (15, .iload_n 2, 1, .iload 2), (16, .iconst 1, 1, .iconst 1), (17, .if_icmp .le 6, 3, .if_icmp .le (.ofNat 12)), (20, .ldc 250, 2, .iconst (-100000)), (22, .ireturn, 1, .ireturn), (23, .aload_n 0, 1, .aload 0), (24, .getfield 10, 3, .invokeinterface 11 0), (27, .getfield 98, 3, .invokeinterface 3 3), (30, .iload_n 1, 1, .iload 1), (31, .iaload, 1, .iaload), (32, .ifCond .eq 5, 3, .ifCond .eq (.ofNat 20)), (35, .iconst 0, 1, .iconst 0), (36, .ireturn, 1, .ireturn), (37, .iload_n 2, 1, .iload 2), (38, .ifCond .ne 14, 3, .ifCond .ne (.ofNat 27)), (41, .aload_n 0, 1, .aload 0), (42, .getfield 49, 3, .invokeinterface 11 6), (45, .iload_n 1, 1, .iload 1), (46, .invokevirtual 251, 3, .invokevirtual 154), (49, .goto 11, 3, .goto 31), (52, .aload_n 0, 1, .aload 0), (53, .getfield 49, 3, .invokeinterface 11 6), (56, .iload_n 1, 1, .iload 1), (57, .invokevirtual 254, 3, .invokevirtual 155), (60, .ireturn, 1, .ireturn)]
def kB208 : x_R := [(0, .iload_n 1, 1, .iload 1), (1, .ifCond .lt 8, 3, .ifCond .lt (.ofNat 5)), (4, .iload_n 1, 1, .iload 1), (5, .iconst 2, 1, .iconst 2), (6, .if_icmp .le 5, 3, .if_icmp .le (.ofNat 7)), (9, .iconst (-1), 1, .iconst (-1)), (10, .ireturn, 1, .ireturn), (11, .aload_n 0, 1, .aload 0), (12, .getfield 72, 3, .invokeinterface 11 9), (15, .getfield 257, 3, .invokeinterface 1 0), (18, .ifCond .ne 10, 3, .ifCond .ne (.ofNat 14)), (21, .aload_n 0, 1, .aload 0), (22, .getfield 72, 3, .invokeinterface 11 9), (25, .invokevirtual 258, 3, .invokevirtual 89), (28, .aload_n 0, 1, .aload 0), (29, .getfield 72, 3, .invokeinterface 11 9), (32, .getfield 259, 3, .invokeinterface 1 1), (35, .iload_n 1, 1, .iload 1), (36, .iaload, 1, .iaload), (37, .ireturn, 1, .ireturn)]
def kB209 : x_R := [(0, .iconst 0, 1, .iconst 0), (1, .istore_n 1, 1, .istore 1), (2, .iconst 0, 1, .iconst 0), (3, .istore_n 2, 1, .istore 2), (4, .iload_n 2, 1, .iload 2), (5, .aload_n 0, 1, .aload 0), (6, .getfield 10, 3, .invokeinterface 11 0), (9, .getfield 83, 3, .invokeinterface 3 0), (12, .if_icmp .ge 48, 3, .if_icmp .ge (.ofNat 34)), (15, .aload_n 0, 1, .aload 0), (16, .getfield 10, 3, .invokeinterface 11 0), (19, .getfield 104, 3, .invokeinterface 3 5), (22, .iload_n 2, 1, .iload 2), (23, .iaload, 1, .iaload), (24, .iconst (-1), 1, .iconst (-1)), (25, .if_icmp .eq 29, 3, .if_icmp .eq (.ofNat 32)), (28, .aload_n 0, 1, .aload 0), (29, .getfield 10, 3, .invokeinterface 11 0), (32, .getfield 104, 3, .invokeinterface 3 5), (35, .iload_n 2, 1, .iload 2), (36, .iaload, 1, .iaload), (37, .aload_n 0, 1, .aload 0), (38, .getfield 10, 3, .invokeinterface 11 0), (41, .iload_n 2, 1, .iload 2), (42, .invokevirtual 260, 3, .invokevirtual 104), (45, .if_icmp .eq 9, 3, .if_icmp .eq (.ofNat 32)), (48, .iload_n 1, 1, .iload 1), (49, .iconst 1, 1, .iconst 1), (50, .iload_n 2, 1, .iload 2), (51, .ishl, 1, .ishl), (52, .ior, 1, .ior), (53, .istore_n 1, 1, .istore 1), (54, .iinc 2 1, 3, .iinc 2 1), (57, .goto (-53), 3, .jsr_w 4), (60, .iload_n 1, 1, .iload 1), (61, .ireturn, 1, .ireturn)]
def kB210 : x_R := [(0, .aload_n 0, 1, .aload 0), (1, .getfield 40, 3, .invokeinterface 11 5), (4, .aload_n 0, 1, .aload 0), (5, .getfield 10, 3, .invokeinterface 11 0), (8, .invokevirtual 263, 3, .invokevirtual 179), (11, .ireturn, 1, .areturn)]
def kB211 : x_R := [(0, .iload_n 1, 1, .iload 1), (1, .ifCond .eq 21, 3, .ifCond .eq (.ofNat 12)), (4, .aload_n 0, 1, .aload 0), (5, .getfield 16, 3, .invokeinterface 11 1), (8, .aload_n 0, 1, .aload 0), (9, .getfield 10, 3, .invokeinterface 11 0), (12, .invokevirtual 267, 3, .invokevirtual 109), (15, .aload_n 0, 1, .aload 0), (16, .iconst 1, 1, .iconst 1), (17, .putfield 269, 3, .multianewarray 11 1002), (20, .iconst 1, 1, .iconst 1), (21, .ireturn, 1, .areturn), (22, .aload_n 0, 1, .aload 0), (23, .getfield 269, 3, .invokeinterface 11 2), (26, .ifCond .ne 5, 3, .ifCond .ne (.ofNat 17)), (29, .iconst 0, 1, .iconst 0), (30, .ireturn, 1, .areturn), (31, .aload_n 0, 1, .aload 0), (32, .getfield 10, 3, .invokeinterface 11 0), (35, .aload_n 0, 1, .aload 0), (36, .getfield 16, 3, .invokeinterface 11 1), (39, .invokevirtual 267, 3, .invokevirtual 109), (42, .aload_n 0, 1, .aload 0), (43, .getfield 40, 3, .invokeinterface 11 5), (46, .iconst 0, 1, .iconst 0), (47, .putfield 80, 3, .multianewarray 9 5), (50, .aload_n 0, 1, .aload 0), (51, .invokevirtual 147, 3, .invokevirtual 214), (54, .iconst 1, 1, .iconst 1), (55, .ireturn, 1, .areturn)]
def kB212 : x_R := [(0, .iload_n 1, 1, .iload 1), (1, .tableswitch 144 0 9 #[55, 63, 74, 85, 93, 101, 109, 117, 128, 136], 55, .tableswitch 45 0 9 #[2, 6, 11, 16, 20, 24, 28, 32, 37, 41]), (56, .aload_n 0, 1, .aload 0), (57, .getfield 10, 3, .invokeinterface 11 0), (60, .getfield 83, 3, .invokeinterface 3 0), (63, .ireturn, 1, .ireturn), (64, .aload_n 0, 1, .aload 0), (65, .getfield 10, 3, .invokeinterface 11 0), (68, .getfield 163, 3, .invokeinterface 3 9), (71, .getfield 124, 3, .invokeinterface 8 1), (74, .ireturn, 1, .ireturn), (75, .aload_n 0, 1, .aload 0), (76, .getfield 10, 3, .invokeinterface 11 0), (79, .getfield 179, 3, .invokeinterface 3 10), (82, .getfield 188, 3, .invokeinterface 10 2), (85, .ireturn, 1, .ireturn), (86, .aload_n 0, 1, .aload 0), (87, .getfield 10, 3, .invokeinterface 11 0), (90, .getfield 225, 3, .invokeinterface 3 13), (93, .ireturn, 1, .ireturn), (94, .aload_n 0, 1, .aload 0), (95, .getfield 10, 3, .invokeinterface 11 0), (98, .getfield 272, 3, .invokeinterface 3 14), (101, .ireturn, 1, .ireturn), (102, .aload_n 0, 1, .aload 0), (103, .getfield 10, 3, .invokeinterface 11 0), (106, .getfield 195, 3, .invokeinterface 3 15), (109, .ireturn, 1, .ireturn), (110, .aload_n 0, 1, .aload 0), (111, .getfield 10, 3, .invokeinterface 11 0), (114, .getfield 275, 3, .invokeinterface 3 16), (117, .ireturn, 1, .ireturn), (118, .aload_n 0, 1, .aload 0), (119, .getfield 10, 3, .invokeinterface 11 0), (122, .getfield 134, 3, .invokeinterface 3 11), (125, .getfield 150, 3, .invokeinterface 4 4), (128, .ireturn, 1, .ireturn), (129, .aload_n 0, 1, .aload 0), (130, .getfield 40, 3, .invokeinterface 11 5), (133, .getfield 80, 3, .invokeinterface 9 5), (136, .ireturn, 1, .ireturn), (137, .aload_n 0, 1, .aload 0), (138, .getfield 10, 3, .invokeinterface 11 0), (141, .getfield 76, 3, .invokeinterface 3 17), (144, .ireturn, 1, .ireturn), (145, .iconst (-1), 1, .iconst (-1)), (146, .ireturn, 1, .ireturn)]
def kB213 : x_R := [(0, .aload_n 0, 1, .aload 0), (1, .getfield 40, 3, .invokeinterface 11 5), (4, .iconst 0, 1, .iconst 0), (5, .putfield 80, 3, .multianewarray 9 5), (8, .aload_n 0, 1, .aload 0), (9, .invokevirtual 176, 3, .invokevirtual 215), (12, .return_, 1, .return_)]
def kB214 : x_R := [(0, .aload_n 0, 1, .aload 0), (1, .getfield 49, 3, .invokeinterface 11 6), (4, .invokevirtual 278, 3, .invokevirtual 139), (7, .aload_n 0, 1, .aload 0), (8, .invokevirtual 176, 3, .invokevirtual 215), (11, .return_, 1, .return_)]
def kB215 : x_R := [(0, .aload_n 0, 1, .aload 0), (1, .getfield 58, 3, .invokeinterface 11 7), (4, .iconst 0, 1, .iconst 0), (5, .putfield 231, 3, .multianewarray 7 1000), (8, .aload_n 0, 1, .aload 0), (9, .getfield 65, 3, .invokeinterface 11 8), (12, .iconst (-1), 1, .iconst (-1)), (13, .putfield 241, 3, .multianewarray 2 0), (16, .aload_n 0, 1, .aload 0), (17, .getfield 72, 3, .invokeinterface 11 9), (20, .iconst 0, 1, .iconst 0), (21, .putfield 257, 3, .multianewarray 1 1000), (24, .return_, 1, .return_)]
def kB216 : x_R := [(0, .iconst 0, 1, .iconst 0), (1, .istore_n 1, 1, .istore 1), (2, .iload_n 1, 1, .iload 1), (3, .aload_n 0, 1, .aload 0), (4, .getfield 24, 3, .invokeinterface 11 3), (7, .getfield 124, 3, .invokeinterface 8 1), (10, .if_icmp .ge 32, 3, .if_icmp .ge (.ofNat 21)), (13, .iload_n 1, 1, .iload 1), (14, .bipush 60, 2, .iconst 60), (16, .if_icmp .ge 18, 3, .if_icmp .ge (.ofNat 17)), (19, .aload_n 0, 1, .aload 0), (20, .getfield 24, 3, .invokeinterface 11 3), (23, .iload_n 1, 1, .iload 1), (24, .invokevirtual 166, 3, .invokevirtual 171), (27, .invokestatic 170, 3, .invokestatic 225), (30, .iconst (-1), 1, .iconst (-1)), (31, .if_icmp .ne 5, 3, .if_icmp .ne (.ofNat 19)), (34, .iload_n 1, 1, .iload 1), (35, .ireturn, 1, .ireturn), (36, .iinc 1 1, 3, .iinc 1 1), (39, .goto (-37), 3, .jsr_w 2), (42, .iconst (-1), 1, .iconst (-1)), (43, .ireturn, 1, .ireturn)]
def kB217 : x_R := [(0, .aload_n 0, 1, .aload 0), (1, .getfield 24, 3, .invokeinterface 11 3), (4, .iload_n 1, 1, .iload 1), (5, .bipush 24, 2, .iconst 24), (7, .iushr, 1, .iushr), (8, .invokevirtual 173, 3, .invokevirtual 173), (11, .aload_n 0, 1, .aload 0), (12, .getfield 24, 3, .invokeinterface 11 3), (15, .iload_n 1, 1, .iload 1), (16, .bipush 16, 2, .iconst 16), (18, .iushr, 1, .iushr), (19, .sipush 255, 3, .iconst 255), (22, .iand, 1, .iand), (23, .invokevirtual 173, 3, .invokevirtual 173), (26, .aload_n 0, 1, .aload 0), (27, .getfield 24, 3, .invokeinterface 11 3), (30, .iload_n 1, 1, .iload 1), (31, .bipush 8, 2, .iconst 8), (33, .iushr, 1, .iushr), (34, .sipush 255, 3, .iconst 255), (37, .iand, 1, .iand), (38, .invokevirtual 173, 3, .invokevirtual 173), (41, .aload_n 0, 1, .aload 0), (42, .getfield 24, 3, .invokeinterface 11 3), (45, .iload_n 1, 1, .iload 1), (46, .sipush 255, 3, .iconst 255), (49, .iand, 1, .iand), (50, .invokevirtual 173, 3, .invokevirtual 173), (53, .return_, 1, .return_)]
def kB218 : x_R := [(0, .iload_n 0, 1, .iload 0), (1, .ifCond .lt 12, 3, .ifCond .lt (.ofNat 7)), (4, .iload_n 0, 1, .iload 0), (5, .iload_n 1, 1, .iload 1), (6, .if_icmp .gt 7, 3, .if_icmp .gt (.ofNat 7)), (9, .iconst 1, 1, .iconst 1), (10, .goto 4, 3, .goto 8), (13, .iconst 0, 1, .iconst 0), (14, .ireturn, 1, .areturn)]
def kB219 : x_R := [(0, .iload_n 0, 1, .iload 0), (1, .ifCond .lt 13, 3, .ifCond .lt (.ofNat 7)), (4, .iload_n 0, 1, .iload 0), (5, .bipush 29, 2, .iconst 29), (7, .if_icmp .ge 7, 3, .if_icmp .ge (.ofNat 7)), (10, .iconst 1, 1, .iconst 1), (11, .goto 4, 3, .goto 8), (14, .iconst 0, 1, .iconst 0), (15, .ireturn, 1, .areturn)]
def kB220 : x_R := [(0, .iload_n 0, 1, .iload 0), (1, .ifCond .lt 13, 3, .ifCond .lt (.ofNat 7)), (4, .iload_n 0, 1, .iload 0), (5, .bipush 26, 2, .iconst 26), (7, .if_icmp .ge 7, 3, .if_icmp .ge (.ofNat 7)), (10, .iconst 1, 1, .iconst 1), (11, .goto 4, 3, .goto 8), (14, .iconst 0, 1, .iconst 0), (15, .ireturn, 1, .areturn)]
def kB221 : x_R := [(0, .iload_n 0, 1, .iload 0), (1, .bipush 97, 2, .iconst 97), (3, .if_icmp .lt 13, 3, .if_icmp .lt (.ofNat 8)), (6, .iload_n 0, 1, .iload 0), (7, .bipush 122, 2, .iconst 122), (9, .if_icmp .gt 7, 3, .if_icmp .gt (.ofNat 8)), (12, .iconst 1, 1, .iconst 1), (13, .goto 4, 3, .goto 9), (16, .iconst 0, 1, .iconst 0), (17, .ireturn, 1, .areturn)]
def kB222 : x_R := [(0, .iload_n 0, 1, .iload 0), (1, .invokestatic 281, 3, .invokestatic 221), (4, .ifCond .ne 15, 3, .ifCond .ne (.ofNat 9)), (7, .iload_n 0, 1, .iload 0), (8, .bipush 65, 2, .iconst 65), (10, .if_icmp .lt 13, 3, .if_icmp .lt (.ofNat 11)), (13, .iload_n 0, 1, .iload 0), (14, .bipush 90, 2, .iconst 90), (16, .if_icmp .gt 7, 3, .if_icmp .gt (.ofNat 11)), (19, .iconst 1, 1, .iconst 1), (20, .goto 4, 3, .goto 12), (23, .iconst 0, 1, .iconst 0), (24, .ireturn, 1, .areturn)]
def kB223 : x_R := [(0, .iload_n 0, 1, .iload 0), (1, .bipush 48, 2, .iconst 48), (3, .if_icmp .lt 13, 3, .if_icmp .lt (.ofNat 8)), (6, .iload_n 0, 1, .iload 0), (7, .bipush 57, 2, .iconst 57), (9, .if_icmp .gt 7, 3, .if_icmp .gt (.ofNat 8)), (12, .iconst 1, 1, .iconst 1), (13, .goto 4, 3, .goto 9), (16, .iconst 0, 1, .iconst 0), (17, .ireturn, 1, .areturn)]
def kB224 : x_R := [(0, .iload_n 0, 1, .iload 0), (1, .bipush 32, 2, .iconst 32), (3, .if_icmp .eq 9, 3, .if_icmp .eq (.ofNat 6)), (6, .iload_n 0, 1, .iload 0), (7, .bipush 10, 2, .iconst 10), (9, .if_icmp .ne 7, 3, .if_icmp .ne (.ofNat 8)), (12, .iconst 1, 1, .iconst 1), (13, .goto 4, 3, .goto 9), (16, .iconst 0, 1, .iconst 0), (17, .ireturn, 1, .areturn)]
def kB225 : x_R := [(0, .iload_n 0, 1, .iload 0), (1, .invokestatic 281, 3, .invokestatic 221), (4, .ifCond .eq 8, 3, .ifCond .eq (.ofNat 7)), (7, .iload_n 0, 1, .iload 0), (8, .bipush 97, 2, .iconst 97), (10, .isub, 1, .isub), (11, .ireturn, 1, .ireturn), (12, .iload_n 0, 1, .iload 0), (13, .lookupswitch 66 #[(10, 63), (32, 60), (44, 51), (46, 54), (59, 57)], 51, .lookupswitch 19 #[(10, 17), (32, 15), (44, 9), (46, 11), (59, 13)]), (64, .bipush 26, 2, .iconst 26), (66, .ireturn, 1, .ireturn), (67, .bipush 27, 2, .iconst 27), (69, .ireturn, 1, .ireturn), (70, .bipush 28, 2, .iconst 28), (72, .ireturn, 1, .ireturn), (73, .bipush 29, 2, .iconst 29), (75, .ireturn, 1, .ireturn), (76, .bipush 29, 2, .iconst 29), (78, .ireturn, 1, .ireturn), (79, .iconst (-1), 1, .iconst (-1)), (80, .ireturn, 1, .ireturn)]
def kTB : List x_R := [kB0, kB1, kB2, kB3, kB4, kB5, kB6, kB7, kB8, kB9, kB10, kB11, kB12, kB13, kB14, kB15, kB16, kB17, kB18, kB19, kB20, kB21, kB22, kB23, kB24, kB25, kB26, kB27, kB28, kB29, kB30, kB31, kB32, kB33, kB34, kB35, kB36, kB37, kB38, kB39, kB40, kB41, kB42, kB43, kB44, kB45, kB46, kB47, kB48, kB49, kB50, kB51, kB52, kB53, kB54, kB55, kB56, kB57, kB58, kB59, kB60, kB61, kB62, kB63, kB64, kB65, kB66, kB67, kB68, kB69, kB70, kB71, kB72, kB73, kB74, kB75, kB76, kB77, kB78, kB79, kB80, kB81, kB82, kB83, kB84, kB85, kB86, kB87, kB88, kB89, kB90, kB91, kB92, kB93, kB94, kB95, kB96, kB97, kB98, kB99, kB100, kB101, kB102, kB103, kB104, kB105, kB106, kB107, kB108, kB109, kB110, kB111, kB112, kB113, kB114, kB115, kB116, kB117, kB118, kB119, kB120, kB121, kB122, kB123, kB124, kB125, kB126, kB127, kB128, kB129, kB130, kB131, kB132, kB133, kB134, kB135, kB136, kB137, kB138, kB139, kB140, kB141, kB142, kB143, kB144, kB145, kB146, kB147, kB148, kB149, kB150, kB151, kB152, kB153, kB154, kB155, kB156, kB157, kB158, kB159, kB160, kB161, kB162, kB163, kB164, kB165, kB166, kB167, kB168, kB169, kB170, kB171, kB172, kB173, kB174, kB175, kB176, kB177, kB178, kB179, kB180, kB181, kB182, kB183, kB184, kB185, kB186, kB187, kB188, kB189, kB190, kB191, kB192, kB193, kB194, kB195, kB196, kB197, kB198, kB199, kB200, kB201, kB202, kB203, kB204, kB205, kB206, kB207, kB208, kB209, kB210, kB211, kB212, kB213, kB214, kB215, kB216, kB217, kB218, kB219, kB220, kB221, kB222, kB223, kB224, kB225]
def kE : x_E := x_Ef kCL kML kTB
end
section
/-! ===== the cells behind the two constructors ===== -/
def kS : List x_S := [
  .inr (11, [some 2, some 21, none, some 40, some 42, some 49, some 55, some 63, some 73, some 77]),
  .inr (3, [none, some 3, some 4, some 5, some 6, some 7, some 8, some 9, some 10, some 11, some 13, some 16, some 20, none, none, none, none, none]),
  .inl (.int, 8),
  .inl (.int, 8),
  .inl (.int, 8),
  .inl (.int, 8),
  .inl (.int, 8),
  .inl (.int, 29),
  .inl (.int, 29),
  .inl (.int, 29),
  .inr (8, [some 12, none]),
  .inl (.int, 60),
  .inr (10, [some 14, some 15, none]),
  .inl (.int, 240),
  .inl (.int, 20),
  .inr (4, [some 17, some 18, some 19, none, none, none]),
  .inl (.int, 400),
  .inl (.int, 17),
  .inl (.int, 16),
  .inl (.int, 1000),
  .inr (3, [none, some 22, some 23, some 24, some 25, some 26, some 27, some 28, some 29, some 30, some 32, some 35, some 39, none, none, none, none, none]),
  .inl (.int, 8),
  .inl (.int, 8),
  .inl (.int, 8),
  .inl (.int, 8),
  .inl (.int, 8),
  .inl (.int, 29),
  .inl (.int, 29),
  .inl (.int, 29),
  .inr (8, [some 31, none]),
  .inl (.int, 60),
  .inr (10, [some 33, some 34, none]),
  .inl (.int, 240),
  .inl (.int, 20),
  .inr (4, [some 36, some 37, some 38, none, none, none]),
  .inl (.int, 400),
  .inl (.int, 17),
  .inl (.int, 16),
  .inl (.int, 1000),
  .inr (8, [some 41, none]),
  .inl (.int, 400),
  .inr (5, [some 43, none, none, some 40, some 47, some 48, none, none]),
  .inr (4, [some 44, some 45, some 46, none, none, none]),
  .inl (.int, 400),
  .inl (.int, 17),
  .inl (.int, 16),
  .inl (.int, 401),
  .inl (.int, 401),
  .inr (9, [some 50, some 51, some 52, some 53, some 54, none]),
  .inl (.int, 48),
  .inl (.int, 174),
  .inl (.int, 6),
  .inl (.int, 6),
  .inl (.int, 6),
  .inr (6, [some 2, some 56, some 57, some 58, some 59, some 60, some 61, some 62]),
  .inl (.boolean, 29),
  .inl (.int, 60),
  .inl (.int, 9),
  .inl (.int, 64),
  .inl (.long, 384),
  .inl (.int, 8),
  .inl (.int, 8),
  .inr (7, [none, some 64, some 2, some 55, some 65, some 67, some 68, some 69, some 70, some 71, some 72, none]),
  .inl (.int, 5),
  .inr (8, [some 66, none]),
  .inl (.int, 12),
  .inl (.int, 348),
  .inl (.int, 12),
  .inl (.int, 8),
  .inl (.int, 8),
  .inl (.int, 8),
  .inl (.int, 8),
  .inr (2, [none, some 74, some 2, some 55, some 75]),
  .inl (.int, 4),
  .inr (8, [some 76, none]),
  .inl (.int, 60),
  .inr (1, [none, some 78, some 2, some 55, some 79]),
  .inl (.int, 3),
  .inl (.int, 8),
  .inr (0, [none, some 81, some 82, none, none, some 83, some 84, some 85, some 86, some 87, some 88, none, none, none, some 89, none, some 90, none, some 91, some 92, some 93, none, none, none, none, none, some 94, none, some 95, some 96, some 97, some 98, some 99, none, none, some 100, none, none, none, none, none, some 101, some 102, some 103, some 104, none, none, none, some 105, none, none, none, some 106]),
  .inl (.int, 40),
  .inl (.int, 240),
  .inl (.int, 8),
  .inl (.int, 8),
  .inl (.int, 8),
  .inl (.int, 8),
  .inl (.int, 29),
  .inl (.int, 29),
  .inl (.int, 60),
  .inl (.int, 60),
  .inl (.int, 20),
  .inl (.int, 240),
  .inl (.int, 400),
  .inl (.int, 69),
  .inl (.int, 32),
  .inl (.int, 32),
  .inl (.int, 32),
  .inl (.int, 800),
  .inl (.int, 800),
  .inl (.int, 40),
  .inl (.int, 9),
  .inl (.int, 420),
  .inl (.int, 8),
  .inl (.int, 1000),
  .inl (.int, 3),
  .inl (.int, 2400)]
/-- a text's own methods: 1000 length, 1001 charAt, 1002 indexOf -/
def kSO : Nat → List Value → x_T → x_Z := fun μ vs T => match vs with
  | [.retAddr j] => if μ = 1000 ∧ j < 2 then some (some (.int (Int32.ofNat (kX.2.2.1.getD j 0))), T) else none
  | [.retAddr j, .int i] => if j < 2 then (if μ = 1001 then (if x_in i (kX.2.2.1.getD j 0) then some (some (.int ((kX.2.2.2.1.getD j []).getD i.toNatClampNeg 0)), T) else none) else if μ = 1002 then some (some (.int (match (kX.2.2.2.1.getD j []).findIdx? (fun c => c == i) with | some k => Int32.ofNat k | none => -1)), T) else none) else none
  | _ => none
/-- the state behind the class's constructor, and behind the reference's -/
def zA : x_T := x_new ([], fun _ _ => 0, fun _ _ => 0) (.inr (11, kE.1 11))
noncomputable def zB : x_Z := x_P kE kSO 700 4000 60 185 [.ref 0] zA
noncomputable def zB2 : x_T := (zB.getD (none, zA)).2
noncomputable def zC : x_Z := x_P kE kSO 700 4000 60 0 [.ref 79] (x_new zB2 (.inr (0, kE.1 0)))
noncomputable def zT : x_T := (zC.getD (none, zA)).2
theorem z_B1 : zB.isSome = true := by decide +kernel
theorem z_B2 : (zB.getD (some .null, zA)).1 = none := by decide +kernel
theorem z_B3 : zB2.1 = kS.take 79 := by decide +kernel
theorem z_C1 : zC.isSome = true := by decide +kernel
theorem z_C2 : (zC.getD (some .null, zA)).1 = none := by decide +kernel
theorem z_C3 : zT.1 = kS := by decide +kernel
end
section
/-! ===== the pure side: how x_P is run by hand ===== -/
/-- a method of this claim, d calls deep -/
noncomputable def pe (d μ : Nat) (vs : List Value) (T : x_T) : x_Z := x_P kE kSO 700 4000 d μ vs T
/-- a place in the method μ: k steps left, n turns of loops left -/
noncomputable def ze (d μ n k : Nat) (rest : List Instr) (lv : x_L) (st : List Value) (T : x_T) : x_Z := x_ev kE x_nx (pe d) (x_lp kE x_nx (pe d) (kE.2.2.2 μ) 700 n) (kE.2.2.2 μ) k rest lv st T
/-- a loop's head j of the method μ -/
noncomputable def zl (d μ n j : Nat) (lv : x_L) (T : x_T) : x_Z := x_lp kE x_nx (pe d) (kE.2.2.2 μ) 700 n j lv T
theorem e_in {d μ : Nat} {vs : List Value} {T : x_T} {r : x_Z} (h1 : Nat.ble 1000 μ = false) (h2 : (x_ar vs).length ≤ kE.2.2.1 μ) (k : ze d μ 4000 700 (kE.2.2.2 μ) (x_ar vs ++ List.replicate (kE.2.2.1 μ - (x_ar vs).length) none) [] T = r) : pe (d + 1) μ vs T = r := by
  unfold pe
  rw [x_P, h1, if_neg (by decide), if_pos h2]
  exact k
theorem e_lp {d μ n j : Nat} {lv : x_L} {T : x_T} {r : x_Z} (k : ze d μ n 700 ((kE.2.2.2 μ).drop j) lv [] T = r) : zl d μ (n + 1) j lv T = r := k
theorem e_if {c : Bool} {a b r : x_Z} (ht : c = true → a = r) (hf : c = false → b = r) : (if c = true then a else b) = r := by
  cases c
  · exact hf rfl
  · exact ht rfl
theorem e_t {c : Bool} {a b r : x_Z} (h : c = true) (k : a = r) : (if c = true then a else b) = r := by rw [if_pos h]; exact k
theorem e_f {c : Bool} {a b r : x_Z} (h : c = false) (k : b = r) : (if c = true then a else b) = r := by rw [h, if_neg (by decide)]; exact k
theorem e_P {c : Prop} {i : Decidable c} {a b r : x_Z} (h : c) (k : a = r) : (if c then a else b) = r := by rw [if_pos h]; exact k
theorem e_N {c : Prop} {i : Decidable c} {a b r : x_Z} (h : ¬ c) (k : b = r) : (if c then a else b) = r := by rw [if_neg h]; exact k
/-- behind a call; ahead of it: conv => lhs; whnf -/
theorem e_call {o o' : x_Z} {F : Option Value × x_T → x_Z} {p : Option Value × x_T} {r : x_Z} (h : o = some p) (k : F p = r) (ho : o' = o := by rfl) : Option.rec (motive := fun _ => x_Z) none F o' = r := by rw [ho, h]; exact k
theorem e_g {b : Bool} {k r : x_Z} (h : b = true) (k' : k = r) : x_g b k = r := by rw [h]; exact k'
/-- an int of a cell is written -/
def wr (f : Nat → Nat → Int32) (c k : Nat) (v : Int32) : Nat → Nat → Int32 := va_up f c (upd (f c) k v)
theorem wr_eq (f : Nat → Nat → Int32) (c k : Nat) (v : Int32) (c' k' : Nat) : wr f c k v c' k' = if c' = c ∧ k' = k then v else f c' k' := by
  unfold wr va_up
  by_cases h : c' = c
  · subst h
    rw [if_pos rfl]
    unfold upd
    by_cases h2 : k' = k
    · rw [if_pos h2, if_pos ⟨rfl, h2⟩]
    · rw [if_neg h2, if_neg (fun h => h2 h.2)]
  · rw [if_neg h, if_neg (fun h2 => h h2.1)]
theorem wr_s (f : Nat → Nat → Int32) (c k : Nat) (v : Int32) : wr f c k v c k = v := by rw [wr_eq, if_pos ⟨rfl, rfl⟩]
theorem wr_c {f : Nat → Nat → Int32} {c k c' k' : Nat} {v : Int32} (h : c' ≠ c) : wr f c k v c' k' = f c' k' := by rw [wr_eq, if_neg (fun h2 => h h2.1)]
theorem wr_k {f : Nat → Nat → Int32} {c k c' k' : Nat} {v : Int32} (h : k' ≠ k) : wr f c k v c' k' = f c' k' := by rw [wr_eq, if_neg (fun h2 => h h2.2)]
theorem x_si_wr (S : List x_S) (f : Nat → Nat → Int32) (g : Nat → Nat → Int64) (c k : Nat) (v : Int32) : x_si (S, f, g) c k v = (S, wr f c k v, g) := rfl
theorem c_lt {x y : Int32} : x_cmp .lt x y = true ↔ x < y := by simp [x_cmp]
theorem c_ge {x y : Int32} : x_cmp .ge x y = true ↔ y ≤ x := by simp [x_cmp]
theorem c_gt {x y : Int32} : x_cmp .gt x y = true ↔ y < x := by simp [x_cmp]
theorem c_le {x y : Int32} : x_cmp .le x y = true ↔ x ≤ y := by simp [x_cmp]
theorem c_eq {x y : Int32} : x_cmp .eq x y = true ↔ x = y := by simp [x_cmp]
theorem c_ne {x y : Int32} : x_cmp .ne x y = true ↔ ¬ x = y := by simp [x_cmp]
end
section
theorem b_t {c : Bool} (h : ¬ c = false) : c = true := by cases c; exact absurd rfl h; rfl
theorem nlt {x y : Int32} : ¬ x < y ↔ y ≤ x := by rw [Int32.lt_iff_toInt_lt, Int32.le_iff_toInt_le]; omega
theorem nle {x y : Int32} : ¬ x ≤ y ↔ y < x := by rw [Int32.lt_iff_toInt_lt, Int32.le_iff_toInt_le]; omega
theorem c_f {c : ClassFile.Cond} {x y : Int32} {p : Prop} (h : x_cmp c x y = true ↔ p) (hf : x_cmp c x y = false) : ¬ p := fun hp => by rw [h.mpr hp] at hf; cases hf
theorem c_no {c : ClassFile.Cond} {x y : Int32} {p : Prop} (h : x_cmp c x y = true ↔ p) (hp : ¬ p) : x_cmp c x y = false := by
  cases hh : x_cmp c x y with
  | false => rfl
  | true => exact absurd (h.mp hh) hp
section R1
variable (d : Nat) (f : Nat → Nat → Int32) (g : Nat → Nat → Int64)
set_option maxRecDepth 100000 in
/-- isIn -/
theorem r_isIn (v lo hi : Int32) : pe (d + 1) 1 [.ref 79, .int v, .int lo, .int hi] (kS, f, g) = some (some (.int (if lo ≤ v ∧ v ≤ hi then 1 else 0)), (kS, f, g)) := by
  refine e_in rfl (Nat.le_of_ble_eq_true rfl) ?_
  refine e_if (fun h => ?_) (fun h => ?_)
  · rw [if_neg (fun h1 => nlt.mpr h1.1 (c_lt.mp h))]
    rfl
  · refine e_if (fun h2 => ?_) (fun h2 => ?_)
    · rw [if_neg (fun h1 => nlt.mpr h1.2 (c_gt.mp h2))]
      rfl
    · rw [if_pos ⟨nlt.mp (c_f c_lt h), nlt.mp (c_f c_gt h2)⟩]
      rfl
set_option maxRecDepth 100000 in
/-- isOneOf -/
theorem r_isOneOf (s : Int32) : pe (d + 1) 7 [.ref 79, .int s] (kS, f, g) = some (some (.int (if 0 ≤ s ∧ s < 29 then 1 else 0)), (kS, f, g)) := by
  refine e_in rfl (Nat.le_of_ble_eq_true rfl) ?_
  refine e_if (fun h => ?_) (fun h => ?_)
  · rw [if_neg (fun h1 => nlt.mpr h1.1 (c_lt.mp h))]
    rfl
  · refine e_if (fun h2 => ?_) (fun h2 => ?_)
    · rw [if_neg (fun h1 => nlt.mpr (c_ge.mp h2) h1.2)]
      rfl
    · rw [if_pos ⟨nlt.mp (c_f c_lt h), nle.mp (c_f c_ge h2)⟩]
      rfl
set_option maxRecDepth 100000 in
/-- isApprentice -/
theorem r_isApprentice (a : Int32) : pe (d + 1) 6 [.ref 79, .int a] (kS, f, g) = some (some (.int (if 0 ≤ a ∧ a < f 79 4 then 1 else 0)), (kS, f, g)) := by
  refine e_in rfl (Nat.le_of_ble_eq_true rfl) ?_
  refine e_if (fun h => ?_) (fun h => ?_)
  · rw [if_neg (fun h1 => nlt.mpr h1.1 (c_lt.mp h))]
    rfl
  · refine e_if (fun h2 => ?_) (fun h2 => ?_)
    · rw [if_neg (fun h1 => nlt.mpr (c_ge.mp h2) h1.2)]
      rfl
    · rw [if_pos ⟨nlt.mp (c_f c_lt h), nle.mp (c_f c_ge h2)⟩]
      rfl
set_option maxRecDepth 100000 in
/-- own -/
theorem r_own_no (s a : Int32) (h : ¬ ((0 ≤ s ∧ s < 29) ∧ (a = -1 ∨ (0 ≤ a ∧ a < f 79 4)))) : pe (d + 2) 9 [.ref 79, .int s, .int a] (kS, f, g) = some (some (.int 0), (kS, wr f 79 0 0, g)) := by
  refine e_in rfl (Nat.le_of_ble_eq_true rfl) ?_
  conv => lhs; whnf
  refine e_call (r_isOneOf d (wr f 79 0 0) g s) ?_
  by_cases hs : 0 ≤ s ∧ s < 29
  · rw [if_pos hs]
    refine e_f (c_no c_eq (fun e => h ⟨hs, Or.inl e⟩)) ?_
    conv => lhs; whnf
    refine e_call (r_isApprentice d (wr f 79 0 0) g a) ?_
    rw [if_neg (fun h2 => h ⟨hs, Or.inr ⟨h2.1, by simpa [wr_eq] using h2.2⟩⟩)]
    rfl
  · rw [if_neg hs]
    rfl
end R1
end
section
theorem in_nI {j n : Nat} (h : j < n) (hn : n < 2 ^ 31) : x_in (nI j) n = true := by
  have h1 := nI_toInt (n := j) (by omega)
  unfold x_in
  simp only [Bool.and_eq_true, decide_eq_true_eq]
  omega
/-- cells copied: the places a .. b of cell d out of cell s -/
def cp (f : Nat → Nat → Int32) (dc sc a b : Nat) : Nat → Nat → Int32 := fun c k => if c = dc ∧ a ≤ k ∧ k < b then f sc k else f c k
theorem cp_step {f : Nat → Nat → Int32} {dc sc a b : Nat} (h : a < b) (hne : sc ≠ dc) : cp (wr f dc a (f sc a)) dc sc (a + 1) b = cp f dc sc a b := by
  funext c k
  unfold cp
  by_cases hc : c = dc
  · subst hc
    by_cases h1 : a + 1 ≤ k ∧ k < b
    · rw [if_pos ⟨rfl, h1⟩, if_pos ⟨rfl, by omega, h1.2⟩, wr_c hne]
    · rw [if_neg (fun h2 => h1 h2.2)]
      by_cases h2 : k = a
      · subst h2
        rw [wr_s, if_pos ⟨rfl, Nat.le_refl _, h⟩]
      · rw [wr_k h2, if_neg (fun h3 => h1 ⟨by omega, h3.2.2⟩)]
  · rw [if_neg (fun h2 => hc h2.1), if_neg (fun h2 => hc h2.1), wr_c hc]
theorem cp_nil {f : Nat → Nat → Int32} {dc sc a : Nat} : cp f dc sc a a = f := by
  funext c k
  unfold cp
  rw [if_neg (fun h => by omega)]
section R2
variable (d : Nat) (g : Nat → Nat → Int64)
set_option maxRecDepth 100000 in
theorem r_thinks_lp : ∀ (m n k i : Nat) (f : Nat → Nat → Int32) (N : Nat), f 79 13 = nI N → N ≤ 60 → i + m = N → m ≤ n → ze d 18 n (k + 30) ((kE.2.2.2 18).drop 6) [some (.ref 79), some (.int (nI i))] [] (kS, f, g) = some (none, (kS, cp f 89 88 i N, g)) := by
  intro m
  induction m with
  | zero =>
    intro n k i f N hN hN60 him hmn
    refine e_t (c_ge.mpr (by show f 79 13 ≤ nI i; rw [hN]; exact nI_le (by omega) (by omega))) ?_
    rw [show i = N by omega, cp_nil]
    rfl
  | succ m ih =>
    intro n k i f N hN hN60 him hmn
    obtain ⟨n, rfl⟩ : ∃ n', n = n' + 1 := ⟨n - 1, by omega⟩
    refine e_f (c_no c_ge (by show ¬ f 79 13 ≤ nI i; rw [hN]; exact nI_ge (by omega) (by omega))) ?_
    refine e_t (in_nI (n := 60) (by omega) (by omega)) ?_
    refine e_t (in_nI (n := 60) (by omega) (by omega)) ?_
    have h := ih n 670 (i + 1) (wr f 89 i (f 88 i)) N (by rw [wr_c (by decide)]; exact hN) hN60 (by omega) (by omega)
    rw [cp_step (by omega) (by decide)] at h
    rw [← h, ← nI_1 i, show wr f 89 i (f 88 i) = wr f 89 (nI i).toNatClampNeg (f 88 (nI i).toNatClampNeg) by rw [nI_clamp (by omega)]]
    rfl
end R2
end
section
/-! ===== the small machine over whole numbers, as conditions (a verified generator of conditions): i_wp says what must hold so that a run from here ends with Q ===== -/
/-- int, reference, long, text -/
abbrev iv : Type := Int ⊕ (Nat ⊕ (Int64 ⊕ Nat))
abbrev iL : Type := List (Option iv)
/-- ints of a cell by place; an int field k of the object c has the cell fv c k, place 0 -/
abbrev iF : Type := Nat → Int → Int
abbrev iG : Type := Nat → Int → Int64
abbrev iI (x : Int) : iv := .inl x
abbrev iR (a : Nat) : iv := .inr (.inl a)
abbrev iJ (x : Int64) : iv := .inr (.inr (.inl x))
abbrev iX (t : Nat) : iv := .inr (.inr (.inr t))
def fv (c k : Nat) : Nat := 200 * (k + 1) + c
def cV : iv → Value
  | .inl x => .int (Int32.ofInt x)
  | .inr (.inl a) => .ref a
  | .inr (.inr (.inl l)) => .long l
  | .inr (.inr (.inr t)) => .retAddr t
def cL (lv : iL) : x_L := lv.map (fun o => o.map cV)
def cF (f : iF) : Nat → Nat → Int32 := fun c k => match kS[c]? with
  | some (.inr _) => Int32.ofInt (f (fv c k) 0)
  | some (.inl _) => Int32.ofInt (f c (k : Int))
  | none => 0
def cG (g : iG) : Nat → Nat → Int64 := fun c k => g c (k : Int)
def cT (f : iF) (g : iG) : x_T := (kS, cF f, cG g)
abbrev inr (z : Int) : Prop := -2147483648 ≤ z ∧ z ≤ 2147483647
def InR (f : iF) : Prop := ∀ c k, inr (f c k)
def okv : iv → Prop
  | .inl x => inr x
  | .inr (.inl a) => a < 106
  | _ => True
def okS (st : List iv) : Prop := ∀ v ∈ st, okv v
def okL (lv : iL) : Prop := ∀ v, some v ∈ lv → okv v
/-- what an int is that wrapped -/
def w32 (z : Int) : Int := (z + 2147483648) % 4294967296 - 2147483648
def wv (f : iF) (c : Nat) (k v : Int) : iF := fun c' k' => if c' = c ∧ k' = k then v else f c' k'
def wg (g : iG) (c : Nat) (k : Int) (v : Int64) : iG := fun c' k' => if c' = c ∧ k' = k then v else g c' k'
def acp (f : iF) (a b : Nat) (sp dp n : Int) : iF := fun c k => if c = b ∧ dp ≤ k ∧ k < dp + n then f a (sp + (k - dp)) else f c k
def b_and (x y : Int) : Int := (Int32.ofInt x &&& Int32.ofInt y).toInt
def b_or (x y : Int) : Int := (Int32.ofInt x ||| Int32.ofInt y).toInt
def b_shl (x y : Int) : Int := (Int32.ofInt x <<< (Int32.ofInt y &&& 31)).toInt
def b_shr (x y : Int) : Int := (Int32.ofInt x >>> (Int32.ofInt y &&& 31)).toInt
def b_ushr (x y : Int) : Int := ((Int32.ofInt x).toUInt32 >>> ((Int32.ofInt y).toUInt32 &&& Int32.toUInt32 31)).toInt32.toInt
def b_i2c (x : Int) : Int := ((Int32.ofInt x).toUInt32 % 65536).toInt32.toInt
def b_i2l (x : Int) : Int64 := (Int32.ofInt x).toInt64
def b_l2i (x : Int64) : Int := x.toInt32.toInt
def b_shlL (x : Int64) (y : Int) : Int64 := x <<< ((Int32.ofInt y).toInt64 &&& 63)
def b_ushrL (x : Int64) (y : Int) : Int64 := (x.toUInt64 >>> ((Int32.ofInt y).toInt64.toUInt64 &&& Int64.toUInt64 63)).toInt64
def i_g (b : Bool) (p : Prop) : Prop := match b with
  | true => p
  | false => False
def i_sm32 (v : Int) : Bool := match v with
  | .ofNat n => Nat.ble n 2147483647
  | .negSucc n => Nat.ble n 2147483647
def i_cat : iv → Nat
  | .inr (.inr (.inl _)) => 2
  | _ => 1
def i_sm : List iv → Nat
  | [] => 0
  | v :: l => i_cat v + i_sm l
def i_okp (lv : iL) : Nat → Bool
  | 0 => true
  | i + 1 => match lv[i]? with
    | some (some (.inr (.inr (.inl _)))) => false
    | _ => true
def i_set (lv : iL) (i : Nat) (o : Option iv) : iL := match Nat.beq i lv.length with
  | true => lv ++ [o]
  | false => lv.set i o
/-- a branch -/
def i_br (c : ClassFile.Cond) (x y : Int) (A B : Prop) : Prop := match c with
  | .eq => (x = y → A) ∧ (¬ x = y → B)
  | .ne => (x = y → B) ∧ (¬ x = y → A)
  | .lt => (x < y → A) ∧ (¬ x < y → B)
  | .ge => (x < y → B) ∧ (¬ x < y → A)
  | .gt => (y < x → A) ∧ (¬ y < x → B)
  | .le => (y < x → B) ∧ (¬ y < x → A)
def i_s1 (M : Nat) (XT : x_Xt) (i : Instr) (lv : iL) (st : List iv) (f : iF) (g : iG) (K : iL → List iv → iF → iG → Prop) : Prop :=
  match i with
  | .iconst v => i_g (i_sm32 v) (K lv (.inl v :: st) f g)
  | .jsr v => K lv (.inr (.inr (.inl (Int64.ofInt v))) :: st) f g
  | .ldc j => K lv (.inr (.inr (.inr j)) :: st) f g
  | .iload i => match lv[i]? with
    | some (some (.inl x)) => K lv (.inl x :: st) f g
    | _ => False
  | .lload i => match lv[i]? with
    | some (some (.inr (.inr (.inl x)))) => K lv (.inr (.inr (.inl x)) :: st) f g
    | _ => False
  | .aload i => match lv[i]? with
    | some (some (.inr (.inl x))) => K lv (.inr (.inl x) :: st) f g
    | some (some (.inr (.inr (.inr x)))) => K lv (.inr (.inr (.inr x)) :: st) f g
    | _ => False
  | .istore i => match st with
    | .inl x :: st => i_g (i_okp lv i && (Nat.ble i lv.length && Nat.blt i M)) (K (i_set lv i (some (.inl x))) st f g)
    | _ => False
  | .lstore i => match st with
    | .inr (.inr (.inl x)) :: st => i_g (i_okp lv i && (Nat.ble i lv.length && Nat.blt (i + 1) M)) (K (i_set (i_set lv i (some (.inr (.inr (.inl x))))) (i + 1) none) st f g)
    | _ => False
  | .astore i => match st with
    | .inr (.inl x) :: st => i_g (i_okp lv i && (Nat.ble i lv.length && Nat.blt i M)) (K (i_set lv i (some (.inr (.inl x)))) st f g)
    | _ => False
  | .iinc i n => match lv[i]? with
    | some (some (.inl x)) => i_g (i_okp lv i) (inr (x + n) ∧ K (lv.set i (some (.inl (x + n)))) st f g)
    | _ => False
  | .iadd => match st with
    | .inl y :: .inl x :: st => (inr (x + y) ∧ K lv (.inl (x + y) :: st) f g) ∨ K lv (.inl (w32 (x + y)) :: st) f g
    | _ => False
  | .isub => match st with
    | .inl y :: .inl x :: st => (inr (x - y) ∧ K lv (.inl (x - y) :: st) f g) ∨ K lv (.inl (w32 (x - y)) :: st) f g
    | _ => False
  | .imul => match st with
    | .inl y :: .inl x :: st => (inr (x * y) ∧ K lv (.inl (x * y) :: st) f g) ∨ K lv (.inl (w32 (x * y)) :: st) f g
    | _ => False
  | .idiv => match st with
    | .inl y :: .inl x :: st => ¬ y = 0 ∧ (inr (x.tdiv y) ∧ K lv (.inl (x.tdiv y) :: st) f g)
    | _ => False
  | .irem => match st with
    | .inl y :: .inl x :: st => ¬ y = 0 ∧ (inr (x.tmod y) ∧ K lv (.inl (x.tmod y) :: st) f g)
    | _ => False
  | .iand => match st with
    | .inl y :: .inl x :: st => K lv (.inl (b_and x y) :: st) f g
    | _ => False
  | .ior => match st with
    | .inl y :: .inl x :: st => K lv (.inl (b_or x y) :: st) f g
    | _ => False
  | .ishl => match st with
    | .inl y :: .inl x :: st => K lv (.inl (b_shl x y) :: st) f g
    | _ => False
  | .ishr => match st with
    | .inl y :: .inl x :: st => K lv (.inl (b_shr x y) :: st) f g
    | _ => False
  | .iushr => match st with
    | .inl y :: .inl x :: st => K lv (.inl (b_ushr x y) :: st) f g
    | _ => False
  | .ladd => match st with
    | .inr (.inr (.inl y)) :: .inr (.inr (.inl x)) :: st => K lv (.inr (.inr (.inl (x + y))) :: st) f g
    | _ => False
  | .lmul => match st with
    | .inr (.inr (.inl y)) :: .inr (.inr (.inl x)) :: st => K lv (.inr (.inr (.inl (x * y))) :: st) f g
    | _ => False
  | .ldiv => match st with
    | .inr (.inr (.inl y)) :: .inr (.inr (.inl x)) :: st => ¬ y = 0 ∧ K lv (.inr (.inr (.inl (x / y))) :: st) f g
    | _ => False
  | .land => match st with
    | .inr (.inr (.inl y)) :: .inr (.inr (.inl x)) :: st => K lv (.inr (.inr (.inl (x &&& y))) :: st) f g
    | _ => False
  | .lor => match st with
    | .inr (.inr (.inl y)) :: .inr (.inr (.inl x)) :: st => K lv (.inr (.inr (.inl (x ||| y))) :: st) f g
    | _ => False
  | .lshl => match st with
    | .inl y :: .inr (.inr (.inl x)) :: st => K lv (.inr (.inr (.inl (b_shlL x y))) :: st) f g
    | _ => False
  | .lushr => match st with
    | .inl y :: .inr (.inr (.inl x)) :: st => K lv (.inr (.inr (.inl (b_ushrL x y))) :: st) f g
    | _ => False
  | .lcmp => match st with
    | .inr (.inr (.inl y)) :: .inr (.inr (.inl x)) :: st => K lv (.inl (lg_cmp x y).toInt :: st) f g
    | _ => False
  | .i2l => match st with
    | .inl x :: st => K lv (.inr (.inr (.inl (b_i2l x))) :: st) f g
    | _ => False
  | .l2i => match st with
    | .inr (.inr (.inl x)) :: st => K lv (.inl (b_l2i x) :: st) f g
    | _ => False
  | .i2c => match st with
    | .inl x :: st => K lv (.inl (b_i2c x) :: st) f g
    | _ => False
  | .dup => match st with
    | .inl x :: st => K lv (.inl x :: .inl x :: st) f g
    | .inr (.inl x) :: st => K lv (.inr (.inl x) :: .inr (.inl x) :: st) f g
    | _ => False
  | .dup2 => match st with
    | .inl y :: .inr (.inl x) :: st => K lv (.inl y :: .inr (.inl x) :: .inl y :: .inr (.inl x) :: st) f g
    | _ => False
  | .arraylength => match st with
    | .inr (.inl a) :: st => match kS[a]? with
      | some (.inl (.int, n)) => i_g (Nat.ble n 2147483647) (K lv (.inl (n : Int) :: st) f g)
      | some (.inl (.long, n)) => i_g (Nat.ble n 2147483647) (K lv (.inl (n : Int) :: st) f g)
      | _ => False
    | .inr (.inr (.inr t)) :: st => match XT t with
      | some q => (q.1 ≤ 2147483647) ∧ K lv (.inl (q.1 : Int) :: st) f g
      | none => False
    | _ => False
  | .invokeinterface ci k => match st with
    | .inr (.inl a) :: st => match kS[a]? with
      | some (.inr o) => i_g (Nat.beq o.1 ci) (match o.2[k]? with
        | some none => K lv (.inl (f (fv a k) 0) :: st) f g
        | some (some (d + 1)) => K lv (.inr (.inl d) :: st) f g
        | _ => False)
      | _ => False
    | _ => False
  | .iaload => match st with
    | .inl i :: .inr (.inl a) :: st => match kS[a]? with
      | some (.inl (.int, n)) => (0 ≤ i ∧ i < (n : Int)) ∧ K lv (.inl (f a i) :: st) f g
      | _ => False
    | .inl i :: .inr (.inr (.inr t)) :: st => match XT t with
      | some q => (0 ≤ i ∧ i < (q.1 : Int)) ∧ K lv (.inl (q.2 i.toNat).toInt :: st) f g
      | none => False
    | _ => False
  | .baload => match st with
    | .inl i :: .inr (.inl a) :: st => match kS[a]? with
      | some (.inl (.boolean, n)) => (0 ≤ i ∧ i < (n : Int)) ∧ K lv (.inl (f a i) :: st) f g
      | _ => False
    | _ => False
  | .laload => match st with
    | .inl i :: .inr (.inl a) :: st => match kS[a]? with
      | some (.inl (.long, n)) => (0 ≤ i ∧ i < (n : Int)) ∧ K lv (.inr (.inr (.inl (g a i))) :: st) f g
      | _ => False
    | _ => False
  | .iastore => match st with
    | .inl x :: .inl i :: .inr (.inl a) :: st => match kS[a]? with
      | some (.inl (.int, n)) => (0 ≤ i ∧ i < (n : Int)) ∧ K lv st (wv f a i x) g
      | _ => False
    | _ => False
  | .bastore => match st with
    | .inl x :: .inl i :: .inr (.inl a) :: st => match kS[a]? with
      | some (.inl (.boolean, n)) => (0 ≤ i ∧ i < (n : Int)) ∧ ((x = 0 ∨ x = 1) ∧ K lv st (wv f a i x) g)
      | _ => False
    | _ => False
  | .lastore => match st with
    | .inr (.inr (.inl x)) :: .inl i :: .inr (.inl a) :: st => match kS[a]? with
      | some (.inl (.long, n)) => (0 ≤ i ∧ i < (n : Int)) ∧ K lv st f (wg g a i x)
      | _ => False
    | _ => False
  | .multianewarray ci k => match st with
    | .inl v :: .inr (.inl a) :: st => match kS[a]? with
      | some (.inr o) => i_g (Nat.beq o.1 ci && Nat.blt k 2000) (match o.2[x_kk k]? with
        | some none => (match Nat.blt k 1000 with
          | true => K lv st (wv f (fv a (x_kk k)) 0 v) g
          | false => (v = 0 ∨ v = 1) ∧ K lv st (wv f (fv a (x_kk k)) 0 v) g)
        | _ => False)
      | _ => False
    | _ => False
  | .invokedynamic 0 => match st with
    | .inl y :: .inl x :: st => i_g (Nat.ble (i_sm st) 8) (K lv (.inl (max x y) :: st) f g)
    | _ => False
  | .invokedynamic 1 => match st with
    | .inl y :: .inl x :: st => i_g (Nat.ble (i_sm st) 8) (K lv (.inl (min x y) :: st) f g)
    | _ => False
  | .invokedynamic 2 => match st with
    | .inl n :: .inl dp :: .inr (.inl b) :: .inl sp :: .inr (.inl a) :: st => match kS[a]?, kS[b]? with
      | some (.inl (.int, na)), some (.inl (.int, nb)) => i_g (Nat.ble (i_sm st) 8) ((0 ≤ sp ∧ 0 ≤ dp ∧ 0 ≤ n ∧ sp + n ≤ (na : Int) ∧ dp + n ≤ (nb : Int)) ∧ K lv st (acp f a b sp dp n) g)
      | _, _ => False
    | _ => False
  | _ => False
def i_ck (cuts : List (Nat × Nat)) (j : Nat) : Option Nat := match cuts with
  | [] => none
  | q :: l => match Nat.beq q.1 j with
    | true => some q.2
    | false => i_ck l j
def i_tb (x : Int) (K : Int → Prop) (d : Int) : Int → List Int → Prop
  | _, [] => K d
  | lo, t :: l => (x = lo → K t) ∧ (¬ x = lo → i_tb x K d (lo + 1) l)
def i_lk (x : Int) (K : Int → Prop) (d : Int) : List (Int × Int) → Prop
  | [] => K d
  | q :: l => (x = q.1 → K q.2) ∧ (¬ x = q.1 → i_lk x K d l)
/-- from an instruction on; cuts: places at which J takes over (with so many locals); O: calls -/
def i_wp (M : Nat) (XT : x_Xt) (cuts : List (Nat × Nat)) (O : Nat → List iv → iF → iG → (Option iv → iF → iG → Prop) → Prop) (J : Bool → Nat → iL → List iv → iF → iG → Prop) (Q : Option iv → iF → iG → Prop) (code : List Instr) : Nat → Nat → List Instr → iL → List iv → iF → iG → Prop
  | 0, _, _, _, _, _, _ => False
  | _ + 1, _, [], _, _, _, _ => False
  | k + 1, pc, i :: rest, lv, st, f, g => match i with
    | .goto j => i_g (Nat.blt pc j.toNat) (match i_ck cuts j.toNat with
      | some m => J false j.toNat (lv.take m) st f g
      | none => i_wp M XT cuts O J Q code k j.toNat (code.drop j.toNat) lv st f g)
    | .jsr_w j => match st with
      | [] => match i_ck cuts j.toNat with
        | some m => J true j.toNat (lv.take m) [] f g
        | none => False
      | _ => False
    | .ifCond c j => match st with
      | .inl x :: st => i_br c x 0 (match j with
        | .ofNat t => i_g (Nat.blt pc t) (match i_ck cuts t with
          | some m => J false t (lv.take m) st f g
          | none => i_wp M XT cuts O J Q code k t (code.drop t) lv st f g)
        | .negSucc t => (match st with
          | [] => match i_ck cuts t with
            | some m => J true t (lv.take m) [] f g
            | none => False
          | _ => False)) (match i_ck cuts (pc + 1) with
          | some m => J false (pc + 1) (lv.take m) st f g
          | none => i_wp M XT cuts O J Q code k (pc + 1) rest lv st f g)
      | _ => False
    | .if_icmp c j => match st with
      | .inl y :: .inl x :: st => i_br c x y (match j with
        | .ofNat t => i_g (Nat.blt pc t) (match i_ck cuts t with
          | some m => J false t (lv.take m) st f g
          | none => i_wp M XT cuts O J Q code k t (code.drop t) lv st f g)
        | .negSucc t => (match st with
          | [] => match i_ck cuts t with
            | some m => J true t (lv.take m) [] f g
            | none => False
          | _ => False)) (match i_ck cuts (pc + 1) with
          | some m => J false (pc + 1) (lv.take m) st f g
          | none => i_wp M XT cuts O J Q code k (pc + 1) rest lv st f g)
      | _ => False
    | .tableswitch d lo _ offs => match st with
      | .inl x :: st => i_tb x (fun t => i_g (Nat.blt pc t.toNat) (match i_ck cuts t.toNat with
          | some m => J false t.toNat (lv.take m) st f g
          | none => i_wp M XT cuts O J Q code k t.toNat (code.drop t.toNat) lv st f g)) d lo offs.toList
      | _ => False
    | .lookupswitch d ps => match st with
      | .inl x :: st => i_lk x (fun t => i_g (Nat.blt pc t.toNat) (match i_ck cuts t.toNat with
          | some m => J false t.toNat (lv.take m) st f g
          | none => i_wp M XT cuts O J Q code k t.toNat (code.drop t.toNat) lv st f g)) d ps.toList
      | _ => False
    | .return_ => match st with
      | [] => Q none f g
      | _ => False
    | .ireturn => match st with
      | [.inl v] => Q (some (.inl v)) f g
      | _ => False
    | .areturn => match st with
      | [.inl v] => (v = 0 ∨ v = 1) ∧ Q (some (.inl v)) f g
      | _ => False
    | .lreturn => match st with
      | [.inr (.inr (.inl v))] => Q (some (.inr (.inr (.inl v)))) f g
      | _ => False
    | .invokevirtual μ => match st.drop (kE.2.1 μ).1 with
      | .inr (.inl b) :: r => match kS[b]? with
        | some (.inr o) => i_g (Nat.beq o.1 (kE.2.1 μ).2 && Nat.ble (i_sm r) 8) (O μ (.inr (.inl b) :: (st.take (kE.2.1 μ).1).reverse) f g (fun v f g => match i_ck cuts (pc + 1) with
          | some m => J false (pc + 1) (lv.take m) (v.toList ++ r) f g
          | none => i_wp M XT cuts O J Q code k (pc + 1) rest lv (v.toList ++ r) f g))
        | _ => False
      | _ => False
    | .checkcast μ => match st.drop (kE.2.1 μ).1 with
      | .inr (.inr (.inr b)) :: r => i_g (Nat.blt b 2 && Nat.ble (i_sm r) 8) (O μ (.inr (.inr (.inr b)) :: (st.take (kE.2.1 μ).1).reverse) f g (fun v f g => match i_ck cuts (pc + 1) with
          | some m => J false (pc + 1) (lv.take m) (v.toList ++ r) f g
          | none => i_wp M XT cuts O J Q code k (pc + 1) rest lv (v.toList ++ r) f g))
      | _ => False
    | .invokestatic μ => i_g (Nat.ble (i_sm (st.drop (kE.2.1 μ).1)) 8 && Nat.ble (kE.2.1 μ).1 st.length) (O μ (st.take (kE.2.1 μ).1).reverse f g (fun v f g => match i_ck cuts (pc + 1) with
          | some m => J false (pc + 1) (lv.take m) (v.toList ++ st.drop (kE.2.1 μ).1) f g
          | none => i_wp M XT cuts O J Q code k (pc + 1) rest lv (v.toList ++ st.drop (kE.2.1 μ).1) f g))
    | i => i_s1 M XT i lv st f g (fun lv st f g => match i_ck cuts (pc + 1) with
          | some m => J false (pc + 1) (lv.take m) st f g
          | none => i_wp M XT cuts O J Q code k (pc + 1) rest lv st f g)
/-- a run ends well -/
def zOK (Q : Option iv → iF → iG → Prop) (z : x_Z) : Prop := ∃ v f g, z = some (v.map cV, cT f g) ∧ InR f ∧ (∀ w, v = some w → okv w) ∧ Q v f g
/-- a method's contract, d calls deep -/
def wq (d μ : Nat) (vs : List iv) (f : iF) (g : iG) (Q : Option iv → iF → iG → Prop) : Prop := okS vs → InR f → zOK Q (pe d μ (vs.map cV) (cT f g))
end
section
/-! ===== i_wp is sound: what it says holds of the small machine ===== -/
theorem i_g_t {b : Bool} {p : Prop} (h : i_g b p) : b = true ∧ p := by
  cases b
  · exact h.elim
  · exact ⟨rfl, h⟩
theorem ofI_toInt {z : Int} (h : inr z) : (Int32.ofInt z).toInt = z := Int32.toInt_ofInt_of_le (by omega) (by omega)
theorem ofI_clamp {z : Int} (h : inr z) : (Int32.ofInt z).toNatClampNeg = z.toNat := Int32.toNatClampNeg_ofInt_of_le (by omega) (by omega)
theorem inr_toInt (x : Int32) : inr x.toInt := by
  have h1 := Int32.le_toInt x
  have h2 := Int32.toInt_lt x
  constructor <;> omega
theorem w32_inr (z : Int) : inr (w32 z) := by unfold w32; constructor <;> omega
theorem w32_ofI (z : Int) : Int32.ofInt (w32 z) = Int32.ofInt z := by
  refine Int32.toInt_inj.mp ?_
  rw [Int32.toInt_ofInt_of_le (by have := (w32_inr z).1; omega) (by have := (w32_inr z).2; omega), Int32.toInt_ofInt]
  simp only [w32, Int.bmod, Int32.size]
  split <;> omega
theorem w32_id {z : Int} (h : inr z) : w32 z = z := by unfold w32; omega
theorem kS_len {a : Nat} {q : x_S} (h : kS[a]? = some q) : a < 106 := (List.getElem?_eq_some_iff.mp h).1
theorem kS_refs : x_okT 106 kS = true := by decide +kernel
theorem kS_ref {a k d : Nat} {o : Nat × List (Option Nat)} (h : kS[a]? = some (.inr o)) (hk : o.2[k]? = some (some (d + 1))) : d < 106 := by
  have h1 := List.all_eq_true.mp kS_refs _ (List.mem_of_getElem? h)
  have h2 := List.all_eq_true.mp h1 _ (List.mem_of_getElem? hk)
  exact Nat.blt_eq.mp h2
theorem cF_put {f : iF} {a k : Nat} {v : Int} {q : Nat × List (Option Nat)} (ha : kS[a]? = some (.inr q)) : va_up (cF f) a (upd (cF f a) k (Int32.ofInt v)) = cF (wv f (fv a k) 0 v) := by
  have hlt := kS_len ha
  funext c j
  unfold va_up
  by_cases hc : c = a
  · subst hc
    rw [if_pos rfl]
    unfold upd cF wv
    by_cases hj : j = k
    · subst hj
      simp [ha]
    · have : ¬ fv c j = fv c k := by unfold fv; omega
      simp [ha, hj, this]
  · rw [if_neg hc]
    unfold cF wv
    cases hO : kS[c]? with
    | none => rfl
    | some q' =>
      have hlc := kS_len hO
      cases q' with
      | inl p =>
        have : ¬ c = fv a k := by unfold fv; omega
        simp [this]
      | inr p =>
        have : ¬ fv c j = fv a k := by unfold fv; omega
        simp [this]
theorem cF_arr {f : iF} {a : Nat} {i v : Int} {q : FieldType × Nat} (ha : kS[a]? = some (.inl q)) (hi : 0 ≤ i) : va_up (cF f) a (upd (cF f a) i.toNat (Int32.ofInt v)) = cF (wv f a i v) := by
  have hlt := kS_len ha
  funext c j
  unfold va_up
  by_cases hc : c = a
  · subst hc
    rw [if_pos rfl]
    unfold upd cF wv
    by_cases hj : j = i.toNat
    · have : (j : Int) = i := by omega
      simp [ha, hj, show ((i.toNat : Nat) : Int) = i by omega]
    · have : ¬ (j : Int) = i := by omega
      simp [ha, hj, this]
  · rw [if_neg hc]
    unfold cF wv
    cases hO : kS[c]? with
    | none => rfl
    | some q' =>
      have hlc := kS_len hO
      cases q' with
      | inl p => simp [hc]
      | inr p =>
        have : ¬ fv c j = a := by unfold fv; omega
        simp [this]
theorem cF_acp {f : iF} {a b : Nat} {sp dp n : Int} {q q' : FieldType × Nat} (ha : kS[a]? = some (.inl q)) (hb : kS[b]? = some (.inl q')) (hs : 0 ≤ sp) (hd : 0 ≤ dp) (hn : 0 ≤ n) : va_up (cF f) b (va_cpy (cF f a) (cF f b) sp.toNat dp.toNat n.toNat) = cF (acp f a b sp dp n) := by
  have hlt := kS_len hb
  funext c j
  unfold va_up
  by_cases hc : c = b
  · subst hc
    rw [if_pos rfl]
    unfold va_cpy cF acp
    by_cases hj : dp.toNat ≤ j ∧ j < dp.toNat + n.toNat
    · have h2 : dp ≤ (j : Int) ∧ (j : Int) < dp + n := by omega
      simp only [ha, hb, hj, h2, and_self, if_true]
      rw [show ((sp.toNat + (j - dp.toNat) : Nat) : Int) = sp + ((j : Int) - dp) by omega]
    · have h2 : ¬ (dp ≤ (j : Int) ∧ (j : Int) < dp + n) := by omega
      simp only [hb, hj, h2, and_false, if_false]
  · rw [if_neg hc]
    unfold cF acp
    cases hO : kS[c]? with
    | none => rfl
    | some q' =>
      have hlc := kS_len hO
      cases q' with
      | inl p => simp [hc]
      | inr p =>
        have : ¬ fv c j = b := by unfold fv; omega
        simp [this]
theorem cG_wg {g : iG} {a : Nat} {i : Int} {v : Int64} (hi : 0 ≤ i) : va_up (cG g) a (vp_updL (cG g a) i.toNat v) = cG (wg g a i v) := by
  funext c j
  unfold va_up
  by_cases hc : c = a
  · subst hc
    rw [if_pos rfl]
    unfold vp_updL cG wg
    by_cases hj : j = i.toNat
    · simp [hj, show ((i.toNat : Nat) : Int) = i by omega]
    · have : ¬ (j : Int) = i := by omega
      simp [hj, this]
  · rw [if_neg hc]
    unfold cG wg
    simp [hc]
theorem cF_o {f : iF} {a k : Nat} {q : Nat × List (Option Nat)} (ha : kS[a]? = some (.inr q)) : cF f a k = Int32.ofInt (f (fv a k) 0) := by unfold cF; rw [ha]
theorem cF_a {f : iF} {a : Nat} {i : Int} {q : FieldType × Nat} (ha : kS[a]? = some (.inl q)) (hi : 0 ≤ i) : cF f a i.toNat = Int32.ofInt (f a i) := by
  unfold cF; rw [ha]; simp [show ((i.toNat : Nat) : Int) = i by omega]
theorem InR_wv {f : iF} {c : Nat} {k v : Int} (hf : InR f) (hv : inr v) : InR (wv f c k v) := by
  intro c' k'
  unfold wv
  split
  · exact hv
  · exact hf c' k'
theorem InR_acp {f : iF} {a b : Nat} {sp dp n : Int} (hf : InR f) : InR (acp f a b sp dp n) := by
  intro c' k'
  unfold acp
  split
  · exact hf _ _
  · exact hf c' k'
theorem i_in {i : Int} {n : Nat} (h : inr i) (h2 : 0 ≤ i ∧ i < (n : Int)) : x_in (Int32.ofInt i) n = true := by
  unfold x_in
  rw [ofI_toInt h]
  simp only [Bool.and_eq_true, decide_eq_true_eq]
  exact h2
theorem i_sm_x (st : List iv) : x_sm (st.map cV) = i_sm st := by
  induction st with
  | nil => rfl
  | cons v l ih =>
    have : x_sm (((v :: l).map cV)) = (cV v).category + x_sm (l.map cV) := by simp [x_sm]
    rw [this, ih]
    rcases v with x | x | x | x <;> rfl
theorem cL_get {lv : iL} {tl : x_L} {i : Nat} {o : Option iv} (h : lv[i]? = some o) : (cL lv ++ tl)[i]? = some (o.map cV) := by
  have hi := (List.getElem?_eq_some_iff.mp h).1
  rw [List.getElem?_append_left (by unfold cL; simpa using hi)]
  unfold cL
  rw [List.getElem?_map, h]
  rfl
theorem cL_okp {lv : iL} {tl : x_L} {i : Nat} (h : i_okp lv i = true) (hi : i ≤ lv.length) : x_okp (cL lv ++ tl) i = true := by
  cases i with
  | zero => rfl
  | succ i =>
    have h1 : lv[i]? = some lv[i] := List.getElem?_eq_getElem (by omega)
    simp only [i_okp] at h
    simp only [x_okp]
    rw [cL_get h1]
    rw [h1] at h
    generalize lv[i] = o at h
    rcases o with _ | x | x | x | x
    · rfl
    · rfl
    · rfl
    · cases h
    · rfl
theorem cL_len (lv : iL) : (cL lv).length = lv.length := by unfold cL; simp
theorem i_set_len {lv : iL} {i : Nat} {o : Option iv} : (i_set lv i o).length = if i = lv.length then lv.length + 1 else lv.length := by
  unfold i_set
  split
  · rename_i h; have := Nat.eq_of_beq_eq_true h; simp [this]
  · rename_i h; have : ¬ i = lv.length := fun e => by rw [e, Nat.beq_refl] at h; cases h
    simp [this]
theorem cL_set {M : Nat} {lv : iL} {tl : x_L} {i : Nat} {o : Option iv} (hi : i ≤ lv.length) (hM : i < M) (hl : lv.length + tl.length = M) (ht : x_okl 106 tl = true) : ∃ tl', (cL lv ++ tl).set i (o.map cV) = cL (i_set lv i o) ++ tl' ∧ (i_set lv i o).length + tl'.length = M ∧ x_okl 106 tl' = true := by
  rcases Nat.lt_or_ge i lv.length with h | h
  · refine ⟨tl, ?_, ?_, ht⟩
    · rw [List.set_append_left _ _ (by rw [cL_len]; exact h)]
      unfold i_set
      rw [show Nat.beq i lv.length = false from by cases hb : Nat.beq i lv.length with | false => rfl | true => have := Nat.eq_of_beq_eq_true hb; omega]
      simp [cL, List.map_set]
    · rw [i_set_len, if_neg (by omega)]; exact hl
  · have e : i = lv.length := by omega
    subst e
    cases tl with
    | nil => simp at hl; omega
    | cons x tl =>
      refine ⟨tl, ?_, ?_, ?_⟩
      · rw [List.set_append_right _ _ (by rw [cL_len]; exact Nat.le_refl _), cL_len, Nat.sub_self]
        unfold i_set
        rw [Nat.beq_refl]
        simp [cL]
      · rw [i_set_len, if_pos rfl]; simp at hl; omega
      · simp only [x_okl, List.all_cons, Bool.and_eq_true] at ht ⊢; exact ht.2
theorem okL_set {lv : iL} {i : Nat} {o : Option iv} (h : okL lv) (ho : ∀ v, o = some v → okv v) : okL (i_set lv i o) := by
  intro v hv
  unfold i_set at hv
  split at hv
  · rcases List.mem_append.mp hv with hv | hv
    · exact h v hv
    · exact ho v (by simp only [List.mem_cons, List.not_mem_nil, or_false] at hv; exact hv.symm)
  · rcases List.mem_or_eq_of_mem_set hv with hv | hv
    · exact h v hv
    · exact ho v hv.symm
theorem okL_lset {lv : iL} {i : Nat} {o : Option iv} (h : okL lv) (ho : ∀ v, o = some v → okv v) : okL (lv.set i o) := by
  intro v hv
  rcases List.mem_or_eq_of_mem_set hv with hv | hv
  · exact h v hv
  · exact ho v hv.symm
theorem okS_c {v : iv} {st : List iv} (hv : okv v) (h : okS st) : okS (v :: st) := by
  intro w hw
  rcases List.mem_cons.mp hw with rfl | hw
  · exact hv
  · exact h w hw
theorem okS_t {v : iv} {st : List iv} (h : okS (v :: st)) : okS st := fun w hw => h w (List.mem_cons_of_mem _ hw)
theorem okS_h {v : iv} {st : List iv} (h : okS (v :: st)) : okv v := h v (List.mem_cons_self ..)
theorem okl_all {lv : iL} {tl : x_L} (h : okL lv) (ht : x_okl 106 tl = true) : x_okl 106 (cL lv ++ tl) = true := by
  unfold x_okl at ht ⊢
  rw [List.all_append, Bool.and_eq_true]
  refine ⟨List.all_eq_true.mpr (fun o ho => ?_), ht⟩
  unfold cL at ho
  obtain ⟨w, hw, rfl⟩ := List.mem_map.mp ho
  cases w with
  | none => rfl
  | some v =>
    have := h v hw
    rcases v with x | x | x | x
    · rfl
    · exact Nat.blt_eq.mpr this
    · rfl
    · rfl
theorem oks_all {st : List iv} (h : okS st) : x_oks 106 (st.map cV) = true := by
  unfold x_oks
  refine List.all_eq_true.mpr (fun o ho => ?_)
  obtain ⟨v, hv, rfl⟩ := List.mem_map.mp ho
  have := h v hv
  rcases v with x | x | x | x
  · rfl
  · exact Nat.blt_eq.mpr this
  · rfl
  · rfl
theorem i_sm32_inr {v : Int} (h : i_sm32 v = true) : inr v := by
  cases v with
  | ofNat n => have := Nat.le_of_ble_eq_true h; constructor <;> simp <;> omega
  | negSucc n => have := Nat.le_of_ble_eq_true h; constructor <;> omega
theorem i_max (x y : Int) (hx : inr x) (hy : inr y) : (if Int32.ofInt x < Int32.ofInt y then Int32.ofInt y else Int32.ofInt x) = Int32.ofInt (max x y) := by
  simp only [Int32.lt_iff_toInt_lt, ofI_toInt hx, ofI_toInt hy]
  split
  · rw [show max x y = y by omega]
  · rw [show max x y = x by omega]
theorem i_min (x y : Int) (hx : inr x) (hy : inr y) : (if Int32.ofInt y < Int32.ofInt x then Int32.ofInt y else Int32.ofInt x) = Int32.ofInt (min x y) := by
  simp only [Int32.lt_iff_toInt_lt, ofI_toInt hx, ofI_toInt hy]
  split
  · rw [show min x y = y by omega]
  · rw [show min x y = x by omega]
theorem ofI_ne0 {y : Int} (hy : inr y) (h : ¬ y = 0) : ¬ Int32.ofInt y = 0 := fun e => h (by have := congrArg Int32.toInt e; rw [ofI_toInt hy] at this; simpa using this)
theorem i_tdiv (x y : Int) (hx : inr x) (hy : inr y) : Int32.ofInt x / Int32.ofInt y = Int32.ofInt (x.tdiv y) := (Int32.ofInt_tdiv (by rw [Int32.toInt_minValue]; omega) (by rw [Int32.toInt_maxValue]; omega) (by rw [Int32.toInt_minValue]; omega) (by rw [Int32.toInt_maxValue]; omega)).symm
theorem i_tmod (x y : Int) (hx : inr x) (hy : inr y) : Int32.ofInt x - Int32.ofInt x / Int32.ofInt y * Int32.ofInt y = Int32.ofInt (x.tmod y) := by
  rw [i_tdiv x y hx hy, ← Int32.ofInt_mul, ← Int32.ofInt_sub, Int.tmod_def, Int.mul_comm (x.tdiv y) y]
/-- how a script is given -/
def i_XT (XT : x_Xt) : Prop := ∀ t q, XT t = some q → q.1 ≤ 2147483647
theorem cG_a {g : iG} {a : Nat} {i : Int} (hi : 0 ≤ i) : cG g a i.toNat = g a i := by
  unfold cG; simp [show ((i.toNat : Nat) : Int) = i by omega]
theorem i_nar {x : Int} (h : x = 0 ∨ x = 1) : vp_nar .boolean (Int32.ofInt x) = Int32.ofInt x := by
  rcases h with rfl | rfl <;> rfl
theorem i_01 {x : Int} (h : x = 0 ∨ x = 1) : decide (Int32.ofInt x = 0 ∨ Int32.ofInt x = 1) = true := by
  rcases h with rfl | rfl <;> decide
theorem i_nn {x : Int} (h : inr x) (h0 : 0 ≤ x) : ¬ Int32.ofInt x < 0 := by
  rw [Int32.lt_iff_toInt_lt, ofI_toInt h]
  simp only [Int32.toInt_zero]
  omega
section I1
variable {M : Nat} {XT : x_Xt} {lv : iL} {st : List iv} {f : iF} {g : iG} {K : iL → List iv → iF → iG → Prop} {K' : x_L → List Value → x_T → x_Z} {P : x_Z → Prop} {tl : x_L}
set_option maxHeartbeats 4000000 in
theorem i_s1_ok (i : Instr) (hl : okL lv) (hs : okS st) (hf : InR f) (ht : lv.length + tl.length = M) (htl : x_okl 106 tl = true) (h : i_s1 M XT i lv st f g K) (hK : ∀ lv st f g tl, K lv st f g → okL lv → okS st → InR f → lv.length + tl.length = M → x_okl 106 tl = true → P (K' (cL lv ++ tl) (st.map cV) (cT f g))) : P (x_s1 XT i (cL lv ++ tl) (st.map cV) (cT f g) K') := by
  cases i with
  | iconst v =>
    obtain ⟨h1, h⟩ := i_g_t h
    exact hK _ _ _ _ _ h hl (okS_c (i_sm32_inr h1) hs) hf ht htl
  | jsr v =>
    exact hK _ _ _ _ _ h hl (okS_c trivial hs) hf ht htl
  | ldc v =>
    exact hK _ _ _ _ _ h hl (okS_c trivial hs) hf ht htl
  | iload i =>
    simp only [i_s1] at h
    split at h
    · rename_i x hx
      have h1 := hK _ _ _ _ _ h hl (okS_c (hl _ (List.mem_of_getElem? hx)) hs) hf ht htl
      simp only [x_s1, cL_get hx, Option.map, cV]
      exact h1
    · exact h.elim
  | lload i =>
    simp only [i_s1] at h
    split at h
    · rename_i x hx
      have h1 := hK _ _ _ _ _ h hl (okS_c (hl _ (List.mem_of_getElem? hx)) hs) hf ht htl
      simp only [x_s1, cL_get hx, Option.map, cV]
      exact h1
    · exact h.elim
  | aload i =>
    simp only [i_s1] at h
    split at h
    · rename_i x hx
      have h1 := hK _ _ _ _ _ h hl (okS_c (hl _ (List.mem_of_getElem? hx)) hs) hf ht htl
      simp only [x_s1, cL_get hx, Option.map, cV]
      exact h1
    · rename_i x hx
      have h1 := hK _ _ _ _ _ h hl (okS_c (hl _ (List.mem_of_getElem? hx)) hs) hf ht htl
      simp only [x_s1, cL_get hx, Option.map, cV]
      exact h1
    · exact h.elim
  | istore i =>
    simp only [i_s1] at h
    split at h
    · rename_i x st
      obtain ⟨h1, h⟩ := i_g_t h
      simp only [Bool.and_eq_true] at h1
      obtain ⟨h1, h2, h3⟩ := h1
      have h2 := Nat.le_of_ble_eq_true h2
      have h3 : i < M := Nat.blt_eq.mp h3
      obtain ⟨tl', e, e2, e3⟩ := cL_set (o := some (.inl x)) h2 h3 ht htl
      have h4 := hK _ _ _ _ _ h (okL_set hl (fun v hv => by cases hv; exact okS_h hs)) (okS_t hs) hf e2 e3
      simp only [x_s1, List.map, cV, cL_okp h1 h2, Bool.true_and, List.length_append, cL_len, ht, Nat.blt_eq.mpr h3, x_g]
      rw [← e] at h4
      exact h4
    · exact h.elim
  | astore i =>
    simp only [i_s1] at h
    split at h
    · rename_i x st
      obtain ⟨h1, h⟩ := i_g_t h
      simp only [Bool.and_eq_true] at h1
      obtain ⟨h1, h2, h3⟩ := h1
      have h2 := Nat.le_of_ble_eq_true h2
      have h3 : i < M := Nat.blt_eq.mp h3
      obtain ⟨tl', e, e2, e3⟩ := cL_set (o := some (.inr (.inl x))) h2 h3 ht htl
      have h4 := hK _ _ _ _ _ h (okL_set hl (fun v hv => by cases hv; exact okS_h hs)) (okS_t hs) hf e2 e3
      simp only [x_s1, List.map, cV, cL_okp h1 h2, Bool.true_and, List.length_append, cL_len, ht, Nat.blt_eq.mpr h3, x_g]
      rw [← e] at h4
      exact h4
    · exact h.elim
  | lstore i =>
    simp only [i_s1] at h
    split at h
    · rename_i x st
      obtain ⟨h1, h⟩ := i_g_t h
      simp only [Bool.and_eq_true] at h1
      obtain ⟨h1, h2, h3⟩ := h1
      have h2 := Nat.le_of_ble_eq_true h2
      have h3 : i + 1 < M := Nat.blt_eq.mp h3
      obtain ⟨tl', e, e2, e3⟩ := cL_set (o := some (.inr (.inr (.inl x)))) h2 (by omega) ht htl
      obtain ⟨tl2, e4, e5, e6⟩ := cL_set (i := i + 1) (o := none) (by rw [i_set_len]; split <;> omega) h3 e2 e3
      have h4 := hK _ _ _ _ _ h (okL_set (okL_set hl (fun v hv => by cases hv; trivial)) (fun v hv => by cases hv)) (okS_t hs) hf e5 e6
      simp only [x_s1, List.map, cV, cL_okp h1 h2, Bool.true_and, List.length_append, cL_len, ht, Nat.blt_eq.mpr h3, x_g]
      rw [← e4, ← e] at h4
      exact h4
    · exact h.elim
  | iinc i n =>
    simp only [i_s1] at h
    split at h
    · rename_i x hx
      obtain ⟨h1, h2, h⟩ := i_g_t h
      have hi := (List.getElem?_eq_some_iff.mp hx).1
      have h4 := hK _ _ _ _ tl h (okL_lset (o := some (.inl (x + n))) hl (fun v hv => by cases hv; exact h2)) hs hf (by rw [List.length_set]; exact ht) htl
      simp only [x_s1, cL_get hx, Option.map, cV, cL_okp h1 (Nat.le_of_lt hi), x_g]
      rw [List.set_append_left _ _ (by rw [cL_len]; exact hi)]
      have e : cL (lv.set i (some (.inl (x + n)))) = (cL lv).set i (some (.int (Int32.ofInt x + Int32.ofInt n))) := by
        rw [← Int32.ofInt_add]; simp [cL, List.map_set, cV]
      rw [e] at h4
      exact h4
    · exact h.elim
  | iadd =>
    simp only [i_s1] at h
    split at h
    · rename_i y x st
      rcases h with ⟨h1, h⟩ | h
      · have h4 := hK _ _ _ _ _ h hl (okS_c h1 (okS_t (okS_t hs))) hf ht htl
        simp only [List.map, cV, Int32.ofInt_add] at h4
        exact h4
      · have h4 := hK _ _ _ _ _ h hl (okS_c (w32_inr _) (okS_t (okS_t hs))) hf ht htl
        simp only [List.map, cV, w32_ofI, Int32.ofInt_add] at h4
        exact h4
    · exact h.elim
  | isub =>
    simp only [i_s1] at h
    split at h
    · rename_i y x st
      rcases h with ⟨h1, h⟩ | h
      · have h4 := hK _ _ _ _ _ h hl (okS_c h1 (okS_t (okS_t hs))) hf ht htl
        simp only [List.map, cV, Int32.ofInt_sub] at h4
        exact h4
      · have h4 := hK _ _ _ _ _ h hl (okS_c (w32_inr _) (okS_t (okS_t hs))) hf ht htl
        simp only [List.map, cV, w32_ofI, Int32.ofInt_sub] at h4
        exact h4
    · exact h.elim
  | imul =>
    simp only [i_s1] at h
    split at h
    · rename_i y x st
      rcases h with ⟨h1, h⟩ | h
      · have h4 := hK _ _ _ _ _ h hl (okS_c h1 (okS_t (okS_t hs))) hf ht htl
        simp only [List.map, cV, Int32.ofInt_mul] at h4
        exact h4
      · have h4 := hK _ _ _ _ _ h hl (okS_c (w32_inr _) (okS_t (okS_t hs))) hf ht htl
        simp only [List.map, cV, w32_ofI, Int32.ofInt_mul] at h4
        exact h4
    · exact h.elim
  | idiv =>
    simp only [i_s1] at h
    split at h
    · rename_i y x st
      obtain ⟨h0, h1, h⟩ := h
      have hy : inr y := okS_h hs
      have hx : inr x := okS_h (okS_t hs)
      have h4 := hK _ _ _ _ _ h hl (okS_c h1 (okS_t (okS_t hs))) hf ht htl
      simp only [x_s1, List.map, cV, if_neg (ofI_ne0 hy h0), i_tdiv x y hx hy]
      exact h4
    · exact h.elim
  | irem =>
    simp only [i_s1] at h
    split at h
    · rename_i y x st
      obtain ⟨h0, h1, h⟩ := h
      have hy : inr y := okS_h hs
      have hx : inr x := okS_h (okS_t hs)
      have h4 := hK _ _ _ _ _ h hl (okS_c h1 (okS_t (okS_t hs))) hf ht htl
      simp only [x_s1, List.map, cV, if_neg (ofI_ne0 hy h0), i_tmod x y hx hy]
      exact h4
    · exact h.elim
  | iand =>
    simp only [i_s1] at h
    split at h
    · rename_i y x st
      have h4 := hK _ _ _ _ _ h hl (okS_c (inr_toInt _) (okS_t (okS_t hs))) hf ht htl
      simp only [List.map, cV, b_and, Int32.ofInt_toInt] at h4
      exact h4
    · exact h.elim
  | ior =>
    simp only [i_s1] at h
    split at h
    · rename_i y x st
      have h4 := hK _ _ _ _ _ h hl (okS_c (inr_toInt _) (okS_t (okS_t hs))) hf ht htl
      simp only [List.map, cV, b_or, Int32.ofInt_toInt] at h4
      exact h4
    · exact h.elim
  | ishl =>
    simp only [i_s1] at h
    split at h
    · rename_i y x st
      have h4 := hK _ _ _ _ _ h hl (okS_c (inr_toInt _) (okS_t (okS_t hs))) hf ht htl
      simp only [List.map, cV, b_shl, Int32.ofInt_toInt] at h4
      exact h4
    · exact h.elim
  | ishr =>
    simp only [i_s1] at h
    split at h
    · rename_i y x st
      have h4 := hK _ _ _ _ _ h hl (okS_c (inr_toInt _) (okS_t (okS_t hs))) hf ht htl
      simp only [List.map, cV, b_shr, Int32.ofInt_toInt] at h4
      exact h4
    · exact h.elim
  | iushr =>
    simp only [i_s1] at h
    split at h
    · rename_i y x st
      have h4 := hK _ _ _ _ _ h hl (okS_c (inr_toInt _) (okS_t (okS_t hs))) hf ht htl
      simp only [List.map, cV, b_ushr, Int32.ofInt_toInt] at h4
      exact h4
    · exact h.elim
  | ladd =>
    simp only [i_s1] at h
    split at h
    · exact hK _ _ _ _ _ h hl (okS_c trivial (okS_t (okS_t hs))) hf ht htl
    · exact h.elim
  | lmul =>
    simp only [i_s1] at h
    split at h
    · exact hK _ _ _ _ _ h hl (okS_c trivial (okS_t (okS_t hs))) hf ht htl
    · exact h.elim
  | land =>
    simp only [i_s1] at h
    split at h
    · exact hK _ _ _ _ _ h hl (okS_c trivial (okS_t (okS_t hs))) hf ht htl
    · exact h.elim
  | lor =>
    simp only [i_s1] at h
    split at h
    · exact hK _ _ _ _ _ h hl (okS_c trivial (okS_t (okS_t hs))) hf ht htl
    · exact h.elim
  | ldiv =>
    simp only [i_s1] at h
    split at h
    · have h4 := hK _ _ _ _ _ h.2 hl (okS_c trivial (okS_t (okS_t hs))) hf ht htl
      simp only [x_s1, List.map, cV, if_neg h.1]
      exact h4
    · exact h.elim
  | lshl =>
    simp only [i_s1] at h
    split at h
    · exact hK _ _ _ _ _ h hl (okS_c trivial (okS_t (okS_t hs))) hf ht htl
    · exact h.elim
  | lushr =>
    simp only [i_s1] at h
    split at h
    · exact hK _ _ _ _ _ h hl (okS_c trivial (okS_t (okS_t hs))) hf ht htl
    · exact h.elim
  | lcmp =>
    simp only [i_s1] at h
    split at h
    · have h4 := hK _ _ _ _ _ h hl (okS_c (inr_toInt _) (okS_t (okS_t hs))) hf ht htl
      simp only [List.map, cV, Int32.ofInt_toInt] at h4
      exact h4
    · exact h.elim
  | i2l =>
    simp only [i_s1] at h
    split at h
    · exact hK _ _ _ _ _ h hl (okS_c trivial (okS_t hs)) hf ht htl
    · exact h.elim
  | l2i =>
    simp only [i_s1] at h
    split at h
    · have h4 := hK _ _ _ _ _ h hl (okS_c (inr_toInt _) (okS_t hs)) hf ht htl
      simp only [List.map, cV, b_l2i, Int32.ofInt_toInt] at h4
      exact h4
    · exact h.elim
  | i2c =>
    simp only [i_s1] at h
    split at h
    · have h4 := hK _ _ _ _ _ h hl (okS_c (inr_toInt _) (okS_t hs)) hf ht htl
      simp only [List.map, cV, b_i2c, Int32.ofInt_toInt] at h4
      exact h4
    · exact h.elim
  | dup =>
    simp only [i_s1] at h
    split at h
    · exact hK _ _ _ _ _ h hl (okS_c (okS_h hs) hs) hf ht htl
    · exact hK _ _ _ _ _ h hl (okS_c (okS_h hs) hs) hf ht htl
    · exact h.elim
  | dup2 =>
    simp only [i_s1] at h
    split at h
    · exact hK _ _ _ _ _ h hl (okS_c (okS_h hs) (okS_c (okS_h (okS_t hs)) hs)) hf ht htl
    · exact h.elim
  | arraylength =>
    simp only [i_s1] at h
    split at h
    · split at h
      · rename_i ha
        obtain ⟨h1, h⟩ := i_g_t h
        have h1 := Nat.le_of_ble_eq_true h1
        have h4 := hK _ _ _ _ _ h hl (okS_c (show okv (.inl _) from ⟨by omega, by omega⟩) (okS_t hs)) hf ht htl
        simp only [x_s1, List.map, cV, cT, ha]
        simp only [List.map, cV, Int32.ofInt_eq_ofNat, cT] at h4
        exact h4
      · rename_i ha
        obtain ⟨h1, h⟩ := i_g_t h
        have h1 := Nat.le_of_ble_eq_true h1
        have h4 := hK _ _ _ _ _ h hl (okS_c (show okv (.inl _) from ⟨by omega, by omega⟩) (okS_t hs)) hf ht htl
        simp only [x_s1, List.map, cV, cT, ha]
        simp only [List.map, cV, Int32.ofInt_eq_ofNat, cT] at h4
        exact h4
      · exact h.elim
    · split at h
      · rename_i hq
        obtain ⟨h1, h⟩ := h
        have h4 := hK _ _ _ _ _ h hl (okS_c (show okv (.inl _) from ⟨by omega, by omega⟩) (okS_t hs)) hf ht htl
        simp only [x_s1, List.map, cV, hq]
        simp only [List.map, cV, Int32.ofInt_eq_ofNat] at h4
        exact h4
      · exact h.elim
    · exact h.elim
  | invokeinterface ci k =>
    simp only [i_s1] at h
    split at h
    · split at h
      · rename_i o ha
        obtain ⟨h1, h⟩ := i_g_t h
        simp only [x_s1, List.map, cV, cT, ha, h1, x_g]
        split at h
        · rename_i hk
          have h4 := hK _ _ _ _ _ h hl (okS_c (hf _ _) (okS_t hs)) hf ht htl
          simp only [hk, cF_o ha]
          exact h4
        · rename_i hk
          have h4 := hK _ _ _ _ _ h hl (okS_c (kS_ref ha hk) (okS_t hs)) hf ht htl
          simp only [hk]
          exact h4
        · exact h.elim
      · exact h.elim
    · exact h.elim
  | iaload =>
    simp only [i_s1] at h
    split at h
    · split at h
      · rename_i ha
        obtain ⟨h1, h⟩ := h
        have hi := okS_h hs
        have h4 := hK _ _ _ _ _ h hl (okS_c (hf _ _) (okS_t (okS_t hs))) hf ht htl
        simp only [x_s1, List.map, cV, cT, ha, i_in hi h1, if_true, ofI_clamp hi, cF_a ha h1.1]
        exact h4
      · exact h.elim
    · split at h
      · rename_i hq
        obtain ⟨h1, h⟩ := h
        have hi := okS_h hs
        have h4 := hK _ _ _ _ _ h hl (okS_c (inr_toInt _) (okS_t (okS_t hs))) hf ht htl
        simp only [x_s1, List.map, cV, hq, i_in hi h1, if_true, ofI_clamp hi]
        simp only [List.map, cV, Int32.ofInt_toInt] at h4
        exact h4
      · exact h.elim
    · exact h.elim
  | baload =>
    simp only [i_s1] at h
    split at h
    · split at h
      · rename_i ha
        obtain ⟨h1, h⟩ := h
        have hi := okS_h hs
        have h4 := hK _ _ _ _ _ h hl (okS_c (hf _ _) (okS_t (okS_t hs))) hf ht htl
        simp only [x_s1, List.map, cV, cT, ha, i_in hi h1, if_true, ofI_clamp hi, cF_a ha h1.1]
        exact h4
      · exact h.elim
    · exact h.elim
  | laload =>
    simp only [i_s1] at h
    split at h
    · split at h
      · rename_i ha
        obtain ⟨h1, h⟩ := h
        have hi := okS_h hs
        have h4 := hK _ _ _ _ _ h hl (okS_c trivial (okS_t (okS_t hs))) hf ht htl
        simp only [x_s1, List.map, cV, cT, ha, i_in hi h1, if_true, ofI_clamp hi, cG_a h1.1]
        exact h4
      · exact h.elim
    · exact h.elim
  | iastore =>
    simp only [i_s1] at h
    split at h
    · split at h
      · rename_i ha
        obtain ⟨h1, h⟩ := h
        have hi := okS_h (okS_t hs)
        have h4 := hK _ _ _ _ _ h hl (okS_t (okS_t (okS_t hs))) (InR_wv hf (okS_h hs)) ht htl
        simp only [x_s1, List.map, cV, cT, ha, i_in hi h1, if_true, ofI_clamp hi, x_si, cF_arr ha h1.1]
        exact h4
      · exact h.elim
    · exact h.elim
  | bastore =>
    simp only [i_s1] at h
    split at h
    · split at h
      · rename_i ha
        obtain ⟨h1, h2, h⟩ := h
        have hi := okS_h (okS_t hs)
        have h4 := hK _ _ _ _ _ h hl (okS_t (okS_t (okS_t hs))) (InR_wv hf (okS_h hs)) ht htl
        simp only [x_s1, List.map, cV, cT, ha, i_in hi h1, if_true, ofI_clamp hi, x_si, i_nar h2, cF_arr ha h1.1]
        exact h4
      · exact h.elim
    · exact h.elim
  | lastore =>
    simp only [i_s1] at h
    split at h
    · split at h
      · rename_i ha
        obtain ⟨h1, h⟩ := h
        have hi := okS_h (okS_t hs)
        have h4 := hK _ _ _ _ _ h hl (okS_t (okS_t (okS_t hs))) hf ht htl
        simp only [x_s1, List.map, cV, cT, ha, i_in hi h1, if_true, ofI_clamp hi, x_sl, cG_wg h1.1]
        exact h4
      · exact h.elim
    · exact h.elim
  | multianewarray ci k =>
    simp only [i_s1] at h
    split at h
    · split at h
      · rename_i o ha
        obtain ⟨h1, h⟩ := i_g_t h
        simp only [x_s1, List.map, cV, cT, ha, h1, x_g]
        split at h
        · rename_i hk
          simp only [hk]
          split at h
          · rename_i hb
            have h4 := hK _ _ _ _ _ h hl (okS_t (okS_t hs)) (InR_wv hf (okS_h hs)) ht htl
            simp only [hb, Bool.true_or, x_si, cF_put ha]
            exact h4
          · rename_i hb
            have h4 := hK _ _ _ _ _ h.2 hl (okS_t (okS_t hs)) (InR_wv hf (okS_h hs)) ht htl
            simp only [hb, Bool.false_or, i_01 h.1, x_si, cF_put ha]
            exact h4
        · exact h.elim
      · exact h.elim
    · exact h.elim
  | invokedynamic b =>
    match b, h with
    | 0, h =>
      simp only [i_s1] at h
      split at h
      · obtain ⟨h1, h⟩ := i_g_t h
        have hy := okS_h hs
        have hx := okS_h (okS_t hs)
        have h4 := hK _ _ _ _ _ h hl (okS_c (show okv (.inl _) from by simp only [okv] at hx hy; exact ⟨by omega, by omega⟩) (okS_t (okS_t hs))) hf ht htl
        simp only [x_s1, List.map, cV, i_sm_x, h1, x_g, i_max _ _ hx hy]
        exact h4
      · exact h.elim
    | 1, h =>
      simp only [i_s1] at h
      split at h
      · obtain ⟨h1, h⟩ := i_g_t h
        have hy := okS_h hs
        have hx := okS_h (okS_t hs)
        have h4 := hK _ _ _ _ _ h hl (okS_c (show okv (.inl _) from by simp only [okv] at hx hy; exact ⟨by omega, by omega⟩) (okS_t (okS_t hs))) hf ht htl
        simp only [x_s1, List.map, cV, i_sm_x, h1, x_g, i_min _ _ hx hy]
        exact h4
      · exact h.elim
    | 2, h =>
      simp only [i_s1] at h
      split at h
      · split at h
        · rename_i n dp b sp a st' _ _ na nb ha hb
          obtain ⟨h1, h2, h⟩ := i_g_t h
          have hn := okS_h hs
          have hd := okS_h (okS_t hs)
          have hp := okS_h (okS_t (okS_t (okS_t hs)))
          have h4 := hK _ _ _ _ _ h hl (okS_t (okS_t (okS_t (okS_t (okS_t hs))))) (InR_acp hf) ht htl
          simp only [x_s1, List.map, cV, cT, ha, hb, i_sm_x, x_sf, ofI_clamp hn, ofI_clamp hd, ofI_clamp hp]
          rw [if_pos ⟨Nat.le_of_ble_eq_true h1, i_nn hp h2.1, i_nn hd h2.2.1, i_nn hn h2.2.2.1, by omega, by omega⟩, cF_acp ha hb h2.1 h2.2.1 h2.2.2.1]
          exact h4
        · exact h.elim
      · exact h.elim
    | b + 3, h => exact h.elim
  | _ => exact h.elim
end I1
end
section
theorem cL_take {M m : Nat} {lv : iL} {tl : x_L} (hl : okL lv) (h : lv.length + tl.length = M) (ht : x_okl 106 tl = true) : ∃ tl', cL lv ++ tl = cL (lv.take m) ++ tl' ∧ (lv.take m).length + tl'.length = M ∧ x_okl 106 tl' = true := by
  refine ⟨cL (lv.drop m) ++ tl, ?_, ?_, okl_all (fun v hv => hl v (List.mem_of_mem_drop hv)) ht⟩
  · rw [← List.append_assoc]
    congr 1
    unfold cL
    rw [← List.map_append, List.take_append_drop]
  · rw [List.length_append, cL_len]
    have : (lv.take m).length + (lv.drop m).length = lv.length := by rw [← List.length_append, List.take_append_drop]
    omega
theorem okL_take {m : Nat} {lv : iL} (hl : okL lv) : okL (lv.take m) := fun v hv => hl v (List.mem_of_mem_take hv)
theorem i_tb_ok {x : Int} {K : Int → Prop} {d : Int} : ∀ (l : List Int) (lo : Int), i_tb x K d lo l → K (if x < lo then d else (l[(x - lo).toNat]?).getD d) := by
  intro l
  induction l with
  | nil => intro lo h; simpa [i_tb] using h
  | cons t l ih =>
    intro lo h
    obtain ⟨h1, h2⟩ := h
    by_cases e : x = lo
    · rw [if_neg (by omega), show (x - lo).toNat = 0 by omega]
      exact h1 e
    · have h3 := ih (lo + 1) (h2 e)
      by_cases h4 : x < lo
      · rw [if_pos (by omega)] at h3; rw [if_pos h4]; exact h3
      · rw [if_neg (by omega)] at h3
        rw [if_neg h4, show (x - lo).toNat = (x - (lo + 1)).toNat + 1 by omega]
        exact h3
theorem i_lk_ok {x : Int} {K : Int → Prop} {d : Int} : ∀ (l : List (Int × Int)), i_lk x K d l → K (Op.lookupswitch.offset l d x) := by
  intro l
  induction l with
  | nil => intro h; exact h
  | cons t l ih =>
    intro h
    obtain ⟨a, o⟩ := t
    obtain ⟨h1, h2⟩ := h
    rw [Op.lookupswitch.offset_cons]
    by_cases e : x = a
    · rw [if_pos e.symm]; exact h1 e
    · rw [if_neg (fun h => e h.symm)]; exact ih (h2 e)
theorem i_br_ok {P : x_Z → Prop} {c : ClassFile.Cond} {x y : Int} {A B : Prop} {a b : x_Z} (hx : inr x) (hy : inr y) (h : i_br c x y A B) (ha : A → P a) (hb : B → P b) : P (if x_cmp c (Int32.ofInt x) (Int32.ofInt y) = true then a else b) := by
  have e1 : Int32.ofInt x = Int32.ofInt y ↔ x = y := by rw [← Int32.toInt_inj, ofI_toInt hx, ofI_toInt hy]
  have e2 : Int32.ofInt x < Int32.ofInt y ↔ x < y := by rw [Int32.lt_iff_toInt_lt, ofI_toInt hx, ofI_toInt hy]
  have e3 : Int32.ofInt y < Int32.ofInt x ↔ y < x := by rw [Int32.lt_iff_toInt_lt, ofI_toInt hx, ofI_toInt hy]
  have e4 : Int32.ofInt x ≤ Int32.ofInt y ↔ ¬ y < x := by rw [Int32.le_iff_toInt_le, ofI_toInt hx, ofI_toInt hy]; omega
  have e5 : Int32.ofInt y ≤ Int32.ofInt x ↔ ¬ x < y := by rw [Int32.le_iff_toInt_le, ofI_toInt hx, ofI_toInt hy]; omega
  cases c
  · simp only [x_cmp, e1, decide_eq_true_eq]
    by_cases hh : x = y
    · rw [if_pos hh]; exact ha (h.1 hh)
    · rw [if_neg hh]; exact hb (h.2 hh)
  · by_cases hh : x = y
    · simp only [x_cmp, e1, hh, decide_true, Bool.not_true, Bool.false_eq_true, if_false]; exact hb (h.1 hh)
    · simp only [x_cmp, e1, hh, decide_false, Bool.not_false, if_true]; exact ha (h.2 hh)
  · simp only [x_cmp, e2, decide_eq_true_eq]
    by_cases hh : x < y
    · rw [if_pos hh]; exact ha (h.1 hh)
    · rw [if_neg hh]; exact hb (h.2 hh)
  · simp only [x_cmp, e5, decide_eq_true_eq]
    by_cases hh : x < y
    · rw [if_neg (fun k => k hh)]; exact hb (h.1 hh)
    · rw [if_pos hh]; exact ha (h.2 hh)
  · simp only [x_cmp, e3, decide_eq_true_eq]
    by_cases hh : y < x
    · rw [if_pos hh]; exact ha (h.1 hh)
    · rw [if_neg hh]; exact hb (h.2 hh)
  · simp only [x_cmp, e4, decide_eq_true_eq]
    by_cases hh : y < x
    · rw [if_neg (fun k => k hh)]; exact hb (h.1 hh)
    · rw [if_pos hh]; exact ha (h.2 hh)
theorem zOK_bd {R Q : Option iv → iF → iG → Prop} {z : x_Z} {K : Option Value → x_T → x_Z} (h : zOK R z) (hk : ∀ v f g, InR f → (∀ w, v = some w → okv w) → R v f g → zOK Q (K (v.map cV) (cT f g))) : zOK Q (x_bd z K) := by
  obtain ⟨v, f, g, rfl, h1, h2, h3⟩ := h
  exact hk v f g h1 h2 h3
theorem okS_app {v : Option iv} {r : List iv} (hv : ∀ w, v = some w → okv w) (hr : okS r) : okS (v.toList ++ r) := by
  intro w hw
  rcases List.mem_append.mp hw with h | h
  · cases v with
    | none => simp at h
    | some u => simp at h; subst h; exact hv _ rfl
  · exact hr w h
theorem map_tol (v : Option iv) (r : List iv) : (v.toList ++ r).map cV = (v.map cV).toList ++ r.map cV := by
  cases v <;> simp
section I2
variable {d n M p0 : Nat} {XT : x_Xt} {cuts : List (Nat × Nat)} {O : Nat → List iv → iF → iG → (Option iv → iF → iG → Prop) → Prop} {J : Bool → Nat → iL → List iv → iF → iG → Prop} {Q : Option iv → iF → iG → Prop} {code : List Instr}
set_option maxHeartbeats 4000000 in
theorem i_ev_ok (hO : ∀ μ vs f g R, O μ vs f g R → wq d μ vs f g R)
  (hJf : ∀ j lv st f g tl k', p0 < j → J false j lv st f g → okL lv → okS st → InR f → lv.length + tl.length = M → x_okl 106 tl = true → 700 ≤ k' + j → zOK Q (x_ev kE XT (pe d) (x_lp kE XT (pe d) code 700 n) code k' (code.drop j) (cL lv ++ tl) (st.map cV) (cT f g)))
  (hJb : ∀ j lv f g tl, J true j lv [] f g → okL lv → InR f → lv.length + tl.length = M → x_okl 106 tl = true → zOK Q (x_lp kE XT (pe d) code 700 n j (cL lv ++ tl) (cT f g))) :
  ∀ k pc rest lv st f g tl k', i_wp M XT cuts O J Q code k pc rest lv st f g → rest = code.drop pc → p0 ≤ pc → okL lv → okS st → InR f → lv.length + tl.length = M → x_okl 106 tl = true → k ≤ k' → 700 ≤ k' + pc → zOK Q (x_ev kE XT (pe d) (x_lp kE XT (pe d) code 700 n) code k' rest (cL lv ++ tl) (st.map cV) (cT f g)) := by
  intro k
  induction k with
  | zero => intro pc rest lv st f g tl k' h; exact h.elim
  | succ k ih =>
    intro pc rest lv st f g tl k' h hr hp hl hs hf ht htl hk hk7
    obtain ⟨k', rfl⟩ : ∃ k2, k' = k2 + 1 := ⟨k' - 1, by omega⟩
    have go : ∀ t lv st f g tl, pc < t → (match i_ck cuts t with
        | some m => J false t (lv.take m) st f g
        | none => i_wp M XT cuts O J Q code k t (code.drop t) lv st f g) → okL lv → okS st → InR f → lv.length + tl.length = M → x_okl 106 tl = true → zOK Q (x_ev kE XT (pe d) (x_lp kE XT (pe d) code 700 n) code k' (code.drop t) (cL lv ++ tl) (st.map cV) (cT f g)) := by
      intro t lv st f g tl hpt h hl hs hf ht htl
      split at h
      · rename_i m _
        obtain ⟨tl', e, e1, e2⟩ := cL_take (m := m) hl ht htl
        rw [e]
        exact hJf t _ st f g tl' k' (by omega) h (okL_take hl) hs hf e1 e2 (by omega)
      · exact ih t _ lv st f g tl k' h rfl (by omega) hl hs hf ht htl (by omega) (by omega)
    have back : ∀ t lv f g tl, (match i_ck cuts t with
        | some m => J true t (lv.take m) [] f g
        | none => False) → okL lv → InR f → lv.length + tl.length = M → x_okl 106 tl = true → zOK Q (x_lp kE XT (pe d) code 700 n t (cL lv ++ tl) (cT f g)) := by
      intro t lv f g tl h hl hf ht htl
      split at h
      · rename_i m _
        obtain ⟨tl', e, e1, e2⟩ := cL_take (m := m) hl ht htl
        rw [e]
        exact hJb t _ f g tl' h (okL_take hl) hf e1 e2
      · exact h.elim
    cases rest with
    | nil => exact h.elim
    | cons i rest =>
      have hr1 : rest = code.drop (pc + 1) := by
        have := congrArg List.tail hr
        simpa [List.tail_drop] using this
      have nx : ∀ lv st f g tl, (match i_ck cuts (pc + 1) with
        | some m => J false (pc + 1) (lv.take m) st f g
        | none => i_wp M XT cuts O J Q code k (pc + 1) rest lv st f g) → okL lv → okS st → InR f → lv.length + tl.length = M → x_okl 106 tl = true → zOK Q (x_ev kE XT (pe d) (x_lp kE XT (pe d) code 700 n) code k' rest (cL lv ++ tl) (st.map cV) (cT f g)) := by
        intro lv st f g tl h
        rw [hr1] at h ⊢
        exact go (pc + 1) lv st f g tl (by omega) h
      have plain : ∀ i, i_s1 M XT i lv st f g (fun lv st f g => match i_ck cuts (pc + 1) with
        | some m => J false (pc + 1) (lv.take m) st f g
        | none => i_wp M XT cuts O J Q code k (pc + 1) rest lv st f g) → zOK Q (x_s1 XT i (cL lv ++ tl) (st.map cV) (cT f g) (fun lv st T => x_ev kE XT (pe d) (x_lp kE XT (pe d) code 700 n) code k' rest lv st T)) := fun i h => i_s1_ok (P := zOK Q) i hl hs hf ht htl h (fun lv st f g tl h hl hs hf ht htl => nx lv st f g tl h hl hs hf ht htl)
      have plain1 := plain i
      clear plain
      cases i with
      | goto j =>
        obtain ⟨h1, h⟩ := i_g_t h
        exact go j.toNat lv st f g tl (Nat.blt_eq.mp h1) h hl hs hf ht htl
      | jsr_w j =>
        cases st with
        | nil => exact back j.toNat lv f g tl h hl hf ht htl
        | cons v st => exact h.elim
      | ifCond c j =>
        cases st with
        | nil => exact h.elim
        | cons v st =>
          rcases v with x | x | x | x
          · refine i_br_ok (P := zOK Q) (okS_h hs) (show inr 0 from by decide) h (fun h => ?_) (fun h => nx lv st f g tl h hl (okS_t hs) hf ht htl)
            cases j with
            | ofNat t =>
              obtain ⟨h1, h⟩ := i_g_t h
              exact go t lv st f g tl (Nat.blt_eq.mp h1) h hl (okS_t hs) hf ht htl
            | negSucc t =>
              cases st with
              | nil => exact back t lv f g tl h hl hf ht htl
              | cons v st => exact h.elim
          · exact h.elim
          · exact h.elim
          · exact h.elim
      | if_icmp c j =>
        cases st with
        | nil => exact h.elim
        | cons v st =>
          cases st with
          | nil => rcases v with x | x | x | x <;> exact h.elim
          | cons u st =>
            rcases v with y | x | x | x
            · rcases u with x | x | x | x
              · refine i_br_ok (P := zOK Q) (okS_h (okS_t hs)) (okS_h hs) h (fun h => ?_) (fun h => nx lv st f g tl h hl (okS_t (okS_t hs)) hf ht htl)
                cases j with
                | ofNat t =>
                  obtain ⟨h1, h⟩ := i_g_t h
                  exact go t lv st f g tl (Nat.blt_eq.mp h1) h hl (okS_t (okS_t hs)) hf ht htl
                | negSucc t =>
                  cases st with
                  | nil => exact back t lv f g tl h hl hf ht htl
                  | cons v st => exact h.elim
              · exact h.elim
              · exact h.elim
              · exact h.elim
            · exact h.elim
            · exact h.elim
            · exact h.elim
      | tableswitch d0 lo hi offs =>
        cases st with
        | nil => exact h.elim
        | cons v st =>
          rcases v with x | x | x | x
          · have h1 := i_tb_ok _ _ h
            obtain ⟨h2, h1⟩ := i_g_t h1
            have h3 := go _ lv st f g tl (Nat.blt_eq.mp h2) h1 hl (okS_t hs) hf ht htl
            have e : x_pick lo offs.toList d0 (Int32.ofInt x) = if x < lo then d0 else (offs.toList[(x - lo).toNat]?).getD d0 := by unfold x_pick; rw [ofI_toInt (okS_h hs)]
            rw [← e] at h3
            exact h3
          · exact h.elim
          · exact h.elim
          · exact h.elim
      | lookupswitch d0 ps =>
        cases st with
        | nil => exact h.elim
        | cons v st =>
          rcases v with x | x | x | x
          · have h1 := i_lk_ok _ h
            obtain ⟨h2, h1⟩ := i_g_t h1
            have h3 := go _ lv st f g tl (Nat.blt_eq.mp h2) h1 hl (okS_t hs) hf ht htl
            rw [← ofI_toInt (z := x) (okS_h hs)] at h3
            exact h3
          · exact h.elim
          · exact h.elim
          · exact h.elim
      | return_ =>
        cases st with
        | nil => exact ⟨none, f, g, rfl, hf, (fun w hw => by cases hw), h⟩
        | cons v st => exact h.elim
      | ireturn =>
        cases st with
        | nil => exact h.elim
        | cons v st =>
          cases st with
          | cons u st => rcases v with x | x | x | x <;> exact h.elim
          | nil =>
            rcases v with x | x | x | x
            · exact ⟨some (.inl x), f, g, rfl, hf, (fun w hw => by cases hw; exact okS_h hs), h⟩
            · exact h.elim
            · exact h.elim
            · exact h.elim
      | areturn =>
        cases st with
        | nil => exact h.elim
        | cons v st =>
          cases st with
          | cons u st => rcases v with x | x | x | x <;> exact h.elim
          | nil =>
            rcases v with x | x | x | x
            · refine ⟨some (.inl x), f, g, ?_, hf, (fun w hw => by cases hw; exact okS_h hs), h.2⟩
              show x_g (decide (Int32.ofInt x = 0 ∨ Int32.ofInt x = 1)) _ = _
              rw [i_01 h.1]
              rfl
            · exact h.elim
            · exact h.elim
            · exact h.elim
      | lreturn =>
        cases st with
        | nil => exact h.elim
        | cons v st =>
          cases st with
          | cons u st => rcases v with x | x | x | x <;> exact h.elim
          | nil =>
            rcases v with x | x | x | x
            · exact h.elim
            · exact h.elim
            · exact ⟨some (.inr (.inr (.inl x))), f, g, rfl, hf, (fun w hw => by cases hw; trivial), h⟩
            · exact h.elim
      | invokevirtual μ =>
        simp only [i_wp] at h
        split at h
        · rename_i b r hdr
          split at h
          · rename_i o ho
            obtain ⟨h1, h⟩ := i_g_t h
            simp only [Bool.and_eq_true] at h1
            have hsr : okS (.inr (.inl b) :: r) := fun v hv => hs v (List.mem_of_mem_drop (by rw [hdr]; exact hv))
            have e1 : (st.map cV).drop (kE.2.1 μ).1 = .ref b :: r.map cV := by rw [← List.map_drop, hdr]; rfl
            have e2 : ((st.map cV).take (kE.2.1 μ).1).reverse = (st.take (kE.2.1 μ).1).reverse.map cV := by rw [← List.map_take, List.map_reverse]
            have hq := hO _ _ _ _ _ h (okS_c (okS_h hsr) (fun v hv => hs v (List.mem_of_mem_take (List.mem_reverse.mp hv)))) hf
            have hg : (Nat.beq o.1 (kE.2.1 μ).2 && (Nat.ble (x_sm (r.map cV)) 8 && (x_okl 106 (cL lv ++ tl) && x_oks 106 (r.map cV)))) = true := by rw [h1.1, i_sm_x, h1.2, okl_all hl htl, oks_all (okS_t hsr)]; rfl
            have := zOK_bd (Q := Q) (K := fun v T' => x_ev kE XT (pe d) (x_lp kE XT (pe d) code 700 n) code k' rest (cL lv ++ tl) (v.toList ++ r.map cV) T') hq (fun v f g hf hv hR => by rw [← map_tol]; exact nx lv _ f g tl hR hl (okS_app hv (okS_t hsr)) hf ht htl)
            simp only [x_ev, e1, e2, cT, ho]
            rw [show x_g (Nat.beq o.1 (kE.2.1 μ).2 && (Nat.ble (x_sm (r.map cV)) 8 && (x_okl kS.length (cL lv ++ tl) && x_oks kS.length (r.map cV)))) = x_g true from by rw [show kS.length = 106 from rfl, hg]]
            exact this
          · exact h.elim
        · exact h.elim
      | checkcast μ =>
        simp only [i_wp] at h
        split at h
        · rename_i b r hdr
          obtain ⟨h1, h⟩ := i_g_t h
          simp only [Bool.and_eq_true] at h1
          have hsr : okS (.inr (.inr (.inr b)) :: r) := fun v hv => hs v (List.mem_of_mem_drop (by rw [hdr]; exact hv))
          have e1 : (st.map cV).drop (kE.2.1 μ).1 = .retAddr b :: r.map cV := by rw [← List.map_drop, hdr]; rfl
          have e2 : ((st.map cV).take (kE.2.1 μ).1).reverse = (st.take (kE.2.1 μ).1).reverse.map cV := by rw [← List.map_take, List.map_reverse]
          have hq := hO _ _ _ _ _ h (okS_c trivial (fun v hv => hs v (List.mem_of_mem_take (List.mem_reverse.mp hv)))) hf
          have hg : (Nat.blt b 2 && (Nat.ble (x_sm (r.map cV)) 8 && (x_okl 106 (cL lv ++ tl) && x_oks 106 (r.map cV)))) = true := by rw [h1.1, i_sm_x, h1.2, okl_all hl htl, oks_all (okS_t hsr)]; rfl
          have := zOK_bd (Q := Q) (K := fun v T' => x_ev kE XT (pe d) (x_lp kE XT (pe d) code 700 n) code k' rest (cL lv ++ tl) (v.toList ++ r.map cV) T') hq (fun v f g hf hv hR => by rw [← map_tol]; exact nx lv _ f g tl hR hl (okS_app hv (okS_t hsr)) hf ht htl)
          simp only [x_ev, e1, e2, cT]
          rw [show x_g (Nat.blt b 2 && (Nat.ble (x_sm (r.map cV)) 8 && (x_okl kS.length (cL lv ++ tl) && x_oks kS.length (r.map cV)))) = x_g true from by rw [show kS.length = 106 from rfl, hg]]
          exact this
        · exact h.elim
      | invokestatic μ =>
        obtain ⟨h1, h⟩ := i_g_t h
        simp only [Bool.and_eq_true] at h1
        have hsr : okS (st.drop (kE.2.1 μ).1) := fun v hv => hs v (List.mem_of_mem_drop hv)
        have e1 : (st.map cV).drop (kE.2.1 μ).1 = (st.drop (kE.2.1 μ).1).map cV := by rw [← List.map_drop]
        have e2 : ((st.map cV).take (kE.2.1 μ).1).reverse = (st.take (kE.2.1 μ).1).reverse.map cV := by rw [← List.map_take, List.map_reverse]
        have hq := hO _ _ _ _ _ h (fun v hv => hs v (List.mem_of_mem_take (List.mem_reverse.mp hv))) hf
        have hg : (Nat.ble (x_sm ((st.drop (kE.2.1 μ).1).map cV)) 8 && (Nat.ble (kE.2.1 μ).1 (st.map cV).length && (x_okl 106 (cL lv ++ tl) && x_oks 106 ((st.drop (kE.2.1 μ).1).map cV)))) = true := by rw [i_sm_x, h1.1, List.length_map, h1.2, okl_all hl htl, oks_all hsr]; rfl
        have := zOK_bd (Q := Q) (K := fun v T' => x_ev kE XT (pe d) (x_lp kE XT (pe d) code 700 n) code k' rest (cL lv ++ tl) (v.toList ++ (st.drop (kE.2.1 μ).1).map cV) T') hq (fun v f g hf hv hR => by rw [← map_tol]; exact nx lv _ f g tl hR hl (okS_app hv hsr) hf ht htl)
        simp only [x_ev, e1, e2, cT]
        rw [show x_g (Nat.ble (x_sm ((st.drop (kE.2.1 μ).1).map cV)) 8 && (Nat.ble (kE.2.1 μ).1 (st.map cV).length && (x_okl kS.length (cL lv ++ tl) && x_oks kS.length ((st.drop (kE.2.1 μ).1).map cV)))) = x_g true from by rw [show kS.length = 106 from rfl, hg]]
        exact this
      | new ci => exact h.elim
      | invokespecial μ => exact h.elim
      | _ => exact plain1 h
end I2
def i_ar : List iv → iL
  | [] => []
  | v :: l => match v with
    | .inr (.inr (.inl _)) => some v :: none :: i_ar l
    | _ => some v :: i_ar l
theorem i_ar_x (vs : List iv) : cL (i_ar vs) = x_ar (vs.map cV) := by
  induction vs with
  | nil => rfl
  | cons v l ih =>
    rcases v with x | x | x | x
    · show some _ :: cL (i_ar l) = _; rw [ih]; rfl
    · show some _ :: cL (i_ar l) = _; rw [ih]; rfl
    · show some _ :: none :: cL (i_ar l) = _; rw [ih]; rfl
    · show some _ :: cL (i_ar l) = _; rw [ih]; rfl
theorem i_ar_ok {vs : List iv} (h : okS vs) : okL (i_ar vs) := by
  induction vs with
  | nil => intro v hv; simp [i_ar] at hv
  | cons v l ih =>
    have ih := ih (okS_t h)
    have h0 := okS_h h
    intro w hw
    rcases v with x | x | x | x
    · rcases List.mem_cons.mp hw with e | hw
      · cases e; exact h0
      · exact ih w hw
    · rcases List.mem_cons.mp hw with e | hw
      · cases e; exact h0
      · exact ih w hw
    · rcases List.mem_cons.mp hw with e | hw
      · cases e; exact h0
      · rcases List.mem_cons.mp hw with e | hw
        · cases e
        · exact ih w hw
    · rcases List.mem_cons.mp hw with e | hw
      · cases e; exact h0
      · exact ih w hw
/-- calls of a run: what the callee's contract says -/
def hO_ (d : Nat) (O : Nat → List iv → iF → iG → (Option iv → iF → iG → Prop) → Prop) : Prop := ∀ {μ vs f g R}, wq d μ vs f g R → O μ vs f g R
/-- THE RULE FOR A METHOD: its cuts (places with the number of locals kept there), an invariant at each with a number that falls at each jump back -/
theorem i_meth {d μ : Nat} {vs : List iv} {f : iF} {g : iG} {Q : Option iv → iF → iG → Prop} (cuts : List (Nat × Nat)) (I : Nat → Nat → iL → List iv → iF → iG → Prop) (N : Nat) (hN : N ≤ 4000) (hμ : Nat.ble 1000 μ = false) (hv : Nat.ble (i_ar vs).length (kE.2.2.1 μ) = true)
  (hI : ∀ n j lv st f g, n ≤ N → I n j lv st f g → ∀ (O : Nat → List iv → iF → iG → (Option iv → iF → iG → Prop) → Prop) (J : Bool → Nat → iL → List iv → iF → iG → Prop), (∀ {μ vs f g R}, wq d μ vs f g R → O μ vs f g R) → (∀ {j' lv st f g} m, m ≤ n → I m j' lv st f g → J false j' lv st f g) → (∀ {j' lv f g} m, m < n → I m j' lv [] f g → J true j' lv [] f g) → i_wp (kE.2.2.1 μ) x_nx cuts O J Q (kE.2.2.2 μ) (700 - j) j ((kE.2.2.2 μ).drop j) lv st f g)
  (h0 : okS vs → InR f → ∀ (O : Nat → List iv → iF → iG → (Option iv → iF → iG → Prop) → Prop) (J : Bool → Nat → iL → List iv → iF → iG → Prop), (∀ {μ vs f g R}, wq d μ vs f g R → O μ vs f g R) → (∀ {j' lv st f g} m, m ≤ N → I m j' lv st f g → J false j' lv st f g) → i_wp (kE.2.2.1 μ) x_nx cuts O J Q (kE.2.2.2 μ) 700 0 (kE.2.2.2 μ) (i_ar vs) [] f g) : wq (d + 1) μ vs f g Q := by
  intro hvs hf
  have main : ∀ (nn r j m : Nat) lv st f g tl k', 700 - j ≤ r → m ≤ nn → m ≤ N → I m j lv st f g → okL lv → okS st → InR f → lv.length + tl.length = kE.2.2.1 μ → x_okl 106 tl = true → 700 ≤ k' + j → zOK Q (x_ev kE x_nx (pe d) (x_lp kE x_nx (pe d) (kE.2.2.2 μ) 700 nn) (kE.2.2.2 μ) k' ((kE.2.2.2 μ).drop j) (cL lv ++ tl) (st.map cV) (cT f g)) := by
    intro nn
    induction nn with
    | zero =>
      intro r
      induction r with
      | zero =>
        intro j m lv st f g tl k' hr hm hmN hi
        have := hI m j lv st f g hmN hi (fun μ vs f g R => wq d μ vs f g R) (fun b j lv st f g => (b = false ∧ ∃ m' , m' ≤ m ∧ I m' j lv st f g) ∨ (b = true ∧ ∃ m', m' < m ∧ I m' j lv st f g)) (fun h => h) (fun m' h1 h2 => Or.inl ⟨rfl, m', h1, h2⟩) (fun m' h1 h2 => Or.inr ⟨rfl, m', h1, h2⟩)
        rw [show 700 - j = 0 by omega] at this
        exact this.elim
      | succ r ihr =>
        intro j m lv st f g tl k' hr hm hmN hi hl hs hf ht htl hk
        have := hI m j lv st f g hmN hi (fun μ vs f g R => wq d μ vs f g R) (fun b j lv st f g => (b = false ∧ ∃ m' , m' ≤ m ∧ I m' j lv st f g) ∨ (b = true ∧ ∃ m', m' < m ∧ I m' j lv st f g)) (fun h => h) (fun m' h1 h2 => Or.inl ⟨rfl, m', h1, h2⟩) (fun m' h1 h2 => Or.inr ⟨rfl, m', h1, h2⟩)
        refine i_ev_ok (p0 := j) (O := fun μ vs f g R => wq d μ vs f g R) (fun μ vs f g R h => h) (fun j' lv st f g tl k' hj hJ hl hs hf ht htl hk => ?_) (fun j' lv f g tl hJ hl hf ht htl => ?_) (700 - j) j _ lv st f g tl k' this rfl (Nat.le_refl _) hl hs hf ht htl (by omega) hk
        · rcases hJ with ⟨-, m', h1, h2⟩ | ⟨h1, -⟩
          · exact ihr j' m' lv st f g tl k' (by omega) (by omega) (by omega) h2 hl hs hf ht htl hk
          · cases h1
        · rcases hJ with ⟨h1, -⟩ | ⟨-, m', h1, h2⟩
          · cases h1
          · omega
    | succ nn ihn =>
      intro r
      induction r with
      | zero =>
        intro j m lv st f g tl k' hr hm hmN hi
        have := hI m j lv st f g hmN hi (fun μ vs f g R => wq d μ vs f g R) (fun b j lv st f g => (b = false ∧ ∃ m' , m' ≤ m ∧ I m' j lv st f g) ∨ (b = true ∧ ∃ m', m' < m ∧ I m' j lv st f g)) (fun h => h) (fun m' h1 h2 => Or.inl ⟨rfl, m', h1, h2⟩) (fun m' h1 h2 => Or.inr ⟨rfl, m', h1, h2⟩)
        rw [show 700 - j = 0 by omega] at this
        exact this.elim
      | succ r ihr =>
        intro j m lv st f g tl k' hr hm hmN hi hl hs hf ht htl hk
        have := hI m j lv st f g hmN hi (fun μ vs f g R => wq d μ vs f g R) (fun b j lv st f g => (b = false ∧ ∃ m' , m' ≤ m ∧ I m' j lv st f g) ∨ (b = true ∧ ∃ m', m' < m ∧ I m' j lv st f g)) (fun h => h) (fun m' h1 h2 => Or.inl ⟨rfl, m', h1, h2⟩) (fun m' h1 h2 => Or.inr ⟨rfl, m', h1, h2⟩)
        refine i_ev_ok (p0 := j) (O := fun μ vs f g R => wq d μ vs f g R) (fun μ vs f g R h => h) (fun j' lv st f g tl k' hj hJ hl hs hf ht htl hk => ?_) (fun j' lv f g tl hJ hl hf ht htl => ?_) (700 - j) j _ lv st f g tl k' this rfl (Nat.le_refl _) hl hs hf ht htl (by omega) hk
        · rcases hJ with ⟨-, m', h1, h2⟩ | ⟨h1, -⟩
          · exact ihr j' m' lv st f g tl k' (by omega) (by omega) (by omega) h2 hl hs hf ht htl hk
          · cases h1
        · rcases hJ with ⟨h1, -⟩ | ⟨-, m', h1, h2⟩
          · cases h1
          · show zOK Q (x_ev _ _ _ _ _ _ _ _ [] _)
            exact ihn 700 j' m' lv [] f g tl 700 (by omega) (by omega) (by omega) h2 hl (fun v hv => by simp at hv) hf ht htl (by omega)
  have hv := Nat.le_of_ble_eq_true hv
  have hlen : (x_ar (vs.map cV)).length = (i_ar vs).length := by rw [← i_ar_x, cL_len]
  have h1 := h0 hvs hf (fun μ vs f g R => wq d μ vs f g R) (fun b j lv st f g => b = false ∧ ∃ m' , m' ≤ N ∧ I m' j lv st f g) (fun h => h) (fun m' h1 h2 => ⟨rfl, m', h1, h2⟩)
  have h2 : zOK Q (ze d μ 4000 700 (kE.2.2.2 μ) (x_ar (vs.map cV) ++ List.replicate (kE.2.2.1 μ - (x_ar (vs.map cV)).length) none) [] (cT f g)) := by
    rw [hlen, ← i_ar_x]
    refine i_ev_ok (p0 := 0) (O := fun μ vs f g R => wq d μ vs f g R) (fun μ vs f g R h => h) (fun j' lv st f g tl k' hj hJ hl hs hf ht htl hk => ?_) (fun j' lv f g tl hJ hl hf ht htl => ?_) 700 0 _ (i_ar vs) [] f g _ 700 h1 rfl (Nat.le_refl _) (i_ar_ok hvs) (fun v hv => by simp at hv) hf (by rw [List.length_replicate]; omega) ?_ (Nat.le_refl _) (Nat.le_refl _)
    · obtain ⟨-, m', h1, h2⟩ := hJ
      exact main 4000 700 j' m' lv st f g tl k' (by omega) (by omega) h1 h2 hl hs hf ht htl hk
    · obtain ⟨h1, -⟩ := hJ
      cases h1
    · exact List.all_eq_true.mpr (fun o ho => by rw [(List.mem_replicate.mp ho).2])
  obtain ⟨v, f', g', e, h3, h4, h5⟩ := h2
  exact ⟨v, f', g', e_in hμ (by rw [hlen]; exact hv) e, h3, h4, h5⟩
/-- a method without cuts -/
theorem i_meth0 {d μ : Nat} {vs : List iv} {f : iF} {g : iG} {Q : Option iv → iF → iG → Prop} (hμ : Nat.ble 1000 μ = false) (hv : Nat.ble (i_ar vs).length (kE.2.2.1 μ) = true)
  (h0 : ∀ (O : Nat → List iv → iF → iG → (Option iv → iF → iG → Prop) → Prop) (J : Bool → Nat → iL → List iv → iF → iG → Prop), (∀ {μ vs f g R}, wq d μ vs f g R → O μ vs f g R) → i_wp (kE.2.2.1 μ) x_nx [] O J Q (kE.2.2.2 μ) 700 0 (kE.2.2.2 μ) (i_ar vs) [] f g) : wq (d + 1) μ vs f g Q :=
  i_meth [] (fun _ _ _ _ _ _ => False) 0 (by omega) hμ hv (fun _ _ _ _ _ _ _ h => h.elim) (fun _ _ O J hO _ => h0 O J hO)
end
section
/-! ===== helpers for contracts ===== -/
theorem wq_mono {d μ : Nat} {vs : List iv} {f : iF} {g : iG} {Q R : Option iv → iF → iG → Prop} (h : wq d μ vs f g Q) (hr : ∀ v f' g', Q v f' g' → R v f' g') : wq d μ vs f g R := by
  intro h1 h2
  obtain ⟨v, f', g', e, a, b, c⟩ := h h1 h2
  exact ⟨v, f', g', e, a, b, hr _ _ _ c⟩
theorem wv_o {f : iF} {c c' : Nat} {k v : Int} (h : c' ≠ c) : wv f c k v c' = f c' := by
  funext k'
  unfold wv
  rw [if_neg (fun e => h e.1)]
theorem wv_s {f : iF} {c : Nat} {k v : Int} : wv f c k v c k = v := by
  unfold wv
  rw [if_pos ⟨rfl, rfl⟩]
theorem wv_k {f : iF} {c : Nat} {k k' v : Int} (h : ¬ k' = k) : wv f c k v c k' = f c k' := by
  unfold wv
  rw [if_neg (fun e => h e.2)]
theorem wv_i {f : iF} {c : Nat} {k k' v : Int} : wv f c k v c k' = if k' = k then v else f c k' := by
  unfold wv
  by_cases h : k' = k
  · rw [if_pos ⟨rfl, h⟩, if_pos h]
  · rw [if_neg (fun e => h e.2), if_neg h]
theorem acp_o {f : iF} {a b c' : Nat} {sp dp n : Int} (h : c' ≠ b) : acp f a b sp dp n c' = f c' := by
  funext k'
  unfold acp
  rw [if_neg (fun e => h e.1)]
theorem acp_i {f : iF} {a b : Nat} {sp dp n k : Int} : acp f a b sp dp n b k = if dp ≤ k ∧ k < dp + n then f a (sp + (k - dp)) else f b k := by
  unfold acp
  by_cases h : dp ≤ k ∧ k < dp + n
  · rw [if_pos ⟨rfl, h⟩, if_pos h]
  · rw [if_neg (fun e => h e.2), if_neg h]
/-- nothing but the cells S changed -/
def eqx (S : List Nat) (f f' : iF) : Prop := ∀ c, c ∉ S → f' c = f c
theorem eqx_rf {S : List Nat} {f : iF} : eqx S f f := fun _ _ => rfl
theorem eqx_tr {S : List Nat} {f f' f'' : iF} (h : eqx S f f') (h2 : eqx S f' f'') : eqx S f f'' := fun c hc => (h2 c hc).trans (h c hc)
theorem eqx_wv {S : List Nat} {f f' : iF} {c : Nat} {k v : Int} (h : eqx S f f') (hc : c ∈ S) : eqx S f (wv f' c k v) := by
  intro c' h'
  have hne : c' ≠ c := by intro e; subst e; exact h' hc
  rw [wv_o hne, h c' h']
theorem eqx_acp {S : List Nat} {f f' : iF} {a b : Nat} {sp dp n : Int} (h : eqx S f f') (hc : b ∈ S) : eqx S f (acp f' a b sp dp n) := by
  intro c' h'
  have hne : c' ≠ b := by intro e; subst e; exact h' hc
  rw [acp_o hne, h c' h']
theorem eqx_sub {S S' : List Nat} {f f' : iF} (h : eqx S f f') (hs : ∀ c ∈ S, c ∈ S') : eqx S' f f' := fun c hc => h c (fun h2 => hc (hs c h2))
end
section
section C1
variable {d : Nat} {f : iF} {g : iG} {Q : Option iv → iF → iG → Prop}
set_option maxRecDepth 100000 in
set_option maxHeartbeats 4000000 in
theorem c_isIn {v lo hi : Int} (hd : 1 ≤ d) (h1 : lo ≤ v → v ≤ hi → Q (some (iI 1)) f g) (h0 : ¬ (lo ≤ v ∧ v ≤ hi) → Q (some (iI 0)) f g) : wq d 1 [iR 79, iI v, iI lo, iI hi] f g Q := by
  obtain ⟨d, rfl⟩ : ∃ e, d = e + 1 := ⟨d - 1, by omega⟩
  refine i_meth0 rfl rfl (fun O J hO => ?_)
  refine ⟨fun (hh1 : v < lo) => ?_, fun (hh1 : ¬ v < lo) => ?_⟩
  · refine ⟨show 0 = 0 ∨ 0 = 1 from by decide, ?_⟩
    exact h0 (by omega)
  · refine ⟨fun (hh2 : hi < v) => ?_, fun (hh2 : ¬ hi < v) => ?_⟩
    · refine ⟨show 0 = 0 ∨ 0 = 1 from by decide, ?_⟩
      exact h0 (by omega)
    · refine ⟨show 1 = 0 ∨ 1 = 1 from by decide, ?_⟩
      exact h1 (by omega) (by omega)
set_option maxRecDepth 100000 in
set_option maxHeartbeats 4000000 in
theorem c_isAppr {a : Int} (hd : 1 ≤ d) (h1 : 0 ≤ a → a < f (fv 79 4) 0 → Q (some (iI 1)) f g) (h0 : ¬ (0 ≤ a ∧ a < f (fv 79 4) 0) → Q (some (iI 0)) f g) : wq d 6 [iR 79, iI a] f g Q := by
  obtain ⟨d, rfl⟩ : ∃ e, d = e + 1 := ⟨d - 1, by omega⟩
  refine i_meth0 rfl rfl (fun O J hO => ?_)
  refine ⟨fun (hh1 : a < 0) => ?_, fun (hh1 : ¬ a < 0) => ?_⟩
  · refine ⟨show 0 = 0 ∨ 0 = 1 from by decide, ?_⟩
    exact h0 (by omega)
  · refine ⟨fun (hh2 : a < f (fv 79 4) 0) => ?_, fun (hh2 : ¬ a < f (fv 79 4) 0) => ?_⟩
    · refine ⟨show 1 = 0 ∨ 1 = 1 from by decide, ?_⟩
      exact h1 (by omega) (by omega)
    · refine ⟨show 0 = 0 ∨ 0 = 1 from by decide, ?_⟩
      exact h0 (by omega)
set_option maxRecDepth 100000 in
set_option maxHeartbeats 4000000 in
theorem c_isOneOf {s : Int} (hd : 1 ≤ d) (h1 : 0 ≤ s → s < 29 → Q (some (iI 1)) f g) (h0 : ¬ (0 ≤ s ∧ s < 29) → Q (some (iI 0)) f g) : wq d 7 [iR 79, iI s] f g Q := by
  obtain ⟨d, rfl⟩ : ∃ e, d = e + 1 := ⟨d - 1, by omega⟩
  refine i_meth0 rfl rfl (fun O J hO => ?_)
  refine ⟨fun (hh1 : s < 0) => ?_, fun (hh1 : ¬ s < 0) => ?_⟩
  · refine ⟨show 0 = 0 ∨ 0 = 1 from by decide, ?_⟩
    exact h0 (by omega)
  · refine ⟨fun (hh2 : s < 29) => ?_, fun (hh2 : ¬ s < 29) => ?_⟩
    · refine ⟨show 1 = 0 ∨ 1 = 1 from by decide, ?_⟩
      exact h1 (by omega) (by omega)
    · refine ⟨show 0 = 0 ∨ 0 = 1 from by decide, ?_⟩
      exact h0 (by omega)
set_option maxRecDepth 100000 in
set_option maxHeartbeats 4000000 in
theorem c_isDigit {c : Int} (hd : 2 ≤ d) (h1 : 48 ≤ c → c ≤ 57 → Q (some (iI 1)) f g) (h0 : ¬ (48 ≤ c ∧ c ≤ 57) → Q (some (iI 0)) f g) : wq d 24 [iR 79, iI c] f g Q := by
  obtain ⟨d, rfl⟩ : ∃ e, d = e + 1 := ⟨d - 1, by omega⟩
  refine i_meth0 rfl rfl (fun O J hO => ?_)
  refine hO (c_isIn (by omega) (fun (hh1 : 48 ≤ c) (hh2 : c ≤ 57) => ?_) (fun (hh3 : ¬ (48 ≤ c ∧ c ≤ 57)) => ?_))
  · refine ⟨show 1 = 0 ∨ 1 = 1 from by decide, ?_⟩
    exact h1 (by omega) (by omega)
  · refine ⟨show 0 = 0 ∨ 0 = 1 from by decide, ?_⟩
    exact h0 (by omega)
set_option maxRecDepth 100000 in
set_option maxHeartbeats 4000000 in
theorem c_isLetter {c : Int} (hd : 2 ≤ d) (h1 : (97 ≤ c ∧ c ≤ 122 ∨ 65 ≤ c ∧ c ≤ 90) → Q (some (iI 1)) f g) (h0 : ¬ ((97 ≤ c ∧ c ≤ 122 ∨ 65 ≤ c ∧ c ≤ 90)) → Q (some (iI 0)) f g) : wq d 23 [iR 79, iI c] f g Q := by
  obtain ⟨d, rfl⟩ : ∃ e, d = e + 1 := ⟨d - 1, by omega⟩
  refine i_meth0 rfl rfl (fun O J hO => ?_)
  refine hO (c_isIn (by omega) (fun (hh1 : 97 ≤ c) (hh2 : c ≤ 122) => ?_) (fun (hh3 : ¬ (97 ≤ c ∧ c ≤ 122)) => ?_))
  · refine ⟨fun h => absurd (show (1 : Int) = 0 from h) (by decide), fun _ => ?_⟩
    refine ⟨show 1 = 0 ∨ 1 = 1 from by decide, ?_⟩
    exact h1 (by omega)
  · refine ⟨fun _ => ?_, fun h => absurd (show (0 : Int) = 0 from by decide) h⟩
    refine hO (c_isIn (by omega) (fun (hh4 : 65 ≤ c) (hh5 : c ≤ 90) => ?_) (fun (hh6 : ¬ (65 ≤ c ∧ c ≤ 90)) => ?_))
    · refine ⟨fun h => absurd (show (1 : Int) = 0 from h) (by decide), fun _ => ?_⟩
      refine ⟨show 1 = 0 ∨ 1 = 1 from by decide, ?_⟩
      exact h1 (by omega)
    · refine ⟨fun _ => ?_, fun h => absurd (show (0 : Int) = 0 from by decide) h⟩
      refine ⟨show 0 = 0 ∨ 0 = 1 from by decide, ?_⟩
      exact h0 (by omega)
set_option maxRecDepth 100000 in
set_option maxHeartbeats 4000000 in
theorem c_isMark {c : Int} (hd : 1 ≤ d) (h1 : (c = 59 ∨ c = 43 ∨ c = 45 ∨ c = 42 ∨ c = 47 ∨ c = 40 ∨ c = 41 ∨ c = 60 ∨ c = 61 ∨ c = 62) → Q (some (iI 1)) f g) (h0 : ¬ ((c = 59 ∨ c = 43 ∨ c = 45 ∨ c = 42 ∨ c = 47 ∨ c = 40 ∨ c = 41 ∨ c = 60 ∨ c = 61 ∨ c = 62)) → Q (some (iI 0)) f g) : wq d 25 [iR 79, iI c] f g Q := by
  obtain ⟨d, rfl⟩ : ∃ e, d = e + 1 := ⟨d - 1, by omega⟩
  refine i_meth0 rfl rfl (fun O J hO => ?_)
  refine ⟨fun (hh1 : c = 59) => ?_, fun (hh1 : ¬ c = 59) => ?_⟩
  · refine ⟨show 1 = 0 ∨ 1 = 1 from by decide, ?_⟩
    exact h1 (by omega)
  · refine ⟨fun (hh2 : c = 43) => ?_, fun (hh2 : ¬ c = 43) => ?_⟩
    · refine ⟨show 1 = 0 ∨ 1 = 1 from by decide, ?_⟩
      exact h1 (by omega)
    · refine ⟨fun (hh3 : c = 45) => ?_, fun (hh3 : ¬ c = 45) => ?_⟩
      · refine ⟨show 1 = 0 ∨ 1 = 1 from by decide, ?_⟩
        exact h1 (by omega)
      · refine ⟨fun (hh4 : c = 42) => ?_, fun (hh4 : ¬ c = 42) => ?_⟩
        · refine ⟨show 1 = 0 ∨ 1 = 1 from by decide, ?_⟩
          exact h1 (by omega)
        · refine ⟨fun (hh5 : c = 47) => ?_, fun (hh5 : ¬ c = 47) => ?_⟩
          · refine ⟨show 1 = 0 ∨ 1 = 1 from by decide, ?_⟩
            exact h1 (by omega)
          · refine ⟨fun (hh6 : c = 40) => ?_, fun (hh6 : ¬ c = 40) => ?_⟩
            · refine ⟨show 1 = 0 ∨ 1 = 1 from by decide, ?_⟩
              exact h1 (by omega)
            · refine ⟨fun (hh7 : c = 41) => ?_, fun (hh7 : ¬ c = 41) => ?_⟩
              · refine ⟨show 1 = 0 ∨ 1 = 1 from by decide, ?_⟩
                exact h1 (by omega)
              · refine ⟨fun (hh8 : c = 60) => ?_, fun (hh8 : ¬ c = 60) => ?_⟩
                · refine ⟨show 1 = 0 ∨ 1 = 1 from by decide, ?_⟩
                  exact h1 (by omega)
                · refine ⟨fun (hh9 : c = 61) => ?_, fun (hh9 : ¬ c = 61) => ?_⟩
                  · refine ⟨show 1 = 0 ∨ 1 = 1 from by decide, ?_⟩
                    exact h1 (by omega)
                  · refine ⟨fun (hh10 : c = 62) => ?_, fun (hh10 : ¬ c = 62) => ?_⟩
                    · refine ⟨show 1 = 0 ∨ 1 = 1 from by decide, ?_⟩
                      exact h1 (by omega)
                    · refine ⟨show 0 = 0 ∨ 0 = 1 from by decide, ?_⟩
                      exact h0 (by omega)
set_option maxRecDepth 100000 in
set_option maxHeartbeats 4000000 in
theorem c_isVowel {s : Int} (hd : 1 ≤ d) (h1 : (s = 0 ∨ s = 4 ∨ s = 8 ∨ s = 14 ∨ s = 20) → Q (some (iI 1)) f g) (h0 : ¬ ((s = 0 ∨ s = 4 ∨ s = 8 ∨ s = 14 ∨ s = 20)) → Q (some (iI 0)) f g) : wq d 48 [iR 79, iI s] f g Q := by
  obtain ⟨d, rfl⟩ : ∃ e, d = e + 1 := ⟨d - 1, by omega⟩
  refine i_meth0 rfl rfl (fun O J hO => ?_)
  refine ⟨fun (hh1 : s = 0) => ?_, fun (hh1 : ¬ s = 0) => ?_⟩
  · refine ⟨show 1 = 0 ∨ 1 = 1 from by decide, ?_⟩
    exact h1 (by omega)
  · refine ⟨fun (hh2 : s = 4) => ?_, fun (hh2 : ¬ s = 4) => ?_⟩
    · refine ⟨show 1 = 0 ∨ 1 = 1 from by decide, ?_⟩
      exact h1 (by omega)
    · refine ⟨fun (hh3 : s = 8) => ?_, fun (hh3 : ¬ s = 8) => ?_⟩
      · refine ⟨show 1 = 0 ∨ 1 = 1 from by decide, ?_⟩
        exact h1 (by omega)
      · refine ⟨fun (hh4 : s = 14) => ?_, fun (hh4 : ¬ s = 14) => ?_⟩
        · refine ⟨show 1 = 0 ∨ 1 = 1 from by decide, ?_⟩
          exact h1 (by omega)
        · refine ⟨fun (hh5 : s = 20) => ?_, fun (hh5 : ¬ s = 20) => ?_⟩
          · refine ⟨show 1 = 0 ∨ 1 = 1 from by decide, ?_⟩
            exact h1 (by omega)
          · refine ⟨show 0 = 0 ∨ 0 = 1 from by decide, ?_⟩
            exact h0 (by omega)
set_option maxRecDepth 100000 in
set_option maxHeartbeats 4000000 in
theorem c_isWord {v : Int} (hd : 1 ≤ d) (h1 : f (fv 79 24) 0 = 2 → f (fv 79 25) 0 = v → Q (some (iI 1)) f g) (h0 : ¬ (f (fv 79 24) 0 = 2 ∧ f (fv 79 25) 0 = v) → Q (some (iI 0)) f g) : wq d 29 [iR 79, iI v] f g Q := by
  obtain ⟨d, rfl⟩ : ∃ e, d = e + 1 := ⟨d - 1, by omega⟩
  refine i_meth0 rfl rfl (fun O J hO => ?_)
  refine ⟨fun (hh1 : f (fv 79 24) 0 = 2) => ?_, fun (hh1 : ¬ f (fv 79 24) 0 = 2) => ?_⟩
  · refine ⟨fun (hh2 : f (fv 79 25) 0 = v) => ?_, fun (hh2 : ¬ f (fv 79 25) 0 = v) => ?_⟩
    · refine ⟨show 1 = 0 ∨ 1 = 1 from by decide, ?_⟩
      exact h1 (by omega) (by omega)
    · refine ⟨show 0 = 0 ∨ 0 = 1 from by decide, ?_⟩
      exact h0 (by omega)
  · refine ⟨show 0 = 0 ∨ 0 = 1 from by decide, ?_⟩
    exact h0 (by omega)
set_option maxRecDepth 100000 in
set_option maxHeartbeats 4000000 in
theorem c_isSign {v : Int} (hd : 1 ≤ d) (h1 : f (fv 79 24) 0 = 4 → f (fv 79 25) 0 = v → Q (some (iI 1)) f g) (h0 : ¬ (f (fv 79 24) 0 = 4 ∧ f (fv 79 25) 0 = v) → Q (some (iI 0)) f g) : wq d 30 [iR 79, iI v] f g Q := by
  obtain ⟨d, rfl⟩ : ∃ e, d = e + 1 := ⟨d - 1, by omega⟩
  refine i_meth0 rfl rfl (fun O J hO => ?_)
  refine ⟨fun (hh1 : f (fv 79 24) 0 = 4) => ?_, fun (hh1 : ¬ f (fv 79 24) 0 = 4) => ?_⟩
  · refine ⟨fun (hh2 : f (fv 79 25) 0 = v) => ?_, fun (hh2 : ¬ f (fv 79 25) 0 = v) => ?_⟩
    · refine ⟨show 1 = 0 ∨ 1 = 1 from by decide, ?_⟩
      exact h1 (by omega) (by omega)
    · refine ⟨show 0 = 0 ∨ 0 = 1 from by decide, ?_⟩
      exact h0 (by omega)
  · refine ⟨show 0 = 0 ∨ 0 = 1 from by decide, ?_⟩
    exact h0 (by omega)
set_option maxRecDepth 100000 in
set_option maxHeartbeats 4000000 in
theorem k_within {v hi : Int} (hd : 1 ≤ d) (h1 : 0 ≤ v → v ≤ hi → Q (some (iI 1)) f g) (h0 : ¬ (0 ≤ v ∧ v ≤ hi) → Q (some (iI 0)) f g) : wq d 218 [iI v, iI hi] f g Q := by
  obtain ⟨d, rfl⟩ : ∃ e, d = e + 1 := ⟨d - 1, by omega⟩
  refine i_meth0 rfl rfl (fun O J hO => ?_)
  refine ⟨fun (hh1 : v < 0) => ?_, fun (hh1 : ¬ v < 0) => ?_⟩
  · refine ⟨show 0 = 0 ∨ 0 = 1 from by decide, ?_⟩
    exact h0 (by omega)
  · refine ⟨fun (hh2 : hi < v) => ?_, fun (hh2 : ¬ hi < v) => ?_⟩
    · refine ⟨show 0 = 0 ∨ 0 = 1 from by decide, ?_⟩
      exact h0 (by omega)
    · refine ⟨show 1 = 0 ∨ 1 = 1 from by decide, ?_⟩
      exact h1 (by omega) (by omega)
set_option maxRecDepth 100000 in
set_option maxHeartbeats 4000000 in
theorem k_isSign {s : Int} (hd : 1 ≤ d) (h1 : 0 ≤ s → s < 29 → Q (some (iI 1)) f g) (h0 : ¬ (0 ≤ s ∧ s < 29) → Q (some (iI 0)) f g) : wq d 219 [iI s] f g Q := by
  obtain ⟨d, rfl⟩ : ∃ e, d = e + 1 := ⟨d - 1, by omega⟩
  refine i_meth0 rfl rfl (fun O J hO => ?_)
  refine ⟨fun (hh1 : s < 0) => ?_, fun (hh1 : ¬ s < 0) => ?_⟩
  · refine ⟨show 0 = 0 ∨ 0 = 1 from by decide, ?_⟩
    exact h0 (by omega)
  · refine ⟨fun (hh2 : s < 29) => ?_, fun (hh2 : ¬ s < 29) => ?_⟩
    · refine ⟨show 1 = 0 ∨ 1 = 1 from by decide, ?_⟩
      exact h1 (by omega) (by omega)
    · refine ⟨show 0 = 0 ∨ 0 = 1 from by decide, ?_⟩
      exact h0 (by omega)
set_option maxRecDepth 100000 in
set_option maxHeartbeats 4000000 in
theorem k_isLetter {s : Int} (hd : 1 ≤ d) (h1 : 0 ≤ s → s < 26 → Q (some (iI 1)) f g) (h0 : ¬ (0 ≤ s ∧ s < 26) → Q (some (iI 0)) f g) : wq d 220 [iI s] f g Q := by
  obtain ⟨d, rfl⟩ : ∃ e, d = e + 1 := ⟨d - 1, by omega⟩
  refine i_meth0 rfl rfl (fun O J hO => ?_)
  refine ⟨fun (hh1 : s < 0) => ?_, fun (hh1 : ¬ s < 0) => ?_⟩
  · refine ⟨show 0 = 0 ∨ 0 = 1 from by decide, ?_⟩
    exact h0 (by omega)
  · refine ⟨fun (hh2 : s < 26) => ?_, fun (hh2 : ¬ s < 26) => ?_⟩
    · refine ⟨show 1 = 0 ∨ 1 = 1 from by decide, ?_⟩
      exact h1 (by omega) (by omega)
    · refine ⟨show 0 = 0 ∨ 0 = 1 from by decide, ?_⟩
      exact h0 (by omega)
set_option maxRecDepth 100000 in
set_option maxHeartbeats 4000000 in
theorem k_isSmall {s : Int} (hd : 1 ≤ d) (h1 : 97 ≤ s → s ≤ 122 → Q (some (iI 1)) f g) (h0 : ¬ (97 ≤ s ∧ s ≤ 122) → Q (some (iI 0)) f g) : wq d 221 [iI s] f g Q := by
  obtain ⟨d, rfl⟩ : ∃ e, d = e + 1 := ⟨d - 1, by omega⟩
  refine i_meth0 rfl rfl (fun O J hO => ?_)
  refine ⟨fun (hh1 : s < 97) => ?_, fun (hh1 : ¬ s < 97) => ?_⟩
  · refine ⟨show 0 = 0 ∨ 0 = 1 from by decide, ?_⟩
    exact h0 (by omega)
  · refine ⟨fun (hh2 : 122 < s) => ?_, fun (hh2 : ¬ 122 < s) => ?_⟩
    · refine ⟨show 0 = 0 ∨ 0 = 1 from by decide, ?_⟩
      exact h0 (by omega)
    · refine ⟨show 1 = 0 ∨ 1 = 1 from by decide, ?_⟩
      exact h1 (by omega) (by omega)
set_option maxRecDepth 100000 in
set_option maxHeartbeats 4000000 in
theorem k_isLetTx {s : Int} (hd : 2 ≤ d) (h1 : (97 ≤ s ∧ s ≤ 122 ∨ 65 ≤ s ∧ s ≤ 90) → Q (some (iI 1)) f g) (h0 : ¬ ((97 ≤ s ∧ s ≤ 122 ∨ 65 ≤ s ∧ s ≤ 90)) → Q (some (iI 0)) f g) : wq d 222 [iI s] f g Q := by
  obtain ⟨d, rfl⟩ : ∃ e, d = e + 1 := ⟨d - 1, by omega⟩
  refine i_meth0 rfl rfl (fun O J hO => ?_)
  refine hO (k_isSmall (by omega) (fun (hh1 : 97 ≤ s) (hh2 : s ≤ 122) => ?_) (fun (hh3 : ¬ (97 ≤ s ∧ s ≤ 122)) => ?_))
  · refine ⟨fun h => absurd (show (1 : Int) = 0 from h) (by decide), fun _ => ?_⟩
    refine ⟨show 1 = 0 ∨ 1 = 1 from by decide, ?_⟩
    exact h1 (by omega)
  · refine ⟨fun _ => ?_, fun h => absurd (show (0 : Int) = 0 from by decide) h⟩
    refine ⟨fun (hh4 : s < 65) => ?_, fun (hh4 : ¬ s < 65) => ?_⟩
    · refine ⟨show 0 = 0 ∨ 0 = 1 from by decide, ?_⟩
      exact h0 (by omega)
    · refine ⟨fun (hh5 : 90 < s) => ?_, fun (hh5 : ¬ 90 < s) => ?_⟩
      · refine ⟨show 0 = 0 ∨ 0 = 1 from by decide, ?_⟩
        exact h0 (by omega)
      · refine ⟨show 1 = 0 ∨ 1 = 1 from by decide, ?_⟩
        exact h1 (by omega)
set_option maxRecDepth 100000 in
set_option maxHeartbeats 4000000 in
theorem k_isDigit {s : Int} (hd : 1 ≤ d) (h1 : 48 ≤ s → s ≤ 57 → Q (some (iI 1)) f g) (h0 : ¬ (48 ≤ s ∧ s ≤ 57) → Q (some (iI 0)) f g) : wq d 223 [iI s] f g Q := by
  obtain ⟨d, rfl⟩ : ∃ e, d = e + 1 := ⟨d - 1, by omega⟩
  refine i_meth0 rfl rfl (fun O J hO => ?_)
  refine ⟨fun (hh1 : s < 48) => ?_, fun (hh1 : ¬ s < 48) => ?_⟩
  · refine ⟨show 0 = 0 ∨ 0 = 1 from by decide, ?_⟩
    exact h0 (by omega)
  · refine ⟨fun (hh2 : 57 < s) => ?_, fun (hh2 : ¬ 57 < s) => ?_⟩
    · refine ⟨show 0 = 0 ∨ 0 = 1 from by decide, ?_⟩
      exact h0 (by omega)
    · refine ⟨show 1 = 0 ∨ 1 = 1 from by decide, ?_⟩
      exact h1 (by omega) (by omega)
set_option maxRecDepth 100000 in
set_option maxHeartbeats 4000000 in
theorem k_isBlank {s : Int} (hd : 1 ≤ d) (h1 : (s = 32 ∨ s = 10) → Q (some (iI 1)) f g) (h0 : ¬ ((s = 32 ∨ s = 10)) → Q (some (iI 0)) f g) : wq d 224 [iI s] f g Q := by
  obtain ⟨d, rfl⟩ : ∃ e, d = e + 1 := ⟨d - 1, by omega⟩
  refine i_meth0 rfl rfl (fun O J hO => ?_)
  refine ⟨fun (hh1 : s = 32) => ?_, fun (hh1 : ¬ s = 32) => ?_⟩
  · refine ⟨show 1 = 0 ∨ 1 = 1 from by decide, ?_⟩
    exact h1 (by omega)
  · refine ⟨fun (hh2 : s = 10) => ?_, fun (hh2 : ¬ s = 10) => ?_⟩
    · refine ⟨show 1 = 0 ∨ 1 = 1 from by decide, ?_⟩
      exact h1 (by omega)
    · refine ⟨show 0 = 0 ∨ 0 = 1 from by decide, ?_⟩
      exact h0 (by omega)
set_option maxRecDepth 100000 in
set_option maxHeartbeats 4000000 in
theorem k_isVowel {s : Int} (hd : 1 ≤ d) (h1 : (s = 0 ∨ s = 4 ∨ s = 8 ∨ s = 14 ∨ s = 20) → Q (some (iI 1)) f g) (h0 : ¬ ((s = 0 ∨ s = 4 ∨ s = 8 ∨ s = 14 ∨ s = 20)) → Q (some (iI 0)) f g) : wq d 149 [iI s] f g Q := by
  obtain ⟨d, rfl⟩ : ∃ e, d = e + 1 := ⟨d - 1, by omega⟩
  refine i_meth0 rfl rfl (fun O J hO => ?_)
  refine ⟨fun (hh1 : s = 0) => ?_, fun (hh1 : ¬ s = 0) => ?_⟩
  · refine ⟨show 1 = 0 ∨ 1 = 1 from by decide, ?_⟩
    exact h1 (by omega)
  · refine ⟨fun (hh2 : s = 4) => ?_, fun (hh2 : ¬ s = 4) => ?_⟩
    · refine ⟨show 1 = 0 ∨ 1 = 1 from by decide, ?_⟩
      exact h1 (by omega)
    · refine ⟨fun (hh3 : s = 8) => ?_, fun (hh3 : ¬ s = 8) => ?_⟩
      · refine ⟨show 1 = 0 ∨ 1 = 1 from by decide, ?_⟩
        exact h1 (by omega)
      · refine ⟨fun (hh4 : s = 14) => ?_, fun (hh4 : ¬ s = 14) => ?_⟩
        · refine ⟨show 1 = 0 ∨ 1 = 1 from by decide, ?_⟩
          exact h1 (by omega)
        · refine ⟨fun (hh5 : s = 20) => ?_, fun (hh5 : ¬ s = 20) => ?_⟩
          · refine ⟨show 1 = 0 ∨ 1 = 1 from by decide, ?_⟩
            exact h1 (by omega)
          · refine ⟨show 0 = 0 ∨ 0 = 1 from by decide, ?_⟩
            exact h0 (by omega)
set_option maxRecDepth 100000 in
set_option maxHeartbeats 4000000 in
theorem k_has {a : Int} (hd : 1 ≤ d) (h1 : 0 ≤ a → a < f (fv 1 0) 0 → a < 8 → Q (some (iI 1)) f g) (h0 : ¬ (0 ≤ a ∧ a < f (fv 1 0) 0 ∧ a < 8) → Q (some (iI 0)) f g) : wq d 98 [iR 1, iI a] f g Q := by
  obtain ⟨d, rfl⟩ : ∃ e, d = e + 1 := ⟨d - 1, by omega⟩
  refine i_meth0 rfl rfl (fun O J hO => ?_)
  refine ⟨fun (hh1 : a < 0) => ?_, fun (hh1 : ¬ a < 0) => ?_⟩
  · refine ⟨show 0 = 0 ∨ 0 = 1 from by decide, ?_⟩
    exact h0 (by omega)
  · refine ⟨fun (hh2 : a < f (fv 1 0) 0) => ?_, fun (hh2 : ¬ a < f (fv 1 0) 0) => ?_⟩
    · refine ⟨fun (hh3 : a < 8) => ?_, fun (hh3 : ¬ a < 8) => ?_⟩
      · refine ⟨show 1 = 0 ∨ 1 = 1 from by decide, ?_⟩
        exact h1 (by omega) (by omega) (by omega)
      · refine ⟨show 0 = 0 ∨ 0 = 1 from by decide, ?_⟩
        exact h0 (by omega)
    · refine ⟨show 0 = 0 ∨ 0 = 1 from by decide, ?_⟩
      exact h0 (by omega)
end C1
end
section
/-! ===== the words of the promises: sums, rows, facts, the law's code ===== -/
def sm (h : Int → Int) : Nat → Int
  | 0 => 0
  | n + 1 => sm h n + h (n : Int)
/-- the sum over 0 .. n - 1 -/
def sI (h : Int → Int) (n : Int) : Int := sm h n.toNat
theorem sI_0 (h : Int → Int) : sI h 0 = 0 := rfl
theorem sI_s {h : Int → Int} {i : Int} (hi : 0 ≤ i) : sI h (i + 1) = sI h i + h i := by
  unfold sI
  rw [show (i + 1).toNat = i.toNat + 1 by omega, sm, show ((i.toNat : Nat) : Int) = i by omega]
theorem sm_congr {h h' : Int → Int} : ∀ n : Nat, (∀ k : Int, 0 ≤ k → k < n → h k = h' k) → sm h n = sm h' n
  | 0, _ => rfl
  | n + 1, e => by
    rw [sm, sm, sm_congr n (fun k h0 h1 => e k h0 (by omega)), e n (by omega) (by omega)]
theorem sI_congr {h h' : Int → Int} {n : Int} (e : ∀ k : Int, 0 ≤ k → k < n → h k = h' k) : sI h n = sI h' n := sm_congr _ (fun k h0 h1 => e k h0 (by omega))
theorem sm_le {h : Int → Int} {c : Int} (hc : 0 ≤ c) : ∀ n : Nat, (∀ k : Int, 0 ≤ k → k < n → 0 ≤ h k ∧ h k ≤ c) → 0 ≤ sm h n ∧ sm h n ≤ c * n
  | 0, _ => by simp [sm]
  | n + 1, e => by
    have h1 := sm_le hc n (fun k h0 h1 => e k h0 (by omega))
    have h2 := e n (by omega) (by omega)
    rw [sm]
    have : c * ((n + 1 : Nat) : Int) = c * n + c := by rw [Int.natCast_add, Int.mul_add]; simp
    omega
theorem sI_le {h : Int → Int} {n c : Int} (hc : 0 ≤ c) (hn : 0 ≤ n) (e : ∀ k : Int, 0 ≤ k → k < n → 0 ≤ h k ∧ h k ≤ c) : 0 ≤ sI h n ∧ sI h n ≤ c * n := by
  have := sm_le hc n.toNat (fun k h0 h1 => e k h0 (by omega))
  rw [show ((n.toNat : Nat) : Int) = n by omega] at this
  exact this
/-- how often p is so among 0 .. n - 1 -/
def cI (p : Int → Bool) (n : Int) : Int := sI (fun k => if p k = true then 1 else 0) n
theorem cI_0 (p : Int → Bool) : cI p 0 = 0 := rfl
theorem cI_s {p : Int → Bool} {i : Int} (hi : 0 ≤ i) : cI p (i + 1) = cI p i + (if p i = true then 1 else 0) := sI_s hi
theorem cI_t {p : Int → Bool} {i : Int} (hi : 0 ≤ i) (h : p i = true) : cI p (i + 1) = cI p i + 1 := by rw [cI_s hi, if_pos h]
theorem cI_f {p : Int → Bool} {i : Int} (hi : 0 ≤ i) (h : p i = false) : cI p (i + 1) = cI p i := by rw [cI_s hi, h]; simp
theorem cI_le {p : Int → Bool} {n : Int} (hn : 0 ≤ n) : 0 ≤ cI p n ∧ cI p n ≤ n := by
  have := sI_le (h := fun k => if p k = true then 1 else 0) (n := n) (c := 1) (by omega) hn (fun k _ _ => by show 0 ≤ (if p k = true then (1 : Int) else 0) ∧ (if p k = true then (1 : Int) else 0) ≤ 1; split <;> omega)
  unfold cI
  omega
theorem cI_congr {p q : Int → Bool} {n : Int} (e : ∀ k : Int, 0 ≤ k → k < n → p k = q k) : cI p n = cI q n := sI_congr (fun k h0 h1 => by rw [e k h0 h1])
/-- a sign can be printed -/
def abl (bu ow st : Int → Int) (s : Int) : Bool := decide (0 ≤ s ∧ s < 29 ∧ bu s = 0 ∧ 0 ≤ ow s ∧ st (ow s) = 0)
theorem abl_t {bu ow st : Int → Int} {s : Int} : abl bu ow st s = true ↔ (0 ≤ s ∧ s < 29 ∧ bu s = 0 ∧ 0 ≤ ow s ∧ st (ow s) = 0) := by unfold abl; exact decide_eq_true_iff
theorem abl_f {bu ow st : Int → Int} {s : Int} : abl bu ow st s = false ↔ ¬ (0 ≤ s ∧ s < 29 ∧ bu s = 0 ∧ 0 ≤ ow s ∧ st (ow s) = 0) := by unfold abl; exact decide_eq_false_iff_not
theorem abl_eq {bu ow st bu' ow' st' : Int → Int} (h1 : ∀ s, 0 ≤ s → s < 29 → bu s = bu' s ∧ ow s = ow' s) (h2 : ∀ s, 0 ≤ s → s < 29 → 0 ≤ ow s → st (ow s) = st' (ow s)) : abl bu ow st = abl bu' ow' st' := by
  funext s
  by_cases hs : 0 ≤ s ∧ s < 29
  · obtain ⟨e1, e2⟩ := h1 s hs.1 hs.2
    have e3 := h2 s hs.1 hs.2
    unfold abl
    rw [← e1, ← e2]
    by_cases ho : 0 ≤ ow s
    · rw [← e3 ho]
    · rw [decide_eq_false (fun h => ho h.2.2.2.1), decide_eq_false (fun h => ho h.2.2.2.1)]
  · rw [abl_f.mpr (fun h => hs ⟨h.1, h.2.1⟩), abl_f.mpr (fun h => hs ⟨h.1, h.2.1⟩)]
/-- a letter at place i of a row of n -/
def isL (row : Int → Int) (n i : Int) : Bool := decide (0 ≤ i ∧ i < n ∧ row i < 26)
theorem isL_t {row : Int → Int} {n i : Int} : isL row n i = true ↔ (0 ≤ i ∧ i < n ∧ row i < 26) := by unfold isL; exact decide_eq_true_iff
theorem isL_f {row : Int → Int} {n i : Int} : isL row n i = false ↔ ¬ (0 ≤ i ∧ i < n ∧ row i < 26) := by unfold isL; exact decide_eq_false_iff_not
def b1 (b : Bool) : Int := if b = true then 1 else 0
theorem b1_t : b1 true = 1 := rfl
theorem b1_f : b1 false = 0 := rfl
theorem b1_01 (b : Bool) : 0 ≤ b1 b ∧ b1 b ≤ 1 := by cases b <;> decide
/-- letters that can be printed, just ahead of place i -/
def lwN (ab : Int → Bool) (row : Int → Int) (n : Int) : Nat → Int
  | 0 => 0
  | i + 1 => if isL row n (i : Int) = true then lwN ab row n i + b1 (ab (row (i : Int))) else 0
def lwI (ab : Int → Bool) (row : Int → Int) (n i : Int) : Int := lwN ab row n i.toNat
/-- letters that can be printed, from place i on -/
def rrN (ab : Int → Bool) (row : Int → Int) (n : Int) : Nat → Int → Int
  | 0, _ => 0
  | m + 1, i => if isL row n i = true then b1 (ab (row i)) + rrN ab row n m (i + 1) else 0
def rrI (ab : Int → Bool) (row : Int → Int) (n i : Int) : Int := rrN ab row n (n - i).toNat i
section LR
variable {ab : Int → Bool} {row : Int → Int} {n i : Int}
theorem lwI_0 : lwI ab row n 0 = 0 := rfl
theorem lwI_t (hi : 0 ≤ i) (h : isL row n i = true) : lwI ab row n (i + 1) = lwI ab row n i + b1 (ab (row i)) := by
  unfold lwI
  rw [show (i + 1).toNat = i.toNat + 1 by omega, lwN, show ((i.toNat : Nat) : Int) = i by omega, if_pos h]
theorem lwI_f (hi : 0 ≤ i) (h : isL row n i = false) : lwI ab row n (i + 1) = 0 := by
  unfold lwI
  rw [show (i + 1).toNat = i.toNat + 1 by omega, lwN, show ((i.toNat : Nat) : Int) = i by omega, if_neg (by rw [h]; decide)]
theorem rrI_t (h : isL row n i = true) : rrI ab row n i = b1 (ab (row i)) + rrI ab row n (i + 1) := by
  have h' := isL_t.mp h
  unfold rrI
  rw [show (n - i).toNat = (n - (i + 1)).toNat + 1 by omega, rrN, if_pos h]
theorem rrI_f (h : isL row n i = false) : rrI ab row n i = 0 := by
  unfold rrI
  cases (n - i).toNat with
  | zero => rfl
  | succ m => rw [rrN, if_neg (by rw [h]; decide)]
/-- how many letters of its word can be printed -/
def lgI (ab : Int → Bool) (row : Int → Int) (n i : Int) : Int := if isL row n i = true then lwI ab row n i + rrI ab row n i else 0
theorem tot_s (hi : 0 ≤ i) (h : isL row n i = true) : lwI ab row n i + rrI ab row n i = lwI ab row n (i + 1) + rrI ab row n (i + 1) := by
  rw [lwI_t hi h, rrI_t h]; omega
/-- along letters a .. b the sum stays -/
theorem tot_run {a : Int} (ha : 0 ≤ a) : ∀ (m : Nat) (b : Int), b = a + m → (∀ k, a ≤ k → k < b → isL row n k = true) → lwI ab row n a + rrI ab row n a = lwI ab row n b + rrI ab row n b := by
  intro m
  induction m with
  | zero => intro b hb _; rw [show b = a by omega]
  | succ m ih =>
    intro b hb h
    rw [ih (b - 1) (by omega) (fun k h1 h2 => h k h1 (by omega)), tot_s (by omega) (h (b - 1) (by omega) (by omega)), show b - 1 + 1 = b by omega]
theorem lwI_le (hn : ∀ k, ab k = true ∨ ab k = false) : ∀ m : Nat, 0 ≤ lwI ab row n m ∧ lwI ab row n m ≤ m := by
  intro m
  induction m with
  | zero => rw [show ((0 : Nat) : Int) = 0 from rfl, lwI_0]; omega
  | succ m ih =>
    have hb := b1_01 (ab (row (m : Int)))
    rw [show (((m + 1 : Nat)) : Int) = (m : Int) + 1 by omega]
    cases h : isL row n (m : Int) with
    | true => rw [lwI_t (by omega) h]; omega
    | false => rw [lwI_f (by omega) h]; omega
theorem rrI_le : ∀ (m : Nat) (i : Int), n - i = m → 0 ≤ rrI ab row n i ∧ rrI ab row n i ≤ m := by
  intro m
  induction m with
  | zero =>
    intro i hi
    rw [rrI_f (isL_f.mpr (by omega))]
    omega
  | succ m ih =>
    intro i hi
    cases h : isL row n i with
    | true =>
      have := ih (i + 1) (by omega)
      have hb := b1_01 (ab (row i))
      rw [rrI_t h]
      omega
    | false => rw [rrI_f h]; omega
theorem lgI_le (hn : 0 ≤ n) : 0 ≤ lgI ab row n i ∧ lgI ab row n i ≤ n := by
  unfold lgI
  split
  · rename_i h
    have h' := isL_t.mp h
    have h1 := lwI_le (ab := ab) (row := row) (n := n) (fun k => by cases ab k <;> simp) i.toNat
    have h2 := rrI_le (ab := ab) (row := row) (n := n) (n - i).toNat i (by omega)
    rw [show ((i.toNat : Nat) : Int) = i by omega] at h1
    omega
  · omega
end LR
/-- how often the sign at place i is ahead of it -/
def usI (row : Int → Int) (i : Int) : Int := cI (fun k => decide (row k = row i)) i
def vwl (s : Int) : Bool := decide (s = 0 ∨ s = 4 ∨ s = 8 ∨ s = 14 ∨ s = 20)
/-- the sign just ahead, if it can be printed, else 29 -/
def lfI (ab : Int → Bool) (row : Int → Int) (i : Int) : Int := if 0 < i ∧ ab (row (i - 1)) = true then row (i - 1) else 29
def fsI (row : Int → Int) (n i : Int) : Int := b1 (isL row n i && !isL row n (i - 1))
/-- the facts of the sign at place i -/
def fct (ab : Int → Bool) (ow : Int → Int) (day : Int) (row : Int → Int) (n i : Int) : Int → Int := fun k =>
  if k = 0 then row i else if k = 1 then i else if k = 2 then lgI ab row n i else if k = 3 then usI row i else if k = 4 then b1 (vwl (row i)) else if k = 5 then (if ow (row i) = -1 then 9 else ow (row i)) else if k = 6 then day else if k = 7 then lfI ab row i else fsI row n i
/-! the law's code -/
def op2 (c a b : Int) : Int := if c = -10 then w32 (a + b) else if c = -11 then w32 (a - b) else if c = -12 then w32 (a * b) else if c = -13 then a.tdiv b else if c = -14 then (if a < b then 1 else 0) else if c = -15 then (if a = b then 1 else 0) else if c = -16 then (if b < a then 1 else 0) else if c = -17 then a * b else if 0 < a + b then 1 else 0
def stp (fa : Int → Int) (c : Int) (s : List Int) : List Int := if 0 ≤ c then c :: s else if -9 ≤ c then fa (-1 - c) :: s else if c = -19 then (match s with
  | b :: r => (1 - b) :: r
  | [] => []) else (match s with
  | b :: a :: r => op2 c a b :: r
  | _ => [])
def ev (fa : Int → Int) (l : List Int) (s : List Int) : List Int := l.foldl (fun s c => stp fa c s) s
def hdv (l : List Int) : Int := match l with
  | a :: _ => a
  | [] => 0
/-- types: 0 a number above 0, 1 a product, 2 a sum, 3 a claim -/
def tst (c : Int) (s : List Int) : Option (List Int) :=
  if 0 ≤ c then (if c ≤ 9999 ∧ s.length < 64 then some ((if c = 0 then 1 else 0) :: s) else none)
  else if -9 ≤ c then (if s.length < 64 then some (1 :: s) else none)
  else if c = -19 then (match s with
    | b :: r => if b = 3 then some (3 :: r) else none
    | [] => none)
  else (match s with
    | b :: a :: r =>
      if c = -10 ∨ c = -11 then (if b ≤ 1 ∧ a ≤ 2 then some (2 :: r) else none)
      else if c = -12 then (if b ≤ 1 ∧ a ≤ 1 then some (1 :: r) else none)
      else if c = -13 then (if b = 0 ∧ a ≤ 1 then some (1 :: r) else none)
      else if c = -14 ∨ c = -15 ∨ c = -16 then (if b ≤ 2 ∧ a ≤ 2 then some (3 :: r) else none)
      else if c = -17 ∨ c = -18 then (if b = 3 ∧ a = 3 then some (3 :: r) else none)
      else none
    | _ => none)
def tyl (l : List Int) (s : List Int) : Option (List Int) := l.foldl (fun o c => o.bind (tst c)) (some s)
/-- a slice of a row -/
def slN (c : Int → Int) : Nat → Int → List Int
  | 0, _ => []
  | m + 1, a => c a :: slN c m (a + 1)
def sl (c : Int → Int) (a b : Int) : List Int := slN c (b - a).toNat a
theorem sl_nil {c : Int → Int} {a b : Int} (h : b ≤ a) : sl c a b = [] := by
  unfold sl
  rw [show (b - a).toNat = 0 by omega]; rfl
theorem slN_app (c : Int → Int) : ∀ (m : Nat) (a : Int), slN c (m + 1) a = slN c m a ++ [c (a + m)]
  | 0, a => by simp [slN]
  | m + 1, a => by
    rw [slN, slN_app c m (a + 1), slN]
    simp only [List.cons_append]
    rw [show a + 1 + (m : Int) = a + ((m + 1 : Nat) : Int) by omega]
theorem sl_s {c : Int → Int} {a b : Int} (h : a ≤ b) : sl c a (b + 1) = sl c a b ++ [c b] := by
  unfold sl
  rw [show (b + 1 - a).toNat = (b - a).toNat + 1 by omega, slN_app, show a + (((b - a).toNat : Nat) : Int) = b by omega]
theorem sl_cons {c : Int → Int} {a b : Int} (h : a < b) : sl c a b = c a :: sl c (a + 1) b := by
  unfold sl
  rw [show (b - a).toNat = (b - (a + 1)).toNat + 1 by omega, slN]
theorem slN_congr {c c' : Int → Int} : ∀ (m : Nat) (a : Int), (∀ k, a ≤ k → k < a + m → c k = c' k) → slN c m a = slN c' m a
  | 0, _, _ => rfl
  | m + 1, a, h => by rw [slN, slN, h a (by omega) (by omega), slN_congr m (a + 1) (fun k h1 h2 => h k (by omega) (by omega))]
theorem sl_congr {c c' : Int → Int} {a b : Int} (h : ∀ k, a ≤ k → k < b → c k = c' k) : sl c a b = sl c' a b := slN_congr _ _ (fun k h1 h2 => h k h1 (by omega))
theorem sl_split {c : Int → Int} {a b e : Int} (h1 : a ≤ b) (h2 : b ≤ e) : sl c a e = sl c a b ++ sl c b e := by
  obtain ⟨m, hm⟩ : ∃ m : Nat, e = b + m := ⟨(e - b).toNat, by omega⟩
  subst hm
  clear h2
  induction m with
  | zero => rw [show b + ((0 : Nat) : Int) = b by omega, sl_nil (Int.le_refl b), List.append_nil]
  | succ m ih => rw [show b + ((m + 1 : Nat) : Int) = b + m + 1 by omega, sl_s (by omega), sl_s (by omega), ih, List.append_assoc]
theorem ev_app {fa : Int → Int} {l l' s : List Int} : ev fa (l ++ l') s = ev fa l' (ev fa l s) := by unfold ev; rw [List.foldl_append]
theorem ev_1 {fa : Int → Int} {c : Int} {s : List Int} : ev fa [c] s = stp fa c s := rfl
theorem tyl_app {l l' s : List Int} : tyl (l ++ l') s = (tyl l s).bind (tyl l') := by
  unfold tyl
  rw [List.foldl_append]
  generalize List.foldl (fun o c => Option.bind o (tst c)) (some s) l = o
  cases o with
  | some t => rfl
  | none =>
    show _ = none
    induction l' with
    | nil => rfl
    | cons c l' ih => rw [List.foldl_cons]; exact ih
theorem tyl_1 {c : Int} {s : List Int} : tyl [c] s = tst c s := rfl
theorem tyl_cons {c : Int} {l s : List Int} : tyl (c :: l) s = (tst c s).bind (tyl l) := by rw [show c :: l = [c] ++ l from rfl, tyl_app, tyl_1]
/-- a value of a type -/
def vok (t v : Int) : Prop := inr v ∧ (t = 0 → 1 ≤ v) ∧ (t = 3 → v = 0 ∨ v = 1)
def sok : List Int → List Int → Prop
  | [], [] => True
  | t :: ts, v :: vs => vok t v ∧ sok ts vs
  | _, _ => False
theorem sok_len : ∀ {ts vs : List Int}, sok ts vs → ts.length = vs.length
  | [], [], _ => rfl
  | _ :: _, _ :: _, h => by rw [List.length_cons, List.length_cons, sok_len h.2]
  | [], _ :: _, h => h.elim
  | _ :: _, [], h => h.elim
/-- a law: of each line what it pays, and when -/
abbrev Lw : Type := List (List Int × List Int)
def clp (v : Int) : Int := if v < 0 then 0 else if 99 < v then 99 else v
def payM (fa : Int → Int) : Lw → Int
  | [] => 1
  | q :: r => if q.2 = [] ∨ ¬ hdv (ev fa q.2 []) = 0 then clp (hdv (ev fa q.1 [])) else payM fa r
def mkl (pc : Int → List Int × List Int) : Nat → Int → Lw
  | 0, _ => []
  | m + 1, l => pc l :: mkl pc m (l + 1)
theorem mkl_congr {pc pc' : Int → List Int × List Int} : ∀ (m : Nat) (l : Int), (∀ k, l ≤ k → k < l + m → pc k = pc' k) → mkl pc m l = mkl pc' m l
  | 0, _, _ => rfl
  | m + 1, l, h => by rw [mkl, mkl, h l (by omega) (by omega), mkl_congr m (l + 1) (fun k h1 h2 => h k (by omega) (by omega))]
/-- a line that is well made -/
def lnok (q : List Int × List Int) : Prop := (∃ t, t ≤ 2 ∧ tyl q.1 [] = some [t]) ∧ (q.2 = [] ∨ tyl q.2 [] = some [3])
def lwok (w : Lw) : Prop := ∀ q ∈ w, lnok q
theorem clp_r (v : Int) : 0 ≤ clp v ∧ clp v ≤ 99 := by unfold clp; split <;> (try split) <;> omega
theorem payM_r (fa : Int → Int) : ∀ w : Lw, 0 ≤ payM fa w ∧ payM fa w ≤ 99
  | [] => by show (0 : Int) ≤ 1 ∧ (1 : Int) ≤ 99; decide
  | q :: r => by
    rw [payM]
    split
    · exact clp_r _
    · exact payM_r fa r
/-- what the sign at place i pays -/
def pyI (ab : Int → Bool) (ow : Int → Int) (day : Int) (w : Lw) (row : Int → Int) (n i : Int) : Int := payM (fct ab ow day row n i) w
/-- what apprentice a gets by a row -/
def enI (ab : Int → Bool) (ow : Int → Int) (day : Int) (w : Lw) (row : Int → Int) (n a : Int) : Int := sI (fun i => if ab (row i) = true ∧ ow (row i) = a then pyI ab ow day w row n i else 0) n
end
section
/-! ===== states that differ in some cells alone ===== -/
def mem (S : List Nat) (c : Nat) : Bool := match S with
  | [] => false
  | a :: l => match Nat.beq a c with
    | true => true
    | false => mem l c
/-- f but for the cells S, which are f1's -/
def mx (S : List Nat) (f f1 : iF) : iF := fun c => match mem S c with
  | true => f1 c
  | false => f c
theorem mx_rf {S : List Nat} {f : iF} : f = mx S f f := by
  funext c
  unfold mx
  cases mem S c <;> rfl
theorem mx_t {S : List Nat} {f f1 : iF} {c : Nat} (h : mem S c = true) : mx S f f1 c = f1 c := by unfold mx; rw [h]
theorem mx_f {S : List Nat} {f f1 : iF} {c : Nat} (h : mem S c = false) : mx S f f1 c = f c := by unfold mx; rw [h]
theorem mx_wv {S : List Nat} {f F f2 : iF} {c : Nat} {k v : Int} (hm : mem S c = true) (h : F = mx S f f2) : wv F c k v = mx S f (wv f2 c k v) := by
  subst h
  funext c'
  by_cases e : c' = c
  · subst e
    rw [mx_t hm]
    funext k'
    rw [wv_i, wv_i, mx_t hm]
  · rw [wv_o e]
    cases h : mem S c' with
    | true => rw [mx_t h, mx_t h, wv_o e]
    | false => rw [mx_f h, mx_f h]
theorem mem_all {S : List Nat} : ∀ {T : List Nat}, T.all (mem S) = true → ∀ c, mem T c = true → mem S c = true
  | [], _, c, h => by cases h
  | a :: l, hT, c, h => by
    rw [List.all_cons, Bool.and_eq_true] at hT
    unfold mem at h
    cases e : Nat.beq a c with
    | true => rw [← Nat.eq_of_beq_eq_true e]; exact hT.1
    | false => rw [e] at h; exact mem_all hT.2 c h
theorem mx_mx {S T : List Nat} {f F f2 f3 : iF} (hm : T.all (mem S) = true) (h : F = mx S f f2) : mx T F f3 = mx S f (mx T f2 f3) := by
  subst h
  funext c
  unfold mx
  cases e : mem T c with
  | true => rw [mem_all hm c e]
  | false => cases mem S c <;> rfl
/-- copied out of a row -/
def acpS (f : iF) (src : Int → Int) (b : Nat) (sp dp n : Int) : iF := fun c k => if c = b ∧ dp ≤ k ∧ k < dp + n then src (sp + (k - dp)) else f c k
theorem acpS_i {f : iF} {src : Int → Int} {b : Nat} {sp dp n k : Int} : acpS f src b sp dp n b k = if dp ≤ k ∧ k < dp + n then src (sp + (k - dp)) else f b k := by
  unfold acpS
  by_cases h : dp ≤ k ∧ k < dp + n
  · rw [if_pos ⟨rfl, h⟩, if_pos h]
  · rw [if_neg (fun e => h e.2), if_neg h]
theorem acpS_o {f : iF} {src : Int → Int} {b c' : Nat} {sp dp n : Int} (h : c' ≠ b) : acpS f src b sp dp n c' = f c' := by
  funext k'
  unfold acpS
  rw [if_neg (fun e => h e.1)]
theorem mx_acp {S : List Nat} {f F f2 : iF} {a b : Nat} {sp dp n : Int} (hm : mem S b = true) (h : F = mx S f f2) : acp F a b sp dp n = mx S f (acpS f2 (F a) b sp dp n) := by
  subst h
  funext c
  by_cases e : c = b
  · subst e
    rw [mx_t hm]
    funext k
    rw [acp_i, acpS_i, mx_t (c := c) hm]
  · rw [acp_o e]
    cases h : mem S c with
    | true => rw [mx_t h, mx_t h, acpS_o e]
    | false => rw [mx_f h, mx_f h]
end
section
section C2
variable {d : Nat} {f : iF} {g : iG} {Q : Option iv → iF → iG → Prop}
/-! ===== the reference: what a sign pays ===== -/
def oR (f : iF) : Int → Int := fun s => f 86 s - 1
def aR (f : iF) : Int → Bool := abl (f 87) (oR f) (f 83)
theorem aR_t {f : iF} {s : Int} : aR f s = true ↔ (0 ≤ s ∧ s < 29 ∧ f 87 s = 0 ∧ 0 ≤ f 86 s - 1 ∧ f 83 (f 86 s - 1) = 0) := abl_t
theorem aR_f {f : iF} {s : Int} : aR f s = false ↔ ¬ (0 ≤ s ∧ s < 29 ∧ f 87 s = 0 ∧ 0 ≤ f 86 s - 1 ∧ f 83 (f 86 s - 1) = 0) := abl_f
/-- owners of the reference -/
def oB (f : iF) : Prop := ∀ s, 0 ≤ s → s < 29 → 0 ≤ f 86 s ∧ f 86 s ≤ 8
/-- the row in thought -/
def rwB (f : iF) : Prop := (0 ≤ f (fv 79 15) 0 ∧ f (fv 79 15) 0 ≤ 60) ∧ ∀ i, 0 ≤ i → i < f (fv 79 15) 0 → 0 ≤ f 89 i ∧ f 89 i ≤ 29
theorem lg_start {ab : Int → Bool} {row : Int → Int} {n i a : Int} (h0 : 0 ≤ a) (h1 : a ≤ i) (h : ∀ k, a ≤ k → k ≤ i → isL row n k = true) (hs : isL row n (a - 1) = false) : lgI ab row n i = rrI ab row n a := by
  have hi := h i h1 (Int.le_refl i)
  unfold lgI
  rw [if_pos hi, ← tot_run h0 (i - a).toNat i (by omega) (fun k h2 h3 => h k h2 (by omega))]
  by_cases e : a = 0
  · subst e
    rw [lwI_0]; omega
  · have := lwI_f (ab := ab) (row := row) (n := n) (i := a - 1) (by omega) hs
    rw [show a - 1 + 1 = a by omega] at this
    rw [this]; omega
set_option maxRecDepth 100000 in
set_option maxHeartbeats 4000000 in
theorem c_ownerOf {s : Int} (hd : 1 ≤ d) (hs0 : 0 ≤ s) (hs1 : s < 29) (ho : (oB f)) (k0 : Q (some (iI ((f 86 s) - 1))) f g) : wq d 12 [iR 79, iI s] f g Q := by
  obtain ⟨d, rfl⟩ : ∃ e, d = e + 1 := ⟨d - 1, by omega⟩
  refine i_meth0 rfl rfl (fun O J hO => ?_)
  have ho1 := ho s hs0 hs1
  refine ⟨show 0 ≤ (s : Int) ∧ s < 29 from by omega, ?_⟩
  refine Or.inl ⟨show inr ((f 86 s) - 1) from by constructor <;> omega, ?_⟩
  exact k0
set_option maxRecDepth 100000 in
set_option maxHeartbeats 4000000 in
theorem c_canP {s : Int} (hd : 2 ≤ d) (hs0 : 0 ≤ s) (hs1 : s < 29) (ho : (oB f)) (k0 : ((aR f) s = true) → Q (some (iI 1)) f g) (k1 : ((aR f) s = false) → Q (some (iI 0)) f g) : wq d 13 [iR 79, iI s] f g Q := by
  obtain ⟨d, rfl⟩ : ∃ e, d = e + 1 := ⟨d - 1, by omega⟩
  refine i_meth0 rfl rfl (fun O J hO => ?_)
  have ho1 := ho s hs0 hs1
  refine ⟨show 0 ≤ (s : Int) ∧ s < 29 from by omega, ?_⟩
  refine ⟨fun (hh_1 : f 87 s = 0) => ?_, fun (hh_1 : ¬ f 87 s = 0) => ?_⟩
  · refine ⟨show 0 ≤ (s : Int) ∧ s < 29 from by omega, ?_⟩
    refine ⟨fun (hh_2 : 0 < f 86 s) => ?_, fun (hh_2 : ¬ 0 < f 86 s) => ?_⟩
    · refine hO (c_ownerOf (by omega) (show 0 ≤ s from by omega) (show s < 29 from by omega) (show (oB f) from ho) ?_)
      refine ⟨show 0 ≤ ((f 86 s) - 1 : Int) ∧ (f 86 s) - 1 < 8 from by omega, ?_⟩
      refine ⟨fun (hh_3 : f 83 ((f 86 s) - 1) = 0) => ?_, fun (hh_3 : ¬ f 83 ((f 86 s) - 1) = 0) => ?_⟩
      · refine ⟨show (1 : Int) = 0 ∨ 1 = 1 from by decide, ?_⟩
        exact k0 (by exact aR_t.mpr ⟨hs0, hs1, by omega, by omega, by omega⟩)
      · refine ⟨show (0 : Int) = 0 ∨ 0 = 1 from by decide, ?_⟩
        exact k1 (by exact aR_f.mpr (by omega))
    · refine ⟨show (0 : Int) = 0 ∨ 0 = 1 from by decide, ?_⟩
      exact k1 (by exact aR_f.mpr (by omega))
  · refine ⟨show (0 : Int) = 0 ∨ 0 = 1 from by decide, ?_⟩
    exact k1 (by exact aR_f.mpr (by omega))
set_option maxRecDepth 100000 in
set_option maxHeartbeats 4000000 in
theorem c_isLAt {i : Int} (hd : 1 ≤ d) (hr : (rwB f)) (k0 : (isL (f 89) (f (fv 79 15) 0) i = true) → Q (some (iI 1)) f g) (k1 : (isL (f 89) (f (fv 79 15) 0) i = false) → Q (some (iI 0)) f g) : wq d 45 [iR 79, iI i] f g Q := by
  obtain ⟨d, rfl⟩ : ∃ e, d = e + 1 := ⟨d - 1, by omega⟩
  refine i_meth0 rfl rfl (fun O J hO => ?_)
  have hr1 := hr.1
  refine ⟨fun (hh_1 : i < 0) => ?_, fun (hh_1 : ¬ i < 0) => ?_⟩
  · refine ⟨show (0 : Int) = 0 ∨ 0 = 1 from by decide, ?_⟩
    exact k1 (by exact isL_f.mpr (by omega))
  · refine ⟨fun (hh_2 : i < f (fv 79 15) 0) => ?_, fun (hh_2 : ¬ i < f (fv 79 15) 0) => ?_⟩
    · refine ⟨show 0 ≤ (i : Int) ∧ i < 60 from by omega, ?_⟩
      refine ⟨fun (hh_3 : f 89 i < 26) => ?_, fun (hh_3 : ¬ f 89 i < 26) => ?_⟩
      · refine ⟨show (1 : Int) = 0 ∨ 1 = 1 from by decide, ?_⟩
        exact k0 (by exact isL_t.mpr ⟨by omega, by omega, by omega⟩)
      · refine ⟨show (0 : Int) = 0 ∨ 0 = 1 from by decide, ?_⟩
        exact k1 (by exact isL_f.mpr (by omega))
    · refine ⟨show (0 : Int) = 0 ∨ 0 = 1 from by decide, ?_⟩
      exact k1 (by exact isL_f.mpr (by omega))
set_option maxRecDepth 100000 in
set_option maxHeartbeats 4000000 in
theorem c_longAt {i : Int} (hd : 3 ≤ d) (hi0 : 0 ≤ i) (hi1 : i < (f (fv 79 15) 0)) (hr : (rwB f)) (ho : (oB f)) (k0 : Q (some (iI (lgI (aR f) (f 89) (f (fv 79 15) 0) i))) f g) : wq d 46 [iR 79, iI i] f g Q := by
  obtain ⟨d, rfl⟩ : ∃ e, d = e + 1 := ⟨d - 1, by omega⟩
  refine i_meth [(8, 3), (21, 4)] (fun n j lv st f' g' => (j = 8 ∧ ∃ (a : Int), lv = [some (iR 79), some (iI i), some (iI a)] ∧ st = [] ∧ f = f' ∧ g = g' ∧ (0 ≤ a ∧ a ≤ i) ∧ (∀ k, a ≤ k → k ≤ i → isL (f 89) (f (fv 79 15) 0) k = true) ∧ (n : Int) = a + 61) ∨ (j = 21 ∧ ∃ (a : Int) (c : Int), lv = [some (iR 79), some (iI i), some (iI a), some (iI c)] ∧ st = [] ∧ f = f' ∧ g = g' ∧ (0 ≤ a ∧ a ≤ (f (fv 79 15) 0) ∧ 0 ≤ c ∧ c ≤ a) ∧ (c + rrI (aR f) (f 89) (f (fv 79 15) 0) a = lgI (aR f) (f 89) (f (fv 79 15) 0) i) ∧ (n : Int) = (f (fv 79 15) 0) - a)) 200 (by omega) rfl rfl (fun n j lv st f' g' hn hI O J hO hF hB => ?_) (fun hvs hin O J hO hF => ?_)
  · rcases hI with hI | hI
    · obtain ⟨rfl, a, rfl, rfl, rfl, rfl, ha, hl, hm⟩ := hI
      have hr1 := hr.1
      refine Or.inl ⟨show inr (a - 1) from by constructor <;> omega, ?_⟩
      refine hO (c_isLAt (by omega) (show (rwB f) from hr) (fun (hh_1 : isL (f 89) (f (fv 79 15) 0) (a - 1) = true) => ?_) (fun (hh_2 : isL (f 89) (f (fv 79 15) 0) (a - 1) = false) => ?_))
      · have hla := isL_t.mp hh_1
        refine ⟨fun h => absurd (show (1 : Int) = 0 from h) (by decide), fun _ => ?_⟩
        refine Or.inl ⟨show inr (a - 1) from by constructor <;> omega, ?_⟩
        refine hB ((a - 1) + 61 : Int).toNat ?_ (Or.inl ⟨rfl, (a - 1), rfl, rfl, rfl, rfl, ?_, ?_, ?_⟩)
        · omega
        · omega
        · intro k h1 h2
          by_cases e : k = a - 1
          · rw [e]; assumption
          · exact hl k (by omega) h2
        · omega
      · refine ⟨fun _ => ?_, fun h => absurd (show (0 : Int) = 0 from by decide) h⟩
        refine hF ((f (fv 79 15) 0) - a : Int).toNat ?_ (Or.inr (⟨rfl, a, 0, rfl, rfl, rfl, rfl, ?_, ?_, ?_⟩))
        · omega
        · omega
        · rw [lg_start ha.1 ha.2 hl ‹_›]; omega
        · omega
    · obtain ⟨rfl, a, c, rfl, rfl, rfl, rfl, ha, hc, hm⟩ := hI
      have hr1 := hr.1
      refine hO (c_isLAt (by omega) (show (rwB f) from hr) (fun (hh_3 : isL (f 89) (f (fv 79 15) 0) a = true) => ?_) (fun (hh_4 : isL (f 89) (f (fv 79 15) 0) a = false) => ?_))
      · have hla := isL_t.mp hh_3
        refine ⟨fun h => absurd (show (1 : Int) = 0 from h) (by decide), fun _ => ?_⟩
        refine ⟨show 0 ≤ (a : Int) ∧ a < 60 from by omega, ?_⟩
        refine hO (c_canP (by omega) (show 0 ≤ (f 89 a) from by have := hr.2 a (by omega) (by omega); omega) (show (f 89 a) < 29 from by omega) (show (oB f) from ho) (fun (hh_5 : (aR f) (f 89 a) = true) => ?_) (fun (hh_6 : (aR f) (f 89 a) = false) => ?_))
        · have hrr := rrI_t (ab := (aR f)) (isL_t.mpr hla)
          rw [hh_5, b1_t] at hrr
          refine ⟨fun h => absurd (show (1 : Int) = 0 from h) (by decide), fun _ => ?_⟩
          refine Or.inl ⟨show inr (c + 1) from by constructor <;> omega, ?_⟩
          refine Or.inl ⟨show inr (a + 1) from by constructor <;> omega, ?_⟩
          refine hB ((f (fv 79 15) 0) - (a + 1) : Int).toNat ?_ (Or.inr (⟨rfl, (a + 1), (c + 1), rfl, rfl, rfl, rfl, ?_, ?_, ?_⟩))
          · omega
          · omega
          · omega
          · omega
        · have hrr := rrI_t (ab := (aR f)) (isL_t.mpr hla)
          rw [hh_6, b1_f] at hrr
          refine ⟨fun _ => ?_, fun h => absurd (show (0 : Int) = 0 from by decide) h⟩
          refine Or.inl ⟨show inr (a + 1) from by constructor <;> omega, ?_⟩
          refine hB ((f (fv 79 15) 0) - (a + 1) : Int).toNat ?_ (Or.inr (⟨rfl, (a + 1), c, rfl, rfl, rfl, rfl, ?_, ?_, ?_⟩))
          · omega
          · omega
          · omega
          · omega
      · refine ⟨fun _ => ?_, fun h => absurd (show (0 : Int) = 0 from by decide) h⟩
        have hrf := rrI_f (ab := (aR f)) ‹isL _ _ _ = false›
        rw [show lgI (aR f) (f 89) (f (fv 79 15) 0) i = c from by omega] at k0
        exact k0
  · have hr1 := hr.1
    refine hO (c_isLAt (by omega) (show (rwB f) from hr) (fun (hh_7 : isL (f 89) (f (fv 79 15) 0) i = true) => ?_) (fun (hh_8 : isL (f 89) (f (fv 79 15) 0) i = false) => ?_))
    · have hla := isL_t.mp hh_7
      refine ⟨fun h => absurd (show (1 : Int) = 0 from h) (by decide), fun _ => ?_⟩
      refine hF (i + 61 : Int).toNat ?_ (Or.inl ⟨rfl, i, rfl, rfl, rfl, rfl, ?_, ?_, ?_⟩)
      · omega
      · omega
      · intro k h1 h2
        rw [show k = i by omega]
        assumption
      · omega
    · refine ⟨fun _ => ?_, fun h => absurd (show (0 : Int) = 0 from by decide) h⟩
      rw [show lgI (aR f) (f 89) (f (fv 79 15) 0) i = 0 from by unfold lgI; rw [‹isL _ _ _ = false›]; rfl] at k0
      exact k0
set_option maxRecDepth 100000 in
set_option maxHeartbeats 4000000 in
theorem c_usedAt {i : Int} (hd : 1 ≤ d) (hi0 : 0 ≤ i) (hi1 : i < 60) (k0 : Q (some (iI (usI (f 89) i))) f g) : wq d 47 [iR 79, iI i] f g Q := by
  obtain ⟨d, rfl⟩ : ∃ e, d = e + 1 := ⟨d - 1, by omega⟩
  refine i_meth [(4, 4)] (fun n j lv st f' g' => (j = 4 ∧ ∃ (c : Int) (k : Int), lv = [some (iR 79), some (iI i), some (iI c), some (iI k)] ∧ st = [] ∧ f = f' ∧ g = g' ∧ (0 ≤ k ∧ k ≤ i ∧ 0 ≤ c ∧ c ≤ k) ∧ (c = cI (fun k => decide ((f 89 k) = (f 89 i))) k) ∧ (n : Int) = i - k)) 60 (by omega) rfl rfl (fun n j lv st f' g' hn hI O J hO hF hB => ?_) (fun hvs hin O J hO hF => ?_)
  · obtain ⟨rfl, c, k, rfl, rfl, rfl, rfl, hk, hc, hm⟩ := hI
    refine ⟨fun (hh_1 : k < i) => ?_, fun (hh_1 : ¬ k < i) => ?_⟩
    · refine ⟨show 0 ≤ (k : Int) ∧ k < 60 from by omega, ?_⟩
      refine ⟨show 0 ≤ (i : Int) ∧ i < 60 from by omega, ?_⟩
      refine ⟨fun (hh_2 : f 89 k = f 89 i) => ?_, fun (hh_2 : ¬ f 89 k = f 89 i) => ?_⟩
      · refine Or.inl ⟨show inr (c + 1) from by constructor <;> omega, ?_⟩
        refine ⟨show inr (k + 1) from by constructor <;> omega, ?_⟩
        refine hB (i - (k + 1) : Int).toNat ?_ ⟨rfl, (c + 1), (k + 1), rfl, rfl, rfl, rfl, ?_, ?_, ?_⟩
        · omega
        · omega
        · first | (rw [cI_t (by omega) (decide_eq_true ‹_ = _›)]; omega) | (rw [cI_f (by omega) (decide_eq_false ‹_›)]; omega)
        · omega
      · refine ⟨show inr (k + 1) from by constructor <;> omega, ?_⟩
        refine hB (i - (k + 1) : Int).toNat ?_ ⟨rfl, c, (k + 1), rfl, rfl, rfl, rfl, ?_, ?_, ?_⟩
        · omega
        · omega
        · first | (rw [cI_t (by omega) (decide_eq_true ‹_ = _›)]; omega) | (rw [cI_f (by omega) (decide_eq_false ‹_›)]; omega)
        · omega
    · rw [show k = i by omega] at hc
      unfold usI at k0
      rw [← hc] at k0
      exact k0
  · refine hF (i - 0 : Int).toNat ?_ ⟨rfl, 0, 0, rfl, rfl, rfl, rfl, ?_, ?_, ?_⟩
    · omega
    · omega
    · rfl
    · omega
end C2
end
section
/-! ===== the law's code: types and values ===== -/
theorem tyl_pre {l l' s r : List Int} (h : tyl (l ++ l') s = some r) : ∃ ts, tyl l s = some ts ∧ tyl l' ts = some r := by
  rw [tyl_app] at h
  cases e : tyl l s with
  | none => rw [e] at h; cases h
  | some ts => rw [e] at h; exact ⟨ts, rfl, h⟩
theorem tyl_c {c : Int} {l s r : List Int} (h : tyl (c :: l) s = some r) : ∃ ts, tst c s = some ts ∧ tyl l ts = some r := by
  rw [tyl_cons] at h
  cases e : tst c s with
  | none => rw [e] at h; cases h
  | some ts => rw [e] at h; exact ⟨ts, rfl, h⟩
theorem tst_num {c : Int} {s r : List Int} (hc : 0 ≤ c) (h : tst c s = some r) : c ≤ 9999 ∧ s.length < 64 ∧ r = (if c = 0 then 1 else 0) :: s := by
  unfold tst at h
  rw [if_pos hc] at h
  split at h
  · rename_i h2
    exact ⟨h2.1, h2.2, by cases h; rfl⟩
  · cases h
theorem tst_ask {c : Int} {s r : List Int} (hc : c < 0) (hc2 : -9 ≤ c) (h : tst c s = some r) : s.length < 64 ∧ r = 1 :: s := by
  unfold tst at h
  rw [if_neg (by omega), if_pos hc2] at h
  split at h
  · rename_i h2
    exact ⟨h2, by cases h; rfl⟩
  · cases h
theorem tst_not {s r : List Int} (h : tst (-19) s = some r) : ∃ q, s = 3 :: q ∧ r = 3 :: q := by
  unfold tst at h
  rw [if_neg (by decide), if_neg (by decide), if_pos rfl] at h
  cases s with
  | nil => cases h
  | cons b q =>
    dsimp only at h
    split at h
    · rename_i e; subst e; cases h; exact ⟨q, rfl, rfl⟩
    · cases h
theorem w32_r (z : Int) : inr (w32 z) := w32_inr z
theorem tdiv_le {a b : Int} (ha : inr a) (hb : 1 ≤ b) : inr (a.tdiv b) := by
  obtain ⟨h1, h2⟩ := ha
  rcases Int.le_total 0 a with h | h
  · have h3 : a.tdiv b = a / b := Int.tdiv_eq_ediv_of_nonneg h
    have h4 : 0 ≤ a / b := Int.ediv_nonneg h (by omega)
    have h5 : a / b ≤ a := Int.ediv_le_self b h
    rw [h3]; constructor <;> omega
  · have h3 : a.tdiv b = - ((-a) / b) := by
      have := Int.neg_tdiv (-a) b
      rw [Int.neg_neg] at this
      rw [this, Int.tdiv_eq_ediv_of_nonneg (by omega)]
    have h4 : 0 ≤ (-a) / b := Int.ediv_nonneg (by omega) (by omega)
    have h5 : (-a) / b ≤ -a := Int.ediv_le_self b (by omega)
    rw [h3]; constructor <;> omega
theorem tst_two {c : Int} {s r : List Int} (hc : c < -9) (hn : ¬ c = -19) (h : tst c s = some r) : -18 ≤ c ∧ ∃ b a q t, s = b :: a :: q ∧ r = t :: q ∧ (c = -13 → b = 0) ∧ (c = -17 ∨ c = -18 → b = 3 ∧ a = 3) ∧ ∀ x y, vok a x → vok b y → vok t (op2 c x y) := by
  unfold tst at h
  rw [if_neg (by omega), if_neg (by omega), if_neg hn] at h
  cases s with
  | nil => cases h
  | cons b s =>
    cases s with
    | nil => cases h
    | cons a q =>
      dsimp only at h
      split at h
      · rename_i e
        split at h
        · cases h
          refine ⟨by omega, b, a, q, 2, rfl, rfl, by omega, by omega, fun x y _ _ => ?_⟩
          rcases e with e | e <;> subst e
          · exact ⟨w32_r _, by omega, by omega⟩
          · exact ⟨w32_r _, by omega, by omega⟩
        · cases h
      · split at h
        · rename_i e
          split at h
          · cases h
            refine ⟨by omega, b, a, q, 1, rfl, rfl, by omega, by omega, fun x y _ _ => ?_⟩
            subst e
            exact ⟨w32_r _, by omega, by omega⟩
          · cases h
        · split at h
          · rename_i e
            split at h
            · rename_i e2
              cases h
              refine ⟨by omega, b, a, q, 1, rfl, rfl, fun _ => e2.1, by omega, fun x y hx hy => ?_⟩
              subst e
              exact ⟨tdiv_le hx.1 (hy.2.1 e2.1), by omega, by omega⟩
            · cases h
          · split at h
            · rename_i e
              split at h
              · cases h
                refine ⟨by omega, b, a, q, 3, rfl, rfl, by omega, by omega, fun x y _ _ => ?_⟩
                rcases e with e | e | e <;> subst e
                · show vok 3 (if x < y then 1 else 0)
                  split <;> exact ⟨by decide, by omega, by omega⟩
                · show vok 3 (if x = y then 1 else 0)
                  split <;> exact ⟨by decide, by omega, by omega⟩
                · show vok 3 (if y < x then 1 else 0)
                  split <;> exact ⟨by decide, by omega, by omega⟩
              · cases h
            · split at h
              · rename_i e
                split at h
                · rename_i e2
                  cases h
                  refine ⟨by omega, b, a, q, 3, rfl, rfl, by omega, fun _ => e2, fun x y hx hy => ?_⟩
                  have h1 := hx.2.2 e2.2
                  have h2 := hy.2.2 e2.1
                  rcases e with e | e <;> subst e
                  · show vok 3 (x * y)
                    rcases h1 with h1 | h1 <;> rcases h2 with h2 | h2 <;> subst h1 <;> subst h2 <;> exact ⟨by decide, by omega, by omega⟩
                  · show vok 3 (if 0 < x + y then 1 else 0)
                    split <;> exact ⟨by decide, by omega, by omega⟩
                · cases h
              · cases h
def faok (fa : Int → Int) : Prop := ∀ k, 0 ≤ k → k ≤ 8 → inr (fa k)
theorem sok_c {t : Int} {ts vs : List Int} (h : sok (t :: ts) vs) : ∃ v r, vs = v :: r ∧ vok t v ∧ sok ts r := by
  cases vs with
  | nil => exact h.elim
  | cons v r => exact ⟨v, r, rfl, h.1, h.2⟩
/-- a row that holds a stack -/
def rep (r : Int → Int) : List Int → Prop
  | [] => True
  | v :: l => r (l.length : Int) = v ∧ rep r l
theorem rep_up {r r' : Int → Int} : ∀ {l : List Int}, rep r l → (∀ k, 0 ≤ k → k < (l.length : Int) → r' k = r k) → rep r' l
  | [], _, _ => True.intro
  | v :: l, h, e => ⟨by rw [e _ (by omega) (by simp only [List.length_cons]; omega)]; exact h.1, rep_up h.2 (fun k h0 h1 => e k h0 (by simp only [List.length_cons]; omega))⟩
theorem stp_num {fa : Int → Int} {c : Int} {s : List Int} (h : 0 ≤ c) : stp fa c s = c :: s := by unfold stp; rw [if_pos h]
theorem stp_ask {fa : Int → Int} {c : Int} {s : List Int} (h : c < 0) (h2 : -9 ≤ c) : stp fa c s = fa (-1 - c) :: s := by unfold stp; rw [if_neg (by omega), if_pos h2]
theorem stp_not {fa : Int → Int} {b : Int} {s : List Int} : stp fa (-19) (b :: s) = (1 - b) :: s := by unfold stp; rw [if_neg (by decide), if_neg (by decide), if_pos rfl]
theorem stp_two {fa : Int → Int} {c a b : Int} {s : List Int} (h : c < -9) (h2 : ¬ c = -19) : stp fa c (b :: a :: s) = op2 c a b :: s := by unfold stp; rw [if_neg (by omega), if_neg (by omega), if_neg h2]
theorem stp_ok {fa : Int → Int} {c : Int} {ts ts' vs : List Int} (hf : faok fa) (hs : sok ts vs) (h : tst c ts = some ts') : sok ts' (stp fa c vs) := by
  by_cases h0 : 0 ≤ c
  · obtain ⟨h1, -, rfl⟩ := tst_num h0 h
    rw [stp_num h0]
    refine ⟨⟨⟨by omega, by omega⟩, fun e => ?_, fun e => ?_⟩, hs⟩
    · by_cases e2 : c = 0
      · rw [if_pos e2] at e; omega
      · omega
    · by_cases e2 : c = 0
      · rw [if_pos e2] at e; omega
      · rw [if_neg e2] at e; omega
  · by_cases h9 : -9 ≤ c
    · obtain ⟨-, rfl⟩ := tst_ask (by omega) h9 h
      rw [stp_ask (by omega) h9]
      exact ⟨⟨hf _ (by omega) (by omega), by omega, by omega⟩, hs⟩
    · by_cases hn : c = -19
      · subst hn
        obtain ⟨q, rfl, rfl⟩ := tst_not h
        obtain ⟨v, r, rfl, h1, h2⟩ := sok_c hs
        rw [stp_not]
        have := h1.2.2 rfl
        exact ⟨⟨⟨by omega, by omega⟩, by omega, by omega⟩, h2⟩
      · obtain ⟨-, b, a, q, t, rfl, rfl, -, -, hv⟩ := tst_two (by omega) hn h
        obtain ⟨y, r, rfl, h1, h2⟩ := sok_c hs
        obtain ⟨x, r, rfl, h3, h4⟩ := sok_c h2
        rw [stp_two (by omega) hn]
        exact ⟨hv x y h3 h1, h4⟩
theorem ev_ok {fa : Int → Int} (hf : faok fa) : ∀ {l ts ts' vs : List Int}, sok ts vs → tyl l ts = some ts' → sok ts' (ev fa l vs) := by
  intro l
  induction l with
  | nil => intro ts ts' vs hs h; cases h; exact hs
  | cons c l ih =>
    intro ts ts' vs hs h
    obtain ⟨t2, h1, h2⟩ := tyl_c h
    exact ih (stp_ok hf hs h1) h2
theorem tst_len {c : Int} {ts ts' : List Int} (hl : ts.length ≤ 64) (h : tst c ts = some ts') : ts'.length ≤ 64 := by
  by_cases h0 : 0 ≤ c
  · obtain ⟨-, h1, rfl⟩ := tst_num h0 h
    rw [List.length_cons]; omega
  · by_cases h9 : -9 ≤ c
    · obtain ⟨h1, rfl⟩ := tst_ask (by omega) h9 h
      rw [List.length_cons]; omega
    · by_cases hn : c = -19
      · subst hn
        obtain ⟨q, rfl, rfl⟩ := tst_not h
        exact hl
      · obtain ⟨-, b, a, q, t, rfl, rfl, -⟩ := tst_two (by omega) hn h
        simp only [List.length_cons] at *
        omega
theorem tyl_len : ∀ {l ts ts' : List Int}, ts.length ≤ 64 → tyl l ts = some ts' → ts'.length ≤ 64 := by
  intro l
  induction l with
  | nil => intro ts ts' hl h; cases h; exact hl
  | cons c l ih =>
    intro ts ts' hl h
    obtain ⟨t2, h1, h2⟩ := tyl_c h
    exact ih (tst_len hl h1) h2
/-- the place of a run: what has come of the code so far -/
def rst (fa code : Int → Int) (a b k : Int) (r : Int → Int) (top : Int) (vs ts : List Int) : Prop := a ≤ k ∧ k ≤ b ∧ vs = ev fa (sl code a k) [] ∧ tyl (sl code a k) [] = some ts ∧ sok ts vs ∧ top = (vs.length : Int) ∧ rep r vs ∧ vs.length ≤ 64
theorem rst_0 {fa code r : Int → Int} {a b : Int} (h : a ≤ b) : rst fa code a b a r 0 [] [] := ⟨Int.le_refl _, h, by rw [sl_nil (Int.le_refl _)]; rfl, by rw [sl_nil (Int.le_refl _)]; rfl, True.intro, rfl, True.intro, by decide⟩
/-- the next instruction has its types -/
theorem rst_t {fa code r : Int → Int} {a b k top : Int} {vs ts : List Int} {tr : List Int} (h : rst fa code a b k r top vs ts) (hk : k < b) (hw : tyl (sl code a b) [] = some tr) : ∃ ts', tst (code k) ts = some ts' := by
  obtain ⟨h1, h2, h3, h4, -⟩ := h
  rw [sl_split h1 h2, sl_cons hk] at hw
  obtain ⟨t2, e1, e2⟩ := tyl_pre hw
  rw [h4] at e1
  cases e1
  obtain ⟨t3, e3, -⟩ := tyl_c e2
  exact ⟨t3, e3⟩
theorem rst_s {fa code r r' : Int → Int} {a b k top top' : Int} {vs ts ts' : List Int} (hf : faok fa) (h : rst fa code a b k r top vs ts) (hk : k < b) (ht : tst (code k) ts = some ts') (hr : rep r' (stp fa (code k) vs)) (htop : top' = ((stp fa (code k) vs).length : Int)) : rst fa code a b (k + 1) r' top' (stp fa (code k) vs) ts' := by
  obtain ⟨h1, h2, h3, h4, h5, h6, h7, h8⟩ := h
  have hso := stp_ok hf h5 ht
  refine ⟨by omega, by omega, ?_, ?_, hso, htop, hr, ?_⟩
  · rw [sl_s h1, ev_app, ← h3, ev_1]
  · rw [sl_s h1, tyl_app, h4]
    exact ht
  · rw [← sok_len hso]
    exact tst_len (by rw [sok_len h5]; exact h8) ht
end
section
/-! ===== a run of the law's code, instruction by instruction ===== -/
section RUN
variable {fa code r : Int → Int} {a b k top : Int} {vs ts ts2 : List Int}
theorem rep_eq {r' : Int → Int} {v : Int} (h : rep r vs) (h0 : r' (vs.length : Int) = v) (h1 : ∀ j, 0 ≤ j → j < (vs.length : Int) → r' j = r j) : rep r' (v :: vs) := ⟨h0, rep_up h h1⟩
theorem rst_num (hf : faok fa) (h : rst fa code a b k r top vs ts) (hk : k < b) (ht : tst (code k) ts = some ts2) (hc : 0 ≤ code k) : 0 ≤ top ∧ top < 64 ∧ ∀ r' : Int → Int, r' top = code k → (∀ j, 0 ≤ j → j < top → r' j = r j) → rst fa code a b (k + 1) r' (top + 1) (stp fa (code k) vs) ts2 := by
  obtain ⟨h1, h2, h3, h4, h5, h6, h7, h8⟩ := id h
  have hl := sok_len h5
  obtain ⟨e1, e2, e3⟩ := tst_num hc ht
  refine ⟨by omega, by omega, fun r' hr0 hr1 => rst_s hf h hk ht ?_ ?_⟩
  · rw [stp_num hc]
    exact rep_eq h7 (by rw [← h6]; exact hr0) (fun j h0 h1 => hr1 j h0 (by omega))
  · rw [stp_num hc, List.length_cons]; omega
theorem rst_ask (hf : faok fa) (h : rst fa code a b k r top vs ts) (hk : k < b) (ht : tst (code k) ts = some ts2) (hc : code k < 0) (hc9 : -9 ≤ code k) : 0 ≤ top ∧ top < 64 ∧ ∀ r' : Int → Int, r' top = fa (-1 - code k) → (∀ j, 0 ≤ j → j < top → r' j = r j) → rst fa code a b (k + 1) r' (top + 1) (stp fa (code k) vs) ts2 := by
  obtain ⟨h1, h2, h3, h4, h5, h6, h7, h8⟩ := id h
  have hl := sok_len h5
  obtain ⟨e2, e3⟩ := tst_ask hc hc9 ht
  refine ⟨by omega, by omega, fun r' hr0 hr1 => rst_s hf h hk ht ?_ ?_⟩
  · rw [stp_ask hc hc9]
    exact rep_eq h7 (by rw [← h6]; exact hr0) (fun j h0 h1 => hr1 j h0 (by omega))
  · rw [stp_ask hc hc9, List.length_cons]; omega
theorem rst_not (hf : faok fa) (h : rst fa code a b k r top vs ts) (hk : k < b) (ht : tst (code k) ts = some ts2) (hc : code k = -19) : 1 ≤ top ∧ top ≤ 64 ∧ (r (top - 1) = 0 ∨ r (top - 1) = 1) ∧ ∀ r' : Int → Int, r' (top - 1) = 1 - r (top - 1) → (∀ j, 0 ≤ j → j < top - 1 → r' j = r j) → rst fa code a b (k + 1) r' top (stp fa (code k) vs) ts2 := by
  obtain ⟨h1, h2, h3, h4, h5, h6, h7, h8⟩ := id h
  obtain ⟨q, e1, e2⟩ := tst_not (hc ▸ ht)
  obtain ⟨v, w, e3, e4, e5⟩ := sok_c (e1 ▸ h5)
  rw [e3] at h6 h7 h8
  rw [List.length_cons] at h6 h8
  have hv : r (top - 1) = v := by rw [show top - 1 = (w.length : Int) by omega]; exact h7.1
  have hs : stp fa (code k) vs = (1 - v) :: w := by rw [hc, e3, stp_not]
  have hb := e4.2.2 rfl
  refine ⟨by omega, by omega, by rw [hv]; exact hb, fun r' hr0 hr1 => rst_s hf h hk ht ?_ ?_⟩
  · rw [hs]
    exact rep_eq h7.2 (by rw [show (w.length : Int) = top - 1 by omega, hr0, hv]) (fun j h0 h1 => hr1 j h0 (by omega))
  · rw [hs, List.length_cons]; omega
theorem rst_two (hf : faok fa) (h : rst fa code a b k r top vs ts) (hk : k < b) (ht : tst (code k) ts = some ts2) (hc : code k < -9) (hn : ¬ code k = -19) : 2 ≤ top ∧ top ≤ 64 ∧ inr (r (top - 1 - 1)) ∧ inr (r (top - 1)) ∧ -18 ≤ code k ∧ (code k = -13 → 1 ≤ r (top - 1)) ∧ (code k = -17 ∨ code k = -18 → (r (top - 1 - 1) = 0 ∨ r (top - 1 - 1) = 1) ∧ (r (top - 1) = 0 ∨ r (top - 1) = 1)) ∧ ∀ r' : Int → Int, r' (top - 1 - 1) = op2 (code k) (r (top - 1 - 1)) (r (top - 1)) → (∀ j, 0 ≤ j → j < top - 1 - 1 → r' j = r j) → rst fa code a b (k + 1) r' (top - 1) (stp fa (code k) vs) ts2 := by
  obtain ⟨h1, h2, h3, h4, h5, h6, h7, h8⟩ := id h
  obtain ⟨e0, tb, ta, q, t, e1, e2, h13, h17, hv⟩ := tst_two hc hn ht
  obtain ⟨y, w1, e3, e4, e5⟩ := sok_c (e1 ▸ h5)
  obtain ⟨x, w, e6, e7, e8⟩ := sok_c e5
  subst e6
  rw [e3] at h6 h7 h8
  simp only [List.length_cons] at h6 h8
  have hy : r (top - 1) = y := by
    have := h7.1
    rw [List.length_cons] at this
    rw [show top - 1 = ((w.length + 1 : Nat) : Int) by omega]; exact this
  have hx : r (top - 1 - 1) = x := by rw [show top - 1 - 1 = (w.length : Int) by omega]; exact h7.2.1
  have hs : stp fa (code k) vs = op2 (code k) x y :: w := by rw [e3, stp_two hc hn]
  rw [hx, hy]
  refine ⟨by omega, by omega, e7.1, e4.1, e0, fun e => e4.2.1 (h13 e), fun e => ⟨e7.2.2 (h17 e).2, e4.2.2 (h17 e).1⟩, fun r' hr0 hr1 => rst_s hf h hk ht ?_ ?_⟩
  · rw [hs]
    exact rep_eq h7.2.2 (by rw [show (w.length : Int) = top - 1 - 1 by omega]; exact hr0) (fun j h0 h1 => hr1 j h0 (by omega))
  · rw [hs, List.length_cons]; omega
theorem rst_end {t : Int} (h : rst fa code a b k r top vs ts) (hk : k = b) (hw : tyl (sl code a b) [] = some [t]) : top = 1 ∧ r 0 = hdv (ev fa (sl code a b) []) := by
  obtain ⟨h1, h2, h3, h4, h5, h6, h7, h8⟩ := h
  subst hk
  rw [h4] at hw
  have e : ts = [t] := Option.some.inj hw
  obtain ⟨v, w, e3, e4, e5⟩ := sok_c (e ▸ h5)
  cases w with
  | cons _ _ => exact e5.elim
  | nil =>
    rw [← h3, e3]
    rw [e3] at h6 h7
    exact ⟨h6, h7.1⟩
end RUN
end
section
section C4
variable {d : Nat} {f : iF} {g : iG} {Q : Option iv → iF → iG → Prop}
/-! ===== the reference: the law is run ===== -/
/-- the reference's instructions in the class's numbers -/
def encO (o : Int) : Int := if o ≤ 8 then -(o + 8) else if o = 9 then -19 else -(o + 7)
def enc (o a : Int) : Int := if o = 0 then a else if o = 1 then -1 - a else encO o
def opok (o a : Int) : Prop := (o = 0 ∧ 0 ≤ a ∧ a ≤ 9999) ∨ (o = 1 ∧ 0 ≤ a ∧ a ≤ 8) ∨ (2 ≤ o ∧ o ≤ 11)
def rcd (f : iF) : Int → Int := fun k => enc (f 97 k) (f 98 k)
def lnR (f : iF) (l : Int) : List Int × List Int := (sl (rcd f) (f 95 l) (f 94 l), sl (rcd f) (f 94 l) (f 96 l))
def lwR (f : iF) : Lw := mkl (lnR f) (f (fv 79 27) 0).toNat 0
def lB (f : iF) : Prop := (0 ≤ f (fv 79 27) 0 ∧ f (fv 79 27) 0 ≤ 16) ∧ (∀ l, 0 ≤ l → l < f (fv 79 27) 0 → 0 ≤ f 95 l ∧ f 95 l < f 94 l ∧ f 94 l ≤ f 96 l ∧ f 96 l ≤ 400 ∧ lnok (lnR f l)) ∧ ∀ k, 0 ≤ k → k < 400 → opok (f 97 k) (f 98 k)
theorem rcd_0 {f : iF} {k : Int} (h : f 97 k = 0) : rcd f k = f 98 k := by unfold rcd; rw [h]; rfl
theorem rcd_1 {f : iF} {k : Int} (h : f 97 k = 1) : rcd f k = -1 - f 98 k := by unfold rcd; rw [h]; rfl
theorem rcd_9 {f : iF} {k : Int} (h : f 97 k = 9) : rcd f k = -19 := by unfold rcd; rw [h]; rfl
theorem rcd_o {f : iF} {k : Int} (h : 2 ≤ f 97 k) : rcd f k = encO (f 97 k) := by unfold rcd enc; rw [if_neg (by omega), if_neg (by omega)]
theorem encO_r {o : Int} (h : 2 ≤ o) (h2 : o ≤ 11) : encO o < -9 ∧ -19 ≤ encO o ∧ (encO o = -19 ↔ o = 9) ∧ (encO o = -13 ↔ o = 5) ∧ (encO o = -17 ↔ o = 10) ∧ (encO o = -18 ↔ o = 11) := by
  unfold encO
  split
  · omega
  · split <;> omega
set_option maxRecDepth 100000 in
set_option maxHeartbeats 4000000 in
theorem c_twoOf {w x y : Int} (hd : 1 ≤ d) (hw : 2 ≤ w ∧ w ≤ 11 ∧ ¬ w = 9) (hy : w = 5 → 1 ≤ y) (hx : inr x) (hb : w = 10 ∨ w = 11 → (x = 0 ∨ x = 1) ∧ (y = 0 ∨ y = 1)) (k0 : Q (some (iI (op2 (encO w) x y))) f g) : wq d 42 [iR 79, iI w, iI x, iI y] f g Q := by
  obtain ⟨d, rfl⟩ : ∃ e, d = e + 1 := ⟨d - 1, by omega⟩
  refine i_meth0 rfl rfl (fun O J hO => ?_)
  refine ⟨fun (hh_1 : w = 2) => ?_, fun (hh_1 : ¬ w = 2) => ?_⟩
  · refine Or.inr ?_
    refine Eq.mp (congrArg (fun z => Q (some (iI z)) f g) ?_) k0
    rw [‹w = 2›]; rfl
  · refine ⟨fun (hh_2 : w = 3) => ?_, fun (hh_2 : ¬ w = 3) => ?_⟩
    · refine Or.inr ?_
      refine Eq.mp (congrArg (fun z => Q (some (iI z)) f g) ?_) k0
      rw [‹w = 3›]; rfl
    · refine ⟨fun (hh_3 : w = 4) => ?_, fun (hh_3 : ¬ w = 4) => ?_⟩
      · refine Or.inr ?_
        refine Eq.mp (congrArg (fun z => Q (some (iI z)) f g) ?_) k0
        rw [‹w = 4›]; rfl
      · refine ⟨fun (hh_4 : w = 5) => ?_, fun (hh_4 : ¬ w = 5) => ?_⟩
        · refine ⟨show ¬ (y : Int) = 0 from by omega, show inr (x.tdiv y) from by exact tdiv_le hx (by omega), ?_⟩
          refine Eq.mp (congrArg (fun z => Q (some (iI z)) f g) ?_) k0
          rw [‹w = 5›]; rfl
        · refine ⟨fun (hh_5 : w = 6) => ?_, fun (hh_5 : ¬ w = 6) => ?_⟩
          · refine ⟨fun (hh_6 : x < y) => ?_, fun (hh_6 : ¬ x < y) => ?_⟩
            · refine Eq.mp (congrArg (fun z => Q (some (iI z)) f g) ?_) k0
              rw [‹w = 6›]
              show (if x < y then (1 : Int) else 0) = _
              first | rw [if_pos ‹x < y›] | rw [if_neg ‹¬ x < y›]
            · refine Eq.mp (congrArg (fun z => Q (some (iI z)) f g) ?_) k0
              rw [‹w = 6›]
              show (if x < y then (1 : Int) else 0) = _
              first | rw [if_pos ‹x < y›] | rw [if_neg ‹¬ x < y›]
          · refine ⟨fun (hh_7 : w = 7) => ?_, fun (hh_7 : ¬ w = 7) => ?_⟩
            · refine ⟨fun (hh_8 : x = y) => ?_, fun (hh_8 : ¬ x = y) => ?_⟩
              · refine Eq.mp (congrArg (fun z => Q (some (iI z)) f g) ?_) k0
                rw [‹w = 7›]
                show (if x = y then (1 : Int) else 0) = _
                first | rw [if_pos ‹x = y›] | rw [if_neg ‹¬ x = y›]
              · refine Eq.mp (congrArg (fun z => Q (some (iI z)) f g) ?_) k0
                rw [‹w = 7›]
                show (if x = y then (1 : Int) else 0) = _
                first | rw [if_pos ‹x = y›] | rw [if_neg ‹¬ x = y›]
            · refine ⟨fun (hh_9 : w = 8) => ?_, fun (hh_9 : ¬ w = 8) => ?_⟩
              · refine ⟨fun (hh_10 : y < x) => ?_, fun (hh_10 : ¬ y < x) => ?_⟩
                · refine Eq.mp (congrArg (fun z => Q (some (iI z)) f g) ?_) k0
                  rw [‹w = 8›]
                  show (if y < x then (1 : Int) else 0) = _
                  first | rw [if_pos ‹y < x›] | rw [if_neg ‹¬ y < x›]
                · refine Eq.mp (congrArg (fun z => Q (some (iI z)) f g) ?_) k0
                  rw [‹w = 8›]
                  show (if y < x then (1 : Int) else 0) = _
                  first | rw [if_pos ‹y < x›] | rw [if_neg ‹¬ y < x›]
              · refine ⟨fun (hh_11 : w = 10) => ?_, fun (hh_11 : ¬ w = 10) => ?_⟩
                · refine Or.inl ⟨show inr (x * y) from by constructor <;> (rcases (hb (by omega)).1 with h | h <;> rcases (hb (by omega)).2 with h2 | h2 <;> subst h <;> subst h2 <;> decide), ?_⟩
                  refine Eq.mp (congrArg (fun z => Q (some (iI z)) f g) ?_) k0
                  rw [‹w = 10›]; rfl
                · refine Or.inl ⟨show inr (x + y) from by constructor <;> omega, ?_⟩
                  refine ⟨fun (hh_12 : 0 < (x + y)) => ?_, fun (hh_12 : ¬ 0 < (x + y)) => ?_⟩
                  · refine Eq.mp (congrArg (fun z => Q (some (iI z)) f g) ?_) k0
                    rw [show w = 11 by omega]
                    show (if 0 < x + y then (1 : Int) else 0) = _
                    first | rw [if_pos ‹0 < x + y›] | rw [if_neg ‹¬ 0 < x + y›]
                  · refine Eq.mp (congrArg (fun z => Q (some (iI z)) f g) ?_) k0
                    rw [show w = 11 by omega]
                    show (if 0 < x + y then (1 : Int) else 0) = _
                    first | rw [if_pos ‹0 < x + y›] | rw [if_neg ‹¬ 0 < x + y›]
set_option maxRecDepth 100000 in
set_option maxHeartbeats 4000000 in
theorem c_runs {fr to : Int} (hd : 2 ≤ d) (h0 : 0 ≤ fr ∧ fr < to ∧ to ≤ 400) (hw : ∃ t, tyl (sl (rcd f) fr to) [] = some [t]) (hop : ∀ k, 0 ≤ k → k < 400 → opok (f 97 k) (f 98 k)) (hfa : faok (f 100)) (k0 : ∀ f1 : iF, Q (some (iI (hdv (ev (f 100) (sl (rcd f) fr to) [])))) (mx [101] f f1) g) : wq d 43 [iR 79, iI fr, iI to] f g Q := by
  obtain ⟨d, rfl⟩ : ∃ e, d = e + 1 := ⟨d - 1, by omega⟩
  refine i_meth [(4, 5)] (fun n j lv st f' g' => (j = 4 ∧ ∃ (top : Int) (k : Int) (vs : List Int) (ts : List Int) (f1 : iF), lv = [some (iR 79), some (iI fr), some (iI to), some (iI top), some (iI k)] ∧ st = [] ∧ f' = (mx [101] f f1) ∧ g = g' ∧ (rst (f 100) (rcd f) fr to k (f1 101) top vs ts) ∧ (n : Int) = to - k)) 400 (by omega) rfl rfl (fun n j lv st f' g' hn hI O J hO hF hB => ?_) (fun hvs hin O J hO hF => ?_)
  · obtain ⟨rfl, top, k, vs, ts, f1, rfl, rfl, rfl, rfl, hr, hm⟩ := hI
    obtain ⟨tw, hw⟩ := hw
    have hr1 := hr.1
    have hr2 := hr.2.1
    refine ⟨fun (hh_1 : k < to) => ?_, fun (hh_1 : ¬ k < to) => ?_⟩
    · obtain ⟨ts2, ht⟩ := rst_t hr (by omega) hw
      have hopk := hop k (by omega) (by omega)
      unfold opok at hopk
      refine ⟨show 0 ≤ (k : Int) ∧ k < 800 from by omega, ?_⟩
      refine ⟨fun (hh_2 : f 97 k = 0) => ?_, fun (hh_2 : ¬ f 97 k = 0) => ?_⟩
      · refine ⟨show 0 ≤ (k : Int) ∧ k < 800 from by omega, ?_⟩
        refine ⟨fun _ => ?_, fun h => absurd hh_2 h⟩
        have hc := rcd_0 hh_2
        obtain ⟨ht0, ht1, hnx⟩ := rst_num hfa hr (by omega) ht (by omega)
        refine ⟨show 0 ≤ (k : Int) ∧ k < 800 from by omega, ?_⟩
        refine ⟨show 0 ≤ (top : Int) ∧ top < 420 from by omega, ?_⟩
        refine Or.inl ⟨show inr (top + 1) from by constructor <;> omega, ?_⟩
        refine ⟨show inr (k + 1) from by constructor <;> omega, ?_⟩
        refine hB (to - (k + 1) : Int).toNat ?_ ⟨rfl, (top + 1), (k + 1), (stp (f 100) (rcd f k) vs), ts2, (wv f1 101 top (f 98 k)), rfl, rfl, (mx_wv rfl rfl), rfl, ?_, ?_⟩
        · omega
        · exact hnx _ (by rw [wv_s, hc]) (fun j h0 h1 => wv_k (by omega))
        · omega
      · refine ⟨show 0 ≤ (k : Int) ∧ k < 800 from by omega, ?_⟩
        refine ⟨fun (hh_3 : f 97 k = 1) => ?_, fun (hh_3 : ¬ f 97 k = 1) => ?_⟩
        · refine ⟨show 0 ≤ (k : Int) ∧ k < 800 from by omega, ?_⟩
          refine ⟨fun h => absurd h hh_2, fun _ => ?_⟩
          have hc := rcd_1 (show f 97 k = 1 by omega)
          obtain ⟨ht0, ht1, hnx⟩ := rst_ask hfa hr (by omega) ht (by omega) (by omega)
          rw [show -1 - rcd f k = f 98 k by omega] at hnx
          refine ⟨show 0 ≤ (k : Int) ∧ k < 800 from by omega, ?_⟩
          refine ⟨show 0 ≤ (f 98 k : Int) ∧ f 98 k < 9 from by omega, ?_⟩
          refine ⟨show 0 ≤ (top : Int) ∧ top < 420 from by omega, ?_⟩
          refine Or.inl ⟨show inr (top + 1) from by constructor <;> omega, ?_⟩
          refine ⟨show inr (k + 1) from by constructor <;> omega, ?_⟩
          refine hB (to - (k + 1) : Int).toNat ?_ ⟨rfl, (top + 1), (k + 1), (stp (f 100) (rcd f k) vs), ts2, (wv f1 101 top (f 100 (f 98 k))), rfl, rfl, (mx_wv rfl rfl), rfl, ?_, ?_⟩
          · omega
          · exact hnx _ wv_s (fun j h0 h1 => wv_k (by omega))
          · omega
        · refine ⟨show 0 ≤ (k : Int) ∧ k < 800 from by omega, ?_⟩
          refine ⟨fun (hh_4 : f 97 k = 9) => ?_, fun (hh_4 : ¬ f 97 k = 9) => ?_⟩
          · have hc := rcd_9 hh_4
            obtain ⟨ht0, ht1, hb, hnx⟩ := rst_not hfa hr (by omega) ht hc
            refine Or.inl ⟨show inr (top - 1) from by constructor <;> omega, ?_⟩
            refine Or.inl ⟨show inr (top - 1) from by constructor <;> omega, ?_⟩
            refine ⟨show 0 ≤ ((top - 1) : Int) ∧ (top - 1) < 420 from by omega, ?_⟩
            refine Or.inl ⟨show inr (1 - (f1 101 (top - 1))) from by constructor <;> omega, ?_⟩
            refine ⟨show 0 ≤ ((top - 1) : Int) ∧ (top - 1) < 420 from by omega, ?_⟩
            refine ⟨show inr (k + 1) from by constructor <;> omega, ?_⟩
            refine hB (to - (k + 1) : Int).toNat ?_ ⟨rfl, top, (k + 1), (stp (f 100) (rcd f k) vs), ts2, (wv f1 101 (top - 1) (1 - (f1 101 (top - 1)))), rfl, rfl, (mx_wv rfl rfl), rfl, ?_, ?_⟩
            · omega
            · exact hnx _ wv_s (fun j h0 h1 => wv_k (by omega))
            · omega
          · have hc := rcd_o (f := f) (k := k) (by omega)
            have her := encO_r (o := f 97 k) (by omega) (by omega)
            obtain ⟨ht0, ht1, hix, hiy, -, h13, h17, hnx⟩ := rst_two hfa hr (by omega) ht (by omega) (by omega)
            refine Or.inl ⟨show inr (top - 1) from by constructor <;> omega, ?_⟩
            refine Or.inl ⟨show inr ((top - 1) - 1) from by constructor <;> omega, ?_⟩
            refine ⟨show 0 ≤ (k : Int) ∧ k < 800 from by omega, ?_⟩
            refine Or.inl ⟨show inr ((top - 1) - 1) from by constructor <;> omega, ?_⟩
            refine ⟨show 0 ≤ (((top - 1) - 1) : Int) ∧ ((top - 1) - 1) < 420 from by omega, ?_⟩
            refine ⟨show 0 ≤ ((top - 1) : Int) ∧ (top - 1) < 420 from by omega, ?_⟩
            refine hO (c_twoOf (by omega) (show 2 ≤ (f 97 k) ∧ (f 97 k) ≤ 11 ∧ ¬ (f 97 k) = 9 from by omega) (show (f 97 k) = 5 → 1 ≤ (f1 101 (top - 1)) from by intro h; exact h13 (by omega)) (show inr (f1 101 ((top - 1) - 1)) from hix) (show (f 97 k) = 10 ∨ (f 97 k) = 11 → ((f1 101 ((top - 1) - 1)) = 0 ∨ (f1 101 ((top - 1) - 1)) = 1) ∧ ((f1 101 (top - 1)) = 0 ∨ (f1 101 (top - 1)) = 1) from by intro h; exact h17 (by omega)) ?_)
            refine ⟨show 0 ≤ (((top - 1) - 1) : Int) ∧ ((top - 1) - 1) < 420 from by omega, ?_⟩
            refine ⟨show inr (k + 1) from by constructor <;> omega, ?_⟩
            refine hB (to - (k + 1) : Int).toNat ?_ ⟨rfl, (top - 1), (k + 1), (stp (f 100) (rcd f k) vs), ts2, (wv f1 101 ((top - 1) - 1) (op2 (encO (f 97 k)) (f1 101 ((top - 1) - 1)) (f1 101 (top - 1)))), rfl, rfl, (mx_wv rfl rfl), rfl, ?_, ?_⟩
            · omega
            · exact hnx _ (by rw [wv_s, hc]) (fun j h0 h1 => wv_k (by omega))
            · omega
    · refine ⟨show 0 ≤ (0 : Int) ∧ 0 < 420 from by decide, ?_⟩
      have he := (rst_end hr (by omega) hw).2
      rw [← he] at k0
      exact k0 f1
  · obtain ⟨tw, hw⟩ := hw
    refine hF (to - fr : Int).toNat ?_ ⟨rfl, 0, fr, [], [], f, rfl, rfl, mx_rf, rfl, ?_, ?_⟩
    · omega
    · exact rst_0 (by omega)
    · omega
theorem lnR_ne {f : iF} {l : Int} (h : f 94 l < f 96 l) : ¬ (lnR f l).2 = [] := by
  show ¬ sl (rcd f) (f 94 l) (f 96 l) = []
  rw [sl_cons h]
  exact List.cons_ne_nil _ _
set_option maxRecDepth 100000 in
set_option maxHeartbeats 4000000 in
theorem c_isSo {l : Int} (hd : 3 ≤ d) (hl0 : 0 ≤ l) (hl1 : l < (f (fv 79 27) 0)) (hl : (lB f)) (hfa : faok (f 100)) (k0 : ∀ f1 : iF, (((lnR f) l).2 = [] ∨ ¬ hdv (ev (f 100) ((lnR f) l).2 []) = 0) → Q (some (iI 1)) (mx [101] f f1) g) (k1 : ∀ f1 : iF, (¬ (((lnR f) l).2 = [] ∨ ¬ hdv (ev (f 100) ((lnR f) l).2 []) = 0)) → Q (some (iI 0)) (mx [101] f f1) g) : wq d 44 [iR 79, iI l] f g Q := by
  obtain ⟨d, rfl⟩ : ∃ e, d = e + 1 := ⟨d - 1, by omega⟩
  refine i_meth0 rfl rfl (fun O J hO => ?_)
  have h1 := hl.1
  obtain ⟨h2, h3, h4, h5, h6, h7⟩ := hl.2.1 l hl0 hl1
  refine ⟨show 0 ≤ (l : Int) ∧ l < 32 from by omega, ?_⟩
  refine ⟨show 0 ≤ (l : Int) ∧ l < 32 from by omega, ?_⟩
  refine ⟨fun (hh_1 : f 94 l = f 96 l) => ?_, fun (hh_1 : ¬ f 94 l = f 96 l) => ?_⟩
  · refine ⟨show (1 : Int) = 0 ∨ 1 = 1 from by decide, ?_⟩
    rw [show f = mx [101] f f from mx_rf]
    exact k0 f (by exact Or.inl (sl_nil (by omega)))
  · have hlt : f 94 l < f 96 l := by omega
    have hty : tyl (sl (rcd f) (f 94 l) (f 96 l)) [] = some [3] := by rcases h7 with h7 | h7; exact absurd h7 (lnR_ne hlt); exact h7
    refine ⟨show 0 ≤ (l : Int) ∧ l < 32 from by omega, ?_⟩
    refine ⟨show 0 ≤ (l : Int) ∧ l < 32 from by omega, ?_⟩
    refine hO (c_runs (by omega) (show 0 ≤ (f 94 l) ∧ (f 94 l) < (f 96 l) ∧ (f 96 l) ≤ 400 from by omega) (show ∃ t, tyl (sl (rcd f) (f 94 l) (f 96 l)) [] = some [t] from ⟨3, hty⟩) (show ∀ k, 0 ≤ k → k < 400 → opok (f 97 k) (f 98 k) from hl.2.2) (show faok (f 100) from hfa) (fun f1_2 => ?_))
    refine ⟨fun (hh_3 : hdv (ev (f 100) (sl (rcd f) (f 94 l) (f 96 l)) []) = 0) => ?_, fun (hh_3 : ¬ hdv (ev (f 100) (sl (rcd f) (f 94 l) (f 96 l)) []) = 0) => ?_⟩
    · refine ⟨show (0 : Int) = 0 ∨ 0 = 1 from by decide, ?_⟩
      exact k1 f1_2 (by exact fun h => by rcases h with h | h; exact lnR_ne hlt h; exact h (by assumption))
    · refine ⟨show (1 : Int) = 0 ∨ 1 = 1 from by decide, ?_⟩
      exact k0 f1_2 (by exact Or.inr (by assumption))
end C4
end
section
section C5
variable {d : Nat} {f : iF} {g : iG} {Q : Option iv → iF → iG → Prop}
/-! ===== the reference: pays and earnings ===== -/
theorem ev_cg {fa fb : Int → Int} (h : ∀ k, 0 ≤ k → k ≤ 8 → fa k = fb k) : ∀ (l s : List Int), ev fa l s = ev fb l s := by
  intro l
  induction l with
  | nil => intro s; rfl
  | cons c l ih =>
    intro s
    have e : stp fa c s = stp fb c s := by
      by_cases h0 : 0 ≤ c
      · rw [stp_num h0, stp_num h0]
      · by_cases h9 : -9 ≤ c
        · rw [stp_ask (by omega) h9, stp_ask (by omega) h9, h _ (by omega) (by omega)]
        · unfold stp
          rw [if_neg h0, if_neg h9, if_neg h0, if_neg h9]
    show ev fa l (stp fa c s) = ev fb l (stp fb c s)
    rw [e, ih]
theorem vwl_t {s : Int} (h : s = 0 ∨ s = 4 ∨ s = 8 ∨ s = 14 ∨ s = 20) : vwl s = true := decide_eq_true h
theorem vwl_f {s : Int} (h : ¬ (s = 0 ∨ s = 4 ∨ s = 8 ∨ s = 14 ∨ s = 20)) : vwl s = false := decide_eq_false h
theorem usI_r {row : Int → Int} {i : Int} (h : 0 ≤ i) : 0 ≤ usI row i ∧ usI row i ≤ i := cI_le h
theorem fct_r {ab : Int → Bool} {ow row : Int → Int} {day n i k : Int} (hab : ∀ s, ab s = true → 0 ≤ s ∧ s < 29) (ho : -1 ≤ ow (row i) ∧ ow (row i) ≤ 8) (hday : 0 ≤ day ∧ day ≤ 9999) (hi : 0 ≤ i ∧ i < n ∧ n ≤ 60) (hr : 0 ≤ row i ∧ row i ≤ 29) : 0 ≤ fct ab ow day row n i k ∧ fct ab ow day row n i k ≤ 9999 := by
  have h1 := lgI_le (ab := ab) (row := row) (n := n) (i := i) (by omega)
  have h2 := usI_r (row := row) hi.1
  have h3 := b1_01 (vwl (row i))
  have h4 := b1_01 (isL row n i && !isL row n (i - 1))
  have h5 : 0 ≤ lfI ab row i ∧ lfI ab row i ≤ 29 := by
    unfold lfI
    split
    · rename_i e
      have := hab _ e.2
      omega
    · omega
  unfold fct fsI
  repeat' split
  all_goals omega
theorem faok_fct {ab : Int → Bool} {ow row : Int → Int} {day n i : Int} (hab : ∀ s, ab s = true → 0 ≤ s ∧ s < 29) (ho : -1 ≤ ow (row i) ∧ ow (row i) ≤ 8) (hday : 0 ≤ day ∧ day ≤ 9999) (hi : 0 ≤ i ∧ i < n ∧ n ≤ 60) (hr : 0 ≤ row i ∧ row i ≤ 29) : faok (fct ab ow day row n i) := by
  intro k _ _
  have := fct_r (k := k) hab ho hday hi hr
  constructor <;> omega
theorem aR_in {f : iF} (s : Int) (h : aR f s = true) : 0 ≤ s ∧ s < 29 := ⟨(aR_t.mp h).1, (aR_t.mp h).2.1⟩
theorem pyI_r {ab : Int → Bool} {ow row : Int → Int} {day n i : Int} {w : Lw} : 0 ≤ pyI ab ow day w row n i ∧ pyI ab ow day w row n i ≤ 99 := payM_r _ _
theorem clp_0 {v : Int} (h : v < 0) : clp v = 0 := by unfold clp; rw [if_pos h]
theorem clp_99 {v : Int} (h : 99 < v) : clp v = 99 := by unfold clp; rw [if_neg (by omega), if_pos h]
theorem clp_v {v : Int} (h : ¬ v < 0) (h2 : ¬ 99 < v) : clp v = v := by unfold clp; rw [if_neg h, if_neg h2]
set_option maxRecDepth 100000 in
set_option maxHeartbeats 4000000 in
theorem c_paysAt {i : Int} (hd : 4 ≤ d) (hi0 : 0 ≤ i) (hi1 : i < (f (fv 79 15) 0)) (hs : (f 89 i) < 29) (hr : (rwB f)) (ho : (oB f)) (hl : (lB f)) (hday : 0 ≤ (f (fv 79 12) 0) ∧ (f (fv 79 12) 0) ≤ 9999) (k0 : ∀ f1 : iF, Q (some (iI (pyI (aR f) (oR f) (f (fv 79 12) 0) (lwR f) (f 89) (f (fv 79 15) 0) i))) (mx [100, 101] f f1) g) : wq d 49 [iR 79, iI i] f g Q := by
  obtain ⟨d, rfl⟩ : ∃ e, d = e + 1 := ⟨d - 1, by omega⟩
  refine i_meth [(40, 2), (60, 2), (97, 2), (114, 2), (117, 3)] (fun n j lv st f' g' => (j = 40 ∧ ∃ (x : Int) (f1 : iF), lv = [some (iR 79), some (iI i)] ∧ st = [(iI x), (iI 4), (iR 100)] ∧ f' = (mx [100] f f1) ∧ g = g' ∧ (f1 100 0 = f 89 i) ∧ (f1 100 1 = i) ∧ (f1 100 2 = lgI (aR f) (f 89) (f (fv 79 15) 0) i) ∧ (f1 100 3 = usI (f 89) i) ∧ (x = b1 (vwl (f 89 i))) ∧ (n : Int) = 40) ∨ (j = 60 ∧ ∃ (x : Int) (f1 : iF), lv = [some (iR 79), some (iI i)] ∧ st = [(iI x), (iI 5), (iR 100)] ∧ f' = (mx [100] f f1) ∧ g = g' ∧ (f1 100 0 = f 89 i) ∧ (f1 100 1 = i) ∧ (f1 100 2 = lgI (aR f) (f 89) (f (fv 79 15) 0) i) ∧ (f1 100 3 = usI (f 89) i) ∧ (f1 100 4 = b1 (vwl (f 89 i))) ∧ (x = (if oR f (f 89 i) = -1 then 9 else oR f (f 89 i))) ∧ (n : Int) = 40) ∨ (j = 97 ∧ ∃ (x : Int) (f1 : iF), lv = [some (iR 79), some (iI i)] ∧ st = [(iI x), (iI 7), (iR 100)] ∧ f' = (mx [100] f f1) ∧ g = g' ∧ (f1 100 0 = f 89 i) ∧ (f1 100 1 = i) ∧ (f1 100 2 = lgI (aR f) (f 89) (f (fv 79 15) 0) i) ∧ (f1 100 3 = usI (f 89) i) ∧ (f1 100 4 = b1 (vwl (f 89 i))) ∧ (f1 100 5 = (if oR f (f 89 i) = -1 then 9 else oR f (f 89 i))) ∧ (f1 100 6 = f (fv 79 12) 0) ∧ (x = lfI (aR f) (f 89) i) ∧ (n : Int) = 40) ∨ (j = 114 ∧ ∃ (x : Int) (f1 : iF), lv = [some (iR 79), some (iI i)] ∧ st = [(iI x), (iI 8), (iR 100)] ∧ f' = (mx [100] f f1) ∧ g = g' ∧ (f1 100 0 = f 89 i) ∧ (f1 100 1 = i) ∧ (f1 100 2 = lgI (aR f) (f 89) (f (fv 79 15) 0) i) ∧ (f1 100 3 = usI (f 89) i) ∧ (f1 100 4 = b1 (vwl (f 89 i))) ∧ (f1 100 5 = (if oR f (f 89 i) = -1 then 9 else oR f (f 89 i))) ∧ (f1 100 6 = f (fv 79 12) 0) ∧ (f1 100 7 = lfI (aR f) (f 89) i) ∧ (x = fsI (f 89) (f (fv 79 15) 0) i) ∧ (n : Int) = 40) ∨ (j = 117 ∧ ∃ (l : Int) (f1 : iF), lv = [some (iR 79), some (iI i), some (iI l)] ∧ st = [] ∧ f' = (mx [100, 101] f f1) ∧ g = g' ∧ (∀ k, 0 ≤ k → k ≤ 8 → f1 100 k = (fct (aR f) (oR f) (f (fv 79 12) 0) (f 89) (f (fv 79 15) 0) i) k) ∧ (0 ≤ l ∧ l ≤ (f (fv 79 27) 0)) ∧ (payM (fct (aR f) (oR f) (f (fv 79 12) 0) (f 89) (f (fv 79 15) 0) i) (mkl (lnR f) ((f (fv 79 27) 0) - l).toNat l) = payM (fct (aR f) (oR f) (f (fv 79 12) 0) (f 89) (f (fv 79 15) 0) i) (lwR f)) ∧ (n : Int) = (f (fv 79 27) 0) - l)) 40 (by omega) rfl rfl (fun n j lv st f' g' hn hI O J hO hF hB => ?_) (fun hvs hin O J hO hF => ?_)
  · rcases hI with hI | hI | hI | hI | hI
    · obtain ⟨rfl, x, f1, rfl, rfl, rfl, rfl, zf0, zf1, zf2, zf3, hx, hm⟩ := hI
      have hl1 := hl.1
      have hr1 := hr.1
      have hri := hr.2 i (by omega) (by omega)
      refine ⟨show 0 ≤ (4 : Int) ∧ 4 < 9 from by decide, ?_⟩
      refine ⟨show 0 ≤ (i : Int) ∧ i < 60 from by omega, ?_⟩
      refine ⟨show 0 ≤ (f 89 i : Int) ∧ f 89 i < 29 from by omega, ?_⟩
      refine ⟨fun (hh_1 : f 86 (f 89 i) = 0) => ?_, fun (hh_1 : ¬ f 86 (f 89 i) = 0) => ?_⟩
      · refine hF (40 : Int).toNat ?_ (Or.inr (Or.inl ⟨rfl, 9, (wv f1 100 4 x), rfl, rfl, (mx_wv rfl rfl), rfl, ?_, ?_, ?_, ?_, ?_, ?_, ?_⟩))
        · omega
        · first | exact zf0 | exact hx | rfl
        · first | exact zf1 | exact hx | rfl
        · first | exact zf2 | exact hx | rfl
        · first | exact zf3 | exact hx | rfl
        · first | exact zf4 | exact hx | rfl
        · show _ = if f 86 (f 89 i) - 1 = -1 then (9 : Int) else f 86 (f 89 i) - 1
          first | rw [if_pos (by omega)] | rw [if_neg (by omega)]
        · omega
      · refine ⟨show 0 ≤ (i : Int) ∧ i < 60 from by omega, ?_⟩
        refine hO (c_ownerOf (by omega) (show 0 ≤ (f 89 i) from by omega) (show (f 89 i) < 29 from by omega) (show (oB f) from ho) ?_)
        refine hF (40 : Int).toNat ?_ (Or.inr (Or.inl ⟨rfl, (f 86 (f 89 i)) - 1, (wv f1 100 4 x), rfl, rfl, (mx_wv rfl rfl), rfl, ?_, ?_, ?_, ?_, ?_, ?_, ?_⟩))
        · omega
        · first | exact zf0 | exact hx | rfl
        · first | exact zf1 | exact hx | rfl
        · first | exact zf2 | exact hx | rfl
        · first | exact zf3 | exact hx | rfl
        · first | exact zf4 | exact hx | rfl
        · show _ = if f 86 (f 89 i) - 1 = -1 then (9 : Int) else f 86 (f 89 i) - 1
          first | rw [if_pos (by omega)] | rw [if_neg (by omega)]
        · omega
    · obtain ⟨rfl, x, f1, rfl, rfl, rfl, rfl, zf0, zf1, zf2, zf3, zf4, hx, hm⟩ := hI
      have hl1 := hl.1
      have hr1 := hr.1
      have hri := hr.2 i (by omega) (by omega)
      refine ⟨show 0 ≤ (5 : Int) ∧ 5 < 9 from by decide, ?_⟩
      refine ⟨show 0 ≤ (6 : Int) ∧ 6 < 9 from by decide, ?_⟩
      refine ⟨fun (hh_2 : i = 0) => ?_, fun (hh_2 : ¬ i = 0) => ?_⟩
      · refine hF (40 : Int).toNat ?_ (Or.inr (Or.inr (Or.inl ⟨rfl, 29, (wv (wv f1 100 5 x) 100 6 (f (fv 79 12) 0)), rfl, rfl, (mx_wv rfl (mx_wv rfl rfl)), rfl, ?_, ?_, ?_, ?_, ?_, ?_, ?_, ?_, ?_⟩)))
        · omega
        · first | exact zf0 | exact hx | rfl
        · first | exact zf1 | exact hx | rfl
        · first | exact zf2 | exact hx | rfl
        · first | exact zf3 | exact hx | rfl
        · first | exact zf4 | exact hx | rfl
        · first | exact zf5 | exact hx | rfl
        · first | exact zf6 | exact hx | rfl
        · unfold lfI
          first | rw [if_pos ⟨by omega, by assumption⟩] | rw [if_neg (fun h => by have h2 := aR_t.mp h.2; omega)] | rw [if_neg (fun h => absurd h.2 (by rw [‹aR f (f 89 (i - 1)) = false›]; decide))]
        · omega
      · have hri1 := hr.2 (i - 1) (by omega) (by omega)
        refine Or.inl ⟨show inr (i - 1) from by constructor <;> omega, ?_⟩
        refine ⟨show 0 ≤ ((i - 1) : Int) ∧ (i - 1) < 60 from by omega, ?_⟩
        refine ⟨fun (hh_3 : f 89 (i - 1) = 29) => ?_, fun (hh_3 : ¬ f 89 (i - 1) = 29) => ?_⟩
        · refine hF (40 : Int).toNat ?_ (Or.inr (Or.inr (Or.inl ⟨rfl, 29, (wv (wv f1 100 5 x) 100 6 (f (fv 79 12) 0)), rfl, rfl, (mx_wv rfl (mx_wv rfl rfl)), rfl, ?_, ?_, ?_, ?_, ?_, ?_, ?_, ?_, ?_⟩)))
          · omega
          · first | exact zf0 | exact hx | rfl
          · first | exact zf1 | exact hx | rfl
          · first | exact zf2 | exact hx | rfl
          · first | exact zf3 | exact hx | rfl
          · first | exact zf4 | exact hx | rfl
          · first | exact zf5 | exact hx | rfl
          · first | exact zf6 | exact hx | rfl
          · unfold lfI
            first | rw [if_pos ⟨by omega, by assumption⟩] | rw [if_neg (fun h => by have h2 := aR_t.mp h.2; omega)] | rw [if_neg (fun h => absurd h.2 (by rw [‹aR f (f 89 (i - 1)) = false›]; decide))]
          · omega
        · refine Or.inl ⟨show inr (i - 1) from by constructor <;> omega, ?_⟩
          refine ⟨show 0 ≤ ((i - 1) : Int) ∧ (i - 1) < 60 from by omega, ?_⟩
          refine hO (c_canP (by omega) (show 0 ≤ (f 89 (i - 1)) from by omega) (show (f 89 (i - 1)) < 29 from by omega) (show (oB f) from ho) (fun (hh_4 : (aR f) (f 89 (i - 1)) = true) => ?_) (fun (hh_5 : (aR f) (f 89 (i - 1)) = false) => ?_))
          · refine ⟨fun h => absurd (show (1 : Int) = 0 from h) (by decide), fun _ => ?_⟩
            refine Or.inl ⟨show inr (i - 1) from by constructor <;> omega, ?_⟩
            refine ⟨show 0 ≤ ((i - 1) : Int) ∧ (i - 1) < 60 from by omega, ?_⟩
            refine hF (40 : Int).toNat ?_ (Or.inr (Or.inr (Or.inl ⟨rfl, f 89 (i - 1), (wv (wv f1 100 5 x) 100 6 (f (fv 79 12) 0)), rfl, rfl, (mx_wv rfl (mx_wv rfl rfl)), rfl, ?_, ?_, ?_, ?_, ?_, ?_, ?_, ?_, ?_⟩)))
            · omega
            · first | exact zf0 | exact hx | rfl
            · first | exact zf1 | exact hx | rfl
            · first | exact zf2 | exact hx | rfl
            · first | exact zf3 | exact hx | rfl
            · first | exact zf4 | exact hx | rfl
            · first | exact zf5 | exact hx | rfl
            · first | exact zf6 | exact hx | rfl
            · unfold lfI
              first | rw [if_pos ⟨by omega, by assumption⟩] | rw [if_neg (fun h => by have h2 := aR_t.mp h.2; omega)] | rw [if_neg (fun h => absurd h.2 (by rw [‹aR f (f 89 (i - 1)) = false›]; decide))]
            · omega
          · refine ⟨fun _ => ?_, fun h => absurd (show (0 : Int) = 0 from by decide) h⟩
            refine hF (40 : Int).toNat ?_ (Or.inr (Or.inr (Or.inl ⟨rfl, 29, (wv (wv f1 100 5 x) 100 6 (f (fv 79 12) 0)), rfl, rfl, (mx_wv rfl (mx_wv rfl rfl)), rfl, ?_, ?_, ?_, ?_, ?_, ?_, ?_, ?_, ?_⟩)))
            · omega
            · first | exact zf0 | exact hx | rfl
            · first | exact zf1 | exact hx | rfl
            · first | exact zf2 | exact hx | rfl
            · first | exact zf3 | exact hx | rfl
            · first | exact zf4 | exact hx | rfl
            · first | exact zf5 | exact hx | rfl
            · first | exact zf6 | exact hx | rfl
            · unfold lfI
              first | rw [if_pos ⟨by omega, by assumption⟩] | rw [if_neg (fun h => by have h2 := aR_t.mp h.2; omega)] | rw [if_neg (fun h => absurd h.2 (by rw [‹aR f (f 89 (i - 1)) = false›]; decide))]
            · omega
    · obtain ⟨rfl, x, f1, rfl, rfl, rfl, rfl, zf0, zf1, zf2, zf3, zf4, zf5, zf6, hx, hm⟩ := hI
      have hl1 := hl.1
      have hr1 := hr.1
      have hri := hr.2 i (by omega) (by omega)
      refine ⟨show 0 ≤ (7 : Int) ∧ 7 < 9 from by decide, ?_⟩
      refine hO (c_isLAt (by omega) (show (rwB f) from hr) (fun (hh_6 : isL (f 89) (f (fv 79 15) 0) i = true) => ?_) (fun (hh_7 : isL (f 89) (f (fv 79 15) 0) i = false) => ?_))
      · refine ⟨fun h => absurd (show (1 : Int) = 0 from h) (by decide), fun _ => ?_⟩
        refine Or.inl ⟨show inr (i - 1) from by constructor <;> omega, ?_⟩
        refine hO (c_isLAt (by omega) (show (rwB f) from hr) (fun (hh_8 : isL (f 89) (f (fv 79 15) 0) (i - 1) = true) => ?_) (fun (hh_9 : isL (f 89) (f (fv 79 15) 0) (i - 1) = false) => ?_))
        · refine ⟨fun h => absurd (show (1 : Int) = 0 from h) (by decide), fun _ => ?_⟩
          refine hF (40 : Int).toNat ?_ (Or.inr (Or.inr (Or.inr (Or.inl ⟨rfl, 0, (wv f1 100 7 x), rfl, rfl, (mx_wv rfl rfl), rfl, ?_, ?_, ?_, ?_, ?_, ?_, ?_, ?_, ?_, ?_⟩))))
          · omega
          · first | exact zf0 | exact hx | rfl
          · first | exact zf1 | exact hx | rfl
          · first | exact zf2 | exact hx | rfl
          · first | exact zf3 | exact hx | rfl
          · first | exact zf4 | exact hx | rfl
          · first | exact zf5 | exact hx | rfl
          · first | exact zf6 | exact hx | rfl
          · first | exact zf7 | exact hx | rfl
          · unfold fsI
            first | (rw [‹isL (f 89) (f (fv 79 15) 0) i = false›]; rfl) | (rw [‹isL (f 89) (f (fv 79 15) 0) i = true›, ‹isL (f 89) (f (fv 79 15) 0) (i - 1) = true›]; rfl) | (rw [‹isL (f 89) (f (fv 79 15) 0) i = true›, ‹isL (f 89) (f (fv 79 15) 0) (i - 1) = false›]; rfl)
          · omega
        · refine ⟨fun _ => ?_, fun h => absurd (show (0 : Int) = 0 from by decide) h⟩
          refine hF (40 : Int).toNat ?_ (Or.inr (Or.inr (Or.inr (Or.inl ⟨rfl, 1, (wv f1 100 7 x), rfl, rfl, (mx_wv rfl rfl), rfl, ?_, ?_, ?_, ?_, ?_, ?_, ?_, ?_, ?_, ?_⟩))))
          · omega
          · first | exact zf0 | exact hx | rfl
          · first | exact zf1 | exact hx | rfl
          · first | exact zf2 | exact hx | rfl
          · first | exact zf3 | exact hx | rfl
          · first | exact zf4 | exact hx | rfl
          · first | exact zf5 | exact hx | rfl
          · first | exact zf6 | exact hx | rfl
          · first | exact zf7 | exact hx | rfl
          · unfold fsI
            first | (rw [‹isL (f 89) (f (fv 79 15) 0) i = false›]; rfl) | (rw [‹isL (f 89) (f (fv 79 15) 0) i = true›, ‹isL (f 89) (f (fv 79 15) 0) (i - 1) = true›]; rfl) | (rw [‹isL (f 89) (f (fv 79 15) 0) i = true›, ‹isL (f 89) (f (fv 79 15) 0) (i - 1) = false›]; rfl)
          · omega
      · refine ⟨fun _ => ?_, fun h => absurd (show (0 : Int) = 0 from by decide) h⟩
        refine hF (40 : Int).toNat ?_ (Or.inr (Or.inr (Or.inr (Or.inl ⟨rfl, 0, (wv f1 100 7 x), rfl, rfl, (mx_wv rfl rfl), rfl, ?_, ?_, ?_, ?_, ?_, ?_, ?_, ?_, ?_, ?_⟩))))
        · omega
        · first | exact zf0 | exact hx | rfl
        · first | exact zf1 | exact hx | rfl
        · first | exact zf2 | exact hx | rfl
        · first | exact zf3 | exact hx | rfl
        · first | exact zf4 | exact hx | rfl
        · first | exact zf5 | exact hx | rfl
        · first | exact zf6 | exact hx | rfl
        · first | exact zf7 | exact hx | rfl
        · unfold fsI
          first | (rw [‹isL (f 89) (f (fv 79 15) 0) i = false›]; rfl) | (rw [‹isL (f 89) (f (fv 79 15) 0) i = true›, ‹isL (f 89) (f (fv 79 15) 0) (i - 1) = true›]; rfl) | (rw [‹isL (f 89) (f (fv 79 15) 0) i = true›, ‹isL (f 89) (f (fv 79 15) 0) (i - 1) = false›]; rfl)
        · omega
    · obtain ⟨rfl, x, f1, rfl, rfl, rfl, rfl, zf0, zf1, zf2, zf3, zf4, zf5, zf6, zf7, hx, hm⟩ := hI
      have hl1 := hl.1
      have hr1 := hr.1
      have hri := hr.2 i (by omega) (by omega)
      refine ⟨show 0 ≤ (8 : Int) ∧ 8 < 9 from by decide, ?_⟩
      refine hF ((f (fv 79 27) 0) - 0 : Int).toNat ?_ (Or.inr (Or.inr (Or.inr (Or.inr (⟨rfl, 0, (wv (mx [100] f f1) 100 8 x), rfl, rfl, (mx_wv rfl (mx_mx rfl mx_rf)), rfl, ?_, ?_, ?_, ?_⟩)))))
      · omega
      · intro k h0 h1
        have h : k = 0 ∨ k = 1 ∨ k = 2 ∨ k = 3 ∨ k = 4 ∨ k = 5 ∨ k = 6 ∨ k = 7 ∨ k = 8 := by omega
        rcases h with h | h | h | h | h | h | h | h | h <;> subst h
        · exact zf0
        · exact zf1
        · exact zf2
        · exact zf3
        · exact zf4
        · exact zf5
        · exact zf6
        · exact zf7
        · exact hx
      · omega
      · rw [show f (fv 79 27) 0 - 0 = f (fv 79 27) 0 by omega]; rfl
      · omega
    · obtain ⟨rfl, l, f1, rfl, rfl, rfl, rfl, hf, hl2, hp, hm⟩ := hI
      have hr1 := hr.1
      have hri := hr.2 i (by omega) (by omega)
      have hl1 := hl.1
      have hfa : faok (f1 100) := fun k h0 h1 => by rw [hf k h0 h1]; exact faok_fct aR_in (by have := ho (f 89 i) (by omega) (by omega); unfold oR; omega) hday (by omega) (by omega) k h0 h1
      refine ⟨fun (hh_10 : l < f (fv 79 27) 0) => ?_, fun (hh_10 : ¬ l < f (fv 79 27) 0) => ?_⟩
      · have hln := hl.2.1 l (by omega) (by omega)
        refine hO (c_isSo (by omega) (show 0 ≤ l from by omega) (show l < (f (fv 79 27) 0) from by omega) (show (lB f) from hl) (show faok (f1 100) from hfa) (fun f1_11 (hh_12 : ((lnR f) l).2 = [] ∨ ¬ hdv (ev (f1 100) ((lnR f) l).2 []) = 0) => ?_) (fun f1_13 (hh_14 : ¬ (((lnR f) l).2 = [] ∨ ¬ hdv (ev (f1 100) ((lnR f) l).2 []) = 0)) => ?_))
        · have hso := hh_12
          rw [ev_cg hf] at hso
          refine ⟨fun h => absurd (show (1 : Int) = 0 from h) (by decide), fun _ => ?_⟩
          refine ⟨show 0 ≤ (l : Int) ∧ l < 32 from by omega, ?_⟩
          refine ⟨show 0 ≤ (l : Int) ∧ l < 32 from by omega, ?_⟩
          refine hO (c_runs (by omega) (show 0 ≤ (f 95 l) ∧ (f 95 l) < (f 94 l) ∧ (f 94 l) ≤ 400 from by omega) (show ∃ t, tyl (sl (rcd f) (f 95 l) (f 94 l)) [] = some [t] from by obtain ⟨t, -, ht⟩ := hln.2.2.2.2.1; exact ⟨t, ht⟩) (show ∀ k, 0 ≤ k → k < 400 → opok (f 97 k) (f 98 k) from hl.2.2) (show faok (f1 100) from hfa) (fun f1_15 => ?_))
          refine ⟨fun (hh_16 : hdv (ev (f1 100) (sl (rcd f) (f 95 l) (f 94 l)) []) < 0) => ?_, fun (hh_16 : ¬ hdv (ev (f1 100) (sl (rcd f) (f 95 l) (f 94 l)) []) < 0) => ?_⟩
          · rw [show (mx [101] (mx [101] (mx [100, 101] f f1) f1_11) f1_15) = mx [100, 101] f (mx [101] (mx [101] f1 f1_11) f1_15) from (mx_mx rfl (mx_mx rfl rfl))]
            have he : pyI (aR f) (oR f) (f (fv 79 12) 0) (lwR f) (f 89) (f (fv 79 15) 0) i = clp (hdv (ev (f1 100) (sl (rcd f) (f 95 l) (f 94 l)) [])) := by show payM _ _ = _; rw [← hp, show (f (fv 79 27) 0 - l).toNat = (f (fv 79 27) 0 - (l + 1)).toNat + 1 by omega, mkl, payM, if_pos hso, ev_cg hf]; rfl
            rw [he, clp_0 (by assumption)] at k0
            exact k0 (mx [101] (mx [101] f1 f1_11) f1_15)
          · refine ⟨fun (hh_17 : 99 < hdv (ev (f1 100) (sl (rcd f) (f 95 l) (f 94 l)) [])) => ?_, fun (hh_17 : ¬ 99 < hdv (ev (f1 100) (sl (rcd f) (f 95 l) (f 94 l)) [])) => ?_⟩
            · rw [show (mx [101] (mx [101] (mx [100, 101] f f1) f1_11) f1_15) = mx [100, 101] f (mx [101] (mx [101] f1 f1_11) f1_15) from (mx_mx rfl (mx_mx rfl rfl))]
              have he : pyI (aR f) (oR f) (f (fv 79 12) 0) (lwR f) (f 89) (f (fv 79 15) 0) i = clp (hdv (ev (f1 100) (sl (rcd f) (f 95 l) (f 94 l)) [])) := by show payM _ _ = _; rw [← hp, show (f (fv 79 27) 0 - l).toNat = (f (fv 79 27) 0 - (l + 1)).toNat + 1 by omega, mkl, payM, if_pos hso, ev_cg hf]; rfl
              rw [he, clp_99 (by assumption)] at k0
              exact k0 (mx [101] (mx [101] f1 f1_11) f1_15)
            · rw [show (mx [101] (mx [101] (mx [100, 101] f f1) f1_11) f1_15) = mx [100, 101] f (mx [101] (mx [101] f1 f1_11) f1_15) from (mx_mx rfl (mx_mx rfl rfl))]
              have he : pyI (aR f) (oR f) (f (fv 79 12) 0) (lwR f) (f 89) (f (fv 79 15) 0) i = clp (hdv (ev (f1 100) (sl (rcd f) (f 95 l) (f 94 l)) [])) := by show payM _ _ = _; rw [← hp, show (f (fv 79 27) 0 - l).toNat = (f (fv 79 27) 0 - (l + 1)).toNat + 1 by omega, mkl, payM, if_pos hso, ev_cg hf]; rfl
              rw [he, clp_v (by assumption) (by assumption)] at k0
              exact k0 (mx [101] (mx [101] f1 f1_11) f1_15)
        · have hso := hh_14
          rw [ev_cg hf] at hso
          refine ⟨fun _ => ?_, fun h => absurd (show (0 : Int) = 0 from by decide) h⟩
          refine ⟨show inr (l + 1) from by constructor <;> omega, ?_⟩
          refine hB ((f (fv 79 27) 0) - (l + 1) : Int).toNat ?_ (Or.inr (Or.inr (Or.inr (Or.inr (⟨rfl, (l + 1), (mx [101] f1 f1_13), rfl, rfl, (mx_mx rfl rfl), rfl, ?_, ?_, ?_, ?_⟩)))))
          · omega
          · exact hf
          · omega
          · rw [← hp, show (f (fv 79 27) 0 - l).toNat = (f (fv 79 27) 0 - (l + 1)).toNat + 1 by omega, mkl, payM, if_neg hso]
          · omega
      · have he : pyI (aR f) (oR f) (f (fv 79 12) 0) (lwR f) (f 89) (f (fv 79 15) 0) i = 1 := by show payM _ _ = 1; rw [← hp, show (f (fv 79 27) 0 - l).toNat = 0 by omega]; rfl
        rw [he] at k0
        exact k0 f1
  · have hr1 := hr.1
    have hri := hr.2 i (by omega) (by omega)
    refine ⟨show 0 ≤ (i : Int) ∧ i < 60 from by omega, ?_⟩
    refine ⟨show 0 ≤ (0 : Int) ∧ 0 < 9 from by decide, ?_⟩
    refine ⟨show 0 ≤ (1 : Int) ∧ 1 < 9 from by decide, ?_⟩
    refine hO (c_longAt (by omega) (show 0 ≤ i from hi0) (show i < (f (fv 79 15) 0) from hi1) (show (rwB f) from hr) (show (oB f) from ho) ?_)
    refine ⟨show 0 ≤ (2 : Int) ∧ 2 < 9 from by decide, ?_⟩
    refine hO (c_usedAt (by omega) (show 0 ≤ i from by omega) (show i < 60 from by omega) ?_)
    refine ⟨show 0 ≤ (3 : Int) ∧ 3 < 9 from by decide, ?_⟩
    refine ⟨show 0 ≤ (i : Int) ∧ i < 60 from by omega, ?_⟩
    refine hO (c_isVowel (by omega) (fun (hh_18 : ((f 89 i) = 0 ∨ (f 89 i) = 4 ∨ (f 89 i) = 8 ∨ (f 89 i) = 14 ∨ (f 89 i) = 20)) => ?_) (fun (hh_19 : ¬ (((f 89 i) = 0 ∨ (f 89 i) = 4 ∨ (f 89 i) = 8 ∨ (f 89 i) = 14 ∨ (f 89 i) = 20))) => ?_))
    · refine ⟨fun h => absurd (show (1 : Int) = 0 from h) (by decide), fun _ => ?_⟩
      refine hF (40 : Int).toNat ?_ (Or.inl ⟨rfl, 1, (wv (wv (wv (wv f 100 0 (f 89 i)) 100 1 i) 100 2 (lgI (aR f) (f 89) (f (fv 79 15) 0) i)) 100 3 (usI (f 89) i)), rfl, rfl, (mx_wv rfl (mx_wv rfl (mx_wv rfl (mx_wv rfl mx_rf)))), rfl, ?_, ?_, ?_, ?_, ?_, ?_⟩)
      · omega
      · first | exact zf0 | exact hx | rfl
      · first | exact zf1 | exact hx | rfl
      · first | exact zf2 | exact hx | rfl
      · first | exact zf3 | exact hx | rfl
      · first | (rw [vwl_t (by assumption)]; rfl) | (rw [vwl_f (by assumption)]; rfl)
      · omega
    · refine ⟨fun _ => ?_, fun h => absurd (show (0 : Int) = 0 from by decide) h⟩
      refine hF (40 : Int).toNat ?_ (Or.inl ⟨rfl, 0, (wv (wv (wv (wv f 100 0 (f 89 i)) 100 1 i) 100 2 (lgI (aR f) (f 89) (f (fv 79 15) 0) i)) 100 3 (usI (f 89) i)), rfl, rfl, (mx_wv rfl (mx_wv rfl (mx_wv rfl (mx_wv rfl mx_rf)))), rfl, ?_, ?_, ?_, ?_, ?_, ?_⟩)
      · omega
      · first | exact zf0 | exact hx | rfl
      · first | exact zf1 | exact hx | rfl
      · first | exact zf2 | exact hx | rfl
      · first | exact zf3 | exact hx | rfl
      · first | (rw [vwl_t (by assumption)]; rfl) | (rw [vwl_f (by assumption)]; rfl)
      · omega
set_option maxRecDepth 100000 in
set_option maxHeartbeats 4000000 in
theorem c_finds (hd : 5 ≤ d) (hr : (rwB f)) (ho : (oB f)) (hl : (lB f)) (hday : 0 ≤ (f (fv 79 12) 0) ∧ (f (fv 79 12) 0) ≤ 9999) (k0 : ∀ f1 : iF, (∀ a, 0 ≤ a → a < 8 → f1 102 a = enI (aR f) (oR f) (f (fv 79 12) 0) (lwR f) (f 89) (f (fv 79 15) 0) a) → Q none (mx [100, 101, 102] f f1) g) : wq d 50 [iR 79] f g Q := by
  obtain ⟨d, rfl⟩ : ∃ e, d = e + 1 := ⟨d - 1, by omega⟩
  refine i_meth [(2, 2), (14, 2)] (fun n j lv st f' g' => (j = 2 ∧ ∃ (b : Int) (f1 : iF), lv = [some (iR 79), some (iI b)] ∧ st = [] ∧ f' = (mx [100, 101, 102] f f1) ∧ g = g' ∧ (0 ≤ b ∧ b ≤ 8) ∧ (∀ a, 0 ≤ a → a < b → f1 102 a = 0) ∧ (n : Int) = 70 - b) ∨ (j = 14 ∧ ∃ (i : Int) (f1 : iF), lv = [some (iR 79), some (iI i)] ∧ st = [] ∧ f' = (mx [100, 101, 102] f f1) ∧ g = g' ∧ (0 ≤ i ∧ i ≤ (f (fv 79 15) 0)) ∧ (∀ a, 0 ≤ a → a < 8 → f1 102 a = sI (fun i => if aR f (f 89 i) = true ∧ oR f (f 89 i) = a then pyI (aR f) (oR f) (f (fv 79 12) 0) (lwR f) (f 89) (f (fv 79 15) 0) i else 0) i) ∧ (n : Int) = (f (fv 79 15) 0) - i)) 100 (by omega) rfl rfl (fun n j lv st f' g' hn hI O J hO hF hB => ?_) (fun hvs hin O J hO hF => ?_)
  · rcases hI with hI | hI
    · obtain ⟨rfl, b, f1, rfl, rfl, rfl, rfl, hb, hz, hm⟩ := hI
      have hr1 := hr.1
      refine ⟨fun (hh_1 : b < 8) => ?_, fun (hh_1 : ¬ b < 8) => ?_⟩
      · refine ⟨show 0 ≤ (b : Int) ∧ b < 8 from by omega, ?_⟩
        refine ⟨show inr (b + 1) from by constructor <;> omega, ?_⟩
        refine hB (70 - (b + 1) : Int).toNat ?_ (Or.inl ⟨rfl, (b + 1), (wv f1 102 b 0), rfl, rfl, (mx_wv rfl rfl), rfl, ?_, ?_, ?_⟩)
        · omega
        · omega
        · intro a h0 h1
          rw [wv_i]
          by_cases e : a = b
          · rw [if_pos e]
          · rw [if_neg e]; exact hz a h0 (by omega)
        · omega
      · refine hF ((f (fv 79 15) 0) - 0 : Int).toNat ?_ (Or.inr (⟨rfl, 0, f1, rfl, rfl, rfl, rfl, ?_, ?_, ?_⟩))
        · omega
        · omega
        · intro a h0 h1
          exact hz a h0 (by omega)
        · omega
    · obtain ⟨rfl, i, f1, rfl, rfl, rfl, rfl, hi, hE, hm⟩ := hI
      have hr1 := hr.1
      refine ⟨fun (hh_2 : i < f (fv 79 15) 0) => ?_, fun (hh_2 : ¬ i < f (fv 79 15) 0) => ?_⟩
      · have hri := hr.2 i (by omega) (by omega)
        refine ⟨show 0 ≤ (i : Int) ∧ i < 60 from by omega, ?_⟩
        refine ⟨fun (hh_3 : f 89 i = 29) => ?_, fun (hh_3 : ¬ f 89 i = 29) => ?_⟩
        · refine ⟨show inr (i + 1) from by constructor <;> omega, ?_⟩
          refine hB ((f (fv 79 15) 0) - (i + 1) : Int).toNat ?_ (Or.inr (⟨rfl, (i + 1), f1, rfl, rfl, rfl, rfl, ?_, ?_, ?_⟩))
          · omega
          · omega
          · intro a h0 h1
            rw [sI_s (by omega), if_neg (fun h => by first | (have h2 := aR_t.mp h.1; omega) | (rw [‹aR f (f 89 i) = false›] at h; cases h.1)), Int.add_zero]; exact hE a h0 h1
          · omega
        · refine ⟨show 0 ≤ (i : Int) ∧ i < 60 from by omega, ?_⟩
          refine hO (c_canP (by omega) (show 0 ≤ (f 89 i) from by omega) (show (f 89 i) < 29 from by omega) (show (oB f) from ho) (fun (hh_4 : (aR f) (f 89 i) = true) => ?_) (fun (hh_5 : (aR f) (f 89 i) = false) => ?_))
          · have hab := aR_t.mp hh_4
            have hob := ho (f 89 i) (by omega) (by omega)
            have hEa := hE (f 86 (f 89 i) - 1) (by omega) (by omega)
            have hEb := sI_le (h := (fun j => if aR f (f 89 j) = true ∧ oR f (f 89 j) = f 86 (f 89 i) - 1 then pyI (aR f) (oR f) (f (fv 79 12) 0) (lwR f) (f 89) (f (fv 79 15) 0) j else 0)) (n := i) (c := 99) (by omega) (by omega) (fun k _ _ => by split; exact pyI_r; decide)
            refine ⟨fun h => absurd (show (1 : Int) = 0 from h) (by decide), fun _ => ?_⟩
            refine ⟨show 0 ≤ (i : Int) ∧ i < 60 from by omega, ?_⟩
            refine hO (c_ownerOf (by omega) (show 0 ≤ (f 89 i) from by omega) (show (f 89 i) < 29 from by omega) (show (oB f) from ho) ?_)
            refine ⟨show 0 ≤ ((f 86 (f 89 i)) - 1 : Int) ∧ (f 86 (f 89 i)) - 1 < 8 from by omega, ?_⟩
            refine hO (c_paysAt (by omega) (show 0 ≤ i from by omega) (show i < (f (fv 79 15) 0) from by omega) (show (f 89 i) < 29 from by omega) (show (rwB f) from hr) (show (oB f) from ho) (show (lB f) from hl) (show 0 ≤ (f (fv 79 12) 0) ∧ (f (fv 79 12) 0) ≤ 9999 from hday) (fun f1_6 => ?_))
            have hpr := pyI_r (ab := aR f) (ow := oR f) (day := f (fv 79 12) 0) (w := lwR f) (row := f 89) (n := (f (fv 79 15) 0)) (i := i)
            refine Or.inl ⟨show inr ((f1 102 ((f 86 (f 89 i)) - 1)) + (pyI (aR f) (oR f) (f (fv 79 12) 0) (lwR f) (f 89) (f (fv 79 15) 0) i)) from by constructor <;> omega, ?_⟩
            refine ⟨show 0 ≤ ((f 86 (f 89 i)) - 1 : Int) ∧ (f 86 (f 89 i)) - 1 < 8 from by omega, ?_⟩
            refine ⟨show inr (i + 1) from by constructor <;> omega, ?_⟩
            refine hB ((f (fv 79 15) 0) - (i + 1) : Int).toNat ?_ (Or.inr (⟨rfl, (i + 1), (wv (mx [100, 101] f1 f1_6) 102 ((f 86 (f 89 i)) - 1) ((f1 102 ((f 86 (f 89 i)) - 1)) + (pyI (aR f) (oR f) (f (fv 79 12) 0) (lwR f) (f 89) (f (fv 79 15) 0) i))), rfl, rfl, (mx_wv rfl (mx_mx rfl rfl)), rfl, ?_, ?_, ?_⟩))
            · omega
            · omega
            · intro a h0 h1
              rw [sI_s (by omega), wv_i]
              by_cases e : a = f 86 (f 89 i) - 1
              · subst e
                rw [if_pos rfl, if_pos ⟨by assumption, rfl⟩]
                exact congrArg (· + pyI (aR f) (oR f) (f (fv 79 12) 0) (lwR f) (f 89) (f (fv 79 15) 0) i) (hE _ (by omega) (by omega))
              · rw [if_neg e, if_neg (fun h => e h.2.symm), Int.add_zero]; exact hE a h0 h1
            · omega
          · refine ⟨fun _ => ?_, fun h => absurd (show (0 : Int) = 0 from by decide) h⟩
            refine ⟨show inr (i + 1) from by constructor <;> omega, ?_⟩
            refine hB ((f (fv 79 15) 0) - (i + 1) : Int).toNat ?_ (Or.inr (⟨rfl, (i + 1), f1, rfl, rfl, rfl, rfl, ?_, ?_, ?_⟩))
            · omega
            · omega
            · intro a h0 h1
              rw [sI_s (by omega), if_neg (fun h => by first | (have h2 := aR_t.mp h.1; omega) | (rw [‹aR f (f 89 i) = false›] at h; cases h.1)), Int.add_zero]; exact hE a h0 h1
            · omega
      · exact k0 f1 (fun a h0 h1 => by rw [hE a h0 h1]; rw [show i = (f (fv 79 15) 0) by omega]; rfl)
  · have hr1 := hr.1
    refine hF (70 - 0 : Int).toNat ?_ (Or.inl ⟨rfl, 0, f, rfl, rfl, mx_rf, rfl, ?_, ?_, ?_⟩)
    · omega
    · omega
    · intro a h0 h1; omega
    · omega
/-- the page -/
def pgB (f : iF) : Prop := (0 ≤ f (fv 79 13) 0 ∧ f (fv 79 13) 0 ≤ 60) ∧ ∀ i, 0 ≤ i → i < f (fv 79 13) 0 → 0 ≤ f 88 i ∧ f 88 i ≤ 29
set_option maxRecDepth 100000 in
set_option maxHeartbeats 4000000 in
theorem c_thinks (hd : 1 ≤ d) (hg : (pgB f)) (k0 : ∀ f1 : iF, (f1 (fv 79 15) 0 = (f (fv 79 13) 0)) → (∀ i, 0 ≤ i → i < (f (fv 79 13) 0) → f1 89 i = (f 88 i)) → Q none (mx [89, fv 79 15] f f1) g) : wq d 18 [iR 79] f g Q := by
  obtain ⟨d, rfl⟩ : ∃ e, d = e + 1 := ⟨d - 1, by omega⟩
  refine i_meth [(6, 2)] (fun n j lv st f' g' => (j = 6 ∧ ∃ (i : Int) (f1 : iF), lv = [some (iR 79), some (iI i)] ∧ st = [] ∧ f' = (mx [89, fv 79 15] f f1) ∧ g = g' ∧ (0 ≤ i ∧ i ≤ (f (fv 79 13) 0)) ∧ (f1 (fv 79 15) 0 = (f (fv 79 13) 0)) ∧ (∀ k, 0 ≤ k → k < i → f1 89 k = f 88 k) ∧ (n : Int) = (f (fv 79 13) 0) - i)) 60 (by omega) rfl rfl (fun n j lv st f' g' hn hI O J hO hF hB => ?_) (fun hvs hin O J hO hF => ?_)
  · obtain ⟨rfl, i, f1, rfl, rfl, rfl, rfl, hi, hn, hz, hm⟩ := hI
    have hg1 := hg.1
    refine ⟨fun (hh_1 : i < f (fv 79 13) 0) => ?_, fun (hh_1 : ¬ i < f (fv 79 13) 0) => ?_⟩
    · refine ⟨show 0 ≤ (i : Int) ∧ i < 60 from by omega, ?_⟩
      refine ⟨show 0 ≤ (i : Int) ∧ i < 60 from by omega, ?_⟩
      refine ⟨show inr (i + 1) from by constructor <;> omega, ?_⟩
      refine hB ((f (fv 79 13) 0) - (i + 1) : Int).toNat ?_ ⟨rfl, (i + 1), (wv f1 89 i (f 88 i)), rfl, rfl, (mx_wv rfl rfl), rfl, ?_, ?_, ?_, ?_⟩
      · omega
      · omega
      · exact hn
      · intro k h0 h1
        rw [wv_i]
        by_cases e : k = i
        · rw [if_pos e, e]
        · rw [if_neg e]; exact hz k h0 (by omega)
      · omega
    · exact k0 f1 hn (fun k h0 h1 => hz k h0 (by omega))
  · have hg1 := hg.1
    refine hF ((f (fv 79 13) 0) - 0 : Int).toNat ?_ ⟨rfl, 0, (wv f (fv 79 15) 0 (f (fv 79 13) 0)), rfl, rfl, (mx_wv rfl mx_rf), rfl, ?_, ?_, ?_, ?_⟩
    · omega
    · omega
    · rfl
    · intro k h0 h1; omega
    · omega
end C5
end
section
section C6
variable {d : Nat} {f : iF} {g : iG} {Q : Option iv → iF → iG → Prop}
/-! ===== the class: the law is run ===== -/
def lnC (f : iF) (l : Int) : List Int × List Int := (sl (f 16) (f 17 l) (f 18 l), sl (f 16) (f 18 l) (f 17 (l + 1)))
def lwC (f : iF) : Lw := mkl (lnC f) (f (fv 15 4) 0).toNat 0
def lC (f : iF) : Prop := (0 ≤ f (fv 15 4) 0 ∧ f (fv 15 4) 0 ≤ 16) ∧ ∀ l, 0 ≤ l → l < f (fv 15 4) 0 → 0 ≤ f 17 l ∧ f 17 l < f 18 l ∧ f 18 l ≤ f 17 (l + 1) ∧ f 17 (l + 1) ≤ 400 ∧ lnok (lnC f l)
theorem b_and01 {x y : Int} (hx : x = 0 ∨ x = 1) (hy : y = 0 ∨ y = 1) : b_and x y = x * y := by
  rcases hx with h | h <;> rcases hy with h2 | h2 <;> subst h <;> subst h2 <;> decide
theorem b_or01 {x y : Int} (hx : x = 0 ∨ x = 1) (hy : y = 0 ∨ y = 1) : b_or x y = if 0 < x + y then 1 else 0 := by
  rcases hx with h | h <;> rcases hy with h2 | h2 <;> subst h <;> subst h2 <;> decide
set_option maxRecDepth 100000 in
set_option maxHeartbeats 4000000 in
theorem k_run {fr to : Int} (hd : 1 ≤ d) (h0 : 0 ≤ fr ∧ fr < to ∧ to ≤ 400) (hw : ∃ t, tyl (sl (f 16) fr to) [] = some [t]) (hfa : faok (f 57)) (k0 : ∀ f1 : iF, Q (some (iI (hdv (ev (f 57) (sl (f 16) fr to) [])))) (mx [58] f f1) g) : wq d 121 [iR 15, iI fr, iI to, iR 57, iR 58] f g Q := by
  obtain ⟨d, rfl⟩ : ∃ e, d = e + 1 := ⟨d - 1, by omega⟩
  refine i_meth [(6, 7), (136, 9)] (fun n j lv st f' g' => (j = 6 ∧ ∃ (top : Int) (k : Int) (vs : List Int) (ts : List Int) (f1 : iF), lv = [some (iR 15), some (iI fr), some (iI to), some (iR 57), some (iR 58), some (iI top), some (iI k)] ∧ st = [] ∧ f' = (mx [58] f f1) ∧ g = g' ∧ (rst (f 57) (f 16) fr to k (f1 58) top vs ts) ∧ (n : Int) = to - k) ∨ (j = 136 ∧ ∃ (top : Int) (k : Int) (op : Int) (a : Int) (vs2 : List Int) (ts2 : List Int) (f1 : iF), lv = [some (iR 15), some (iI fr), some (iI to), some (iR 57), some (iR 58), some (iI top), some (iI k), some (iI op), some (iI a)] ∧ st = [] ∧ f' = (mx [58] f f1) ∧ g = g' ∧ (fr ≤ k ∧ k < to) ∧ (1 ≤ top ∧ top ≤ 64) ∧ (∀ r' : Int → Int, r' (top - 1) = a → (∀ j, 0 ≤ j → j < top - 1 → r' j = f1 58 j) → rst (f 57) (f 16) fr to (k + 1) r' top vs2 ts2) ∧ (n : Int) = to - k)) 400 (by omega) rfl rfl (fun n j lv st f' g' hn hI O J hO hF hB => ?_) (fun hvs hin O J hO hF => ?_)
  · rcases hI with hI | hI
    · obtain ⟨rfl, top, k, vs, ts, f1, rfl, rfl, rfl, rfl, hr, hm⟩ := hI
      obtain ⟨tw, hw⟩ := hw
      have hr1 := hr.1
      have hr2 := hr.2.1
      refine ⟨fun (hh_1 : k < to) => ?_, fun (hh_1 : ¬ k < to) => ?_⟩
      · obtain ⟨ts2, ht⟩ := rst_t hr (by omega) hw
        refine ⟨fun _ => ?_, fun h => absurd (show k < 400 from by omega) h⟩
        refine ⟨show 0 ≤ (k : Int) ∧ k < 400 from by omega, ?_⟩
        refine ⟨fun (hh_2 : f 16 k < (-9)) => ?_, fun (hh_2 : ¬ f 16 k < (-9)) => ?_⟩
        · refine ⟨fun (hh_3 : f 16 k = (-19)) => ?_, fun (hh_3 : ¬ f 16 k = (-19)) => ?_⟩
          · obtain ⟨ht0, ht1, hb, hnx⟩ := rst_not hfa hr (by omega) ht hh_3
            have hnx' : ∀ r' : Int → Int, r' (top - 0 - 1) = 1 - f1 58 (top - 0 - 1) → (∀ j, 0 ≤ j → j < top - 0 - 1 → r' j = f1 58 j) → rst (f 57) (f 16) fr to (k + 1) r' (top - 0) (stp (f 57) (f 16 k) vs) ts2 := by rw [Int.sub_zero]; exact hnx
            have hb0 : f1 58 ((top - 0) - 1) = 0 ∨ f1 58 ((top - 0) - 1) = 1 := by rw [Int.sub_zero]; exact hb
            refine Or.inl ⟨show inr (top - 0) from by constructor <;> omega, ?_⟩
            refine ⟨fun h => absurd (show (top - 0) < 1 from h) (by omega), fun _ => ?_⟩
            refine Or.inl ⟨show inr ((top - 0) - 1) from by constructor <;> omega, ?_⟩
            refine ⟨show 0 ≤ (((top - 0) - 1) : Int) ∧ ((top - 0) - 1) < 64 from by omega, ?_⟩
            refine ⟨fun (hh_4 : (top - 0) < 64) => ?_, fun (hh_4 : ¬ (top - 0) < 64) => ?_⟩
            · refine ⟨show 0 ≤ ((top - 0) : Int) ∧ (top - 0) < 64 from by omega, ?_⟩
              refine ⟨fun (hh_5 : f 16 k = (-18)) => ?_, fun (hh_5 : ¬ f 16 k = (-18)) => ?_⟩
              · omega
              · refine ⟨fun (hh_6 : f 16 k = (-17)) => ?_, fun (hh_6 : ¬ f 16 k = (-17)) => ?_⟩
                · omega
                · refine ⟨fun (hh_7 : f 16 k = (-16)) => ?_, fun (hh_7 : ¬ f 16 k = (-16)) => ?_⟩
                  · omega
                  · refine ⟨fun (hh_8 : f 16 k = (-15)) => ?_, fun (hh_8 : ¬ f 16 k = (-15)) => ?_⟩
                    · omega
                    · refine ⟨fun (hh_9 : f 16 k = (-14)) => ?_, fun (hh_9 : ¬ f 16 k = (-14)) => ?_⟩
                      · omega
                      · refine ⟨fun (hh_10 : f 16 k = (-13)) => ?_, fun (hh_10 : ¬ f 16 k = (-13)) => ?_⟩
                        · omega
                        · refine ⟨fun (hh_11 : f 16 k = (-12)) => ?_, fun (hh_11 : ¬ f 16 k = (-12)) => ?_⟩
                          · omega
                          · refine ⟨fun (hh_12 : f 16 k = (-11)) => ?_, fun (hh_12 : ¬ f 16 k = (-11)) => ?_⟩
                            · omega
                            · refine ⟨fun (hh_13 : f 16 k = (-10)) => ?_, fun (hh_13 : ¬ f 16 k = (-10)) => ?_⟩
                              · omega
                              · refine Or.inl ⟨show inr (1 - (f1 58 ((top - 0) - 1))) from by constructor <;> omega, ?_⟩
                                refine hF (to - k : Int).toNat ?_ (Or.inr (⟨rfl, (top - 0), k, f 16 k, (1 - (f1 58 ((top - 0) - 1))), (stp (f 57) (f 16 k) vs), ts2, f1, rfl, rfl, rfl, rfl, ?_, ?_, ?_, ?_⟩))
                                · omega
                                · omega
                                · omega
                                · intro r' h0 h1
                                  exact hnx' r' h0 h1
                                · omega
            · refine ⟨fun (hh_14 : f 16 k = (-18)) => ?_, fun (hh_14 : ¬ f 16 k = (-18)) => ?_⟩
              · omega
              · refine ⟨fun (hh_15 : f 16 k = (-17)) => ?_, fun (hh_15 : ¬ f 16 k = (-17)) => ?_⟩
                · omega
                · refine ⟨fun (hh_16 : f 16 k = (-16)) => ?_, fun (hh_16 : ¬ f 16 k = (-16)) => ?_⟩
                  · omega
                  · refine ⟨fun (hh_17 : f 16 k = (-15)) => ?_, fun (hh_17 : ¬ f 16 k = (-15)) => ?_⟩
                    · omega
                    · refine ⟨fun (hh_18 : f 16 k = (-14)) => ?_, fun (hh_18 : ¬ f 16 k = (-14)) => ?_⟩
                      · omega
                      · refine ⟨fun (hh_19 : f 16 k = (-13)) => ?_, fun (hh_19 : ¬ f 16 k = (-13)) => ?_⟩
                        · omega
                        · refine ⟨fun (hh_20 : f 16 k = (-12)) => ?_, fun (hh_20 : ¬ f 16 k = (-12)) => ?_⟩
                          · omega
                          · refine ⟨fun (hh_21 : f 16 k = (-11)) => ?_, fun (hh_21 : ¬ f 16 k = (-11)) => ?_⟩
                            · omega
                            · refine ⟨fun (hh_22 : f 16 k = (-10)) => ?_, fun (hh_22 : ¬ f 16 k = (-10)) => ?_⟩
                              · omega
                              · refine Or.inl ⟨show inr (1 - (f1 58 ((top - 0) - 1))) from by constructor <;> omega, ?_⟩
                                refine hF (to - k : Int).toNat ?_ (Or.inr (⟨rfl, (top - 0), k, f 16 k, (1 - (f1 58 ((top - 0) - 1))), (stp (f 57) (f 16 k) vs), ts2, f1, rfl, rfl, rfl, rfl, ?_, ?_, ?_, ?_⟩))
                                · omega
                                · omega
                                · omega
                                · intro r' h0 h1
                                  exact hnx' r' h0 h1
                                · omega
          · obtain ⟨ht0, ht1, hix, hiy, h18, h13, h17, hnx⟩ := rst_two hfa hr (by omega) ht (by omega) hh_3
            refine Or.inl ⟨show inr (top - 1) from by constructor <;> omega, ?_⟩
            refine ⟨fun h => absurd (show (top - 1) < 1 from h) (by omega), fun _ => ?_⟩
            refine Or.inl ⟨show inr ((top - 1) - 1) from by constructor <;> omega, ?_⟩
            refine ⟨show 0 ≤ (((top - 1) - 1) : Int) ∧ ((top - 1) - 1) < 64 from by omega, ?_⟩
            refine ⟨fun _ => ?_, fun h => absurd (show (top - 1) < 64 from by omega) h⟩
            refine ⟨show 0 ≤ ((top - 1) : Int) ∧ (top - 1) < 64 from by omega, ?_⟩
            refine ⟨fun (hh_23 : f 16 k = (-18)) => ?_, fun (hh_23 : ¬ f 16 k = (-18)) => ?_⟩
            · refine hF (to - k : Int).toNat ?_ (Or.inr (⟨rfl, (top - 1), k, f 16 k, (b_or (f1 58 ((top - 1) - 1)) (f1 58 (top - 1))), (stp (f 57) (f 16 k) vs), ts2, f1, rfl, rfl, rfl, rfl, ?_, ?_, ?_, ?_⟩))
              · omega
              · omega
              · omega
              · intro r' h0 h1
                refine hnx r' (h0.trans ?_) h1
                rw [show f 16 k = -18 by assumption]
                exact b_or01 (h17 (by omega)).1 (h17 (by omega)).2
              · omega
            · refine ⟨fun (hh_24 : f 16 k = (-17)) => ?_, fun (hh_24 : ¬ f 16 k = (-17)) => ?_⟩
              · refine hF (to - k : Int).toNat ?_ (Or.inr (⟨rfl, (top - 1), k, f 16 k, (b_and (f1 58 ((top - 1) - 1)) (f1 58 (top - 1))), (stp (f 57) (f 16 k) vs), ts2, f1, rfl, rfl, rfl, rfl, ?_, ?_, ?_, ?_⟩))
                · omega
                · omega
                · omega
                · intro r' h0 h1
                  refine hnx r' (h0.trans ?_) h1
                  rw [show f 16 k = -17 by assumption]
                  exact b_and01 (h17 (by omega)).1 (h17 (by omega)).2
                · omega
              · refine ⟨fun (hh_25 : f 16 k = (-16)) => ?_, fun (hh_25 : ¬ f 16 k = (-16)) => ?_⟩
                · refine ⟨fun (hh_26 : f1 58 (top - 1) < f1 58 ((top - 1) - 1)) => ?_, fun (hh_26 : ¬ f1 58 (top - 1) < f1 58 ((top - 1) - 1)) => ?_⟩
                  · refine hF (to - k : Int).toNat ?_ (Or.inr (⟨rfl, (top - 1), k, f 16 k, 1, (stp (f 57) (f 16 k) vs), ts2, f1, rfl, rfl, rfl, rfl, ?_, ?_, ?_, ?_⟩))
                    · omega
                    · omega
                    · omega
                    · intro r' h0 h1
                      refine hnx r' (h0.trans ?_) h1
                      rw [show f 16 k = -16 by assumption]
                      show _ = if (f1 58 (top - 1)) < (f1 58 ((top - 1) - 1)) then (1 : Int) else 0
                      first | rw [if_pos (by assumption)] | rw [if_neg (by assumption)]
                    · omega
                  · refine hF (to - k : Int).toNat ?_ (Or.inr (⟨rfl, (top - 1), k, f 16 k, 0, (stp (f 57) (f 16 k) vs), ts2, f1, rfl, rfl, rfl, rfl, ?_, ?_, ?_, ?_⟩))
                    · omega
                    · omega
                    · omega
                    · intro r' h0 h1
                      refine hnx r' (h0.trans ?_) h1
                      rw [show f 16 k = -16 by assumption]
                      show _ = if (f1 58 (top - 1)) < (f1 58 ((top - 1) - 1)) then (1 : Int) else 0
                      first | rw [if_pos (by assumption)] | rw [if_neg (by assumption)]
                    · omega
                · refine ⟨fun (hh_27 : f 16 k = (-15)) => ?_, fun (hh_27 : ¬ f 16 k = (-15)) => ?_⟩
                  · refine ⟨fun (hh_28 : f1 58 ((top - 1) - 1) = f1 58 (top - 1)) => ?_, fun (hh_28 : ¬ f1 58 ((top - 1) - 1) = f1 58 (top - 1)) => ?_⟩
                    · refine hF (to - k : Int).toNat ?_ (Or.inr (⟨rfl, (top - 1), k, f 16 k, 1, (stp (f 57) (f 16 k) vs), ts2, f1, rfl, rfl, rfl, rfl, ?_, ?_, ?_, ?_⟩))
                      · omega
                      · omega
                      · omega
                      · intro r' h0 h1
                        refine hnx r' (h0.trans ?_) h1
                        rw [show f 16 k = -15 by assumption]
                        show _ = if (f1 58 ((top - 1) - 1)) = (f1 58 (top - 1)) then (1 : Int) else 0
                        first | rw [if_pos (by assumption)] | rw [if_neg (by assumption)]
                      · omega
                    · refine hF (to - k : Int).toNat ?_ (Or.inr (⟨rfl, (top - 1), k, f 16 k, 0, (stp (f 57) (f 16 k) vs), ts2, f1, rfl, rfl, rfl, rfl, ?_, ?_, ?_, ?_⟩))
                      · omega
                      · omega
                      · omega
                      · intro r' h0 h1
                        refine hnx r' (h0.trans ?_) h1
                        rw [show f 16 k = -15 by assumption]
                        show _ = if (f1 58 ((top - 1) - 1)) = (f1 58 (top - 1)) then (1 : Int) else 0
                        first | rw [if_pos (by assumption)] | rw [if_neg (by assumption)]
                      · omega
                  · refine ⟨fun (hh_29 : f 16 k = (-14)) => ?_, fun (hh_29 : ¬ f 16 k = (-14)) => ?_⟩
                    · refine ⟨fun (hh_30 : f1 58 ((top - 1) - 1) < f1 58 (top - 1)) => ?_, fun (hh_30 : ¬ f1 58 ((top - 1) - 1) < f1 58 (top - 1)) => ?_⟩
                      · refine hF (to - k : Int).toNat ?_ (Or.inr (⟨rfl, (top - 1), k, f 16 k, 1, (stp (f 57) (f 16 k) vs), ts2, f1, rfl, rfl, rfl, rfl, ?_, ?_, ?_, ?_⟩))
                        · omega
                        · omega
                        · omega
                        · intro r' h0 h1
                          refine hnx r' (h0.trans ?_) h1
                          rw [show f 16 k = -14 by assumption]
                          show _ = if (f1 58 ((top - 1) - 1)) < (f1 58 (top - 1)) then (1 : Int) else 0
                          first | rw [if_pos (by assumption)] | rw [if_neg (by assumption)]
                        · omega
                      · refine hF (to - k : Int).toNat ?_ (Or.inr (⟨rfl, (top - 1), k, f 16 k, 0, (stp (f 57) (f 16 k) vs), ts2, f1, rfl, rfl, rfl, rfl, ?_, ?_, ?_, ?_⟩))
                        · omega
                        · omega
                        · omega
                        · intro r' h0 h1
                          refine hnx r' (h0.trans ?_) h1
                          rw [show f 16 k = -14 by assumption]
                          show _ = if (f1 58 ((top - 1) - 1)) < (f1 58 (top - 1)) then (1 : Int) else 0
                          first | rw [if_pos (by assumption)] | rw [if_neg (by assumption)]
                        · omega
                    · refine ⟨fun (hh_31 : f 16 k = (-13)) => ?_, fun (hh_31 : ¬ f 16 k = (-13)) => ?_⟩
                      · have h13' := h13 (by omega)
                        refine ⟨fun h => absurd (show f1 58 (top - 1) = 0 from h) (by omega), fun _ => ?_⟩
                        refine ⟨show ¬ (f1 58 (top - 1) : Int) = 0 from by omega, show inr ((f1 58 ((top - 1) - 1)).tdiv (f1 58 (top - 1))) from by exact tdiv_le hix (by omega), ?_⟩
                        refine hF (to - k : Int).toNat ?_ (Or.inr (⟨rfl, (top - 1), k, f 16 k, ((f1 58 ((top - 1) - 1)).tdiv (f1 58 (top - 1))), (stp (f 57) (f 16 k) vs), ts2, f1, rfl, rfl, rfl, rfl, ?_, ?_, ?_, ?_⟩))
                        · omega
                        · omega
                        · omega
                        · intro r' h0 h1
                          refine hnx r' (h0.trans ?_) h1
                          rw [show f 16 k = -13 by assumption]
                          rfl
                        · omega
                      · refine ⟨fun (hh_32 : f 16 k = (-12)) => ?_, fun (hh_32 : ¬ f 16 k = (-12)) => ?_⟩
                        · refine Or.inr ?_
                          refine hF (to - k : Int).toNat ?_ (Or.inr (⟨rfl, (top - 1), k, f 16 k, (w32 ((f1 58 ((top - 1) - 1)) * (f1 58 (top - 1)))), (stp (f 57) (f 16 k) vs), ts2, f1, rfl, rfl, rfl, rfl, ?_, ?_, ?_, ?_⟩))
                          · omega
                          · omega
                          · omega
                          · intro r' h0 h1
                            refine hnx r' (h0.trans ?_) h1
                            rw [show f 16 k = -12 by assumption]
                            rfl
                          · omega
                        · refine ⟨fun (hh_33 : f 16 k = (-11)) => ?_, fun (hh_33 : ¬ f 16 k = (-11)) => ?_⟩
                          · refine Or.inr ?_
                            refine hF (to - k : Int).toNat ?_ (Or.inr (⟨rfl, (top - 1), k, f 16 k, (w32 ((f1 58 ((top - 1) - 1)) - (f1 58 (top - 1)))), (stp (f 57) (f 16 k) vs), ts2, f1, rfl, rfl, rfl, rfl, ?_, ?_, ?_, ?_⟩))
                            · omega
                            · omega
                            · omega
                            · intro r' h0 h1
                              refine hnx r' (h0.trans ?_) h1
                              rw [show f 16 k = -11 by assumption]
                              rfl
                            · omega
                          · refine ⟨fun (hh_34 : f 16 k = (-10)) => ?_, fun (hh_34 : ¬ f 16 k = (-10)) => ?_⟩
                            · refine Or.inr ?_
                              refine hF (to - k : Int).toNat ?_ (Or.inr (⟨rfl, (top - 1), k, f 16 k, (w32 ((f1 58 ((top - 1) - 1)) + (f1 58 (top - 1)))), (stp (f 57) (f 16 k) vs), ts2, f1, rfl, rfl, rfl, rfl, ?_, ?_, ?_, ?_⟩))
                              · omega
                              · omega
                              · omega
                              · intro r' h0 h1
                                refine hnx r' (h0.trans ?_) h1
                                rw [show f 16 k = -10 by assumption]
                                rfl
                              · omega
                            · omega
        · have htop : 0 ≤ top ∧ top < 64 := by
            rcases Int.lt_or_le (f 16 k) 0 with h | h
            · exact ⟨(rst_ask hfa hr (by omega) ht h (by omega)).1, (rst_ask hfa hr (by omega) ht h (by omega)).2.1⟩
            · exact ⟨(rst_num hfa hr (by omega) ht h).1, (rst_num hfa hr (by omega) ht h).2.1⟩
          refine ⟨fun _ => ?_, fun h => absurd (show top < 64 from by omega) h⟩
          refine ⟨fun (hh_35 : f 16 k < 0) => ?_, fun (hh_35 : ¬ f 16 k < 0) => ?_⟩
          · obtain ⟨-, -, hnx⟩ := rst_ask hfa hr (by omega) ht hh_35 (by omega)
            refine Or.inl ⟨show inr ((-1) - (f 16 k)) from by constructor <;> omega, ?_⟩
            refine ⟨show 0 ≤ (((-1) - (f 16 k)) : Int) ∧ ((-1) - (f 16 k)) < 9 from by omega, ?_⟩
            refine ⟨show 0 ≤ (top : Int) ∧ top < 64 from by omega, ?_⟩
            refine ⟨show inr (top + 1) from by constructor <;> omega, ?_⟩
            refine ⟨show inr (k + 1) from by constructor <;> omega, ?_⟩
            refine hB (to - (k + 1) : Int).toNat ?_ (Or.inl ⟨rfl, (top + 1), (k + 1), (stp (f 57) (f 16 k) vs), ts2, (wv f1 58 top (f 57 ((-1) - (f 16 k)))), rfl, rfl, (mx_wv rfl rfl), rfl, ?_, ?_⟩)
            · omega
            · exact hnx _ wv_s (fun j h0 h1 => wv_k (by omega))
            · omega
          · obtain ⟨-, -, hnx⟩ := rst_num hfa hr (by omega) ht (by omega)
            refine ⟨show 0 ≤ (top : Int) ∧ top < 64 from by omega, ?_⟩
            refine ⟨show inr (top + 1) from by constructor <;> omega, ?_⟩
            refine ⟨show inr (k + 1) from by constructor <;> omega, ?_⟩
            refine hB (to - (k + 1) : Int).toNat ?_ (Or.inl ⟨rfl, (top + 1), (k + 1), (stp (f 57) (f 16 k) vs), ts2, (wv f1 58 top (f 16 k)), rfl, rfl, (mx_wv rfl rfl), rfl, ?_, ?_⟩)
            · omega
            · exact hnx _ wv_s (fun j h0 h1 => wv_k (by omega))
            · omega
      · obtain ⟨hend1, hend2⟩ := rst_end hr (by omega) hw
        refine ⟨fun _ => ?_, fun h => absurd (show 0 < top from by omega) h⟩
        refine ⟨show 0 ≤ (0 : Int) ∧ 0 < 64 from by decide, ?_⟩
        rw [← hend2] at k0
        exact k0 f1
    · obtain ⟨rfl, top, k, op, a, vs2, ts2, f1, rfl, rfl, rfl, rfl, hk, htp, hnx, hm⟩ := hI
      refine Or.inl ⟨show inr (top - 1) from by constructor <;> omega, ?_⟩
      refine ⟨show 0 ≤ ((top - 1) : Int) ∧ (top - 1) < 64 from by omega, ?_⟩
      refine ⟨show inr (k + 1) from by constructor <;> omega, ?_⟩
      refine hB (to - (k + 1) : Int).toNat ?_ (Or.inl ⟨rfl, top, (k + 1), vs2, ts2, (wv f1 58 (top - 1) a), rfl, rfl, (mx_wv rfl rfl), rfl, ?_, ?_⟩)
      · omega
      · exact hnx _ wv_s (fun j h0 h1 => wv_k (by omega))
      · omega
  · obtain ⟨tw, hw⟩ := hw
    refine hF (to - (max fr 0) : Int).toNat ?_ (Or.inl ⟨rfl, 0, (max fr 0), [], [], f, rfl, rfl, mx_rf, rfl, ?_, ?_⟩)
    · omega
    · rw [show max fr 0 = fr by omega]; exact rst_0 (by omega)
    · omega
theorem lnC_ne {f : iF} {l : Int} (h : f 18 l < f 17 (l + 1)) : ¬ (lnC f l).2 = [] := by
  show ¬ sl (f 16) (f 18 l) (f 17 (l + 1)) = []
  rw [sl_cons h]
  exact List.cons_ne_nil _ _
set_option maxRecDepth 100000 in
set_option maxHeartbeats 4000000 in
theorem k_isBare {l : Int} (hd : 1 ≤ d) (hl0 : 0 ≤ l) (hl1 : l < 16) (k0 : ((f 17 (l + 1)) ≤ (f 18 l)) → Q (some (iI 1)) f g) (k1 : ((f 18 l) < (f 17 (l + 1))) → Q (some (iI 0)) f g) : wq d 117 [iR 15, iI l] f g Q := by
  obtain ⟨d, rfl⟩ : ∃ e, d = e + 1 := ⟨d - 1, by omega⟩
  refine i_meth0 rfl rfl (fun O J hO => ?_)
  refine ⟨show 0 ≤ (l : Int) ∧ l < 16 from by omega, ?_⟩
  refine Or.inl ⟨show inr (l + 1) from by constructor <;> omega, ?_⟩
  refine ⟨show 0 ≤ ((l + 1) : Int) ∧ (l + 1) < 17 from by omega, ?_⟩
  refine ⟨fun (hh_1 : f 18 l < f 17 (l + 1)) => ?_, fun (hh_1 : ¬ f 18 l < f 17 (l + 1)) => ?_⟩
  · refine ⟨show (0 : Int) = 0 ∨ 0 = 1 from by decide, ?_⟩
    exact k1 (by omega)
  · refine ⟨show (1 : Int) = 0 ∨ 1 = 1 from by decide, ?_⟩
    exact k0 (by omega)
theorem clp_mm (v : Int) : clp v = max 0 (min 99 v) := by unfold clp; split <;> (try split) <;> omega
set_option maxRecDepth 100000 in
set_option maxHeartbeats 4000000 in
theorem k_payFor (hd : 2 ≤ d) (hl : (lC f)) (hfa : faok (f 57)) (k0 : ∀ f1 : iF, Q (some (iI (payM (f 57) (lwC f)))) (mx [58] f f1) g) : wq d 118 [iR 15, iR 57, iR 58] f g Q := by
  obtain ⟨d, rfl⟩ : ∃ e, d = e + 1 := ⟨d - 1, by omega⟩
  refine i_meth [(2, 4)] (fun n j lv st f' g' => (j = 2 ∧ ∃ (l : Int) (f1 : iF), lv = [some (iR 15), some (iR 57), some (iR 58), some (iI l)] ∧ st = [] ∧ f' = (mx [58] f f1) ∧ g = g' ∧ (0 ≤ l ∧ l ≤ (f (fv 15 4) 0)) ∧ (payM (f 57) (mkl (lnC f) ((f (fv 15 4) 0) - l).toNat l) = payM (f 57) (lwC f)) ∧ (n : Int) = (f (fv 15 4) 0) - l)) 20 (by omega) rfl rfl (fun n j lv st f' g' hn hI O J hO hF hB => ?_) (fun hvs hin O J hO hF => ?_)
  · obtain ⟨rfl, l, f1, rfl, rfl, rfl, rfl, hl2, hp, hm⟩ := hI
    have hl1 := hl.1
    refine ⟨fun (hh_1 : l < f (fv 15 4) 0) => ?_, fun (hh_1 : ¬ l < f (fv 15 4) 0) => ?_⟩
    · have hln := hl.2 l (by omega) (by omega)
      refine ⟨fun _ => ?_, fun h => absurd (show l < 16 from by omega) h⟩
      refine hO (k_isBare (by omega) (show 0 ≤ l from by omega) (show l < 16 from by omega) (fun (hh_2 : (f 17 (l + 1)) ≤ (f 18 l)) => ?_) (fun (hh_3 : (f 18 l) < (f 17 (l + 1))) => ?_))
      · have hso : (lnC f l).2 = [] ∨ ¬ hdv (ev (f 57) (lnC f l).2 []) = 0 := Or.inl (sl_nil (by omega))
        refine ⟨fun h => absurd (show (1 : Int) = 0 from h) (by decide), fun _ => ?_⟩
        refine ⟨show 0 ≤ (l : Int) ∧ l < 17 from by omega, ?_⟩
        refine ⟨show 0 ≤ (l : Int) ∧ l < 16 from by omega, ?_⟩
        refine hO (k_run (by omega) (show 0 ≤ (f 17 l) ∧ (f 17 l) < (f 18 l) ∧ (f 18 l) ≤ 400 from by omega) (show ∃ t, tyl (sl (f 16) (f 17 l) (f 18 l)) [] = some [t] from by obtain ⟨t, -, ht⟩ := hln.2.2.2.2.1; exact ⟨t, ht⟩) (show faok (f 57) from hfa) (fun f1_4 => ?_))
        rw [show (mx [58] (mx [58] f f1) f1_4) = mx [58] f (mx [58] f1 f1_4) from (mx_mx rfl rfl)]
        have he : payM (f 57) (lwC f) = clp (hdv (ev (f 57) (sl (f 16) (f 17 l) (f 18 l)) [])) := by rw [← hp, show (f (fv 15 4) 0 - l).toNat = (f (fv 15 4) 0 - (l + 1)).toNat + 1 by omega, mkl, payM, if_pos hso]; rfl
        rw [he, clp_mm] at k0
        exact k0 (mx [58] f1 f1_4)
      · have hty : tyl (sl (f 16) (f 18 l) (f 17 (l + 1))) [] = some [3] := by rcases hln.2.2.2.2.2 with h7 | h7; exact absurd h7 (lnC_ne (by omega)); exact h7
        refine ⟨fun _ => ?_, fun h => absurd (show (0 : Int) = 0 from by decide) h⟩
        refine ⟨show 0 ≤ (l : Int) ∧ l < 16 from by omega, ?_⟩
        refine Or.inl ⟨show inr (l + 1) from by constructor <;> omega, ?_⟩
        refine ⟨show 0 ≤ ((l + 1) : Int) ∧ (l + 1) < 17 from by omega, ?_⟩
        refine hO (k_run (by omega) (show 0 ≤ (f 18 l) ∧ (f 18 l) < (f 17 (l + 1)) ∧ (f 17 (l + 1)) ≤ 400 from by omega) (show ∃ t, tyl (sl (f 16) (f 18 l) (f 17 (l + 1))) [] = some [t] from ⟨3, hty⟩) (show faok (f 57) from hfa) (fun f1_5 => ?_))
        refine ⟨fun (hh_6 : hdv (ev (f 57) (sl (f 16) (f 18 l) (f 17 (l + 1))) []) = 0) => ?_, fun (hh_6 : ¬ hdv (ev (f 57) (sl (f 16) (f 18 l) (f 17 (l + 1))) []) = 0) => ?_⟩
        · have hso : ¬ ((lnC f l).2 = [] ∨ ¬ hdv (ev (f 57) (lnC f l).2 []) = 0) := fun h => by rcases h with h | h; exact lnC_ne (by omega) h; exact h hh_6
          refine ⟨show inr (l + 1) from by constructor <;> omega, ?_⟩
          refine hB ((f (fv 15 4) 0) - (l + 1) : Int).toNat ?_ ⟨rfl, (l + 1), (mx [58] f1 f1_5), rfl, rfl, (mx_mx rfl rfl), rfl, ?_, ?_, ?_⟩
          · omega
          · omega
          · rw [← hp, show (f (fv 15 4) 0 - l).toNat = (f (fv 15 4) 0 - (l + 1)).toNat + 1 by omega, mkl, payM, if_neg hso]
          · omega
        · have hso : (lnC f l).2 = [] ∨ ¬ hdv (ev (f 57) (lnC f l).2 []) = 0 := Or.inr hh_6
          refine ⟨show 0 ≤ (l : Int) ∧ l < 17 from by omega, ?_⟩
          refine ⟨show 0 ≤ (l : Int) ∧ l < 16 from by omega, ?_⟩
          refine hO (k_run (by omega) (show 0 ≤ (f 17 l) ∧ (f 17 l) < (f 18 l) ∧ (f 18 l) ≤ 400 from by omega) (show ∃ t, tyl (sl (f 16) (f 17 l) (f 18 l)) [] = some [t] from by obtain ⟨t, -, ht⟩ := hln.2.2.2.2.1; exact ⟨t, ht⟩) (show faok (f 57) from hfa) (fun f1_7 => ?_))
          rw [show (mx [58] (mx [58] (mx [58] f f1) f1_5) f1_7) = mx [58] f (mx [58] (mx [58] f1 f1_5) f1_7) from (mx_mx rfl (mx_mx rfl rfl))]
          have he : payM (f 57) (lwC f) = clp (hdv (ev (f 57) (sl (f 16) (f 17 l) (f 18 l)) [])) := by rw [← hp, show (f (fv 15 4) 0 - l).toNat = (f (fv 15 4) 0 - (l + 1)).toNat + 1 by omega, mkl, payM, if_pos hso]; rfl
          rw [he, clp_mm] at k0
          exact k0 (mx [58] (mx [58] f1 f1_5) f1_7)
    · have he : payM (f 57) (lwC f) = 1 := by rw [← hp, show (f (fv 15 4) 0 - l).toNat = 0 by omega]; rfl
      rw [he] at k0
      exact k0 f1
  · have hl1 := hl.1
    refine hF ((f (fv 15 4) 0) - 0 : Int).toNat ?_ ⟨rfl, 0, f, rfl, rfl, mx_rf, rfl, ?_, ?_, ?_⟩
    · omega
    · omega
    · rw [show f (fv 15 4) 0 - 0 = f (fv 15 4) 0 by omega]; rfl
    · omega
end C6
end
section
section C7
variable {d : Nat} {f : iF} {g : iG} {Q : Option iv → iF → iG → Prop}
/-! ===== the class: rows, who can print, long words, facts ===== -/
def aC (f : iF) : Int → Bool := abl (f 8) (f 7) (f 4)
theorem aC_t {f : iF} {s : Int} : aC f s = true ↔ (0 ≤ s ∧ s < 29 ∧ f 8 s = 0 ∧ 0 ≤ f 7 s ∧ f 4 (f 7 s) = 0) := abl_t
theorem aC_f {f : iF} {s : Int} : aC f s = false ↔ ¬ (0 ≤ s ∧ s < 29 ∧ f 8 s = 0 ∧ 0 ≤ f 7 s ∧ f 4 (f 7 s) = 0) := abl_f
theorem aC_in {f : iF} (s : Int) (h : aC f s = true) : 0 ≤ s ∧ s < 29 := ⟨(aC_t.mp h).1, (aC_t.mp h).2.1⟩
def coB (f : iF) : Prop := (0 ≤ f (fv 1 0) 0 ∧ f (fv 1 0) 0 ≤ 8) ∧ ∀ s, 0 ≤ s → s < 29 → -1 ≤ f 7 s ∧ f 7 s < f (fv 1 0) 0
def abOK (f : iF) : Prop := ∀ s, 0 ≤ s → s < 29 → f 55 s = b1 (aC f s)
def rowB (n m : Int) (r : Int → Int) : Prop := (0 ≤ n ∧ n ≤ m) ∧ ∀ i, 0 ≤ i → i < n → 0 ≤ r i ∧ r i ≤ 29
def bit (m k : Int) : Bool := decide (¬ b_and (b_shr m k) 1 = 0)
theorem bit_t {m k : Int} : bit m k = true ↔ ¬ b_and (b_shr m k) 1 = 0 := by unfold bit; exact decide_eq_true_iff
theorem bit_f {m k : Int} : bit m k = false ↔ b_and (b_shr m k) 1 = 0 := by
  unfold bit
  rw [decide_eq_false_iff_not]
  exact Decidable.not_not
/-- what is not asked stays 0 -/
def fcC (m : Int) (fa : Int → Int) : Int → Int := fun k => if (k = 2 ∨ k = 3 ∨ k = 6 ∨ k = 7) ∧ bit m k = false then 0 else fa k
set_option maxRecDepth 100000 in
set_option maxHeartbeats 4000000 in
theorem k_get_pg {i : Int} (hd : 1 ≤ d) (hi : 0 ≤ i ∧ i < 60) (k0 : Q (some (iI (f 11 i))) f g) : wq d 171 [iR 10, iI i] f g Q := by
  obtain ⟨d, rfl⟩ : ∃ e, d = e + 1 := ⟨d - 1, by omega⟩
  refine i_meth0 rfl rfl (fun O J hO => ?_)
  refine ⟨fun h => absurd (show i < 0 from h) (by omega), fun _ => ?_⟩
  refine ⟨fun _ => ?_, fun h => absurd (show i < 60 from by omega) h⟩
  refine ⟨show 0 ≤ (i : Int) ∧ i < 60 from by omega, ?_⟩
  exact k0
set_option maxRecDepth 100000 in
set_option maxHeartbeats 4000000 in
theorem k_has_pg {i : Int} (hd : 1 ≤ d) (hn : (f (fv 10 1) 0) ≤ 60) (k0 : (0 ≤ i ∧ i < (f (fv 10 1) 0)) → Q (some (iI 1)) f g) (k1 : (¬ (0 ≤ i ∧ i < (f (fv 10 1) 0))) → Q (some (iI 0)) f g) : wq d 170 [iR 10, iI i] f g Q := by
  obtain ⟨d, rfl⟩ : ∃ e, d = e + 1 := ⟨d - 1, by omega⟩
  refine i_meth0 rfl rfl (fun O J hO => ?_)
  refine ⟨fun (hh_1 : i < 0) => ?_, fun (hh_1 : ¬ i < 0) => ?_⟩
  · refine ⟨show (0 : Int) = 0 ∨ 0 = 1 from by decide, ?_⟩
    exact k1 (by omega)
  · refine ⟨fun (hh_2 : i < f (fv 10 1) 0) => ?_, fun (hh_2 : ¬ i < f (fv 10 1) 0) => ?_⟩
    · refine ⟨fun (hh_3 : i < 60) => ?_, fun (hh_3 : ¬ i < 60) => ?_⟩
      · refine ⟨show (1 : Int) = 0 ∨ 1 = 1 from by decide, ?_⟩
        exact k0 (by omega)
      · refine ⟨show (0 : Int) = 0 ∨ 0 = 1 from by decide, ?_⟩
        exact k1 (by omega)
    · refine ⟨show (0 : Int) = 0 ∨ 0 = 1 from by decide, ?_⟩
      exact k1 (by omega)
set_option maxRecDepth 100000 in
set_option maxHeartbeats 4000000 in
theorem k_put_pg {i v : Int} (hd : 2 ≤ d) (hi : 0 ≤ i ∧ i < (f (fv 10 1) 0)) (hn : (f (fv 10 1) 0) ≤ 60) (k0 : Q none (wv f 11 i v) g) : wq d 172 [iR 10, iI i, iI v] f g Q := by
  obtain ⟨d, rfl⟩ : ∃ e, d = e + 1 := ⟨d - 1, by omega⟩
  refine i_meth0 rfl rfl (fun O J hO => ?_)
  refine hO (k_has_pg (by omega) (show (f (fv 10 1) 0) ≤ 60 from by omega) (fun (hh_1 : 0 ≤ i ∧ i < (f (fv 10 1) 0)) => ?_) (fun (hh_2 : ¬ (0 ≤ i ∧ i < (f (fv 10 1) 0))) => ?_))
  · refine ⟨fun h => absurd (show (1 : Int) = 0 from h) (by decide), fun _ => ?_⟩
    refine ⟨show 0 ≤ (i : Int) ∧ i < 60 from by omega, ?_⟩
    exact k0
  · exact absurd hi (by assumption)
set_option maxRecDepth 100000 in
set_option maxHeartbeats 4000000 in
theorem k_add_pg {v : Int} (hd : 1 ≤ d) (hn : 0 ≤ (f (fv 10 1) 0) ∧ (f (fv 10 1) 0) < 60) (k0 : Q none (wv (wv f 11 (f (fv 10 1) 0) v) (fv 10 1) 0 ((f (fv 10 1) 0) + 1)) g) : wq d 173 [iR 10, iI v] f g Q := by
  obtain ⟨d, rfl⟩ : ∃ e, d = e + 1 := ⟨d - 1, by omega⟩
  refine i_meth0 rfl rfl (fun O J hO => ?_)
  refine ⟨fun h => absurd (show f (fv 10 1) 0 < 0 from h) (by omega), fun _ => ?_⟩
  refine ⟨fun _ => ?_, fun h => absurd (show f (fv 10 1) 0 < 60 from by omega) h⟩
  refine ⟨show 0 ≤ (f (fv 10 1) 0 : Int) ∧ f (fv 10 1) 0 < 60 from by omega, ?_⟩
  refine Or.inl ⟨show inr ((f (fv 10 1) 0) + 1) from by constructor <;> omega, ?_⟩
  exact k0
set_option maxRecDepth 100000 in
set_option maxHeartbeats 4000000 in
theorem k_get_rm {i : Int} (hd : 1 ≤ d) (hi : 0 ≤ i ∧ i < 12) (k0 : Q (some (iI (f 65 i))) f g) : wq d 171 [iR 64, iI i] f g Q := by
  obtain ⟨d, rfl⟩ : ∃ e, d = e + 1 := ⟨d - 1, by omega⟩
  refine i_meth0 rfl rfl (fun O J hO => ?_)
  refine ⟨fun h => absurd (show i < 0 from h) (by omega), fun _ => ?_⟩
  refine ⟨fun _ => ?_, fun h => absurd (show i < 12 from by omega) h⟩
  refine ⟨show 0 ≤ (i : Int) ∧ i < 12 from by omega, ?_⟩
  exact k0
set_option maxRecDepth 100000 in
set_option maxHeartbeats 4000000 in
theorem k_has_rm {i : Int} (hd : 1 ≤ d) (hn : (f (fv 64 1) 0) ≤ 12) (k0 : (0 ≤ i ∧ i < (f (fv 64 1) 0)) → Q (some (iI 1)) f g) (k1 : (¬ (0 ≤ i ∧ i < (f (fv 64 1) 0))) → Q (some (iI 0)) f g) : wq d 170 [iR 64, iI i] f g Q := by
  obtain ⟨d, rfl⟩ : ∃ e, d = e + 1 := ⟨d - 1, by omega⟩
  refine i_meth0 rfl rfl (fun O J hO => ?_)
  refine ⟨fun (hh_1 : i < 0) => ?_, fun (hh_1 : ¬ i < 0) => ?_⟩
  · refine ⟨show (0 : Int) = 0 ∨ 0 = 1 from by decide, ?_⟩
    exact k1 (by omega)
  · refine ⟨fun (hh_2 : i < f (fv 64 1) 0) => ?_, fun (hh_2 : ¬ i < f (fv 64 1) 0) => ?_⟩
    · refine ⟨fun (hh_3 : i < 12) => ?_, fun (hh_3 : ¬ i < 12) => ?_⟩
      · refine ⟨show (1 : Int) = 0 ∨ 1 = 1 from by decide, ?_⟩
        exact k0 (by omega)
      · refine ⟨show (0 : Int) = 0 ∨ 0 = 1 from by decide, ?_⟩
        exact k1 (by omega)
    · refine ⟨show (0 : Int) = 0 ∨ 0 = 1 from by decide, ?_⟩
      exact k1 (by omega)
set_option maxRecDepth 100000 in
set_option maxHeartbeats 4000000 in
theorem k_put_rm {i v : Int} (hd : 2 ≤ d) (hi : 0 ≤ i ∧ i < (f (fv 64 1) 0)) (hn : (f (fv 64 1) 0) ≤ 12) (k0 : Q none (wv f 65 i v) g) : wq d 172 [iR 64, iI i, iI v] f g Q := by
  obtain ⟨d, rfl⟩ : ∃ e, d = e + 1 := ⟨d - 1, by omega⟩
  refine i_meth0 rfl rfl (fun O J hO => ?_)
  refine hO (k_has_rm (by omega) (show (f (fv 64 1) 0) ≤ 12 from by omega) (fun (hh_1 : 0 ≤ i ∧ i < (f (fv 64 1) 0)) => ?_) (fun (hh_2 : ¬ (0 ≤ i ∧ i < (f (fv 64 1) 0))) => ?_))
  · refine ⟨fun h => absurd (show (1 : Int) = 0 from h) (by decide), fun _ => ?_⟩
    refine ⟨show 0 ≤ (i : Int) ∧ i < 12 from by omega, ?_⟩
    exact k0
  · exact absurd hi (by assumption)
set_option maxRecDepth 100000 in
set_option maxHeartbeats 4000000 in
theorem k_add_rm {v : Int} (hd : 1 ≤ d) (hn : 0 ≤ (f (fv 64 1) 0) ∧ (f (fv 64 1) 0) < 12) (k0 : Q none (wv (wv f 65 (f (fv 64 1) 0) v) (fv 64 1) 0 ((f (fv 64 1) 0) + 1)) g) : wq d 173 [iR 64, iI v] f g Q := by
  obtain ⟨d, rfl⟩ : ∃ e, d = e + 1 := ⟨d - 1, by omega⟩
  refine i_meth0 rfl rfl (fun O J hO => ?_)
  refine ⟨fun h => absurd (show f (fv 64 1) 0 < 0 from h) (by omega), fun _ => ?_⟩
  refine ⟨fun _ => ?_, fun h => absurd (show f (fv 64 1) 0 < 12 from by omega) h⟩
  refine ⟨show 0 ≤ (f (fv 64 1) 0 : Int) ∧ f (fv 64 1) 0 < 12 from by omega, ?_⟩
  refine Or.inl ⟨show inr ((f (fv 64 1) 0) + 1) from by constructor <;> omega, ?_⟩
  exact k0
set_option maxRecDepth 100000 in
set_option maxHeartbeats 4000000 in
theorem k_get_bk {i : Int} (hd : 1 ≤ d) (hi : 0 ≤ i ∧ i < 60) (k0 : Q (some (iI (f 75 i))) f g) : wq d 171 [iR 74, iI i] f g Q := by
  obtain ⟨d, rfl⟩ : ∃ e, d = e + 1 := ⟨d - 1, by omega⟩
  refine i_meth0 rfl rfl (fun O J hO => ?_)
  refine ⟨fun h => absurd (show i < 0 from h) (by omega), fun _ => ?_⟩
  refine ⟨fun _ => ?_, fun h => absurd (show i < 60 from by omega) h⟩
  refine ⟨show 0 ≤ (i : Int) ∧ i < 60 from by omega, ?_⟩
  exact k0
set_option maxRecDepth 100000 in
set_option maxHeartbeats 4000000 in
theorem k_has_bk {i : Int} (hd : 1 ≤ d) (hn : (f (fv 74 1) 0) ≤ 60) (k0 : (0 ≤ i ∧ i < (f (fv 74 1) 0)) → Q (some (iI 1)) f g) (k1 : (¬ (0 ≤ i ∧ i < (f (fv 74 1) 0))) → Q (some (iI 0)) f g) : wq d 170 [iR 74, iI i] f g Q := by
  obtain ⟨d, rfl⟩ : ∃ e, d = e + 1 := ⟨d - 1, by omega⟩
  refine i_meth0 rfl rfl (fun O J hO => ?_)
  refine ⟨fun (hh_1 : i < 0) => ?_, fun (hh_1 : ¬ i < 0) => ?_⟩
  · refine ⟨show (0 : Int) = 0 ∨ 0 = 1 from by decide, ?_⟩
    exact k1 (by omega)
  · refine ⟨fun (hh_2 : i < f (fv 74 1) 0) => ?_, fun (hh_2 : ¬ i < f (fv 74 1) 0) => ?_⟩
    · refine ⟨fun (hh_3 : i < 60) => ?_, fun (hh_3 : ¬ i < 60) => ?_⟩
      · refine ⟨show (1 : Int) = 0 ∨ 1 = 1 from by decide, ?_⟩
        exact k0 (by omega)
      · refine ⟨show (0 : Int) = 0 ∨ 0 = 1 from by decide, ?_⟩
        exact k1 (by omega)
    · refine ⟨show (0 : Int) = 0 ∨ 0 = 1 from by decide, ?_⟩
      exact k1 (by omega)
set_option maxRecDepth 100000 in
set_option maxHeartbeats 4000000 in
theorem k_put_bk {i v : Int} (hd : 2 ≤ d) (hi : 0 ≤ i ∧ i < (f (fv 74 1) 0)) (hn : (f (fv 74 1) 0) ≤ 60) (k0 : Q none (wv f 75 i v) g) : wq d 172 [iR 74, iI i, iI v] f g Q := by
  obtain ⟨d, rfl⟩ : ∃ e, d = e + 1 := ⟨d - 1, by omega⟩
  refine i_meth0 rfl rfl (fun O J hO => ?_)
  refine hO (k_has_bk (by omega) (show (f (fv 74 1) 0) ≤ 60 from by omega) (fun (hh_1 : 0 ≤ i ∧ i < (f (fv 74 1) 0)) => ?_) (fun (hh_2 : ¬ (0 ≤ i ∧ i < (f (fv 74 1) 0))) => ?_))
  · refine ⟨fun h => absurd (show (1 : Int) = 0 from h) (by decide), fun _ => ?_⟩
    refine ⟨show 0 ≤ (i : Int) ∧ i < 60 from by omega, ?_⟩
    exact k0
  · exact absurd hi (by assumption)
set_option maxRecDepth 100000 in
set_option maxHeartbeats 4000000 in
theorem k_add_bk {v : Int} (hd : 1 ≤ d) (hn : 0 ≤ (f (fv 74 1) 0) ∧ (f (fv 74 1) 0) < 60) (k0 : Q none (wv (wv f 75 (f (fv 74 1) 0) v) (fv 74 1) 0 ((f (fv 74 1) 0) + 1)) g) : wq d 173 [iR 74, iI v] f g Q := by
  obtain ⟨d, rfl⟩ : ∃ e, d = e + 1 := ⟨d - 1, by omega⟩
  refine i_meth0 rfl rfl (fun O J hO => ?_)
  refine ⟨fun h => absurd (show f (fv 74 1) 0 < 0 from h) (by omega), fun _ => ?_⟩
  refine ⟨fun _ => ?_, fun h => absurd (show f (fv 74 1) 0 < 60 from by omega) h⟩
  refine ⟨show 0 ≤ (f (fv 74 1) 0 : Int) ∧ f (fv 74 1) 0 < 60 from by omega, ?_⟩
  refine Or.inl ⟨show inr ((f (fv 74 1) 0) + 1) from by constructor <;> omega, ?_⟩
  exact k0
set_option maxRecDepth 100000 in
set_option maxHeartbeats 4000000 in
theorem k_get_tp {i : Int} (hd : 1 ≤ d) (hi : 0 ≤ i ∧ i < 400) (k0 : Q (some (iI (f 40 i))) f g) : wq d 171 [iR 39, iI i] f g Q := by
  obtain ⟨d, rfl⟩ : ∃ e, d = e + 1 := ⟨d - 1, by omega⟩
  refine i_meth0 rfl rfl (fun O J hO => ?_)
  refine ⟨fun h => absurd (show i < 0 from h) (by omega), fun _ => ?_⟩
  refine ⟨fun _ => ?_, fun h => absurd (show i < 400 from by omega) h⟩
  refine ⟨show 0 ≤ (i : Int) ∧ i < 400 from by omega, ?_⟩
  exact k0
set_option maxRecDepth 100000 in
set_option maxHeartbeats 4000000 in
theorem k_has_tp {i : Int} (hd : 1 ≤ d) (hn : (f (fv 39 1) 0) ≤ 400) (k0 : (0 ≤ i ∧ i < (f (fv 39 1) 0)) → Q (some (iI 1)) f g) (k1 : (¬ (0 ≤ i ∧ i < (f (fv 39 1) 0))) → Q (some (iI 0)) f g) : wq d 170 [iR 39, iI i] f g Q := by
  obtain ⟨d, rfl⟩ : ∃ e, d = e + 1 := ⟨d - 1, by omega⟩
  refine i_meth0 rfl rfl (fun O J hO => ?_)
  refine ⟨fun (hh_1 : i < 0) => ?_, fun (hh_1 : ¬ i < 0) => ?_⟩
  · refine ⟨show (0 : Int) = 0 ∨ 0 = 1 from by decide, ?_⟩
    exact k1 (by omega)
  · refine ⟨fun (hh_2 : i < f (fv 39 1) 0) => ?_, fun (hh_2 : ¬ i < f (fv 39 1) 0) => ?_⟩
    · refine ⟨fun (hh_3 : i < 400) => ?_, fun (hh_3 : ¬ i < 400) => ?_⟩
      · refine ⟨show (1 : Int) = 0 ∨ 1 = 1 from by decide, ?_⟩
        exact k0 (by omega)
      · refine ⟨show (0 : Int) = 0 ∨ 0 = 1 from by decide, ?_⟩
        exact k1 (by omega)
    · refine ⟨show (0 : Int) = 0 ∨ 0 = 1 from by decide, ?_⟩
      exact k1 (by omega)
set_option maxRecDepth 100000 in
set_option maxHeartbeats 4000000 in
theorem k_put_tp {i v : Int} (hd : 2 ≤ d) (hi : 0 ≤ i ∧ i < (f (fv 39 1) 0)) (hn : (f (fv 39 1) 0) ≤ 400) (k0 : Q none (wv f 40 i v) g) : wq d 172 [iR 39, iI i, iI v] f g Q := by
  obtain ⟨d, rfl⟩ : ∃ e, d = e + 1 := ⟨d - 1, by omega⟩
  refine i_meth0 rfl rfl (fun O J hO => ?_)
  refine hO (k_has_tp (by omega) (show (f (fv 39 1) 0) ≤ 400 from by omega) (fun (hh_1 : 0 ≤ i ∧ i < (f (fv 39 1) 0)) => ?_) (fun (hh_2 : ¬ (0 ≤ i ∧ i < (f (fv 39 1) 0))) => ?_))
  · refine ⟨fun h => absurd (show (1 : Int) = 0 from h) (by decide), fun _ => ?_⟩
    refine ⟨show 0 ≤ (i : Int) ∧ i < 400 from by omega, ?_⟩
    exact k0
  · exact absurd hi (by assumption)
set_option maxRecDepth 100000 in
set_option maxHeartbeats 4000000 in
theorem k_add_tp {v : Int} (hd : 1 ≤ d) (hn : 0 ≤ (f (fv 39 1) 0) ∧ (f (fv 39 1) 0) < 400) (k0 : Q none (wv (wv f 40 (f (fv 39 1) 0) v) (fv 39 1) 0 ((f (fv 39 1) 0) + 1)) g) : wq d 173 [iR 39, iI v] f g Q := by
  obtain ⟨d, rfl⟩ : ∃ e, d = e + 1 := ⟨d - 1, by omega⟩
  refine i_meth0 rfl rfl (fun O J hO => ?_)
  refine ⟨fun h => absurd (show f (fv 39 1) 0 < 0 from h) (by omega), fun _ => ?_⟩
  refine ⟨fun _ => ?_, fun h => absurd (show f (fv 39 1) 0 < 400 from by omega) h⟩
  refine ⟨show 0 ≤ (f (fv 39 1) 0 : Int) ∧ f (fv 39 1) 0 < 400 from by omega, ?_⟩
  refine Or.inl ⟨show inr ((f (fv 39 1) 0) + 1) from by constructor <;> omega, ?_⟩
  exact k0
set_option maxRecDepth 100000 in
set_option maxHeartbeats 4000000 in
theorem k_canP {s : Int} (hd : 2 ≤ d) (hcb : (coB f)) (k0 : ((aC f) s = true) → Q (some (iI 1)) f g) (k1 : ((aC f) s = false) → Q (some (iI 0)) f g) : wq d 101 [iR 1, iI s] f g Q := by
  obtain ⟨d, rfl⟩ : ∃ e, d = e + 1 := ⟨d - 1, by omega⟩
  refine i_meth0 rfl rfl (fun O J hO => ?_)
  have hcb1 := hcb.1
  refine hO (k_isSign (by omega) (fun (hh_1 : 0 ≤ s) (hh_2 : s < 29) => ?_) (fun (hh_3 : ¬ (0 ≤ s ∧ s < 29)) => ?_))
  · have hcs := hcb.2 s (by omega) (by omega)
    refine ⟨fun h => absurd (show (1 : Int) = 0 from h) (by decide), fun _ => ?_⟩
    refine ⟨show 0 ≤ (s : Int) ∧ s < 29 from by omega, ?_⟩
    refine ⟨fun (hh_4 : f 8 s = 0) => ?_, fun (hh_4 : ¬ f 8 s = 0) => ?_⟩
    · refine ⟨show 0 ≤ (s : Int) ∧ s < 29 from by omega, ?_⟩
      refine hO (k_has (by omega) (fun (hh_5 : 0 ≤ (f 7 s)) (hh_6 : (f 7 s) < (f (fv 1 0) 0)) (hh_7 : (f 7 s) < 8) => ?_) (fun (hh_8 : ¬ (0 ≤ (f 7 s) ∧ (f 7 s) < (f (fv 1 0) 0) ∧ (f 7 s) < 8)) => ?_))
      · refine ⟨fun h => absurd (show (1 : Int) = 0 from h) (by decide), fun _ => ?_⟩
        refine ⟨show 0 ≤ (s : Int) ∧ s < 29 from by omega, ?_⟩
        refine ⟨show 0 ≤ (f 7 s : Int) ∧ f 7 s < 8 from by omega, ?_⟩
        refine ⟨fun (hh_9 : f 4 (f 7 s) = 0) => ?_, fun (hh_9 : ¬ f 4 (f 7 s) = 0) => ?_⟩
        · refine ⟨show (1 : Int) = 0 ∨ 1 = 1 from by decide, ?_⟩
          exact k0 (by exact aC_t.mpr ⟨by omega, by omega, by omega, by omega, by omega⟩)
        · refine ⟨show (0 : Int) = 0 ∨ 0 = 1 from by decide, ?_⟩
          exact k1 (by exact aC_f.mpr (by omega))
      · refine ⟨fun _ => ?_, fun h => absurd (show (0 : Int) = 0 from by decide) h⟩
        refine ⟨show (0 : Int) = 0 ∨ 0 = 1 from by decide, ?_⟩
        exact k1 (by exact aC_f.mpr (by omega))
    · refine ⟨show (0 : Int) = 0 ∨ 0 = 1 from by decide, ?_⟩
      exact k1 (by exact aC_f.mpr (by omega))
  · refine ⟨fun _ => ?_, fun h => absurd (show (0 : Int) = 0 from by decide) h⟩
    refine ⟨show (0 : Int) = 0 ∨ 0 = 1 from by decide, ?_⟩
    exact k1 (by exact aC_f.mpr (by omega))
set_option maxRecDepth 100000 in
set_option maxHeartbeats 4000000 in
theorem k_lookOver (hd : 3 ≤ d) (hcb : (coB f)) (k0 : ∀ f1 : iF, (∀ s, 0 ≤ s → s < 29 → f1 55 s = b1 ((aC f) s)) → Q none (mx [55] f f1) g) : wq d 140 [iR 54] f g Q := by
  obtain ⟨d, rfl⟩ : ∃ e, d = e + 1 := ⟨d - 1, by omega⟩
  refine i_meth [(2, 2)] (fun n j lv st f' g' => (j = 2 ∧ ∃ (s : Int) (f1 : iF), lv = [some (iR 54), some (iI s)] ∧ st = [] ∧ f' = (mx [55] f f1) ∧ g = g' ∧ (0 ≤ s ∧ s ≤ 29) ∧ (∀ k, 0 ≤ k → k < s → f1 55 k = b1 (aC f k)) ∧ (n : Int) = 29 - s)) 29 (by omega) rfl rfl (fun n j lv st f' g' hn hI O J hO hF hB => ?_) (fun hvs hin O J hO hF => ?_)
  · obtain ⟨rfl, s, f1, rfl, rfl, rfl, rfl, hs, hz, hm⟩ := hI
    refine ⟨fun (hh_1 : s < 29) => ?_, fun (hh_1 : ¬ s < 29) => ?_⟩
    · refine hO (k_canP (by omega) (show (coB f) from hcb) (fun (hh_2 : (aC f) s = true) => ?_) (fun (hh_3 : (aC f) s = false) => ?_))
      · refine ⟨show 0 ≤ (s : Int) ∧ s < 29 from by omega, ?_⟩
        refine ⟨show (1 : Int) = 0 ∨ 1 = 1 from by decide, ?_⟩
        refine ⟨show inr (s + 1) from by constructor <;> omega, ?_⟩
        refine hB (29 - (s + 1) : Int).toNat ?_ ⟨rfl, (s + 1), (wv f1 55 s 1), rfl, rfl, (mx_wv rfl rfl), rfl, ?_, ?_, ?_⟩
        · omega
        · omega
        · intro k h0 h1
          rw [wv_i]
          by_cases e : k = s
          · rw [if_pos e, e, ‹aC f s = _›]; rfl
          · rw [if_neg e]; exact hz k h0 (by omega)
        · omega
      · refine ⟨show 0 ≤ (s : Int) ∧ s < 29 from by omega, ?_⟩
        refine ⟨show (0 : Int) = 0 ∨ 0 = 1 from by decide, ?_⟩
        refine ⟨show inr (s + 1) from by constructor <;> omega, ?_⟩
        refine hB (29 - (s + 1) : Int).toNat ?_ ⟨rfl, (s + 1), (wv f1 55 s 0), rfl, rfl, (mx_wv rfl rfl), rfl, ?_, ?_, ?_⟩
        · omega
        · omega
        · intro k h0 h1
          rw [wv_i]
          by_cases e : k = s
          · rw [if_pos e, e, ‹aC f s = _›]; rfl
          · rw [if_neg e]; exact hz k h0 (by omega)
        · omega
    · exact k0 f1 (fun k h0 h1 => hz k h0 (by omega))
  · refine hF (29 - 0 : Int).toNat ?_ ⟨rfl, 0, f, rfl, rfl, mx_rf, rfl, ?_, ?_, ?_⟩
    · omega
    · omega
    · intro k h0 h1; omega
    · omega
set_option maxRecDepth 100000 in
set_option maxHeartbeats 4000000 in
theorem k_lookAt {s : Int} (hd : 3 ≤ d) (hs : 0 ≤ s ∧ s < 29) (hcb : (coB f)) (k0 : Q none (wv f 55 s (b1 ((aC f) s))) g) : wq d 141 [iR 54, iI s] f g Q := by
  obtain ⟨d, rfl⟩ : ∃ e, d = e + 1 := ⟨d - 1, by omega⟩
  refine i_meth0 rfl rfl (fun O J hO => ?_)
  refine hO (k_isSign (by omega) (fun (hh_1 : 0 ≤ s) (hh_2 : s < 29) => ?_) (fun (hh_3 : ¬ (0 ≤ s ∧ s < 29)) => ?_))
  · refine ⟨fun h => absurd (show (1 : Int) = 0 from h) (by decide), fun _ => ?_⟩
    refine hO (k_canP (by omega) (show (coB f) from hcb) (fun (hh_4 : (aC f) s = true) => ?_) (fun (hh_5 : (aC f) s = false) => ?_))
    · rw [hh_4] at k0
      refine ⟨show 0 ≤ (s : Int) ∧ s < 29 from by omega, ?_⟩
      refine ⟨show (1 : Int) = 0 ∨ 1 = 1 from by decide, ?_⟩
      exact k0
    · rw [hh_5] at k0
      refine ⟨show 0 ≤ (s : Int) ∧ s < 29 from by omega, ?_⟩
      refine ⟨show (0 : Int) = 0 ∨ 0 = 1 from by decide, ?_⟩
      exact k0
  · exact absurd hs (by assumption)
set_option maxRecDepth 100000 in
set_option maxHeartbeats 4000000 in
theorem k_isAble {s : Int} (hd : 1 ≤ d) (hab : (abOK f)) (k0 : ((aC f) s = true) → Q (some (iI 1)) f g) (k1 : ((aC f) s = false) → Q (some (iI 0)) f g) : wq d 142 [iR 54, iI s] f g Q := by
  obtain ⟨d, rfl⟩ : ∃ e, d = e + 1 := ⟨d - 1, by omega⟩
  refine i_meth0 rfl rfl (fun O J hO => ?_)
  refine ⟨fun (hh_1 : s < 0) => ?_, fun (hh_1 : ¬ s < 0) => ?_⟩
  · refine ⟨show (0 : Int) = 0 ∨ 0 = 1 from by decide, ?_⟩
    exact k1 (by cases e : aC f s with
          | false => rfl
          | true =>
            have := aC_in s e
            first | omega | (rw [e, b1_t] at hs; omega))
  · refine ⟨fun (hh_2 : s < 29) => ?_, fun (hh_2 : ¬ s < 29) => ?_⟩
    · have hs := hab s (by omega) (by omega)
      refine ⟨show 0 ≤ (s : Int) ∧ s < 29 from by omega, ?_⟩
      refine ⟨fun (hh_3 : f 55 s = 0) => ?_, fun (hh_3 : ¬ f 55 s = 0) => ?_⟩
      · refine ⟨show (0 : Int) = 0 ∨ 0 = 1 from by decide, ?_⟩
        exact k1 (by cases e : aC f s with
          | false => rfl
          | true =>
            have := aC_in s e
            first | omega | (rw [e, b1_t] at hs; omega))
      · refine ⟨show (1 : Int) = 0 ∨ 1 = 1 from by decide, ?_⟩
        exact k0 (by cases e : aC f s with
          | true => rfl
          | false => rw [e, b1_f] at hs; omega)
    · refine ⟨show (0 : Int) = 0 ∨ 0 = 1 from by decide, ?_⟩
      exact k1 (by cases e : aC f s with
          | false => rfl
          | true =>
            have := aC_in s e
            first | omega | (rw [e, b1_t] at hs; omega))
set_option maxRecDepth 100000 in
set_option maxHeartbeats 4000000 in
theorem k_asks {w : Int} (hd : 1 ≤ d) (k0 : (bit (f (fv 15 5) 0) w = true) → Q (some (iI 1)) f g) (k1 : (bit (f (fv 15 5) 0) w = false) → Q (some (iI 0)) f g) : wq d 113 [iR 15, iI w] f g Q := by
  obtain ⟨d, rfl⟩ : ∃ e, d = e + 1 := ⟨d - 1, by omega⟩
  refine i_meth0 rfl rfl (fun O J hO => ?_)
  refine ⟨fun (hh_1 : (b_and (b_shr (f (fv 15 5) 0) w) 1) = 0) => ?_, fun (hh_1 : ¬ (b_and (b_shr (f (fv 15 5) 0) w) 1) = 0) => ?_⟩
  · refine ⟨show (0 : Int) = 0 ∨ 0 = 1 from by decide, ?_⟩
    exact k1 (by exact bit_f.mpr (by assumption))
  · refine ⟨show (1 : Int) = 0 ∨ 1 = 1 from by decide, ?_⟩
    exact k0 (by exact bit_t.mpr (by assumption))
set_option maxRecDepth 100000 in
set_option maxHeartbeats 4000000 in
theorem k_ahead_pg {i s : Int} (hd : 1 ≤ d) (hi : 0 ≤ i ∧ i < 60) (k0 : Q (some (iI (cI (fun k => decide ((f 11 k) = s)) i))) f g) : wq d 148 [iR 10, iI i, iI s] f g Q := by
  obtain ⟨d, rfl⟩ : ∃ e, d = e + 1 := ⟨d - 1, by omega⟩
  refine i_meth [(4, 5)] (fun n j lv st f' g' => (j = 4 ∧ ∃ (c : Int) (k : Int), lv = [some (iR 10), some (iI i), some (iI s), some (iI c), some (iI k)] ∧ st = [] ∧ f = f' ∧ g = g' ∧ (0 ≤ k ∧ k ≤ i ∧ 0 ≤ c ∧ c ≤ k) ∧ (c = cI (fun k => decide ((f 11 k) = s)) k) ∧ (n : Int) = i - k)) 60 (by omega) rfl rfl (fun n j lv st f' g' hn hI O J hO hF hB => ?_) (fun hvs hin O J hO hF => ?_)
  · obtain ⟨rfl, c, k, rfl, rfl, rfl, rfl, hk, hc, hm⟩ := hI
    refine ⟨fun (hh_1 : k < i) => ?_, fun (hh_1 : ¬ k < i) => ?_⟩
    · refine ⟨fun _ => ?_, fun h => absurd (show k < 60 from by omega) h⟩
      refine ⟨show 0 ≤ (k : Int) ∧ k < 60 from by omega, ?_⟩
      refine ⟨fun (hh_2 : f 11 k = s) => ?_, fun (hh_2 : ¬ f 11 k = s) => ?_⟩
      · refine ⟨show inr (c + 1) from by constructor <;> omega, ?_⟩
        refine ⟨show inr (k + 1) from by constructor <;> omega, ?_⟩
        refine hB (i - (k + 1) : Int).toNat ?_ ⟨rfl, (c + 1), (k + 1), rfl, rfl, rfl, rfl, ?_, ?_, ?_⟩
        · omega
        · omega
        · first | (rw [cI_t (by omega) (decide_eq_true ‹_ = _›)]; omega) | (rw [cI_f (by omega) (decide_eq_false ‹_›)]; omega)
        · omega
      · refine ⟨show inr (k + 1) from by constructor <;> omega, ?_⟩
        refine hB (i - (k + 1) : Int).toNat ?_ ⟨rfl, c, (k + 1), rfl, rfl, rfl, rfl, ?_, ?_, ?_⟩
        · omega
        · omega
        · first | (rw [cI_t (by omega) (decide_eq_true ‹_ = _›)]; omega) | (rw [cI_f (by omega) (decide_eq_false ‹_›)]; omega)
        · omega
    · rw [show k = i by omega] at hc
      rw [← hc] at k0
      exact k0
  · refine hF (i - 0 : Int).toNat ?_ ⟨rfl, 0, 0, rfl, rfl, rfl, rfl, ?_, ?_, ?_⟩
    · omega
    · omega
    · rfl
    · omega
set_option maxRecDepth 100000 in
set_option maxHeartbeats 4000000 in
theorem k_measure_pg {fm : Int} (hd : 2 ≤ d) (hfm : 0 ≤ fm ∧ fm ≤ (f (fv 10 1) 0)) (hst : fm = 0 ∨ isL (f 11) (f (fv 10 1) 0) (fm - 1) = false) (hrw : rowB (f (fv 10 1) 0) 60 (f 11)) (hab : (abOK f)) (k0 : ∀ f1 : iF, (bit (f (fv 15 5) 0) 2 = true → ∀ j, fm ≤ j → j < (f (fv 10 1) 0) → f1 56 j = lgI (aC f) (f 11) (f (fv 10 1) 0) j) → (∀ j, 0 ≤ j → j < fm → f1 56 j = (f 56 j)) → Q none (mx [56] f f1) g) : wq d 143 [iR 54, iR 10, iI fm] f g Q := by
  obtain ⟨d, rfl⟩ : ∃ e, d = e + 1 := ⟨d - 1, by omega⟩
  refine i_meth [(20, 7), (46, 8)] (fun n j lv st f' g' => (j = 20 ∧ ∃ (en : Int) (bg : Int) (ct : Int) (i : Int) (f1 : iF), lv = [some (iR 54), some (iR 10), some (iI fm), some (iI en), some (iI bg), some (iI ct), some (iI i)] ∧ st = [] ∧ f' = (mx [56] f f1) ∧ g = g' ∧ (en = (f (fv 10 1) 0)) ∧ (∀ j, 0 ≤ j → j < fm → f1 56 j = f 56 j) ∧ (∀ j, fm ≤ j → j < bg → j < en → f1 56 j = lgI (aC f) (f 11) (f (fv 10 1) 0) j) ∧ (fm ≤ bg ∧ bg ≤ i ∧ i ≤ en + 1 ∧ 0 ≤ ct ∧ ct ≤ i) ∧ (en < i → bg = i) ∧ (i ≤ en → ct = lwI (aC f) (f 11) (f (fv 10 1) 0) i) ∧ (∀ j, bg ≤ j → j < i → isL (f 11) (f (fv 10 1) 0) j = true) ∧ (n : Int) = ((f (fv 10 1) 0) + 1 - i) * 64) ∨ (j = 46 ∧ ∃ (en : Int) (bg : Int) (ct : Int) (i : Int) (j : Int) (f1 : iF), lv = [some (iR 54), some (iR 10), some (iI fm), some (iI en), some (iI bg), some (iI ct), some (iI i), some (iI j)] ∧ st = [] ∧ f' = (mx [56] f f1) ∧ g = g' ∧ (en = (f (fv 10 1) 0)) ∧ (∀ j, 0 ≤ j → j < fm → f1 56 j = f 56 j) ∧ (∀ j, fm ≤ j → j < bg → j < en → f1 56 j = lgI (aC f) (f 11) (f (fv 10 1) 0) j) ∧ (fm ≤ bg ∧ bg ≤ j ∧ j ≤ i ∧ i ≤ en ∧ 0 ≤ ct ∧ ct ≤ i) ∧ (ct = lwI (aC f) (f 11) (f (fv 10 1) 0) i) ∧ (∀ j, bg ≤ j → j < i → isL (f 11) (f (fv 10 1) 0) j = true) ∧ (isL (f 11) (f (fv 10 1) 0) i = false) ∧ (∀ k, bg ≤ k → k < j → f1 56 k = ct) ∧ (n : Int) = ((f (fv 10 1) 0) + 1 - i) * 64 - (j - bg))) 3904 (by omega) rfl rfl (fun n j lv st f' g' hn hI O J hO hF hB => ?_) (fun hvs hin O J hO hF => ?_)
  · rcases hI with hI | hI
    · obtain ⟨rfl, en, bg, ct, i, f1, rfl, rfl, rfl, rfl, hen, hlo, hlg, hb, hbe, hct, hle, hm⟩ := hI
      have hrw1 := hrw.1
      refine ⟨fun (hh_1 : en < i) => ?_, fun (hh_1 : ¬ en < i) => ?_⟩
      · exact k0 f1 (fun _ j h0 h1 => hlg j h0 (by omega) (by omega)) hlo
      · refine ⟨fun (hh_2 : i < en) => ?_, fun (hh_2 : ¬ i < en) => ?_⟩
        · have hri := hrw.2 i (by omega) (by omega)
          refine hO (k_get_pg (by omega) (show 0 ≤ i ∧ i < 60 from by omega) ?_)
          refine hO (k_isLetter (by omega) (fun (hh_3 : 0 ≤ (f 11 i)) (hh_4 : (f 11 i) < 26) => ?_) (fun (hh_5 : ¬ (0 ≤ (f 11 i) ∧ (f 11 i) < 26)) => ?_))
          · have hli : isL (f 11) (f (fv 10 1) 0) i = true := isL_t.mpr ⟨by omega, by omega, by omega⟩
            refine ⟨fun h => absurd (show (1 : Int) = 0 from h) (by decide), fun _ => ?_⟩
            refine hO (k_get_pg (by omega) (show 0 ≤ i ∧ i < 60 from by omega) ?_)
            refine hO (k_isAble (by omega) (show (abOK f) from hab) (fun (hh_6 : (aC f) (f 11 i) = true) => ?_) (fun (hh_7 : (aC f) (f 11 i) = false) => ?_))
            · have hab0 := hh_6
              refine ⟨fun h => absurd (show (1 : Int) = 0 from h) (by decide), fun _ => ?_⟩
              refine Or.inl ⟨show inr (ct + 1) from by constructor <;> omega, ?_⟩
              refine ⟨show inr (i + 1) from by constructor <;> omega, ?_⟩
              refine hB (((f (fv 10 1) 0) + 1 - (i + 1)) * 64 : Int).toNat ?_ (Or.inl ⟨rfl, en, bg, (ct + 1), (i + 1), f1, rfl, rfl, rfl, rfl, ?_, ?_, ?_, ?_, ?_, ?_, ?_, ?_⟩)
              · omega
              · omega
              · exact hlo
              · exact hlg
              · omega
              · omega
              · intro h0
                rw [lwI_t (by omega) hli, hct (by omega), hab0]; rfl
              · intro j2 h0 h1
                by_cases e : j2 = i
                · rw [e]; exact hli
                · exact hle j2 h0 (by omega)
              · omega
            · have hab0 := hh_7
              refine ⟨fun _ => ?_, fun h => absurd (show (0 : Int) = 0 from by decide) h⟩
              refine Or.inl ⟨show inr (ct + 0) from by constructor <;> omega, ?_⟩
              refine ⟨show inr (i + 1) from by constructor <;> omega, ?_⟩
              refine hB (((f (fv 10 1) 0) + 1 - (i + 1)) * 64 : Int).toNat ?_ (Or.inl ⟨rfl, en, bg, (ct + 0), (i + 1), f1, rfl, rfl, rfl, rfl, ?_, ?_, ?_, ?_, ?_, ?_, ?_, ?_⟩)
              · omega
              · omega
              · exact hlo
              · exact hlg
              · omega
              · omega
              · intro h0
                rw [lwI_t (by omega) hli, hct (by omega), hab0]; rfl
              · intro j2 h0 h1
                by_cases e : j2 = i
                · rw [e]; exact hli
                · exact hle j2 h0 (by omega)
              · omega
          · refine ⟨fun _ => ?_, fun h => absurd (show (0 : Int) = 0 from by decide) h⟩
            refine hF (((f (fv 10 1) 0) + 1 - i) * 64 - (bg - bg) : Int).toNat ?_ (Or.inr (⟨rfl, en, bg, ct, i, bg, f1, rfl, rfl, rfl, rfl, ?_, ?_, ?_, ?_, ?_, ?_, ?_, ?_, ?_⟩))
            · omega
            · omega
            · exact hlo
            · exact hlg
            · omega
            · exact hct (by omega)
            · exact hle
            · exact isL_f.mpr (by omega)
            · intro k h0 h1; omega
            · omega
        · refine hF (((f (fv 10 1) 0) + 1 - i) * 64 - (bg - bg) : Int).toNat ?_ (Or.inr (⟨rfl, en, bg, ct, i, bg, f1, rfl, rfl, rfl, rfl, ?_, ?_, ?_, ?_, ?_, ?_, ?_, ?_, ?_⟩))
          · omega
          · omega
          · exact hlo
          · exact hlg
          · omega
          · exact hct (by omega)
          · exact hle
          · exact isL_f.mpr (by omega)
          · intro k h0 h1; omega
          · omega
    · obtain ⟨rfl, en, bg, ct, i, j, f1, rfl, rfl, rfl, rfl, hen, hlo, hlg, hb, hct, hle, hnl, hj, hm⟩ := hI
      have hrw1 := hrw.1
      have hrun : ∀ k, bg ≤ k → k < i → lgI (aC f) (f 11) (f (fv 10 1) 0) k = lwI (aC f) (f 11) (f (fv 10 1) 0) i := by
          intro k h0 h1
          have h2 := tot_run (ab := aC f) (row := (f 11)) (n := (f (fv 10 1) 0)) (a := k) (by omega) (i - k).toNat i (by omega) (fun q h3 h4 => hle q (by omega) h4)
          rw [rrI_f hnl] at h2
          unfold lgI
          rw [if_pos (hle k h0 h1)]
          omega
      refine ⟨fun (hh_8 : j < i) => ?_, fun (hh_8 : ¬ j < i) => ?_⟩
      · refine ⟨show 0 ≤ (j : Int) ∧ j < 60 from by omega, ?_⟩
        refine ⟨show inr (j + 1) from by constructor <;> omega, ?_⟩
        refine hB (((f (fv 10 1) 0) + 1 - i) * 64 - ((j + 1) - bg) : Int).toNat ?_ (Or.inr (⟨rfl, en, bg, ct, i, (j + 1), (wv f1 56 j ct), rfl, rfl, (mx_wv rfl rfl), rfl, ?_, ?_, ?_, ?_, ?_, ?_, ?_, ?_, ?_⟩))
        · omega
        · omega
        · intro j2 h0 h1
          rw [wv_k (by omega)]
          exact hlo j2 h0 h1
        · intro j2 h0 h1 h2
          rw [wv_k (by omega)]
          exact hlg j2 h0 h1 h2
        · omega
        · exact hct
        · exact hle
        · exact hnl
        · intro k h0 h1
          rw [wv_i]
          by_cases e : k = j
          · rw [if_pos e]
          · rw [if_neg e]; exact hj k h0 (by omega)
        · omega
      · refine ⟨fun (hh_9 : i < en) => ?_, fun (hh_9 : ¬ i < en) => ?_⟩
        · refine ⟨show 0 ≤ (i : Int) ∧ i < 60 from by omega, ?_⟩
          refine Or.inl ⟨show inr (i + 1) from by constructor <;> omega, ?_⟩
          refine ⟨show inr (i + 1) from by constructor <;> omega, ?_⟩
          refine hB (((f (fv 10 1) 0) + 1 - (i + 1)) * 64 : Int).toNat ?_ (Or.inl ⟨rfl, en, (i + 1), 0, (i + 1), (wv f1 56 i 0), rfl, rfl, (mx_wv rfl rfl), rfl, ?_, ?_, ?_, ?_, ?_, ?_, ?_, ?_⟩)
          · omega
          · omega
          · intro j2 h0 h1
            rw [wv_k (by omega)]
            exact hlo j2 h0 h1
          · intro j2 h0 h1 h2
            rw [wv_i]
            by_cases e0 : j2 = i
            · rw [if_pos e0, e0]; unfold lgI; rw [hnl]; rfl
            · rw [if_neg e0]
              by_cases e : j2 < bg
              · exact hlg j2 h0 e h2
              · rw [hj j2 (by omega) (by omega), hrun j2 (by omega) (by omega)]; omega
          · omega
          · omega
          · intro h0
            rw [lwI_f (by omega) hnl]
          · intro j2 h0 h1; omega
          · omega
        · refine Or.inl ⟨show inr (i + 1) from by constructor <;> omega, ?_⟩
          refine ⟨show inr (i + 1) from by constructor <;> omega, ?_⟩
          refine hB (((f (fv 10 1) 0) + 1 - (i + 1)) * 64 : Int).toNat ?_ (Or.inl ⟨rfl, en, (i + 1), 0, (i + 1), f1, rfl, rfl, rfl, rfl, ?_, ?_, ?_, ?_, ?_, ?_, ?_, ?_⟩)
          · omega
          · omega
          · exact hlo
          · intro j2 h0 h1 h2
            by_cases e : j2 < bg
            · exact hlg j2 h0 e h2
            · by_cases e2 : j2 < i
              · rw [hj j2 (by omega) (by omega), hrun j2 (by omega) e2]; omega
              · omega
          · omega
          · omega
          · intro h0
            rw [lwI_f (by omega) hnl]
          · intro j2 h0 h1; omega
          · omega
  · have hrw1 := hrw.1
    refine hO (k_asks (by omega) (fun (hh_10 : bit (f (fv 15 5) 0) 2 = true) => ?_) (fun (hh_11 : bit (f (fv 15 5) 0) 2 = false) => ?_))
    · refine ⟨fun h => absurd (show (1 : Int) = 0 from h) (by decide), fun _ => ?_⟩
      refine hF (((f (fv 10 1) 0) + 1 - (max fm 0)) * 64 : Int).toNat ?_ (Or.inl ⟨rfl, (min (f (fv 10 1) 0) 60), (max fm 0), 0, (max fm 0), f, rfl, rfl, mx_rf, rfl, ?_, ?_, ?_, ?_, ?_, ?_, ?_, ?_⟩)
      · omega
      · omega
      · exact fun _ _ _ => rfl
      · intro j h0 h1; omega
      · omega
      · omega
      · intro _
        rw [show max fm 0 = fm by omega]
        rcases hst with h | h
        · rw [h]; rfl
        · by_cases e : fm = 0
          · rw [e]; rfl
          · have := lwI_f (ab := aC f) (i := fm - 1) (by omega) h
            rw [show fm - 1 + 1 = fm by omega] at this
            rw [this]
      · intro j h0 h1; omega
      · omega
    · refine ⟨fun _ => ?_, fun h => absurd (show (0 : Int) = 0 from by decide) h⟩
      rw [show f = mx [56] f f from mx_rf]
      exact k0 f (fun h => by rw [‹bit _ _ = false›] at h; cases h) (fun _ _ _ => rfl)
set_option maxRecDepth 100000 in
set_option maxHeartbeats 4000000 in
theorem k_ahead_rm {i s : Int} (hd : 1 ≤ d) (hi : 0 ≤ i ∧ i < 12) (k0 : Q (some (iI (cI (fun k => decide ((f 65 k) = s)) i))) f g) : wq d 148 [iR 64, iI i, iI s] f g Q := by
  obtain ⟨d, rfl⟩ : ∃ e, d = e + 1 := ⟨d - 1, by omega⟩
  refine i_meth [(4, 5)] (fun n j lv st f' g' => (j = 4 ∧ ∃ (c : Int) (k : Int), lv = [some (iR 64), some (iI i), some (iI s), some (iI c), some (iI k)] ∧ st = [] ∧ f = f' ∧ g = g' ∧ (0 ≤ k ∧ k ≤ i ∧ 0 ≤ c ∧ c ≤ k) ∧ (c = cI (fun k => decide ((f 65 k) = s)) k) ∧ (n : Int) = i - k)) 60 (by omega) rfl rfl (fun n j lv st f' g' hn hI O J hO hF hB => ?_) (fun hvs hin O J hO hF => ?_)
  · obtain ⟨rfl, c, k, rfl, rfl, rfl, rfl, hk, hc, hm⟩ := hI
    refine ⟨fun (hh_1 : k < i) => ?_, fun (hh_1 : ¬ k < i) => ?_⟩
    · refine ⟨fun _ => ?_, fun h => absurd (show k < 12 from by omega) h⟩
      refine ⟨show 0 ≤ (k : Int) ∧ k < 12 from by omega, ?_⟩
      refine ⟨fun (hh_2 : f 65 k = s) => ?_, fun (hh_2 : ¬ f 65 k = s) => ?_⟩
      · refine ⟨show inr (c + 1) from by constructor <;> omega, ?_⟩
        refine ⟨show inr (k + 1) from by constructor <;> omega, ?_⟩
        refine hB (i - (k + 1) : Int).toNat ?_ ⟨rfl, (c + 1), (k + 1), rfl, rfl, rfl, rfl, ?_, ?_, ?_⟩
        · omega
        · omega
        · first | (rw [cI_t (by omega) (decide_eq_true ‹_ = _›)]; omega) | (rw [cI_f (by omega) (decide_eq_false ‹_›)]; omega)
        · omega
      · refine ⟨show inr (k + 1) from by constructor <;> omega, ?_⟩
        refine hB (i - (k + 1) : Int).toNat ?_ ⟨rfl, c, (k + 1), rfl, rfl, rfl, rfl, ?_, ?_, ?_⟩
        · omega
        · omega
        · first | (rw [cI_t (by omega) (decide_eq_true ‹_ = _›)]; omega) | (rw [cI_f (by omega) (decide_eq_false ‹_›)]; omega)
        · omega
    · rw [show k = i by omega] at hc
      rw [← hc] at k0
      exact k0
  · refine hF (i - 0 : Int).toNat ?_ ⟨rfl, 0, 0, rfl, rfl, rfl, rfl, ?_, ?_, ?_⟩
    · omega
    · omega
    · rfl
    · omega
set_option maxRecDepth 100000 in
set_option maxHeartbeats 4000000 in
theorem k_measure_rm {fm : Int} (hd : 2 ≤ d) (hfm : 0 ≤ fm ∧ fm ≤ (f (fv 64 1) 0)) (hst : fm = 0 ∨ isL (f 65) (f (fv 64 1) 0) (fm - 1) = false) (hrw : rowB (f (fv 64 1) 0) 12 (f 65)) (hab : (abOK f)) (k0 : ∀ f1 : iF, (bit (f (fv 15 5) 0) 2 = true → ∀ j, fm ≤ j → j < (f (fv 64 1) 0) → f1 56 j = lgI (aC f) (f 65) (f (fv 64 1) 0) j) → (∀ j, 0 ≤ j → j < fm → f1 56 j = (f 56 j)) → Q none (mx [56] f f1) g) : wq d 143 [iR 54, iR 64, iI fm] f g Q := by
  obtain ⟨d, rfl⟩ : ∃ e, d = e + 1 := ⟨d - 1, by omega⟩
  refine i_meth [(20, 7), (46, 8)] (fun n j lv st f' g' => (j = 20 ∧ ∃ (en : Int) (bg : Int) (ct : Int) (i : Int) (f1 : iF), lv = [some (iR 54), some (iR 64), some (iI fm), some (iI en), some (iI bg), some (iI ct), some (iI i)] ∧ st = [] ∧ f' = (mx [56] f f1) ∧ g = g' ∧ (en = (f (fv 64 1) 0)) ∧ (∀ j, 0 ≤ j → j < fm → f1 56 j = f 56 j) ∧ (∀ j, fm ≤ j → j < bg → j < en → f1 56 j = lgI (aC f) (f 65) (f (fv 64 1) 0) j) ∧ (fm ≤ bg ∧ bg ≤ i ∧ i ≤ en + 1 ∧ 0 ≤ ct ∧ ct ≤ i) ∧ (en < i → bg = i) ∧ (i ≤ en → ct = lwI (aC f) (f 65) (f (fv 64 1) 0) i) ∧ (∀ j, bg ≤ j → j < i → isL (f 65) (f (fv 64 1) 0) j = true) ∧ (n : Int) = ((f (fv 64 1) 0) + 1 - i) * 64) ∨ (j = 46 ∧ ∃ (en : Int) (bg : Int) (ct : Int) (i : Int) (j : Int) (f1 : iF), lv = [some (iR 54), some (iR 64), some (iI fm), some (iI en), some (iI bg), some (iI ct), some (iI i), some (iI j)] ∧ st = [] ∧ f' = (mx [56] f f1) ∧ g = g' ∧ (en = (f (fv 64 1) 0)) ∧ (∀ j, 0 ≤ j → j < fm → f1 56 j = f 56 j) ∧ (∀ j, fm ≤ j → j < bg → j < en → f1 56 j = lgI (aC f) (f 65) (f (fv 64 1) 0) j) ∧ (fm ≤ bg ∧ bg ≤ j ∧ j ≤ i ∧ i ≤ en ∧ 0 ≤ ct ∧ ct ≤ i) ∧ (ct = lwI (aC f) (f 65) (f (fv 64 1) 0) i) ∧ (∀ j, bg ≤ j → j < i → isL (f 65) (f (fv 64 1) 0) j = true) ∧ (isL (f 65) (f (fv 64 1) 0) i = false) ∧ (∀ k, bg ≤ k → k < j → f1 56 k = ct) ∧ (n : Int) = ((f (fv 64 1) 0) + 1 - i) * 64 - (j - bg))) 3904 (by omega) rfl rfl (fun n j lv st f' g' hn hI O J hO hF hB => ?_) (fun hvs hin O J hO hF => ?_)
  · rcases hI with hI | hI
    · obtain ⟨rfl, en, bg, ct, i, f1, rfl, rfl, rfl, rfl, hen, hlo, hlg, hb, hbe, hct, hle, hm⟩ := hI
      have hrw1 := hrw.1
      refine ⟨fun (hh_1 : en < i) => ?_, fun (hh_1 : ¬ en < i) => ?_⟩
      · exact k0 f1 (fun _ j h0 h1 => hlg j h0 (by omega) (by omega)) hlo
      · refine ⟨fun (hh_2 : i < en) => ?_, fun (hh_2 : ¬ i < en) => ?_⟩
        · have hri := hrw.2 i (by omega) (by omega)
          refine hO (k_get_rm (by omega) (show 0 ≤ i ∧ i < 12 from by omega) ?_)
          refine hO (k_isLetter (by omega) (fun (hh_3 : 0 ≤ (f 65 i)) (hh_4 : (f 65 i) < 26) => ?_) (fun (hh_5 : ¬ (0 ≤ (f 65 i) ∧ (f 65 i) < 26)) => ?_))
          · have hli : isL (f 65) (f (fv 64 1) 0) i = true := isL_t.mpr ⟨by omega, by omega, by omega⟩
            refine ⟨fun h => absurd (show (1 : Int) = 0 from h) (by decide), fun _ => ?_⟩
            refine hO (k_get_rm (by omega) (show 0 ≤ i ∧ i < 12 from by omega) ?_)
            refine hO (k_isAble (by omega) (show (abOK f) from hab) (fun (hh_6 : (aC f) (f 65 i) = true) => ?_) (fun (hh_7 : (aC f) (f 65 i) = false) => ?_))
            · have hab0 := hh_6
              refine ⟨fun h => absurd (show (1 : Int) = 0 from h) (by decide), fun _ => ?_⟩
              refine Or.inl ⟨show inr (ct + 1) from by constructor <;> omega, ?_⟩
              refine ⟨show inr (i + 1) from by constructor <;> omega, ?_⟩
              refine hB (((f (fv 64 1) 0) + 1 - (i + 1)) * 64 : Int).toNat ?_ (Or.inl ⟨rfl, en, bg, (ct + 1), (i + 1), f1, rfl, rfl, rfl, rfl, ?_, ?_, ?_, ?_, ?_, ?_, ?_, ?_⟩)
              · omega
              · omega
              · exact hlo
              · exact hlg
              · omega
              · omega
              · intro h0
                rw [lwI_t (by omega) hli, hct (by omega), hab0]; rfl
              · intro j2 h0 h1
                by_cases e : j2 = i
                · rw [e]; exact hli
                · exact hle j2 h0 (by omega)
              · omega
            · have hab0 := hh_7
              refine ⟨fun _ => ?_, fun h => absurd (show (0 : Int) = 0 from by decide) h⟩
              refine Or.inl ⟨show inr (ct + 0) from by constructor <;> omega, ?_⟩
              refine ⟨show inr (i + 1) from by constructor <;> omega, ?_⟩
              refine hB (((f (fv 64 1) 0) + 1 - (i + 1)) * 64 : Int).toNat ?_ (Or.inl ⟨rfl, en, bg, (ct + 0), (i + 1), f1, rfl, rfl, rfl, rfl, ?_, ?_, ?_, ?_, ?_, ?_, ?_, ?_⟩)
              · omega
              · omega
              · exact hlo
              · exact hlg
              · omega
              · omega
              · intro h0
                rw [lwI_t (by omega) hli, hct (by omega), hab0]; rfl
              · intro j2 h0 h1
                by_cases e : j2 = i
                · rw [e]; exact hli
                · exact hle j2 h0 (by omega)
              · omega
          · refine ⟨fun _ => ?_, fun h => absurd (show (0 : Int) = 0 from by decide) h⟩
            refine hF (((f (fv 64 1) 0) + 1 - i) * 64 - (bg - bg) : Int).toNat ?_ (Or.inr (⟨rfl, en, bg, ct, i, bg, f1, rfl, rfl, rfl, rfl, ?_, ?_, ?_, ?_, ?_, ?_, ?_, ?_, ?_⟩))
            · omega
            · omega
            · exact hlo
            · exact hlg
            · omega
            · exact hct (by omega)
            · exact hle
            · exact isL_f.mpr (by omega)
            · intro k h0 h1; omega
            · omega
        · refine hF (((f (fv 64 1) 0) + 1 - i) * 64 - (bg - bg) : Int).toNat ?_ (Or.inr (⟨rfl, en, bg, ct, i, bg, f1, rfl, rfl, rfl, rfl, ?_, ?_, ?_, ?_, ?_, ?_, ?_, ?_, ?_⟩))
          · omega
          · omega
          · exact hlo
          · exact hlg
          · omega
          · exact hct (by omega)
          · exact hle
          · exact isL_f.mpr (by omega)
          · intro k h0 h1; omega
          · omega
    · obtain ⟨rfl, en, bg, ct, i, j, f1, rfl, rfl, rfl, rfl, hen, hlo, hlg, hb, hct, hle, hnl, hj, hm⟩ := hI
      have hrw1 := hrw.1
      have hrun : ∀ k, bg ≤ k → k < i → lgI (aC f) (f 65) (f (fv 64 1) 0) k = lwI (aC f) (f 65) (f (fv 64 1) 0) i := by
          intro k h0 h1
          have h2 := tot_run (ab := aC f) (row := (f 65)) (n := (f (fv 64 1) 0)) (a := k) (by omega) (i - k).toNat i (by omega) (fun q h3 h4 => hle q (by omega) h4)
          rw [rrI_f hnl] at h2
          unfold lgI
          rw [if_pos (hle k h0 h1)]
          omega
      refine ⟨fun (hh_8 : j < i) => ?_, fun (hh_8 : ¬ j < i) => ?_⟩
      · refine ⟨show 0 ≤ (j : Int) ∧ j < 60 from by omega, ?_⟩
        refine ⟨show inr (j + 1) from by constructor <;> omega, ?_⟩
        refine hB (((f (fv 64 1) 0) + 1 - i) * 64 - ((j + 1) - bg) : Int).toNat ?_ (Or.inr (⟨rfl, en, bg, ct, i, (j + 1), (wv f1 56 j ct), rfl, rfl, (mx_wv rfl rfl), rfl, ?_, ?_, ?_, ?_, ?_, ?_, ?_, ?_, ?_⟩))
        · omega
        · omega
        · intro j2 h0 h1
          rw [wv_k (by omega)]
          exact hlo j2 h0 h1
        · intro j2 h0 h1 h2
          rw [wv_k (by omega)]
          exact hlg j2 h0 h1 h2
        · omega
        · exact hct
        · exact hle
        · exact hnl
        · intro k h0 h1
          rw [wv_i]
          by_cases e : k = j
          · rw [if_pos e]
          · rw [if_neg e]; exact hj k h0 (by omega)
        · omega
      · refine ⟨fun (hh_9 : i < en) => ?_, fun (hh_9 : ¬ i < en) => ?_⟩
        · refine ⟨show 0 ≤ (i : Int) ∧ i < 60 from by omega, ?_⟩
          refine Or.inl ⟨show inr (i + 1) from by constructor <;> omega, ?_⟩
          refine ⟨show inr (i + 1) from by constructor <;> omega, ?_⟩
          refine hB (((f (fv 64 1) 0) + 1 - (i + 1)) * 64 : Int).toNat ?_ (Or.inl ⟨rfl, en, (i + 1), 0, (i + 1), (wv f1 56 i 0), rfl, rfl, (mx_wv rfl rfl), rfl, ?_, ?_, ?_, ?_, ?_, ?_, ?_, ?_⟩)
          · omega
          · omega
          · intro j2 h0 h1
            rw [wv_k (by omega)]
            exact hlo j2 h0 h1
          · intro j2 h0 h1 h2
            rw [wv_i]
            by_cases e0 : j2 = i
            · rw [if_pos e0, e0]; unfold lgI; rw [hnl]; rfl
            · rw [if_neg e0]
              by_cases e : j2 < bg
              · exact hlg j2 h0 e h2
              · rw [hj j2 (by omega) (by omega), hrun j2 (by omega) (by omega)]; omega
          · omega
          · omega
          · intro h0
            rw [lwI_f (by omega) hnl]
          · intro j2 h0 h1; omega
          · omega
        · refine Or.inl ⟨show inr (i + 1) from by constructor <;> omega, ?_⟩
          refine ⟨show inr (i + 1) from by constructor <;> omega, ?_⟩
          refine hB (((f (fv 64 1) 0) + 1 - (i + 1)) * 64 : Int).toNat ?_ (Or.inl ⟨rfl, en, (i + 1), 0, (i + 1), f1, rfl, rfl, rfl, rfl, ?_, ?_, ?_, ?_, ?_, ?_, ?_, ?_⟩)
          · omega
          · omega
          · exact hlo
          · intro j2 h0 h1 h2
            by_cases e : j2 < bg
            · exact hlg j2 h0 e h2
            · by_cases e2 : j2 < i
              · rw [hj j2 (by omega) (by omega), hrun j2 (by omega) e2]; omega
              · omega
          · omega
          · omega
          · intro h0
            rw [lwI_f (by omega) hnl]
          · intro j2 h0 h1; omega
          · omega
  · have hrw1 := hrw.1
    refine hO (k_asks (by omega) (fun (hh_10 : bit (f (fv 15 5) 0) 2 = true) => ?_) (fun (hh_11 : bit (f (fv 15 5) 0) 2 = false) => ?_))
    · refine ⟨fun h => absurd (show (1 : Int) = 0 from h) (by decide), fun _ => ?_⟩
      refine hF (((f (fv 64 1) 0) + 1 - (max fm 0)) * 64 : Int).toNat ?_ (Or.inl ⟨rfl, (min (f (fv 64 1) 0) 60), (max fm 0), 0, (max fm 0), f, rfl, rfl, mx_rf, rfl, ?_, ?_, ?_, ?_, ?_, ?_, ?_, ?_⟩)
      · omega
      · omega
      · exact fun _ _ _ => rfl
      · intro j h0 h1; omega
      · omega
      · omega
      · intro _
        rw [show max fm 0 = fm by omega]
        rcases hst with h | h
        · rw [h]; rfl
        · by_cases e : fm = 0
          · rw [e]; rfl
          · have := lwI_f (ab := aC f) (i := fm - 1) (by omega) h
            rw [show fm - 1 + 1 = fm by omega] at this
            rw [this]
      · intro j h0 h1; omega
      · omega
    · refine ⟨fun _ => ?_, fun h => absurd (show (0 : Int) = 0 from by decide) h⟩
      rw [show f = mx [56] f f from mx_rf]
      exact k0 f (fun h => by rw [‹bit _ _ = false›] at h; cases h) (fun _ _ _ => rfl)
set_option maxRecDepth 100000 in
set_option maxHeartbeats 4000000 in
theorem k_ahead_bk {i s : Int} (hd : 1 ≤ d) (hi : 0 ≤ i ∧ i < 60) (k0 : Q (some (iI (cI (fun k => decide ((f 75 k) = s)) i))) f g) : wq d 148 [iR 74, iI i, iI s] f g Q := by
  obtain ⟨d, rfl⟩ : ∃ e, d = e + 1 := ⟨d - 1, by omega⟩
  refine i_meth [(4, 5)] (fun n j lv st f' g' => (j = 4 ∧ ∃ (c : Int) (k : Int), lv = [some (iR 74), some (iI i), some (iI s), some (iI c), some (iI k)] ∧ st = [] ∧ f = f' ∧ g = g' ∧ (0 ≤ k ∧ k ≤ i ∧ 0 ≤ c ∧ c ≤ k) ∧ (c = cI (fun k => decide ((f 75 k) = s)) k) ∧ (n : Int) = i - k)) 60 (by omega) rfl rfl (fun n j lv st f' g' hn hI O J hO hF hB => ?_) (fun hvs hin O J hO hF => ?_)
  · obtain ⟨rfl, c, k, rfl, rfl, rfl, rfl, hk, hc, hm⟩ := hI
    refine ⟨fun (hh_1 : k < i) => ?_, fun (hh_1 : ¬ k < i) => ?_⟩
    · refine ⟨fun _ => ?_, fun h => absurd (show k < 60 from by omega) h⟩
      refine ⟨show 0 ≤ (k : Int) ∧ k < 60 from by omega, ?_⟩
      refine ⟨fun (hh_2 : f 75 k = s) => ?_, fun (hh_2 : ¬ f 75 k = s) => ?_⟩
      · refine ⟨show inr (c + 1) from by constructor <;> omega, ?_⟩
        refine ⟨show inr (k + 1) from by constructor <;> omega, ?_⟩
        refine hB (i - (k + 1) : Int).toNat ?_ ⟨rfl, (c + 1), (k + 1), rfl, rfl, rfl, rfl, ?_, ?_, ?_⟩
        · omega
        · omega
        · first | (rw [cI_t (by omega) (decide_eq_true ‹_ = _›)]; omega) | (rw [cI_f (by omega) (decide_eq_false ‹_›)]; omega)
        · omega
      · refine ⟨show inr (k + 1) from by constructor <;> omega, ?_⟩
        refine hB (i - (k + 1) : Int).toNat ?_ ⟨rfl, c, (k + 1), rfl, rfl, rfl, rfl, ?_, ?_, ?_⟩
        · omega
        · omega
        · first | (rw [cI_t (by omega) (decide_eq_true ‹_ = _›)]; omega) | (rw [cI_f (by omega) (decide_eq_false ‹_›)]; omega)
        · omega
    · rw [show k = i by omega] at hc
      rw [← hc] at k0
      exact k0
  · refine hF (i - 0 : Int).toNat ?_ ⟨rfl, 0, 0, rfl, rfl, rfl, rfl, ?_, ?_, ?_⟩
    · omega
    · omega
    · rfl
    · omega
set_option maxRecDepth 100000 in
set_option maxHeartbeats 4000000 in
theorem k_measure_bk {fm : Int} (hd : 2 ≤ d) (hfm : 0 ≤ fm ∧ fm ≤ (f (fv 74 1) 0)) (hst : fm = 0 ∨ isL (f 75) (f (fv 74 1) 0) (fm - 1) = false) (hrw : rowB (f (fv 74 1) 0) 60 (f 75)) (hab : (abOK f)) (k0 : ∀ f1 : iF, (bit (f (fv 15 5) 0) 2 = true → ∀ j, fm ≤ j → j < (f (fv 74 1) 0) → f1 56 j = lgI (aC f) (f 75) (f (fv 74 1) 0) j) → (∀ j, 0 ≤ j → j < fm → f1 56 j = (f 56 j)) → Q none (mx [56] f f1) g) : wq d 143 [iR 54, iR 74, iI fm] f g Q := by
  obtain ⟨d, rfl⟩ : ∃ e, d = e + 1 := ⟨d - 1, by omega⟩
  refine i_meth [(20, 7), (46, 8)] (fun n j lv st f' g' => (j = 20 ∧ ∃ (en : Int) (bg : Int) (ct : Int) (i : Int) (f1 : iF), lv = [some (iR 54), some (iR 74), some (iI fm), some (iI en), some (iI bg), some (iI ct), some (iI i)] ∧ st = [] ∧ f' = (mx [56] f f1) ∧ g = g' ∧ (en = (f (fv 74 1) 0)) ∧ (∀ j, 0 ≤ j → j < fm → f1 56 j = f 56 j) ∧ (∀ j, fm ≤ j → j < bg → j < en → f1 56 j = lgI (aC f) (f 75) (f (fv 74 1) 0) j) ∧ (fm ≤ bg ∧ bg ≤ i ∧ i ≤ en + 1 ∧ 0 ≤ ct ∧ ct ≤ i) ∧ (en < i → bg = i) ∧ (i ≤ en → ct = lwI (aC f) (f 75) (f (fv 74 1) 0) i) ∧ (∀ j, bg ≤ j → j < i → isL (f 75) (f (fv 74 1) 0) j = true) ∧ (n : Int) = ((f (fv 74 1) 0) + 1 - i) * 64) ∨ (j = 46 ∧ ∃ (en : Int) (bg : Int) (ct : Int) (i : Int) (j : Int) (f1 : iF), lv = [some (iR 54), some (iR 74), some (iI fm), some (iI en), some (iI bg), some (iI ct), some (iI i), some (iI j)] ∧ st = [] ∧ f' = (mx [56] f f1) ∧ g = g' ∧ (en = (f (fv 74 1) 0)) ∧ (∀ j, 0 ≤ j → j < fm → f1 56 j = f 56 j) ∧ (∀ j, fm ≤ j → j < bg → j < en → f1 56 j = lgI (aC f) (f 75) (f (fv 74 1) 0) j) ∧ (fm ≤ bg ∧ bg ≤ j ∧ j ≤ i ∧ i ≤ en ∧ 0 ≤ ct ∧ ct ≤ i) ∧ (ct = lwI (aC f) (f 75) (f (fv 74 1) 0) i) ∧ (∀ j, bg ≤ j → j < i → isL (f 75) (f (fv 74 1) 0) j = true) ∧ (isL (f 75) (f (fv 74 1) 0) i = false) ∧ (∀ k, bg ≤ k → k < j → f1 56 k = ct) ∧ (n : Int) = ((f (fv 74 1) 0) + 1 - i) * 64 - (j - bg))) 3904 (by omega) rfl rfl (fun n j lv st f' g' hn hI O J hO hF hB => ?_) (fun hvs hin O J hO hF => ?_)
  · rcases hI with hI | hI
    · obtain ⟨rfl, en, bg, ct, i, f1, rfl, rfl, rfl, rfl, hen, hlo, hlg, hb, hbe, hct, hle, hm⟩ := hI
      have hrw1 := hrw.1
      refine ⟨fun (hh_1 : en < i) => ?_, fun (hh_1 : ¬ en < i) => ?_⟩
      · exact k0 f1 (fun _ j h0 h1 => hlg j h0 (by omega) (by omega)) hlo
      · refine ⟨fun (hh_2 : i < en) => ?_, fun (hh_2 : ¬ i < en) => ?_⟩
        · have hri := hrw.2 i (by omega) (by omega)
          refine hO (k_get_bk (by omega) (show 0 ≤ i ∧ i < 60 from by omega) ?_)
          refine hO (k_isLetter (by omega) (fun (hh_3 : 0 ≤ (f 75 i)) (hh_4 : (f 75 i) < 26) => ?_) (fun (hh_5 : ¬ (0 ≤ (f 75 i) ∧ (f 75 i) < 26)) => ?_))
          · have hli : isL (f 75) (f (fv 74 1) 0) i = true := isL_t.mpr ⟨by omega, by omega, by omega⟩
            refine ⟨fun h => absurd (show (1 : Int) = 0 from h) (by decide), fun _ => ?_⟩
            refine hO (k_get_bk (by omega) (show 0 ≤ i ∧ i < 60 from by omega) ?_)
            refine hO (k_isAble (by omega) (show (abOK f) from hab) (fun (hh_6 : (aC f) (f 75 i) = true) => ?_) (fun (hh_7 : (aC f) (f 75 i) = false) => ?_))
            · have hab0 := hh_6
              refine ⟨fun h => absurd (show (1 : Int) = 0 from h) (by decide), fun _ => ?_⟩
              refine Or.inl ⟨show inr (ct + 1) from by constructor <;> omega, ?_⟩
              refine ⟨show inr (i + 1) from by constructor <;> omega, ?_⟩
              refine hB (((f (fv 74 1) 0) + 1 - (i + 1)) * 64 : Int).toNat ?_ (Or.inl ⟨rfl, en, bg, (ct + 1), (i + 1), f1, rfl, rfl, rfl, rfl, ?_, ?_, ?_, ?_, ?_, ?_, ?_, ?_⟩)
              · omega
              · omega
              · exact hlo
              · exact hlg
              · omega
              · omega
              · intro h0
                rw [lwI_t (by omega) hli, hct (by omega), hab0]; rfl
              · intro j2 h0 h1
                by_cases e : j2 = i
                · rw [e]; exact hli
                · exact hle j2 h0 (by omega)
              · omega
            · have hab0 := hh_7
              refine ⟨fun _ => ?_, fun h => absurd (show (0 : Int) = 0 from by decide) h⟩
              refine Or.inl ⟨show inr (ct + 0) from by constructor <;> omega, ?_⟩
              refine ⟨show inr (i + 1) from by constructor <;> omega, ?_⟩
              refine hB (((f (fv 74 1) 0) + 1 - (i + 1)) * 64 : Int).toNat ?_ (Or.inl ⟨rfl, en, bg, (ct + 0), (i + 1), f1, rfl, rfl, rfl, rfl, ?_, ?_, ?_, ?_, ?_, ?_, ?_, ?_⟩)
              · omega
              · omega
              · exact hlo
              · exact hlg
              · omega
              · omega
              · intro h0
                rw [lwI_t (by omega) hli, hct (by omega), hab0]; rfl
              · intro j2 h0 h1
                by_cases e : j2 = i
                · rw [e]; exact hli
                · exact hle j2 h0 (by omega)
              · omega
          · refine ⟨fun _ => ?_, fun h => absurd (show (0 : Int) = 0 from by decide) h⟩
            refine hF (((f (fv 74 1) 0) + 1 - i) * 64 - (bg - bg) : Int).toNat ?_ (Or.inr (⟨rfl, en, bg, ct, i, bg, f1, rfl, rfl, rfl, rfl, ?_, ?_, ?_, ?_, ?_, ?_, ?_, ?_, ?_⟩))
            · omega
            · omega
            · exact hlo
            · exact hlg
            · omega
            · exact hct (by omega)
            · exact hle
            · exact isL_f.mpr (by omega)
            · intro k h0 h1; omega
            · omega
        · refine hF (((f (fv 74 1) 0) + 1 - i) * 64 - (bg - bg) : Int).toNat ?_ (Or.inr (⟨rfl, en, bg, ct, i, bg, f1, rfl, rfl, rfl, rfl, ?_, ?_, ?_, ?_, ?_, ?_, ?_, ?_, ?_⟩))
          · omega
          · omega
          · exact hlo
          · exact hlg
          · omega
          · exact hct (by omega)
          · exact hle
          · exact isL_f.mpr (by omega)
          · intro k h0 h1; omega
          · omega
    · obtain ⟨rfl, en, bg, ct, i, j, f1, rfl, rfl, rfl, rfl, hen, hlo, hlg, hb, hct, hle, hnl, hj, hm⟩ := hI
      have hrw1 := hrw.1
      have hrun : ∀ k, bg ≤ k → k < i → lgI (aC f) (f 75) (f (fv 74 1) 0) k = lwI (aC f) (f 75) (f (fv 74 1) 0) i := by
          intro k h0 h1
          have h2 := tot_run (ab := aC f) (row := (f 75)) (n := (f (fv 74 1) 0)) (a := k) (by omega) (i - k).toNat i (by omega) (fun q h3 h4 => hle q (by omega) h4)
          rw [rrI_f hnl] at h2
          unfold lgI
          rw [if_pos (hle k h0 h1)]
          omega
      refine ⟨fun (hh_8 : j < i) => ?_, fun (hh_8 : ¬ j < i) => ?_⟩
      · refine ⟨show 0 ≤ (j : Int) ∧ j < 60 from by omega, ?_⟩
        refine ⟨show inr (j + 1) from by constructor <;> omega, ?_⟩
        refine hB (((f (fv 74 1) 0) + 1 - i) * 64 - ((j + 1) - bg) : Int).toNat ?_ (Or.inr (⟨rfl, en, bg, ct, i, (j + 1), (wv f1 56 j ct), rfl, rfl, (mx_wv rfl rfl), rfl, ?_, ?_, ?_, ?_, ?_, ?_, ?_, ?_, ?_⟩))
        · omega
        · omega
        · intro j2 h0 h1
          rw [wv_k (by omega)]
          exact hlo j2 h0 h1
        · intro j2 h0 h1 h2
          rw [wv_k (by omega)]
          exact hlg j2 h0 h1 h2
        · omega
        · exact hct
        · exact hle
        · exact hnl
        · intro k h0 h1
          rw [wv_i]
          by_cases e : k = j
          · rw [if_pos e]
          · rw [if_neg e]; exact hj k h0 (by omega)
        · omega
      · refine ⟨fun (hh_9 : i < en) => ?_, fun (hh_9 : ¬ i < en) => ?_⟩
        · refine ⟨show 0 ≤ (i : Int) ∧ i < 60 from by omega, ?_⟩
          refine Or.inl ⟨show inr (i + 1) from by constructor <;> omega, ?_⟩
          refine ⟨show inr (i + 1) from by constructor <;> omega, ?_⟩
          refine hB (((f (fv 74 1) 0) + 1 - (i + 1)) * 64 : Int).toNat ?_ (Or.inl ⟨rfl, en, (i + 1), 0, (i + 1), (wv f1 56 i 0), rfl, rfl, (mx_wv rfl rfl), rfl, ?_, ?_, ?_, ?_, ?_, ?_, ?_, ?_⟩)
          · omega
          · omega
          · intro j2 h0 h1
            rw [wv_k (by omega)]
            exact hlo j2 h0 h1
          · intro j2 h0 h1 h2
            rw [wv_i]
            by_cases e0 : j2 = i
            · rw [if_pos e0, e0]; unfold lgI; rw [hnl]; rfl
            · rw [if_neg e0]
              by_cases e : j2 < bg
              · exact hlg j2 h0 e h2
              · rw [hj j2 (by omega) (by omega), hrun j2 (by omega) (by omega)]; omega
          · omega
          · omega
          · intro h0
            rw [lwI_f (by omega) hnl]
          · intro j2 h0 h1; omega
          · omega
        · refine Or.inl ⟨show inr (i + 1) from by constructor <;> omega, ?_⟩
          refine ⟨show inr (i + 1) from by constructor <;> omega, ?_⟩
          refine hB (((f (fv 74 1) 0) + 1 - (i + 1)) * 64 : Int).toNat ?_ (Or.inl ⟨rfl, en, (i + 1), 0, (i + 1), f1, rfl, rfl, rfl, rfl, ?_, ?_, ?_, ?_, ?_, ?_, ?_, ?_⟩)
          · omega
          · omega
          · exact hlo
          · intro j2 h0 h1 h2
            by_cases e : j2 < bg
            · exact hlg j2 h0 e h2
            · by_cases e2 : j2 < i
              · rw [hj j2 (by omega) (by omega), hrun j2 (by omega) e2]; omega
              · omega
          · omega
          · omega
          · intro h0
            rw [lwI_f (by omega) hnl]
          · intro j2 h0 h1; omega
          · omega
  · have hrw1 := hrw.1
    refine hO (k_asks (by omega) (fun (hh_10 : bit (f (fv 15 5) 0) 2 = true) => ?_) (fun (hh_11 : bit (f (fv 15 5) 0) 2 = false) => ?_))
    · refine ⟨fun h => absurd (show (1 : Int) = 0 from h) (by decide), fun _ => ?_⟩
      refine hF (((f (fv 74 1) 0) + 1 - (max fm 0)) * 64 : Int).toNat ?_ (Or.inl ⟨rfl, (min (f (fv 74 1) 0) 60), (max fm 0), 0, (max fm 0), f, rfl, rfl, mx_rf, rfl, ?_, ?_, ?_, ?_, ?_, ?_, ?_, ?_⟩)
      · omega
      · omega
      · exact fun _ _ _ => rfl
      · intro j h0 h1; omega
      · omega
      · omega
      · intro _
        rw [show max fm 0 = fm by omega]
        rcases hst with h | h
        · rw [h]; rfl
        · by_cases e : fm = 0
          · rw [e]; rfl
          · have := lwI_f (ab := aC f) (i := fm - 1) (by omega) h
            rw [show fm - 1 + 1 = fm by omega] at this
            rw [this]
      · intro j h0 h1; omega
      · omega
    · refine ⟨fun _ => ?_, fun h => absurd (show (0 : Int) = 0 from by decide) h⟩
      rw [show f = mx [56] f f from mx_rf]
      exact k0 f (fun h => by rw [‹bit _ _ = false›] at h; cases h) (fun _ _ _ => rfl)
end C7
end
section
/-! ===== remembered pays: the keys ===== -/
def n64 (x : Int64) : Nat := x.toBitVec.toNat
theorem n64_inj {x y : Int64} (h : n64 x = n64 y) : x = y := Int64.toBitVec_inj.1 (BitVec.eq_of_toNat_eq h)
theorem n64_toInt {z : Int64} (h : 0 ≤ z.toInt) : n64 z = z.toInt.toNat := by
  have e : z.toInt = z.toBitVec.toInt := rfl
  rw [e] at h ⊢
  rw [BitVec.toInt_eq_toNat_cond] at h ⊢
  have hl := z.toBitVec.isLt
  unfold n64
  split at h
  · rename_i h2
    rw [if_pos h2]; omega
  · omega
theorem n64_i2l {y : Int} (h0 : 0 ≤ y) (h1 : y ≤ 2147483647) : n64 (b_i2l y) = y.toNat := by
  have e : (b_i2l y).toInt = y := by
    unfold b_i2l
    rw [Int32.toInt_toInt64, ofI_toInt ⟨by omega, by omega⟩]
  rw [n64_toInt (by omega), e]
theorem n64_shor {x : Int64} {y s : Int} {n t : Nat} (ht : (((Int32.ofInt s).toInt64 &&& 63).toBitVec.smod 64).toNat = t) (hx : n64 x = n) (hn : n * 2 ^ t < 2 ^ 62) (hy : 0 ≤ y) (hy2 : y < 2 ^ t) (ht7 : t ≤ 7) : n64 (b_shlL x s ||| b_i2l y) = n * 2 ^ t + y.toNat := by
  have e1 : n64 (b_shlL x s) = n * 2 ^ t := by
    show (x.toBitVec <<< (((Int32.ofInt s).toInt64 &&& 63).toBitVec.smod 64)).toNat = _
    rw [BitVec.shiftLeft_eq', BitVec.toNat_shiftLeft, ht, Nat.shiftLeft_eq, show x.toBitVec.toNat = n from hx, Nat.mod_eq_of_lt (by omega)]
  have ht2 : (2 : Nat) ^ t ≤ 128 := Nat.pow_le_pow_right (by decide) ht7
  have hy3 : y.toNat < 2 ^ t := by
    have : ((2 ^ t : Nat) : Int) = (2 : Int) ^ t := by simp
    omega
  have e2 : n64 (b_i2l y) = y.toNat := n64_i2l hy (by
    have : ((2 ^ t : Nat) : Int) = (2 : Int) ^ t := by simp
    omega)
  show ((b_shlL x s).toBitVec ||| (b_i2l y).toBitVec).toNat = _
  rw [BitVec.toNat_or, show (b_shlL x s).toBitVec.toNat = n * 2 ^ t from e1, show (b_i2l y).toBitVec.toNat = y.toNat from e2, ← Nat.shiftLeft_eq, Nat.shiftLeft_add_eq_or_of_lt hy3]
theorem n64_ushr (x : Int64) : n64 (b_ushrL x 7) = n64 x / 128 := by
  show (x.toBitVec >>> (((Int32.ofInt 7).toInt64.toUInt64 &&& Int64.toUInt64 63) % 64).toBitVec).toNat = _
  rw [BitVec.ushiftRight_eq', BitVec.toNat_ushiftRight, show (((Int32.ofInt 7).toInt64.toUInt64 &&& Int64.toUInt64 63) % 64).toBitVec.toNat = 7 by decide, Nat.shiftRight_eq_div_pow]
  rfl
theorem n64_and (x : Int64) : n64 (x &&& Int64.ofInt 127) = n64 x % 128 := by
  show (x.toBitVec &&& (Int64.ofInt 127).toBitVec).toNat = _
  rw [BitVec.toNat_and, show (Int64.ofInt 127).toBitVec.toNat = 2 ^ 7 - 1 by decide, Nat.and_two_pow_sub_one_eq_mod]
  rfl
theorem l2i_n64 {x : Int64} (h : n64 x < 128) : b_l2i x = (n64 x : Int) := by
  have e : x.toInt = (n64 x : Int) := by
    show x.toBitVec.toInt = _
    rw [BitVec.toInt_eq_toNat_cond, if_pos (by unfold n64 at h; omega)]
    rfl
  unfold b_l2i
  rw [Int64.toInt_toInt32, e]
  unfold Int.bmod
  rw [show ((2 ^ 32 : Nat) : Int) = 4294967296 by decide]
  dsimp only
  rw [Int.emod_eq_of_lt (by omega) (by omega), if_pos (by omega)]
theorem lcmp_0 {x y : Int64} : (lg_cmp x y).toInt = 0 ↔ x = y := by
  unfold lg_cmp
  by_cases h : x = y
  · subst h
    rw [if_neg (Int64.lt_irrefl), if_pos rfl]
    exact ⟨fun _ => rfl, fun _ => rfl⟩
  · rw [if_neg h]
    refine ⟨fun e => ?_, fun e => absurd e h⟩
    split at e <;> exact absurd e (by decide)
/-- the key of facts -/
def keyL (fa : Int → Int) : Int64 := b_shlL (b_shlL (b_shlL (b_shlL (b_shlL (b_shlL (b_i2l (fa 6)) 5 ||| b_i2l (fa 0)) 6 ||| b_i2l (fa 2)) 6 ||| b_i2l (fa 3)) 4 ||| b_i2l (fa 5)) 5 ||| b_i2l (fa 7)) 1 ||| b_i2l (fa 8)
def kN (fa : Int → Int) : Nat := ((((((fa 6).toNat * 32 + (fa 0).toNat) * 64 + (fa 2).toNat) * 64 + (fa 3).toNat) * 16 + (fa 5).toNat) * 32 + (fa 7).toNat) * 2 + (fa 8).toNat
def fok (fa : Int → Int) : Prop := (0 ≤ fa 6 ∧ fa 6 ≤ 9999) ∧ (0 ≤ fa 0 ∧ fa 0 < 32) ∧ (0 ≤ fa 2 ∧ fa 2 < 64) ∧ (0 ≤ fa 3 ∧ fa 3 < 64) ∧ (0 ≤ fa 5 ∧ fa 5 < 16) ∧ (0 ≤ fa 7 ∧ fa 7 < 32) ∧ (0 ≤ fa 8 ∧ fa 8 < 2) ∧ fa 4 = b1 (vwl (fa 0))
theorem kN_lt {fa : Int → Int} (h : fok fa) : kN fa < 2 ^ 41 := by
  obtain ⟨h6, h0, h2, h3, h5, h7, h8, -⟩ := h
  unfold kN
  omega
theorem keyL_n {fa : Int → Int} (h : fok fa) : n64 (keyL fa) = kN fa := by
  obtain ⟨h6, h0, h2, h3, h5, h7, h8, -⟩ := h
  have e0 := n64_i2l h6.1 (by omega)
  have e1 := n64_shor (s := 5) (t := 5) (by decide) e0 (by omega) h0.1 (by omega) (by decide)
  have e2 := n64_shor (s := 6) (t := 6) (by decide) e1 (by omega) h2.1 (by omega) (by decide)
  have e3 := n64_shor (s := 6) (t := 6) (by decide) e2 (by omega) h3.1 (by omega) (by decide)
  have e4 := n64_shor (s := 4) (t := 4) (by decide) e3 (by omega) h5.1 (by omega) (by decide)
  have e5 := n64_shor (s := 5) (t := 5) (by decide) e4 (by omega) h7.1 (by omega) (by decide)
  have e6 := n64_shor (s := 1) (t := 1) (by decide) e5 (by omega) h8.1 (by omega) (by decide)
  unfold keyL kN
  rw [e6]
theorem peel2 {a b c e : Nat} (h : a * 2 + b = c * 2 + e) (h1 : b < 2) (h2 : e < 2) : a = c ∧ b = e := by omega
theorem peel16 {a b c e : Nat} (h : a * 16 + b = c * 16 + e) (h1 : b < 16) (h2 : e < 16) : a = c ∧ b = e := by omega
theorem peel32 {a b c e : Nat} (h : a * 32 + b = c * 32 + e) (h1 : b < 32) (h2 : e < 32) : a = c ∧ b = e := by omega
theorem peel64 {a b c e : Nat} (h : a * 64 + b = c * 64 + e) (h1 : b < 64) (h2 : e < 64) : a = c ∧ b = e := by omega
theorem toN_eq {x y : Int} (hx : 0 ≤ x) (hy : 0 ≤ y) (h : x.toNat = y.toNat) : x = y := by omega
theorem toN_lt {x : Int} {m : Nat} (hx : 0 ≤ x) (h : x < m) : x.toNat < m := by omega
theorem kN_inj {fa fb : Int → Int} (ha : fok fa) (hb : fok fb) (h1 : fa 1 = fb 1) (h : kN fa = kN fb) : ∀ k, 0 ≤ k → k ≤ 8 → fa k = fb k := by
  obtain ⟨a6, a0, a2, a3, a5, a7, a8, a4⟩ := ha
  obtain ⟨c6, c0, c2, c3, c5, c7, c8, c4⟩ := hb
  unfold kN at h
  obtain ⟨h, q8⟩ := peel2 h (toN_lt a8.1 a8.2) (toN_lt c8.1 c8.2)
  obtain ⟨h, q7⟩ := peel32 h (toN_lt a7.1 a7.2) (toN_lt c7.1 c7.2)
  obtain ⟨h, q5⟩ := peel16 h (toN_lt a5.1 a5.2) (toN_lt c5.1 c5.2)
  obtain ⟨h, q3⟩ := peel64 h (toN_lt a3.1 a3.2) (toN_lt c3.1 c3.2)
  obtain ⟨h, q2⟩ := peel64 h (toN_lt a2.1 a2.2) (toN_lt c2.1 c2.2)
  obtain ⟨q6, q0⟩ := peel32 h (toN_lt a0.1 a0.2) (toN_lt c0.1 c0.2)
  have q0 := toN_eq a0.1 c0.1 q0
  intro k hk hk8
  have : k = 0 ∨ k = 1 ∨ k = 2 ∨ k = 3 ∨ k = 4 ∨ k = 5 ∨ k = 6 ∨ k = 7 ∨ k = 8 := by clear h q8 q7 q5 q3 q2 q6 q0; omega
  rcases this with e | e | e | e | e | e | e | e | e <;> subst e
  · exact q0
  · exact h1
  · exact toN_eq a2.1 c2.1 q2
  · exact toN_eq a3.1 c3.1 q3
  · rw [a4, c4, q0]
  · exact toN_eq a5.1 c5.1 q5
  · exact toN_eq a6.1 c6.1 q6
  · exact toN_eq a7.1 c7.1 q7
  · exact toN_eq a8.1 c8.1 q8
theorem payM_cg {fa fb : Int → Int} (h : ∀ k, 0 ≤ k → k ≤ 8 → fa k = fb k) : ∀ w : Lw, payM fa w = payM fb w
  | [] => rfl
  | q :: r => by rw [payM, payM, ev_cg h, ev_cg h, payM_cg h r]
/-- pays that are remembered are right -/
def mOK (w : Lw) (g : iG) : Prop := ∀ c : Int, 0 ≤ c → c < 384 → n64 (g 59 c) = 2 ^ 64 - 1 ∨ ∃ fa, fok fa ∧ fa 1 = c / 32 ∧ n64 (g 59 c) = kN fa * 128 + (payM fa w).toNat
theorem mOK_hit {w : Lw} {g : iG} {fa : Int → Int} {c : Int} (h : mOK w g) (h0 : 0 ≤ c) (h1 : c < 384) (hf : fok fa) (hc : fa 1 = c / 32) (he : b_ushrL (g 59 c) 7 = keyL fa) : b_l2i (g 59 c &&& Int64.ofInt 127) = payM fa w := by
  have e1 : n64 (g 59 c) / 128 = kN fa := by rw [← n64_ushr, he, keyL_n hf]
  have hl := kN_lt hf
  rcases h c h0 h1 with h2 | ⟨fb, hb1, hb2, hb3⟩
  · rw [h2] at e1; omega
  · have hp := payM_r fb w
    have e2 : kN fb = kN fa := by rw [hb3] at e1; omega
    have e3 := payM_cg (kN_inj hb1 hf (hb2.trans hc.symm) e2) w
    have e4 : n64 (g 59 c &&& Int64.ofInt 127) = (payM fb w).toNat := by rw [n64_and, hb3]; omega
    rw [l2i_n64 (by omega), e4, ← e3]
    omega
theorem mOK_put {w : Lw} {g : iG} {fa : Int → Int} {c : Int} (h : mOK w g) (h0 : 0 ≤ c) (h1 : c < 384) (hf : fok fa) (hc : fa 1 = c / 32) : mOK w (wg g 59 c (b_shlL (keyL fa) 7 ||| b_i2l (payM fa w))) ∧ b_l2i (wg g 59 c (b_shlL (keyL fa) 7 ||| b_i2l (payM fa w)) 59 c &&& Int64.ofInt 127) = payM fa w := by
  have hl := kN_lt hf
  have hp := payM_r fa w
  have e := n64_shor (s := 7) (t := 7) (y := payM fa w) (by decide) (keyL_n hf) (by omega) hp.1 (by omega) (by decide)
  have e0 : wg g 59 c (b_shlL (keyL fa) 7 ||| b_i2l (payM fa w)) 59 c = b_shlL (keyL fa) 7 ||| b_i2l (payM fa w) := by unfold wg; rw [if_pos ⟨rfl, rfl⟩]
  refine ⟨fun k k0 k1 => ?_, ?_⟩
  · by_cases ek : k = c
    · subst ek
      rw [e0]
      exact Or.inr ⟨fa, hf, hc, e⟩
    · have : wg g 59 c (b_shlL (keyL fa) 7 ||| b_i2l (payM fa w)) 59 k = g 59 k := by unfold wg; rw [if_neg (fun h => ek h.2)]
      rw [this]
      exact h k k0 k1
  · rw [e0]
    have e4 : n64 ((b_shlL (keyL fa) 7 ||| b_i2l (payM fa w)) &&& Int64.ofInt 127) = (payM fa w).toNat := by rw [n64_and, e]; omega
    rw [l2i_n64 (by omega), e4]
    omega
/-- all that the law asks is marked -/
def lwask (m : Int) (w : Lw) : Prop := ∀ q ∈ w, ∀ c ∈ q.1 ++ q.2, -9 ≤ c → c < 0 → bit m (-1 - c) = true
theorem ev_cg2 {fa fb : Int → Int} : ∀ (l s : List Int), (∀ c ∈ l, -9 ≤ c → c < 0 → fa (-1 - c) = fb (-1 - c)) → ev fa l s = ev fb l s := by
  intro l
  induction l with
  | nil => intro s _; rfl
  | cons c l ih =>
    intro s h
    have e : stp fa c s = stp fb c s := by
      by_cases h0 : 0 ≤ c
      · rw [stp_num h0, stp_num h0]
      · by_cases h9 : -9 ≤ c
        · rw [stp_ask (by omega) h9, stp_ask (by omega) h9, h c (List.mem_cons_self ..) h9 (by omega)]
        · unfold stp
          rw [if_neg h0, if_neg h9, if_neg h0, if_neg h9]
    show ev fa l (stp fa c s) = ev fb l (stp fb c s)
    rw [e, ih _ (fun c hc => h c (List.mem_cons_of_mem _ hc))]
theorem payM_ask {fa : Int → Int} {m : Int} : ∀ w : Lw, lwask m w → payM (fcC m fa) w = payM fa w
  | [], _ => rfl
  | q :: r, h => by
    have hq : ∀ c ∈ q.1 ++ q.2, -9 ≤ c → c < 0 → fcC m fa (-1 - c) = fa (-1 - c) := fun c hc h1 h2 => by
      unfold fcC
      rw [if_neg (fun e => by rw [h q (List.mem_cons_self ..) c hc h1 h2] at e; exact absurd e.2 (by decide))]
    rw [payM, payM, ev_cg2 q.1 [] (fun c hc => hq c (List.mem_append_left _ hc)), ev_cg2 q.2 [] (fun c hc => hq c (List.mem_append_right _ hc)), payM_ask r (fun q hq => h q (List.mem_cons_of_mem _ hq))]
end
section
theorem i_vc : Claimed_1_1 ∧ Claimed_1_2 := sorry
end
