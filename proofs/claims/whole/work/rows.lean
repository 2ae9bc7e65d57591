section
-- ===== PART A: goes FIRST, ahead of the names: the tables' words, and 'selects' of the private methods out of them =====
/-- a private method of a class that the tables say can be made, by its rows of tables_1 -/
def lw_okq (q : MethodName × Nat) : Prop := (q.1.cls ≠ "java/lang/invoke/MethodHandle" ∧ q.1.cls ≠ "java/lang/invoke/VarHandle") ∧ Cond.instantiable q.1.cls q.2 ∈ tables_1 ∧ Cond.privateMethod q.1 ∈ tables_1 ∧ Cond.instanceMethod q.1 ∈ tables_1
theorem lw_p0 : lw_okq (⟨"CommaOrphans", "houseChanged", "()V"⟩, 10) := ⟨⟨by decide +kernel, by decide +kernel⟩, List.mem_of_getElem? (i := 22) (by decide +kernel), List.mem_of_getElem? (i := 444) (by decide +kernel), List.mem_of_getElem? (i := 445) (by decide +kernel)⟩
theorem lw_p1 : lw_okq (⟨"CommaOrphans", "forgetThoughts", "()V"⟩, 10) := ⟨⟨by decide +kernel, by decide +kernel⟩, List.mem_of_getElem? (i := 22) (by decide +kernel), List.mem_of_getElem? (i := 448) (by decide +kernel), List.mem_of_getElem? (i := 449) (by decide +kernel)⟩
theorem lw_p2 : lw_okq (⟨"CommaOrphans", "addBytes", "(I)V"⟩, 10) := ⟨⟨by decide +kernel, by decide +kernel⟩, List.mem_of_getElem? (i := 22) (by decide +kernel), List.mem_of_getElem? (i := 480) (by decide +kernel), List.mem_of_getElem? (i := 481) (by decide +kernel)⟩
theorem lw_p3 : lw_okq (⟨"CommaOrphans$LawReader", "split", "()V"⟩, 8) := ⟨⟨by decide +kernel, by decide +kernel⟩, List.mem_of_getElem? (i := 205) (by decide +kernel), List.mem_of_getElem? (i := 504) (by decide +kernel), List.mem_of_getElem? (i := 505) (by decide +kernel)⟩
theorem lw_p4 : lw_okq (⟨"CommaOrphans$LawReader", "endOfToken", "(I)I"⟩, 8) := ⟨⟨by decide +kernel, by decide +kernel⟩, List.mem_of_getElem? (i := 205) (by decide +kernel), List.mem_of_getElem? (i := 515) (by decide +kernel), List.mem_of_getElem? (i := 516) (by decide +kernel)⟩
theorem lw_p5 : lw_okq (⟨"CommaOrphans$LawReader", "kindOf", "(II)I"⟩, 8) := ⟨⟨by decide +kernel, by decide +kernel⟩, List.mem_of_getElem? (i := 205) (by decide +kernel), List.mem_of_getElem? (i := 525) (by decide +kernel), List.mem_of_getElem? (i := 526) (by decide +kernel)⟩
theorem lw_p6 : lw_okq (⟨"CommaOrphans$LawReader", "kindOfWord", "(II)I"⟩, 8) := ⟨⟨by decide +kernel, by decide +kernel⟩, List.mem_of_getElem? (i := 205) (by decide +kernel), List.mem_of_getElem? (i := 529) (by decide +kernel), List.mem_of_getElem? (i := 530) (by decide +kernel)⟩
theorem lw_p7 : lw_okq (⟨"CommaOrphans$LawReader", "isKeyword", "(III)Z"⟩, 8) := ⟨⟨by decide +kernel, by decide +kernel⟩, List.mem_of_getElem? (i := 205) (by decide +kernel), List.mem_of_getElem? (i := 544) (by decide +kernel), List.mem_of_getElem? (i := 545) (by decide +kernel)⟩
theorem lw_p8 : lw_okq (⟨"CommaOrphans$LawReader", "readLine", "()Z"⟩, 8) := ⟨⟨by decide +kernel, by decide +kernel⟩, List.mem_of_getElem? (i := 205) (by decide +kernel), List.mem_of_getElem? (i := 644) (by decide +kernel), List.mem_of_getElem? (i := 645) (by decide +kernel)⟩
theorem lw_p9 : lw_okq (⟨"CommaOrphans$LawReader", "fail", "(I)Z"⟩, 8) := ⟨⟨by decide +kernel, by decide +kernel⟩, List.mem_of_getElem? (i := 205) (by decide +kernel), List.mem_of_getElem? (i := 648) (by decide +kernel), List.mem_of_getElem? (i := 649) (by decide +kernel)⟩
theorem lw_p10 : lw_okq (⟨"CommaOrphans$LawReader", "step", "()V"⟩, 8) := ⟨⟨by decide +kernel, by decide +kernel⟩, List.mem_of_getElem? (i := 205) (by decide +kernel), List.mem_of_getElem? (i := 652) (by decide +kernel), List.mem_of_getElem? (i := 653) (by decide +kernel)⟩
theorem lw_p11 : lw_okq (⟨"CommaOrphans$LawReader", "readSum", "()Z"⟩, 8) := ⟨⟨by decide +kernel, by decide +kernel⟩, List.mem_of_getElem? (i := 205) (by decide +kernel), List.mem_of_getElem? (i := 656) (by decide +kernel), List.mem_of_getElem? (i := 657) (by decide +kernel)⟩
theorem lw_p12 : lw_okq (⟨"CommaOrphans$LawReader", "readUnit", "()Z"⟩, 8) := ⟨⟨by decide +kernel, by decide +kernel⟩, List.mem_of_getElem? (i := 205) (by decide +kernel), List.mem_of_getElem? (i := 660) (by decide +kernel), List.mem_of_getElem? (i := 661) (by decide +kernel)⟩
theorem lw_p13 : lw_okq (⟨"CommaOrphans$LawReader", "readDivisor", "()Z"⟩, 8) := ⟨⟨by decide +kernel, by decide +kernel⟩, List.mem_of_getElem? (i := 205) (by decide +kernel), List.mem_of_getElem? (i := 668) (by decide +kernel), List.mem_of_getElem? (i := 669) (by decide +kernel)⟩
theorem lw_p14 : lw_okq (⟨"CommaOrphans$LawReader", "readChoice", "(I)Z"⟩, 8) := ⟨⟨by decide +kernel, by decide +kernel⟩, List.mem_of_getElem? (i := 205) (by decide +kernel), List.mem_of_getElem? (i := 676) (by decide +kernel), List.mem_of_getElem? (i := 677) (by decide +kernel)⟩
theorem lw_p15 : lw_okq (⟨"CommaOrphans$LawReader", "readClaim", "(I)Z"⟩, 8) := ⟨⟨by decide +kernel, by decide +kernel⟩, List.mem_of_getElem? (i := 205) (by decide +kernel), List.mem_of_getElem? (i := 680) (by decide +kernel), List.mem_of_getElem? (i := 681) (by decide +kernel)⟩
def lw_privs_1 : List (MethodName × Nat) := [(⟨"CommaOrphans", "houseChanged", "()V"⟩, 10), (⟨"CommaOrphans", "forgetThoughts", "()V"⟩, 10), (⟨"CommaOrphans", "addBytes", "(I)V"⟩, 10), (⟨"CommaOrphans$LawReader", "split", "()V"⟩, 8), (⟨"CommaOrphans$LawReader", "endOfToken", "(I)I"⟩, 8), (⟨"CommaOrphans$LawReader", "kindOf", "(II)I"⟩, 8), (⟨"CommaOrphans$LawReader", "kindOfWord", "(II)I"⟩, 8), (⟨"CommaOrphans$LawReader", "isKeyword", "(III)Z"⟩, 8), (⟨"CommaOrphans$LawReader", "readLine", "()Z"⟩, 8), (⟨"CommaOrphans$LawReader", "fail", "(I)Z"⟩, 8), (⟨"CommaOrphans$LawReader", "step", "()V"⟩, 8), (⟨"CommaOrphans$LawReader", "readSum", "()Z"⟩, 8), (⟨"CommaOrphans$LawReader", "readUnit", "()Z"⟩, 8), (⟨"CommaOrphans$LawReader", "readDivisor", "()Z"⟩, 8), (⟨"CommaOrphans$LawReader", "readChoice", "(I)Z"⟩, 8), (⟨"CommaOrphans$LawReader", "readClaim", "(I)Z"⟩, 8)]
theorem lw_r1 : ∀ q ∈ lw_privs_1, lw_okq q := List.forall_mem_cons.mpr ⟨lw_p0, List.forall_mem_cons.mpr ⟨lw_p1, List.forall_mem_cons.mpr ⟨lw_p2, List.forall_mem_cons.mpr ⟨lw_p3, List.forall_mem_cons.mpr ⟨lw_p4, List.forall_mem_cons.mpr ⟨lw_p5, List.forall_mem_cons.mpr ⟨lw_p6, List.forall_mem_cons.mpr ⟨lw_p7, List.forall_mem_cons.mpr ⟨lw_p8, List.forall_mem_cons.mpr ⟨lw_p9, List.forall_mem_cons.mpr ⟨lw_p10, List.forall_mem_cons.mpr ⟨lw_p11, List.forall_mem_cons.mpr ⟨lw_p12, List.forall_mem_cons.mpr ⟨lw_p13, List.forall_mem_cons.mpr ⟨lw_p14, List.forall_mem_cons.mpr ⟨lw_p15, fun _ h => absurd h List.not_mem_nil⟩⟩⟩⟩⟩⟩⟩⟩⟩⟩⟩⟩⟩⟩⟩⟩
theorem lw_p16 : lw_okq (⟨"CommaOrphans$LawReader", "readOpening", "(I)Z"⟩, 8) := ⟨⟨by decide +kernel, by decide +kernel⟩, List.mem_of_getElem? (i := 205) (by decide +kernel), List.mem_of_getElem? (i := 684) (by decide +kernel), List.mem_of_getElem? (i := 685) (by decide +kernel)⟩
theorem lw_p17 : lw_okq (⟨"CommaOrphans", "lawChanged", "()V"⟩, 10) := ⟨⟨by decide +kernel, by decide +kernel⟩, List.mem_of_getElem? (i := 22) (by decide +kernel), List.mem_of_getElem? (i := 699) (by decide +kernel), List.mem_of_getElem? (i := 700) (by decide +kernel)⟩
theorem lw_p18 : lw_okq (⟨"CommaOrphans", "wrongPlaceOfPage", "()I"⟩, 10) := ⟨⟨by decide +kernel, by decide +kernel⟩, List.mem_of_getElem? (i := 22) (by decide +kernel), List.mem_of_getElem? (i := 716) (by decide +kernel), List.mem_of_getElem? (i := 717) (by decide +kernel)⟩
theorem lw_p19 : lw_okq (⟨"CommaOrphans$Shelf", "dropOldest", "()V"⟩, 6) := ⟨⟨by decide +kernel, by decide +kernel⟩, List.mem_of_getElem? (i := 241) (by decide +kernel), List.mem_of_getElem? (i := 748) (by decide +kernel), List.mem_of_getElem? (i := 749) (by decide +kernel)⟩
theorem lw_p20 : lw_okq (⟨"CommaOrphans$Press", "misprinted", "(II)I"⟩, 8) := ⟨⟨by decide +kernel, by decide +kernel⟩, List.mem_of_getElem? (i := 267) (by decide +kernel), List.mem_of_getElem? (i := 786) (by decide +kernel), List.mem_of_getElem? (i := 787) (by decide +kernel)⟩
theorem lw_p21 : lw_okq (⟨"CommaOrphans$Press", "payInstead", "(III)I"⟩, 8) := ⟨⟨by decide +kernel, by decide +kernel⟩, List.mem_of_getElem? (i := 267) (by decide +kernel), List.mem_of_getElem? (i := 800) (by decide +kernel), List.mem_of_getElem? (i := 801) (by decide +kernel)⟩
theorem lw_p22 : lw_okq (⟨"CommaOrphans$Press", "gatherFacts", "(LCommaOrphans$Row;II)V"⟩, 8) := ⟨⟨by decide +kernel, by decide +kernel⟩, List.mem_of_getElem? (i := 267) (by decide +kernel), List.mem_of_getElem? (i := 808) (by decide +kernel), List.mem_of_getElem? (i := 809) (by decide +kernel)⟩
theorem lw_p23 : lw_okq (⟨"CommaOrphans$Law", "run", "(II[I[I)I"⟩, 6) := ⟨⟨by decide +kernel, by decide +kernel⟩, List.mem_of_getElem? (i := 78) (by decide +kernel), List.mem_of_getElem? (i := 826) (by decide +kernel), List.mem_of_getElem? (i := 827) (by decide +kernel)⟩
theorem lw_p24 : lw_okq (⟨"CommaOrphans$Press", "keyOfFacts", "()J"⟩, 8) := ⟨⟨by decide +kernel, by decide +kernel⟩, List.mem_of_getElem? (i := 267) (by decide +kernel), List.mem_of_getElem? (i := 832) (by decide +kernel), List.mem_of_getElem? (i := 833) (by decide +kernel)⟩
theorem lw_p25 : lw_okq (⟨"CommaOrphans$Remedy", "weighNeeds", "()V"⟩, 12) := ⟨⟨by decide +kernel, by decide +kernel⟩, List.mem_of_getElem? (i := 304) (by decide +kernel), List.mem_of_getElem? (i := 910) (by decide +kernel), List.mem_of_getElem? (i := 911) (by decide +kernel)⟩
theorem lw_p26 : lw_okq (⟨"CommaOrphans$Law", "mostOfSum", "(II[I[I)I"⟩, 6) := ⟨⟨by decide +kernel, by decide +kernel⟩, List.mem_of_getElem? (i := 78) (by decide +kernel), List.mem_of_getElem? (i := 922) (by decide +kernel), List.mem_of_getElem? (i := 923) (by decide +kernel)⟩
theorem lw_p27 : lw_okq (⟨"CommaOrphans$Remedy", "listChoices", "()V"⟩, 12) := ⟨⟨by decide +kernel, by decide +kernel⟩, List.mem_of_getElem? (i := 304) (by decide +kernel), List.mem_of_getElem? (i := 932) (by decide +kernel), List.mem_of_getElem? (i := 933) (by decide +kernel)⟩
theorem lw_p28 : lw_okq (⟨"CommaOrphans$Remedy", "feedsAll", "()Z"⟩, 12) := ⟨⟨by decide +kernel, by decide +kernel⟩, List.mem_of_getElem? (i := 304) (by decide +kernel), List.mem_of_getElem? (i := 940) (by decide +kernel), List.mem_of_getElem? (i := 941) (by decide +kernel)⟩
theorem lw_p29 : lw_okq (⟨"CommaOrphans$Remedy", "setsOne", "(I)Z"⟩, 12) := ⟨⟨by decide +kernel, by decide +kernel⟩, List.mem_of_getElem? (i := 304) (by decide +kernel), List.mem_of_getElem? (i := 950) (by decide +kernel), List.mem_of_getElem? (i := 951) (by decide +kernel)⟩
theorem lw_p30 : lw_okq (⟨"CommaOrphans$Remedy", "countLacking", "()I"⟩, 12) := ⟨⟨by decide +kernel, by decide +kernel⟩, List.mem_of_getElem? (i := 304) (by decide +kernel), List.mem_of_getElem? (i := 955) (by decide +kernel), List.mem_of_getElem? (i := 956) (by decide +kernel)⟩
theorem lw_p31 : lw_okq (⟨"CommaOrphans$Remedy", "choicesAt", "(I)I"⟩, 12) := ⟨⟨by decide +kernel, by decide +kernel⟩, List.mem_of_getElem? (i := 304) (by decide +kernel), List.mem_of_getElem? (i := 960) (by decide +kernel), List.mem_of_getElem? (i := 961) (by decide +kernel)⟩
def lw_privs_2 : List (MethodName × Nat) := [(⟨"CommaOrphans$LawReader", "readOpening", "(I)Z"⟩, 8), (⟨"CommaOrphans", "lawChanged", "()V"⟩, 10), (⟨"CommaOrphans", "wrongPlaceOfPage", "()I"⟩, 10), (⟨"CommaOrphans$Shelf", "dropOldest", "()V"⟩, 6), (⟨"CommaOrphans$Press", "misprinted", "(II)I"⟩, 8), (⟨"CommaOrphans$Press", "payInstead", "(III)I"⟩, 8), (⟨"CommaOrphans$Press", "gatherFacts", "(LCommaOrphans$Row;II)V"⟩, 8), (⟨"CommaOrphans$Law", "run", "(II[I[I)I"⟩, 6), (⟨"CommaOrphans$Press", "keyOfFacts", "()J"⟩, 8), (⟨"CommaOrphans$Remedy", "weighNeeds", "()V"⟩, 12), (⟨"CommaOrphans$Law", "mostOfSum", "(II[I[I)I"⟩, 6), (⟨"CommaOrphans$Remedy", "listChoices", "()V"⟩, 12), (⟨"CommaOrphans$Remedy", "feedsAll", "()Z"⟩, 12), (⟨"CommaOrphans$Remedy", "setsOne", "(I)Z"⟩, 12), (⟨"CommaOrphans$Remedy", "countLacking", "()I"⟩, 12), (⟨"CommaOrphans$Remedy", "choicesAt", "(I)I"⟩, 12)]
theorem lw_r2 : ∀ q ∈ lw_privs_2, lw_okq q := List.forall_mem_cons.mpr ⟨lw_p16, List.forall_mem_cons.mpr ⟨lw_p17, List.forall_mem_cons.mpr ⟨lw_p18, List.forall_mem_cons.mpr ⟨lw_p19, List.forall_mem_cons.mpr ⟨lw_p20, List.forall_mem_cons.mpr ⟨lw_p21, List.forall_mem_cons.mpr ⟨lw_p22, List.forall_mem_cons.mpr ⟨lw_p23, List.forall_mem_cons.mpr ⟨lw_p24, List.forall_mem_cons.mpr ⟨lw_p25, List.forall_mem_cons.mpr ⟨lw_p26, List.forall_mem_cons.mpr ⟨lw_p27, List.forall_mem_cons.mpr ⟨lw_p28, List.forall_mem_cons.mpr ⟨lw_p29, List.forall_mem_cons.mpr ⟨lw_p30, List.forall_mem_cons.mpr ⟨lw_p31, fun _ h => absurd h List.not_mem_nil⟩⟩⟩⟩⟩⟩⟩⟩⟩⟩⟩⟩⟩⟩⟩⟩
theorem lw_p32 : lw_okq (⟨"CommaOrphans$Remedy", "isLacked", "(I)Z"⟩, 12) := ⟨⟨by decide +kernel, by decide +kernel⟩, List.mem_of_getElem? (i := 304) (by decide +kernel), List.mem_of_getElem? (i := 964) (by decide +kernel), List.mem_of_getElem? (i := 965) (by decide +kernel)⟩
theorem lw_p33 : lw_okq (⟨"CommaOrphans$Remedy", "tell", "(III)V"⟩, 12) := ⟨⟨by decide +kernel, by decide +kernel⟩, List.mem_of_getElem? (i := 304) (by decide +kernel), List.mem_of_getElem? (i := 968) (by decide +kernel), List.mem_of_getElem? (i := 969) (by decide +kernel)⟩
theorem lw_p34 : lw_okq (⟨"CommaOrphans$Basket", "lay", "(II)I"⟩, 5) := ⟨⟨by decide +kernel, by decide +kernel⟩, List.mem_of_getElem? (i := 351) (by decide +kernel), List.mem_of_getElem? (i := 982) (by decide +kernel), List.mem_of_getElem? (i := 983) (by decide +kernel)⟩
theorem lw_p35 : lw_okq (⟨"CommaOrphans$Basket", "weigh", "(IIII)V"⟩, 5) := ⟨⟨by decide +kernel, by decide +kernel⟩, List.mem_of_getElem? (i := 351) (by decide +kernel), List.mem_of_getElem? (i := 996) (by decide +kernel), List.mem_of_getElem? (i := 997) (by decide +kernel)⟩
theorem lw_p36 : lw_okq (⟨"CommaOrphans$Barter", "isGain", "(II)Z"⟩, 5) := ⟨⟨by decide +kernel, by decide +kernel⟩, List.mem_of_getElem? (i := 377) (by decide +kernel), List.mem_of_getElem? (i := 1040) (by decide +kernel), List.mem_of_getElem? (i := 1041) (by decide +kernel)⟩
theorem lw_p37 : lw_okq (⟨"CommaOrphans$Barter", "give", "(IIII)V"⟩, 5) := ⟨⟨by decide +kernel, by decide +kernel⟩, List.mem_of_getElem? (i := 377) (by decide +kernel), List.mem_of_getElem? (i := 1045) (by decide +kernel), List.mem_of_getElem? (i := 1046) (by decide +kernel)⟩
theorem lw_p38 : lw_okq (⟨"CommaOrphans$Barter", "count", "(II)V"⟩, 5) := ⟨⟨by decide +kernel, by decide +kernel⟩, List.mem_of_getElem? (i := 377) (by decide +kernel), List.mem_of_getElem? (i := 1054) (by decide +kernel), List.mem_of_getElem? (i := 1055) (by decide +kernel)⟩
theorem lw_p39 : lw_okq (⟨"CommaOrphansModel", "isIn", "(III)Z"⟩, 53) := ⟨⟨by decide +kernel, by decide +kernel⟩, List.mem_of_getElem? (i := 1094) (by decide +kernel), List.mem_of_getElem? (i := 1273) (by decide +kernel), List.mem_of_getElem? (i := 1274) (by decide +kernel)⟩
theorem lw_p40 : lw_okq (⟨"CommaOrphansModel", "isOneOf", "(I)Z"⟩, 53) := ⟨⟨by decide +kernel, by decide +kernel⟩, List.mem_of_getElem? (i := 1094) (by decide +kernel), List.mem_of_getElem? (i := 1281) (by decide +kernel), List.mem_of_getElem? (i := 1282) (by decide +kernel)⟩
theorem lw_p41 : lw_okq (⟨"CommaOrphansModel", "isApprentice", "(I)Z"⟩, 53) := ⟨⟨by decide +kernel, by decide +kernel⟩, List.mem_of_getElem? (i := 1094) (by decide +kernel), List.mem_of_getElem? (i := 1285) (by decide +kernel), List.mem_of_getElem? (i := 1286) (by decide +kernel)⟩
theorem lw_p42 : lw_okq (⟨"CommaOrphansModel", "canSet", "(III)Z"⟩, 53) := ⟨⟨by decide +kernel, by decide +kernel⟩, List.mem_of_getElem? (i := 1094) (by decide +kernel), List.mem_of_getElem? (i := 1293) (by decide +kernel), List.mem_of_getElem? (i := 1294) (by decide +kernel)⟩
theorem lw_p43 : lw_okq (⟨"CommaOrphansModel", "signOf", "(I)I"⟩, 53) := ⟨⟨by decide +kernel, by decide +kernel⟩, List.mem_of_getElem? (i := 1094) (by decide +kernel), List.mem_of_getElem? (i := 1301) (by decide +kernel), List.mem_of_getElem? (i := 1302) (by decide +kernel)⟩
theorem lw_p44 : lw_okq (⟨"CommaOrphansModel", "types", "(I)V"⟩, 53) := ⟨⟨by decide +kernel, by decide +kernel⟩, List.mem_of_getElem? (i := 1094) (by decide +kernel), List.mem_of_getElem? (i := 1317) (by decide +kernel), List.mem_of_getElem? (i := 1318) (by decide +kernel)⟩
theorem lw_p45 : lw_okq (⟨"CommaOrphansModel", "reads", "()V"⟩, 53) := ⟨⟨by decide +kernel, by decide +kernel⟩, List.mem_of_getElem? (i := 1094) (by decide +kernel), List.mem_of_getElem? (i := 1329) (by decide +kernel), List.mem_of_getElem? (i := 1330) (by decide +kernel)⟩
theorem lw_p46 : lw_okq (⟨"CommaOrphansModel", "raw", "(I)I"⟩, 53) := ⟨⟨by decide +kernel, by decide +kernel⟩, List.mem_of_getElem? (i := 1094) (by decide +kernel), List.mem_of_getElem? (i := 1333) (by decide +kernel), List.mem_of_getElem? (i := 1334) (by decide +kernel)⟩
theorem lw_p47 : lw_okq (⟨"CommaOrphansModel", "isLetter", "(I)Z"⟩, 53) := ⟨⟨by decide +kernel, by decide +kernel⟩, List.mem_of_getElem? (i := 1094) (by decide +kernel), List.mem_of_getElem? (i := 1337) (by decide +kernel), List.mem_of_getElem? (i := 1338) (by decide +kernel)⟩
def lw_privs_3 : List (MethodName × Nat) := [(⟨"CommaOrphans$Remedy", "isLacked", "(I)Z"⟩, 12), (⟨"CommaOrphans$Remedy", "tell", "(III)V"⟩, 12), (⟨"CommaOrphans$Basket", "lay", "(II)I"⟩, 5), (⟨"CommaOrphans$Basket", "weigh", "(IIII)V"⟩, 5), (⟨"CommaOrphans$Barter", "isGain", "(II)Z"⟩, 5), (⟨"CommaOrphans$Barter", "give", "(IIII)V"⟩, 5), (⟨"CommaOrphans$Barter", "count", "(II)V"⟩, 5), (⟨"CommaOrphansModel", "isIn", "(III)Z"⟩, 53), (⟨"CommaOrphansModel", "isOneOf", "(I)Z"⟩, 53), (⟨"CommaOrphansModel", "isApprentice", "(I)Z"⟩, 53), (⟨"CommaOrphansModel", "canSet", "(III)Z"⟩, 53), (⟨"CommaOrphansModel", "signOf", "(I)I"⟩, 53), (⟨"CommaOrphansModel", "types", "(I)V"⟩, 53), (⟨"CommaOrphansModel", "reads", "()V"⟩, 53), (⟨"CommaOrphansModel", "raw", "(I)I"⟩, 53), (⟨"CommaOrphansModel", "isLetter", "(I)Z"⟩, 53)]
theorem lw_r3 : ∀ q ∈ lw_privs_3, lw_okq q := List.forall_mem_cons.mpr ⟨lw_p32, List.forall_mem_cons.mpr ⟨lw_p33, List.forall_mem_cons.mpr ⟨lw_p34, List.forall_mem_cons.mpr ⟨lw_p35, List.forall_mem_cons.mpr ⟨lw_p36, List.forall_mem_cons.mpr ⟨lw_p37, List.forall_mem_cons.mpr ⟨lw_p38, List.forall_mem_cons.mpr ⟨lw_p39, List.forall_mem_cons.mpr ⟨lw_p40, List.forall_mem_cons.mpr ⟨lw_p41, List.forall_mem_cons.mpr ⟨lw_p42, List.forall_mem_cons.mpr ⟨lw_p43, List.forall_mem_cons.mpr ⟨lw_p44, List.forall_mem_cons.mpr ⟨lw_p45, List.forall_mem_cons.mpr ⟨lw_p46, List.forall_mem_cons.mpr ⟨lw_p47, fun _ h => absurd h List.not_mem_nil⟩⟩⟩⟩⟩⟩⟩⟩⟩⟩⟩⟩⟩⟩⟩⟩
theorem lw_p48 : lw_okq (⟨"CommaOrphansModel", "wordAt", "(II)I"⟩, 53) := ⟨⟨by decide +kernel, by decide +kernel⟩, List.mem_of_getElem? (i := 1094) (by decide +kernel), List.mem_of_getElem? (i := 1341) (by decide +kernel), List.mem_of_getElem? (i := 1342) (by decide +kernel)⟩
theorem lw_p49 : lw_okq (⟨"CommaOrphansModel", "isDigit", "(I)Z"⟩, 53) := ⟨⟨by decide +kernel, by decide +kernel⟩, List.mem_of_getElem? (i := 1094) (by decide +kernel), List.mem_of_getElem? (i := 1345) (by decide +kernel), List.mem_of_getElem? (i := 1346) (by decide +kernel)⟩
theorem lw_p50 : lw_okq (⟨"CommaOrphansModel", "isMarkSign", "(I)Z"⟩, 53) := ⟨⟨by decide +kernel, by decide +kernel⟩, List.mem_of_getElem? (i := 1094) (by decide +kernel), List.mem_of_getElem? (i := 1349) (by decide +kernel), List.mem_of_getElem? (i := 1350) (by decide +kernel)⟩
theorem lw_p51 : lw_okq (⟨"CommaOrphansModel", "readText", "()I"⟩, 53) := ⟨⟨by decide +kernel, by decide +kernel⟩, List.mem_of_getElem? (i := 1094) (by decide +kernel), List.mem_of_getElem? (i := 1353) (by decide +kernel), List.mem_of_getElem? (i := 1354) (by decide +kernel)⟩
theorem lw_p52 : lw_okq (⟨"CommaOrphansModel", "isWord", "(I)Z"⟩, 53) := ⟨⟨by decide +kernel, by decide +kernel⟩, List.mem_of_getElem? (i := 1094) (by decide +kernel), List.mem_of_getElem? (i := 1357) (by decide +kernel), List.mem_of_getElem? (i := 1358) (by decide +kernel)⟩
theorem lw_p53 : lw_okq (⟨"CommaOrphansModel", "errs", "(I)I"⟩, 53) := ⟨⟨by decide +kernel, by decide +kernel⟩, List.mem_of_getElem? (i := 1094) (by decide +kernel), List.mem_of_getElem? (i := 1361) (by decide +kernel), List.mem_of_getElem? (i := 1362) (by decide +kernel)⟩
theorem lw_p54 : lw_okq (⟨"CommaOrphansModel", "readSum", "()I"⟩, 53) := ⟨⟨by decide +kernel, by decide +kernel⟩, List.mem_of_getElem? (i := 1094) (by decide +kernel), List.mem_of_getElem? (i := 1365) (by decide +kernel), List.mem_of_getElem? (i := 1366) (by decide +kernel)⟩
theorem lw_p55 : lw_okq (⟨"CommaOrphansModel", "readProduct", "()I"⟩, 53) := ⟨⟨by decide +kernel, by decide +kernel⟩, List.mem_of_getElem? (i := 1094) (by decide +kernel), List.mem_of_getElem? (i := 1369) (by decide +kernel), List.mem_of_getElem? (i := 1370) (by decide +kernel)⟩
theorem lw_p56 : lw_okq (⟨"CommaOrphansModel", "readUnit", "()I"⟩, 53) := ⟨⟨by decide +kernel, by decide +kernel⟩, List.mem_of_getElem? (i := 1094) (by decide +kernel), List.mem_of_getElem? (i := 1373) (by decide +kernel), List.mem_of_getElem? (i := 1374) (by decide +kernel)⟩
theorem lw_p57 : lw_okq (⟨"CommaOrphansModel", "emits", "(II)V"⟩, 53) := ⟨⟨by decide +kernel, by decide +kernel⟩, List.mem_of_getElem? (i := 1094) (by decide +kernel), List.mem_of_getElem? (i := 1377) (by decide +kernel), List.mem_of_getElem? (i := 1378) (by decide +kernel)⟩
theorem lw_p58 : lw_okq (⟨"CommaOrphansModel", "isSign", "(I)Z"⟩, 53) := ⟨⟨by decide +kernel, by decide +kernel⟩, List.mem_of_getElem? (i := 1094) (by decide +kernel), List.mem_of_getElem? (i := 1381) (by decide +kernel), List.mem_of_getElem? (i := 1382) (by decide +kernel)⟩
theorem lw_p59 : lw_okq (⟨"CommaOrphansModel", "readAny", "()I"⟩, 53) := ⟨⟨by decide +kernel, by decide +kernel⟩, List.mem_of_getElem? (i := 1094) (by decide +kernel), List.mem_of_getElem? (i := 1385) (by decide +kernel), List.mem_of_getElem? (i := 1386) (by decide +kernel)⟩
theorem lw_p60 : lw_okq (⟨"CommaOrphansModel", "waits", "(I)V"⟩, 53) := ⟨⟨by decide +kernel, by decide +kernel⟩, List.mem_of_getElem? (i := 1094) (by decide +kernel), List.mem_of_getElem? (i := 1389) (by decide +kernel), List.mem_of_getElem? (i := 1390) (by decide +kernel)⟩
theorem lw_p61 : lw_okq (⟨"CommaOrphansModel", "readCompared", "()I"⟩, 53) := ⟨⟨by decide +kernel, by decide +kernel⟩, List.mem_of_getElem? (i := 1094) (by decide +kernel), List.mem_of_getElem? (i := 1393) (by decide +kernel), List.mem_of_getElem? (i := 1394) (by decide +kernel)⟩
theorem lw_p62 : lw_okq (⟨"CommaOrphansModel", "settles", "(I)V"⟩, 53) := ⟨⟨by decide +kernel, by decide +kernel⟩, List.mem_of_getElem? (i := 1094) (by decide +kernel), List.mem_of_getElem? (i := 1397) (by decide +kernel), List.mem_of_getElem? (i := 1398) (by decide +kernel)⟩
theorem lw_p63 : lw_okq (⟨"CommaOrphansModel", "keepsAhead", "()V"⟩, 53) := ⟨⟨by decide +kernel, by decide +kernel⟩, List.mem_of_getElem? (i := 1094) (by decide +kernel), List.mem_of_getElem? (i := 1409) (by decide +kernel), List.mem_of_getElem? (i := 1410) (by decide +kernel)⟩
def lw_privs_4 : List (MethodName × Nat) := [(⟨"CommaOrphansModel", "wordAt", "(II)I"⟩, 53), (⟨"CommaOrphansModel", "isDigit", "(I)Z"⟩, 53), (⟨"CommaOrphansModel", "isMarkSign", "(I)Z"⟩, 53), (⟨"CommaOrphansModel", "readText", "()I"⟩, 53), (⟨"CommaOrphansModel", "isWord", "(I)Z"⟩, 53), (⟨"CommaOrphansModel", "errs", "(I)I"⟩, 53), (⟨"CommaOrphansModel", "readSum", "()I"⟩, 53), (⟨"CommaOrphansModel", "readProduct", "()I"⟩, 53), (⟨"CommaOrphansModel", "readUnit", "()I"⟩, 53), (⟨"CommaOrphansModel", "emits", "(II)V"⟩, 53), (⟨"CommaOrphansModel", "isSign", "(I)Z"⟩, 53), (⟨"CommaOrphansModel", "readAny", "()I"⟩, 53), (⟨"CommaOrphansModel", "waits", "(I)V"⟩, 53), (⟨"CommaOrphansModel", "readCompared", "()I"⟩, 53), (⟨"CommaOrphansModel", "settles", "(I)V"⟩, 53), (⟨"CommaOrphansModel", "keepsAhead", "()V"⟩, 53)]
theorem lw_r4 : ∀ q ∈ lw_privs_4, lw_okq q := List.forall_mem_cons.mpr ⟨lw_p48, List.forall_mem_cons.mpr ⟨lw_p49, List.forall_mem_cons.mpr ⟨lw_p50, List.forall_mem_cons.mpr ⟨lw_p51, List.forall_mem_cons.mpr ⟨lw_p52, List.forall_mem_cons.mpr ⟨lw_p53, List.forall_mem_cons.mpr ⟨lw_p54, List.forall_mem_cons.mpr ⟨lw_p55, List.forall_mem_cons.mpr ⟨lw_p56, List.forall_mem_cons.mpr ⟨lw_p57, List.forall_mem_cons.mpr ⟨lw_p58, List.forall_mem_cons.mpr ⟨lw_p59, List.forall_mem_cons.mpr ⟨lw_p60, List.forall_mem_cons.mpr ⟨lw_p61, List.forall_mem_cons.mpr ⟨lw_p62, List.forall_mem_cons.mpr ⟨lw_p63, fun _ h => absurd h List.not_mem_nil⟩⟩⟩⟩⟩⟩⟩⟩⟩⟩⟩⟩⟩⟩⟩⟩
theorem lw_p64 : lw_okq (⟨"CommaOrphansModel", "thinksOfPage", "()V"⟩, 53) := ⟨⟨by decide +kernel, by decide +kernel⟩, List.mem_of_getElem? (i := 1094) (by decide +kernel), List.mem_of_getElem? (i := 1413) (by decide +kernel), List.mem_of_getElem? (i := 1414) (by decide +kernel)⟩
theorem lw_p65 : lw_okq (⟨"CommaOrphansModel", "draw", "(I)I"⟩, 53) := ⟨⟨by decide +kernel, by decide +kernel⟩, List.mem_of_getElem? (i := 1094) (by decide +kernel), List.mem_of_getElem? (i := 1417) (by decide +kernel), List.mem_of_getElem? (i := 1418) (by decide +kernel)⟩
theorem lw_p66 : lw_okq (⟨"CommaOrphansModel", "ownerOf", "(I)I"⟩, 53) := ⟨⟨by decide +kernel, by decide +kernel⟩, List.mem_of_getElem? (i := 1094) (by decide +kernel), List.mem_of_getElem? (i := 1423) (by decide +kernel), List.mem_of_getElem? (i := 1424) (by decide +kernel)⟩
theorem lw_p67 : lw_okq (⟨"CommaOrphansModel", "leastSignOf", "(I)I"⟩, 53) := ⟨⟨by decide +kernel, by decide +kernel⟩, List.mem_of_getElem? (i := 1094) (by decide +kernel), List.mem_of_getElem? (i := 1427) (by decide +kernel), List.mem_of_getElem? (i := 1428) (by decide +kernel)⟩
theorem lw_p68 : lw_okq (⟨"CommaOrphansModel", "prints", "(I)Z"⟩, 53) := ⟨⟨by decide +kernel, by decide +kernel⟩, List.mem_of_getElem? (i := 1094) (by decide +kernel), List.mem_of_getElem? (i := 1431) (by decide +kernel), List.mem_of_getElem? (i := 1432) (by decide +kernel)⟩
theorem lw_p69 : lw_okq (⟨"CommaOrphansModel", "canPrint", "(I)Z"⟩, 53) := ⟨⟨by decide +kernel, by decide +kernel⟩, List.mem_of_getElem? (i := 1094) (by decide +kernel), List.mem_of_getElem? (i := 1435) (by decide +kernel), List.mem_of_getElem? (i := 1436) (by decide +kernel)⟩
theorem lw_p70 : lw_okq (⟨"CommaOrphansModel", "paysAt", "(I)I"⟩, 53) := ⟨⟨by decide +kernel, by decide +kernel⟩, List.mem_of_getElem? (i := 1094) (by decide +kernel), List.mem_of_getElem? (i := 1439) (by decide +kernel), List.mem_of_getElem? (i := 1440) (by decide +kernel)⟩
theorem lw_p71 : lw_okq (⟨"CommaOrphansModel", "longAt", "(I)I"⟩, 53) := ⟨⟨by decide +kernel, by decide +kernel⟩, List.mem_of_getElem? (i := 1094) (by decide +kernel), List.mem_of_getElem? (i := 1443) (by decide +kernel), List.mem_of_getElem? (i := 1444) (by decide +kernel)⟩
theorem lw_p72 : lw_okq (⟨"CommaOrphansModel", "isLetterAt", "(I)Z"⟩, 53) := ⟨⟨by decide +kernel, by decide +kernel⟩, List.mem_of_getElem? (i := 1094) (by decide +kernel), List.mem_of_getElem? (i := 1447) (by decide +kernel), List.mem_of_getElem? (i := 1448) (by decide +kernel)⟩
theorem lw_p73 : lw_okq (⟨"CommaOrphansModel", "usedAt", "(I)I"⟩, 53) := ⟨⟨by decide +kernel, by decide +kernel⟩, List.mem_of_getElem? (i := 1094) (by decide +kernel), List.mem_of_getElem? (i := 1451) (by decide +kernel), List.mem_of_getElem? (i := 1452) (by decide +kernel)⟩
theorem lw_p74 : lw_okq (⟨"CommaOrphansModel", "isVowel", "(I)Z"⟩, 53) := ⟨⟨by decide +kernel, by decide +kernel⟩, List.mem_of_getElem? (i := 1094) (by decide +kernel), List.mem_of_getElem? (i := 1455) (by decide +kernel), List.mem_of_getElem? (i := 1456) (by decide +kernel)⟩
theorem lw_p75 : lw_okq (⟨"CommaOrphansModel", "isSo", "(I)Z"⟩, 53) := ⟨⟨by decide +kernel, by decide +kernel⟩, List.mem_of_getElem? (i := 1094) (by decide +kernel), List.mem_of_getElem? (i := 1459) (by decide +kernel), List.mem_of_getElem? (i := 1460) (by decide +kernel)⟩
theorem lw_p76 : lw_okq (⟨"CommaOrphansModel", "runs", "(II)I"⟩, 53) := ⟨⟨by decide +kernel, by decide +kernel⟩, List.mem_of_getElem? (i := 1094) (by decide +kernel), List.mem_of_getElem? (i := 1463) (by decide +kernel), List.mem_of_getElem? (i := 1464) (by decide +kernel)⟩
theorem lw_p77 : lw_okq (⟨"CommaOrphansModel", "twoOf", "(III)I"⟩, 53) := ⟨⟨by decide +kernel, by decide +kernel⟩, List.mem_of_getElem? (i := 1094) (by decide +kernel), List.mem_of_getElem? (i := 1467) (by decide +kernel), List.mem_of_getElem? (i := 1468) (by decide +kernel)⟩
theorem lw_p78 : lw_okq (⟨"CommaOrphansModel", "notes", "(III)V"⟩, 53) := ⟨⟨by decide +kernel, by decide +kernel⟩, List.mem_of_getElem? (i := 1094) (by decide +kernel), List.mem_of_getElem? (i := 1471) (by decide +kernel), List.mem_of_getElem? (i := 1472) (by decide +kernel)⟩
theorem lw_p79 : lw_okq (⟨"CommaOrphansModel", "signsOf", "(I)I"⟩, 53) := ⟨⟨by decide +kernel, by decide +kernel⟩, List.mem_of_getElem? (i := 1094) (by decide +kernel), List.mem_of_getElem? (i := 1483) (by decide +kernel), List.mem_of_getElem? (i := 1484) (by decide +kernel)⟩
def lw_privs_5 : List (MethodName × Nat) := [(⟨"CommaOrphansModel", "thinksOfPage", "()V"⟩, 53), (⟨"CommaOrphansModel", "draw", "(I)I"⟩, 53), (⟨"CommaOrphansModel", "ownerOf", "(I)I"⟩, 53), (⟨"CommaOrphansModel", "leastSignOf", "(I)I"⟩, 53), (⟨"CommaOrphansModel", "prints", "(I)Z"⟩, 53), (⟨"CommaOrphansModel", "canPrint", "(I)Z"⟩, 53), (⟨"CommaOrphansModel", "paysAt", "(I)I"⟩, 53), (⟨"CommaOrphansModel", "longAt", "(I)I"⟩, 53), (⟨"CommaOrphansModel", "isLetterAt", "(I)Z"⟩, 53), (⟨"CommaOrphansModel", "usedAt", "(I)I"⟩, 53), (⟨"CommaOrphansModel", "isVowel", "(I)Z"⟩, 53), (⟨"CommaOrphansModel", "isSo", "(I)Z"⟩, 53), (⟨"CommaOrphansModel", "runs", "(II)I"⟩, 53), (⟨"CommaOrphansModel", "twoOf", "(III)I"⟩, 53), (⟨"CommaOrphansModel", "notes", "(III)V"⟩, 53), (⟨"CommaOrphansModel", "signsOf", "(I)I"⟩, 53)]
theorem lw_r5 : ∀ q ∈ lw_privs_5, lw_okq q := List.forall_mem_cons.mpr ⟨lw_p64, List.forall_mem_cons.mpr ⟨lw_p65, List.forall_mem_cons.mpr ⟨lw_p66, List.forall_mem_cons.mpr ⟨lw_p67, List.forall_mem_cons.mpr ⟨lw_p68, List.forall_mem_cons.mpr ⟨lw_p69, List.forall_mem_cons.mpr ⟨lw_p70, List.forall_mem_cons.mpr ⟨lw_p71, List.forall_mem_cons.mpr ⟨lw_p72, List.forall_mem_cons.mpr ⟨lw_p73, List.forall_mem_cons.mpr ⟨lw_p74, List.forall_mem_cons.mpr ⟨lw_p75, List.forall_mem_cons.mpr ⟨lw_p76, List.forall_mem_cons.mpr ⟨lw_p77, List.forall_mem_cons.mpr ⟨lw_p78, List.forall_mem_cons.mpr ⟨lw_p79, fun _ h => absurd h List.not_mem_nil⟩⟩⟩⟩⟩⟩⟩⟩⟩⟩⟩⟩⟩⟩⟩⟩
theorem lw_p80 : lw_okq (⟨"CommaOrphansModel", "earnsByPage", "(I)I"⟩, 53) := ⟨⟨by decide +kernel, by decide +kernel⟩, List.mem_of_getElem? (i := 1094) (by decide +kernel), List.mem_of_getElem? (i := 1487) (by decide +kernel), List.mem_of_getElem? (i := 1488) (by decide +kernel)⟩
theorem lw_p81 : lw_okq (⟨"CommaOrphansModel", "findsEarnings", "()V"⟩, 53) := ⟨⟨by decide +kernel, by decide +kernel⟩, List.mem_of_getElem? (i := 1094) (by decide +kernel), List.mem_of_getElem? (i := 1491) (by decide +kernel), List.mem_of_getElem? (i := 1492) (by decide +kernel)⟩
theorem lw_p82 : lw_okq (⟨"CommaOrphansModel", "doAllEat", "()Z"⟩, 53) := ⟨⟨by decide +kernel, by decide +kernel⟩, List.mem_of_getElem? (i := 1094) (by decide +kernel), List.mem_of_getElem? (i := 1515) (by decide +kernel), List.mem_of_getElem? (i := 1516) (by decide +kernel)⟩
theorem lw_p83 : lw_okq (⟨"CommaOrphansModel", "mustEat", "(I)Z"⟩, 53) := ⟨⟨by decide +kernel, by decide +kernel⟩, List.mem_of_getElem? (i := 1094) (by decide +kernel), List.mem_of_getElem? (i := 1519) (by decide +kernel), List.mem_of_getElem? (i := 1520) (by decide +kernel)⟩
theorem lw_p84 : lw_okq (⟨"CommaOrphansModel", "canBeOne", "(I)Z"⟩, 53) := ⟨⟨by decide +kernel, by decide +kernel⟩, List.mem_of_getElem? (i := 1094) (by decide +kernel), List.mem_of_getElem? (i := 1523) (by decide +kernel), List.mem_of_getElem? (i := 1524) (by decide +kernel)⟩
theorem lw_p85 : lw_okq (⟨"CommaOrphansModel", "canBeTwo", "(II)Z"⟩, 53) := ⟨⟨by decide +kernel, by decide +kernel⟩, List.mem_of_getElem? (i := 1094) (by decide +kernel), List.mem_of_getElem? (i := 1527) (by decide +kernel), List.mem_of_getElem? (i := 1528) (by decide +kernel)⟩
theorem lw_p86 : lw_okq (⟨"CommaOrphansModel", "buys", "(IIII)V"⟩, 53) := ⟨⟨by decide +kernel, by decide +kernel⟩, List.mem_of_getElem? (i := 1094) (by decide +kernel), List.mem_of_getElem? (i := 1535) (by decide +kernel), List.mem_of_getElem? (i := 1536) (by decide +kernel)⟩
theorem lw_p87 : lw_okq (⟨"CommaOrphansModel", "earnsBy", "(IIII)I"⟩, 53) := ⟨⟨by decide +kernel, by decide +kernel⟩, List.mem_of_getElem? (i := 1094) (by decide +kernel), List.mem_of_getElem? (i := 1539) (by decide +kernel), List.mem_of_getElem? (i := 1540) (by decide +kernel)⟩
theorem lw_p88 : lw_okq (⟨"CommaOrphansModel", "adds", "(I)V"⟩, 53) := ⟨⟨by decide +kernel, by decide +kernel⟩, List.mem_of_getElem? (i := 1094) (by decide +kernel), List.mem_of_getElem? (i := 1543) (by decide +kernel), List.mem_of_getElem? (i := 1544) (by decide +kernel)⟩
theorem lw_p89 : lw_okq (⟨"CommaOrphansModel", "othersEarn", "(I)I"⟩, 53) := ⟨⟨by decide +kernel, by decide +kernel⟩, List.mem_of_getElem? (i := 1094) (by decide +kernel), List.mem_of_getElem? (i := 1556) (by decide +kernel), List.mem_of_getElem? (i := 1557) (by decide +kernel)⟩
theorem lw_p90 : lw_okq (⟨"CommaOrphansModel", "gapsOfRow", "()I"⟩, 53) := ⟨⟨by decide +kernel, by decide +kernel⟩, List.mem_of_getElem? (i := 1094) (by decide +kernel), List.mem_of_getElem? (i := 1560) (by decide +kernel), List.mem_of_getElem? (i := 1561) (by decide +kernel)⟩
theorem lw_p91 : lw_okq (⟨"CommaOrphansModel", "isBetter", "(II)Z"⟩, 53) := ⟨⟨by decide +kernel, by decide +kernel⟩, List.mem_of_getElem? (i := 1094) (by decide +kernel), List.mem_of_getElem? (i := 1568) (by decide +kernel), List.mem_of_getElem? (i := 1569) (by decide +kernel)⟩
theorem lw_p92 : lw_okq (⟨"CommaOrphansModel", "changes", "(II)V"⟩, 53) := ⟨⟨by decide +kernel, by decide +kernel⟩, List.mem_of_getElem? (i := 1094) (by decide +kernel), List.mem_of_getElem? (i := 1572) (by decide +kernel), List.mem_of_getElem? (i := 1573) (by decide +kernel)⟩
theorem lw_p93 : lw_okq (⟨"CommaOrphansModel", "kept", "(I)I"⟩, 53) := ⟨⟨by decide +kernel, by decide +kernel⟩, List.mem_of_getElem? (i := 1094) (by decide +kernel), List.mem_of_getElem? (i := 1584) (by decide +kernel), List.mem_of_getElem? (i := 1585) (by decide +kernel)⟩
theorem lw_p94 : lw_okq (⟨"CommaOrphansModel", "keepsRows", "()V"⟩, 53) := ⟨⟨by decide +kernel, by decide +kernel⟩, List.mem_of_getElem? (i := 1094) (by decide +kernel), List.mem_of_getElem? (i := 1588) (by decide +kernel), List.mem_of_getElem? (i := 1589) (by decide +kernel)⟩
theorem lw_p95 : lw_okq (⟨"CommaOrphansModel", "keepsLaw", "()V"⟩, 53) := ⟨⟨by decide +kernel, by decide +kernel⟩, List.mem_of_getElem? (i := 1094) (by decide +kernel), List.mem_of_getElem? (i := 1592) (by decide +kernel), List.mem_of_getElem? (i := 1593) (by decide +kernel)⟩
def lw_privs_6 : List (MethodName × Nat) := [(⟨"CommaOrphansModel", "earnsByPage", "(I)I"⟩, 53), (⟨"CommaOrphansModel", "findsEarnings", "()V"⟩, 53), (⟨"CommaOrphansModel", "doAllEat", "()Z"⟩, 53), (⟨"CommaOrphansModel", "mustEat", "(I)Z"⟩, 53), (⟨"CommaOrphansModel", "canBeOne", "(I)Z"⟩, 53), (⟨"CommaOrphansModel", "canBeTwo", "(II)Z"⟩, 53), (⟨"CommaOrphansModel", "buys", "(IIII)V"⟩, 53), (⟨"CommaOrphansModel", "earnsBy", "(IIII)I"⟩, 53), (⟨"CommaOrphansModel", "adds", "(I)V"⟩, 53), (⟨"CommaOrphansModel", "othersEarn", "(I)I"⟩, 53), (⟨"CommaOrphansModel", "gapsOfRow", "()I"⟩, 53), (⟨"CommaOrphansModel", "isBetter", "(II)Z"⟩, 53), (⟨"CommaOrphansModel", "changes", "(II)V"⟩, 53), (⟨"CommaOrphansModel", "kept", "(I)I"⟩, 53), (⟨"CommaOrphansModel", "keepsRows", "()V"⟩, 53), (⟨"CommaOrphansModel", "keepsLaw", "()V"⟩, 53)]
theorem lw_r6 : ∀ q ∈ lw_privs_6, lw_okq q := List.forall_mem_cons.mpr ⟨lw_p80, List.forall_mem_cons.mpr ⟨lw_p81, List.forall_mem_cons.mpr ⟨lw_p82, List.forall_mem_cons.mpr ⟨lw_p83, List.forall_mem_cons.mpr ⟨lw_p84, List.forall_mem_cons.mpr ⟨lw_p85, List.forall_mem_cons.mpr ⟨lw_p86, List.forall_mem_cons.mpr ⟨lw_p87, List.forall_mem_cons.mpr ⟨lw_p88, List.forall_mem_cons.mpr ⟨lw_p89, List.forall_mem_cons.mpr ⟨lw_p90, List.forall_mem_cons.mpr ⟨lw_p91, List.forall_mem_cons.mpr ⟨lw_p92, List.forall_mem_cons.mpr ⟨lw_p93, List.forall_mem_cons.mpr ⟨lw_p94, List.forall_mem_cons.mpr ⟨lw_p95, fun _ h => absurd h List.not_mem_nil⟩⟩⟩⟩⟩⟩⟩⟩⟩⟩⟩⟩⟩⟩⟩⟩
def lw_privs : List (MethodName × Nat) := lw_privs_1 ++ (lw_privs_2 ++ (lw_privs_3 ++ (lw_privs_4 ++ (lw_privs_5 ++ (lw_privs_6)))))
def lw_tbl : List Cond := k2_sels lw_privs ++ tables_1
theorem lw_privs_ok : ∀ q ∈ lw_privs, lw_okq q := by
  show ∀ q ∈ lw_privs_1 ++ (lw_privs_2 ++ (lw_privs_3 ++ (lw_privs_4 ++ (lw_privs_5 ++ (lw_privs_6))))), lw_okq q
  exact List.forall_mem_append.mpr ⟨lw_r1, List.forall_mem_append.mpr ⟨lw_r2, List.forall_mem_append.mpr ⟨lw_r3, List.forall_mem_append.mpr ⟨lw_r4, List.forall_mem_append.mpr ⟨lw_r5, lw_r6⟩⟩⟩⟩⟩
-- ===== end of PART A; then your names; then what follows =====
end
section
/-! ===== A small machine over cells with numbers: what a method does, as a function. Cells: an array (type, length), or an object (number of its class, its fields: none: an int; some 0: null; some (d + 1): cell d). A reference on its stack is the number of a cell. ===== -/
abbrev x_S : Type := (FieldType × Nat) ⊕ (Nat × List (Option Nat))
abbrev x_T : Type := List x_S × (Nat → Nat → Int32) × (Nat → Nat → Int64)
abbrev x_L : Type := List (Option Value)
abbrev x_Z : Type := Option (Option Value × x_T)
/-- an int of a cell is written -/
def x_si (T : x_T) (c k : Nat) (v : Int32) : x_T := (T.1, va_up T.2.1 c (upd (T.2.1 c) k v), T.2.2)
/-- all ints of a cell -/
def x_sf (T : x_T) (c : Nat) (f : Nat → Int32) : x_T := (T.1, va_up T.2.1 c f, T.2.2)
def x_sl (T : x_T) (c k : Nat) (v : Int64) : x_T := (T.1, T.2.1, va_up T.2.2 c (vp_updL (T.2.2 c) k v))
/-- a new cell, all 0 -/
def x_new (T : x_T) (sh : x_S) : x_T := (T.1 ++ [sh], va_up T.2.1 T.1.length (fun _ => 0), va_up T.2.2 T.1.length (fun _ => 0))
/-- a reference in a field of an object -/
def x_sr (T : x_T) (c ci k : Nat) (fs : List (Option Nat)) (d : Nat) : x_T := (T.1.set c (.inr (ci, fs.set k (some (d + 1)))), T.2.1, T.2.2)
/-- how many slots the cells have -/
def x_z1 : x_S → Nat
  | .inl q => q.2
  | .inr q => q.2.length
def x_z : List x_S → Nat
  | [] => 0
  | a :: l => x_z1 a + x_z l
/-- all references of a list of values lie below n -/
def x_okv (n : Nat) : Value → Bool
  | .ref i => Nat.blt i n
  | _ => true
def x_okl (n : Nat) (lv : x_L) : Bool := lv.all (fun o => match o with | some v => x_okv n v | none => true)
def x_oks (n : Nat) (st : List Value) : Bool := st.all (x_okv n)
def x_okT (n : Nat) (sh : List x_S) : Bool := sh.all (fun q => match q with | .inr o => o.2.all (fun r => match r with | some (d + 1) => Nat.blt d n | _ => true) | _ => true)
/-- no long lies just ahead of place i -/
def x_okp (lv : x_L) : Nat → Bool
  | 0 => true
  | i + 1 => match lv[i]? with
    | some (some (.long _)) => false
    | some (some (.double _)) => false
    | _ => true
/-- i is a place of a row of n -/
def x_in (i : Int32) (n : Nat) : Bool := decide (0 ≤ i.toInt) && decide (i.toInt < n)
def x_cmp (c : ClassFile.Cond) (x y : Int32) : Bool := match c with
  | .eq => decide (x = y)
  | .ne => !decide (x = y)
  | .lt => decide (x < y)
  | .ge => decide (y ≤ x)
  | .gt => decide (y < x)
  | .le => decide (x ≤ y)
/-- how many words a stack has -/
def x_sm (st : List Value) : Nat := (st.map fun v => v.category).sum
def x_pick (lo : Int) (offs : List Int) (d : Int) (x : Int32) : Int := if x.toInt < lo then d else (offs[(x.toInt - lo).toNat]?).getD d
/-- the number of a field that is written: an int's as it is, a boolean's 1000 more, a reference's 2000 more -/
def x_kk (k : Nat) : Nat := if k < 1000 then k else if k < 2000 then k - 1000 else k - 2000
/-- a check that a run passes, else it has no answer -/
def x_g (b : Bool) (k : x_Z) : x_Z := match b with
  | true => k
  | false => none
theorem x_g_some {b : Bool} {k : x_Z} {q : Option Value × x_T} (h : x_g b k = some q) : b = true ∧ k = some q := by
  cases b
  · cases h
  · exact ⟨rfl, h⟩
/-- rows that are only read: their lengths and numbers -/
abbrev x_Xt : Type := Nat → Option (Nat × (Nat → Int32))
def x_nx : x_Xt := fun _ => none
/-- a plain instruction (resolved: .iconst any int, .jsr a long, .invokeinterface ci k a field read, .multianewarray ci k a field written, .pop Object's constructor, .invokedynamic 0 1 2 max min arraycopy); K: what follows -/
def x_s1 (XT : x_Xt) (i : Instr) (lv : x_L) (st : List Value) (T : x_T) (K : x_L → List Value → x_T → x_Z) : x_Z :=
  match i with
  | .iconst v => K lv (.int (Int32.ofInt v) :: st) T
  | .jsr v => K lv (.long (Int64.ofInt v) :: st) T
  | .ldc j => K lv (.retAddr j :: st) T
  | .iload i => match lv[i]? with
    | some (some (.int x)) => K lv (.int x :: st) T
    | _ => none
  | .lload i => match lv[i]? with
    | some (some (.long x)) => K lv (.long x :: st) T
    | _ => none
  | .aload i => match lv[i]? with
    | some (some (.ref x)) => K lv (.ref x :: st) T
    | some (some (.retAddr x)) => K lv (.retAddr x :: st) T
    | _ => none
  | .istore i => match st with
    | .int x :: st => x_g (x_okp lv i && Nat.blt i lv.length) (K (lv.set i (some (.int x))) st T)
    | _ => none
  | .lstore i => match st with
    | .long x :: st => x_g (x_okp lv i && Nat.blt (i + 1) lv.length) (K ((lv.set i (some (.long x))).set (i + 1) none) st T)
    | _ => none
  | .astore i => match st with
    | .ref x :: st => x_g (x_okp lv i && Nat.blt i lv.length) (K (lv.set i (some (.ref x))) st T)
    | _ => none
  | .iinc i n => match lv[i]? with
    | some (some (.int x)) => x_g (x_okp lv i) (K (lv.set i (some (.int (x + Int32.ofInt n)))) st T)
    | _ => none
  | .iadd => match st with
    | .int y :: .int x :: st => K lv (.int (x + y) :: st) T
    | _ => none
  | .isub => match st with
    | .int y :: .int x :: st => K lv (.int (x - y) :: st) T
    | _ => none
  | .imul => match st with
    | .int y :: .int x :: st => K lv (.int (x * y) :: st) T
    | _ => none
  | .idiv => match st with
    | .int y :: .int x :: st => if y = 0 then none else K lv (.int (x / y) :: st) T
    | _ => none
  | .irem => match st with
    | .int y :: .int x :: st => if y = 0 then none else K lv (.int (x - x / y * y) :: st) T
    | _ => none
  | .iand => match st with
    | .int y :: .int x :: st => K lv (.int (x &&& y) :: st) T
    | _ => none
  | .ior => match st with
    | .int y :: .int x :: st => K lv (.int (x ||| y) :: st) T
    | _ => none
  | .ishl => match st with
    | .int y :: .int x :: st => K lv (.int (x <<< (y &&& 31)) :: st) T
    | _ => none
  | .ishr => match st with
    | .int y :: .int x :: st => K lv (.int (x >>> (y &&& 31)) :: st) T
    | _ => none
  | .iushr => match st with
    | .int y :: .int x :: st => K lv (.int (x.toUInt32 >>> (y.toUInt32 &&& Int32.toUInt32 31)).toInt32 :: st) T
    | _ => none
  | .ladd => match st with
    | .long y :: .long x :: st => K lv (.long (x + y) :: st) T
    | _ => none
  | .lmul => match st with
    | .long y :: .long x :: st => K lv (.long (x * y) :: st) T
    | _ => none
  | .ldiv => match st with
    | .long y :: .long x :: st => if y = 0 then none else K lv (.long (x / y) :: st) T
    | _ => none
  | .land => match st with
    | .long y :: .long x :: st => K lv (.long (x &&& y) :: st) T
    | _ => none
  | .lor => match st with
    | .long y :: .long x :: st => K lv (.long (x ||| y) :: st) T
    | _ => none
  | .lshl => match st with
    | .int y :: .long x :: st => K lv (.long (x <<< (y.toInt64 &&& 63)) :: st) T
    | _ => none
  | .lushr => match st with
    | .int y :: .long x :: st => K lv (.long (x.toUInt64 >>> (y.toInt64.toUInt64 &&& Int64.toUInt64 63)).toInt64 :: st) T
    | _ => none
  | .lcmp => match st with
    | .long y :: .long x :: st => K lv (.int (lg_cmp x y) :: st) T
    | _ => none
  | .i2l => match st with
    | .int x :: st => K lv (.long x.toInt64 :: st) T
    | _ => none
  | .l2i => match st with
    | .long x :: st => K lv (.int x.toInt32 :: st) T
    | _ => none
  | .i2c => match st with
    | .int x :: st => K lv (.int (x.toUInt32 % 65536).toInt32 :: st) T
    | _ => none
  | .dup => match st with
    | .int x :: st => K lv (.int x :: .int x :: st) T
    | .ref x :: st => K lv (.ref x :: .ref x :: st) T
    | _ => none
  | .dup2 => match st with
    | .int y :: .ref x :: st => K lv (.int y :: .ref x :: .int y :: .ref x :: st) T
    | _ => none
  | .pop => match st with
    | .ref _ :: st => x_g (Nat.ble (x_sm st) 8) (K lv st T)
    | _ => none
  | .arraylength => match st with
    | .ref a :: st => match T.1[a]? with
      | some (.inl q) => x_g (decide (q.1 = .int ∨ q.1 = .boolean ∨ q.1 = .long)) (K lv (.int (Int32.ofNat q.2) :: st) T)
      | _ => none
    | .retAddr a :: st => match XT a with
      | some q => K lv (.int (Int32.ofNat q.1) :: st) T
      | none => none
    | _ => none
  | .invokeinterface ci k => match st with
    | .ref a :: st => match T.1[a]? with
      | some (.inr o) => x_g (Nat.beq o.1 ci) (match o.2[k]? with
        | some none => K lv (.int (T.2.1 a k) :: st) T
        | some (some (d + 1)) => K lv (.ref d :: st) T
        | _ => none)
      | _ => none
    | _ => none
  | .iaload => match st with
    | .int i :: .ref a :: st => match T.1[a]? with
      | some (.inl (.int, n)) => if x_in i n then K lv (.int (T.2.1 a i.toNatClampNeg) :: st) T else none
      | _ => none
    | .int i :: .retAddr a :: st => match XT a with
      | some q => if x_in i q.1 then K lv (.int (q.2 i.toNatClampNeg) :: st) T else none
      | none => none
    | _ => none
  | .baload => match st with
    | .int i :: .ref a :: st => match T.1[a]? with
      | some (.inl (.boolean, n)) => if x_in i n then K lv (.int (T.2.1 a i.toNatClampNeg) :: st) T else none
      | _ => none
    | _ => none
  | .laload => match st with
    | .int i :: .ref a :: st => match T.1[a]? with
      | some (.inl (.long, n)) => if x_in i n then K lv (.long (T.2.2 a i.toNatClampNeg) :: st) T else none
      | _ => none
    | _ => none
  | .iastore => match st with
    | .int x :: .int i :: .ref a :: st => match T.1[a]? with
      | some (.inl (.int, n)) => if x_in i n then K lv st (x_si T a i.toNatClampNeg x) else none
      | _ => none
    | _ => none
  | .bastore => match st with
    | .int x :: .int i :: .ref a :: st => match T.1[a]? with
      | some (.inl (.boolean, n)) => if x_in i n then K lv st (x_si T a i.toNatClampNeg (vp_nar .boolean x)) else none
      | _ => none
    | _ => none
  | .lastore => match st with
    | .long x :: .int i :: .ref a :: st => match T.1[a]? with
      | some (.inl (.long, n)) => if x_in i n then K lv st (x_sl T a i.toNatClampNeg x) else none
      | _ => none
    | _ => none
  | .multianewarray ci k => match st with
    | .int v :: .ref a :: st => match T.1[a]? with
      | some (.inr o) => x_g (Nat.beq o.1 ci && Nat.blt k 2000) (match o.2[x_kk k]? with
        | some none => x_g (Nat.blt k 1000 || decide (v = 0 ∨ v = 1)) (K lv st (x_si T a (x_kk k) v))
        | _ => none)
      | _ => none
    | .ref d :: .ref a :: st => match T.1[a]? with
      | some (.inr o) => x_g (Nat.beq o.1 ci && Nat.ble 2000 k && Nat.blt (x_kk k) o.2.length) (K lv st (x_sr T a ci (x_kk k) o.2 d))
      | _ => none
    | _ => none
  | .newarray ty => match st with
    | .int n :: st => x_g (decide (¬ n < 0 ∧ n.toNatClampNeg ≤ 100000 ∧ (ty = .int ∨ ty = .boolean ∨ ty = .long) ∧ x_okl T.1.length lv ∧ x_oks T.1.length st ∧ x_okT T.1.length T.1)) (K lv (.ref T.1.length :: st) (x_new T (.inl (newarray.typeOf ty, n.toNatClampNeg))))
    | _ => none
  | .invokedynamic 0 => match st with
    | .int y :: .int x :: st => x_g (Nat.ble (x_sm st) 8) (K lv (.int (if x < y then y else x) :: st) T)
    | _ => none
  | .invokedynamic 1 => match st with
    | .int y :: .int x :: st => x_g (Nat.ble (x_sm st) 8) (K lv (.int (if y < x then y else x) :: st) T)
    | _ => none
  | .invokedynamic 2 => match st with
    | .int n :: .int dp :: .ref b :: .int sp :: .ref a :: st => match T.1[a]?, T.1[b]? with
      | some (.inl (.int, na)), some (.inl (.int, nb)) => if x_sm st ≤ 8 ∧ ¬ sp < 0 ∧ ¬ dp < 0 ∧ ¬ n < 0 ∧ sp.toNatClampNeg + n.toNatClampNeg ≤ na ∧ dp.toNatClampNeg + n.toNatClampNeg ≤ nb then K lv st (x_sf T b (va_cpy (T.2.1 a) (T.2.1 b) sp.toNatClampNeg dp.toNatClampNeg n.toNatClampNeg)) else none
      | _, _ => none
    | _ => none
  | _ => none
/-- what follows a call -/
def x_bd (o : x_Z) (K : Option Value → x_T → x_Z) : x_Z := match o with
  | some q => K q.1 q.2
  | none => none
theorem x_bd_some {o : x_Z} {K : Option Value → x_T → x_Z} {q : Option Value × x_T} (h : x_bd o K = some q) : ∃ v T', o = some (v, T') ∧ K v T' = some q := by
  cases o with
  | none => cases h
  | some p => exact ⟨p.1, p.2, rfl, h⟩
/-- what the machine knows of the classes and methods: the fields of a class, all of ints 0 and references null; of a method how many parameters it has and the class of its receiver; how many slots its frame has; its code -/
abbrev x_E : Type := (Nat → List (Option Nat)) × (Nat → Nat × Nat) × (Nat → Nat) × (Nat → List Instr)
/-- from an instruction on (rest: the code from there), k steps at most, a jump back is B's, a call is O's -/
def x_ev (E : x_E) (XT : x_Xt) (O : Nat → List Value → x_T → x_Z) (B : Nat → x_L → x_T → x_Z) (code : List Instr) : Nat → List Instr → x_L → List Value → x_T → x_Z
  | 0, _, _, _, _ => none
  | _ + 1, [], _, _, _ => none
  | k + 1, i :: rest, lv, st, T => match i with
    | .goto j => x_ev E XT O B code k (code.drop j.toNat) lv st T
    | .jsr_w j => match st with
      | [] => B j.toNat lv T
      | _ => none
    | .ifCond c j => match st with
      | .int x :: st => if x_cmp c x 0 then (match j with
        | .ofNat t => x_ev E XT O B code k (code.drop t) lv st T
        | .negSucc t => (match st with
          | [] => B t lv T
          | _ => none)) else x_ev E XT O B code k rest lv st T
      | _ => none
    | .if_icmp c j => match st with
      | .int y :: .int x :: st => if x_cmp c x y then (match j with
        | .ofNat t => x_ev E XT O B code k (code.drop t) lv st T
        | .negSucc t => (match st with
          | [] => B t lv T
          | _ => none)) else x_ev E XT O B code k rest lv st T
      | _ => none
    | .tableswitch d lo _ offs => match st with
      | .int x :: st => x_ev E XT O B code k (code.drop (x_pick lo offs.toList d x).toNat) lv st T
      | _ => none
    | .lookupswitch d ps => match st with
      | .int x :: st => x_ev E XT O B code k (code.drop (Op.lookupswitch.offset ps.toList d x.toInt).toNat) lv st T
      | _ => none
    | .return_ => match st with
      | [] => some (none, T)
      | _ => none
    | .ireturn => match st with
      | [.int v] => some (some (.int v), T)
      | _ => none
    | .areturn => match st with
      | [.int v] => x_g (decide (v = 0 ∨ v = 1)) (some (some (.int v), T))
      | _ => none
    | .lreturn => match st with
      | [.long v] => some (some (.long v), T)
      | _ => none
    | .new ci => x_g (x_okl T.1.length lv && x_oks T.1.length st && x_okT T.1.length T.1) (x_ev E XT O B code k rest lv (.ref T.1.length :: st) (x_new T (.inr (ci, E.1 ci))))
    | .invokevirtual μ => match st.drop (E.2.1 μ).1 with
      | .ref b :: r => match T.1[b]? with
        | some (.inr o) => x_g (Nat.beq o.1 (E.2.1 μ).2 && (Nat.ble (x_sm r) 8 && (x_okl T.1.length lv && x_oks T.1.length r))) (x_bd (O μ (.ref b :: (st.take (E.2.1 μ).1).reverse) T) (fun v T' => x_ev E XT O B code k rest lv (v.toList ++ r) T'))
        | _ => none
      | _ => none
    | .checkcast μ => match st.drop (E.2.1 μ).1 with
      | .retAddr b :: r => x_g (Nat.blt b 2 && (Nat.ble (x_sm r) 8 && (x_okl T.1.length lv && x_oks T.1.length r))) (x_bd (O μ (.retAddr b :: (st.take (E.2.1 μ).1).reverse) T) (fun v T' => x_ev E XT O B code k rest lv (v.toList ++ r) T'))
      | _ => none
    | .invokespecial μ => match st.drop (E.2.1 μ).1 with
      | .ref b :: r => x_g (Nat.ble (x_sm r) 8 && (x_okl T.1.length lv && x_oks T.1.length r)) (x_bd (O μ (.ref b :: (st.take (E.2.1 μ).1).reverse) T) (fun v T' => x_ev E XT O B code k rest lv (v.toList ++ r) T'))
      | _ => none
    | .invokestatic μ => x_g (Nat.ble (x_sm (st.drop (E.2.1 μ).1)) 8 && (Nat.ble (E.2.1 μ).1 st.length && (x_okl T.1.length lv && x_oks T.1.length (st.drop (E.2.1 μ).1)))) (x_bd (O μ (st.take (E.2.1 μ).1).reverse T) (fun v T' => x_ev E XT O B code k rest lv (v.toList ++ st.drop (E.2.1 μ).1) T'))
    | i => x_s1 XT i lv st T (fun lv st T => x_ev E XT O B code k rest lv st T)
/-- a loop's head comes up n times at most -/
def x_lp (E : x_E) (XT : x_Xt) (O : Nat → List Value → x_T → x_Z) (code : List Instr) (k : Nat) : Nat → Nat → x_L → x_T → x_Z
  | 0, _, _, _ => none
  | n + 1, j, lv, T => x_ev E XT O (x_lp E XT O code k n) code k (code.drop j) lv [] T
/-- the first locals of a method -/
def x_ar : List Value → x_L
  | [] => []
  | v :: l => if v.category = 2 then some v :: none :: x_ar l else some v :: x_ar l
/-- a method, calls d deep, each loop's head n times at most; from number 1000 on the methods are others' (SO) -/
def x_P (E : x_E) (SO : Nat → List Value → x_T → x_Z) (k n : Nat) : Nat → Nat → List Value → x_T → x_Z
  | 0, _, _, _ => none
  | d + 1, μ, vs, T => if Nat.ble 1000 μ then (if Nat.ble 8 d then SO μ vs T else none) else if (x_ar vs).length ≤ E.2.2.1 μ then x_ev E x_nx (x_P E SO k n d) (x_lp E x_nx (x_P E SO k n d) (E.2.2.2 μ) k n) (E.2.2.2 μ) k (E.2.2.2 μ) (x_ar vs ++ List.replicate (E.2.2.1 μ - (x_ar vs).length) none) [] T else none
end
section
/-! ===== the small machine's cells in the heap: ad: the address of a cell, sad: of a text; C: the class of an array by its type ===== -/
def x_val (ad sad : Nat → Nat) : Value → Value
  | .ref i => .ref (ad i)
  | .retAddr j => .ref (sad j)
  | v => v
def x_fv (ad : Nat → Nat) (f : Nat → Int32) (k : Nat) : Option Nat → Value
  | none => .int (f k)
  | some 0 => .null
  | some (d + 1) => .ref (ad d)
def x_vp (ty : FieldType) (n : Nat) (f : Nat → Int32) (g : Nat → Int64) : vp_A := (n, if ty = .long then .inr (.inl g) else .inl f)
def x_ent (ad : Nat → Nat) (C : FieldType → ClassId) (f : Nat → Int32) (g : Nat → Int64) : x_S → va_E
  | .inl q => .inl (C q.1, x_vp q.1 q.2 f g)
  | .inr o => .inr (o.1, o.2.mapIdx (fun k r => x_fv ad f k r))
def x_W (ad : Nat → Nat) (C : FieldType → ClassId) (T : x_T) : va_W := T.1.mapIdx (fun c sh => (ad c, x_ent ad C (T.2.1 c) (T.2.2 c) sh))
def x_ls (ad sad : Nat → Nat) (ls : Array Slot) (nL : Nat) (lv : x_L) : Prop := ∃ l : List (Nat × Value), lv_has ls nL l ∧ lv.length = nL ∧ ∀ (j : Nat) (v : Value), lv[j]? = some (some v) → (j, x_val ad sad v) ∈ l
theorem x_W_len (ad : Nat → Nat) (C : FieldType → ClassId) (T : x_T) : (x_W ad C T).length = T.1.length := by simp [x_W]
theorem x_W_get {ad : Nat → Nat} {C : FieldType → ClassId} {T : x_T} {a : Nat} {sh : x_S} (h : T.1[a]? = some sh) : (x_W ad C T)[a]? = some (ad a, x_ent ad C (T.2.1 a) (T.2.2 a) sh) := by
  simp [x_W, List.getElem?_mapIdx, h]
theorem x_W_of {ad : Nat → Nat} {C : FieldType → ClassId} {T : x_T} {a : Nat} {q : Nat × va_E} (h : (x_W ad C T)[a]? = some q) : ∃ sh, T.1[a]? = some sh ∧ q = (ad a, x_ent ad C (T.2.1 a) (T.2.2 a) sh) := by
  simp only [x_W, List.getElem?_mapIdx] at h
  cases hs : T.1[a]? with
  | none => simp [hs] at h
  | some sh => simp [hs] at h; exact ⟨sh, rfl, h.symm⟩
/-- one cell is another: the world with that cell set -/
theorem x_W_set {ad : Nat → Nat} {C : FieldType → ClassId} {T U : x_T} {a : Nat} {sh sh' : x_S} (h : T.1[a]? = some sh) (hl : U.1 = T.1.set a sh') (hf : ∀ b, b ≠ a → U.2.1 b = T.2.1 b) (hg : ∀ b, b ≠ a → U.2.2 b = T.2.2 b) : (x_W ad C T).set a (ad a, x_ent ad C (U.2.1 a) (U.2.2 a) sh') = x_W ad C U := by
  have ha : a < T.1.length := (List.getElem?_eq_some_iff.mp h).1
  apply List.ext_getElem?
  intro j
  by_cases hj : j = a
  · subst hj
    rw [List.getElem?_set_self (by rw [x_W_len]; exact ha), x_W_get (sh := sh') (by rw [hl, List.getElem?_set_self ha])]
  · rw [List.getElem?_set_ne (Ne.symm hj)]
    simp only [x_W, List.getElem?_mapIdx, hl, List.getElem?_set_ne (Ne.symm hj), hf j hj, hg j hj]
theorem x_set_self {α : Type} {l : List α} {a : Nat} {x : α} (h : l[a]? = some x) : l = l.set a x := by
  apply List.ext_getElem?
  intro j
  by_cases hj : j = a
  · subst hj
    rw [List.getElem?_set_self (List.getElem?_eq_some_iff.mp h).1, h]
  · rw [List.getElem?_set_ne (Ne.symm hj)]
theorem x_up_s {α : Type} (f : Nat → α) (k : Nat) (v : α) : va_up f k v k = v := if_pos rfl
theorem x_up_n {α : Type} (f : Nat → α) {k j : Nat} (v : α) (h : j ≠ k) : va_up f k v j = f j := if_neg h
/-- an int of an array -/
theorem x_W_ia {ad : Nat → Nat} {C : FieldType → ClassId} {T : x_T} {a n k : Nat} {ty : FieldType} {v : Int32} (h : T.1[a]? = some (.inl (ty, n))) (hty : ty ≠ .long) : (x_W ad C T).set a (ad a, .inl (C ty, n, .inl (upd (T.2.1 a) k v))) = x_W ad C (x_si T a k v) := by
  have h1 := x_W_set (ad := ad) (C := C) (U := x_si T a k v) (sh' := .inl (ty, n)) h (x_set_self h) (fun b hb => x_up_n _ _ hb) (fun b hb => rfl)
  rw [← h1]
  simp [x_ent, x_vp, hty, x_si, x_up_s]
theorem x_W_fa {ad : Nat → Nat} {C : FieldType → ClassId} {T : x_T} {a n : Nat} {ty : FieldType} {f : Nat → Int32} (h : T.1[a]? = some (.inl (ty, n))) (hty : ty ≠ .long) : (x_W ad C T).set a (ad a, .inl (C ty, n, .inl f)) = x_W ad C (x_sf T a f) := by
  have h1 := x_W_set (ad := ad) (C := C) (U := x_sf T a f) (sh' := .inl (ty, n)) h (x_set_self h) (fun b hb => x_up_n _ _ hb) (fun b hb => rfl)
  rw [← h1]
  simp [x_ent, x_vp, hty, x_sf, x_up_s]
theorem x_W_la {ad : Nat → Nat} {C : FieldType → ClassId} {T : x_T} {a n k : Nat} {v : Int64} (h : T.1[a]? = some (.inl (.long, n))) : (x_W ad C T).set a (ad a, .inl (C .long, n, .inr (.inl (vp_updL (T.2.2 a) k v)))) = x_W ad C (x_sl T a k v) := by
  have h1 := x_W_set (ad := ad) (C := C) (U := x_sl T a k v) (sh' := .inl (.long, n)) h (x_set_self h) (fun b hb => rfl) (fun b hb => x_up_n _ _ hb)
  rw [← h1]
  simp [x_ent, x_vp, x_sl, x_up_s]
/-- an int field -/
theorem x_W_if {ad : Nat → Nat} {C : FieldType → ClassId} {T : x_T} {a k ci : Nat} {fs : List (Option Nat)} {v : Int32} (h : T.1[a]? = some (.inr (ci, fs))) (hk : fs[k]? = some none) : (x_W ad C T).set a (ad a, .inr (ci, (fs.mapIdx (fun k r => x_fv ad (T.2.1 a) k r)).set k (.int v))) = x_W ad C (x_si T a k v) := by
  have h1 := x_W_set (ad := ad) (C := C) (U := x_si T a k v) (sh' := .inr (ci, fs)) h (x_set_self h) (fun b hb => x_up_n _ _ hb) (fun b hb => rfl)
  rw [← h1]
  congr 1
  simp only [x_ent, x_si, x_up_s, Prod.mk.injEq, true_and, Sum.inr.injEq]
  have hlt : k < fs.length := (List.getElem?_eq_some_iff.mp hk).1
  apply List.ext_getElem?
  intro j
  by_cases hj : j = k
  · subst hj
    rw [List.getElem?_set_self (by simpa using hlt), List.getElem?_mapIdx, hk]
    simp [x_fv, upd]
  · rw [List.getElem?_set_ne (Ne.symm hj), List.getElem?_mapIdx, List.getElem?_mapIdx]
    cases fs[j]? with
    | none => rfl
    | some r => cases r with
      | none => simp [x_fv, upd, hj]
      | some d => cases d <;> simp [x_fv]
/-- a reference field -/
theorem x_W_rf {ad : Nat → Nat} {C : FieldType → ClassId} {T : x_T} {a k ci d : Nat} {fs : List (Option Nat)} (h : T.1[a]? = some (.inr (ci, fs))) (hk : k < fs.length) : (x_W ad C T).set a (ad a, .inr (ci, (fs.mapIdx (fun k r => x_fv ad (T.2.1 a) k r)).set k (.ref (ad d)))) = x_W ad C (x_sr T a ci k fs d) := by
  have h1 := x_W_set (ad := ad) (C := C) (U := x_sr T a ci k fs d) (sh' := .inr (ci, fs.set k (some (d + 1)))) h rfl (fun b hb => rfl) (fun b hb => rfl)
  rw [← h1]
  congr 1
  simp only [x_ent, x_sr, Prod.mk.injEq, true_and, Sum.inr.injEq]
  apply List.ext_getElem?
  intro j
  by_cases hj : j = k
  · subst hj
    rw [List.getElem?_set_self (by simpa using hk), List.getElem?_mapIdx, List.getElem?_set_self hk]
    simp [x_fv]
  · rw [List.getElem?_set_ne (Ne.symm hj), List.getElem?_mapIdx, List.getElem?_mapIdx, List.getElem?_set_ne (Ne.symm hj)]
/-- a new cell -/
theorem x_W_new {ad : Nat → Nat} {C : FieldType → ClassId} {T : x_T} {sh : x_S} {q : Nat} (hok : x_okT T.1.length T.1 = true) : x_W (va_up ad T.1.length q) C (x_new T sh) = x_W ad C T ++ [(q, x_ent (va_up ad T.1.length q) C (fun _ => 0) (fun _ => 0) sh)] := by
  apply List.ext_getElem?
  intro j
  rcases Nat.lt_trichotomy j T.1.length with hj | hj | hj
  · rw [List.getElem?_append_left (by rw [x_W_len]; exact hj)]
    obtain ⟨s0, hs0⟩ : ∃ s0, T.1[j]? = some s0 := ⟨T.1[j], List.getElem?_eq_getElem hj⟩
    rw [x_W_get hs0, x_W_get (sh := s0) (by show (T.1 ++ [sh])[j]? = _; rw [List.getElem?_append_left hj]; exact hs0)]
    have hne : j ≠ T.1.length := by omega
    simp only [x_new, x_up_n _ _ hne]
    have hall := List.all_eq_true.mp hok s0 (List.mem_of_getElem? hs0)
    cases s0 with
    | inl r => rfl
    | inr o =>
      simp only at hall
      have he : o.2.mapIdx (fun k r => x_fv (va_up ad T.1.length q) (T.2.1 j) k r) = o.2.mapIdx (fun k r => x_fv ad (T.2.1 j) k r) := by
        apply List.ext_getElem?
        intro i
        rw [List.getElem?_mapIdx, List.getElem?_mapIdx]
        cases hi : o.2[i]? with
        | none => rfl
        | some r =>
          have hr := List.all_eq_true.mp hall r (List.mem_of_getElem? hi)
          cases r with
          | none => rfl
          | some d => cases d with
            | zero => rfl
            | succ d =>
              have hd : d < T.1.length := by simpa using hr
              simp [x_fv, x_up_n ad q (show d ≠ T.1.length by omega)]
      simp [x_ent, he]
  · subst hj
    rw [List.getElem?_append_right (by rw [x_W_len]; exact Nat.le_refl _), x_W_len, Nat.sub_self]
    rw [x_W_get (sh := sh) (by show (T.1 ++ [sh])[T.1.length]? = _; rw [List.getElem?_append_right (Nat.le_refl _), Nat.sub_self]; rfl)]
    simp [x_new, x_up_s]
  · rw [List.getElem?_eq_none (by rw [x_W_len]; simp [x_new]; omega), List.getElem?_eq_none (by simp [x_W_len]; omega)]
/-- values keep their addresses, if a new cell comes -/
theorem x_val_up {ad sad : Nat → Nat} {n q : Nat} {v : Value} (h : x_okv n v = true) : x_val (va_up ad n q) sad v = x_val ad sad v := by
  cases v with
  | ref i =>
    have hi : i < n := by simpa [x_okv] using h
    simp [x_val, x_up_n ad q (Nat.ne_of_lt hi)]
  | _ => rfl
theorem x_val_ex {ad ad' sad : Nat → Nat} {n : Nat} (hx : ∀ i, i < n → ad' i = ad i) {v : Value} (h : x_okv n v = true) : x_val ad' sad v = x_val ad sad v := by
  cases v with
  | ref i =>
    have hi : i < n := by simpa [x_okv] using h
    simp [x_val, hx i hi]
  | _ => rfl
theorem x_st_ex {ad ad' sad : Nat → Nat} {n : Nat} (hx : ∀ i, i < n → ad' i = ad i) {st : List Value} (h : x_oks n st = true) : st.map (x_val ad' sad) = st.map (x_val ad sad) := by
  apply List.map_congr_left
  intro v hv
  exact x_val_ex hx (List.all_eq_true.mp h v hv)
theorem x_ls_ex {ad ad' sad : Nat → Nat} {n nL : Nat} {ls : Array Slot} {lv : x_L} (hx : ∀ i, i < n → ad' i = ad i) (h : x_okl n lv = true) (hl : x_ls ad sad ls nL lv) : x_ls ad' sad ls nL lv := by
  obtain ⟨l, h1, h2, h3⟩ := hl
  refine ⟨l, h1, h2, fun j v hj => ?_⟩
  have := List.all_eq_true.mp h _ (List.mem_of_getElem? hj)
  rw [x_val_ex hx this]
  exact h3 j v hj
theorem x_ls_get {ad sad : Nat → Nat} {nL j : Nat} {ls : Array Slot} {lv : x_L} {v : Value} (hl : x_ls ad sad ls nL lv) (hj : lv[j]? = some (some v)) : ls[j]? = some (.val (x_val ad sad v)) := by
  obtain ⟨l, h1, -, h3⟩ := hl
  exact h1.2.2 _ (h3 j v hj)
theorem x_in_vp {i : Int32} {n : Nat} (h : x_in i n = true) : vp_in i n := by
  simp only [x_in, Bool.and_eq_true, decide_eq_true_eq] at h
  exact vp_in_iff.mpr h
theorem x_z_app (a b : List x_S) : x_z (a ++ b) = x_z a + x_z b := by
  induction a with
  | nil => simp [x_z]
  | cons x l ih => simp [x_z, ih]; omega
theorem x_z_set {l : List x_S} {a : Nat} {x y : x_S} (h : l[a]? = some x) (he : x_z1 y = x_z1 x) : x_z (l.set a y) = x_z l := by
  induction l generalizing a with
  | nil => rfl
  | cons b l ih =>
    cases a with
    | zero => simp at h; subst h; simp [x_z, he]
    | succ a => simp at h; simp [x_z, ih h]
end
section
/-! ===== the plain instructions of the small machine, over the kit's rows ===== -/
/-- how a raw instruction of length len is meant; F: the constants of the class, Gp: the fields that may be written -/
def x_rs (F Gp : Nat → Option Instr) (raw : Instr) (len : Nat) (res : Instr) : Bool :=
  match raw with
  | .iconst v => len == 1 && decide (res = .iconst v)
  | .bipush v => len == 2 && decide (res = .iconst v) && decide ((Int8.ofInt v).toInt32 = Int32.ofInt v)
  | .sipush v => len == 3 && decide (res = .iconst v) && decide ((Int16.ofInt v).toInt32 = Int32.ofInt v)
  | .lconst n => len == 1 && decide (res = .jsr ((n : Nat) : Int))
  | .ldc ix => len == 2 && decide (F ix = some res) && (match res with | .iconst _ => true | .ldc _ => true | _ => false)
  | .ldc_w ix => len == 3 && decide (F ix = some res) && (match res with | .iconst _ => true | _ => false)
  | .ldc2_w ix => len == 3 && decide (F ix = some res) && (match res with | .jsr _ => true | _ => false)
  | .iload_n k => len == 1 && decide (res = .iload (k : Nat))
  | .lload_n k => len == 1 && decide (res = .lload (k : Nat))
  | .aload_n k => len == 1 && decide (res = .aload (k : Nat))
  | .istore_n k => len == 1 && decide (res = .istore (k : Nat))
  | .lstore_n k => len == 1 && decide (res = .lstore (k : Nat))
  | .astore_n k => len == 1 && decide (res = .astore (k : Nat))
  | .iload k => len == 2 && decide (res = .iload k)
  | .lload k => len == 2 && decide (res = .lload k)
  | .aload k => len == 2 && decide (res = .aload k)
  | .istore k => len == 2 && decide (res = .istore k)
  | .lstore k => len == 2 && decide (res = .lstore k)
  | .astore k => len == 2 && decide (res = .astore k)
  | .iinc k n => len == 3 && decide (res = .iinc k n)
  | .getfield ix => len == 3 && decide (F ix = some res) && (match res with | .invokeinterface _ _ => true | _ => false)
  | .putfield ix => len == 3 && decide (Gp ix = some res) && (match res with | .multianewarray _ _ => true | _ => false)
  | .invokespecial ix => len == 3 && decide (F ix = some res) && (match res with | .pop => true | _ => false)
  | .invokestatic ix => len == 3 && decide (F ix = some res) && (match res with | .invokedynamic _ => true | _ => false)
  | .newarray ty => len == 2 && decide (res = .newarray ty)
  | i => len == 1 && decide (res = i) && (match i with
    | .iadd => true | .isub => true | .imul => true | .idiv => true | .irem => true | .iand => true | .ior => true | .ishl => true | .ishr => true | .iushr => true
    | .ladd => true | .lmul => true | .ldiv => true | .land => true | .lor => true | .lshl => true | .lushr => true | .lcmp => true | .i2l => true | .l2i => true | .i2c => true
    | .dup => true | .dup2 => true | .arraylength => true | .iaload => true | .baload => true | .laload => true | .iastore => true | .bastore => true | .lastore => true | _ => false)
/-- what the constants of a class give -/
def x_lk (Ts : List Cond) (own : String) (cl : List vw_C) (sad : Nat → Nat) (s : State) (ix : Nat) (i : Instr) : Prop := match i with
  | .iconst v => Cond.constant own ix (Int32.ofInt v) ∈ Ts
  | .jsr v => Cond.constantLong own ix (Int64.ofInt v) ∈ Ts
  | .ldc j => ∃ tx, vk_R own ix tx (sad j) s
  | .invokeinterface ci k => ∃ (C : String) (T : u_T) (N : Nat), cl[ci]? = some (C, T, N) ∧ k < N ∧ (∀ w ∈ u_ws C T N, w ∈ Ts) ∧ (Cond.fieldLink own ix (T k).1 (T k).2.1 (T k).2.2.1 ∈ Ts ∨ ∃ host, va_Nw (Cond.fieldLinkNest own ix (T k).1 (T k).2.1 (T k).2.2.1 host) s)
  | .pop => Cond.methodLink own ix Lib.objectInit ∈ Ts ∧ Cond.instanceMethod Lib.objectInit ∈ Ts ∧ Cond.code Lib.objectInit ⟨#[0xb1]⟩ 1 none ∈ Ts
  | .invokedynamic 0 => Cond.methodLink own ix Lib.Math.max.name ∈ Ts ∧ Cond.static Lib.Math.max.name ∈ Ts ∧ Cond.initialized "java/lang/Math" ∈ Ts ∧ Cond.code Lib.Math.max.name Lib.Math.max.code 2 (some .int) ∈ Ts
  | .invokedynamic 1 => Cond.methodLink own ix Lib.Math.min.name ∈ Ts ∧ Cond.static Lib.Math.min.name ∈ Ts ∧ Cond.initialized "java/lang/Math" ∈ Ts ∧ Cond.code Lib.Math.min.name Lib.Math.min.code 2 (some .int) ∈ Ts
  | .invokedynamic 2 => Cond.methodLink own ix arraycopyName ∈ Ts ∧ Cond.native arraycopyName ∈ Ts ∧ Cond.static arraycopyName ∈ Ts ∧ Cond.initialized "java/lang/System" ∈ Ts
  | _ => True
/-- a field that may be written: its type; a final one only in a constructor of its own class -/
def x_pk (Ts : List Cond) (own : String) (cl : List vw_C) (s : State) (meth : Method) (ix : Nat) (i : Instr) : Prop := match i with
  | .multianewarray ci k => ∃ (C : String) (T : u_T) (N : Nat) (ty0 : Nat → FieldType), cl[ci]? = some (C, T, N) ∧ x_kk k < N ∧ (∀ w ∈ u_ws C T N, w ∈ Ts) ∧ (∀ k, k < N → parseFieldDescriptor (T k).2.2.1 = some (ty0 k)) ∧ (∀ a, a < N → ∀ b, b < N → a ≠ b → (T a).2.1 ≠ (T b).2.1)
      ∧ ((k < 1000 ∧ ty0 (x_kk k) = FieldType.int) ∨ (1000 ≤ k ∧ k < 2000 ∧ ty0 (x_kk k) = FieldType.boolean) ∨ (2000 ≤ k ∧ ((∃ n, ty0 (x_kk k) = FieldType.object n) ∨ ∃ t, ty0 (x_kk k) = FieldType.array t)))
      ∧ (((Cond.fieldLink own ix (T (x_kk k)).1 (T (x_kk k)).2.1 (T (x_kk k)).2.2.1 ∈ Ts ∨ ∃ host, va_Nw (Cond.fieldLinkNest own ix (T (x_kk k)).1 (T (x_kk k)).2.1 (T (x_kk k)).2.2.1 host) s) ∧ (T (x_kk k)).2.2.2 = false)
        ∨ (Cond.fieldLink own ix (T (x_kk k)).1 (T (x_kk k)).2.1 (T (x_kk k)).2.2.1 ∈ Ts ∧ (T (x_kk k)).2.2.2 = true ∧ meth.name = "<init>" ∧ (T (x_kk k)).1 = own))
  | _ => True
section X4
variable {p : Program} {l : Launch} {e : Env} {R : Room} {s : State} {m : MethodId} {args : Array Value} {below : List Frame} {meth : Method} {c : Code} {Q : State → Prop} {cc : ByteArray} {D : va_G} {cl : List vw_C} {C : FieldType → ClassId} {A : Nat → Prop} {nL n0 z0 : Nat} {sad ad0 : Nat → Nat} {own : String} {Ts : List Cond} {F Gp : Nat → Option Instr} {pc len : Nat} {lv lv' : x_L} {st st' : List Value} {T T' : x_T} {q : Option Value × x_T} {K : x_L → List Value → x_T → x_Z} {raw res : Instr} {XT : x_Xt}
/-- from this place, locals, stack and cells on the machine comes to Q -/
def x_G (p : Program) (l : Launch) (e : Env) (R : Room) (s : State) (m : MethodId) (args : Array Value) (below : List Frame) (meth : Method) (c : Code) (D : va_G) (cl : List vw_C) (C : FieldType → ClassId) (A : Nat → Prop) (nL n0 z0 : Nat) (sad ad0 : Nat → Nat) (Q : State → Prop) (pc : Nat) (lv : x_L) (st : List Value) (T : x_T) : Prop :=
  ∀ (ad : Nat → Nat) (H : Heap) (locs : List Loc) (cells slots : Nat) (ls : Array Slot), (∀ i, i < n0 → ad i = ad0 i) → va_P D cl (x_W ad C T) H → va_D A (x_W ad C T) → va_S A s.heap H locs → x_ls ad sad ls nL lv → cells + n0 = T.1.length → slots + z0 = x_z T.1 → W p l e R s m args below meth c H locs cells slots Q (F0 m pc ls (st.map (x_val ad sad)))
def x_mo (T U : x_T) : Prop := T.1.length ≤ U.1.length ∧ x_z T.1 ≤ x_z U.1
/-- all that a frame's walk knows -/
def x_cx (p : Program) (R : Room) (s : State) (m : MethodId) (args : Array Value) (meth : Method) (c : Code) (cc : ByteArray) (D : va_G) (cl : List vw_C) (C : FieldType → ClassId) (A : Nat → Prop) (nL n0 z0 : Nat) (sad : Nat → Nat) (own : String) (Ts : List Cond) (F Gp : Nat → Option Instr) (XT : x_Xt) (q : Option Value × x_T) : Prop :=
  p.tables.exec = Jvm.exec ∧ c.code = cc ∧ c.maxLocals = nL ∧ s.vm.findClass own = some m.cls ∧ (∀ w ∈ Ts, w.before args s = true) ∧ va_K D cl [(C .int, .int), (C .boolean, .boolean), (C .long, .long)] s ∧ (∀ q, s.heap.size ≤ q → A q) ∧ (∀ ix i, F ix = some i → x_lk Ts own cl sad s ix i) ∧ (∀ ix i, Gp ix = some i → x_pk Ts own cl s meth ix i) ∧ 1 ≤ R.frames ∧ 60 ≤ R.locals ∧ q.2.1.length ≤ n0 + R.cells ∧ x_z q.2.1 ≤ z0 + R.slots ∧ (∀ ty, Cond.arrayClass ty ∈ Ts ∨ (ty ≠ .int ∧ ty ≠ .boolean ∧ ty ≠ .long)) ∧ ∀ j n f, XT j = some (n, f) → va_X (sad j) n f s s.heap ∧ sad j < s.heap.size ∧ ¬ A (sad j)
theorem x_go (g : x_mo T q.2 ∧ x_G p l e R s m args below meth c D cl C A nL n0 z0 sad ad0 Q (pc + len) lv st' T) (h : ∀ (ad : Nat → Nat) (H : Heap) (locs : List Loc) (cells slots : Nat) (ls : Array Slot), va_P D cl (x_W ad C T) H → va_D A (x_W ad C T) → va_S A s.heap H locs → x_ls ad sad ls nL lv → W p l e R s m args below meth c H locs cells slots Q (F0 m (pc + len) ls (st'.map (x_val ad sad))) → W p l e R s m args below meth c H locs cells slots Q (F0 m pc ls (st.map (x_val ad sad)))) : x_mo T q.2 ∧ x_G p l e R s m args below meth c D cl C A nL n0 z0 sad ad0 Q pc lv st T :=
  ⟨g.1, fun ad H locs cells slots ls e1 hP hD hS hl c1 c2 => h ad H locs cells slots ls hP hD hS hl (g.2 ad H locs cells slots ls e1 hP hD hS hl c1 c2)⟩
theorem x_ls_set {ad : Nat → Nat} {ls ls' : Array Slot} {lst : List (Nat × Value)} {i : Nat} {v : Value} (h1 : lv_has ls' nL ((i, x_val ad sad v) :: lst.filter (fun q => !(q.1 == i) && !(q.1 + 1 == i && q.2.category == 2)))) (h2 : lv.length = nL) (h3 : ∀ (j : Nat) (v : Value), lv[j]? = some (some v) → (j, x_val ad sad v) ∈ lst) (hok : x_okp lv i = true) : x_ls ad sad ls' nL (lv.set i (some v)) := by
  refine ⟨_, h1, by rw [List.length_set]; exact h2, fun j v' hj => ?_⟩
  by_cases hji : j = i
  · subst hji
    have hlt : j < lv.length := by
      have := (List.getElem?_eq_some_iff.mp hj).1
      rwa [List.length_set] at this
    rw [List.getElem?_set_self hlt] at hj
    cases hj
    exact List.mem_cons_self
  · rw [List.getElem?_set_ne (Ne.symm hji)] at hj
    refine List.mem_cons_of_mem _ (List.mem_filter.mpr ⟨h3 j v' hj, ?_⟩)
    have hc : ¬ (j + 1 = i ∧ (x_val ad sad v').category = 2) := by
      rintro ⟨rfl, hcat⟩
      simp only [x_okp] at hok
      rw [hj] at hok
      cases v' <;> first | (simp [x_val, Value.category] at hcat; done) | simp_all [x_val, Value.category]
    simp only [Bool.and_eq_true, Bool.not_eq_true', beq_eq_false_iff_ne, ne_eq, Bool.and_eq_false_iff]
    refine ⟨hji, ?_⟩
    by_cases hj1 : j + 1 = i
    · exact Or.inr (fun h => hc ⟨hj1, h⟩)
    · exact Or.inl hj1
end X4
end
section
section X5
variable {p : Program} {l : Launch} {e : Env} {R : Room} {s : State} {m : MethodId} {args : Array Value} {below : List Frame} {meth : Method} {c : Code} {Q : State → Prop} {cc : ByteArray} {D : va_G} {cl : List vw_C} {C : FieldType → ClassId} {A : Nat → Prop} {nL n0 z0 : Nat} {sad ad0 : Nat → Nat} {own : String} {Ts : List Cond} {F Gp : Nat → Option Instr} {pc len : Nat} {lv lv' : x_L} {st st' : List Value} {T T' : x_T} {q : Option Value × x_T} {K : x_L → List Value → x_T → x_Z} {raw res : Instr} {XT : x_Xt}
set_option maxHeartbeats 1000000 in
theorem x_o_iadd  (hc : x_cx p R s m args meth c cc D cl C A nL n0 z0 sad own Ts F Gp XT q) (hdg : decode cc pc = .ok (.iadd, 1)) (hK : ∀ lv' st' T', K lv' st' T' = some q → x_mo T' q.2 ∧ x_G p l e R s m args below meth c D cl C A nL n0 z0 sad ad0 Q (pc + 1) lv' st' T') (h : x_s1 XT (.iadd) lv st T K = some q) : x_mo T q.2 ∧ x_G p l e R s m args below meth c D cl C A nL n0 z0 sad ad0 Q pc lv st T := by
  obtain ⟨hx, hb, hml, hown, hts, hKa, hA, hF, hG, hfr, hlo, hce, hsl, har, hXT⟩ := id hc
  simp only [x_s1] at h
  split at h
  · exact x_go (hK _ _ _ h) (fun ad H locs cells slots ls hP hD hS hl g => lv_iadd hx hb hdg g)
  · cases h
set_option maxHeartbeats 1000000 in
theorem x_o_isub  (hc : x_cx p R s m args meth c cc D cl C A nL n0 z0 sad own Ts F Gp XT q) (hdg : decode cc pc = .ok (.isub, 1)) (hK : ∀ lv' st' T', K lv' st' T' = some q → x_mo T' q.2 ∧ x_G p l e R s m args below meth c D cl C A nL n0 z0 sad ad0 Q (pc + 1) lv' st' T') (h : x_s1 XT (.isub) lv st T K = some q) : x_mo T q.2 ∧ x_G p l e R s m args below meth c D cl C A nL n0 z0 sad ad0 Q pc lv st T := by
  obtain ⟨hx, hb, hml, hown, hts, hKa, hA, hF, hG, hfr, hlo, hce, hsl, har, hXT⟩ := id hc
  simp only [x_s1] at h
  split at h
  · exact x_go (hK _ _ _ h) (fun ad H locs cells slots ls hP hD hS hl g => lv_isub hx hb hdg g)
  · cases h
set_option maxHeartbeats 1000000 in
theorem x_o_imul  (hc : x_cx p R s m args meth c cc D cl C A nL n0 z0 sad own Ts F Gp XT q) (hdg : decode cc pc = .ok (.imul, 1)) (hK : ∀ lv' st' T', K lv' st' T' = some q → x_mo T' q.2 ∧ x_G p l e R s m args below meth c D cl C A nL n0 z0 sad ad0 Q (pc + 1) lv' st' T') (h : x_s1 XT (.imul) lv st T K = some q) : x_mo T q.2 ∧ x_G p l e R s m args below meth c D cl C A nL n0 z0 sad ad0 Q pc lv st T := by
  obtain ⟨hx, hb, hml, hown, hts, hKa, hA, hF, hG, hfr, hlo, hce, hsl, har, hXT⟩ := id hc
  simp only [x_s1] at h
  split at h
  · exact x_go (hK _ _ _ h) (fun ad H locs cells slots ls hP hD hS hl g => lv_imul hx hb hdg g)
  · cases h
set_option maxHeartbeats 1000000 in
theorem x_o_iand  (hc : x_cx p R s m args meth c cc D cl C A nL n0 z0 sad own Ts F Gp XT q) (hdg : decode cc pc = .ok (.iand, 1)) (hK : ∀ lv' st' T', K lv' st' T' = some q → x_mo T' q.2 ∧ x_G p l e R s m args below meth c D cl C A nL n0 z0 sad ad0 Q (pc + 1) lv' st' T') (h : x_s1 XT (.iand) lv st T K = some q) : x_mo T q.2 ∧ x_G p l e R s m args below meth c D cl C A nL n0 z0 sad ad0 Q pc lv st T := by
  obtain ⟨hx, hb, hml, hown, hts, hKa, hA, hF, hG, hfr, hlo, hce, hsl, har, hXT⟩ := id hc
  simp only [x_s1] at h
  split at h
  · exact x_go (hK _ _ _ h) (fun ad H locs cells slots ls hP hD hS hl g => lv_iand hx hb hdg g)
  · cases h
set_option maxHeartbeats 1000000 in
theorem x_o_ior  (hc : x_cx p R s m args meth c cc D cl C A nL n0 z0 sad own Ts F Gp XT q) (hdg : decode cc pc = .ok (.ior, 1)) (hK : ∀ lv' st' T', K lv' st' T' = some q → x_mo T' q.2 ∧ x_G p l e R s m args below meth c D cl C A nL n0 z0 sad ad0 Q (pc + 1) lv' st' T') (h : x_s1 XT (.ior) lv st T K = some q) : x_mo T q.2 ∧ x_G p l e R s m args below meth c D cl C A nL n0 z0 sad ad0 Q pc lv st T := by
  obtain ⟨hx, hb, hml, hown, hts, hKa, hA, hF, hG, hfr, hlo, hce, hsl, har, hXT⟩ := id hc
  simp only [x_s1] at h
  split at h
  · exact x_go (hK _ _ _ h) (fun ad H locs cells slots ls hP hD hS hl g => lv_ior hx hb hdg g)
  · cases h
set_option maxHeartbeats 1000000 in
theorem x_o_ishl  (hc : x_cx p R s m args meth c cc D cl C A nL n0 z0 sad own Ts F Gp XT q) (hdg : decode cc pc = .ok (.ishl, 1)) (hK : ∀ lv' st' T', K lv' st' T' = some q → x_mo T' q.2 ∧ x_G p l e R s m args below meth c D cl C A nL n0 z0 sad ad0 Q (pc + 1) lv' st' T') (h : x_s1 XT (.ishl) lv st T K = some q) : x_mo T q.2 ∧ x_G p l e R s m args below meth c D cl C A nL n0 z0 sad ad0 Q pc lv st T := by
  obtain ⟨hx, hb, hml, hown, hts, hKa, hA, hF, hG, hfr, hlo, hce, hsl, har, hXT⟩ := id hc
  simp only [x_s1] at h
  split at h
  · exact x_go (hK _ _ _ h) (fun ad H locs cells slots ls hP hD hS hl g => lv_ishl hx hb hdg g)
  · cases h
set_option maxHeartbeats 1000000 in
theorem x_o_ishr  (hc : x_cx p R s m args meth c cc D cl C A nL n0 z0 sad own Ts F Gp XT q) (hdg : decode cc pc = .ok (.ishr, 1)) (hK : ∀ lv' st' T', K lv' st' T' = some q → x_mo T' q.2 ∧ x_G p l e R s m args below meth c D cl C A nL n0 z0 sad ad0 Q (pc + 1) lv' st' T') (h : x_s1 XT (.ishr) lv st T K = some q) : x_mo T q.2 ∧ x_G p l e R s m args below meth c D cl C A nL n0 z0 sad ad0 Q pc lv st T := by
  obtain ⟨hx, hb, hml, hown, hts, hKa, hA, hF, hG, hfr, hlo, hce, hsl, har, hXT⟩ := id hc
  simp only [x_s1] at h
  split at h
  · exact x_go (hK _ _ _ h) (fun ad H locs cells slots ls hP hD hS hl g => lv_ishr hx hb hdg g)
  · cases h
set_option maxHeartbeats 1000000 in
theorem x_o_ladd  (hc : x_cx p R s m args meth c cc D cl C A nL n0 z0 sad own Ts F Gp XT q) (hdg : decode cc pc = .ok (.ladd, 1)) (hK : ∀ lv' st' T', K lv' st' T' = some q → x_mo T' q.2 ∧ x_G p l e R s m args below meth c D cl C A nL n0 z0 sad ad0 Q (pc + 1) lv' st' T') (h : x_s1 XT (.ladd) lv st T K = some q) : x_mo T q.2 ∧ x_G p l e R s m args below meth c D cl C A nL n0 z0 sad ad0 Q pc lv st T := by
  obtain ⟨hx, hb, hml, hown, hts, hKa, hA, hF, hG, hfr, hlo, hce, hsl, har, hXT⟩ := id hc
  simp only [x_s1] at h
  split at h
  · exact x_go (hK _ _ _ h) (fun ad H locs cells slots ls hP hD hS hl g => lv_ladd hx hb hdg g)
  · cases h
set_option maxHeartbeats 1000000 in
theorem x_o_lmul  (hc : x_cx p R s m args meth c cc D cl C A nL n0 z0 sad own Ts F Gp XT q) (hdg : decode cc pc = .ok (.lmul, 1)) (hK : ∀ lv' st' T', K lv' st' T' = some q → x_mo T' q.2 ∧ x_G p l e R s m args below meth c D cl C A nL n0 z0 sad ad0 Q (pc + 1) lv' st' T') (h : x_s1 XT (.lmul) lv st T K = some q) : x_mo T q.2 ∧ x_G p l e R s m args below meth c D cl C A nL n0 z0 sad ad0 Q pc lv st T := by
  obtain ⟨hx, hb, hml, hown, hts, hKa, hA, hF, hG, hfr, hlo, hce, hsl, har, hXT⟩ := id hc
  simp only [x_s1] at h
  split at h
  · exact x_go (hK _ _ _ h) (fun ad H locs cells slots ls hP hD hS hl g => lv_lmul hx hb hdg g)
  · cases h
set_option maxHeartbeats 1000000 in
theorem x_o_land  (hc : x_cx p R s m args meth c cc D cl C A nL n0 z0 sad own Ts F Gp XT q) (hdg : decode cc pc = .ok (.land, 1)) (hK : ∀ lv' st' T', K lv' st' T' = some q → x_mo T' q.2 ∧ x_G p l e R s m args below meth c D cl C A nL n0 z0 sad ad0 Q (pc + 1) lv' st' T') (h : x_s1 XT (.land) lv st T K = some q) : x_mo T q.2 ∧ x_G p l e R s m args below meth c D cl C A nL n0 z0 sad ad0 Q pc lv st T := by
  obtain ⟨hx, hb, hml, hown, hts, hKa, hA, hF, hG, hfr, hlo, hce, hsl, har, hXT⟩ := id hc
  simp only [x_s1] at h
  split at h
  · exact x_go (hK _ _ _ h) (fun ad H locs cells slots ls hP hD hS hl g => lv_land hx hb hdg g)
  · cases h
set_option maxHeartbeats 1000000 in
theorem x_o_lor  (hc : x_cx p R s m args meth c cc D cl C A nL n0 z0 sad own Ts F Gp XT q) (hdg : decode cc pc = .ok (.lor, 1)) (hK : ∀ lv' st' T', K lv' st' T' = some q → x_mo T' q.2 ∧ x_G p l e R s m args below meth c D cl C A nL n0 z0 sad ad0 Q (pc + 1) lv' st' T') (h : x_s1 XT (.lor) lv st T K = some q) : x_mo T q.2 ∧ x_G p l e R s m args below meth c D cl C A nL n0 z0 sad ad0 Q pc lv st T := by
  obtain ⟨hx, hb, hml, hown, hts, hKa, hA, hF, hG, hfr, hlo, hce, hsl, har, hXT⟩ := id hc
  simp only [x_s1] at h
  split at h
  · exact x_go (hK _ _ _ h) (fun ad H locs cells slots ls hP hD hS hl g => lv_lor hx hb hdg g)
  · cases h
set_option maxHeartbeats 1000000 in
theorem x_o_iushr  (hc : x_cx p R s m args meth c cc D cl C A nL n0 z0 sad own Ts F Gp XT q) (hdg : decode cc pc = .ok (.iushr, 1)) (hK : ∀ lv' st' T', K lv' st' T' = some q → x_mo T' q.2 ∧ x_G p l e R s m args below meth c D cl C A nL n0 z0 sad ad0 Q (pc + 1) lv' st' T') (h : x_s1 XT (.iushr) lv st T K = some q) : x_mo T q.2 ∧ x_G p l e R s m args below meth c D cl C A nL n0 z0 sad ad0 Q pc lv st T := by
  obtain ⟨hx, hb, hml, hown, hts, hKa, hA, hF, hG, hfr, hlo, hce, hsl, har, hXT⟩ := id hc
  simp only [x_s1] at h
  split at h
  · exact x_go (hK _ _ _ h) (fun ad H locs cells slots ls hP hD hS hl g => lv_iushr hx hb hdg rfl g)
  · cases h
set_option maxHeartbeats 1000000 in
theorem x_o_lshl  (hc : x_cx p R s m args meth c cc D cl C A nL n0 z0 sad own Ts F Gp XT q) (hdg : decode cc pc = .ok (.lshl, 1)) (hK : ∀ lv' st' T', K lv' st' T' = some q → x_mo T' q.2 ∧ x_G p l e R s m args below meth c D cl C A nL n0 z0 sad ad0 Q (pc + 1) lv' st' T') (h : x_s1 XT (.lshl) lv st T K = some q) : x_mo T q.2 ∧ x_G p l e R s m args below meth c D cl C A nL n0 z0 sad ad0 Q pc lv st T := by
  obtain ⟨hx, hb, hml, hown, hts, hKa, hA, hF, hG, hfr, hlo, hce, hsl, har, hXT⟩ := id hc
  simp only [x_s1] at h
  split at h
  · exact x_go (hK _ _ _ h) (fun ad H locs cells slots ls hP hD hS hl g => lv_lshl hx hb hdg rfl g)
  · cases h
set_option maxHeartbeats 1000000 in
theorem x_o_lushr  (hc : x_cx p R s m args meth c cc D cl C A nL n0 z0 sad own Ts F Gp XT q) (hdg : decode cc pc = .ok (.lushr, 1)) (hK : ∀ lv' st' T', K lv' st' T' = some q → x_mo T' q.2 ∧ x_G p l e R s m args below meth c D cl C A nL n0 z0 sad ad0 Q (pc + 1) lv' st' T') (h : x_s1 XT (.lushr) lv st T K = some q) : x_mo T q.2 ∧ x_G p l e R s m args below meth c D cl C A nL n0 z0 sad ad0 Q pc lv st T := by
  obtain ⟨hx, hb, hml, hown, hts, hKa, hA, hF, hG, hfr, hlo, hce, hsl, har, hXT⟩ := id hc
  simp only [x_s1] at h
  split at h
  · exact x_go (hK _ _ _ h) (fun ad H locs cells slots ls hP hD hS hl g => lv_lushr hx hb hdg rfl g)
  · cases h
set_option maxHeartbeats 1000000 in
theorem x_o_lcmp  (hc : x_cx p R s m args meth c cc D cl C A nL n0 z0 sad own Ts F Gp XT q) (hdg : decode cc pc = .ok (.lcmp, 1)) (hK : ∀ lv' st' T', K lv' st' T' = some q → x_mo T' q.2 ∧ x_G p l e R s m args below meth c D cl C A nL n0 z0 sad ad0 Q (pc + 1) lv' st' T') (h : x_s1 XT (.lcmp) lv st T K = some q) : x_mo T q.2 ∧ x_G p l e R s m args below meth c D cl C A nL n0 z0 sad ad0 Q pc lv st T := by
  obtain ⟨hx, hb, hml, hown, hts, hKa, hA, hF, hG, hfr, hlo, hce, hsl, har, hXT⟩ := id hc
  simp only [x_s1] at h
  split at h
  · exact x_go (hK _ _ _ h) (fun ad H locs cells slots ls hP hD hS hl g => W.lcmp hx hb hdg g)
  · cases h
set_option maxHeartbeats 1000000 in
theorem x_o_i2l  (hc : x_cx p R s m args meth c cc D cl C A nL n0 z0 sad own Ts F Gp XT q) (hdg : decode cc pc = .ok (.i2l, 1)) (hK : ∀ lv' st' T', K lv' st' T' = some q → x_mo T' q.2 ∧ x_G p l e R s m args below meth c D cl C A nL n0 z0 sad ad0 Q (pc + 1) lv' st' T') (h : x_s1 XT (.i2l) lv st T K = some q) : x_mo T q.2 ∧ x_G p l e R s m args below meth c D cl C A nL n0 z0 sad ad0 Q pc lv st T := by
  obtain ⟨hx, hb, hml, hown, hts, hKa, hA, hF, hG, hfr, hlo, hce, hsl, har, hXT⟩ := id hc
  simp only [x_s1] at h
  split at h
  · exact x_go (hK _ _ _ h) (fun ad H locs cells slots ls hP hD hS hl g => lv_i2l hx hb hdg rfl g)
  · cases h
set_option maxHeartbeats 1000000 in
theorem x_o_l2i  (hc : x_cx p R s m args meth c cc D cl C A nL n0 z0 sad own Ts F Gp XT q) (hdg : decode cc pc = .ok (.l2i, 1)) (hK : ∀ lv' st' T', K lv' st' T' = some q → x_mo T' q.2 ∧ x_G p l e R s m args below meth c D cl C A nL n0 z0 sad ad0 Q (pc + 1) lv' st' T') (h : x_s1 XT (.l2i) lv st T K = some q) : x_mo T q.2 ∧ x_G p l e R s m args below meth c D cl C A nL n0 z0 sad ad0 Q pc lv st T := by
  obtain ⟨hx, hb, hml, hown, hts, hKa, hA, hF, hG, hfr, hlo, hce, hsl, har, hXT⟩ := id hc
  simp only [x_s1] at h
  split at h
  · exact x_go (hK _ _ _ h) (fun ad H locs cells slots ls hP hD hS hl g => lv_l2i hx hb hdg rfl g)
  · cases h
set_option maxHeartbeats 1000000 in
theorem x_o_i2c  (hc : x_cx p R s m args meth c cc D cl C A nL n0 z0 sad own Ts F Gp XT q) (hdg : decode cc pc = .ok (.i2c, 1)) (hK : ∀ lv' st' T', K lv' st' T' = some q → x_mo T' q.2 ∧ x_G p l e R s m args below meth c D cl C A nL n0 z0 sad ad0 Q (pc + 1) lv' st' T') (h : x_s1 XT (.i2c) lv st T K = some q) : x_mo T q.2 ∧ x_G p l e R s m args below meth c D cl C A nL n0 z0 sad ad0 Q pc lv st T := by
  obtain ⟨hx, hb, hml, hown, hts, hKa, hA, hF, hG, hfr, hlo, hce, hsl, har, hXT⟩ := id hc
  simp only [x_s1] at h
  split at h
  · exact x_go (hK _ _ _ h) (fun ad H locs cells slots ls hP hD hS hl g => lv_i2c hx hb hdg rfl g)
  · cases h
set_option maxHeartbeats 1000000 in
theorem x_o_idiv  (hc : x_cx p R s m args meth c cc D cl C A nL n0 z0 sad own Ts F Gp XT q) (hdg : decode cc pc = .ok (.idiv, 1)) (hK : ∀ lv' st' T', K lv' st' T' = some q → x_mo T' q.2 ∧ x_G p l e R s m args below meth c D cl C A nL n0 z0 sad ad0 Q (pc + 1) lv' st' T') (h : x_s1 XT (.idiv) lv st T K = some q) : x_mo T q.2 ∧ x_G p l e R s m args below meth c D cl C A nL n0 z0 sad ad0 Q pc lv st T := by
  obtain ⟨hx, hb, hml, hown, hts, hKa, hA, hF, hG, hfr, hlo, hce, hsl, har, hXT⟩ := id hc
  simp only [x_s1] at h
  split at h
  · split at h
    · cases h
    · rename_i hz
      exact x_go (hK _ _ _ h) (fun ad H locs cells slots ls hP hD hS hl g => lv_idiv hx hb hdg hz g)
  · cases h
set_option maxHeartbeats 1000000 in
theorem x_o_irem  (hc : x_cx p R s m args meth c cc D cl C A nL n0 z0 sad own Ts F Gp XT q) (hdg : decode cc pc = .ok (.irem, 1)) (hK : ∀ lv' st' T', K lv' st' T' = some q → x_mo T' q.2 ∧ x_G p l e R s m args below meth c D cl C A nL n0 z0 sad ad0 Q (pc + 1) lv' st' T') (h : x_s1 XT (.irem) lv st T K = some q) : x_mo T q.2 ∧ x_G p l e R s m args below meth c D cl C A nL n0 z0 sad ad0 Q pc lv st T := by
  obtain ⟨hx, hb, hml, hown, hts, hKa, hA, hF, hG, hfr, hlo, hce, hsl, har, hXT⟩ := id hc
  simp only [x_s1] at h
  split at h
  · split at h
    · cases h
    · rename_i hz
      exact x_go (hK _ _ _ h) (fun ad H locs cells slots ls hP hD hS hl g => lv_irem hx hb hdg hz g)
  · cases h
set_option maxHeartbeats 1000000 in
theorem x_o_ldiv  (hc : x_cx p R s m args meth c cc D cl C A nL n0 z0 sad own Ts F Gp XT q) (hdg : decode cc pc = .ok (.ldiv, 1)) (hK : ∀ lv' st' T', K lv' st' T' = some q → x_mo T' q.2 ∧ x_G p l e R s m args below meth c D cl C A nL n0 z0 sad ad0 Q (pc + 1) lv' st' T') (h : x_s1 XT (.ldiv) lv st T K = some q) : x_mo T q.2 ∧ x_G p l e R s m args below meth c D cl C A nL n0 z0 sad ad0 Q pc lv st T := by
  obtain ⟨hx, hb, hml, hown, hts, hKa, hA, hF, hG, hfr, hlo, hce, hsl, har, hXT⟩ := id hc
  simp only [x_s1] at h
  split at h
  · split at h
    · cases h
    · rename_i hz
      exact x_go (hK _ _ _ h) (fun ad H locs cells slots ls hP hD hS hl g => lv_ldiv hx hb hdg hz g)
  · cases h
set_option maxHeartbeats 1000000 in
theorem x_o_iconst {v : Int} (hc : x_cx p R s m args meth c cc D cl C A nL n0 z0 sad own Ts F Gp XT q) (hdg : decode cc pc = .ok (.iconst v, 1)) (hK : ∀ lv' st' T', K lv' st' T' = some q → x_mo T' q.2 ∧ x_G p l e R s m args below meth c D cl C A nL n0 z0 sad ad0 Q (pc + 1) lv' st' T') (h : x_s1 XT (.iconst v) lv st T K = some q) : x_mo T q.2 ∧ x_G p l e R s m args below meth c D cl C A nL n0 z0 sad ad0 Q pc lv st T := by
  obtain ⟨hx, hb, hml, hown, hts, hKa, hA, hF, hG, hfr, hlo, hce, hsl, har, hXT⟩ := id hc
  simp only [x_s1] at h
  exact x_go (hK _ _ _ h) (fun ad H locs cells slots ls hP hD hS hl g => lv_iconst hx hb hdg rfl g)
set_option maxHeartbeats 1000000 in
theorem x_o_bipush {v : Int} (hv : (Int8.ofInt v).toInt32 = Int32.ofInt v) (hc : x_cx p R s m args meth c cc D cl C A nL n0 z0 sad own Ts F Gp XT q) (hdg : decode cc pc = .ok (.bipush v, 2)) (hK : ∀ lv' st' T', K lv' st' T' = some q → x_mo T' q.2 ∧ x_G p l e R s m args below meth c D cl C A nL n0 z0 sad ad0 Q (pc + 2) lv' st' T') (h : x_s1 XT (.iconst v) lv st T K = some q) : x_mo T q.2 ∧ x_G p l e R s m args below meth c D cl C A nL n0 z0 sad ad0 Q pc lv st T := by
  obtain ⟨hx, hb, hml, hown, hts, hKa, hA, hF, hG, hfr, hlo, hce, hsl, har, hXT⟩ := id hc
  simp only [x_s1] at h
  exact x_go (hK _ _ _ h) (fun ad H locs cells slots ls hP hD hS hl g => lv_bipush hx hb hdg hv g)
set_option maxHeartbeats 1000000 in
theorem x_o_sipush {v : Int} (hv : (Int16.ofInt v).toInt32 = Int32.ofInt v) (hc : x_cx p R s m args meth c cc D cl C A nL n0 z0 sad own Ts F Gp XT q) (hdg : decode cc pc = .ok (.sipush v, 3)) (hK : ∀ lv' st' T', K lv' st' T' = some q → x_mo T' q.2 ∧ x_G p l e R s m args below meth c D cl C A nL n0 z0 sad ad0 Q (pc + 3) lv' st' T') (h : x_s1 XT (.iconst v) lv st T K = some q) : x_mo T q.2 ∧ x_G p l e R s m args below meth c D cl C A nL n0 z0 sad ad0 Q pc lv st T := by
  obtain ⟨hx, hb, hml, hown, hts, hKa, hA, hF, hG, hfr, hlo, hce, hsl, har, hXT⟩ := id hc
  simp only [x_s1] at h
  exact x_go (hK _ _ _ h) (fun ad H locs cells slots ls hP hD hS hl g => lv_sipush hx hb hdg hv g)
set_option maxHeartbeats 1000000 in
theorem x_o_lconst {v : Fin 2} (hc : x_cx p R s m args meth c cc D cl C A nL n0 z0 sad own Ts F Gp XT q) (hdg : decode cc pc = .ok (.lconst v, 1)) (hK : ∀ lv' st' T', K lv' st' T' = some q → x_mo T' q.2 ∧ x_G p l e R s m args below meth c D cl C A nL n0 z0 sad ad0 Q (pc + 1) lv' st' T') (h : x_s1 XT (.jsr ((v : Nat) : Int)) lv st T K = some q) : x_mo T q.2 ∧ x_G p l e R s m args below meth c D cl C A nL n0 z0 sad ad0 Q pc lv st T := by
  obtain ⟨hx, hb, hml, hown, hts, hKa, hA, hF, hG, hfr, hlo, hce, hsl, har, hXT⟩ := id hc
  simp only [x_s1] at h
  exact x_go (hK _ _ _ h) (fun ad H locs cells slots ls hP hD hS hl g => lv_lconst hx hb hdg ((by decide : ∀ v : Fin 2, Int64.ofNat (v : Nat) = Int64.ofInt ((v : Nat) : Int)) v) g)
set_option maxHeartbeats 1000000 in
theorem x_o_ldc {v : Int} {ix : Nat} (hv : F ix = some (.iconst v)) (hc : x_cx p R s m args meth c cc D cl C A nL n0 z0 sad own Ts F Gp XT q) (hdg : decode cc pc = .ok (.ldc ix, 2)) (hK : ∀ lv' st' T', K lv' st' T' = some q → x_mo T' q.2 ∧ x_G p l e R s m args below meth c D cl C A nL n0 z0 sad ad0 Q (pc + 2) lv' st' T') (h : x_s1 XT (.iconst v) lv st T K = some q) : x_mo T q.2 ∧ x_G p l e R s m args below meth c D cl C A nL n0 z0 sad ad0 Q pc lv st T := by
  obtain ⟨hx, hb, hml, hown, hts, hKa, hA, hF, hG, hfr, hlo, hce, hsl, har, hXT⟩ := id hc
  simp only [x_s1] at h
  exact x_go (hK _ _ _ h) (fun ad H locs cells slots ls hP hD hS hl g => lv_ldc hx hb hown (hts _ (hF _ _ hv)) hdg g)
set_option maxHeartbeats 1000000 in
theorem x_o_ldcw {v : Int} {ix : Nat} (hv : F ix = some (.iconst v)) (hc : x_cx p R s m args meth c cc D cl C A nL n0 z0 sad own Ts F Gp XT q) (hdg : decode cc pc = .ok (.ldc_w ix, 3)) (hK : ∀ lv' st' T', K lv' st' T' = some q → x_mo T' q.2 ∧ x_G p l e R s m args below meth c D cl C A nL n0 z0 sad ad0 Q (pc + 3) lv' st' T') (h : x_s1 XT (.iconst v) lv st T K = some q) : x_mo T q.2 ∧ x_G p l e R s m args below meth c D cl C A nL n0 z0 sad ad0 Q pc lv st T := by
  obtain ⟨hx, hb, hml, hown, hts, hKa, hA, hF, hG, hfr, hlo, hce, hsl, har, hXT⟩ := id hc
  simp only [x_s1] at h
  exact x_go (hK _ _ _ h) (fun ad H locs cells slots ls hP hD hS hl g => lv_ldcw hx hb hown (hts _ (hF _ _ hv)) hdg g)
set_option maxHeartbeats 1000000 in
theorem x_o_ldc2 {v : Int} {ix : Nat} (hv : F ix = some (.jsr v)) (hc : x_cx p R s m args meth c cc D cl C A nL n0 z0 sad own Ts F Gp XT q) (hdg : decode cc pc = .ok (.ldc2_w ix, 3)) (hK : ∀ lv' st' T', K lv' st' T' = some q → x_mo T' q.2 ∧ x_G p l e R s m args below meth c D cl C A nL n0 z0 sad ad0 Q (pc + 3) lv' st' T') (h : x_s1 XT (.jsr v) lv st T K = some q) : x_mo T q.2 ∧ x_G p l e R s m args below meth c D cl C A nL n0 z0 sad ad0 Q pc lv st T := by
  obtain ⟨hx, hb, hml, hown, hts, hKa, hA, hF, hG, hfr, hlo, hce, hsl, har, hXT⟩ := id hc
  simp only [x_s1] at h
  exact x_go (hK _ _ _ h) (fun ad H locs cells slots ls hP hD hS hl g => lv_ldc2 hx hb hown (hts _ (hF _ _ hv)) hdg g)
set_option maxHeartbeats 1000000 in
theorem x_o_ldcS {j ix : Nat} (hv : F ix = some (.ldc j)) (hc : x_cx p R s m args meth c cc D cl C A nL n0 z0 sad own Ts F Gp XT q) (hdg : decode cc pc = .ok (.ldc ix, 2)) (hK : ∀ lv' st' T', K lv' st' T' = some q → x_mo T' q.2 ∧ x_G p l e R s m args below meth c D cl C A nL n0 z0 sad ad0 Q (pc + 2) lv' st' T') (h : x_s1 XT (.ldc j) lv st T K = some q) : x_mo T q.2 ∧ x_G p l e R s m args below meth c D cl C A nL n0 z0 sad ad0 Q pc lv st T := by
  obtain ⟨hx, hb, hml, hown, hts, hKa, hA, hF, hG, hfr, hlo, hce, hsl, har, hXT⟩ := id hc
  simp only [x_s1] at h
  obtain ⟨tx, htx⟩ := hF _ _ hv
  exact x_go (hK _ _ _ h) (fun ad H locs cells slots ls hP hD hS hl g => va_ldcS hx hb hown htx hdg g)
set_option maxHeartbeats 1000000 in
theorem x_o_iload {i : Nat} (hc : x_cx p R s m args meth c cc D cl C A nL n0 z0 sad own Ts F Gp XT q) (hdg : decode cc pc = .ok (.iload i, 2)) (hK : ∀ lv' st' T', K lv' st' T' = some q → x_mo T' q.2 ∧ x_G p l e R s m args below meth c D cl C A nL n0 z0 sad ad0 Q (pc + 2) lv' st' T') (h : x_s1 XT (.iload i) lv st T K = some q) : x_mo T q.2 ∧ x_G p l e R s m args below meth c D cl C A nL n0 z0 sad ad0 Q pc lv st T := by
  obtain ⟨hx, hb, hml, hown, hts, hKa, hA, hF, hG, hfr, hlo, hce, hsl, har, hXT⟩ := id hc
  simp only [x_s1] at h
  split at h
  · rename_i hj
    exact x_go (hK _ _ _ h) (fun ad H locs cells slots ls hP hD hS hl g => lv_iload hx hb hdg (x_ls_get hl hj) g)
  · cases h
set_option maxHeartbeats 1000000 in
theorem x_o_iload_n {k : Fin 4} (hc : x_cx p R s m args meth c cc D cl C A nL n0 z0 sad own Ts F Gp XT q) (hdg : decode cc pc = .ok (.iload_n k, 1)) (hK : ∀ lv' st' T', K lv' st' T' = some q → x_mo T' q.2 ∧ x_G p l e R s m args below meth c D cl C A nL n0 z0 sad ad0 Q (pc + 1) lv' st' T') (h : x_s1 XT (.iload (k : Nat)) lv st T K = some q) : x_mo T q.2 ∧ x_G p l e R s m args below meth c D cl C A nL n0 z0 sad ad0 Q pc lv st T := by
  obtain ⟨hx, hb, hml, hown, hts, hKa, hA, hF, hG, hfr, hlo, hce, hsl, har, hXT⟩ := id hc
  simp only [x_s1] at h
  split at h
  · rename_i hj
    exact x_go (hK _ _ _ h) (fun ad H locs cells slots ls hP hD hS hl g => lv_iload_n hx hb hdg rfl (x_ls_get hl hj) g)
  · cases h
set_option maxHeartbeats 1000000 in
theorem x_o_lload {i : Nat} (hc : x_cx p R s m args meth c cc D cl C A nL n0 z0 sad own Ts F Gp XT q) (hdg : decode cc pc = .ok (.lload i, 2)) (hK : ∀ lv' st' T', K lv' st' T' = some q → x_mo T' q.2 ∧ x_G p l e R s m args below meth c D cl C A nL n0 z0 sad ad0 Q (pc + 2) lv' st' T') (h : x_s1 XT (.lload i) lv st T K = some q) : x_mo T q.2 ∧ x_G p l e R s m args below meth c D cl C A nL n0 z0 sad ad0 Q pc lv st T := by
  obtain ⟨hx, hb, hml, hown, hts, hKa, hA, hF, hG, hfr, hlo, hce, hsl, har, hXT⟩ := id hc
  simp only [x_s1] at h
  split at h
  · rename_i hj
    exact x_go (hK _ _ _ h) (fun ad H locs cells slots ls hP hD hS hl g => lv_lload hx hb hdg (x_ls_get hl hj) g)
  · cases h
set_option maxHeartbeats 1000000 in
theorem x_o_lload_n {k : Fin 4} (hc : x_cx p R s m args meth c cc D cl C A nL n0 z0 sad own Ts F Gp XT q) (hdg : decode cc pc = .ok (.lload_n k, 1)) (hK : ∀ lv' st' T', K lv' st' T' = some q → x_mo T' q.2 ∧ x_G p l e R s m args below meth c D cl C A nL n0 z0 sad ad0 Q (pc + 1) lv' st' T') (h : x_s1 XT (.lload (k : Nat)) lv st T K = some q) : x_mo T q.2 ∧ x_G p l e R s m args below meth c D cl C A nL n0 z0 sad ad0 Q pc lv st T := by
  obtain ⟨hx, hb, hml, hown, hts, hKa, hA, hF, hG, hfr, hlo, hce, hsl, har, hXT⟩ := id hc
  simp only [x_s1] at h
  split at h
  · rename_i hj
    exact x_go (hK _ _ _ h) (fun ad H locs cells slots ls hP hD hS hl g => lv_lload_n hx hb hdg rfl (x_ls_get hl hj) g)
  · cases h
set_option maxHeartbeats 1000000 in
theorem x_o_aload {i : Nat} (hc : x_cx p R s m args meth c cc D cl C A nL n0 z0 sad own Ts F Gp XT q) (hdg : decode cc pc = .ok (.aload i, 2)) (hK : ∀ lv' st' T', K lv' st' T' = some q → x_mo T' q.2 ∧ x_G p l e R s m args below meth c D cl C A nL n0 z0 sad ad0 Q (pc + 2) lv' st' T') (h : x_s1 XT (.aload i) lv st T K = some q) : x_mo T q.2 ∧ x_G p l e R s m args below meth c D cl C A nL n0 z0 sad ad0 Q pc lv st T := by
  obtain ⟨hx, hb, hml, hown, hts, hKa, hA, hF, hG, hfr, hlo, hce, hsl, har, hXT⟩ := id hc
  simp only [x_s1] at h
  split at h
  · rename_i hj
    exact x_go (hK _ _ _ h) (fun ad H locs cells slots ls hP hD hS hl g => lv_aload hx hb hdg (x_ls_get hl hj) g)
  · rename_i hj
    exact x_go (hK _ _ _ h) (fun ad H locs cells slots ls hP hD hS hl g => lv_aload hx hb hdg (x_ls_get hl hj) g)
  · cases h
set_option maxHeartbeats 1000000 in
theorem x_o_aload_n {k : Fin 4} (hc : x_cx p R s m args meth c cc D cl C A nL n0 z0 sad own Ts F Gp XT q) (hdg : decode cc pc = .ok (.aload_n k, 1)) (hK : ∀ lv' st' T', K lv' st' T' = some q → x_mo T' q.2 ∧ x_G p l e R s m args below meth c D cl C A nL n0 z0 sad ad0 Q (pc + 1) lv' st' T') (h : x_s1 XT (.aload (k : Nat)) lv st T K = some q) : x_mo T q.2 ∧ x_G p l e R s m args below meth c D cl C A nL n0 z0 sad ad0 Q pc lv st T := by
  obtain ⟨hx, hb, hml, hown, hts, hKa, hA, hF, hG, hfr, hlo, hce, hsl, har, hXT⟩ := id hc
  simp only [x_s1] at h
  split at h
  · rename_i hj
    exact x_go (hK _ _ _ h) (fun ad H locs cells slots ls hP hD hS hl g => lv_aload_n hx hb hdg rfl (x_ls_get hl hj) g)
  · rename_i hj
    exact x_go (hK _ _ _ h) (fun ad H locs cells slots ls hP hD hS hl g => lv_aload_n hx hb hdg rfl (x_ls_get hl hj) g)
  · cases h
set_option maxHeartbeats 1000000 in
theorem x_o_istore {k : Nat} (hc : x_cx p R s m args meth c cc D cl C A nL n0 z0 sad own Ts F Gp XT q) (hdg : decode cc pc = .ok (.istore k, 2)) (hK : ∀ lv' st' T', K lv' st' T' = some q → x_mo T' q.2 ∧ x_G p l e R s m args below meth c D cl C A nL n0 z0 sad ad0 Q (pc + 2) lv' st' T') (h : x_s1 XT (.istore (k : Nat)) lv st T K = some q) : x_mo T q.2 ∧ x_G p l e R s m args below meth c D cl C A nL n0 z0 sad ad0 Q pc lv st T := by
  obtain ⟨hx, hb, hml, hown, hts, hKa, hA, hF, hG, hfr, hlo, hce, hsl, har, hXT⟩ := id hc
  simp only [x_s1] at h
  split at h
  · have hx0 := x_g_some h
    clear h
    obtain ⟨hok, h⟩ := hx0
    · simp only [Bool.and_eq_true] at hok
      have hlt := Nat.blt_eq.mp hok.2
      have g := hK _ _ _ h
      refine ⟨g.1, fun ad H locs cells slots ls e1 hP hD hS hl c1 c2 => ?_⟩
      obtain ⟨lst, h1, h2, h3⟩ := hl
      refine lv_istore hx hb hdg h1 (by omega) rfl (fun ls' hl' => g.2 ad H locs cells slots ls' e1 hP hD hS (x_ls_set (ls := ls) hl' h2 h3 hok.1) c1 c2)
  · cases h
set_option maxHeartbeats 1000000 in
theorem x_o_istore_n {k : Fin 4} (hc : x_cx p R s m args meth c cc D cl C A nL n0 z0 sad own Ts F Gp XT q) (hdg : decode cc pc = .ok (.istore_n k, 1)) (hK : ∀ lv' st' T', K lv' st' T' = some q → x_mo T' q.2 ∧ x_G p l e R s m args below meth c D cl C A nL n0 z0 sad ad0 Q (pc + 1) lv' st' T') (h : x_s1 XT (.istore (k : Nat)) lv st T K = some q) : x_mo T q.2 ∧ x_G p l e R s m args below meth c D cl C A nL n0 z0 sad ad0 Q pc lv st T := by
  obtain ⟨hx, hb, hml, hown, hts, hKa, hA, hF, hG, hfr, hlo, hce, hsl, har, hXT⟩ := id hc
  simp only [x_s1] at h
  split at h
  · have hx0 := x_g_some h
    clear h
    obtain ⟨hok, h⟩ := hx0
    · simp only [Bool.and_eq_true] at hok
      have hlt := Nat.blt_eq.mp hok.2
      have g := hK _ _ _ h
      refine ⟨g.1, fun ad H locs cells slots ls e1 hP hD hS hl c1 c2 => ?_⟩
      obtain ⟨lst, h1, h2, h3⟩ := hl
      refine lv_istore_n hx hb hdg rfl h1 (by omega) rfl (fun ls' hl' => g.2 ad H locs cells slots ls' e1 hP hD hS (x_ls_set (ls := ls) hl' h2 h3 hok.1) c1 c2)
  · cases h
set_option maxHeartbeats 1000000 in
theorem x_o_astore {k : Nat} (hc : x_cx p R s m args meth c cc D cl C A nL n0 z0 sad own Ts F Gp XT q) (hdg : decode cc pc = .ok (.astore k, 2)) (hK : ∀ lv' st' T', K lv' st' T' = some q → x_mo T' q.2 ∧ x_G p l e R s m args below meth c D cl C A nL n0 z0 sad ad0 Q (pc + 2) lv' st' T') (h : x_s1 XT (.astore (k : Nat)) lv st T K = some q) : x_mo T q.2 ∧ x_G p l e R s m args below meth c D cl C A nL n0 z0 sad ad0 Q pc lv st T := by
  obtain ⟨hx, hb, hml, hown, hts, hKa, hA, hF, hG, hfr, hlo, hce, hsl, har, hXT⟩ := id hc
  simp only [x_s1] at h
  split at h
  · have hx0 := x_g_some h
    clear h
    obtain ⟨hok, h⟩ := hx0
    · simp only [Bool.and_eq_true] at hok
      have hlt := Nat.blt_eq.mp hok.2
      have g := hK _ _ _ h
      refine ⟨g.1, fun ad H locs cells slots ls e1 hP hD hS hl c1 c2 => ?_⟩
      obtain ⟨lst, h1, h2, h3⟩ := hl
      refine lv_astore hx hb hdg h1 (by omega) rfl (fun ls' hl' => g.2 ad H locs cells slots ls' e1 hP hD hS (x_ls_set (ls := ls) hl' h2 h3 hok.1) c1 c2)
  · cases h
set_option maxHeartbeats 1000000 in
theorem x_o_astore_n {k : Fin 4} (hc : x_cx p R s m args meth c cc D cl C A nL n0 z0 sad own Ts F Gp XT q) (hdg : decode cc pc = .ok (.astore_n k, 1)) (hK : ∀ lv' st' T', K lv' st' T' = some q → x_mo T' q.2 ∧ x_G p l e R s m args below meth c D cl C A nL n0 z0 sad ad0 Q (pc + 1) lv' st' T') (h : x_s1 XT (.astore (k : Nat)) lv st T K = some q) : x_mo T q.2 ∧ x_G p l e R s m args below meth c D cl C A nL n0 z0 sad ad0 Q pc lv st T := by
  obtain ⟨hx, hb, hml, hown, hts, hKa, hA, hF, hG, hfr, hlo, hce, hsl, har, hXT⟩ := id hc
  simp only [x_s1] at h
  split at h
  · have hx0 := x_g_some h
    clear h
    obtain ⟨hok, h⟩ := hx0
    · simp only [Bool.and_eq_true] at hok
      have hlt := Nat.blt_eq.mp hok.2
      have g := hK _ _ _ h
      refine ⟨g.1, fun ad H locs cells slots ls e1 hP hD hS hl c1 c2 => ?_⟩
      obtain ⟨lst, h1, h2, h3⟩ := hl
      refine lv_astore_n hx hb hdg rfl h1 (by omega) rfl (fun ls' hl' => g.2 ad H locs cells slots ls' e1 hP hD hS (x_ls_set (ls := ls) hl' h2 h3 hok.1) c1 c2)
  · cases h
theorem x_ls_setL {ad : Nat → Nat} {ls ls' : Array Slot} {lst : List (Nat × Value)} {i : Nat} {v : Int64} (h1 : lv_has ls' nL ((i, .long v) :: lst.filter (fun q => !(q.1 == i) && (!(q.1 == i + 1) && !(q.1 + 1 == i && q.2.category == 2))))) (h2 : lv.length = nL) (h3 : ∀ (j : Nat) (v : Value), lv[j]? = some (some v) → (j, x_val ad sad v) ∈ lst) (hok : x_okp lv i = true) (hlt : i + 1 < lv.length) : x_ls ad sad ls' nL ((lv.set i (some (.long v))).set (i + 1) none) := by
  refine ⟨_, h1, by rw [List.length_set, List.length_set]; exact h2, fun j v' hj => ?_⟩
  by_cases hj2 : j = i + 1
  · subst hj2
    rw [List.getElem?_set_self (by rw [List.length_set]; exact hlt)] at hj
    cases hj
  rw [List.getElem?_set_ne (Ne.symm hj2)] at hj
  by_cases hji : j = i
  · subst hji
    rw [List.getElem?_set_self (by omega)] at hj
    cases hj
    exact List.mem_cons_self
  · rw [List.getElem?_set_ne (Ne.symm hji)] at hj
    refine List.mem_cons_of_mem _ (List.mem_filter.mpr ⟨h3 j v' hj, ?_⟩)
    have hc : ¬ (j + 1 = i ∧ (x_val ad sad v').category = 2) := by
      rintro ⟨rfl, hcat⟩
      simp only [x_okp] at hok
      rw [hj] at hok
      cases v' <;> first | (simp [x_val, Value.category] at hcat; done) | simp_all [x_val, Value.category]
    simp only [Bool.and_eq_true, Bool.not_eq_true', beq_eq_false_iff_ne, ne_eq, Bool.and_eq_false_iff]
    refine ⟨hji, hj2, ?_⟩
    by_cases hj1 : j + 1 = i
    · exact Or.inr (fun h => hc ⟨hj1, h⟩)
    · exact Or.inl hj1
set_option maxHeartbeats 1000000 in
theorem x_o_lstore {k : Nat} (hc : x_cx p R s m args meth c cc D cl C A nL n0 z0 sad own Ts F Gp XT q) (hdg : decode cc pc = .ok (.lstore k, 2)) (hK : ∀ lv' st' T', K lv' st' T' = some q → x_mo T' q.2 ∧ x_G p l e R s m args below meth c D cl C A nL n0 z0 sad ad0 Q (pc + 2) lv' st' T') (h : x_s1 XT (.lstore (k : Nat)) lv st T K = some q) : x_mo T q.2 ∧ x_G p l e R s m args below meth c D cl C A nL n0 z0 sad ad0 Q pc lv st T := by
  obtain ⟨hx, hb, hml, hown, hts, hKa, hA, hF, hG, hfr, hlo, hce, hsl, har, hXT⟩ := id hc
  simp only [x_s1] at h
  split at h
  · have hx0 := x_g_some h
    clear h
    obtain ⟨hok, h⟩ := hx0
    · simp only [Bool.and_eq_true] at hok
      have hlt := Nat.blt_eq.mp hok.2
      have g := hK _ _ _ h
      refine ⟨g.1, fun ad H locs cells slots ls e1 hP hD hS hl c1 c2 => ?_⟩
      obtain ⟨lst, h1, h2, h3⟩ := hl
      refine lv_lstore hx hb hdg h1 (by omega) rfl (fun ls' hl' => g.2 ad H locs cells slots ls' e1 hP hD hS (x_ls_setL (ls := ls) hl' h2 h3 hok.1 hlt) c1 c2)
  · cases h
set_option maxHeartbeats 1000000 in
theorem x_o_lstore_n {k : Fin 4} (hc : x_cx p R s m args meth c cc D cl C A nL n0 z0 sad own Ts F Gp XT q) (hdg : decode cc pc = .ok (.lstore_n k, 1)) (hK : ∀ lv' st' T', K lv' st' T' = some q → x_mo T' q.2 ∧ x_G p l e R s m args below meth c D cl C A nL n0 z0 sad ad0 Q (pc + 1) lv' st' T') (h : x_s1 XT (.lstore (k : Nat)) lv st T K = some q) : x_mo T q.2 ∧ x_G p l e R s m args below meth c D cl C A nL n0 z0 sad ad0 Q pc lv st T := by
  obtain ⟨hx, hb, hml, hown, hts, hKa, hA, hF, hG, hfr, hlo, hce, hsl, har, hXT⟩ := id hc
  simp only [x_s1] at h
  split at h
  · have hx0 := x_g_some h
    clear h
    obtain ⟨hok, h⟩ := hx0
    · simp only [Bool.and_eq_true] at hok
      have hlt := Nat.blt_eq.mp hok.2
      have g := hK _ _ _ h
      refine ⟨g.1, fun ad H locs cells slots ls e1 hP hD hS hl c1 c2 => ?_⟩
      obtain ⟨lst, h1, h2, h3⟩ := hl
      refine lv_lstore_n hx hb hdg rfl h1 (by omega) rfl (fun ls' hl' => g.2 ad H locs cells slots ls' e1 hP hD hS (x_ls_setL (ls := ls) hl' h2 h3 hok.1 hlt) c1 c2)
  · cases h
set_option maxHeartbeats 1000000 in
theorem x_o_iinc {k : Nat} {n : Int} (hc : x_cx p R s m args meth c cc D cl C A nL n0 z0 sad own Ts F Gp XT q) (hdg : decode cc pc = .ok (.iinc k n, 3)) (hK : ∀ lv' st' T', K lv' st' T' = some q → x_mo T' q.2 ∧ x_G p l e R s m args below meth c D cl C A nL n0 z0 sad ad0 Q (pc + 3) lv' st' T') (h : x_s1 XT (.iinc k n) lv st T K = some q) : x_mo T q.2 ∧ x_G p l e R s m args below meth c D cl C A nL n0 z0 sad ad0 Q pc lv st T := by
  obtain ⟨hx, hb, hml, hown, hts, hKa, hA, hF, hG, hfr, hlo, hce, hsl, har, hXT⟩ := id hc
  simp only [x_s1] at h
  split at h
  · rename_i hj
    have hx0 := x_g_some h
    clear h
    obtain ⟨hok, h⟩ := hx0
    · have g := hK _ _ _ h
      refine ⟨g.1, fun ad H locs cells slots ls e1 hP hD hS hl c1 c2 => ?_⟩
      obtain ⟨lst, h1, h2, h3⟩ := hl
      obtain ⟨kk, hkk⟩ := List.getElem?_of_mem (h3 _ _ hj)
      have hlt := (List.getElem?_eq_some_iff.mp hj).1
      refine lv_iinc hx hb hdg h1 hkk rfl (by omega) rfl (fun ls' hl' => g.2 ad H locs cells slots ls' e1 hP hD hS (x_ls_set (ls := ls) hl' h2 h3 hok) c1 c2)
  · cases h
set_option maxHeartbeats 1000000 in
theorem x_o_dup  (hc : x_cx p R s m args meth c cc D cl C A nL n0 z0 sad own Ts F Gp XT q) (hdg : decode cc pc = .ok (.dup, 1)) (hK : ∀ lv' st' T', K lv' st' T' = some q → x_mo T' q.2 ∧ x_G p l e R s m args below meth c D cl C A nL n0 z0 sad ad0 Q (pc + 1) lv' st' T') (h : x_s1 XT (.dup) lv st T K = some q) : x_mo T q.2 ∧ x_G p l e R s m args below meth c D cl C A nL n0 z0 sad ad0 Q pc lv st T := by
  obtain ⟨hx, hb, hml, hown, hts, hKa, hA, hF, hG, hfr, hlo, hce, hsl, har, hXT⟩ := id hc
  simp only [x_s1] at h
  split at h
  · exact x_go (hK _ _ _ h) (fun ad H locs cells slots ls hP hD hS hl g => lv_dup hx hb hdg rfl g)
  · exact x_go (hK _ _ _ h) (fun ad H locs cells slots ls hP hD hS hl g => lv_dup hx hb hdg rfl g)
  · cases h
set_option maxHeartbeats 1000000 in
theorem x_o_dup2  (hc : x_cx p R s m args meth c cc D cl C A nL n0 z0 sad own Ts F Gp XT q) (hdg : decode cc pc = .ok (.dup2, 1)) (hK : ∀ lv' st' T', K lv' st' T' = some q → x_mo T' q.2 ∧ x_G p l e R s m args below meth c D cl C A nL n0 z0 sad ad0 Q (pc + 1) lv' st' T') (h : x_s1 XT (.dup2) lv st T K = some q) : x_mo T q.2 ∧ x_G p l e R s m args below meth c D cl C A nL n0 z0 sad ad0 Q pc lv st T := by
  obtain ⟨hx, hb, hml, hown, hts, hKa, hA, hF, hG, hfr, hlo, hce, hsl, har, hXT⟩ := id hc
  simp only [x_s1] at h
  split at h
  · exact x_go (hK _ _ _ h) (fun ad H locs cells slots ls hP hD hS hl g => lv_dup2_11 hx hb hdg rfl rfl g)
  · cases h
end X5
end
section
section X6
variable {p : Program} {l : Launch} {e : Env} {R : Room} {s : State} {m : MethodId} {args : Array Value} {below : List Frame} {meth : Method} {c : Code} {Q : State → Prop} {cc : ByteArray} {D : va_G} {cl : List vw_C} {C : FieldType → ClassId} {A : Nat → Prop} {nL n0 z0 : Nat} {sad ad0 : Nat → Nat} {own : String} {Ts : List Cond} {F Gp : Nat → Option Instr} {pc len : Nat} {lv lv' : x_L} {st st' : List Value} {T T' : x_T} {q : Option Value × x_T} {K : x_L → List Value → x_T → x_Z} {raw res : Instr} {XT : x_Xt}
theorem x_W_arr {ad : Nat → Nat} {a n : Nat} {ty : FieldType} (h : T.1[a]? = some (.inl (ty, n))) (hty : ty ≠ .long) : (x_W ad C T)[a]? = some (ad a, .inl (C ty, n, .inl (T.2.1 a))) := by
  rw [x_W_get h]
  simp [x_ent, x_vp, hty]
theorem x_W_arrL {ad : Nat → Nat} {a n : Nat} (h : T.1[a]? = some (.inl (.long, n))) : (x_W ad C T)[a]? = some (ad a, .inl (C .long, n, .inr (.inl (T.2.2 a)))) := by
  rw [x_W_get h]
  simp [x_ent, x_vp]
theorem x_mo_of {U V : x_T} (h : x_mo U V) (h1 : T.1.length = U.1.length) (h2 : x_z T.1 = x_z U.1) : x_mo T V := ⟨by rw [h1]; exact h.1, by rw [h2]; exact h.2⟩
theorem x_sm_val (ad : Nat → Nat) (st : List Value) : ((st.map (x_val ad sad)).map fun v => v.category).sum = x_sm st := by
  unfold x_sm
  congr 1
  rw [List.map_map]
  apply List.map_congr_left
  intro v hv
  cases v <;> rfl
set_option maxHeartbeats 1000000 in
theorem x_o_alen  (hc : x_cx p R s m args meth c cc D cl C A nL n0 z0 sad own Ts F Gp XT q) (hdg : decode cc pc = .ok (.arraylength, 1)) (hK : ∀ lv' st' T', K lv' st' T' = some q → x_mo T' q.2 ∧ x_G p l e R s m args below meth c D cl C A nL n0 z0 sad ad0 Q (pc + 1) lv' st' T') (h : x_s1 XT (.arraylength) lv st T K = some q) : x_mo T q.2 ∧ x_G p l e R s m args below meth c D cl C A nL n0 z0 sad ad0 Q pc lv st T := by
  obtain ⟨hx, hb, hml, hown, hts, hKa, hA, hF, hG, hfr, hlo, hce, hsl, har, hXT⟩ := id hc
  simp only [x_s1] at h
  split at h
  · split at h
    · rename_i qq ha
      obtain ⟨ty, n⟩ := qq
      have hx0 := x_g_some h
      clear h
      obtain ⟨hty, h⟩ := hx0
      have hty := of_decide_eq_true hty
      · refine x_go (hK _ _ _ h) (fun ad H locs cells slots ls hP hD hS hl g => ?_)
        have hw := x_W_get (ad := ad) (C := C) ha
        simp only at hty
        rcases hty with rfl | rfl | rfl
        · exact va_alen hx hb hKa hP _ 0 hw rfl rfl hdg g
        · exact va_alen hx hb hKa hP _ 1 hw rfl rfl hdg g
        · exact va_alen hx hb hKa hP _ 2 hw rfl rfl hdg g
    · cases h
  · split at h
    · rename_i qq hq
      obtain ⟨n, f⟩ := qq
      obtain ⟨x1, x2, x3⟩ := hXT _ _ _ hq
      exact x_go (hK _ _ _ h) (fun ad H locs cells slots ls hP hD hS hl g => va_slen hx hb x1 x2 x3 hS hdg g)
    · cases h
  · cases h
set_option maxHeartbeats 1000000 in
theorem x_o_iaload  (hc : x_cx p R s m args meth c cc D cl C A nL n0 z0 sad own Ts F Gp XT q) (hdg : decode cc pc = .ok (.iaload, 1)) (hK : ∀ lv' st' T', K lv' st' T' = some q → x_mo T' q.2 ∧ x_G p l e R s m args below meth c D cl C A nL n0 z0 sad ad0 Q (pc + 1) lv' st' T') (h : x_s1 XT (.iaload) lv st T K = some q) : x_mo T q.2 ∧ x_G p l e R s m args below meth c D cl C A nL n0 z0 sad ad0 Q pc lv st T := by
  obtain ⟨hx, hb, hml, hown, hts, hKa, hA, hF, hG, hfr, hlo, hce, hsl, har, hXT⟩ := id hc
  simp only [x_s1] at h
  split at h
  · split at h
    · rename_i ha
      split at h
      · rename_i hin
        exact x_go (hK _ _ _ h) (fun ad H locs cells slots ls hP hD hS hl g => va_iald hx hb hKa hP _ 0 (x_W_arr ha (by decide)) rfl (x_in_vp hin) hdg g)
      · cases h
    · cases h
  · split at h
    · rename_i qq hq
      obtain ⟨n, f⟩ := qq
      obtain ⟨x1, x2, x3⟩ := hXT _ _ _ hq
      split at h
      · rename_i hin
        exact x_go (hK _ _ _ h) (fun ad H locs cells slots ls hP hD hS hl g => va_sld hx hb x1 x2 x3 hS (x_in_vp hin) hdg g)
      · cases h
    · cases h
  · cases h
set_option maxHeartbeats 1000000 in
theorem x_o_baload  (hc : x_cx p R s m args meth c cc D cl C A nL n0 z0 sad own Ts F Gp XT q) (hdg : decode cc pc = .ok (.baload, 1)) (hK : ∀ lv' st' T', K lv' st' T' = some q → x_mo T' q.2 ∧ x_G p l e R s m args below meth c D cl C A nL n0 z0 sad ad0 Q (pc + 1) lv' st' T') (h : x_s1 XT (.baload) lv st T K = some q) : x_mo T q.2 ∧ x_G p l e R s m args below meth c D cl C A nL n0 z0 sad ad0 Q pc lv st T := by
  obtain ⟨hx, hb, hml, hown, hts, hKa, hA, hF, hG, hfr, hlo, hce, hsl, har, hXT⟩ := id hc
  simp only [x_s1] at h
  split at h
  · split at h
    · rename_i ha
      split at h
      · rename_i hin
        exact x_go (hK _ _ _ h) (fun ad H locs cells slots ls hP hD hS hl g => va_zald hx hb hKa hP _ 1 (x_W_arr ha (by decide)) rfl (x_in_vp hin) hdg g)
      · cases h
    · cases h
  · cases h
set_option maxHeartbeats 1000000 in
theorem x_o_laload  (hc : x_cx p R s m args meth c cc D cl C A nL n0 z0 sad own Ts F Gp XT q) (hdg : decode cc pc = .ok (.laload, 1)) (hK : ∀ lv' st' T', K lv' st' T' = some q → x_mo T' q.2 ∧ x_G p l e R s m args below meth c D cl C A nL n0 z0 sad ad0 Q (pc + 1) lv' st' T') (h : x_s1 XT (.laload) lv st T K = some q) : x_mo T q.2 ∧ x_G p l e R s m args below meth c D cl C A nL n0 z0 sad ad0 Q pc lv st T := by
  obtain ⟨hx, hb, hml, hown, hts, hKa, hA, hF, hG, hfr, hlo, hce, hsl, har, hXT⟩ := id hc
  simp only [x_s1] at h
  split at h
  · split at h
    · rename_i ha
      split at h
      · rename_i hin
        exact x_go (hK _ _ _ h) (fun ad H locs cells slots ls hP hD hS hl g => va_lald hx hb hKa hP _ 2 (x_W_arrL ha) rfl (x_in_vp hin) hdg g)
      · cases h
    · cases h
  · cases h
set_option maxHeartbeats 1000000 in
theorem x_o_iastore  (hc : x_cx p R s m args meth c cc D cl C A nL n0 z0 sad own Ts F Gp XT q) (hdg : decode cc pc = .ok (.iastore, 1)) (hK : ∀ lv' st' T', K lv' st' T' = some q → x_mo T' q.2 ∧ x_G p l e R s m args below meth c D cl C A nL n0 z0 sad ad0 Q (pc + 1) lv' st' T') (h : x_s1 XT (.iastore) lv st T K = some q) : x_mo T q.2 ∧ x_G p l e R s m args below meth c D cl C A nL n0 z0 sad ad0 Q pc lv st T := by
  obtain ⟨hx, hb, hml, hown, hts, hKa, hA, hF, hG, hfr, hlo, hce, hsl, har, hXT⟩ := id hc
  simp only [x_s1] at h
  split at h
  · split at h
    · rename_i ha
      split at h
      · rename_i hin
        have g := hK _ _ _ h
        refine ⟨x_mo_of g.1 rfl rfl, fun ad H locs cells slots ls e1 hP hD hS hl c1 c2 => ?_⟩
        refine va_iast hx hb hKa hP hD hS _ 0 (x_W_arr ha (by decide)) rfl (x_in_vp hin) hdg (fun H1 locs1 hP1 hD1 hS1 => ?_)
        rw [x_W_ia ha (by decide)] at hP1 hD1
        exact g.2 ad H1 locs1 cells slots ls e1 hP1 hD1 hS1 hl c1 c2
      · cases h
    · cases h
  · cases h
set_option maxHeartbeats 1000000 in
theorem x_o_bastore  (hc : x_cx p R s m args meth c cc D cl C A nL n0 z0 sad own Ts F Gp XT q) (hdg : decode cc pc = .ok (.bastore, 1)) (hK : ∀ lv' st' T', K lv' st' T' = some q → x_mo T' q.2 ∧ x_G p l e R s m args below meth c D cl C A nL n0 z0 sad ad0 Q (pc + 1) lv' st' T') (h : x_s1 XT (.bastore) lv st T K = some q) : x_mo T q.2 ∧ x_G p l e R s m args below meth c D cl C A nL n0 z0 sad ad0 Q pc lv st T := by
  obtain ⟨hx, hb, hml, hown, hts, hKa, hA, hF, hG, hfr, hlo, hce, hsl, har, hXT⟩ := id hc
  simp only [x_s1] at h
  split at h
  · split at h
    · rename_i ha
      split at h
      · rename_i hin
        have g := hK _ _ _ h
        refine ⟨x_mo_of g.1 rfl rfl, fun ad H locs cells slots ls e1 hP hD hS hl c1 c2 => ?_⟩
        refine va_zast hx hb hKa hP hD hS _ 1 (x_W_arr ha (by decide)) rfl (x_in_vp hin) hdg (fun H1 locs1 hP1 hD1 hS1 => ?_)
        rw [x_W_ia ha (by decide)] at hP1 hD1
        exact g.2 ad H1 locs1 cells slots ls e1 hP1 hD1 hS1 hl c1 c2
      · cases h
    · cases h
  · cases h
set_option maxHeartbeats 1000000 in
theorem x_o_lastore  (hc : x_cx p R s m args meth c cc D cl C A nL n0 z0 sad own Ts F Gp XT q) (hdg : decode cc pc = .ok (.lastore, 1)) (hK : ∀ lv' st' T', K lv' st' T' = some q → x_mo T' q.2 ∧ x_G p l e R s m args below meth c D cl C A nL n0 z0 sad ad0 Q (pc + 1) lv' st' T') (h : x_s1 XT (.lastore) lv st T K = some q) : x_mo T q.2 ∧ x_G p l e R s m args below meth c D cl C A nL n0 z0 sad ad0 Q pc lv st T := by
  obtain ⟨hx, hb, hml, hown, hts, hKa, hA, hF, hG, hfr, hlo, hce, hsl, har, hXT⟩ := id hc
  simp only [x_s1] at h
  split at h
  · split at h
    · rename_i ha
      split at h
      · rename_i hin
        have g := hK _ _ _ h
        refine ⟨x_mo_of g.1 rfl rfl, fun ad H locs cells slots ls e1 hP hD hS hl c1 c2 => ?_⟩
        refine va_last hx hb hKa hP hD hS _ 2 (x_W_arrL ha) rfl (x_in_vp hin) hdg (fun H1 locs1 hP1 hD1 hS1 => ?_)
        rw [x_W_la ha] at hP1 hD1
        exact g.2 ad H1 locs1 cells slots ls e1 hP1 hD1 hS1 hl c1 c2
      · cases h
    · cases h
  · cases h
set_option maxHeartbeats 1000000 in
theorem x_o_getf {ix ci k : Nat} (hv : F ix = some (.invokeinterface ci k)) (hc : x_cx p R s m args meth c cc D cl C A nL n0 z0 sad own Ts F Gp XT q) (hdg : decode cc pc = .ok (.getfield ix, 3)) (hK : ∀ lv' st' T', K lv' st' T' = some q → x_mo T' q.2 ∧ x_G p l e R s m args below meth c D cl C A nL n0 z0 sad ad0 Q (pc + 3) lv' st' T') (h : x_s1 XT (.invokeinterface ci k) lv st T K = some q) : x_mo T q.2 ∧ x_G p l e R s m args below meth c D cl C A nL n0 z0 sad ad0 Q pc lv st T := by
  obtain ⟨hx, hb, hml, hown, hts, hKa, hA, hF, hG, hfr, hlo, hce, hsl, har, hXT⟩ := id hc
  simp only [x_s1] at h
  obtain ⟨Cn, Tn, N, hcl, hk, hin, hlink⟩ := hF _ _ hv
  split at h
  · rename_i a st2
    split at h
    · rename_i o ha
      obtain ⟨c1, fs⟩ := o
      have hx0 := x_g_some h
      clear h
      obtain ⟨hci, h⟩ := hx0
      · have hci := Nat.eq_of_beq_eq_true hci
        simp only at hci
        subst hci
        split at h
        · rename_i hf
          refine x_go (hK _ _ _ h) (fun ad H locs cells slots ls hP hD hS hl g => ?_)
          have hw := x_W_get (ad := ad) (C := C) ha
          have hfv : (fs.mapIdx (fun k r => x_fv ad (T.2.1 a) k r))[k]? = some (.int (T.2.1 a k)) := by rw [List.getElem?_mapIdx, hf]; rfl
          rcases hlink with hlink | ⟨host, hlink⟩
          · exact va_get hx hb hts hin hown hKa hP _ hw hcl k hk (hts _ hlink) (fun _ h => h) hfv hdg g
          · exact va_getN hx hb hts hin hown hKa hP _ hw hcl k hk (va_Nw.use rfl hlink) (fun _ h => h) hfv hdg g
        · rename_i d hf
          refine x_go (hK _ _ _ h) (fun ad H locs cells slots ls hP hD hS hl g => ?_)
          have hw := x_W_get (ad := ad) (C := C) ha
          have hfv : (fs.mapIdx (fun k r => x_fv ad (T.2.1 a) k r))[k]? = some (.ref (ad d)) := by rw [List.getElem?_mapIdx, hf]; rfl
          rcases hlink with hlink | ⟨host, hlink⟩
          · exact va_get hx hb hts hin hown hKa hP _ hw hcl k hk (hts _ hlink) (fun _ h => h) hfv hdg g
          · exact va_getN hx hb hts hin hown hKa hP _ hw hcl k hk (va_Nw.use rfl hlink) (fun _ h => h) hfv hdg g
        · cases h
    · cases h
  · cases h
set_option maxHeartbeats 1000000 in
theorem x_o_pop {ix : Nat} (hv : F ix = some .pop) (hc : x_cx p R s m args meth c cc D cl C A nL n0 z0 sad own Ts F Gp XT q) (hdg : decode cc pc = .ok (.invokespecial ix, 3)) (hK : ∀ lv' st' T', K lv' st' T' = some q → x_mo T' q.2 ∧ x_G p l e R s m args below meth c D cl C A nL n0 z0 sad ad0 Q (pc + 3) lv' st' T') (h : x_s1 XT (.pop) lv st T K = some q) : x_mo T q.2 ∧ x_G p l e R s m args below meth c D cl C A nL n0 z0 sad ad0 Q pc lv st T := by
  obtain ⟨hx, hb, hml, hown, hts, hKa, hA, hF, hG, hfr, hlo, hce, hsl, har, hXT⟩ := id hc
  simp only [x_s1] at h
  obtain ⟨h1, h2, h3⟩ := hF _ _ hv
  split at h
  · have hx0 := x_g_some h
    clear h
    obtain ⟨hsm, h⟩ := hx0
    have hsm := Nat.le_of_ble_eq_true hsm
    · refine x_go (hK _ _ _ h) (fun ad H locs cells slots ls hP hD hS hl g => ?_)
      obtain ⟨lst, hl1, hl2, hl3⟩ := hl
      refine W.objInit hx hb hown (hts _ h1) (hts _ h2) (hts _ h3) rfl (by rw [hml]; exact hl1.1) rfl hdg hfr ?_ g
      have := lv_room (m := m) (pc := pc) (ls := ls) (rest := []) (st := List.map (x_val ad sad) _) (by rw [x_sm_val (sad := sad) ad]; exact hsm)
      simp only [JFrame.monitorRoom] at this ⊢
      omega
  · cases h
set_option maxHeartbeats 1000000 in
theorem x_o_mmax {ix : Nat} (hv : F ix = some (.invokedynamic 0)) (hc : x_cx p R s m args meth c cc D cl C A nL n0 z0 sad own Ts F Gp XT q) (hdg : decode cc pc = .ok (.invokestatic ix, 3)) (hK : ∀ lv' st' T', K lv' st' T' = some q → x_mo T' q.2 ∧ x_G p l e R s m args below meth c D cl C A nL n0 z0 sad ad0 Q (pc + 3) lv' st' T') (h : x_s1 XT (.invokedynamic 0) lv st T K = some q) : x_mo T q.2 ∧ x_G p l e R s m args below meth c D cl C A nL n0 z0 sad ad0 Q pc lv st T := by
  obtain ⟨hx, hb, hml, hown, hts, hKa, hA, hF, hG, hfr, hlo, hce, hsl, har, hXT⟩ := id hc
  simp only [x_s1] at h
  obtain ⟨h1, h2, h3, h4⟩ := hF _ _ hv
  split at h
  · have hx0 := x_g_some h
    clear h
    obtain ⟨hsm, h⟩ := hx0
    have hsm := Nat.le_of_ble_eq_true hsm
    · have g := hK _ _ _ h
      refine ⟨g.1, fun ad H locs cells slots ls e1 hP hD hS hl c1 c2 => ?_⟩
      have hmo := g.1
      unfold x_mo at hmo
      refine va_mmax hx hb (by rw [hml]; obtain ⟨lst, hl1, hl2, hl3⟩ := hl; exact hl1.1.symm) hown (hts _ h1) (hts _ h2) (hts _ h3) (hts _ h4) hfr ?_ (by omega) (by omega) hdg (g.2 ad H locs cells slots ls e1 hP hD hS hl c1 c2)
      rw [x_sm_val (sad := sad) ad]
      omega
  · cases h
set_option maxHeartbeats 1000000 in
theorem x_o_mmin {ix : Nat} (hv : F ix = some (.invokedynamic 1)) (hc : x_cx p R s m args meth c cc D cl C A nL n0 z0 sad own Ts F Gp XT q) (hdg : decode cc pc = .ok (.invokestatic ix, 3)) (hK : ∀ lv' st' T', K lv' st' T' = some q → x_mo T' q.2 ∧ x_G p l e R s m args below meth c D cl C A nL n0 z0 sad ad0 Q (pc + 3) lv' st' T') (h : x_s1 XT (.invokedynamic 1) lv st T K = some q) : x_mo T q.2 ∧ x_G p l e R s m args below meth c D cl C A nL n0 z0 sad ad0 Q pc lv st T := by
  obtain ⟨hx, hb, hml, hown, hts, hKa, hA, hF, hG, hfr, hlo, hce, hsl, har, hXT⟩ := id hc
  simp only [x_s1] at h
  obtain ⟨h1, h2, h3, h4⟩ := hF _ _ hv
  split at h
  · have hx0 := x_g_some h
    clear h
    obtain ⟨hsm, h⟩ := hx0
    have hsm := Nat.le_of_ble_eq_true hsm
    · have g := hK _ _ _ h
      refine ⟨g.1, fun ad H locs cells slots ls e1 hP hD hS hl c1 c2 => ?_⟩
      have hmo := g.1
      unfold x_mo at hmo
      refine va_mmin hx hb (by rw [hml]; obtain ⟨lst, hl1, hl2, hl3⟩ := hl; exact hl1.1.symm) hown (hts _ h1) (hts _ h2) (hts _ h3) (hts _ h4) hfr ?_ (by omega) (by omega) hdg (g.2 ad H locs cells slots ls e1 hP hD hS hl c1 c2)
      rw [x_sm_val (sad := sad) ad]
      omega
  · cases h
theorem x_nfw : nativeFrameWords "java/lang/System" "arraycopy" 5 ≤ 30 := by decide +kernel
set_option maxHeartbeats 1000000 in
theorem x_o_copy {ix : Nat} (hv : F ix = some (.invokedynamic 2)) (hc : x_cx p R s m args meth c cc D cl C A nL n0 z0 sad own Ts F Gp XT q) (hdg : decode cc pc = .ok (.invokestatic ix, 3)) (hK : ∀ lv' st' T', K lv' st' T' = some q → x_mo T' q.2 ∧ x_G p l e R s m args below meth c D cl C A nL n0 z0 sad ad0 Q (pc + 3) lv' st' T') (h : x_s1 XT (.invokedynamic 2) lv st T K = some q) : x_mo T q.2 ∧ x_G p l e R s m args below meth c D cl C A nL n0 z0 sad ad0 Q pc lv st T := by
  obtain ⟨hx, hb, hml, hown, hts, hKa, hA, hF, hG, hfr, hlo, hce, hsl, har, hXT⟩ := id hc
  simp only [x_s1] at h
  obtain ⟨h1, h2, h3, h4⟩ := hF _ _ hv
  split at h
  · split at h
    · rename_i ha hb'
      split at h
      · rename_i hcond
        obtain ⟨hsm, k1, k2, k3, k4, k5⟩ := hcond
        have g := hK _ _ _ h
        refine ⟨x_mo_of g.1 rfl rfl, fun ad H locs cells slots ls e1 hP hD hS hl c1 c2 => ?_⟩
        have hnf := x_nfw
        refine va_copyi hx hb (by rw [hml]; obtain ⟨lst, hl1, hl2, hl3⟩ := hl; exact hl1.1.symm) hown (hts _ h1) (hts _ h2) (hts _ h3) (hts _ h4) hKa hP hD hS _ _ 0 0 (x_W_arr ha (by decide)) (x_W_arr hb' (by decide)) rfl rfl rfl k1 k2 k3 k4 k5 (fun i _ => rfl) hfr ?_ hdg (fun H1 locs1 hP1 hD1 hS1 => ?_)
        · rw [x_sm_val (sad := sad) ad]
          omega
        · rw [x_W_fa hb' (by decide)] at hP1 hD1
          exact g.2 ad H1 locs1 cells slots ls e1 hP1 hD1 hS1 hl c1 c2
      · cases h
    · cases h
  · cases h
theorem x_putany {ix ci k a : Nat} {fs : List (Option Nat)} {v : Value} {st2 : List Value} (hc : x_cx p R s m args meth c cc D cl C A nL n0 z0 sad own Ts F Gp XT q) (hpk : x_pk Ts own cl s meth ix (.multianewarray ci k)) (hdg : decode cc pc = .ok (.putfield ix, 3)) (ha : T.1[a]? = some (.inr (ci, fs))) (hlen : x_kk k < fs.length) (hn : ∀ ty0 : FieldType, ((k < 1000 ∧ ty0 = FieldType.int) ∨ (1000 ≤ k ∧ k < 2000 ∧ ty0 = FieldType.boolean) ∨ (2000 ≤ k ∧ ((∃ n, ty0 = FieldType.object n) ∨ ∃ t, ty0 = FieldType.array t))) → ∀ ad : Nat → Nat, narrow ty0 (x_val ad sad v) = x_val ad sad v ∧ fits ty0 (x_val ad sad v) = true) (hWe : ∀ ad : Nat → Nat, (x_W ad C T).set a (ad a, .inr (ci, (fs.mapIdx (fun k r => x_fv ad (T.2.1 a) k r)).set (x_kk k) (x_val ad sad v))) = x_W ad C T') (h1 : T.1.length = T'.1.length) (h2 : x_z T.1 = x_z T'.1) (g : x_mo T' q.2 ∧ x_G p l e R s m args below meth c D cl C A nL n0 z0 sad ad0 Q (pc + 3) lv st2 T') : x_mo T q.2 ∧ x_G p l e R s m args below meth c D cl C A nL n0 z0 sad ad0 Q pc lv (v :: .ref a :: st2) T := by
  obtain ⟨hx, hb, hml, hown, hts, hKa, hA, hF, hG, hfr, hlo, hce, hsl, har, hXT⟩ := id hc
  obtain ⟨Cn, Tn, N, ty0, hcl, hk, hin, hty, hnm, hkind, hlink⟩ := hpk
  refine ⟨x_mo_of g.1 h1 h2, fun ad H locs cells slots ls e1 hP hD hS hl c1 c2 => ?_⟩
  have hw := x_W_get (ad := ad) (C := C) ha
  obtain ⟨n1, n2⟩ := hn _ hkind ad
  have fin : ∀ (H1 : Heap) (locs1 : List Loc), va_P D cl ((x_W ad C T).set a (ad a, .inr (ci, (fs.mapIdx (fun k r => x_fv ad (T.2.1 a) k r)).set (x_kk k) (x_val ad sad v)))) H1 → va_D A ((x_W ad C T).set a (ad a, .inr (ci, (fs.mapIdx (fun k r => x_fv ad (T.2.1 a) k r)).set (x_kk k) (x_val ad sad v)))) → va_S A s.heap H1 locs1 → W p l e R s m args below meth c H1 locs1 cells slots Q (F0 m (pc + 3) ls (st2.map (x_val ad sad))) := fun H1 locs1 hP1 hD1 hS1 => by
    rw [hWe ad] at hP1 hD1
    exact g.2 ad H1 locs1 cells slots ls e1 hP1 hD1 hS1 hl (by rw [c1, h1]) (by rw [c2, h2])
  rcases hlink with ⟨hlink | ⟨host, hlink⟩, hfin⟩ | ⟨hlink, hfin, hini, hdecl⟩
  · exact va_put hx hb hts hin ty0 hty hnm hown hKa hP hD hS _ hw hcl _ hk (hts _ hlink) (fun _ h => h) hfin (hty _ hk) n1 n2 (by rw [List.length_mapIdx]; exact hlen) hdg fin
  · exact va_putN hx hb hts hin ty0 hty hnm hown hKa hP hD hS _ hw hcl _ hk (va_Nw.use rfl hlink) (fun _ h => h) hfin (hty _ hk) n1 n2 (by rw [List.length_mapIdx]; exact hlen) hdg fin
  · exact va_putF hx hb hts hin ty0 hty hnm hown hKa hP hD hS _ hw hcl _ hk (hts _ hlink) (fun _ h => h) hfin hini hdecl (hty _ hk) n1 n2 (by rw [List.length_mapIdx]; exact hlen) hdg fin
set_option maxHeartbeats 1000000 in
theorem x_o_putf {ix ci k : Nat} (hv : Gp ix = some (.multianewarray ci k)) (hc : x_cx p R s m args meth c cc D cl C A nL n0 z0 sad own Ts F Gp XT q) (hdg : decode cc pc = .ok (.putfield ix, 3)) (hK : ∀ lv' st' T', K lv' st' T' = some q → x_mo T' q.2 ∧ x_G p l e R s m args below meth c D cl C A nL n0 z0 sad ad0 Q (pc + 3) lv' st' T') (h : x_s1 XT (.multianewarray ci k) lv st T K = some q) : x_mo T q.2 ∧ x_G p l e R s m args below meth c D cl C A nL n0 z0 sad ad0 Q pc lv st T := by
  obtain ⟨hx, hb, hml, hown, hts, hKa, hA, hF, hG, hfr, hlo, hce, hsl, har, hXT⟩ := id hc
  simp only [x_s1] at h
  split at h
  · rename_i v a st2
    split at h
    · rename_i o ha
      obtain ⟨c1', fs⟩ := o
      have hx0 := x_g_some h
      clear h
      obtain ⟨hci, h⟩ := hx0
      · simp only [Bool.and_eq_true] at hci
        obtain ⟨hc0, hk2⟩ := hci
        have hk2 := Nat.blt_eq.mp hk2
        obtain rfl := Nat.eq_of_beq_eq_true hc0
        split at h
        · rename_i hf
          have hx0 := x_g_some h
          clear h
          obtain ⟨hv0, h⟩ := hx0
          · have hv1 : k < 1000 ∨ v = 0 ∨ v = 1 := by
              simp only [Bool.or_eq_true, decide_eq_true_eq] at hv0
              rcases hv0 with h0 | h0
              · exact Or.inl (Nat.blt_eq.mp h0)
              · exact Or.inr h0
            refine x_putany hc (hG _ _ hv) hdg ha (List.getElem?_eq_some_iff.mp hf).1 (fun ty0 hk ad => ?_) (fun ad => x_W_if ha hf) rfl rfl (hK _ _ _ h)
            rcases hk with ⟨_, rfl⟩ | ⟨k1, _, rfl⟩ | ⟨k1, _⟩
            · exact ⟨rfl, rfl⟩
            · rcases hv1 with h0 | rfl | rfl
              · omega
              · exact ⟨(by decide : narrow FieldType.boolean (Value.int 0) = Value.int 0), (by decide : fits FieldType.boolean (Value.int 0) = true)⟩
              · exact ⟨(by decide : narrow FieldType.boolean (Value.int 1) = Value.int 1), (by decide : fits FieldType.boolean (Value.int 1) = true)⟩
            · omega
        · cases h
    · cases h
  · rename_i d a st2
    split at h
    · rename_i o ha
      obtain ⟨c1', fs⟩ := o
      have hx0 := x_g_some h
      clear h
      obtain ⟨hci, h⟩ := hx0
      · simp only [Bool.and_eq_true] at hci
        obtain ⟨⟨hc0, hk2⟩, hk3⟩ := hci
        have hk2 := Nat.le_of_ble_eq_true hk2
        have hk3 := Nat.blt_eq.mp hk3
        obtain rfl := Nat.eq_of_beq_eq_true hc0
        refine x_putany hc (hG _ _ hv) hdg ha hk3 (fun ty0 hk ad => ?_) (fun ad => x_W_rf ha hk3) (by simp [x_sr]) (by simp only [x_sr]; rw [x_z_set ha]; simp [x_z1]) (hK _ _ _ h)
        rcases hk with ⟨_, rfl⟩ | ⟨k1, _, rfl⟩ | ⟨k1, ⟨n, rfl⟩ | ⟨n, rfl⟩⟩
        · omega
        · omega
        · exact ⟨rfl, rfl⟩
        · exact ⟨rfl, rfl⟩
    · cases h
  · cases h
theorem x_cA {tys : List (ClassId × FieldType)} {ty : FieldType} {cA cB : ClassId} (h1 : va_RA s cA ty) (h2 : va_RA s cB ty) (hty : ty = .int ∨ ty = .boolean ∨ ty = .long) : cA = cB := by
  rcases hty with rfl | rfl | rfl
  · exact Option.some.inj (h1.symm.trans h2)
  · exact Option.some.inj (h1.symm.trans h2)
  · exact Option.some.inj (h1.symm.trans h2)
set_option maxHeartbeats 1000000 in
theorem x_o_newa {ty : ArrayType} (hc : x_cx p R s m args meth c cc D cl C A nL n0 z0 sad own Ts F Gp XT q) (hdg : decode cc pc = .ok (.newarray ty, 2)) (hK : ∀ lv' st' T', K lv' st' T' = some q → x_mo T' q.2 ∧ x_G p l e R s m args below meth c D cl C A nL n0 z0 sad ad0 Q (pc + 2) lv' st' T') (h : x_s1 XT (.newarray ty) lv st T K = some q) : x_mo T q.2 ∧ x_G p l e R s m args below meth c D cl C A nL n0 z0 sad ad0 Q pc lv st T := by
  obtain ⟨hx, hb, hml, hown, hts, hKa, hA, hF, hG, hfr, hlo, hce, hsl, har, hXT⟩ := id hc
  simp only [x_s1] at h
  split at h
  · rename_i n st2
    have hx0 := x_g_some h
    clear h
    obtain ⟨hcond, h⟩ := hx0
    · obtain ⟨k1, k2, k3, k4, k5, k6⟩ := of_decide_eq_true hcond
      have g := hK _ _ _ h
      have hmo := g.1
      unfold x_mo at hmo
      have hl1 : (x_new T (.inl (newarray.typeOf ty, n.toNatClampNeg))).1.length = T.1.length + 1 := by simp [x_new]
      have hz1 : x_z (x_new T (.inl (newarray.typeOf ty, n.toNatClampNeg))).1 = x_z T.1 + n.toNatClampNeg := by simp [x_new, x_z_app, x_z, x_z1]
      rw [hl1, hz1] at hmo
      have hty : newarray.typeOf ty = .int ∨ newarray.typeOf ty = .boolean ∨ newarray.typeOf ty = .long := by rcases k3 with rfl | rfl | rfl <;> simp [newarray.typeOf]
      refine ⟨⟨by omega, by omega⟩, fun ad H locs cells slots ls e1 hP hD hS hl c1 c2 => ?_⟩
      have har1 : Cond.arrayClass (newarray.typeOf ty) ∈ Ts := by
        rcases har (newarray.typeOf ty) with h1 | ⟨h1, h2, h3⟩
        · exact h1
        · rcases hty with h | h | h
          · exact absurd h h1
          · exact absurd h h2
          · exact absurd h h3
      refine va_newa hx hb (hts _ har1) rfl hKa hP hD hS hA (a0 := x_vp (newarray.typeOf ty) n.toNatClampNeg (fun _ => 0) (fun _ => 0)) (fun cA => ?_) k1 rfl ?_ (by omega) (by omega) hdg (fun q' cA H1 hK1 hP1 hD1 hS1 => ?_)
      · rcases k3 with rfl | rfl | rfl <;> rfl
      · rcases k3 with rfl | rfl | rfl <;> simp [newarray.typeOf, componentBytes] <;> omega
      · have hcA : cA = C (newarray.typeOf ty) := by
          have r1 := (hK1.2 3 (cA, newarray.typeOf ty) rfl).2
          rcases k3 with rfl | rfl | rfl
          · exact x_cA (tys := []) r1 (hKa.2 0 _ rfl).2 (Or.inl rfl)
          · exact x_cA (tys := []) r1 (hKa.2 1 _ rfl).2 (Or.inr (Or.inl rfl))
          · exact x_cA (tys := []) r1 (hKa.2 2 _ rfl).2 (Or.inr (Or.inr rfl))
        subst hcA
        have hWn := x_W_new (ad := ad) (C := C) (T := T) (sh := .inl (newarray.typeOf ty, n.toNatClampNeg)) (q := q') k6
        simp only [x_ent] at hWn
        rw [← hWn] at hP1 hD1
        have hex : ∀ i, i < T.1.length → va_up ad T.1.length q' i = ad i := fun i hi => x_up_n _ _ (by omega)
        have hg := g.2 (va_up ad T.1.length q') H1 locs (cells + 1) (slots + n.toNatClampNeg) ls (fun i hi => by rw [hex i (by omega)]; exact e1 i hi) hP1 hD1 hS1 (x_ls_ex hex k4 hl) (by rw [hl1]; omega) (by rw [hz1]; omega)
        simp only [List.map_cons, x_val, x_up_s] at hg
        rw [x_st_ex hex k5] at hg
        exact hg
  · cases h
end X6
end
section
section X7
variable {p : Program} {l : Launch} {e : Env} {R : Room} {s : State} {m : MethodId} {args : Array Value} {below : List Frame} {meth : Method} {c : Code} {Q : State → Prop} {cc : ByteArray} {D : va_G} {cl : List vw_C} {C : FieldType → ClassId} {A : Nat → Prop} {nL n0 z0 : Nat} {sad ad0 : Nat → Nat} {own : String} {Ts : List Cond} {F Gp : Nat → Option Instr} {pc len : Nat} {lv lv' : x_L} {st st' : List Value} {T T' : x_T} {q : Option Value × x_T} {K : x_L → List Value → x_T → x_Z} {raw res : Instr} {XT : x_Xt}
set_option maxHeartbeats 4000000 in
theorem x_s1_ok (hc : x_cx p R s m args meth c cc D cl C A nL n0 z0 sad own Ts F Gp XT q) (hdg : decode cc pc = .ok (raw, len)) (hrs : x_rs F Gp raw len res = true) (hK : ∀ lv' st' T', K lv' st' T' = some q → x_mo T' q.2 ∧ x_G p l e R s m args below meth c D cl C A nL n0 z0 sad ad0 Q (pc + len) lv' st' T') (h : x_s1 XT res lv st T K = some q) : x_mo T q.2 ∧ x_G p l e R s m args below meth c D cl C A nL n0 z0 sad ad0 Q pc lv st T := by
  cases raw with
  | iconst v => simp only [x_rs, Bool.and_eq_true, beq_iff_eq, decide_eq_true_eq] at hrs; obtain ⟨rfl, rfl⟩ := hrs; exact x_o_iconst hc hdg hK h
  | bipush v => simp only [x_rs, Bool.and_eq_true, beq_iff_eq, decide_eq_true_eq] at hrs; obtain ⟨⟨rfl, rfl⟩, hv⟩ := hrs; exact x_o_bipush hv hc hdg hK h
  | sipush v => simp only [x_rs, Bool.and_eq_true, beq_iff_eq, decide_eq_true_eq] at hrs; obtain ⟨⟨rfl, rfl⟩, hv⟩ := hrs; exact x_o_sipush hv hc hdg hK h
  | lconst v => simp only [x_rs, Bool.and_eq_true, beq_iff_eq, decide_eq_true_eq] at hrs; obtain ⟨rfl, rfl⟩ := hrs; exact x_o_lconst hc hdg hK h
  | ldc ix =>
    simp only [x_rs, Bool.and_eq_true, beq_iff_eq, decide_eq_true_eq] at hrs
    obtain ⟨⟨rfl, hv⟩, hm⟩ := hrs
    split at hm
    · exact x_o_ldc hv hc hdg hK h
    · exact x_o_ldcS hv hc hdg hK h
    · cases hm
  | ldc_w ix =>
    simp only [x_rs, Bool.and_eq_true, beq_iff_eq, decide_eq_true_eq] at hrs
    obtain ⟨⟨rfl, hv⟩, hm⟩ := hrs
    split at hm
    · exact x_o_ldcw hv hc hdg hK h
    · cases hm
  | ldc2_w ix =>
    simp only [x_rs, Bool.and_eq_true, beq_iff_eq, decide_eq_true_eq] at hrs
    obtain ⟨⟨rfl, hv⟩, hm⟩ := hrs
    split at hm
    · exact x_o_ldc2 hv hc hdg hK h
    · cases hm
  | iload k => simp only [x_rs, Bool.and_eq_true, beq_iff_eq, decide_eq_true_eq] at hrs; obtain ⟨rfl, rfl⟩ := hrs; exact x_o_iload hc hdg hK h
  | iload_n k => simp only [x_rs, Bool.and_eq_true, beq_iff_eq, decide_eq_true_eq] at hrs; obtain ⟨rfl, rfl⟩ := hrs; exact x_o_iload_n hc hdg hK h
  | lload k => simp only [x_rs, Bool.and_eq_true, beq_iff_eq, decide_eq_true_eq] at hrs; obtain ⟨rfl, rfl⟩ := hrs; exact x_o_lload hc hdg hK h
  | lload_n k => simp only [x_rs, Bool.and_eq_true, beq_iff_eq, decide_eq_true_eq] at hrs; obtain ⟨rfl, rfl⟩ := hrs; exact x_o_lload_n hc hdg hK h
  | aload k => simp only [x_rs, Bool.and_eq_true, beq_iff_eq, decide_eq_true_eq] at hrs; obtain ⟨rfl, rfl⟩ := hrs; exact x_o_aload hc hdg hK h
  | aload_n k => simp only [x_rs, Bool.and_eq_true, beq_iff_eq, decide_eq_true_eq] at hrs; obtain ⟨rfl, rfl⟩ := hrs; exact x_o_aload_n hc hdg hK h
  | istore k => simp only [x_rs, Bool.and_eq_true, beq_iff_eq, decide_eq_true_eq] at hrs; obtain ⟨rfl, rfl⟩ := hrs; exact x_o_istore hc hdg hK h
  | istore_n k => simp only [x_rs, Bool.and_eq_true, beq_iff_eq, decide_eq_true_eq] at hrs; obtain ⟨rfl, rfl⟩ := hrs; exact x_o_istore_n hc hdg hK h
  | lstore k => simp only [x_rs, Bool.and_eq_true, beq_iff_eq, decide_eq_true_eq] at hrs; obtain ⟨rfl, rfl⟩ := hrs; exact x_o_lstore hc hdg hK h
  | lstore_n k => simp only [x_rs, Bool.and_eq_true, beq_iff_eq, decide_eq_true_eq] at hrs; obtain ⟨rfl, rfl⟩ := hrs; exact x_o_lstore_n hc hdg hK h
  | astore k => simp only [x_rs, Bool.and_eq_true, beq_iff_eq, decide_eq_true_eq] at hrs; obtain ⟨rfl, rfl⟩ := hrs; exact x_o_astore hc hdg hK h
  | astore_n k => simp only [x_rs, Bool.and_eq_true, beq_iff_eq, decide_eq_true_eq] at hrs; obtain ⟨rfl, rfl⟩ := hrs; exact x_o_astore_n hc hdg hK h
  | iinc k n => simp only [x_rs, Bool.and_eq_true, beq_iff_eq, decide_eq_true_eq] at hrs; obtain ⟨rfl, rfl⟩ := hrs; exact x_o_iinc hc hdg hK h
  | newarray ty => simp only [x_rs, Bool.and_eq_true, beq_iff_eq, decide_eq_true_eq] at hrs; obtain ⟨rfl, rfl⟩ := hrs; exact x_o_newa hc hdg hK h
  | getfield ix =>
    simp only [x_rs, Bool.and_eq_true, beq_iff_eq, decide_eq_true_eq] at hrs
    obtain ⟨⟨rfl, hv⟩, hm⟩ := hrs
    split at hm
    · exact x_o_getf hv hc hdg hK h
    · cases hm
  | putfield ix =>
    simp only [x_rs, Bool.and_eq_true, beq_iff_eq, decide_eq_true_eq] at hrs
    obtain ⟨⟨rfl, hv⟩, hm⟩ := hrs
    split at hm
    · exact x_o_putf hv hc hdg hK h
    · cases hm
  | invokespecial ix =>
    simp only [x_rs, Bool.and_eq_true, beq_iff_eq, decide_eq_true_eq] at hrs
    obtain ⟨⟨rfl, hv⟩, hm⟩ := hrs
    split at hm
    · exact x_o_pop hv hc hdg hK h
    · cases hm
  | invokestatic ix =>
    simp only [x_rs, Bool.and_eq_true, beq_iff_eq, decide_eq_true_eq] at hrs
    obtain ⟨⟨rfl, hv⟩, hm⟩ := hrs
    split at hm
    · rename_i b
      match b, hv, h with
      | 0, hv, h => exact x_o_mmax hv hc hdg hK h
      | 1, hv, h => exact x_o_mmin hv hc hdg hK h
      | 2, hv, h => exact x_o_copy hv hc hdg hK h
      | b + 3, hv, h => simp [x_s1] at h
    · cases hm
  | iadd => simp only [x_rs, Bool.and_eq_true, beq_iff_eq, decide_eq_true_eq, and_true] at hrs; obtain ⟨rfl, rfl⟩ := hrs; exact x_o_iadd hc hdg hK h
  | isub => simp only [x_rs, Bool.and_eq_true, beq_iff_eq, decide_eq_true_eq, and_true] at hrs; obtain ⟨rfl, rfl⟩ := hrs; exact x_o_isub hc hdg hK h
  | imul => simp only [x_rs, Bool.and_eq_true, beq_iff_eq, decide_eq_true_eq, and_true] at hrs; obtain ⟨rfl, rfl⟩ := hrs; exact x_o_imul hc hdg hK h
  | idiv => simp only [x_rs, Bool.and_eq_true, beq_iff_eq, decide_eq_true_eq, and_true] at hrs; obtain ⟨rfl, rfl⟩ := hrs; exact x_o_idiv hc hdg hK h
  | irem => simp only [x_rs, Bool.and_eq_true, beq_iff_eq, decide_eq_true_eq, and_true] at hrs; obtain ⟨rfl, rfl⟩ := hrs; exact x_o_irem hc hdg hK h
  | iand => simp only [x_rs, Bool.and_eq_true, beq_iff_eq, decide_eq_true_eq, and_true] at hrs; obtain ⟨rfl, rfl⟩ := hrs; exact x_o_iand hc hdg hK h
  | ior => simp only [x_rs, Bool.and_eq_true, beq_iff_eq, decide_eq_true_eq, and_true] at hrs; obtain ⟨rfl, rfl⟩ := hrs; exact x_o_ior hc hdg hK h
  | ishl => simp only [x_rs, Bool.and_eq_true, beq_iff_eq, decide_eq_true_eq, and_true] at hrs; obtain ⟨rfl, rfl⟩ := hrs; exact x_o_ishl hc hdg hK h
  | ishr => simp only [x_rs, Bool.and_eq_true, beq_iff_eq, decide_eq_true_eq, and_true] at hrs; obtain ⟨rfl, rfl⟩ := hrs; exact x_o_ishr hc hdg hK h
  | iushr => simp only [x_rs, Bool.and_eq_true, beq_iff_eq, decide_eq_true_eq, and_true] at hrs; obtain ⟨rfl, rfl⟩ := hrs; exact x_o_iushr hc hdg hK h
  | ladd => simp only [x_rs, Bool.and_eq_true, beq_iff_eq, decide_eq_true_eq, and_true] at hrs; obtain ⟨rfl, rfl⟩ := hrs; exact x_o_ladd hc hdg hK h
  | lmul => simp only [x_rs, Bool.and_eq_true, beq_iff_eq, decide_eq_true_eq, and_true] at hrs; obtain ⟨rfl, rfl⟩ := hrs; exact x_o_lmul hc hdg hK h
  | ldiv => simp only [x_rs, Bool.and_eq_true, beq_iff_eq, decide_eq_true_eq, and_true] at hrs; obtain ⟨rfl, rfl⟩ := hrs; exact x_o_ldiv hc hdg hK h
  | land => simp only [x_rs, Bool.and_eq_true, beq_iff_eq, decide_eq_true_eq, and_true] at hrs; obtain ⟨rfl, rfl⟩ := hrs; exact x_o_land hc hdg hK h
  | lor => simp only [x_rs, Bool.and_eq_true, beq_iff_eq, decide_eq_true_eq, and_true] at hrs; obtain ⟨rfl, rfl⟩ := hrs; exact x_o_lor hc hdg hK h
  | lshl => simp only [x_rs, Bool.and_eq_true, beq_iff_eq, decide_eq_true_eq, and_true] at hrs; obtain ⟨rfl, rfl⟩ := hrs; exact x_o_lshl hc hdg hK h
  | lushr => simp only [x_rs, Bool.and_eq_true, beq_iff_eq, decide_eq_true_eq, and_true] at hrs; obtain ⟨rfl, rfl⟩ := hrs; exact x_o_lushr hc hdg hK h
  | lcmp => simp only [x_rs, Bool.and_eq_true, beq_iff_eq, decide_eq_true_eq, and_true] at hrs; obtain ⟨rfl, rfl⟩ := hrs; exact x_o_lcmp hc hdg hK h
  | i2l => simp only [x_rs, Bool.and_eq_true, beq_iff_eq, decide_eq_true_eq, and_true] at hrs; obtain ⟨rfl, rfl⟩ := hrs; exact x_o_i2l hc hdg hK h
  | l2i => simp only [x_rs, Bool.and_eq_true, beq_iff_eq, decide_eq_true_eq, and_true] at hrs; obtain ⟨rfl, rfl⟩ := hrs; exact x_o_l2i hc hdg hK h
  | i2c => simp only [x_rs, Bool.and_eq_true, beq_iff_eq, decide_eq_true_eq, and_true] at hrs; obtain ⟨rfl, rfl⟩ := hrs; exact x_o_i2c hc hdg hK h
  | dup => simp only [x_rs, Bool.and_eq_true, beq_iff_eq, decide_eq_true_eq, and_true] at hrs; obtain ⟨rfl, rfl⟩ := hrs; exact x_o_dup hc hdg hK h
  | dup2 => simp only [x_rs, Bool.and_eq_true, beq_iff_eq, decide_eq_true_eq, and_true] at hrs; obtain ⟨rfl, rfl⟩ := hrs; exact x_o_dup2 hc hdg hK h
  | iaload => simp only [x_rs, Bool.and_eq_true, beq_iff_eq, decide_eq_true_eq, and_true] at hrs; obtain ⟨rfl, rfl⟩ := hrs; exact x_o_iaload hc hdg hK h
  | baload => simp only [x_rs, Bool.and_eq_true, beq_iff_eq, decide_eq_true_eq, and_true] at hrs; obtain ⟨rfl, rfl⟩ := hrs; exact x_o_baload hc hdg hK h
  | laload => simp only [x_rs, Bool.and_eq_true, beq_iff_eq, decide_eq_true_eq, and_true] at hrs; obtain ⟨rfl, rfl⟩ := hrs; exact x_o_laload hc hdg hK h
  | iastore => simp only [x_rs, Bool.and_eq_true, beq_iff_eq, decide_eq_true_eq, and_true] at hrs; obtain ⟨rfl, rfl⟩ := hrs; exact x_o_iastore hc hdg hK h
  | bastore => simp only [x_rs, Bool.and_eq_true, beq_iff_eq, decide_eq_true_eq, and_true] at hrs; obtain ⟨rfl, rfl⟩ := hrs; exact x_o_bastore hc hdg hK h
  | lastore => simp only [x_rs, Bool.and_eq_true, beq_iff_eq, decide_eq_true_eq, and_true] at hrs; obtain ⟨rfl, rfl⟩ := hrs; exact x_o_lastore hc hdg hK h
  | arraylength => simp only [x_rs, Bool.and_eq_true, beq_iff_eq, decide_eq_true_eq, and_true] at hrs; obtain ⟨rfl, rfl⟩ := hrs; exact x_o_alen hc hdg hK h
  | _ => simp [x_rs] at hrs
end X7
end
section
/-! ===== jumps, returns, calls ===== -/
abbrev x_tys (C : FieldType → ClassId) : List (ClassId × FieldType) := [(C .int, .int), (C .boolean, .boolean), (C .long, .long)]
/-- a method: its name, code, how many locals, what it returns -/
abbrev x_M : Type := Nat → MethodName × ByteArray × Nat × Option FieldType
/-- the texts: (class, number of its constant, text, number), how many, their lengths and bytes; the links between nest mates; static fields that are only read -/
abbrev x_X : Type := List (String × Nat × String × Nat) × Nat × List Nat × List (List Int32) × List (String × Nat × MethodName × String) × List (String × String × String × Value)
/-- a static field: an int, or a reference that may be null -/
def x_zs (r : String × String × String × Value) (A : Nat → Prop) (U : State) (H : Heap) : Prop := (r.2.2.2 = .null ∧ va_Zq r.1 r.2.1 r.2.2.1 A U H) ∨ va_Z r.1 r.2.1 r.2.2.1 r.2.2.2 A U H
theorem x_zs.moved {r : String × String × String × Value} {A : Nat → Prop} {u U : State} {H : Heap} (hvm : u.vm.Alike U.vm) (h : x_zs r A u H) : x_zs r A U H := h.elim (fun h => Or.inl ⟨h.1, h.2.elim (fun h => Or.inl (va_Z.moved hvm h)) (fun ⟨t, h⟩ => Or.inr ⟨t, va_Z.moved hvm h⟩)⟩) (fun h => Or.inr (va_Z.moved hvm h))
theorem x_zs.kept {r : String × String × String × Value} {A : Nat → Prop} {U : State} {H H1 : Heap} (h : x_zs r A U H) (hq : ∀ a : Nat, a < H.size → ¬ A a → H1[a]? = H[a]?) : x_zs r A U H1 := h.elim (fun h => Or.inl ⟨h.1, h.2.elim (fun h => Or.inl (va_Z.kept h hq)) (fun ⟨t, h⟩ => Or.inr ⟨t, va_Z.kept h hq⟩)⟩) (fun h => Or.inr (va_Z.kept h hq))
theorem x_zs.narrow {r : String × String × String × Value} {A B : Nat → Prop} {U : State} {H : Heap} (h : x_zs r A U H) (hAB : ∀ q, B q → A q) : x_zs r B U H := h.elim (fun h => Or.inl ⟨h.1, h.2.elim (fun h => Or.inl (va_Z.narrow h hAB)) (fun ⟨t, h⟩ => Or.inr ⟨t, va_Z.narrow h hAB⟩)⟩) (fun h => Or.inr (va_Z.narrow h hAB))
/-- what is known of a state beside its cells: texts and links -/
def x_xs (X : x_X) (sad adV : Nat → Nat) (A : Nat → Prop) (U : State) : Prop := (∀ r ∈ X.1, vk_R r.1 r.2.1 r.2.2.1 (sad r.2.2.2) U) ∧ vk_S X.2.1 X.2.2.1 X.2.2.2.1 sad adV A U U.heap ∧ (∀ r ∈ X.2.2.2.2.1, va_Nw (.methodLinkNest r.1 r.2.1 r.2.2.1 r.2.2.2) U) ∧ ∀ r ∈ X.2.2.2.2.2, x_zs r A U U.heap
def x_ws (Ts : List Cond) (M : x_M) (μ : Nat) : List Cond := .code (M μ).1 (M μ).2.1 (M μ).2.2.1 (M μ).2.2.2 :: Ts
def x_rm (d mc ms : Nat) : Room := { frames := d, cells := mc, slots := ms, locals := 100 * d }
def x_B (D : va_G) (cl : List vw_C) (C : FieldType → ClassId) (A : Nat → Prop) (T : x_T) (ad : Nat → Nat) (t : State) : Prop := va_P D cl (x_W ad C T) t.heap ∧ va_K D cl (x_tys C) t ∧ va_D A (x_W ad C T)
def x_post (D : va_G) (cl : List vw_C) (C : FieldType → ClassId) (A : Nat → Prop) (ad : Nat → Nat) (n : Nat) (q : Option Value × x_T) : Array Value → State → Outcome → State → Prop := match q.1 with
  | none => va_Qv (fun ad' : Nat → Nat => ∀ i, i < n → ad' i = ad i) (x_B D cl C A q.2) A
  | some (.int r) => va_Qi (fun r' (ad' : Nat → Nat) => r' = r ∧ ∀ i, i < n → ad' i = ad i) (x_B D cl C A q.2) A
  | some (.long r) => va_Ql (fun r' (ad' : Nat → Nat) => r' = r ∧ ∀ i, i < n → ad' i = ad i) (x_B D cl C A q.2) A
  | _ => fun _ _ _ _ => False
def x_pre (D : va_G) (cl : List vw_C) (C : FieldType → ClassId) (X : x_X) (ad sad adV : Nat → Nat) (T : x_T) (sz : Nat) (U : State) : Prop := U.heap.size = sz ∧ va_P D cl (x_W ad C T) U.heap ∧ va_K D cl (x_tys C) U ∧ va_D (fun _ => True) (x_W ad C T) ∧ x_xs X sad adV (va_A (x_W ad C T) sz) U
/-- the method's contract: it returns q.1 and leaves the cells q.2 -/
def x_C (l : Launch) (cl : List vw_C) (X : x_X) (Ts : List Cond) (M : x_M) (d μ : Nat) (vs : List Value) (T : x_T) (q : Option Value × x_T) : Prop := x_mo T q.2 ∧
  ∀ (ad sad adV : Nat → Nat) (D : va_G) (C : FieldType → ClassId) (sz : Nat), Met l (M μ).1 (x_ws Ts M μ) (x_rm d (q.2.1.length - T.1.length) (x_z q.2.1 - x_z T.1)) (va_Pc (vs.map (x_val ad sad)) (x_pre D cl C X ad sad adV T sz)) (x_post D cl C (va_A (x_W ad C T) sz) ad T.1.length q) (q.2.1.length - T.1.length) (x_z q.2.1 - x_z T.1) (va_A (x_W ad C T) sz)
/-- the classes' fields by their types -/
def x_df (ty0 : Nat → FieldType) (fs : List (Option Nat)) (N : Nat) : Prop := fs.length = N ∧ ∀ j, j < N → (fs[j]? = some none ∧ (ty0 j = .int ∨ ty0 j = .boolean)) ∨ (fs[j]? = some (some 0) ∧ ((∃ n, ty0 j = FieldType.object n) ∨ ∃ t, ty0 j = FieldType.array t))
/-- what is known of a method that is called -/
def x_mk (Ts : List Cond) (E : x_E) (M : x_M) (μ : Nat) : Prop := Cond.code (M μ).1 (M μ).2.1 (M μ).2.2.1 (M μ).2.2.2 ∈ Ts ∧ Cond.initialized (M μ).1.cls ∈ Ts ∧ ((M μ).1.cls ≠ "java/lang/invoke/MethodHandle" ∧ (M μ).1.cls ≠ "java/lang/invoke/VarHandle" ∧ (parseMethodDescriptor (M μ).1.desc).map (fun d => d.parameters.length) = some (E.2.1 μ).1) ∧ (M μ).2.2.1 ≤ 80
/-- what the constants of a class give: makings and calls -/
def x_l2 (Ts : List Cond) (E : x_E) (M : x_M) (X : x_X) (own : String) (cl : List vw_C) (ix : Nat) (i : Instr) : Prop := match i with
  | .new ci => ∃ (C : String) (T : u_T) (N : Nat) (ty0 : Nat → FieldType), cl[ci]? = some (C, T, N) ∧ (∀ w ∈ u_ws C T N, w ∈ Ts) ∧ (∀ k, k < N → parseFieldDescriptor (T k).2.2.1 = some (ty0 k)) ∧ Cond.classLink own ix C ∈ Ts ∧ Cond.instantiable C N ∈ Ts ∧ Cond.initialized C ∈ Ts ∧ x_df ty0 (E.1 ci) N
  | .invokevirtual μ => x_mk Ts E M μ ∧ (Cond.methodLink own ix (M μ).1 ∈ Ts ∨ ∃ host, (own, ix, (M μ).1, host) ∈ X.2.2.2.2.1) ∧ Cond.instanceMethod (M μ).1 ∈ Ts ∧ Cond.selects (M μ).1.cls (M μ).1 (M μ).1 ∈ Ts ∧ ∃ (T : u_T) (N : Nat), cl[(E.2.1 μ).2]? = some ((M μ).1.cls, T, N)
  | .invokestatic μ => x_mk Ts E M μ ∧ (Cond.methodLink own ix (M μ).1 ∈ Ts ∨ ∃ host, (own, ix, (M μ).1, host) ∈ X.2.2.2.2.1) ∧ Cond.static (M μ).1 ∈ Ts
  | .invokespecial μ => x_mk Ts E M μ ∧ (Cond.methodLink own ix (M μ).1 ∈ Ts ∨ ∃ host, (own, ix, (M μ).1, host) ∈ X.2.2.2.2.1) ∧ Cond.instanceMethod (M μ).1 ∈ Ts ∧ (M μ).1.name = "<init>" ∧ (M μ).2.2.2 = none
  | .checkcast μ => x_mk Ts E M μ ∧ Cond.methodLink own ix (M μ).1 ∈ Ts ∧ Cond.instanceMethod (M μ).1 ∈ Ts ∧ Cond.selects (M μ).1.cls (M μ).1 (M μ).1 ∈ Ts ∧ (M μ).1.cls = "java/lang/String" ∧ 2 ≤ X.2.1
  | _ => True
/-- the target of a jump: ahead as it is, back as its negSucc -/
def x_tg : Int → Nat
  | .ofNat j => j
  | .negSucc j => j
/-- how a row of a method's table is meant: (place, raw, length, resolved) -/
def x_rv (F Gp : Nat → Option Instr) (ret : Option FieldType) (pcs : Nat → Nat) (pc : Nat) (raw : Instr) (len : Nat) (res : Instr) : Bool := match res with
  | .goto t => (match raw with | .goto off => len == 3 && decide ((pc : Int) + off = ((pcs t.toNat : Nat) : Int)) | _ => false)
  | .jsr_w t => (match raw with | .goto off => len == 3 && decide ((pc : Int) + off = ((pcs t.toNat : Nat) : Int)) | _ => false)
  | .ifCond c t => (match raw with | .ifCond c' off => len == 3 && decide (c = c') && decide ((pc : Int) + off = ((pcs (x_tg t) : Nat) : Int)) | _ => false)
  | .if_icmp c t => (match raw with | .if_icmp c' off => len == 3 && decide (c = c') && decide ((pc : Int) + off = ((pcs (x_tg t) : Nat) : Int)) | _ => false)
  | .tableswitch d lo _ offs => (match raw with | .tableswitch d' lo' hi' offs' => decide (lo = lo') && decide ((pc : Int) + d' = ((pcs d.toNat : Nat) : Int)) && decide (hi' + 1 = lo + (offs.toList.length : Int)) && decide (offs'.toList.map (fun o => (pc : Int) + o) = offs.toList.map (fun t => ((pcs t.toNat : Nat) : Int))) | _ => false)
  | .lookupswitch d ps => (match raw with | .lookupswitch d' ps' => decide ((pc : Int) + d' = ((pcs d.toNat : Nat) : Int)) && decide (ps'.toList.map (fun q => (q.1, (pc : Int) + q.2)) = ps.toList.map (fun q => (q.1, ((pcs q.2.toNat : Nat) : Int)))) && (ps'.toList.zip (ps'.toList.drop 1)).all (fun (a, next) => a.1 < next.1) | _ => false)
  | .return_ => decide (raw = .return_) && len == 1 && decide (ret = none)
  | .ireturn => decide (raw = .ireturn) && len == 1 && decide (ret = some .int)
  | .areturn => decide (raw = .ireturn) && len == 1 && decide (ret = some .boolean)
  | .lreturn => decide (raw = .lreturn) && len == 1 && decide (ret = some .long)
  | .new ci => (match raw with | .new ix => len == 3 && decide (F ix = some (.new ci)) | _ => false)
  | .invokevirtual μ => (match raw with | .invokevirtual ix => len == 3 && decide (F ix = some (.invokevirtual μ)) | _ => false)
  | .checkcast μ => (match raw with | .invokevirtual ix => len == 3 && decide (F ix = some (.checkcast μ)) | _ => false)
  | .invokespecial μ => (match raw with | .invokespecial ix => len == 3 && decide (F ix = some (.invokespecial μ)) | _ => false)
  | .invokestatic μ => (match raw with | .invokestatic ix => len == 3 && decide (F ix = some (.invokestatic μ)) | _ => false)
  | _ => x_rs F Gp raw len res
abbrev x_R : Type := List (Nat × Instr × Nat × Instr)
def x_pc (tab : x_R) (j : Nat) : Nat := (tab.map (fun r => r.1)).getD j 0
def x_cd (tab : x_R) : List Instr := tab.map (fun r => r.2.2.2)
/-- a method's table is right -/
def x_tok (cc : ByteArray) (F Gp : Nat → Option Instr) (ret : Option FieldType) (tab : x_R) : Prop := ∀ (j pc : Nat) (raw : Instr) (len : Nat) (res : Instr), tab[j]? = some (pc, raw, len, res) → decode cc pc = .ok (raw, len) ∧ x_rv F Gp ret (x_pc tab) pc raw len res = true ∧ (j + 1 < tab.length → x_pc tab (j + 1) = pc + len)
section X8
variable {p : Program} {l : Launch} {e : Env} {R : Room} {s : State} {m : MethodId} {args : Array Value} {below : List Frame} {meth : Method} {c : Code} {Q : State → Prop} {cc : ByteArray} {D : va_G} {cl : List vw_C} {C : FieldType → ClassId} {A : Nat → Prop} {nL n0 z0 : Nat} {sad ad0 : Nat → Nat} {own : String} {Ts : List Cond} {F Gp : Nat → Option Instr} {pc len : Nat} {lv lv' : x_L} {st st' : List Value} {T T' : x_T} {q : Option Value × x_T} {K : x_L → List Value → x_T → x_Z} {raw res : Instr} {XT : x_Xt} {E : x_E} {O : Nat → List Value → x_T → x_Z} {B : Nat → x_L → x_T → x_Z} {tab : x_R} {X : x_X} {M : x_M} {adV : Nat → Nat} {d j : Nat} {ret : Option FieldType}
theorem x_cd_at {i : Instr} {rest : List Instr} (h : (x_cd tab).drop j = i :: rest) : ∃ (pc : Nat) (raw : Instr) (len : Nat), tab[j]? = some (pc, raw, len, i) ∧ rest = (x_cd tab).drop (j + 1) ∧ x_pc tab j = pc := by
  have hlt : j < (x_cd tab).length := by
    rcases Nat.lt_or_ge j (x_cd tab).length with h1 | h1
    · exact h1
    · rw [List.drop_eq_nil_of_le h1] at h; cases h
  have h2 := List.drop_eq_getElem_cons hlt
  rw [h2] at h
  injection h with h3 h4
  have hlt2 : j < tab.length := by simpa [x_cd] using hlt
  refine ⟨tab[j].1, tab[j].2.1, tab[j].2.2.1, ?_, h4.symm, ?_⟩
  · rw [List.getElem?_eq_getElem hlt2, ← h3]
    simp [x_cd]
  · simp [x_pc, List.getD, hlt2]
theorem x_drop_lt {i : Instr} {rest : List Instr} (h : (x_cd tab).drop j = i :: rest) : j < tab.length := by
  rcases Nat.lt_or_ge j (x_cd tab).length with h1 | h1
  · simpa [x_cd] using h1
  · rw [List.drop_eq_nil_of_le h1] at h; cases h
theorem x_jmp {t : Nat} (g : x_mo T q.2 ∧ x_G p l e R s m args below meth c D cl C A nL n0 z0 sad ad0 Q t lv st' T) (h : ∀ (ad : Nat → Nat) (H : Heap) (locs : List Loc) (cells slots : Nat) (ls : Array Slot), W p l e R s m args below meth c H locs cells slots Q (F0 m t ls (st'.map (x_val ad sad))) → W p l e R s m args below meth c H locs cells slots Q (F0 m pc ls (st.map (x_val ad sad)))) : x_mo T q.2 ∧ x_G p l e R s m args below meth c D cl C A nL n0 z0 sad ad0 Q pc lv st T :=
  ⟨g.1, fun ad H locs cells slots ls e1 hP hD hS hl c1 c2 => h ad H locs cells slots ls (g.2 ad H locs cells slots ls e1 hP hD hS hl c1 c2)⟩
theorem x_o_ifc {cd : ClassFile.Cond} {off : Int} {t : Nat} {x : Int32} (hc : x_cx p R s m args meth c cc D cl C A nL n0 z0 sad own Ts F Gp XT q) (hdg : decode cc pc = .ok (.ifCond cd off, 3)) (ht : (pc : Int) + off = (t : Int)) (gt : x_cmp cd x 0 = true → x_mo T q.2 ∧ x_G p l e R s m args below meth c D cl C A nL n0 z0 sad ad0 Q t lv st T) (gf : x_cmp cd x 0 = false → x_mo T q.2 ∧ x_G p l e R s m args below meth c D cl C A nL n0 z0 sad ad0 Q (pc + 3) lv st T) : x_mo T q.2 ∧ x_G p l e R s m args below meth c D cl C A nL n0 z0 sad ad0 Q pc lv (.int x :: st) T := by
  obtain ⟨hx, hb, hml, hown, hts, hKa, hA, hF, hG, hfr, hlo, hce, hsl, har, hXT⟩ := id hc
  have hmo : x_mo T q.2 := by
    cases hcm : x_cmp cd x 0 with
    | true => exact (gt hcm).1
    | false => exact (gf hcm).1
  refine ⟨hmo, fun ad H locs cells slots ls e1 hP hD hS hl c1 c2 => ?_⟩
  cases cd with
  | eq =>
    refine lv_if_eq hx hb hdg ht (fun hh => ?_) (fun hh => ?_)
    · exact (gt (by simp [x_cmp, hh])).2 ad H locs cells slots ls e1 hP hD hS hl c1 c2
    · exact (gf (by simpa [x_cmp] using hh)).2 ad H locs cells slots ls e1 hP hD hS hl c1 c2
  | ne =>
    refine lv_if_ne hx hb hdg ht (fun hh => ?_) (fun hh => ?_)
    · exact (gt (by simp [x_cmp, hh])).2 ad H locs cells slots ls e1 hP hD hS hl c1 c2
    · exact (gf (by simpa [x_cmp] using hh)).2 ad H locs cells slots ls e1 hP hD hS hl c1 c2
  | lt =>
    refine lv_if_lt hx hb hdg ht (fun hh => ?_) (fun hh => ?_)
    · exact (gt (by simp [x_cmp, hh])).2 ad H locs cells slots ls e1 hP hD hS hl c1 c2
    · exact (gf (by simpa [x_cmp] using hh)).2 ad H locs cells slots ls e1 hP hD hS hl c1 c2
  | ge =>
    refine lv_if_ge hx hb hdg ht (fun hh => ?_) (fun hh => ?_)
    · exact (gt (by simp [x_cmp, hh])).2 ad H locs cells slots ls e1 hP hD hS hl c1 c2
    · exact (gf (by simpa [x_cmp] using hh)).2 ad H locs cells slots ls e1 hP hD hS hl c1 c2
  | gt =>
    refine lv_if_gt hx hb hdg ht (fun hh => ?_) (fun hh => ?_)
    · exact (gt (by simp [x_cmp, hh])).2 ad H locs cells slots ls e1 hP hD hS hl c1 c2
    · exact (gf (by simpa [x_cmp] using hh)).2 ad H locs cells slots ls e1 hP hD hS hl c1 c2
  | le =>
    refine lv_if_le hx hb hdg ht (fun hh => ?_) (fun hh => ?_)
    · exact (gt (by simp [x_cmp, hh])).2 ad H locs cells slots ls e1 hP hD hS hl c1 c2
    · exact (gf (by simpa [x_cmp] using hh)).2 ad H locs cells slots ls e1 hP hD hS hl c1 c2
theorem x_o_icm {cd : ClassFile.Cond} {off : Int} {t : Nat} {x y : Int32} (hc : x_cx p R s m args meth c cc D cl C A nL n0 z0 sad own Ts F Gp XT q) (hdg : decode cc pc = .ok (.if_icmp cd off, 3)) (ht : (pc : Int) + off = (t : Int)) (gt : x_cmp cd x y = true → x_mo T q.2 ∧ x_G p l e R s m args below meth c D cl C A nL n0 z0 sad ad0 Q t lv st T) (gf : x_cmp cd x y = false → x_mo T q.2 ∧ x_G p l e R s m args below meth c D cl C A nL n0 z0 sad ad0 Q (pc + 3) lv st T) : x_mo T q.2 ∧ x_G p l e R s m args below meth c D cl C A nL n0 z0 sad ad0 Q pc lv (.int y :: .int x :: st) T := by
  obtain ⟨hx, hb, hml, hown, hts, hKa, hA, hF, hG, hfr, hlo, hce, hsl, har, hXT⟩ := id hc
  have hmo : x_mo T q.2 := by
    cases hcm : x_cmp cd x y with
    | true => exact (gt hcm).1
    | false => exact (gf hcm).1
  refine ⟨hmo, fun ad H locs cells slots ls e1 hP hD hS hl c1 c2 => ?_⟩
  cases cd with
  | eq =>
    refine lv_icmp_eq hx hb hdg ht (fun hh => ?_) (fun hh => ?_)
    · exact (gt (by simp [x_cmp, hh])).2 ad H locs cells slots ls e1 hP hD hS hl c1 c2
    · exact (gf (by simpa [x_cmp] using hh)).2 ad H locs cells slots ls e1 hP hD hS hl c1 c2
  | ne =>
    refine lv_icmp_ne hx hb hdg ht (fun hh => ?_) (fun hh => ?_)
    · exact (gt (by simp [x_cmp, hh])).2 ad H locs cells slots ls e1 hP hD hS hl c1 c2
    · exact (gf (by simpa [x_cmp] using hh)).2 ad H locs cells slots ls e1 hP hD hS hl c1 c2
  | lt =>
    refine lv_icmp_lt hx hb hdg ht (fun hh => ?_) (fun hh => ?_)
    · exact (gt (by simp [x_cmp, hh])).2 ad H locs cells slots ls e1 hP hD hS hl c1 c2
    · exact (gf (by simpa [x_cmp] using hh)).2 ad H locs cells slots ls e1 hP hD hS hl c1 c2
  | ge =>
    refine lv_icmp_ge hx hb hdg ht (fun hh => ?_) (fun hh => ?_)
    · exact (gt (by simp [x_cmp, hh])).2 ad H locs cells slots ls e1 hP hD hS hl c1 c2
    · exact (gf (by simpa [x_cmp] using hh)).2 ad H locs cells slots ls e1 hP hD hS hl c1 c2
  | gt =>
    refine lv_icmp_gt hx hb hdg ht (fun hh => ?_) (fun hh => ?_)
    · exact (gt (by simp [x_cmp, hh])).2 ad H locs cells slots ls e1 hP hD hS hl c1 c2
    · exact (gf (by simpa [x_cmp] using hh)).2 ad H locs cells slots ls e1 hP hD hS hl c1 c2
  | le =>
    refine lv_icmp_le hx hb hdg ht (fun hh => ?_) (fun hh => ?_)
    · exact (gt (by simp [x_cmp, hh])).2 ad H locs cells slots ls e1 hP hD hS hl c1 c2
    · exact (gf (by simpa [x_cmp] using hh)).2 ad H locs cells slots ls e1 hP hD hS hl c1 c2
end X8
end
section
section X9
variable {p : Program} {l : Launch} {e : Env} {R : Room} {s : State} {m : MethodId} {args : Array Value} {below : List Frame} {meth : Method} {c : Code} {Q : State → Prop} {cc : ByteArray} {D : va_G} {cl : List vw_C} {C : FieldType → ClassId} {A : Nat → Prop} {nL n0 z0 : Nat} {sad ad0 : Nat → Nat} {own : String} {Ts : List Cond} {F Gp : Nat → Option Instr} {pc len : Nat} {lv lv' : x_L} {st st' : List Value} {T T' : x_T} {q : Option Value × x_T} {K : x_L → List Value → x_T → x_Z} {raw res : Instr} {XT : x_Xt} {E : x_E} {O : Nat → List Value → x_T → x_Z} {B : Nat → x_L → x_T → x_Z} {tab : x_R} {X : x_X} {M : x_M} {adV : Nat → Nat} {d j : Nat} {ret : Option FieldType} {Ts0 : List Cond}
/-- the end of a method's walk -/
def x_Q (below : List Frame) (args : Array Value) (s : State) (D : va_G) (cl : List vw_C) (C : FieldType → ClassId) (A : Nat → Prop) (ad : Nat → Nat) (n z : Nat) (q : Option Value × x_T) : State → Prop := MQ below (x_post D cl C A ad n q) args s (q.2.1.length - n) (x_z q.2.1 - z) A
theorem x_o_vret  (hc : x_cx p R s m args meth c cc D cl C A nL n0 z0 sad own Ts F Gp XT (none, T)) (hr : meth.sig.returnType = none) (hlk : meth.locks = false) (hdg : decode cc pc = .ok (.return_, 1)) : x_mo T T ∧ x_G p l e R s m args below meth c D cl C A nL n0 z0 sad ad0 (x_Q below args s D cl C A ad0 n0 z0 (none, T)) pc lv [] T := by
  obtain ⟨hx, hb, hml, hown, hts, hKa, hA, hF, hG, hfr, hlo, hce, hsl, har, hXT⟩ := id hc
  refine ⟨⟨Nat.le_refl _, Nat.le_refl _⟩, fun ad H locs cells slots ls e1 hP hD hS hl c1 c2 => ?_⟩
  obtain rfl : cells = T.1.length - n0 := by omega
  obtain rfl : slots = x_z T.1 - z0 := by omega
  refine W.vret hx hb hr ?_ hS.2.2 hdg hlk
  intro t ht hw
  exact ⟨⟨ad, rfl, e1, ⟨by rw [ht]; exact hP, va_K.moved hw.alike hKa, hD⟩⟩, hS.F ht⟩
theorem x_o_iret {v : Int32} (hc : x_cx p R s m args meth c cc D cl C A nL n0 z0 sad own Ts F Gp XT (some (.int v), T)) (hr : meth.sig.returnType = some .int) (hlk : meth.locks = false) (hdg : decode cc pc = .ok (.ireturn, 1)) : x_mo T T ∧ x_G p l e R s m args below meth c D cl C A nL n0 z0 sad ad0 (x_Q below args s D cl C A ad0 n0 z0 (some (.int v), T)) pc lv [.int v] T := by
  obtain ⟨hx, hb, hml, hown, hts, hKa, hA, hF, hG, hfr, hlo, hce, hsl, har, hXT⟩ := id hc
  refine ⟨⟨Nat.le_refl _, Nat.le_refl _⟩, fun ad H locs cells slots ls e1 hP hD hS hl c1 c2 => ?_⟩
  obtain rfl : cells = T.1.length - n0 := by omega
  obtain rfl : slots = x_z T.1 - z0 := by omega
  refine W.iret hx hb hr ?_ hS.2.2 hdg hlk
  intro t ht hw
  exact ⟨⟨v, ad, rfl, ⟨rfl, e1⟩, ⟨by rw [ht]; exact hP, va_K.moved hw.alike hKa, hD⟩⟩, hS.F ht⟩
theorem x_o_zret {v : Int32} (hc : x_cx p R s m args meth c cc D cl C A nL n0 z0 sad own Ts F Gp XT (some (.int v), T)) (hr : meth.sig.returnType = some .boolean) (hlk : meth.locks = false) (hv : narrow .boolean (.int v) = .int v) (hdg : decode cc pc = .ok (.ireturn, 1)) : x_mo T T ∧ x_G p l e R s m args below meth c D cl C A nL n0 z0 sad ad0 (x_Q below args s D cl C A ad0 n0 z0 (some (.int v), T)) pc lv [.int v] T := by
  obtain ⟨hx, hb, hml, hown, hts, hKa, hA, hF, hG, hfr, hlo, hce, hsl, har, hXT⟩ := id hc
  refine ⟨⟨Nat.le_refl _, Nat.le_refl _⟩, fun ad H locs cells slots ls e1 hP hD hS hl c1 c2 => ?_⟩
  obtain rfl : cells = T.1.length - n0 := by omega
  obtain rfl : slots = x_z T.1 - z0 := by omega
  refine W.zret hx hb hr hv ?_ hS.2.2 hdg hlk
  intro t ht hw
  exact ⟨⟨v, ad, rfl, ⟨rfl, e1⟩, ⟨by rw [ht]; exact hP, va_K.moved hw.alike hKa, hD⟩⟩, hS.F ht⟩
theorem x_o_lret {v : Int64} (hc : x_cx p R s m args meth c cc D cl C A nL n0 z0 sad own Ts F Gp XT (some (.long v), T)) (hr : meth.sig.returnType = some .long) (hlk : meth.locks = false) (hdg : decode cc pc = .ok (.lreturn, 1)) : x_mo T T ∧ x_G p l e R s m args below meth c D cl C A nL n0 z0 sad ad0 (x_Q below args s D cl C A ad0 n0 z0 (some (.long v), T)) pc lv [.long v] T := by
  obtain ⟨hx, hb, hml, hown, hts, hKa, hA, hF, hG, hfr, hlo, hce, hsl, har, hXT⟩ := id hc
  refine ⟨⟨Nat.le_refl _, Nat.le_refl _⟩, fun ad H locs cells slots ls e1 hP hD hS hl c1 c2 => ?_⟩
  obtain rfl : cells = T.1.length - n0 := by omega
  obtain rfl : slots = x_z T.1 - z0 := by omega
  refine W.lret hx hb hr ?_ hS.2.2 hdg hlk
  intro t ht hw
  exact ⟨⟨v, ad, rfl, ⟨rfl, e1⟩, ⟨by rw [ht]; exact hP, va_K.moved hw.alike hKa, hD⟩⟩, hS.F ht⟩
set_option maxHeartbeats 1000000 in
theorem x_o_new {ix ci : Nat} (hc : x_cx p R s m args meth c cc D cl C A nL n0 z0 sad own Ts F Gp XT q) (hl2 : x_l2 Ts E M X own cl ix (.new ci)) (hdg : decode cc pc = .ok (.new ix, 3)) (k4 : x_okl T.1.length lv = true) (k5 : x_oks T.1.length st = true) (k6 : x_okT T.1.length T.1 = true) (g : x_mo (x_new T (.inr (ci, E.1 ci))) q.2 ∧ x_G p l e R s m args below meth c D cl C A nL n0 z0 sad ad0 Q (pc + 3) lv (.ref T.1.length :: st) (x_new T (.inr (ci, E.1 ci)))) : x_mo T q.2 ∧ x_G p l e R s m args below meth c D cl C A nL n0 z0 sad ad0 Q pc lv st T := by
  obtain ⟨hx, hb, hml, hown, hts, hKa, hA, hF, hG, hfr, hlo, hce, hsl, har, hXT⟩ := id hc
  obtain ⟨Cn, Tn, N, ty0, hcl, hin, hty, hlk, hinst, hini, hlen, hdf⟩ := hl2
  have hmo := g.1
  unfold x_mo at hmo
  have hl1 : (x_new T (.inr (ci, E.1 ci))).1.length = T.1.length + 1 := by simp [x_new]
  have hz1 : x_z (x_new T (.inr (ci, E.1 ci))).1 = x_z T.1 + N := by simp [x_new, x_z_app, x_z, x_z1, hlen]
  rw [hl1, hz1] at hmo
  refine ⟨⟨by omega, by omega⟩, fun ad H locs cells slots ls e1 hP hD hS hl c1 c2 => ?_⟩
  have hsame : ∀ ad' : Nat → Nat, (E.1 ci).mapIdx (fun k r => x_fv ad' (fun _ => 0) k r) = (E.1 ci).mapIdx (fun k r => x_fv ad (fun _ => 0) k r) := by
    intro ad'
    apply List.ext_getElem?
    intro i
    rw [List.getElem?_mapIdx, List.getElem?_mapIdx]
    rcases Nat.lt_or_ge i N with hi | hi
    · rcases hdf i hi with ⟨h1, -⟩ | ⟨h1, -⟩
      · rw [h1]; rfl
      · rw [h1]; rfl
    · rw [List.getElem?_eq_none (by omega)]; rfl
  refine va_new (ci := ci) (fs := (E.1 ci).mapIdx (fun k r => x_fv ad (fun _ => 0) k r)) hx hb hts hin ty0 hty hown (hts _ hlk) (hts _ hinst) (hts _ hini) hKa hP hD hS hA hcl (fun j hj => ?_) (by omega) (by omega) hdg (fun q' H1 hP1 hD1 hS1 => ?_)
  · rcases hdf j hj with ⟨h1, h2 | h2⟩ | ⟨h1, ⟨n, h2⟩ | ⟨n, h2⟩⟩
    · simp [vp_V, List.getD, List.getElem?_mapIdx, h1, h2, x_fv, defaultValue]
    · simp [vp_V, List.getD, List.getElem?_mapIdx, h1, h2, x_fv, defaultValue]
    · simp [vp_V, List.getD, List.getElem?_mapIdx, h1, h2, x_fv, defaultValue]
    · simp [vp_V, List.getD, List.getElem?_mapIdx, h1, h2, x_fv, defaultValue]
  · have hWn := x_W_new (ad := ad) (C := C) (T := T) (sh := .inr (ci, E.1 ci)) (q := q') k6
    simp only [x_ent] at hWn
    rw [hsame] at hWn
    rw [← hWn] at hP1 hD1
    have hex : ∀ i, i < T.1.length → va_up ad T.1.length q' i = ad i := fun i hi => x_up_n _ _ (by omega)
    have hg := g.2 (va_up ad T.1.length q') H1 locs (cells + 1) (slots + N) ls (fun i hi => by rw [hex i (by omega)]; exact e1 i hi) hP1 hD1 hS1 (x_ls_ex hex k4 hl) (by rw [hl1]; omega) (by rw [hz1]; omega)
    simp only [List.map_cons, x_val, x_up_s] at hg
    rw [x_st_ex hex k5] at hg
    exact hg
theorem x_A_sub {ad : Nat → Nat} {H : Heap} {locs : List Loc} (hA : ∀ q, s.heap.size ≤ q → A q) (hD : va_D A (x_W ad C T)) (hS : va_S A s.heap H locs) : ∀ q, va_A (x_W ad C T) H.size q → A q := by
  intro q h
  rcases h with ⟨k, e, h⟩ | h
  · exact hD.2 k (q, e) h
  · exact hA q (Nat.le_trans hS.1 h)
theorem x_xs_call {ad : Nat → Nat} {H : Heap} {locs : List Loc} (hxs : x_xs X sad adV A s) (hA : ∀ q, s.heap.size ≤ q → A q) (hD : va_D A (x_W ad C T)) (hS : va_S A s.heap H locs) {U : State} (hU : U.heap = H) (hW : s.WarmedH U.vm) : x_xs X sad adV (va_A (x_W ad C T) H.size) U := by
  obtain ⟨h1, h2, h3, h4⟩ := hxs
  refine ⟨fun r hr => vk_R.warm hW (h1 r hr), ?_, fun r hr => va_Nw.warmM hW (h3 r hr), fun r hr => ?_⟩
  rotate_left
  · rw [hU]
    exact x_zs.moved hW.alike (x_zs.narrow (x_zs.kept (h4 r hr) (fun a ha hn => hS.2.1 a ha hn)) (x_A_sub hA hD hS))
  rw [hU]
  exact vk_S.moved hW.alike (vk_S.narrow (vk_S.kept h2 (fun a ha hn => hS.2.1 a ha hn)) (x_A_sub hA hD hS))
theorem x_blind {ad : Nat → Nat} {vs : List Value} {sz : Nat} : FrameBlind (va_Pc vs (x_pre D cl C X ad sad adV T sz)) := by
  intro a U g mk h
  obtain ⟨h0, h1, h2, h3, h4, h5, h6, h7, h8⟩ := h
  exact ⟨h0, h1, h2, va_K.moved (u := U) (U := U.calling g mk a) (Vm.Alike.refl U.vm) h3, h4, fun r hr => vk_R.same (u := U) rfl (h5 r hr), vk_S.moved (u := U) (U := U.calling g mk a) (Vm.Alike.refl U.vm) h6, fun r hr => va_Nw.same rfl (u := U) rfl (h7 r hr), fun r hr => x_zs.moved (u := U) (U := U.calling g mk a) (Vm.Alike.refl U.vm) (h8 r hr)⟩
theorem x_pre_call {ad : Nat → Nat} {H : Heap} {locs : List Loc} (hKa : va_K D cl (x_tys C) s) (hxs : x_xs X sad adV A s) (hA : ∀ q, s.heap.size ≤ q → A q) (hP : va_P D cl (x_W ad C T) H) (hD : va_D A (x_W ad C T)) (hS : va_S A s.heap H locs) {U : State} (hU : U.heap = H) (hW : s.WarmedH U.vm) : x_pre D cl C X ad sad adV T H.size U :=
  ⟨by rw [hU], by rw [hU]; exact hP, va_K.moved hW.alike hKa, hD.weaken (fun _ _ _ _ => trivial), x_xs_call hxs hA hD hS hU hW⟩
set_option maxHeartbeats 1000000 in
/-- behind a call -/
theorem x_back {q1 : Option Value × x_T} {μ : Nat} {vs r : List Value} (hc : x_cx p R s m args meth c cc D cl C A nL n0 z0 sad own Ts F Gp XT q) (hC : x_C l cl X Ts0 M d μ vs T q1) (k4 : x_okl T.1.length lv = true) (k5 : x_oks T.1.length r = true) (hrun : ∀ (ad : Nat → Nat) (H : Heap) (locs : List Loc) (cells slots : Nat) (ls : Array Slot), (∀ i, i < n0 → ad i = ad0 i) → va_P D cl (x_W ad C T) H → va_D A (x_W ad C T) → va_S A s.heap H locs → x_ls ad sad ls nL lv → cells + (q1.2.1.length - T.1.length) ≤ R.cells ∧ slots + (x_z q1.2.1 - x_z T.1) ≤ R.slots → va_Run p l e R s m args below meth c H locs cells slots (q1.2.1.length - T.1.length) (x_z q1.2.1 - x_z T.1) (F0 m pc ls (st.map (x_val ad sad))) (r.map (x_val ad sad)) (x_post D cl C (va_A (x_W ad C T) H.size) ad T.1.length q1 (vs.map (x_val ad sad)).toArray) (va_A (x_W ad C T) H.size)) (g : x_mo q1.2 q.2 ∧ x_G p l e R s m args below meth c D cl C A nL n0 z0 sad ad0 Q (pc + 3) lv (q1.1.toList ++ r) q1.2) : x_mo T q.2 ∧ x_G p l e R s m args below meth c D cl C A nL n0 z0 sad ad0 Q pc lv st T := by
  obtain ⟨hx, hb, hml, hown, hts, hKa, hA, hF, hG, hfr, hlo, hce, hsl, har, hXT⟩ := id hc
  have hm1 := hC.1
  have hm2 := g.1
  have hmo : x_mo T q.2 := ⟨Nat.le_trans hm1.1 hm2.1, Nat.le_trans hm1.2 hm2.2⟩
  refine ⟨hmo, fun ad H locs cells slots ls e1 hP hD hS hl c1 c2 => ?_⟩
  unfold x_mo at hm1 hm2
  have hr := hrun ad H locs cells slots ls e1 hP hD hS hl ⟨by omega, by omega⟩
  have hsub := x_A_sub (C := C) hA hD hS
  have go : ∀ (ad' : Nat → Nat) (t : State) (H1 : Heap) (locs1 : List Loc), t.heap = H1 → (∀ i, i < T.1.length → ad' i = ad i) → x_B D cl C (va_A (x_W ad C T) H.size) q1.2 ad' t → va_S A s.heap H1 locs1 → W p l e R s m args below meth c H1 locs1 (cells + (q1.2.1.length - T.1.length)) (slots + (x_z q1.2.1 - x_z T.1)) Q (F0 m (pc + 3) ls ((q1.1.toList ++ r).map (x_val ad' sad))) := by
    intro ad' t H1 locs1 ht hex hB hS1
    obtain ⟨b1, b2, b3⟩ := hB
    rw [ht] at b1
    exact g.2 ad' H1 locs1 _ _ ls (fun i hi => by rw [hex i (by omega)]; exact e1 i hi) b1 (b3.weaken (fun _ _ _ h => hsub _ h)) hS1 (x_ls_ex hex k4 hl) (by omega) (by omega)
  obtain ⟨v, T1⟩ := q1
  match v, hr, go with
  | none, hr, go =>
    refine va_callv (a := (vs.map (x_val ad sad)).toArray) hr hS (fun q _ h => hsub q h) hsub (fun ad' t H1 locs1 ht hvm hw hB hz1 hk1 hS1 => ?_)
    have hgo := go ad' t H1 locs1 ht hw hB hS1
    simp only [Option.toList_none, List.nil_append] at hgo
    rw [x_st_ex hw k5] at hgo
    exact hgo
  | some (.int x), hr, go =>
    refine va_calli (a := (vs.map (x_val ad sad)).toArray) hr hS (fun q _ h => hsub q h) hsub (fun x' ad' t H1 locs1 ht hvm hw hB hz1 hk1 hS1 => ?_)
    obtain ⟨rfl, hw⟩ := hw
    have hgo := go ad' t H1 locs1 ht hw hB hS1
    simp only [Option.toList_some, List.cons_append, List.nil_append, List.map_cons, x_val] at hgo
    rw [x_st_ex hw k5] at hgo
    exact hgo
  | some (.long x), hr, go =>
    refine va_calll (a := (vs.map (x_val ad sad)).toArray) hr hS (fun q _ h => hsub q h) hsub (fun x' ad' t H1 locs1 ht hvm hw hB hz1 hk1 hS1 => ?_)
    obtain ⟨rfl, hw⟩ := hw
    have hgo := go ad' t H1 locs1 ht hw hB hS1
    simp only [Option.toList_some, List.cons_append, List.nil_append, List.map_cons, x_val] at hgo
    rw [x_st_ex hw k5] at hgo
    exact hgo
  | some .null, hr, go =>
    intro T2 hT2 X2
    obtain ⟨v, s1, t, T3, L, h1, h2, h3, h4, h5, h6, h7⟩ := hr T2 hT2 X2
    exact h6.elim
  | some (.ref _), hr, go =>
    intro T2 hT2 X2
    obtain ⟨v, s1, t, T3, L, h1, h2, h3, h4, h5, h6, h7⟩ := hr T2 hT2 X2
    exact h6.elim
  | some (.float _), hr, go =>
    intro T2 hT2 X2
    obtain ⟨v, s1, t, T3, L, h1, h2, h3, h4, h5, h6, h7⟩ := hr T2 hT2 X2
    exact h6.elim
  | some (.double _), hr, go =>
    intro T2 hT2 X2
    obtain ⟨v, s1, t, T3, L, h1, h2, h3, h4, h5, h6, h7⟩ := hr T2 hT2 X2
    exact h6.elim
  | some (.retAddr _), hr, go =>
    intro T2 hT2 X2
    obtain ⟨v, s1, t, T3, L, h1, h2, h3, h4, h5, h6, h7⟩ := hr T2 hT2 X2
    exact h6.elim
set_option maxHeartbeats 1000000 in
theorem x_o_callV {ix μ b : Nat} {As r : List Value} {q1 : Option Value × x_T} {ci : Nat} {fs : List (Option Nat)} (hc : x_cx p R s m args meth c cc D cl C A nL n0 z0 sad own Ts F Gp XT q) (hl2 : x_l2 Ts E M X own cl ix (.invokevirtual μ)) (hxs : x_xs X sad adV A s) (hGi : GoodIn Ts (x_ws Ts0 M μ)) (hdg : decode cc pc = .ok (.invokevirtual ix, 3)) (hC : x_C l cl X Ts0 M d μ (.ref b :: As) T q1) (hn : As.length = (E.2.1 μ).1) (hsh : T.1[b]? = some (.inr (ci, fs))) (hci : ci = (E.2.1 μ).2) (hsm : x_sm r ≤ 8) (k4 : x_okl T.1.length lv = true) (k5 : x_oks T.1.length r = true) (hR1 : d + 1 ≤ R.frames) (hR2 : 100 * d + 100 ≤ R.locals) (g : x_mo q1.2 q.2 ∧ x_G p l e R s m args below meth c D cl C A nL n0 z0 sad ad0 Q (pc + 3) lv (q1.1.toList ++ r) q1.2) : x_mo T q.2 ∧ x_G p l e R s m args below meth c D cl C A nL n0 z0 sad ad0 Q pc lv (As.reverse ++ .ref b :: r) T := by
  obtain ⟨hx, hb, hml, hown, hts, hKa, hA, hF, hG, hfr, hlo, hce, hsl, har, hXT⟩ := id hc
  obtain ⟨hmk, hlink, hinst, hsel, Tn, N, hcl⟩ := hl2
  subst hci
  obtain ⟨m1, m2, m3, m4⟩ := hmk
  refine x_back hc hC k4 k5 (fun ad H locs cells slots ls e1 hP hD hS hl hf => ?_) g
  have hlsz : ls.size = nL := by obtain ⟨lst, hl1, hl2, hl3⟩ := hl; exact hl1.1
  have hM := hC.2 ad sad adV D C H.size
  have hst : (As.reverse ++ .ref b :: r).map (x_val ad sad) = (As.map (x_val ad sad)).reverse ++ .ref (ad b) :: r.map (x_val ad sad) := by simp [x_val]
  rw [hst]
  rcases hlink with hlink | ⟨host, hlink⟩
  · exact va_runV (nL := nL) (As := As.map (x_val ad sad)) (rest := r.map (x_val ad sad)) (n := (E.2.1 μ).1) ⟨hx, hb, hml, hown, hts⟩ hM ⟨(callB_of (bytes := (M μ).2.1) (maxL := (M μ).2.2.1) (ret := (M μ).2.2.2) (ws' := Ts0) _ hts hGi rfl rfl rfl (hts _ m2) (hts _ hlink) m3 ⟨hR1, by show 8 + (_ + 11) + 100 * d ≤ _; omega⟩), hts _ hinst, hts _ hsel⟩ ⟨x_blind, va_recv hKa hP hcl (x_W_get (ad := ad) (C := C) hsh), fun U hU hW => ⟨by simp [x_val], x_pre_call hKa hxs hA hP hD hS hU hW⟩⟩ rfl (by rw [List.length_map]; exact hn) hlsz rfl (lv_room (by rw [x_sm_val (sad := sad) ad]; exact hsm)) hdg hf
  · exact va_runVN (nL := nL) (As := As.map (x_val ad sad)) (rest := r.map (x_val ad sad)) (n := (E.2.1 μ).1) ⟨hx, hb, hml, hown, hts⟩ hM ⟨(va_cnB (bytes := (M μ).2.1) (maxL := (M μ).2.2.1) (ret := (M μ).2.2.2) (ws' := Ts0) _ hts hGi rfl rfl rfl (hxs.2.2.1 _ hlink) (hts _ m2) m3 ⟨hR1, by show 8 + (_ + 11) + 100 * d ≤ _; omega⟩), hts _ hinst, hts _ hsel⟩ ⟨x_blind, va_recv hKa hP hcl (x_W_get (ad := ad) (C := C) hsh), fun U hU hW => ⟨by simp [x_val], x_pre_call hKa hxs hA hP hD hS hU hW⟩⟩ rfl (by rw [List.length_map]; exact hn) hlsz rfl (lv_room (by rw [x_sm_val (sad := sad) ad]; exact hsm)) hdg hf
set_option maxHeartbeats 1000000 in
theorem x_o_callI {ix μ b : Nat} {As r : List Value} {q1 : Option Value × x_T}  (hc : x_cx p R s m args meth c cc D cl C A nL n0 z0 sad own Ts F Gp XT q) (hl2 : x_l2 Ts E M X own cl ix (.invokespecial μ)) (hxs : x_xs X sad adV A s) (hGi : GoodIn Ts (x_ws Ts0 M μ)) (hdg : decode cc pc = .ok (.invokespecial ix, 3)) (hC : x_C l cl X Ts0 M d μ (.ref b :: As) T q1) (hn : As.length = (E.2.1 μ).1)  (hsm : x_sm r ≤ 8) (k4 : x_okl T.1.length lv = true) (k5 : x_oks T.1.length r = true) (hR1 : d + 1 ≤ R.frames) (hR2 : 100 * d + 100 ≤ R.locals) (g : x_mo q1.2 q.2 ∧ x_G p l e R s m args below meth c D cl C A nL n0 z0 sad ad0 Q (pc + 3) lv (q1.1.toList ++ r) q1.2) : x_mo T q.2 ∧ x_G p l e R s m args below meth c D cl C A nL n0 z0 sad ad0 Q pc lv (As.reverse ++ .ref b :: r) T := by
  obtain ⟨hx, hb, hml, hown, hts, hKa, hA, hF, hG, hfr, hlo, hce, hsl, har, hXT⟩ := id hc
  obtain ⟨hmk, hlink, hinst, hnm, hret⟩ := hl2
  obtain ⟨m1, m2, m3, m4⟩ := hmk
  refine x_back hc hC k4 k5 (fun ad H locs cells slots ls e1 hP hD hS hl hf => ?_) g
  have hlsz : ls.size = nL := by obtain ⟨lst, hl1, hl2, hl3⟩ := hl; exact hl1.1
  have hM := hC.2 ad sad adV D C H.size
  have hst : (As.reverse ++ .ref b :: r).map (x_val ad sad) = (As.map (x_val ad sad)).reverse ++ .ref (ad b) :: r.map (x_val ad sad) := by simp [x_val]
  rw [hst]
  rcases hlink with hlink | ⟨host, hlink⟩
  · exact va_runI (nL := nL) (As := As.map (x_val ad sad)) (rest := r.map (x_val ad sad)) (n := (E.2.1 μ).1) ⟨hx, hb, hml, hown, hts⟩ hM ⟨(callB_of (bytes := (M μ).2.1) (maxL := (M μ).2.2.1) (ret := none) (ws' := Ts0) _ hts hGi (by unfold x_ws; rw [hret]) rfl rfl (hts _ m2) (hts _ hlink) m3 ⟨hR1, by show 8 + (_ + 11) + 100 * d ≤ _; omega⟩), hnm, hts _ hinst⟩ ⟨x_blind, fun U hU hW => ⟨by simp [x_val], x_pre_call hKa hxs hA hP hD hS hU hW⟩⟩ rfl (by rw [List.length_map]; exact hn) hlsz rfl (lv_room (by rw [x_sm_val (sad := sad) ad]; exact hsm)) hdg hf
  · exact va_runIN (nL := nL) (As := As.map (x_val ad sad)) (rest := r.map (x_val ad sad)) (n := (E.2.1 μ).1) ⟨hx, hb, hml, hown, hts⟩ hM ⟨(va_cnB (bytes := (M μ).2.1) (maxL := (M μ).2.2.1) (ret := none) (ws' := Ts0) _ hts hGi (by unfold x_ws; rw [hret]) rfl rfl (hxs.2.2.1 _ hlink) (hts _ m2) m3 ⟨hR1, by show 8 + (_ + 11) + 100 * d ≤ _; omega⟩), hnm, hts _ hinst⟩ ⟨x_blind, fun U hU hW => ⟨by simp [x_val], x_pre_call hKa hxs hA hP hD hS hU hW⟩⟩ rfl (by rw [List.length_map]; exact hn) hlsz rfl (lv_room (by rw [x_sm_val (sad := sad) ad]; exact hsm)) hdg hf
set_option maxHeartbeats 1000000 in
theorem x_o_callS {ix μ b : Nat} {As r : List Value} {q1 : Option Value × x_T}  (hc : x_cx p R s m args meth c cc D cl C A nL n0 z0 sad own Ts F Gp XT q) (hl2 : x_l2 Ts E M X own cl ix (.invokestatic μ)) (hxs : x_xs X sad adV A s) (hGi : GoodIn Ts (x_ws Ts0 M μ)) (hdg : decode cc pc = .ok (.invokestatic ix, 3)) (hC : x_C l cl X Ts0 M d μ As T q1) (hn : As.length = (E.2.1 μ).1)  (hsm : x_sm r ≤ 8) (k4 : x_okl T.1.length lv = true) (k5 : x_oks T.1.length r = true) (hR1 : d + 1 ≤ R.frames) (hR2 : 100 * d + 100 ≤ R.locals) (g : x_mo q1.2 q.2 ∧ x_G p l e R s m args below meth c D cl C A nL n0 z0 sad ad0 Q (pc + 3) lv (q1.1.toList ++ r) q1.2) : x_mo T q.2 ∧ x_G p l e R s m args below meth c D cl C A nL n0 z0 sad ad0 Q pc lv (As.reverse ++ r) T := by
  obtain ⟨hx, hb, hml, hown, hts, hKa, hA, hF, hG, hfr, hlo, hce, hsl, har, hXT⟩ := id hc
  obtain ⟨hmk, hlink, hstat⟩ := hl2
  obtain ⟨m1, m2, m3, m4⟩ := hmk
  refine x_back hc hC k4 k5 (fun ad H locs cells slots ls e1 hP hD hS hl hf => ?_) g
  have hlsz : ls.size = nL := by obtain ⟨lst, hl1, hl2, hl3⟩ := hl; exact hl1.1
  have hM := hC.2 ad sad adV D C H.size
  have hst : (As.reverse ++ r).map (x_val ad sad) = (As.map (x_val ad sad)).reverse ++ r.map (x_val ad sad) := by simp [x_val]
  rw [hst]
  rcases hlink with hlink | ⟨host, hlink⟩
  · exact va_runS (nL := nL) (As := As.map (x_val ad sad)) (rest := r.map (x_val ad sad)) (n := (E.2.1 μ).1) ⟨hx, hb, hml, hown, hts⟩ hM ⟨(callB_of (bytes := (M μ).2.1) (maxL := (M μ).2.2.1) (ret := (M μ).2.2.2) (ws' := Ts0) _ hts hGi rfl rfl rfl (hts _ m2) (hts _ hlink) m3 ⟨hR1, by show 8 + (_ + 11) + 100 * d ≤ _; omega⟩), hts _ hstat⟩ ⟨x_blind, fun U hU hW => ⟨by simp [x_val], x_pre_call hKa hxs hA hP hD hS hU hW⟩⟩ rfl (by rw [List.length_map]; exact hn) hlsz rfl (lv_room (by rw [x_sm_val (sad := sad) ad]; exact hsm)) hdg hf
  · exact va_runSN (nL := nL) (As := As.map (x_val ad sad)) (rest := r.map (x_val ad sad)) (n := (E.2.1 μ).1) ⟨hx, hb, hml, hown, hts⟩ hM ⟨(va_cnB (bytes := (M μ).2.1) (maxL := (M μ).2.2.1) (ret := (M μ).2.2.2) (ws' := Ts0) _ hts hGi rfl rfl rfl (hxs.2.2.1 _ hlink) (hts _ m2) m3 ⟨hR1, by show 8 + (_ + 11) + 100 * d ≤ _; omega⟩), hts _ hstat, trivial⟩ ⟨x_blind, fun U hU hW => ⟨by simp [x_val], x_pre_call hKa hxs hA hP hD hS hU hW⟩⟩ rfl (by rw [List.length_map]; exact hn) hlsz rfl (lv_room (by rw [x_sm_val (sad := sad) ad]; exact hsm)) hdg hf
set_option maxHeartbeats 1000000 in
theorem x_o_callT {ix μ b : Nat} {As r : List Value} {q1 : Option Value × x_T}  (hc : x_cx p R s m args meth c cc D cl C A nL n0 z0 sad own Ts F Gp XT q) (hl2 : x_l2 Ts E M X own cl ix (.checkcast μ)) (hxs : x_xs X sad adV A s) (hGi : GoodIn Ts (x_ws Ts0 M μ)) (hdg : decode cc pc = .ok (.invokevirtual ix, 3)) (hC : x_C l cl X Ts0 M d μ (.retAddr b :: As) T q1) (hn : As.length = (E.2.1 μ).1) (hb2 : b < 2) (hsm : x_sm r ≤ 8) (k4 : x_okl T.1.length lv = true) (k5 : x_oks T.1.length r = true) (hR1 : d + 1 ≤ R.frames) (hR2 : 100 * d + 100 ≤ R.locals) (g : x_mo q1.2 q.2 ∧ x_G p l e R s m args below meth c D cl C A nL n0 z0 sad ad0 Q (pc + 3) lv (q1.1.toList ++ r) q1.2) : x_mo T q.2 ∧ x_G p l e R s m args below meth c D cl C A nL n0 z0 sad ad0 Q pc lv (As.reverse ++ .retAddr b :: r) T := by
  obtain ⟨hx, hb, hml, hown, hts, hKa, hA, hF, hG, hfr, hlo, hce, hsl, har, hXT⟩ := id hc
  obtain ⟨hmk, hlink0, hinst, hsel, hcls, hX2⟩ := hl2
  have hlink : Cond.methodLink own ix (M μ).1 ∈ Ts ∨ ∃ host, (own, ix, (M μ).1, host) ∈ X.2.2.2.2.1 := Or.inl hlink0
  obtain ⟨m1, m2, m3, m4⟩ := hmk
  refine x_back hc hC k4 k5 (fun ad H locs cells slots ls e1 hP hD hS hl hf => ?_) g
  have hlsz : ls.size = nL := by obtain ⟨lst, hl1, hl2, hl3⟩ := hl; exact hl1.1
  have hM := hC.2 ad sad adV D C H.size
  have hst : (As.reverse ++ .retAddr b :: r).map (x_val ad sad) = (As.map (x_val ad sad)).reverse ++ .ref (sad b) :: r.map (x_val ad sad) := by simp [x_val]
  rw [hst]
  have hrec : ∃ cellB : Cell, H[sad b]? = some cellB ∧ cellB.vm.isStatics = false ∧ s.vm.findClass (M μ).1.cls = some cellB.cls := by
    obtain ⟨cell, e1, e2, e3, e4⟩ := ((vk_S.kept hxs.2.1 (fun a ha hn => hS.2.1 a ha hn)).1 b (by omega)).1
    exact ⟨cell, e1, e2, by rw [hcls]; exact e3⟩
  rcases hlink with hlink | ⟨host, hlink⟩
  · exact va_runV (nL := nL) (As := As.map (x_val ad sad)) (rest := r.map (x_val ad sad)) (n := (E.2.1 μ).1) ⟨hx, hb, hml, hown, hts⟩ hM ⟨(callB_of (bytes := (M μ).2.1) (maxL := (M μ).2.2.1) (ret := (M μ).2.2.2) (ws' := Ts0) _ hts hGi rfl rfl rfl (hts _ m2) (hts _ hlink) m3 ⟨hR1, by show 8 + (_ + 11) + 100 * d ≤ _; omega⟩), hts _ hinst, hts _ hsel⟩ ⟨x_blind, hrec, fun U hU hW => ⟨by simp [x_val], x_pre_call hKa hxs hA hP hD hS hU hW⟩⟩ rfl (by rw [List.length_map]; exact hn) hlsz rfl (lv_room (by rw [x_sm_val (sad := sad) ad]; exact hsm)) hdg hf
  · exact va_runVN (nL := nL) (As := As.map (x_val ad sad)) (rest := r.map (x_val ad sad)) (n := (E.2.1 μ).1) ⟨hx, hb, hml, hown, hts⟩ hM ⟨(va_cnB (bytes := (M μ).2.1) (maxL := (M μ).2.2.1) (ret := (M μ).2.2.2) (ws' := Ts0) _ hts hGi rfl rfl rfl (hxs.2.2.1 _ hlink) (hts _ m2) m3 ⟨hR1, by show 8 + (_ + 11) + 100 * d ≤ _; omega⟩), hts _ hinst, hts _ hsel⟩ ⟨x_blind, hrec, fun U hU hW => ⟨by simp [x_val], x_pre_call hKa hxs hA hP hD hS hU hW⟩⟩ rfl (by rw [List.length_map]; exact hn) hlsz rfl (lv_room (by rw [x_sm_val (sad := sad) ad]; exact hsm)) hdg hf
end X9
end
section
section X10
variable {p : Program} {l : Launch} {e : Env} {R : Room} {s : State} {m : MethodId} {args : Array Value} {below : List Frame} {meth : Method} {c : Code} {Q : State → Prop} {cc : ByteArray} {D : va_G} {cl : List vw_C} {C : FieldType → ClassId} {A : Nat → Prop} {nL n0 z0 : Nat} {sad ad0 : Nat → Nat} {own : String} {Ts : List Cond} {F Gp : Nat → Option Instr} {pc len : Nat} {lv lv' : x_L} {st st' : List Value} {T T' : x_T} {q : Option Value × x_T} {K : x_L → List Value → x_T → x_Z} {raw res : Instr} {XT : x_Xt} {E : x_E} {O : Nat → List Value → x_T → x_Z} {B : Nat → x_L → x_T → x_Z} {tab : x_R} {X : x_X} {M : x_M} {adV : Nat → Nat} {d j : Nat} {ret : Option FieldType} {Ts0 : List Cond}
theorem x_tsw {pcs : Nat → Nat} {offs offs' : List Int} {lo hi dd dd' : Int} {x : Int32} (h1 : (pc : Int) + dd' = ((pcs dd.toNat : Nat) : Int)) (h2 : hi + 1 = lo + (offs.length : Int)) (h3 : offs'.map (fun o => (pc : Int) + o) = offs.map (fun t => ((pcs t.toNat : Nat) : Int))) : (x.toInt < lo ∨ hi < x.toInt) ∧ x_pick lo offs dd x = dd ∨ ¬ x.toInt < lo ∧ ¬ hi < x.toInt ∧ ∃ off, offs'[(x.toInt - lo).toNat]? = some off ∧ (pc : Int) + off = ((pcs (x_pick lo offs dd x).toNat : Nat) : Int) := by
  have hlen : offs'.length = offs.length := by simpa using congrArg List.length h3
  by_cases ha : x.toInt < lo
  · exact Or.inl ⟨Or.inl ha, if_pos ha⟩
  · by_cases hb : hi < x.toInt
    · refine Or.inl ⟨Or.inr hb, ?_⟩
      unfold x_pick
      rw [if_neg ha, List.getElem?_eq_none (by omega)]
      rfl
    · refine Or.inr ⟨ha, hb, ?_⟩
      have hi2 : (x.toInt - lo).toNat < offs'.length := by omega
      have h4 := congrArg (fun l => l[(x.toInt - lo).toNat]?) h3
      simp only [List.getElem?_map] at h4
      rw [List.getElem?_eq_getElem hi2, List.getElem?_eq_getElem (by omega : (x.toInt - lo).toNat < offs.length)] at h4
      simp only [Option.map_some, Option.some.injEq] at h4
      refine ⟨_, List.getElem?_eq_getElem hi2, ?_⟩
      unfold x_pick
      rw [if_neg ha, List.getElem?_eq_getElem (by omega : (x.toInt - lo).toNat < offs.length)]
      exact h4
theorem x_lsw {pcs : Nat → Nat} {dd dd' : Int} {x : Int} (h1 : (pc : Int) + dd' = ((pcs dd.toNat : Nat) : Int)) : ∀ (ps ps' : List (Int × Int)), ps'.map (fun q => (q.1, (pc : Int) + q.2)) = ps.map (fun q => (q.1, ((pcs q.2.toNat : Nat) : Int))) → (pc : Int) + Op.lookupswitch.offset ps' dd' x = ((pcs (Op.lookupswitch.offset ps dd x).toNat : Nat) : Int)
  | [], [], _ => by rw [Op.lookupswitch.offset_nil, Op.lookupswitch.offset_nil]; exact h1
  | [], _ :: _, h => by simp at h
  | _ :: _, [], h => by simp at h
  | (a, o) :: ps, (a', o') :: ps', h => by
    simp only [List.map_cons, List.cons.injEq, Prod.mk.injEq] at h
    obtain ⟨⟨rfl, h2⟩, h3⟩ := h
    rw [Op.lookupswitch.offset_cons, Op.lookupswitch.offset_cons]
    split
    · exact h2
    · exact x_lsw h1 ps ps' h3
/-- what a method's walk needs beside x_cx -/
def x_c2 (R : Room) (s : State) (meth : Method) (cc : ByteArray) (cl : List vw_C) (A : Nat → Prop) (sad adV : Nat → Nat) (own : String) (Ts Ts0 : List Cond) (F Gp : Nat → Option Instr) (E : x_E) (X : x_X) (M : x_M) (d : Nat) (ret : Option FieldType) (tab : x_R) : Prop :=
  x_tok cc F Gp ret tab ∧ meth.sig.returnType = ret ∧ meth.locks = false ∧ (∀ ix i, F ix = some i → x_l2 Ts E M X own cl ix i) ∧ x_xs X sad adV A s ∧ (∀ μ, x_mk Ts E M μ → GoodIn Ts (x_ws Ts0 M μ)) ∧ d + 1 ≤ R.frames ∧ 100 * d + 100 ≤ R.locals
set_option maxHeartbeats 8000000 in
theorem x_ev_ok (hc : x_cx p R s m args meth c cc D cl C A nL n0 z0 sad own Ts F Gp XT q) (h2 : x_c2 R s meth cc cl A sad adV own Ts Ts0 F Gp E X M d ret tab) (hO : ∀ μ vs T q', O μ vs T = some q' → x_C l cl X Ts0 M d μ vs T q') (hB : ∀ j lv T, B j lv T = some q → x_mo T q.2 ∧ x_G p l e R s m args below meth c D cl C A nL n0 z0 sad ad0 (x_Q below args s D cl C A ad0 n0 z0 q) (x_pc tab j) lv [] T) : ∀ (k j : Nat) (lv : x_L) (st : List Value) (T : x_T), x_ev E XT O B (x_cd tab) k ((x_cd tab).drop j) lv st T = some q → x_mo T q.2 ∧ x_G p l e R s m args below meth c D cl C A nL n0 z0 sad ad0 (x_Q below args s D cl C A ad0 n0 z0 q) (x_pc tab j) lv st T := by
  obtain ⟨hx, hb, hml, hown, hts, hKa, hA, hF, hG, hfr, hlo, hce, hsl, har, hXT⟩ := id hc
  obtain ⟨htab, hret, hlk, hF2, hxs, hGI, hR1, hR2⟩ := id h2
  intro k
  induction k with
  | zero => intro j lv st T h; simp [x_ev] at h
  | succ k ih =>
    intro j lv st T h
    cases hcd : (x_cd tab).drop j with
    | nil => rw [hcd] at h; simp [x_ev] at h
    | cons i rest =>
      rw [hcd] at h
      obtain ⟨pc, raw, len, ht, hrest, hpc⟩ := x_cd_at hcd
      obtain ⟨hdg, hrv, hnx⟩ := htab j pc raw len i ht
      rw [hpc]
      subst hrest
      have next : ∀ (lv : x_L) (st : List Value) (T : x_T), x_ev E XT O B (x_cd tab) k ((x_cd tab).drop (j + 1)) lv st T = some q → x_mo T q.2 ∧ x_G p l e R s m args below meth c D cl C A nL n0 z0 sad ad0 (x_Q below args s D cl C A ad0 n0 z0 q) (pc + len) lv st T := by
        intro lv st T h
        have hlt : j + 1 < tab.length := by
          rcases Nat.lt_or_ge (j + 1) tab.length with h1 | h1
          · exact h1
          · rw [List.drop_eq_nil_of_le (by simpa [x_cd] using h1)] at h
            cases k <;> simp [x_ev] at h
        have := ih (j + 1) lv st T h
        rwa [hnx hlt] at this
      have plain : x_rs F Gp raw len i = true → x_s1 XT i lv st T (fun lv st T => x_ev E XT O B (x_cd tab) k ((x_cd tab).drop (j + 1)) lv st T) = some q → x_mo T q.2 ∧ x_G p l e R s m args below meth c D cl C A nL n0 z0 sad ad0 (x_Q below args s D cl C A ad0 n0 z0 q) pc lv st T := by
        intro hrs h
        exact x_s1_ok hc hdg hrs (fun lv' st' T' h' => next lv' st' T' h') h
      cases i with
      | goto t =>
        simp only [x_ev] at h
        simp only [x_rv] at hrv
        split at hrv
        · simp only [Bool.and_eq_true, beq_iff_eq, decide_eq_true_eq] at hrv
          obtain ⟨rfl, ht1⟩ := hrv
          exact x_jmp (ih _ lv st T h) (fun ad H locs cells slots ls g => lv_goto hx hb hdg ht1 g)
        · cases hrv
      | jsr_w t =>
        simp only [x_ev] at h
        simp only [x_rv] at hrv
        split at hrv
        · simp only [Bool.and_eq_true, beq_iff_eq, decide_eq_true_eq] at hrv
          obtain ⟨rfl, ht1⟩ := hrv
          split at h
          · exact x_jmp (hB _ lv T h) (fun ad H locs cells slots ls g => lv_goto hx hb hdg ht1 g)
          · cases h
        · cases hrv
      | ifCond cd t =>
        simp only [x_ev] at h
        simp only [x_rv] at hrv
        split at hrv
        · simp only [Bool.and_eq_true, beq_iff_eq, decide_eq_true_eq] at hrv
          obtain ⟨⟨rfl, rfl⟩, ht1⟩ := hrv
          split at h
          · refine x_o_ifc hc hdg ht1 (fun hh => ?_) (fun hh => ?_)
            · rw [if_pos hh] at h
              cases t with
              | ofNat t => exact ih _ _ _ _ h
              | negSucc t =>
                simp only at h
                split at h
                · exact hB _ _ _ h
                · cases h
            · rw [if_neg (by rw [hh]; decide)] at h; exact next _ _ _ h
          · cases h
        · cases hrv
      | if_icmp cd t =>
        simp only [x_ev] at h
        simp only [x_rv] at hrv
        split at hrv
        · simp only [Bool.and_eq_true, beq_iff_eq, decide_eq_true_eq] at hrv
          obtain ⟨⟨rfl, rfl⟩, ht1⟩ := hrv
          split at h
          · refine x_o_icm hc hdg ht1 (fun hh => ?_) (fun hh => ?_)
            · rw [if_pos hh] at h
              cases t with
              | ofNat t => exact ih _ _ _ _ h
              | negSucc t =>
                simp only at h
                split at h
                · exact hB _ _ _ h
                · cases h
            · rw [if_neg (by rw [hh]; decide)] at h; exact next _ _ _ h
          · cases h
        · cases hrv
      | tableswitch dd lo hi offs =>
        simp only [x_ev] at h
        simp only [x_rv] at hrv
        split at hrv
        · simp only [Bool.and_eq_true, beq_iff_eq, decide_eq_true_eq] at hrv
          obtain ⟨⟨⟨rfl, t1⟩, t2⟩, t3⟩ := hrv
          split at h
          · rename_i x st2
            rcases x_tsw (x := x) t1 t2 t3 with ⟨ho, hp⟩ | ⟨ha, hb2, off, ho, hp⟩
            · rw [hp] at h
              exact x_jmp (ih _ lv st2 T h) (fun ad H locs cells slots ls g => lv_tableOut hx hb hdg ho t1 g)
            · exact x_jmp (ih _ lv st2 T h) (fun ad H locs cells slots ls g => lv_tableIn hx hb hdg ha hb2 (by rw [← Array.getElem?_toList]; exact ho) hp g)
          · cases h
        · cases hrv
      | lookupswitch dd ps =>
        simp only [x_ev] at h
        simp only [x_rv] at hrv
        split at hrv
        · simp only [Bool.and_eq_true, beq_iff_eq, decide_eq_true_eq] at hrv
          obtain ⟨⟨t1, t2⟩, t3⟩ := hrv
          split at h
          · rename_i x st2
            exact x_jmp (ih _ lv st2 T h) (fun ad H locs cells slots ls g => lv_lookup hx hb hdg t3 rfl (x_lsw t1 _ _ t2) g)
          · cases h
        · cases hrv
      | return_ =>
        simp only [x_ev] at h
        simp only [x_rv, Bool.and_eq_true, beq_iff_eq, decide_eq_true_eq] at hrv
        obtain ⟨⟨rfl, rfl⟩, hr⟩ := hrv
        split at h
        · cases h
          exact x_o_vret hc (hret.trans hr) hlk hdg
        · cases h
      | ireturn =>
        simp only [x_ev] at h
        simp only [x_rv, Bool.and_eq_true, beq_iff_eq, decide_eq_true_eq] at hrv
        obtain ⟨⟨rfl, rfl⟩, hr⟩ := hrv
        split at h
        · cases h
          exact x_o_iret hc (hret.trans hr) hlk hdg
        · cases h
      | areturn =>
        simp only [x_ev] at h
        simp only [x_rv, Bool.and_eq_true, beq_iff_eq, decide_eq_true_eq] at hrv
        obtain ⟨⟨rfl, rfl⟩, hr⟩ := hrv
        split at h
        · have hx0 := x_g_some h
          clear h
          obtain ⟨hv, h⟩ := hx0
          have hv := of_decide_eq_true hv
          cases h
          exact x_o_zret hc (hret.trans hr) hlk (by rcases hv with rfl | rfl <;> decide) hdg
        · cases h
      | lreturn =>
        simp only [x_ev] at h
        simp only [x_rv, Bool.and_eq_true, beq_iff_eq, decide_eq_true_eq] at hrv
        obtain ⟨⟨rfl, rfl⟩, hr⟩ := hrv
        split at h
        · cases h
          exact x_o_lret hc (hret.trans hr) hlk hdg
        · cases h
      | new ci =>
        simp only [x_ev] at h
        simp only [x_rv] at hrv
        split at hrv
        · simp only [Bool.and_eq_true, beq_iff_eq, decide_eq_true_eq] at hrv
          obtain ⟨rfl, hv⟩ := hrv
          have hx0 := x_g_some h
          clear h
          obtain ⟨hok, h⟩ := hx0
          simp only [Bool.and_eq_true] at hok
          exact x_o_new hc (hF2 _ _ hv) hdg hok.1.1 hok.1.2 hok.2 (next _ _ _ h)
        · cases hrv
      | invokevirtual μ =>
        simp only [x_ev] at h
        simp only [x_rv] at hrv
        split at hrv
        · simp only [Bool.and_eq_true, beq_iff_eq, decide_eq_true_eq] at hrv
          obtain ⟨rfl, hv⟩ := hrv
          split at h
          · rename_i b r hst
            split at h
            · rename_i o hsh
              obtain ⟨ci, fs⟩ := o
              have hx0 := x_g_some h
              clear h
              obtain ⟨hok, h⟩ := hx0
              simp only [Bool.and_eq_true] at hok
              have hx1 := x_bd_some h
              clear h
              obtain ⟨v, T1, hO1, h⟩ := hx1
              have hC := hO _ _ _ _ hO1
              have hl2 := hF2 _ _ hv
              have hlen : (E.2.1 μ).1 ≤ st.length := by
                rcases Nat.lt_or_ge st.length (E.2.1 μ).1 with h1 | h1
                · rw [List.drop_eq_nil_of_le (by omega)] at hst; cases hst
                · exact h1
              have hste : st = ((st.take (E.2.1 μ).1).reverse).reverse ++ .ref b :: r := by rw [List.reverse_reverse, ← hst, List.take_append_drop]
              rw [hste]
              exact x_o_callV hc hl2 hxs (hGI _ hl2.1) hdg hC (by simp; omega) hsh (Nat.eq_of_beq_eq_true hok.1) (Nat.le_of_ble_eq_true hok.2.1) hok.2.2.1 hok.2.2.2 hR1 hR2 (next _ _ _ h)
            · cases h
          · cases h
        · cases hrv
      | checkcast μ =>
        simp only [x_ev] at h
        simp only [x_rv] at hrv
        split at hrv
        · simp only [Bool.and_eq_true, beq_iff_eq, decide_eq_true_eq] at hrv
          obtain ⟨rfl, hv⟩ := hrv
          split at h
          · rename_i b r hst
            have hx0 := x_g_some h
            clear h
            obtain ⟨hok, h⟩ := hx0
            simp only [Bool.and_eq_true] at hok
            have hx1 := x_bd_some h
            clear h
            obtain ⟨v, T1, hO1, h⟩ := hx1
            have hC := hO _ _ _ _ hO1
            have hl2 := hF2 _ _ hv
            have hlen : (E.2.1 μ).1 ≤ st.length := by
              rcases Nat.lt_or_ge st.length (E.2.1 μ).1 with h1 | h1
              · rw [List.drop_eq_nil_of_le (by omega)] at hst; cases hst
              · exact h1
            have hste : st = ((st.take (E.2.1 μ).1).reverse).reverse ++ .retAddr b :: r := by rw [List.reverse_reverse, ← hst, List.take_append_drop]
            rw [hste]
            exact x_o_callT hc hl2 hxs (hGI _ hl2.1) hdg hC (by simp; omega) (Nat.blt_eq.mp hok.1) (Nat.le_of_ble_eq_true hok.2.1) hok.2.2.1 hok.2.2.2 hR1 hR2 (next _ _ _ h)
          · cases h
        · cases hrv
      | invokespecial μ =>
        simp only [x_ev] at h
        simp only [x_rv] at hrv
        split at hrv
        · simp only [Bool.and_eq_true, beq_iff_eq, decide_eq_true_eq] at hrv
          obtain ⟨rfl, hv⟩ := hrv
          split at h
          · rename_i b r hst
            have hx0 := x_g_some h
            clear h
            obtain ⟨hok, h⟩ := hx0
            simp only [Bool.and_eq_true] at hok
            have hx1 := x_bd_some h
            clear h
            obtain ⟨v, T1, hO1, h⟩ := hx1
            have hC := hO _ _ _ _ hO1
            have hl2 := hF2 _ _ hv
            have hlen : (E.2.1 μ).1 ≤ st.length := by
              rcases Nat.lt_or_ge st.length (E.2.1 μ).1 with h1 | h1
              · rw [List.drop_eq_nil_of_le (by omega)] at hst; cases hst
              · exact h1
            have hste : st = ((st.take (E.2.1 μ).1).reverse).reverse ++ .ref b :: r := by rw [List.reverse_reverse, ← hst, List.take_append_drop]
            rw [hste]
            exact x_o_callI hc hl2 hxs (hGI _ hl2.1) hdg hC (by simp; omega) (Nat.le_of_ble_eq_true hok.1) hok.2.1 hok.2.2 hR1 hR2 (next _ _ _ h)
          · cases h
        · cases hrv
      | invokestatic μ =>
        simp only [x_ev] at h
        simp only [x_rv] at hrv
        split at hrv
        · simp only [Bool.and_eq_true, beq_iff_eq, decide_eq_true_eq] at hrv
          obtain ⟨rfl, hv⟩ := hrv
          have hx0 := x_g_some h
          clear h
          obtain ⟨hok, h⟩ := hx0
          simp only [Bool.and_eq_true] at hok
          have hx1 := x_bd_some h
          clear h
          obtain ⟨v, T1, hO1, h⟩ := hx1
          have hC := hO _ _ _ _ hO1
          have hl2 := hF2 _ _ hv
          have hste : st = ((st.take (E.2.1 μ).1).reverse).reverse ++ st.drop (E.2.1 μ).1 := by rw [List.reverse_reverse, List.take_append_drop]
          have hgo := x_o_callS (b := 0) (r := st.drop (E.2.1 μ).1) hc hl2 hxs (hGI _ hl2.1) hdg hC (by have := Nat.le_of_ble_eq_true hok.2.1; simp; omega) (Nat.le_of_ble_eq_true hok.1) hok.2.2.1 hok.2.2.2 hR1 hR2 (next _ _ _ h)
          rwa [← hste] at hgo
        · cases hrv
      | _ => exact plain hrv h
/-- all that is known of the methods: F and Gp of a method's class, its table -/
def x_ok (cl : List vw_C) (E : x_E) (X : x_X) (Ts0 : List Cond) (M : x_M) (F Gp : Nat → Nat → Option Instr) (tb : Nat → x_R) (μ : Nat) : Prop :=
  plainName (M μ).1.cls = true ∧ x_tok (M μ).2.1 (F μ) (Gp μ) (M μ).2.2.2 (tb μ) ∧ E.2.2.2 μ = x_cd (tb μ) ∧ E.2.2.1 μ = (M μ).2.2.1 ∧ (x_pc (tb μ) 0 = 0)
    ∧ (∀ ix i, F μ ix = some i → x_l2 Ts0 E M X (M μ).1.cls cl ix i) ∧ (∀ ix i, F μ ix = some i → ∀ (sad : Nat → Nat) (s : State), (∀ r ∈ X.1, vk_R r.1 r.2.1 r.2.2.1 (sad r.2.2.2) s) → x_lk Ts0 (M μ).1.cls cl sad s ix i)
    ∧ (∀ ix i, Gp μ ix = some i → ∀ (s : State) (meth : Method), meth.name = (M μ).1.name → x_pk Ts0 (M μ).1.cls cl s meth ix i)
end X10
end
section
section X10b
variable {E : x_E} {O : Nat → List Value → x_T → x_Z} {B : Nat → x_L → x_T → x_Z} {q : Option Value × x_T} {code : List Instr}
theorem x_mo_rf (T : x_T) : x_mo T T := ⟨Nat.le_refl _, Nat.le_refl _⟩
theorem x_mo_tr {T U V : x_T} (h : x_mo T U) (g : x_mo U V) : x_mo T V := ⟨Nat.le_trans h.1 g.1, Nat.le_trans h.2 g.2⟩
theorem x_mo_new (T : x_T) (sh : x_S) : x_mo T (x_new T sh) := ⟨by simp [x_new], by simp [x_new, x_z_app]⟩
theorem x_mo_sr {T : x_T} {a ci k d : Nat} {o : Nat × List (Option Nat)} (h : T.1[a]? = some (.inr o)) : x_mo T (x_sr T a ci k o.2 d) := by
  refine ⟨by simp [x_sr], ?_⟩
  simp only [x_sr]
  rw [x_z_set h (by simp [x_z1])]
  exact Nat.le_refl _
set_option maxHeartbeats 4000000 in
theorem x_s1_mo {XT : x_Xt} {i : Instr} {lv : x_L} {st : List Value} {T : x_T} {K : x_L → List Value → x_T → x_Z} (hK : ∀ lv st T', K lv st T' = some q → x_mo T' q.2) (h : x_s1 XT i lv st T K = some q) : x_mo T q.2 := by
  unfold x_s1 at h
  split at h
  all_goals (repeat' (first | split at h | (replace h := (x_g_some h).2)))
  all_goals first
    | (cases h; done)
    | exact hK _ _ _ h
    | exact x_mo_tr (x_mo_new _ _) (hK _ _ _ h)
    | exact ⟨(hK _ _ _ h).1, (hK _ _ _ h).2⟩
    | (rename_i o h1; exact x_mo_tr (x_mo_sr h1) (hK _ _ _ h))
set_option maxHeartbeats 4000000 in
theorem x_ev_mo {XT : x_Xt} (hO : ∀ μ vs T q', O μ vs T = some q' → x_mo T q'.2) (hB : ∀ j lv T, B j lv T = some q → x_mo T q.2) : ∀ (k : Nat) (rest : List Instr) (lv : x_L) (st : List Value) (T : x_T), x_ev E XT O B code k rest lv st T = some q → x_mo T q.2 := by
  intro k
  induction k with
  | zero => intro rest lv st T h; simp [x_ev] at h
  | succ k ih =>
    intro rest lv st T h
    cases rest with
    | nil => simp [x_ev] at h
    | cons i rest =>
      unfold x_ev at h
      split at h
      all_goals (repeat' (first | split at h | (replace h := (x_g_some h).2)))
      all_goals first
        | (cases h; done)
        | exact ih _ _ _ _ h
        | exact hB _ _ _ h
        | (cases h; exact x_mo_rf _)
        | exact x_mo_tr (x_mo_new _ _) (ih _ _ _ _ h)
        | (obtain ⟨v, T1, h1, h⟩ := x_bd_some h; exact x_mo_tr (hO _ _ _ _ h1) (ih _ _ _ _ h))
        | exact x_s1_mo (fun _ _ _ h => ih _ _ _ _ h) h
theorem x_P_mo {SO : Nat → List Value → x_T → x_Z} (hSO : ∀ μ vs T q, SO μ vs T = some q → x_mo T q.2) (k n : Nat) : ∀ (d μ : Nat) (vs : List Value) (T : x_T) (q : Option Value × x_T), x_P E SO k n d μ vs T = some q → x_mo T q.2 := by
  intro d
  induction d with
  | zero => intro μ vs T q h; simp [x_P] at h
  | succ d ih =>
    intro μ vs T q h
    simp only [x_P] at h
    split at h
    · split at h
      · exact hSO _ _ _ _ h
      · cases h
    split at h
    · have hB : ∀ (n' j : Nat) (lv : x_L) (T' : x_T), x_lp E x_nx (x_P E SO k n d) (E.2.2.2 μ) k n' j lv T' = some q → x_mo T' q.2 := by
        intro n'
        induction n' with
        | zero => intro j lv T' h; simp [x_lp] at h
        | succ n' ihn =>
          intro j lv T' h
          simp only [x_lp] at h
          exact x_ev_mo ih ihn _ _ _ _ _ h
      exact x_ev_mo ih (hB n) _ _ _ _ _ h
    · cases h
end X10b
end
section
section X11
variable {l : Launch} {cl : List vw_C} {E : x_E} {X : x_X} {Ts0 : List Cond} {M : x_M} {F Gp : Nat → Nat → Option Instr} {tb : Nat → x_R}
theorem x_vcat (ad sad : Nat → Nat) (v : Value) : (x_val ad sad v).category = v.category := by cases v <;> rfl
theorem x_ar_len (ad sad : Nat → Nat) : ∀ vs : List Value, (lg_sl (vs.map (x_val ad sad))).length = (x_ar vs).length
  | [] => rfl
  | v :: l => by
    have ih := x_ar_len ad sad l
    simp only [lg_sl, List.map_cons, List.flatMap_cons, List.length_append, x_ar, x_vcat] at ih ⊢
    split
    · simp only [List.length_cons, List.length_nil, ih]; omega
    · simp only [List.length_cons, List.length_nil, ih]; omega
theorem x_ar_in (ad sad : Nat → Nat) : ∀ (vs : List Value) (k j : Nat) (v : Value), (x_ar vs)[j]? = some (some v) → (k + j, x_val ad sad v) ∈ lv_args k (vs.map (x_val ad sad))
  | [], k, j, v, h => by simp [x_ar] at h
  | a :: l, k, j, v, h => by
    simp only [x_ar] at h
    simp only [List.map_cons, lv_args, x_vcat]
    split at h
    · rename_i hcat
      match j, h with
      | 0, h => simp at h; subst h; exact List.mem_cons_self
      | 1, h => simp at h
      | j + 2, h =>
        simp at h
        have := x_ar_in ad sad l (k + 2) j v h
        rw [show k + (j + 2) = k + 2 + j by omega]
        refine List.mem_cons_of_mem _ ?_
        simpa [hcat] using this
    · rename_i hcat
      match j, h with
      | 0, h => simp at h; subst h; exact List.mem_cons_self
      | j + 1, h =>
        simp at h
        have := x_ar_in ad sad l (k + 1) j v h
        rw [show k + (j + 1) = k + 1 + j by omega]
        refine List.mem_cons_of_mem _ ?_
        have h1 : a.category = 1 := by rcases lv_cat a with h | h; exact h; exact absurd h hcat
        simpa [hcat, h1] using this
set_option maxHeartbeats 4000000 in
/-- EVERY METHOD: what x_P answers is what the machine does -/
theorem x_P_ok {SO : Nat → List Value → x_T → x_Z} (hok : ∀ μ, μ < 1000 → x_ok cl E X Ts0 M F Gp tb μ) (hSO : ∀ μ vs T q, SO μ vs T = some q → x_mo T q.2 ∧ ∀ d, 8 ≤ d → x_C l cl X Ts0 M (d + 1) μ vs T q) (hgood : ∀ w ∈ Ts0, goodWord w = true) (har : Cond.arrayClass .int ∈ Ts0 ∧ Cond.arrayClass .boolean ∈ Ts0 ∧ Cond.arrayClass .long ∈ Ts0) (k n : Nat) : ∀ (d μ : Nat) (vs : List Value) (T : x_T) (q : Option Value × x_T), x_P E SO k n d μ vs T = some q → x_C l cl X Ts0 M d μ vs T q := by
  intro d
  induction d with
  | zero => intro μ vs T q h; simp [x_P] at h
  | succ d ih =>
    intro μ vs T q h
    have h0 := h
    simp only [x_P] at h
    split at h
    case isTrue hbig =>
      split at h
      · rename_i hd
        exact (hSO _ _ _ _ h).2 d (Nat.le_of_ble_eq_true hd)
      · cases h
    case isFalse hbig =>
    split at h
    case isFalse => cases h
    case isTrue hlen =>
    obtain ⟨hpl, htok, hcode, hloc, hpc0, hF2, hF1, hGp⟩ := hok μ (by rcases Nat.lt_or_ge μ 1000 with h | h; exact h; exact absurd (Nat.ble_eq_true_of_le h) hbig)
    have key : ∀ (ad sad adV : Nat → Nat) (D : va_G) (C : FieldType → ClassId) (p : Program) (e : Env) (s : State) (m : MethodId) (args : Array Value) (below : List Frame) (meth : Method) (c : Code) (s₁ : State), BodyLoose p l (M μ).1 (headSpec (x_ws Ts0 M μ) (x_rm (d + 1) (q.2.1.length - T.1.length) (x_z q.2.1 - x_z T.1))) (M μ).2.1 (M μ).2.2.1 (M μ).2.2.2 e s m args below meth c s₁ → c.maxLocals = (M μ).2.2.1 → va_K D cl (x_tys C) s → x_xs X sad adV (va_A (x_W ad C T) s.heap.size) s →
        x_mo T q.2 ∧ x_G p l e (x_rm (d + 1) (q.2.1.length - T.1.length) (x_z q.2.1 - x_z T.1)) s m args below meth c D cl C (va_A (x_W ad C T) s.heap.size) (M μ).2.2.1 T.1.length (x_z T.1) sad ad (x_Q below args s D cl C (va_A (x_W ad C T) s.heap.size) ad T.1.length (x_z T.1) q) 0 (x_ar vs ++ List.replicate (E.2.2.1 μ - (x_ar vs).length) none) [] T := by
      intro ad sad adV D C p e s m args below meth c s₁ Bd hml hKa hxs
      have hts0 := atoms_spec (ws := x_ws Ts0 M μ) Bd.pre
      have hc : x_cx p (x_rm (d + 1) (q.2.1.length - T.1.length) (x_z q.2.1 - x_z T.1)) s m args meth c (M μ).2.1 D cl C (va_A (x_W ad C T) s.heap.size) (M μ).2.2.1 T.1.length (x_z T.1) sad (M μ).1.cls Ts0 (F μ) (Gp μ) x_nx q := by
        refine ⟨Bd.exec, Bd.bytes, hml, findClass_of_methodNamed Bd.named, fun w hw => hts0 w (List.mem_cons_of_mem _ hw), hKa, fun q hq => Or.inr hq, fun ix i hi => hF1 ix i hi sad s hxs.1, fun ix i hi => hGp ix i hi s meth (name_of_methodNamed Bd.named Bd.method).1, ?_, ?_, ?_, ?_, ?_, fun j n f h => by cases h⟩
        · show 1 ≤ d + 1; omega
        · show 60 ≤ 100 * (d + 1); omega
        · show q.2.1.length ≤ T.1.length + (q.2.1.length - T.1.length); omega
        · show x_z q.2.1 ≤ x_z T.1 + (x_z q.2.1 - x_z T.1); omega
        · intro ty
          by_cases h1 : ty = .int
          · subst h1; exact Or.inl har.1
          · by_cases h2 : ty = .boolean
            · subst h2; exact Or.inl har.2.1
            · by_cases h3 : ty = .long
              · subst h3; exact Or.inl har.2.2
              · exact Or.inr ⟨h1, h2, h3⟩
      have h2 : x_c2 (x_rm (d + 1) (q.2.1.length - T.1.length) (x_z q.2.1 - x_z T.1)) s meth (M μ).2.1 cl (va_A (x_W ad C T) s.heap.size) sad adV (M μ).1.cls Ts0 Ts0 (F μ) (Gp μ) E X M d (M μ).2.2.2 (tb μ) := by
        refine ⟨htok, Bd.returns, Bd.notSynchronized, hF2, hxs, fun μ' hmk w hw => ?_, ?_, ?_⟩
        · have hm : w ∈ Ts0 := by
            rcases List.mem_cons.mp hw with rfl | h
            · exact hmk.1
            · exact h
          exact ⟨hm, good_of_word (hgood w hm)⟩
        · show d + 1 ≤ d + 1; omega
        · show 100 * d + 100 ≤ 100 * (d + 1); omega
      have hB : ∀ (n' j : Nat) (lv : x_L) (T' : x_T), x_lp E x_nx (x_P E SO k n d) (x_cd (tb μ)) k n' j lv T' = some q → x_mo T' q.2 ∧ x_G p l e (x_rm (d + 1) (q.2.1.length - T.1.length) (x_z q.2.1 - x_z T.1)) s m args below meth c D cl C (va_A (x_W ad C T) s.heap.size) (M μ).2.2.1 T.1.length (x_z T.1) sad ad (x_Q below args s D cl C (va_A (x_W ad C T) s.heap.size) ad T.1.length (x_z T.1) q) (x_pc (tb μ) j) lv [] T' := by
        intro n'
        induction n' with
        | zero => intro j lv T' h; simp [x_lp] at h
        | succ n' ihn =>
          intro j lv T' h
          simp only [x_lp] at h
          exact x_ev_ok hc h2 ih ihn k j lv [] T' h
      rw [hcode] at h
      have hres := x_ev_ok hc h2 ih (hB n) k 0 _ [] T (by rw [List.drop_zero]; exact h)
      rwa [hpc0] at hres
    refine ⟨?_, fun ad sad adV D C sz => ?_⟩
    · exact x_P_mo (fun _ _ _ _ h => (hSO _ _ _ _ h).1) k n (d + 1) μ vs T q h0
    · refine Met.ofW (cc := (M μ).2.1) (maxL := (M μ).2.2.1) (ret := (M μ).2.2.2) hpl rfl ?_
      intro p e s m args below meth c s₁ Bd hml hv
      obtain ⟨rfl, hsz, hP, hKa, hD0, hxs⟩ := hv
      subst hsz
      have hg := (key ad sad adV D C p e s m _ below meth c s₁ Bd hml hKa hxs).2
      have hl := lv_entry (vs.map (x_val ad sad)) (n := (M μ).2.2.1) (by rw [x_ar_len]; omega)
      rw [lg_entry_eq]
      refine hg ad s.heap [] 0 0 _ (fun _ _ => rfl) hP (hD0.self) va_S.rf ⟨_, hl, by rw [List.length_append, List.length_replicate]; omega, fun j v hj => ?_⟩ (Nat.zero_add _) (Nat.zero_add _)
      have hj2 : (x_ar vs)[j]? = some (some v) := by
        rcases Nat.lt_or_ge j (x_ar vs).length with h1 | h1
        · rwa [List.getElem?_append_left h1] at hj
        · rw [List.getElem?_append_right h1, List.getElem?_replicate] at hj
          split at hj
          · cases hj
          · cases hj
      have := x_ar_in ad sad vs 0 j v hj2
      rwa [Nat.zero_add] at this
end X11
end
section
/-! ===== the tables of the classes and methods, checked ===== -/
/-- classes with the types of their fields; methods: name, code, locals, returned type, parameters, receiver's class; of each class the constants that are used -/
abbrev x_CL : Type := List (vw_C × (Nat → FieldType))
abbrev x_ML : Type := List ((MethodName × ByteArray × Nat × Option FieldType) × Nat × Nat)
abbrev x_PL : Type := List (String × List (Nat × Instr))
def x_cl (CL : x_CL) : List vw_C := CL.map (fun q => q.1)
def x_m0 : MethodName × ByteArray × Nat × Option FieldType := (⟨"", "", ""⟩, ⟨#[]⟩, 0, none)
def x_Mf (ML : x_ML) : x_M := fun μ => (ML[μ]?.map (fun q => q.1)).getD x_m0
def x_d1 (t : FieldType) : Option Nat := match t with
  | .int => none
  | .boolean => none
  | _ => some 0
def x_dfl (ty : Nat → FieldType) (N : Nat) : List (Option Nat) := (List.range N).map (fun k => x_d1 (ty k))
def x_pool (PL : x_PL) (own : String) : List (Nat × Instr) := (PL.lookup own).getD []
def x_Ff (PL : x_PL) (ML : x_ML) (μ : Nat) (ix : Nat) : Option Instr := (x_pool PL (x_Mf ML μ).1.cls).lookup ix
/-- how a field is written -/
def x_gp1 (CL : x_CL) (own name : String) (i : Instr) : Option Instr := match i with
  | .invokeinterface ci k => match CL[ci]? with
    | some (r, ty) => if k < r.2.2 ∧ k < 1000 ∧ ((r.2.1 k).2.2.2 = false ∨ (name = "<init>" ∧ (r.2.1 k).1 = own)) then (match ty k with
      | .int => some (.multianewarray ci k)
      | .boolean => some (.multianewarray ci (k + 1000))
      | .object _ => some (.multianewarray ci (k + 2000))
      | .array _ => some (.multianewarray ci (k + 2000))
      | _ => none) else none
    | none => none
  | _ => none
def x_Gf (CL : x_CL) (PL : x_PL) (ML : x_ML) (μ : Nat) (ix : Nat) : Option Instr := match x_Ff PL ML μ ix with
  | some i => x_gp1 CL (x_Mf ML μ).1.cls (x_Mf ML μ).1.name i
  | none => none
def x_Ef (CL : x_CL) (ML : x_ML) (TB : List x_R) : x_E := (fun ci => match CL[ci]? with | some (r, ty) => x_dfl ty r.2.2 | none => [], fun μ => (ML[μ]?.map (fun q => q.2)).getD (0, 0), fun μ => (x_Mf ML μ).2.2.1, fun μ => x_cd (TB[μ]?.getD []))
/-- the words that a method needs that is called -/
def x_nm (ML : x_ML) (μ : Nat) : List Cond := [.code (x_Mf ML μ).1 (x_Mf ML μ).2.1 (x_Mf ML μ).2.2.1 (x_Mf ML μ).2.2.2, .initialized (x_Mf ML μ).1.cls]
def x_ne (X : x_X) (ML : x_ML) (own : String) (ix μ : Nat) : List Cond := if X.2.2.2.2.1.any (fun r => decide (r.1 = own) && decide (r.2.1 = ix) && decide (r.2.2.1 = (x_Mf ML μ).1)) then [] else [.methodLink own ix (x_Mf ML μ).1]
/-- the words that a constant needs -/
def x_need (CL : x_CL) (X : x_X) (ML : x_ML) (own : String) (ix : Nat) (i : Instr) : List Cond := match i with
  | .iconst v => [.constant own ix (Int32.ofInt v)]
  | .jsr v => [.constantLong own ix (Int64.ofInt v)]
  | .invokeinterface ci k => match CL[ci]? with
    | some (r, _) => [.fieldLink own ix (r.2.1 k).1 (r.2.1 k).2.1 (r.2.1 k).2.2.1]
    | none => []
  | .pop => [.methodLink own ix Lib.objectInit, .instanceMethod Lib.objectInit, .code Lib.objectInit ⟨#[0xb1]⟩ 1 none]
  | .invokedynamic 0 => [.methodLink own ix Lib.Math.max.name, .static Lib.Math.max.name, .initialized "java/lang/Math", .code Lib.Math.max.name Lib.Math.max.code 2 (some .int)]
  | .invokedynamic 1 => [.methodLink own ix Lib.Math.min.name, .static Lib.Math.min.name, .initialized "java/lang/Math", .code Lib.Math.min.name Lib.Math.min.code 2 (some .int)]
  | .invokedynamic 2 => [.methodLink own ix arraycopyName, .native arraycopyName, .static arraycopyName, .initialized "java/lang/System"]
  | .new ci => match CL[ci]? with
    | some (r, _) => [.classLink own ix r.1, .instantiable r.1 r.2.2, .initialized r.1]
    | none => []
  | .invokevirtual μ => x_ne X ML own ix μ ++ [.instanceMethod (x_Mf ML μ).1, .selects (x_Mf ML μ).1.cls (x_Mf ML μ).1 (x_Mf ML μ).1]
  | .invokestatic μ => x_ne X ML own ix μ ++ [.static (x_Mf ML μ).1]
  | .invokespecial μ => x_ne X ML own ix μ ++ [.instanceMethod (x_Mf ML μ).1]
  | .checkcast μ => [.methodLink own ix (x_Mf ML μ).1, .instanceMethod (x_Mf ML μ).1, .selects (x_Mf ML μ).1.cls (x_Mf ML μ).1 (x_Mf ML μ).1]
  | _ => []
/-- the rest that a constant needs -/
def x_mck (MU : List Nat) (ML : x_ML) (μ : Nat) : Bool := decide (μ ∈ MU) && decide ((x_Mf ML μ).1.cls ≠ "java/lang/invoke/MethodHandle") && decide ((x_Mf ML μ).1.cls ≠ "java/lang/invoke/VarHandle") && decide ((parseMethodDescriptor (x_Mf ML μ).1.desc).map (fun d => d.parameters.length) = some ((ML[μ]?.map (fun q => q.2)).getD (0, 0)).1) && decide ((x_Mf ML μ).2.2.1 ≤ 80)
def x_chk (MU : List Nat) (CL : x_CL) (X : x_X) (ML : x_ML) (own : String) (ix : Nat) (i : Instr) : Bool := match i with
  | .iconst _ => true
  | .jsr _ => true
  | .ldc j => X.1.any (fun r => decide (r.1 = own) && decide (r.2.1 = ix) && decide (r.2.2.2 = j))
  | .invokeinterface ci k => match CL[ci]? with
    | some (r, _) => decide (k < r.2.2)
    | none => false
  | .pop => true
  | .invokedynamic b => decide (b < 3)
  | .new ci => match CL[ci]? with
    | some _ => true
    | none => false
  | .invokevirtual μ => x_mck MU ML μ && (match CL[((ML[μ]?.map (fun q => q.2)).getD (0, 0)).2]? with
    | some (r, _) => decide (r.1 = (x_Mf ML μ).1.cls)
    | none => false)
  | .invokestatic μ => x_mck MU ML μ
  | .invokespecial μ => x_mck MU ML μ && decide ((x_Mf ML μ).1.name = "<init>") && decide ((x_Mf ML μ).2.2.2 = none)
  | .checkcast μ => x_mck MU ML μ && decide ((x_Mf ML μ).1.cls = "java/lang/String") && decide (2 ≤ X.2.1)
  | _ => false
/-- the words of all constants, of the classes' fields, of arrays -/
def x_all (MU : List Nat) (CL : x_CL) (X : x_X) (ML : x_ML) (PL : x_PL) : List Cond := ([.arrayClass .int, .arrayClass .boolean, .arrayClass .long] ++ MU.flatMap (x_nm ML)) ++ CL.flatMap (fun q => u_ws q.1.1 q.1.2.1 q.1.2.2) ++ PL.flatMap (fun q => q.2.flatMap (fun r => x_need CL X ML q.1 r.1 r.2))
def x_clk (CL : x_CL) : Prop := ∀ q ∈ CL, (∀ k, k < q.1.2.2 → parseFieldDescriptor (q.1.2.1 k).2.2.1 = some (q.2 k)) ∧ (∀ a, a < q.1.2.2 → ∀ b, b < q.1.2.2 → a ≠ b → (q.1.2.1 a).2.1 ≠ (q.1.2.1 b).2.1) ∧ ∀ k, k < q.1.2.2 → (q.2 k = .int ∨ q.2 k = .boolean) ∨ ((∃ n, q.2 k = FieldType.object n) ∨ ∃ t, q.2 k = FieldType.array t)
/-- a method's table against its constants; the decoding is checked apart -/
def x_tck (F Gp : Nat → Option Instr) (ret : Option FieldType) (tab : x_R) : Bool := (List.range tab.length).all (fun j => match tab[j]? with
  | some r => x_rv F Gp ret (x_pc tab) r.1 r.2.1 r.2.2.1 r.2.2.2 && (decide (tab.length ≤ j + 1) || decide (x_pc tab (j + 1) = r.1 + r.2.2.1))
  | none => true)
def x_dck (cc : ByteArray) (tab : x_R) : Bool := tab.all (fun r => decide (decode cc r.1 = .ok (r.2.1, r.2.2.1)))
section X12
variable {CL : x_CL} {X : x_X} {ML : x_ML} {PL : x_PL} {TB : List x_R} {MU : List Nat}
theorem x_look {α : Type} {l : List (Nat × α)} {k : Nat} {v : α} (h : l.lookup k = some v) : (k, v) ∈ l := by
  induction l with
  | nil => simp at h
  | cons a l ih =>
    obtain ⟨b, w⟩ := a
    rw [List.lookup_cons] at h
    cases hk : k == b with
    | true =>
      rw [hk] at h
      simp only [beq_iff_eq] at hk
      cases h
      subst hk
      exact List.mem_cons_self
    | false =>
      rw [hk] at h
      exact List.mem_cons_of_mem _ (ih h)
theorem x_lookS {α : Type} {l : List (String × α)} {k : String} {v : α} (h : l.lookup k = some v) : (k, v) ∈ l := by
  induction l with
  | nil => simp at h
  | cons a l ih =>
    obtain ⟨b, w⟩ := a
    rw [List.lookup_cons] at h
    cases hk : k == b with
    | true =>
      rw [hk] at h
      simp only [beq_iff_eq] at hk
      cases h
      subst hk
      exact List.mem_cons_self
    | false =>
      rw [hk] at h
      exact List.mem_cons_of_mem _ (ih h)
theorem x_F_in {μ ix : Nat} {i : Instr} (h : x_Ff PL ML μ ix = some i) : ∃ q ∈ PL, q.1 = (x_Mf ML μ).1.cls ∧ (ix, i) ∈ q.2 := by
  unfold x_Ff x_pool at h
  cases hl : PL.lookup (x_Mf ML μ).1.cls with
  | none => rw [hl] at h; simp at h
  | some pl =>
    rw [hl] at h
    exact ⟨_, x_lookS hl, rfl, x_look h⟩
theorem x_need_in {q : String × List (Nat × Instr)} {r : Nat × Instr} (hq : q ∈ PL) (hr : r ∈ q.2) : ∀ w ∈ x_need CL X ML q.1 r.1 r.2, w ∈ x_all MU CL X ML PL := by
  intro w hw
  unfold x_all
  exact List.mem_append_right _ (List.mem_flatMap.mpr ⟨q, hq, List.mem_flatMap.mpr ⟨r, hr, hw⟩⟩)
theorem x_cl_at {ci : Nat} {r : vw_C} {ty : Nat → FieldType} (h : CL[ci]? = some (r, ty)) : (x_cl CL)[ci]? = some r := by simp [x_cl, h]
theorem x_ws_in {q : vw_C × (Nat → FieldType)} (hq : q ∈ CL) : ∀ w ∈ u_ws q.1.1 q.1.2.1 q.1.2.2, w ∈ x_all MU CL X ML PL := by
  intro w hw
  unfold x_all
  exact List.mem_append_left _ (List.mem_append_right _ (List.mem_flatMap.mpr ⟨q, hq, hw⟩))
theorem x_nm_in {μ : Nat} (h : μ ∈ MU) : ∀ w ∈ x_nm ML μ, w ∈ x_all MU CL X ML PL := by
  intro w hw
  unfold x_all
  exact List.mem_append_left _ (List.mem_append_left _ (List.mem_append_right _ (List.mem_flatMap.mpr ⟨μ, h, hw⟩)))
theorem x_mk_of {μ : Nat} (h : x_mck MU ML μ = true) : x_mk (x_all MU CL X ML PL) (x_Ef CL ML TB) (x_Mf ML) μ := by
  simp only [x_mck, Bool.and_eq_true, decide_eq_true_eq] at h
  obtain ⟨⟨⟨⟨h0, h1⟩, h2⟩, h3⟩, h4⟩ := h
  exact ⟨x_nm_in h0 _ (by simp [x_nm]), x_nm_in h0 _ (by simp [x_nm]), ⟨h1, h2, h3⟩, h4⟩
theorem x_ne_of {Ts : List Cond} {own : String} {ix μ : Nat} (hw : ∀ w ∈ x_ne X ML own ix μ, w ∈ Ts) : Cond.methodLink own ix (x_Mf ML μ).1 ∈ Ts ∨ ∃ host, (own, ix, (x_Mf ML μ).1, host) ∈ X.2.2.2.2.1 := by
  unfold x_ne at hw
  split at hw
  · rename_i h
    obtain ⟨r, hr, h2⟩ := List.any_eq_true.mp h
    simp only [Bool.and_eq_true, decide_eq_true_eq] at h2
    obtain ⟨⟨h3, h4⟩, h5⟩ := h2
    obtain ⟨a, b, c, d⟩ := r
    simp only at h3 h4 h5
    subst h3; subst h4; subst h5
    exact Or.inr ⟨d, hr⟩
  · exact Or.inl (hw _ (by simp))
end X12
end
section
section X13
variable {CL : x_CL} {X : x_X} {ML : x_ML} {PL : x_PL} {TB : List x_R} {MU : List Nat}
theorem x_l2_of {own : String} {ix : Nat} {i : Instr} (hcl : x_clk CL) (hc : x_chk MU CL X ML own ix i = true) (hw : ∀ w ∈ x_need CL X ML own ix i, w ∈ x_all MU CL X ML PL) : x_l2 (x_all MU CL X ML PL) (x_Ef CL ML TB) (x_Mf ML) X own (x_cl CL) ix i := by
  unfold x_l2
  split
  · rename_i ci
    simp only [x_chk] at hc
    split at hc
    · rename_i q hq
      obtain ⟨⟨Cn, Tn, N⟩, ty⟩ := q
      simp only [x_need, hq] at hw
      obtain ⟨h1, h2, h3⟩ := hcl _ (List.mem_of_getElem? hq)
      refine ⟨Cn, Tn, N, ty, x_cl_at hq, x_ws_in (List.mem_of_getElem? hq), h1, hw _ (by simp), hw _ (by simp), hw _ (by simp), ?_⟩
      simp only [x_Ef, hq]
      refine ⟨by simp [x_dfl], fun j hj => ?_⟩
      have hget : (x_dfl ty N)[j]? = some (x_d1 (ty j)) := by simp [x_dfl, hj]
      rw [hget]
      rcases h3 j hj with (h | h) | ⟨n, h⟩ | ⟨n, h⟩
      · simp only at h; rw [h]; exact Or.inl ⟨rfl, Or.inl rfl⟩
      · simp only at h; rw [h]; exact Or.inl ⟨rfl, Or.inr rfl⟩
      · simp only at h; rw [h]; exact Or.inr ⟨rfl, Or.inl ⟨n, rfl⟩⟩
      · simp only at h; rw [h]; exact Or.inr ⟨rfl, Or.inr ⟨n, rfl⟩⟩
    · cases hc
  · rename_i μ
    simp only [x_chk, Bool.and_eq_true] at hc
    obtain ⟨h1, h2⟩ := hc
    simp only [x_need] at hw
    refine ⟨x_mk_of h1, x_ne_of (fun w h => hw w (List.mem_append_left _ h)), hw _ (by simp), hw _ (by simp), ?_⟩
    split at h2
    · rename_i r ty hq
      obtain ⟨Cn, Tn, N⟩ := r
      simp only [decide_eq_true_eq] at h2
      exact ⟨Tn, N, by rw [← h2]; exact x_cl_at hq⟩
    · cases h2
  · rename_i μ
    simp only [x_chk] at hc
    simp only [x_need] at hw
    exact ⟨x_mk_of hc, x_ne_of (fun w h => hw w (List.mem_append_left _ h)), hw _ (by simp)⟩
  · rename_i μ
    simp only [x_chk, Bool.and_eq_true, decide_eq_true_eq] at hc
    simp only [x_need] at hw
    exact ⟨x_mk_of hc.1.1, x_ne_of (fun w h => hw w (List.mem_append_left _ h)), hw _ (by simp), hc.1.2, hc.2⟩
  · rename_i μ
    simp only [x_chk, Bool.and_eq_true, decide_eq_true_eq] at hc
    simp only [x_need] at hw
    exact ⟨x_mk_of hc.1.1, hw _ (by simp), hw _ (by simp), hw _ (by simp), hc.1.2, hc.2⟩
  · trivial
theorem x_lk_of {own : String} {ix : Nat} {i : Instr} {sad : Nat → Nat} {s : State} (hs : ∀ r ∈ X.1, vk_R r.1 r.2.1 r.2.2.1 (sad r.2.2.2) s) (hc : x_chk MU CL X ML own ix i = true) (hw : ∀ w ∈ x_need CL X ML own ix i, w ∈ x_all MU CL X ML PL) : x_lk (x_all MU CL X ML PL) own (x_cl CL) sad s ix i := by
  unfold x_lk
  split
  · exact hw _ (by simp [x_need])
  · exact hw _ (by simp [x_need])
  · rename_i j
    simp only [x_chk] at hc
    obtain ⟨r, hr, h2⟩ := List.any_eq_true.mp hc
    simp only [Bool.and_eq_true, decide_eq_true_eq] at h2
    obtain ⟨⟨h3, h4⟩, h5⟩ := h2
    have := hs r hr
    rw [h3, h4, h5] at this
    exact ⟨_, this⟩
  · rename_i ci k
    simp only [x_chk] at hc
    split at hc
    · rename_i r ty hq
      obtain ⟨Cn, Tn, N⟩ := r
      simp only [decide_eq_true_eq] at hc
      simp only [x_need, hq] at hw
      exact ⟨Cn, Tn, N, x_cl_at hq, hc, x_ws_in (List.mem_of_getElem? hq), Or.inl (hw _ (by simp))⟩
    · cases hc
  · exact ⟨hw _ (by simp [x_need]), hw _ (by simp [x_need]), hw _ (by simp [x_need])⟩
  · exact ⟨hw _ (by simp [x_need]), hw _ (by simp [x_need]), hw _ (by simp [x_need]), hw _ (by simp [x_need])⟩
  · exact ⟨hw _ (by simp [x_need]), hw _ (by simp [x_need]), hw _ (by simp [x_need]), hw _ (by simp [x_need])⟩
  · exact ⟨hw _ (by simp [x_need]), hw _ (by simp [x_need]), hw _ (by simp [x_need]), hw _ (by simp [x_need])⟩
  · trivial
theorem x_kk_1 {k : Nat} (h : k < 1000) : x_kk k = k := if_pos h
theorem x_kk_2 {k : Nat} (h : k < 1000) : x_kk (k + 1000) = k := by unfold x_kk; rw [if_neg (by omega), if_pos (by omega)]; omega
theorem x_kk_3 {k : Nat} (h : k < 1000) : x_kk (k + 2000) = k := by unfold x_kk; rw [if_neg (by omega), if_neg (by omega)]; omega
set_option maxHeartbeats 1000000 in
theorem x_pk_of {own : String} {ix : Nat} {i0 i : Instr} {s : State} {meth : Method} (hcl : x_clk CL) (hi : x_gp1 CL own meth.name i0 = some i) (hw : ∀ w ∈ x_need CL X ML own ix i0, w ∈ x_all MU CL X ML PL) : x_pk (x_all MU CL X ML PL) own (x_cl CL) s meth ix i := by
  unfold x_gp1 at hi
  split at hi
  · rename_i ci k
    split at hi
    · rename_i r ty hq
      obtain ⟨Cn, Tn, N⟩ := r
      simp only [x_need, hq] at hw
      obtain ⟨h1, h2, h3⟩ := hcl _ (List.mem_of_getElem? hq)
      split at hi
      · rename_i hk
        obtain ⟨k1, k2, k3⟩ := hk
        simp only at k1 k3 h1 h2
        have hl := hw _ (List.mem_cons_self)
        have hlink : ∀ kk, x_kk kk = k → (((Cond.fieldLink own ix (Tn (x_kk kk)).1 (Tn (x_kk kk)).2.1 (Tn (x_kk kk)).2.2.1 ∈ x_all MU CL X ML PL ∨ ∃ host, va_Nw (Cond.fieldLinkNest own ix (Tn (x_kk kk)).1 (Tn (x_kk kk)).2.1 (Tn (x_kk kk)).2.2.1 host) s) ∧ (Tn (x_kk kk)).2.2.2 = false)
            ∨ (Cond.fieldLink own ix (Tn (x_kk kk)).1 (Tn (x_kk kk)).2.1 (Tn (x_kk kk)).2.2.1 ∈ x_all MU CL X ML PL ∧ (Tn (x_kk kk)).2.2.2 = true ∧ meth.name = "<init>" ∧ (Tn (x_kk kk)).1 = own)) := by
          intro kk hkk
          rw [hkk]
          cases hf : (Tn k).2.2.2 with
          | false => exact Or.inl ⟨Or.inl hl, rfl⟩
          | true =>
            rcases k3 with k3 | ⟨k3, k4⟩
            · rw [hf] at k3; cases k3
            · exact Or.inr ⟨hl, rfl, k3, k4⟩
        split at hi
        · rename_i hty
          cases hi
          exact ⟨Cn, Tn, N, ty, x_cl_at hq, by rw [x_kk_1 k2]; exact k1, x_ws_in (List.mem_of_getElem? hq), h1, h2, Or.inl ⟨k2, by rw [x_kk_1 k2]; exact hty⟩, hlink _ (x_kk_1 k2)⟩
        · rename_i hty
          cases hi
          exact ⟨Cn, Tn, N, ty, x_cl_at hq, by rw [x_kk_2 k2]; exact k1, x_ws_in (List.mem_of_getElem? hq), h1, h2, Or.inr (Or.inl ⟨by omega, by omega, by rw [x_kk_2 k2]; exact hty⟩), hlink _ (x_kk_2 k2)⟩
        · rename_i hty
          cases hi
          exact ⟨Cn, Tn, N, ty, x_cl_at hq, by rw [x_kk_3 k2]; exact k1, x_ws_in (List.mem_of_getElem? hq), h1, h2, Or.inr (Or.inr ⟨by omega, Or.inl ⟨_, by rw [x_kk_3 k2]; exact hty⟩⟩), hlink _ (x_kk_3 k2)⟩
        · rename_i hty
          cases hi
          exact ⟨Cn, Tn, N, ty, x_cl_at hq, by rw [x_kk_3 k2]; exact k1, x_ws_in (List.mem_of_getElem? hq), h1, h2, Or.inr (Or.inr ⟨by omega, Or.inr ⟨_, by rw [x_kk_3 k2]; exact hty⟩⟩), hlink _ (x_kk_3 k2)⟩
        · cases hi
      · cases hi
    · cases hi
  · cases hi
theorem x_tok_of {cc : ByteArray} {F Gp : Nat → Option Instr} {ret : Option FieldType} {tab : x_R} (h1 : x_tck F Gp ret tab = true) (h2 : x_dck cc tab = true) : x_tok cc F Gp ret tab := by
  intro j pc raw len res hj
  have hlt : j < tab.length := (List.getElem?_eq_some_iff.mp hj).1
  have a := List.all_eq_true.mp h1 j (List.mem_range.mpr hlt)
  rw [hj] at a
  simp only [Bool.and_eq_true, Bool.or_eq_true, decide_eq_true_eq] at a
  have b := List.all_eq_true.mp h2 _ (List.mem_of_getElem? hj)
  simp only [decide_eq_true_eq] at b
  refine ⟨b, a.1, fun h => ?_⟩
  rcases a.2 with c | c
  · omega
  · exact c
theorem x_ok_of (hcl : x_clk CL) (hchk : ∀ q ∈ PL, ∀ r ∈ q.2, x_chk MU CL X ML q.1 r.1 r.2 = true) {μ : Nat} (hpl : plainName (x_Mf ML μ).1.cls = true) (h1 : x_tck (x_Ff PL ML μ) (x_Gf CL PL ML μ) (x_Mf ML μ).2.2.2 (TB[μ]?.getD []) = true) (h2 : x_dck (x_Mf ML μ).2.1 (TB[μ]?.getD []) = true) (h3 : x_pc (TB[μ]?.getD []) 0 = 0) : x_ok (x_cl CL) (x_Ef CL ML TB) X (x_all MU CL X ML PL) (x_Mf ML) (x_Ff PL ML) (x_Gf CL PL ML) (fun μ => TB[μ]?.getD []) μ := by
  refine ⟨hpl, x_tok_of h1 h2, rfl, rfl, h3, fun ix i hi => ?_, fun ix i hi sad s hs => ?_, fun ix i hi s meth hn => ?_⟩
  · obtain ⟨q, hq, e, hr⟩ := x_F_in hi
    rw [← e]
    exact x_l2_of hcl (hchk q hq _ hr) (x_need_in hq hr)
  · obtain ⟨q, hq, e, hr⟩ := x_F_in hi
    rw [← e]
    exact x_lk_of hs (hchk q hq _ hr) (x_need_in hq hr)
  · unfold x_Gf at hi
    split at hi
    · rename_i i0 h0
      obtain ⟨q, hq, e, hr⟩ := x_F_in h0
      rw [← e] at hi ⊢
      rw [← hn] at hi
      exact x_pk_of hcl hi (x_need_in hq hr)
    · cases hi
end X13
end
section
theorem i_vc : Claimed_1_1 ∧ Claimed_1_2 := sorry
end
