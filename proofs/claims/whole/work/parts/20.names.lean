/-! ===== the classes of this claim, their methods and constants: written by a program out of the printed names ===== -/
def kT0 : u_T := fun k => match k with
  | 0 => ("CommaOrphansModel", "told", "I", false)
  | 1 => ("CommaOrphansModel", "now", "[I", true)
  | 2 => ("CommaOrphansModel", "rows", "[I", true)
  | 3 => ("CommaOrphansModel", "undoable", "I", false)
  | 4 => ("CommaOrphansModel", "apprentices", "I", false)
  | 5 => ("CommaOrphansModel", "bread", "[I", true)
  | 6 => ("CommaOrphansModel", "strike", "[I", true)
  | 7 => ("CommaOrphansModel", "hungry", "[I", true)
  | 8 => ("CommaOrphansModel", "toldOf", "[I", true)
  | 9 => ("CommaOrphansModel", "ownedBy", "[I", true)
  | 10 => ("CommaOrphansModel", "burnt", "[I", true)
  | 11 => ("CommaOrphansModel", "jealousy", "I", false)
  | 12 => ("CommaOrphansModel", "day", "I", false)
  | 13 => ("CommaOrphansModel", "pageMany", "I", false)
  | 14 => ("CommaOrphansModel", "pageOf", "[I", true)
  | 15 => ("CommaOrphansModel", "rowMany", "I", false)
  | 16 => ("CommaOrphansModel", "row", "[I", true)
  | 17 => ("CommaOrphansModel", "listMany", "I", false)
  | 18 => ("CommaOrphansModel", "listLong", "[I", true)
  | 19 => ("CommaOrphansModel", "listOf", "[I", true)
  | 20 => ("CommaOrphansModel", "tape", "[I", true)
  | 21 => ("CommaOrphansModel", "taped", "I", false)
  | 22 => ("CommaOrphansModel", "spot", "I", false)
  | 23 => ("CommaOrphansModel", "from", "I", false)
  | 24 => ("CommaOrphansModel", "token", "I", false)
  | 25 => ("CommaOrphansModel", "value", "I", false)
  | 26 => ("CommaOrphansModel", "words", "[I", true)
  | 27 => ("CommaOrphansModel", "lineMany", "I", false)
  | 28 => ("CommaOrphansModel", "lineWhen", "[I", true)
  | 29 => ("CommaOrphansModel", "lineFrom", "[I", true)
  | 30 => ("CommaOrphansModel", "lineTo", "[I", true)
  | 31 => ("CommaOrphansModel", "op", "[I", true)
  | 32 => ("CommaOrphansModel", "arg", "[I", true)
  | 33 => ("CommaOrphansModel", "codes", "I", false)
  | 34 => ("CommaOrphansModel", "open", "I", false)
  | 35 => ("CommaOrphansModel", "pending", "[I", true)
  | 36 => ("CommaOrphansModel", "pendings", "I", false)
  | 37 => ("CommaOrphansModel", "readFault", "I", false)
  | 38 => ("CommaOrphansModel", "readPlace", "I", false)
  | 39 => ("CommaOrphansModel", "faultKind", "I", false)
  | 40 => ("CommaOrphansModel", "faultPlace", "I", false)
  | 41 => ("CommaOrphansModel", "asked", "[I", true)
  | 42 => ("CommaOrphansModel", "stack", "[I", true)
  | 43 => ("CommaOrphansModel", "earns", "[I", true)
  | 44 => ("CommaOrphansModel", "roll", "[I", true)
  | 45 => ("CommaOrphansModel", "oneSign", "I", false)
  | 46 => ("CommaOrphansModel", "otherSign", "I", false)
  | 47 => ("CommaOrphansModel", "mostBought", "I", false)
  | 48 => ("CommaOrphansModel", "bought", "[I", true)
  | 49 => ("CommaOrphansModel", "isTaking", "Z", false)
  | 50 => ("CommaOrphansModel", "hasImage", "Z", false)
  | 51 => ("CommaOrphansModel", "keptAt", "I", false)
  | _ => ("CommaOrphansModel", "images", "[I", true)
def kY0 : Nat → FieldType := fun k => match k with
  | 0 => .int
  | 1 => .array .int
  | 2 => .array .int
  | 3 => .int
  | 4 => .int
  | 5 => .array .int
  | 6 => .array .int
  | 7 => .array .int
  | 8 => .array .int
  | 9 => .array .int
  | 10 => .array .int
  | 11 => .int
  | 12 => .int
  | 13 => .int
  | 14 => .array .int
  | 15 => .int
  | 16 => .array .int
  | 17 => .int
  | 18 => .array .int
  | 19 => .array .int
  | 20 => .array .int
  | 21 => .int
  | 22 => .int
  | 23 => .int
  | 24 => .int
  | 25 => .int
  | 26 => .array .int
  | 27 => .int
  | 28 => .array .int
  | 29 => .array .int
  | 30 => .array .int
  | 31 => .array .int
  | 32 => .array .int
  | 33 => .int
  | 34 => .int
  | 35 => .array .int
  | 36 => .int
  | 37 => .int
  | 38 => .int
  | 39 => .int
  | 40 => .int
  | 41 => .array .int
  | 42 => .array .int
  | 43 => .array .int
  | 44 => .array .int
  | 45 => .int
  | 46 => .int
  | 47 => .int
  | 48 => .array .int
  | 49 => .boolean
  | 50 => .boolean
  | 51 => .int
  | _ => .array .int
def kT1 : u_T := fun k => match k with
  | 0 => ("CommaOrphans$Barter", "known", "Z", false)
  | 1 => ("CommaOrphans$Barter", "answer", "[I", true)
  | 2 => ("CommaOrphans$Barter", "house", "LCommaOrphans$House;", true)
  | 3 => ("CommaOrphans$Barter", "press", "LCommaOrphans$Press;", true)
  | _ => ("CommaOrphans$Barter", "earned", "[I", true)
def kY1 : Nat → FieldType := fun k => match k with
  | 0 => .boolean
  | 1 => .array .int
  | 2 => .object "CommaOrphans$House"
  | 3 => .object "CommaOrphans$Press"
  | _ => .array .int
def kT2 : u_T := fun k => match k with
  | 0 => ("CommaOrphans$Basket", "buyer", "I", false)
  | 1 => ("CommaOrphans$Basket", "answer", "[I", true)
  | 2 => ("CommaOrphans$Basket", "house", "LCommaOrphans$House;", true)
  | 3 => ("CommaOrphans$Basket", "press", "LCommaOrphans$Press;", true)
  | _ => ("CommaOrphans$Basket", "row", "LCommaOrphans$Row;", true)
def kY2 : Nat → FieldType := fun k => match k with
  | 0 => .int
  | 1 => .array .int
  | 2 => .object "CommaOrphans$House"
  | 3 => .object "CommaOrphans$Press"
  | _ => .object "CommaOrphans$Row"
def kT3 : u_T := fun k => match k with
  | 0 => ("CommaOrphans$House", "crew", "I", false)
  | 1 => ("CommaOrphans$House", "purse", "[I", true)
  | 2 => ("CommaOrphans$House", "bread", "[I", true)
  | 3 => ("CommaOrphans$House", "strike", "[I", true)
  | 4 => ("CommaOrphans$House", "hungry", "[I", true)
  | 5 => ("CommaOrphans$House", "told", "[I", true)
  | 6 => ("CommaOrphans$House", "owner", "[I", true)
  | 7 => ("CommaOrphans$House", "burnt", "[I", true)
  | 8 => ("CommaOrphans$House", "printed", "[I", true)
  | 9 => ("CommaOrphans$House", "page", "LCommaOrphans$Row;", true)
  | 10 => ("CommaOrphans$House", "words", "LCommaOrphans$WordList;", true)
  | 11 => ("CommaOrphans$House", "law", "LCommaOrphans$Law;", true)
  | 12 => ("CommaOrphans$House", "roll", "[I", true)
  | 13 => ("CommaOrphans$House", "rollLines", "I", false)
  | 14 => ("CommaOrphans$House", "gaps", "I", false)
  | 15 => ("CommaOrphans$House", "day", "I", false)
  | 16 => ("CommaOrphans$House", "jealousy", "I", false)
  | _ => ("CommaOrphans$House", "state", "I", false)
def kY3 : Nat → FieldType := fun k => match k with
  | 0 => .int
  | 1 => .array .int
  | 2 => .array .int
  | 3 => .array .int
  | 4 => .array .int
  | 5 => .array .int
  | 6 => .array .int
  | 7 => .array .int
  | 8 => .array .int
  | 9 => .object "CommaOrphans$Row"
  | 10 => .object "CommaOrphans$WordList"
  | 11 => .object "CommaOrphans$Law"
  | 12 => .array .int
  | 13 => .int
  | 14 => .int
  | 15 => .int
  | 16 => .int
  | _ => .int
def kT4 : u_T := fun k => match k with
  | 0 => ("CommaOrphans$Law", "code", "[I", true)
  | 1 => ("CommaOrphans$Law", "starts", "[I", true)
  | 2 => ("CommaOrphans$Law", "conditions", "[I", true)
  | 3 => ("CommaOrphans$Law", "size", "I", false)
  | 4 => ("CommaOrphans$Law", "lines", "I", false)
  | _ => ("CommaOrphans$Law", "asked", "I", false)
def kY4 : Nat → FieldType := fun k => match k with
  | 0 => .array .int
  | 1 => .array .int
  | 2 => .array .int
  | 3 => .int
  | 4 => .int
  | _ => .int
def kT5 : u_T := fun k => match k with
  | 0 => ("CommaOrphans$LawReader", "draft", "LCommaOrphans$Law;", true)
  | 1 => ("CommaOrphans$LawReader", "fault", "I", false)
  | 2 => ("CommaOrphans$LawReader", "faultPlace", "I", false)
  | 3 => ("CommaOrphans$LawReader", "tape", "LCommaOrphans$Row;", true)
  | 4 => ("CommaOrphans$LawReader", "kinds", "[I", true)
  | 5 => ("CommaOrphans$LawReader", "places", "[I", true)
  | 6 => ("CommaOrphans$LawReader", "now", "I", false)
  | _ => ("CommaOrphans$LawReader", "kind", "I", false)
def kY5 : Nat → FieldType := fun k => match k with
  | 0 => .object "CommaOrphans$Law"
  | 1 => .int
  | 2 => .int
  | 3 => .object "CommaOrphans$Row"
  | 4 => .array .int
  | 5 => .array .int
  | 6 => .int
  | _ => .int
def kT6 : u_T := fun k => match k with
  | 0 => ("CommaOrphans$Press", "house", "LCommaOrphans$House;", true)
  | 1 => ("CommaOrphans$Press", "able", "[Z", true)
  | 2 => ("CommaOrphans$Press", "longs", "[I", true)
  | 3 => ("CommaOrphans$Press", "facts", "[I", true)
  | 4 => ("CommaOrphans$Press", "stack", "[I", true)
  | 5 => ("CommaOrphans$Press", "known", "[J", true)
  | 6 => ("CommaOrphans$Press", "before", "[I", true)
  | _ => ("CommaOrphans$Press", "after", "[I", true)
def kY6 : Nat → FieldType := fun k => match k with
  | 0 => .object "CommaOrphans$House"
  | 1 => .array .boolean
  | 2 => .array .int
  | 3 => .array .int
  | 4 => .array .int
  | 5 => .array .long
  | 6 => .array .int
  | _ => .array .int
def kT7 : u_T := fun k => match k with
  | 0 => ("CommaOrphans$Remedy", "known", "Z", false)
  | 1 => ("CommaOrphans$Remedy", "answer", "[I", true)
  | 2 => ("CommaOrphans$Remedy", "house", "LCommaOrphans$House;", true)
  | 3 => ("CommaOrphans$Remedy", "press", "LCommaOrphans$Press;", true)
  | 4 => ("CommaOrphans$Remedy", "row", "LCommaOrphans$Row;", true)
  | 5 => ("CommaOrphans$Remedy", "choices", "[I", true)
  | 6 => ("CommaOrphans$Remedy", "choiceCounts", "[I", true)
  | 7 => ("CommaOrphans$Remedy", "least", "[I", true)
  | 8 => ("CommaOrphans$Remedy", "signsNeeded", "[I", true)
  | 9 => ("CommaOrphans$Remedy", "hands", "[I", true)
  | 10 => ("CommaOrphans$Remedy", "earned", "[I", true)
  | _ => ("CommaOrphans$Remedy", "hungriest", "I", false)
def kY7 : Nat → FieldType := fun k => match k with
  | 0 => .boolean
  | 1 => .array .int
  | 2 => .object "CommaOrphans$House"
  | 3 => .object "CommaOrphans$Press"
  | 4 => .object "CommaOrphans$Row"
  | 5 => .array .int
  | 6 => .array .int
  | 7 => .array .int
  | 8 => .array .int
  | 9 => .array .int
  | 10 => .array .int
  | _ => .int
def kT8 : u_T := fun k => match k with
  | 0 => ("CommaOrphans$Row", "places", "[I", true)
  | _ => ("CommaOrphans$Row", "length", "I", false)
def kY8 : Nat → FieldType := fun k => match k with
  | 0 => .array .int
  | _ => .int
def kT9 : u_T := fun k => match k with
  | 0 => ("CommaOrphans$Shelf", "purses", "[I", true)
  | 1 => ("CommaOrphans$Shelf", "printed", "[I", true)
  | 2 => ("CommaOrphans$Shelf", "rollLines", "[I", true)
  | 3 => ("CommaOrphans$Shelf", "gaps", "[I", true)
  | 4 => ("CommaOrphans$Shelf", "states", "[I", true)
  | _ => ("CommaOrphans$Shelf", "count", "I", false)
def kY9 : Nat → FieldType := fun k => match k with
  | 0 => .array .int
  | 1 => .array .int
  | 2 => .array .int
  | 3 => .array .int
  | 4 => .array .int
  | _ => .int
def kT10 : u_T := fun k => match k with
  | 0 => ("CommaOrphans$WordList", "letters", "[I", true)
  | 1 => ("CommaOrphans$WordList", "lengths", "[I", true)
  | _ => ("CommaOrphans$WordList", "count", "I", false)
def kY10 : Nat → FieldType := fun k => match k with
  | 0 => .array .int
  | 1 => .array .int
  | _ => .int
def kT11 : u_T := fun k => match k with
  | 0 => ("CommaOrphans", "house", "LCommaOrphans$House;", true)
  | 1 => ("CommaOrphans", "kept", "LCommaOrphans$House;", true)
  | 2 => ("CommaOrphans", "imaged", "Z", false)
  | 3 => ("CommaOrphans", "tape", "LCommaOrphans$Row;", true)
  | 4 => ("CommaOrphans", "reader", "LCommaOrphans$LawReader;", true)
  | 5 => ("CommaOrphans", "shelf", "LCommaOrphans$Shelf;", true)
  | 6 => ("CommaOrphans", "press", "LCommaOrphans$Press;", true)
  | 7 => ("CommaOrphans", "remedy", "LCommaOrphans$Remedy;", true)
  | 8 => ("CommaOrphans", "basket", "LCommaOrphans$Basket;", true)
  | _ => ("CommaOrphans", "barter", "LCommaOrphans$Barter;", true)
def kY11 : Nat → FieldType := fun k => match k with
  | 0 => .object "CommaOrphans$House"
  | 1 => .object "CommaOrphans$House"
  | 2 => .boolean
  | 3 => .object "CommaOrphans$Row"
  | 4 => .object "CommaOrphans$LawReader"
  | 5 => .object "CommaOrphans$Shelf"
  | 6 => .object "CommaOrphans$Press"
  | 7 => .object "CommaOrphans$Remedy"
  | 8 => .object "CommaOrphans$Basket"
  | _ => .object "CommaOrphans$Barter"
def kCL : x_CL := [(("CommaOrphansModel", kT0, 53), kY0), (("CommaOrphans$Barter", kT1, 5), kY1), (("CommaOrphans$Basket", kT2, 5), kY2), (("CommaOrphans$House", kT3, 18), kY3), (("CommaOrphans$Law", kT4, 6), kY4), (("CommaOrphans$LawReader", kT5, 8), kY5), (("CommaOrphans$Press", kT6, 8), kY6), (("CommaOrphans$Remedy", kT7, 12), kY7), (("CommaOrphans$Row", kT8, 2), kY8), (("CommaOrphans$Shelf", kT9, 6), kY9), (("CommaOrphans$WordList", kT10, 3), kY10), (("CommaOrphans", kT11, 10), kY11)]
def kML0 : x_ML := [
  ((⟨"CommaOrphansModel", "<init>", "()V"⟩, prog_13_method_1_code, 1, none), 0, 0),
  ((⟨"CommaOrphansModel", "isIn", "(III)Z"⟩, prog_13_method_3_code, 4, some .boolean), 3, 0),
  ((⟨"CommaOrphansModel", "keepsAhead", "()V"⟩, prog_13_method_4_code, 2, none), 0, 0),
  ((⟨"CommaOrphansModel", "undo", "()Z"⟩, prog_13_method_5_code, 2, some .boolean), 0, 0),
  ((⟨"CommaOrphansModel", "state", "(I)I"⟩, prog_13_method_6_code, 3, some .int), 1, 0),
  ((⟨"CommaOrphansModel", "draw", "(I)I"⟩, prog_13_method_7_code, 2, some .int), 1, 0),
  ((⟨"CommaOrphansModel", "isApprentice", "(I)Z"⟩, prog_13_method_8_code, 2, some .boolean), 1, 0),
  ((⟨"CommaOrphansModel", "isOneOf", "(I)Z"⟩, prog_13_method_9_code, 2, some .boolean), 1, 0),
  ((⟨"CommaOrphansModel", "apprentice", "(II)I"⟩, prog_13_method_10_code, 3, some .int), 2, 0),
  ((⟨"CommaOrphansModel", "own", "(II)Z"⟩, prog_13_method_11_code, 3, some .boolean), 2, 0),
  ((⟨"CommaOrphansModel", "canSet", "(III)Z"⟩, prog_13_method_12_code, 4, some .boolean), 3, 0),
  ((⟨"CommaOrphansModel", "set", "(III)Z"⟩, prog_13_method_13_code, 4, some .boolean), 3, 0),
  ((⟨"CommaOrphansModel", "ownerOf", "(I)I"⟩, prog_13_method_14_code, 2, some .int), 1, 0),
  ((⟨"CommaOrphansModel", "canPrint", "(I)Z"⟩, prog_13_method_15_code, 2, some .boolean), 1, 0),
  ((⟨"CommaOrphansModel", "signOf", "(I)I"⟩, prog_13_method_16_code, 2, some .int), 1, 0),
  ((⟨"CommaOrphansModel", "page", "()I"⟩, prog_13_method_17_code, 3, some .int), 0, 0),
  ((⟨"CommaOrphansModel", "word", "()I"⟩, prog_13_method_18_code, 3, some .int), 0, 0),
  ((⟨"CommaOrphansModel", "clear", "()I"⟩, prog_13_method_19_code, 2, some .int), 0, 0),
  ((⟨"CommaOrphansModel", "thinksOfPage", "()V"⟩, prog_13_method_20_code, 2, none), 0, 0),
  ((⟨"CommaOrphansModel", "types", "(I)V"⟩, prog_13_method_21_code, 3, none), 1, 0),
  ((⟨"CommaOrphansModel", "feed", "(IIIII)I"⟩, prog_13_method_22_code, 6, some .int), 5, 0),
  ((⟨"CommaOrphansModel", "end", "(I)Z"⟩, prog_13_method_23_code, 2, some .boolean), 1, 0),
  ((⟨"CommaOrphansModel", "raw", "(I)I"⟩, prog_13_method_24_code, 2, some .int), 1, 0),
  ((⟨"CommaOrphansModel", "isLetter", "(I)Z"⟩, prog_13_method_25_code, 2, some .boolean), 1, 0),
  ((⟨"CommaOrphansModel", "isDigit", "(I)Z"⟩, prog_13_method_26_code, 2, some .boolean), 1, 0),
  ((⟨"CommaOrphansModel", "isMarkSign", "(I)Z"⟩, prog_13_method_27_code, 2, some .boolean), 1, 0),
  ((⟨"CommaOrphansModel", "wordAt", "(II)I"⟩, prog_13_method_28_code, 6, some .int), 2, 0),
  ((⟨"CommaOrphansModel", "reads", "()V"⟩, prog_13_method_29_code, 2, none), 0, 0),
  ((⟨"CommaOrphansModel", "errs", "(I)I"⟩, prog_13_method_30_code, 2, some .int), 1, 0),
  ((⟨"CommaOrphansModel", "isWord", "(I)Z"⟩, prog_13_method_31_code, 2, some .boolean), 1, 0),
  ((⟨"CommaOrphansModel", "isSign", "(I)Z"⟩, prog_13_method_32_code, 2, some .boolean), 1, 0),
  ((⟨"CommaOrphansModel", "emits", "(II)V"⟩, prog_13_method_33_code, 3, none), 2, 0)]
def kML1 : x_ML := [
  ((⟨"CommaOrphansModel", "readUnit", "()I"⟩, prog_13_method_34_code, 2, some .int), 0, 0),
  ((⟨"CommaOrphansModel", "readProduct", "()I"⟩, prog_13_method_35_code, 2, some .int), 0, 0),
  ((⟨"CommaOrphansModel", "readSum", "()I"⟩, prog_13_method_36_code, 2, some .int), 0, 0),
  ((⟨"CommaOrphansModel", "readCompared", "()I"⟩, prog_13_method_37_code, 2, some .int), 0, 0),
  ((⟨"CommaOrphansModel", "waits", "(I)V"⟩, prog_13_method_38_code, 2, none), 1, 0),
  ((⟨"CommaOrphansModel", "settles", "(I)V"⟩, prog_13_method_39_code, 2, none), 1, 0),
  ((⟨"CommaOrphansModel", "readAny", "()I"⟩, prog_13_method_40_code, 4, some .int), 0, 0),
  ((⟨"CommaOrphansModel", "readText", "()I"⟩, prog_13_method_41_code, 3, some .int), 0, 0),
  ((⟨"CommaOrphansModel", "text", "()I"⟩, prog_13_method_42_code, 3, some .int), 0, 0),
  ((⟨"CommaOrphansModel", "fault", "(I)I"⟩, prog_13_method_43_code, 2, some .int), 1, 0),
  ((⟨"CommaOrphansModel", "twoOf", "(III)I"⟩, prog_13_method_44_code, 4, some .int), 3, 0),
  ((⟨"CommaOrphansModel", "runs", "(II)I"⟩, prog_13_method_45_code, 5, some .int), 2, 0),
  ((⟨"CommaOrphansModel", "isSo", "(I)Z"⟩, prog_13_method_46_code, 2, some .boolean), 1, 0),
  ((⟨"CommaOrphansModel", "isLetterAt", "(I)Z"⟩, prog_13_method_47_code, 2, some .boolean), 1, 0),
  ((⟨"CommaOrphansModel", "longAt", "(I)I"⟩, prog_13_method_48_code, 4, some .int), 1, 0),
  ((⟨"CommaOrphansModel", "usedAt", "(I)I"⟩, prog_13_method_49_code, 4, some .int), 1, 0),
  ((⟨"CommaOrphansModel", "isVowel", "(I)Z"⟩, prog_13_method_50_code, 2, some .boolean), 1, 0),
  ((⟨"CommaOrphansModel", "paysAt", "(I)I"⟩, prog_13_method_51_code, 4, some .int), 1, 0),
  ((⟨"CommaOrphansModel", "findsEarnings", "()V"⟩, prog_13_method_52_code, 3, none), 0, 0),
  ((⟨"CommaOrphansModel", "leastSignOf", "(I)I"⟩, prog_13_method_53_code, 3, some .int), 1, 0),
  ((⟨"CommaOrphansModel", "notes", "(III)V"⟩, prog_13_method_54_code, 5, none), 3, 0),
  ((⟨"CommaOrphansModel", "prints", "(I)Z"⟩, prog_13_method_55_code, 5, some .boolean), 1, 0),
  ((⟨"CommaOrphansModel", "print", "()I"⟩, prog_13_method_56_code, 4, some .int), 0, 0),
  ((⟨"CommaOrphansModel", "day", "()I"⟩, prog_13_method_57_code, 3, some .int), 0, 0),
  ((⟨"CommaOrphansModel", "signsOf", "(I)I"⟩, prog_13_method_58_code, 4, some .int), 1, 0),
  ((⟨"CommaOrphansModel", "earnsByPage", "(I)I"⟩, prog_13_method_59_code, 2, some .int), 1, 0),
  ((⟨"CommaOrphansModel", "of", "(II)I"⟩, prog_13_method_60_code, 3, some .int), 2, 0),
  ((⟨"CommaOrphansModel", "sign", "(II)I"⟩, prog_13_method_61_code, 3, some .int), 2, 0),
  ((⟨"CommaOrphansModel", "at", "(I)I"⟩, prog_13_method_62_code, 2, some .int), 1, 0),
  ((⟨"CommaOrphansModel", "pays", "(I)I"⟩, prog_13_method_63_code, 2, some .int), 1, 0),
  ((⟨"CommaOrphansModel", "roll", "(II)I"⟩, prog_13_method_64_code, 3, some .int), 2, 0),
  ((⟨"CommaOrphansModel", "mustEat", "(I)Z"⟩, prog_13_method_65_code, 3, some .boolean), 1, 0)]
def kML2 : x_ML := [
  ((⟨"CommaOrphansModel", "doAllEat", "()Z"⟩, prog_13_method_66_code, 2, some .boolean), 0, 0),
  ((⟨"CommaOrphansModel", "canBeOne", "(I)Z"⟩, prog_13_method_67_code, 4, some .boolean), 1, 0),
  ((⟨"CommaOrphansModel", "canBeTwo", "(II)Z"⟩, prog_13_method_68_code, 6, some .boolean), 2, 0),
  ((⟨"CommaOrphansModel", "fewest", "(I)I"⟩, prog_13_method_69_code, 4, some .int), 1, 0),
  ((⟨"CommaOrphansModel", "adds", "(I)V"⟩, prog_13_method_70_code, 3, none), 1, 0),
  ((⟨"CommaOrphansModel", "earnsBy", "(IIII)I"⟩, prog_13_method_71_code, 5, some .int), 4, 0),
  ((⟨"CommaOrphansModel", "buys", "(IIII)V"⟩, prog_13_method_72_code, 6, none), 4, 0),
  ((⟨"CommaOrphansModel", "buy", "(II)I"⟩, prog_13_method_73_code, 6, some .int), 2, 0),
  ((⟨"CommaOrphansModel", "can", "()I"⟩, prog_13_method_74_code, 5, some .int), 0, 0),
  ((⟨"CommaOrphansModel", "othersEarn", "(I)I"⟩, prog_13_method_75_code, 4, some .int), 1, 0),
  ((⟨"CommaOrphansModel", "gapsOfRow", "()I"⟩, prog_13_method_76_code, 3, some .int), 0, 0),
  ((⟨"CommaOrphansModel", "hurts", "(II)I"⟩, prog_13_method_77_code, 6, some .int), 2, 0),
  ((⟨"CommaOrphansModel", "changes", "(II)V"⟩, prog_13_method_78_code, 4, none), 2, 0),
  ((⟨"CommaOrphansModel", "isBetter", "(II)Z"⟩, prog_13_method_79_code, 7, some .boolean), 2, 0),
  ((⟨"CommaOrphansModel", "swap", "(I)I"⟩, prog_13_method_80_code, 6, some .int), 1, 0),
  ((⟨"CommaOrphansModel", "liars", "()I"⟩, prog_13_method_81_code, 5, some .int), 0, 0),
  ((⟨"CommaOrphansModel", "kept", "(I)I"⟩, prog_13_method_82_code, 2, some .int), 1, 0),
  ((⟨"CommaOrphansModel", "keepsLaw", "()V"⟩, prog_13_method_83_code, 2, none), 0, 0),
  ((⟨"CommaOrphansModel", "keepsRows", "()V"⟩, prog_13_method_84_code, 2, none), 0, 0),
  ((⟨"CommaOrphansModel", "image", "(Z)Z"⟩, prog_13_method_85_code, 3, some .boolean), 1, 0),
  ((⟨"CommaOrphansModel", "look", "(I)I"⟩, prog_13_method_86_code, 2, some .int), 1, 0),
  ((⟨"java/util/Arrays", "fill", "([JJ)V"⟩, prog_20_method_101_code, 5, none), 2, 99),
  ((⟨"java/util/Arrays", "fill", "([II)V"⟩, prog_20_method_103_code, 4, none), 2, 99),
  ((⟨"CommaOrphansLaw", "law", "([I)Z"⟩, code, 4, some .boolean), 1, 99),
  ((⟨"CommaOrphans$Barter", "<init>", "(LCommaOrphans$House;LCommaOrphans$Press;)V"⟩, prog_2_method_1_code, 3, none), 2, 1),
  ((⟨"CommaOrphans$Barter", "seek", "()V"⟩, prog_2_method_2_code, 3, none), 0, 1),
  ((⟨"CommaOrphans$Barter", "count", "(II)V"⟩, prog_2_method_3_code, 3, none), 2, 1),
  ((⟨"CommaOrphans$Barter", "isGain", "(II)Z"⟩, prog_2_method_4_code, 6, some .boolean), 2, 1),
  ((⟨"CommaOrphans$Barter", "give", "(IIII)V"⟩, prog_2_method_5_code, 5, none), 4, 1),
  ((⟨"CommaOrphans$Basket", "<init>", "(LCommaOrphans$House;LCommaOrphans$Press;)V"⟩, prog_3_method_1_code, 3, none), 2, 2),
  ((⟨"CommaOrphans$Basket", "seek", "(I)V"⟩, prog_3_method_2_code, 10, none), 1, 2),
  ((⟨"CommaOrphans$Basket", "lay", "(II)I"⟩, prog_3_method_3_code, 5, some .int), 2, 2)]
def kML3 : x_ML := [
  ((⟨"CommaOrphans$Basket", "weigh", "(IIII)V"⟩, prog_3_method_4_code, 6, none), 4, 2),
  ((⟨"CommaOrphans$House", "<init>", "()V"⟩, prog_4_method_1_code, 1, none), 0, 3),
  ((⟨"CommaOrphans$House", "has", "(I)Z"⟩, prog_4_method_2_code, 2, some .boolean), 1, 3),
  ((⟨"CommaOrphans$House", "put", "(III)Z"⟩, prog_4_method_3_code, 4, some .boolean), 3, 3),
  ((⟨"CommaOrphans$House", "putIn", "([IIII)Z"⟩, prog_4_method_4_code, 4, some .boolean), 4, 3),
  ((⟨"CommaOrphans$House", "canPrint", "(I)Z"⟩, prog_4_method_5_code, 2, some .boolean), 1, 3),
  ((⟨"CommaOrphans$House", "draw", "(I)I"⟩, prog_4_method_6_code, 2, some .int), 1, 3),
  ((⟨"CommaOrphans$House", "countOwned", "(I)I"⟩, prog_4_method_7_code, 4, some .int), 1, 3),
  ((⟨"CommaOrphans$House", "countPrinted", "(I)I"⟩, prog_4_method_8_code, 4, some .int), 1, 3),
  ((⟨"CommaOrphans$House", "ownsUnburnt", "(I)Z"⟩, prog_4_method_9_code, 3, some .boolean), 1, 3),
  ((⟨"CommaOrphans$House", "leastOwned", "(II)I"⟩, prog_4_method_10_code, 4, some .int), 2, 3),
  ((⟨"CommaOrphans$House", "eat", "()I"⟩, prog_4_method_11_code, 3, some .int), 0, 3),
  ((⟨"CommaOrphans$House", "book", "(III)V"⟩, prog_4_method_12_code, 7, none), 3, 3),
  ((⟨"CommaOrphans$House", "take", "(LCommaOrphans$House;)V"⟩, prog_4_method_13_code, 2, none), 1, 3),
  ((⟨"CommaOrphans$Law", "<init>", "()V"⟩, prog_5_method_1_code, 1, none), 0, 4),
  ((⟨"CommaOrphans$Law", "wipe", "()V"⟩, prog_5_method_2_code, 1, none), 0, 4),
  ((⟨"CommaOrphans$Law", "emit", "(I)V"⟩, prog_5_method_3_code, 2, none), 1, 4),
  ((⟨"CommaOrphans$Law", "asks", "(I)Z"⟩, prog_5_method_4_code, 2, some .boolean), 1, 4),
  ((⟨"CommaOrphans$Law", "endOfPay", "()V"⟩, prog_5_method_5_code, 1, none), 0, 4),
  ((⟨"CommaOrphans$Law", "endOfLine", "()V"⟩, prog_5_method_6_code, 1, none), 0, 4),
  ((⟨"CommaOrphans$Law", "take", "(LCommaOrphans$Law;)V"⟩, prog_5_method_7_code, 2, none), 1, 4),
  ((⟨"CommaOrphans$Law", "isBare", "(I)Z"⟩, prog_5_method_8_code, 2, some .boolean), 1, 4),
  ((⟨"CommaOrphans$Law", "payFor", "([I[I)I"⟩, prog_5_method_9_code, 5, some .int), 2, 4),
  ((⟨"CommaOrphans$Law", "mostPay", "([I[I)I"⟩, prog_5_method_10_code, 5, some .int), 2, 4),
  ((⟨"CommaOrphans$Law", "mostOfSum", "(II[I[I)I"⟩, prog_5_method_11_code, 12, some .int), 4, 4),
  ((⟨"CommaOrphans$Law", "run", "(II[I[I)I"⟩, prog_5_method_12_code, 10, some .int), 4, 4),
  ((⟨"CommaOrphans$LawReader", "<init>", "(LCommaOrphans$Row;)V"⟩, prog_6_method_1_code, 2, none), 1, 5),
  ((⟨"CommaOrphans$LawReader", "readLaw", "()Z"⟩, prog_6_method_2_code, 2, some .boolean), 0, 5),
  ((⟨"CommaOrphans$LawReader", "split", "()V"⟩, prog_6_method_3_code, 4, none), 0, 5),
  ((⟨"CommaOrphans$LawReader", "endOfToken", "(I)I"⟩, prog_6_method_4_code, 5, some .int), 1, 5),
  ((⟨"CommaOrphans$LawReader", "kindOf", "(II)I"⟩, prog_6_method_5_code, 6, some .int), 2, 5),
  ((⟨"CommaOrphans$LawReader", "kindOfWord", "(II)I"⟩, prog_6_method_6_code, 4, some .int), 2, 5)]
def kML4 : x_ML := [
  ((⟨"CommaOrphans$LawReader", "isKeyword", "(III)Z"⟩, prog_6_method_7_code, 6, some .boolean), 3, 5),
  ((⟨"CommaOrphans$LawReader", "step", "()V"⟩, prog_6_method_8_code, 1, none), 0, 5),
  ((⟨"CommaOrphans$LawReader", "fail", "(I)Z"⟩, prog_6_method_9_code, 2, some .boolean), 1, 5),
  ((⟨"CommaOrphans$LawReader", "readLine", "()Z"⟩, prog_6_method_10_code, 1, some .boolean), 0, 5),
  ((⟨"CommaOrphans$LawReader", "readChoice", "(I)Z"⟩, prog_6_method_11_code, 5, some .boolean), 1, 5),
  ((⟨"CommaOrphans$LawReader", "readClaim", "(I)Z"⟩, prog_6_method_12_code, 3, some .boolean), 1, 5),
  ((⟨"CommaOrphans$LawReader", "readOpening", "(I)Z"⟩, prog_6_method_13_code, 3, some .boolean), 1, 5),
  ((⟨"CommaOrphans$LawReader", "readSum", "()Z"⟩, prog_6_method_14_code, 5, some .boolean), 0, 5),
  ((⟨"CommaOrphans$LawReader", "readUnit", "()Z"⟩, prog_6_method_15_code, 2, some .boolean), 0, 5),
  ((⟨"CommaOrphans$LawReader", "readDivisor", "()Z"⟩, prog_6_method_16_code, 1, some .boolean), 0, 5),
  ((⟨"CommaOrphans$Press", "<init>", "(LCommaOrphans$House;)V"⟩, prog_7_method_1_code, 2, none), 1, 6),
  ((⟨"CommaOrphans$Press", "forgetPays", "()V"⟩, prog_7_method_2_code, 1, none), 0, 6),
  ((⟨"CommaOrphans$Press", "lookOver", "()V"⟩, prog_7_method_3_code, 2, none), 0, 6),
  ((⟨"CommaOrphans$Press", "lookAt", "(I)V"⟩, prog_7_method_4_code, 2, none), 1, 6),
  ((⟨"CommaOrphans$Press", "isAble", "(I)Z"⟩, prog_7_method_5_code, 2, some .boolean), 1, 6),
  ((⟨"CommaOrphans$Press", "measure", "(LCommaOrphans$Row;I)V"⟩, prog_7_method_6_code, 8, none), 2, 6),
  ((⟨"CommaOrphans$Press", "payAt", "(LCommaOrphans$Row;I)I"⟩, prog_7_method_7_code, 7, some .int), 2, 6),
  ((⟨"CommaOrphans$Press", "mostPay", "(I)I"⟩, prog_7_method_8_code, 2, some .int), 1, 6),
  ((⟨"CommaOrphans$Press", "gatherFacts", "(LCommaOrphans$Row;II)V"⟩, prog_7_method_9_code, 7, none), 3, 6),
  ((⟨"CommaOrphans$Press", "keyOfFacts", "()J"⟩, prog_7_method_10_code, 3, some .long), 0, 6),
  ((⟨"CommaOrphans$Press", "countAhead", "(LCommaOrphans$Row;II)I"⟩, prog_7_method_11_code, 5, some .int), 3, 6),
  ((⟨"CommaOrphans$Press", "isVowel", "(I)Z"⟩, prog_7_method_12_code, 1, some .boolean), 1, 6),
  ((⟨"CommaOrphans$Press", "earnsFrom", "(LCommaOrphans$Row;II)I"⟩, prog_7_method_13_code, 7, some .int), 3, 6),
  ((⟨"CommaOrphans$Press", "earnsByPage", "(I)I"⟩, prog_7_method_14_code, 2, some .int), 1, 6),
  ((⟨"CommaOrphans$Press", "earnings", "(LCommaOrphans$Row;[I)V"⟩, prog_7_method_15_code, 6, none), 2, 6),
  ((⟨"CommaOrphans$Press", "canSet", "(I)Z"⟩, prog_7_method_16_code, 3, some .boolean), 1, 6),
  ((⟨"CommaOrphans$Press", "lossByStrike", "(I)I"⟩, prog_7_method_17_code, 5, some .int), 1, 6),
  ((⟨"CommaOrphans$Press", "signsOnPage", "(I)I"⟩, prog_7_method_18_code, 5, some .int), 1, 6),
  ((⟨"CommaOrphans$Press", "printPage", "()I"⟩, prog_7_method_19_code, 6, some .int), 0, 6),
  ((⟨"CommaOrphans$Press", "misprinted", "(II)I"⟩, prog_7_method_20_code, 4, some .int), 2, 6),
  ((⟨"CommaOrphans$Press", "payInstead", "(III)I"⟩, prog_7_method_21_code, 5, some .int), 3, 6),
  ((⟨"CommaOrphans$Remedy", "<init>", "(LCommaOrphans$House;LCommaOrphans$Press;)V"⟩, prog_8_method_1_code, 3, none), 2, 7)]
def kML5 : x_ML := [
  ((⟨"CommaOrphans$Remedy", "seek", "()V"⟩, prog_8_method_2_code, 5, none), 0, 7),
  ((⟨"CommaOrphans$Remedy", "tell", "(III)V"⟩, prog_8_method_3_code, 4, none), 3, 7),
  ((⟨"CommaOrphans$Remedy", "weighNeeds", "()V"⟩, prog_8_method_4_code, 4, none), 0, 7),
  ((⟨"CommaOrphans$Remedy", "countLacking", "()I"⟩, prog_8_method_5_code, 4, some .int), 0, 7),
  ((⟨"CommaOrphans$Remedy", "isLacked", "(I)Z"⟩, prog_8_method_6_code, 3, some .boolean), 1, 7),
  ((⟨"CommaOrphans$Remedy", "feedsAll", "()Z"⟩, prog_8_method_7_code, 2, some .boolean), 0, 7),
  ((⟨"CommaOrphans$Remedy", "listChoices", "()V"⟩, prog_8_method_8_code, 7, none), 0, 7),
  ((⟨"CommaOrphans$Remedy", "setsOne", "(I)Z"⟩, prog_8_method_9_code, 6, some .boolean), 1, 7),
  ((⟨"CommaOrphans$Remedy", "choicesAt", "(I)I"⟩, prog_8_method_10_code, 2, some .int), 1, 7),
  ((⟨"CommaOrphans$Row", "<init>", "(I)V"⟩, prog_9_method_1_code, 2, none), 1, 8),
  ((⟨"CommaOrphans$Row", "has", "(I)Z"⟩, prog_9_method_2_code, 2, some .boolean), 1, 8),
  ((⟨"CommaOrphans$Row", "get", "(I)I"⟩, prog_9_method_3_code, 2, some .int), 1, 8),
  ((⟨"CommaOrphans$Row", "put", "(II)V"⟩, prog_9_method_4_code, 3, none), 2, 8),
  ((⟨"CommaOrphans$Row", "add", "(I)V"⟩, prog_9_method_5_code, 2, none), 1, 8),
  ((⟨"CommaOrphans$Row", "take", "(LCommaOrphans$Row;)V"⟩, prog_9_method_6_code, 3, none), 1, 8),
  ((⟨"CommaOrphans$Row", "holds", "(I)Z"⟩, prog_9_method_7_code, 3, some .boolean), 1, 8),
  ((⟨"CommaOrphans$Shelf", "<init>", "()V"⟩, prog_10_method_1_code, 1, none), 0, 9),
  ((⟨"CommaOrphans$Shelf", "keep", "(LCommaOrphans$House;)V"⟩, prog_10_method_2_code, 2, none), 1, 9),
  ((⟨"CommaOrphans$Shelf", "dropOldest", "()V"⟩, prog_10_method_3_code, 1, none), 0, 9),
  ((⟨"CommaOrphans$Shelf", "giveBack", "(LCommaOrphans$House;)Z"⟩, prog_10_method_4_code, 2, some .boolean), 1, 9),
  ((⟨"CommaOrphans$WordList", "<init>", "()V"⟩, prog_11_method_1_code, 1, none), 0, 10),
  ((⟨"CommaOrphans$WordList", "add", "(LCommaOrphans$Row;)Z"⟩, prog_11_method_2_code, 3, some .boolean), 1, 10),
  ((⟨"CommaOrphans$WordList", "lengthOf", "(I)I"⟩, prog_11_method_3_code, 2, some .int), 1, 10),
  ((⟨"CommaOrphans$WordList", "letter", "(II)I"⟩, prog_11_method_4_code, 4, some .int), 2, 10),
  ((⟨"CommaOrphans$WordList", "take", "(LCommaOrphans$WordList;)V"⟩, prog_11_method_5_code, 2, none), 1, 10),
  ((⟨"CommaOrphans", "<init>", "()V"⟩, prog_1_method_1_code, 1, none), 0, 11),
  ((⟨"CommaOrphans", "state", "(I)I"⟩, prog_1_method_2_code, 3, some .int), 1, 11),
  ((⟨"CommaOrphans", "apprentice", "(II)I"⟩, prog_1_method_3_code, 4, some .int), 2, 11),
  ((⟨"CommaOrphans", "own", "(II)Z"⟩, prog_1_method_4_code, 3, some .boolean), 2, 11),
  ((⟨"CommaOrphans", "set", "(III)Z"⟩, prog_1_method_5_code, 5, some .boolean), 3, 11),
  ((⟨"CommaOrphans", "feed", "(IIIII)I"⟩, prog_1_method_6_code, 6, some .int), 5, 11),
  ((⟨"CommaOrphans", "end", "(I)Z"⟩, prog_1_method_7_code, 2, some .boolean), 1, 11)]
def kML6 : x_ML := [
  ((⟨"CommaOrphans", "text", "()I"⟩, prog_1_method_8_code, 2, some .int), 0, 11),
  ((⟨"CommaOrphans", "fault", "(I)I"⟩, prog_1_method_9_code, 2, some .int), 1, 11),
  ((⟨"CommaOrphans", "page", "()I"⟩, prog_1_method_10_code, 3, some .int), 0, 11),
  ((⟨"CommaOrphans", "word", "()I"⟩, prog_1_method_11_code, 2, some .int), 0, 11),
  ((⟨"CommaOrphans", "clear", "()I"⟩, prog_1_method_12_code, 2, some .int), 0, 11),
  ((⟨"CommaOrphans", "print", "()I"⟩, prog_1_method_13_code, 1, some .int), 0, 11),
  ((⟨"CommaOrphans", "day", "()I"⟩, prog_1_method_14_code, 2, some .int), 0, 11),
  ((⟨"CommaOrphans", "of", "(II)I"⟩, prog_1_method_15_code, 3, some .int), 2, 11),
  ((⟨"CommaOrphans", "sign", "(II)I"⟩, prog_1_method_16_code, 3, some .int), 2, 11),
  ((⟨"CommaOrphans", "at", "(I)I"⟩, prog_1_method_17_code, 2, some .int), 1, 11),
  ((⟨"CommaOrphans", "pays", "(I)I"⟩, prog_1_method_18_code, 2, some .int), 1, 11),
  ((⟨"CommaOrphans", "roll", "(II)I"⟩, prog_1_method_19_code, 3, some .int), 2, 11),
  ((⟨"CommaOrphans", "fewest", "(I)I"⟩, prog_1_method_20_code, 2, some .int), 1, 11),
  ((⟨"CommaOrphans", "buy", "(II)I"⟩, prog_1_method_21_code, 3, some .int), 2, 11),
  ((⟨"CommaOrphans", "can", "()I"⟩, prog_1_method_22_code, 3, some .int), 0, 11),
  ((⟨"CommaOrphans", "hurts", "(II)I"⟩, prog_1_method_23_code, 3, some .int), 2, 11),
  ((⟨"CommaOrphans", "swap", "(I)I"⟩, prog_1_method_24_code, 2, some .int), 1, 11),
  ((⟨"CommaOrphans", "liars", "()I"⟩, prog_1_method_25_code, 3, some .int), 0, 11),
  ((⟨"CommaOrphans", "undo", "()Z"⟩, prog_1_method_26_code, 1, some .boolean), 0, 11),
  ((⟨"CommaOrphans", "image", "(Z)Z"⟩, prog_1_method_27_code, 2, some .boolean), 1, 11),
  ((⟨"CommaOrphans", "look", "(I)I"⟩, prog_1_method_28_code, 2, some .int), 1, 11),
  ((⟨"CommaOrphans", "houseChanged", "()V"⟩, prog_1_method_29_code, 1, none), 0, 11),
  ((⟨"CommaOrphans", "lawChanged", "()V"⟩, prog_1_method_30_code, 1, none), 0, 11),
  ((⟨"CommaOrphans", "forgetThoughts", "()V"⟩, prog_1_method_31_code, 1, none), 0, 11),
  ((⟨"CommaOrphans", "wrongPlaceOfPage", "()I"⟩, prog_1_method_32_code, 2, some .int), 0, 11),
  ((⟨"CommaOrphans", "addBytes", "(I)V"⟩, prog_1_method_33_code, 2, none), 1, 11),
  ((⟨"CommaOrphans", "within", "(II)Z"⟩, prog_1_method_34_code, 2, some .boolean), 2, 11),
  ((⟨"CommaOrphans", "isSign", "(I)Z"⟩, prog_1_method_35_code, 1, some .boolean), 1, 11),
  ((⟨"CommaOrphans", "isLetter", "(I)Z"⟩, prog_1_method_36_code, 1, some .boolean), 1, 11),
  ((⟨"CommaOrphans", "isSmallLetter", "(I)Z"⟩, prog_1_method_37_code, 1, some .boolean), 1, 11),
  ((⟨"CommaOrphans", "isLetterOfText", "(I)Z"⟩, prog_1_method_38_code, 1, some .boolean), 1, 11),
  ((⟨"CommaOrphans", "isDigit", "(I)Z"⟩, prog_1_method_39_code, 1, some .boolean), 1, 11)]
def kML7 : x_ML := [
  ((⟨"CommaOrphans", "isBlank", "(I)Z"⟩, prog_1_method_40_code, 1, some .boolean), 1, 11),
  ((⟨"CommaOrphans", "signOf", "(I)I"⟩, prog_1_method_41_code, 1, some .int), 1, 11)]
/-- all methods; a String's own from 1000 on -/
def kML : x_ML := kML0 ++ (kML1 ++ (kML2 ++ (kML3 ++ (kML4 ++ (kML5 ++ (kML6 ++ (kML7 ++ (List.replicate 774 (x_m0, 0, 0) ++ [((⟨"java/lang/String", "length", "()I"⟩, prog_16_method_54_code, 1, some .int), 0, 99), ((⟨"java/lang/String", "charAt", "(I)C"⟩, prog_16_method_56_code, 2, some .char), 1, 99), ((⟨"java/lang/String", "indexOf", "(I)I"⟩, prog_16_method_79_code, 2, some .int), 1, 99)]))))))))
/-- the methods that are called -/
def kMU : List Nat := (List.range 226).filter (fun j => !(j == 87)) ++ [1000, 1001, 1002]
def kPL : x_PL := [
  ("CommaOrphansModel", [(1, .pop), (7, .invokeinterface 0 1), (13, .invokeinterface 0 2), (16, .invokeinterface 0 5), (19, .invokeinterface 0 6), (22, .invokeinterface 0 7), (25, .invokeinterface 0 8), (28, .invokeinterface 0 9), (31, .invokeinterface 0 10), (34, .invokeinterface 0 14), (37, .invokeinterface 0 16), (40, .invokeinterface 0 18), (43, .invokeinterface 0 19), (46, .invokeinterface 0 20), (49, .invokeinterface 0 26), (52, .invokeinterface 0 28), (55, .invokeinterface 0 29), (58, .invokeinterface 0 30), (61, .invokeinterface 0 31), (64, .invokeinterface 0 32), (67, .invokeinterface 0 35), (70, .invokeinterface 0 40), (74, .invokeinterface 0 41), (77, .invokeinterface 0 42), (80, .invokeinterface 0 43), (83, .invokeinterface 0 44), (86, .invokeinterface 0 48), (89, .invokeinterface 0 52), (92, .invokeinterface 0 0), (95, .invokeinterface 0 3), (98, .iconst 1664525), (99, .iconst 1013904223), (100, .invokeinterface 0 4), (103, .iconst 99999), (104, .invokevirtual 1), (108, .invokevirtual 7), (112, .invokevirtual 6), (115, .invokevirtual 10), (118, .invokeinterface 0 11), (121, .invokevirtual 12), (125, .invokeinterface 0 21), (128, .invokevirtual 14), (131, .invokeinterface 0 13), (134, .invokeinterface 0 17), (137, .invokeinterface 0 15), (140, .invokevirtual 19), (144, .invokeinterface 0 22), (147, .invokevirtual 22), (150, .invokeinterface 0 23), (153, .invokeinterface 0 24), (156, .invokeinterface 0 25), (159, .invokevirtual 23), (162, .invokevirtual 26), (166, .invokevirtual 24), (169, .invokevirtual 25), (172, .invokeinterface 0 37), (175, .invokeinterface 0 38), (178, .invokeinterface 0 33), (181, .invokevirtual 28), (184, .invokevirtual 31), (188, .invokevirtual 27), (191, .invokevirtual 32), (195, .invokevirtual 30), (198, .invokevirtual 33), (201, .invokevirtual 34), (204, .invokeinterface 0 36), (207, .invokeinterface 0 34), (210, .invokevirtual 29), (213, .invokevirtual 36), (216, .invokevirtual 35), (219, .invokevirtual 37), (222, .invokevirtual 38), (225, .invokeinterface 0 39), (228, .invokevirtual 39), (231, .invokeinterface 0 27), (234, .invokevirtual 42), (238, .invokevirtual 43), (241, .invokevirtual 45), (244, .invokevirtual 13), (247, .invokevirtual 46), (250, .invokevirtual 47), (253, .invokevirtual 48), (256, .invokeinterface 0 12), (259, .invokevirtual 44), (262, .invokevirtual 49), (265, .invokevirtual 52), (269, .invokevirtual 2), (272, .invokevirtual 18), (275, .invokevirtual 5), (278, .invokevirtual 51), (281, .invokevirtual 53), (284, .invokevirtual 50), (287, .invokevirtual 56), (290, .invokevirtual 57), (293, .invokevirtual 63), (296, .invokevirtual 64), (300, .invokeinterface 0 45), (303, .invokeinterface 0 46), (306, .invokevirtual 65), (309, .invokevirtual 66), (313, .invokevirtual 68), (316, .invokevirtual 69), (320, .invokeinterface 0 47), (323, .invokevirtual 70), (327, .iconst (-100000)), (328, .invokevirtual 73), (331, .invokevirtual 74), (334, .invokevirtual 76), (337, .invokevirtual 77), (340, .invokeinterface 0 51), (343, .invokeinterface 0 49), (347, .invokevirtual 80), (350, .invokeinterface 0 50), (353, .invokevirtual 82), (356, .invokevirtual 81)]),
  ("CommaOrphansLaw", [(7, .new 11), (9, .invokespecial 185), (10, .new 0), (12, .invokespecial 0), (13, .invokevirtual 186), (17, .invokevirtual 4), (18, .invokevirtual 187), (22, .invokevirtual 8), (23, .invokevirtual 188), (27, .invokevirtual 9), (28, .invokevirtual 189), (32, .invokevirtual 11), (33, .invokevirtual 190), (37, .invokevirtual 20), (38, .invokevirtual 191), (42, .invokevirtual 21), (43, .invokevirtual 192), (47, .invokevirtual 40), (48, .invokevirtual 193), (51, .invokevirtual 41), (52, .invokevirtual 194), (55, .invokevirtual 15), (56, .invokevirtual 195), (59, .invokevirtual 16), (60, .invokevirtual 196), (63, .invokevirtual 17), (64, .invokevirtual 197), (67, .invokevirtual 54), (68, .invokevirtual 198), (71, .invokevirtual 55), (72, .invokevirtual 199), (75, .invokevirtual 58), (76, .invokevirtual 200), (79, .invokevirtual 59), (80, .invokevirtual 201), (83, .invokevirtual 60), (84, .invokevirtual 202), (87, .invokevirtual 61), (88, .invokevirtual 203), (91, .invokevirtual 62), (92, .invokevirtual 204), (95, .invokevirtual 67), (96, .invokevirtual 205), (99, .invokevirtual 71), (100, .invokevirtual 206), (103, .invokevirtual 72), (104, .invokevirtual 207), (107, .invokevirtual 75), (108, .invokevirtual 208), (111, .invokevirtual 78), (112, .invokevirtual 209), (115, .invokevirtual 79), (116, .invokevirtual 210), (120, .invokevirtual 3), (121, .invokevirtual 211), (125, .invokevirtual 83), (126, .invokevirtual 212), (129, .invokevirtual 84)]),
  ("CommaOrphans$Barter", [(3, .pop), (9, .invokeinterface 1 1), (15, .invokeinterface 1 4), (18, .invokeinterface 1 2), (22, .invokeinterface 1 3), (26, .invokeinterface 1 0), (30, .invokestatic 86), (36, .invokevirtual 140), (41, .invokeinterface 3 9), (47, .invokevirtual 152), (51, .invokevirtual 175), (57, .invokevirtual 91), (61, .invokevirtual 90), (65, .invokeinterface 3 6), (68, .invokevirtual 98), (71, .invokevirtual 92), (75, .invokevirtual 150), (79, .invokevirtual 141)]),
  ("CommaOrphans$Basket", [(3, .pop), (9, .invokeinterface 2 0), (15, .invokeinterface 2 1), (19, .new 8), (21, .invokespecial 169), (24, .invokeinterface 2 4), (28, .invokeinterface 2 2), (32, .invokeinterface 2 3), (36, .invokestatic 86), (42, .invokevirtual 140), (47, .invokeinterface 3 10), (53, .invokeinterface 10 2), (58, .invokevirtual 95), (62, .invokeinterface 8 1), (65, .invokevirtual 96), (69, .invokevirtual 173), (72, .invokevirtual 182), (76, .invokevirtual 183), (79, .invokevirtual 150)]),
  ("CommaOrphans$House", [(3, .pop), (9, .invokeinterface 3 1), (15, .invokeinterface 3 2), (18, .invokeinterface 3 3), (21, .invokeinterface 3 4), (24, .invokeinterface 3 5), (27, .invokeinterface 3 6), (30, .invokeinterface 3 7), (33, .invokeinterface 3 8), (36, .new 8), (38, .invokespecial 169), (41, .invokeinterface 3 9), (45, .new 10), (47, .invokespecial 180), (48, .invokeinterface 3 10), (52, .new 4), (54, .invokespecial 110), (55, .invokeinterface 3 11), (59, .invokeinterface 3 12), (62, .invokestatic 86), (68, .invokeinterface 3 0), (72, .invokestatic 218), (76, .invokeinterface 3 16), (79, .invokestatic 100), (83, .iconst 99999), (84, .invokestatic 219), (88, .invokevirtual 98), (91, .iconst 1664525), (92, .invokeinterface 3 17), (95, .iconst 1013904223), (96, .invokedynamic 1), (102, .invokeinterface 3 13), (105, .invokeinterface 3 15), (108, .invokedynamic 2), (114, .invokevirtual 174), (118, .invokevirtual 184), (121, .invokevirtual 116), (124, .invokeinterface 3 14)]),
  ("CommaOrphans$Law", [(3, .pop), (9, .invokeinterface 4 0), (15, .invokeinterface 4 1), (18, .invokeinterface 4 2), (21, .invokeinterface 4 3), (25, .invokeinterface 4 4), (28, .invokeinterface 4 5), (31, .invokedynamic 2), (37, .invokevirtual 117), (41, .invokevirtual 121), (45, .invokedynamic 1), (51, .invokedynamic 0), (54, .invokevirtual 120), (57, .jsr 1000000)]),
  ("CommaOrphans$LawReader", [(3, .pop), (9, .new 4), (11, .invokespecial 110), (12, .invokeinterface 5 0), (18, .invokeinterface 5 2), (22, .invokeinterface 5 4), (26, .invokeinterface 5 5), (29, .invokeinterface 5 3), (33, .invokevirtual 111), (36, .invokeinterface 5 1), (39, .invokevirtual 124), (42, .invokeinterface 5 6), (45, .invokeinterface 5 7), (48, .invokevirtual 131), (52, .invokeinterface 8 1), (57, .invokevirtual 171), (61, .invokestatic 224), (65, .invokevirtual 125), (68, .invokevirtual 126), (72, .invokestatic 222), (75, .invokestatic 223), (78, .invokevirtual 127), (81, .ldc 0), (83, .checkcast 1002), (88, .ldc 1), (90, .checkcast 1000), (93, .invokevirtual 128), (97, .checkcast 1001), (101, .invokevirtual 130), (104, .invokeinterface 4 4), (107, .invokevirtual 129), (110, .invokevirtual 135), (113, .invokevirtual 114), (116, .invokevirtual 132), (119, .invokevirtual 115), (122, .invokevirtual 133), (125, .invokevirtual 112), (129, .invokevirtual 134), (132, .invokevirtual 136), (135, .invokevirtual 137), (138, .invokeinterface 4 5)]),
  ("CommaOrphans$Press", [(3, .pop), (9, .invokeinterface 6 1), (15, .invokeinterface 6 2), (19, .invokeinterface 6 3), (22, .invokeinterface 6 4), (25, .invokeinterface 6 5), (29, .invokeinterface 6 6), (32, .invokeinterface 6 7), (35, .invokeinterface 6 0), (39, .jsr (-1)), (41, .invokestatic 85), (47, .invokevirtual 101), (53, .invokestatic 219), (56, .invokeinterface 3 11), (60, .invokevirtual 113), (65, .invokeinterface 8 1), (71, .invokedynamic 1), (77, .invokedynamic 0), (80, .invokevirtual 171), (84, .invokestatic 220), (87, .invokevirtual 142), (90, .invokeinterface 4 4), (93, .invokevirtual 146), (97, .invokevirtual 118), (101, .invokevirtual 147), (105, .jsr 127), (107, .invokeinterface 3 15), (110, .invokevirtual 119), (113, .invokeinterface 3 6), (116, .invokestatic 148), (120, .invokestatic 149), (123, .invokeinterface 8 0), (126, .invokevirtual 143), (130, .invokevirtual 144), (134, .invokevirtual 140), (137, .invokeinterface 3 9), (141, .invokevirtual 150), (144, .invokestatic 86), (147, .invokeinterface 3 10), (151, .invokevirtual 182), (156, .invokevirtual 183), (159, .invokevirtual 98), (162, .invokevirtual 152), (166, .invokeinterface 3 3), (169, .invokevirtual 157), (172, .invokevirtual 158), (176, .invokevirtual 108), (180, .invokeinterface 3 14), (183, .invokeinterface 3 16), (186, .invokevirtual 102), (189, .invokevirtual 106), (192, .invokevirtual 172)]),
  ("CommaOrphans$Remedy", [(3, .pop), (9, .invokeinterface 7 1), (15, .new 8), (17, .invokespecial 169), (20, .invokeinterface 7 4), (24, .invokeinterface 7 5), (27, .invokeinterface 7 6), (30, .invokeinterface 7 7), (33, .invokeinterface 7 8), (36, .invokeinterface 7 9), (39, .invokeinterface 7 10), (42, .invokeinterface 7 2), (46, .invokeinterface 7 3), (50, .invokeinterface 7 0), (54, .invokestatic 86), (60, .invokeinterface 3 9), (65, .invokeinterface 8 1), (69, .invokevirtual 140), (74, .invokevirtual 174), (78, .invokevirtual 162), (81, .invokevirtual 166), (84, .invokevirtual 165), (88, .invokevirtual 167), (92, .invokevirtual 161), (96, .invokevirtual 171), (100, .invokevirtual 168), (103, .invokevirtual 172), (107, .invokevirtual 145), (110, .invokevirtual 98), (113, .invokeinterface 3 3), (116, .invokevirtual 105), (119, .invokeinterface 3 2), (122, .invokevirtual 142), (125, .invokeinterface 3 6), (128, .invokedynamic 0), (134, .invokeinterface 7 11), (137, .invokevirtual 150), (141, .invokevirtual 152), (145, .invokestatic 219), (148, .invokestatic 220), (151, .invokevirtual 163), (155, .invokevirtual 164)]),
  ("CommaOrphans$Row", [(3, .pop), (9, .invokedynamic 0), (15, .invokeinterface 8 0), (21, .invokeinterface 8 1), (25, .invokevirtual 170), (29, .invokedynamic 1), (32, .invokevirtual 171)]),
  ("CommaOrphans$Shelf", [(3, .pop), (9, .invokeinterface 9 0), (15, .invokeinterface 9 1), (18, .invokeinterface 9 2), (21, .invokeinterface 9 3), (24, .invokeinterface 9 4), (27, .invokeinterface 9 5), (31, .invokevirtual 178), (34, .invokeinterface 3 1), (39, .invokedynamic 2), (45, .invokeinterface 3 8), (46, .invokeinterface 3 13), (48, .invokeinterface 3 14), (50, .invokeinterface 3 17)]),
  ("CommaOrphans$WordList", [(3, .pop), (9, .invokeinterface 10 0), (15, .invokeinterface 10 1), (18, .invokeinterface 10 2), (22, .invokeinterface 8 1), (27, .invokevirtual 171), (31, .invokestatic 221), (35, .invokestatic 225), (38, .invokedynamic 2)]),
  ("CommaOrphans", [(1, .pop), (7, .new 3), (9, .invokespecial 97), (10, .invokeinterface 11 0), (16, .invokeinterface 11 1), (19, .new 8), (21, .invokespecial 169), (24, .invokeinterface 11 3), (28, .new 5), (30, .invokespecial 122), (33, .invokeinterface 11 4), (37, .new 9), (39, .invokespecial 176), (40, .invokeinterface 11 5), (44, .new 6), (46, .invokespecial 138), (49, .invokeinterface 11 6), (53, .new 7), (55, .invokespecial 159), (58, .invokeinterface 11 7), (62, .new 2), (64, .invokespecial 93), (65, .invokeinterface 11 8), (69, .new 1), (71, .invokespecial 88), (72, .invokeinterface 11 9), (76, .invokeinterface 3 17), (80, .invokeinterface 9 5), (83, .invokeinterface 3 0), (86, .iconst 99999), (87, .invokestatic 218), (91, .invokeinterface 3 1), (95, .invokeinterface 3 2), (98, .invokeinterface 3 3), (101, .invokeinterface 3 4), (104, .invokeinterface 3 5), (107, .invokevirtual 213), (110, .invokestatic 219), (114, .invokevirtual 98), (117, .invokeinterface 3 6), (120, .invokevirtual 99), (124, .invokeinterface 8 1), (127, .invokevirtual 217), (130, .invokevirtual 123), (134, .invokeinterface 3 11), (138, .invokeinterface 5 0), (141, .invokevirtual 116), (147, .invokevirtual 214), (150, .invokeinterface 4 4), (153, .invokeinterface 5 1), (156, .invokeinterface 5 2), (159, .invokevirtual 216), (163, .invokeinterface 3 9), (166, .invokevirtual 171), (170, .invokestatic 225), (173, .invokevirtual 173), (176, .invokevirtual 215), (179, .invokeinterface 3 10), (183, .invokevirtual 181), (188, .invokeinterface 10 2), (189, .invokevirtual 177), (192, .invokevirtual 156), (195, .invokeinterface 3 15), (198, .invokevirtual 107), (201, .invokevirtual 103), (204, .invokevirtual 151), (207, .invokeinterface 3 7), (210, .invokeinterface 3 8), (213, .invokevirtual 170), (214, .invokevirtual 140), (217, .invokevirtual 143), (221, .invokevirtual 144), (225, .invokeinterface 3 13), (228, .invokeinterface 3 12), (231, .invokeinterface 7 0), (235, .invokevirtual 160), (238, .invokeinterface 7 1), (241, .invokeinterface 2 0), (244, .invokevirtual 94), (246, .invokeinterface 2 1), (247, .invokevirtual 153), (250, .iconst (-100000)), (251, .invokevirtual 154), (254, .invokevirtual 155), (257, .invokeinterface 1 0), (258, .invokevirtual 89), (259, .invokeinterface 1 1), (260, .invokevirtual 104), (263, .invokevirtual 179), (267, .invokevirtual 109), (269, .invokeinterface 11 2), (272, .invokeinterface 3 14), (275, .invokeinterface 3 16), (278, .invokevirtual 139), (281, .invokestatic 221)])]
def kX : x_X := ([("CommaOrphans$LawReader", 81, ";+-*/()<=>", 0), ("CommaOrphans$LawReader", 88, "pay  when or   and  not  sign placelong used vowelownerday  left first", 1)], 2, [10, 70], [[59, 43, 45, 42, 47, 40, 41, 60, 61, 62], [112, 97, 121, 32, 32, 119, 104, 101, 110, 32, 111, 114, 32, 32, 32, 97, 110, 100, 32, 32, 110, 111, 116, 32, 32, 115, 105, 103, 110, 32, 112, 108, 97, 99, 101, 108, 111, 110, 103, 32, 117, 115, 101, 100, 32, 118, 111, 119, 101, 108, 111, 119, 110, 101, 114, 100, 97, 121, 32, 32, 108, 101, 102, 116, 32, 102, 105, 114, 115, 116]], [("CommaOrphans", 39, ⟨"CommaOrphans$Shelf", "<init>", "()V"⟩, "CommaOrphans"), ("CommaOrphans$House", 47, ⟨"CommaOrphans$WordList", "<init>", "()V"⟩, "CommaOrphans"), ("CommaOrphans$House", 54, ⟨"CommaOrphans$Law", "<init>", "()V"⟩, "CommaOrphans"), ("CommaOrphans$House", 72, ⟨"CommaOrphans", "within", "(II)Z"⟩, "CommaOrphans"), ("CommaOrphans$House", 84, ⟨"CommaOrphans", "isSign", "(I)Z"⟩, "CommaOrphans"), ("CommaOrphans$LawReader", 11, ⟨"CommaOrphans$Law", "<init>", "()V"⟩, "CommaOrphans"), ("CommaOrphans$LawReader", 61, ⟨"CommaOrphans", "isBlank", "(I)Z"⟩, "CommaOrphans"), ("CommaOrphans$LawReader", 72, ⟨"CommaOrphans", "isLetterOfText", "(I)Z"⟩, "CommaOrphans"), ("CommaOrphans$LawReader", 75, ⟨"CommaOrphans", "isDigit", "(I)Z"⟩, "CommaOrphans"), ("CommaOrphans$Press", 53, ⟨"CommaOrphans", "isSign", "(I)Z"⟩, "CommaOrphans"), ("CommaOrphans$Press", 84, ⟨"CommaOrphans", "isLetter", "(I)Z"⟩, "CommaOrphans"), ("CommaOrphans$Remedy", 145, ⟨"CommaOrphans", "isSign", "(I)Z"⟩, "CommaOrphans"), ("CommaOrphans$Remedy", 148, ⟨"CommaOrphans", "isLetter", "(I)Z"⟩, "CommaOrphans"), ("CommaOrphans$WordList", 31, ⟨"CommaOrphans", "isSmallLetter", "(I)Z"⟩, "CommaOrphans"), ("CommaOrphans$WordList", 35, ⟨"CommaOrphans", "signOf", "(I)I"⟩, "CommaOrphans")], [("java/lang/String", "COMPACT_STRINGS", "Z", .int 1), ("jdk/internal/util/Preconditions", "SIOOBE_FORMATTER", "Ljava/util/function/BiFunction;", .null)])
