/-! names of the classes, methods, links (by program: wip/whole/gen1.py) -/
def nT0 : u_T := fun k => match k with
  | 0 => ("ThrownBack$Law", "steps", "[I", true)
  | 1 => ("ThrownBack$Law", "starts", "[I", true)
  | 2 => ("ThrownBack$Law", "stack", "[I", true)
  | _ => ("ThrownBack$Law", "size", "I", false)
def nty0 : Nat → FieldType := fun k => match k with
  | 0 => .array .int
  | 1 => .array .int
  | 2 => .array .int
  | _ => .int
def nT1 : u_T := fun k => match k with
  | _ => ("ThrownBack$Lots", "last", "J", false)
def nty1 : Nat → FieldType := fun k => match k with
  | _ => .long
def nT2 : u_T := fun k => match k with
  | 0 => ("ThrownBack$Owner", "kind", "I", false)
  | 1 => ("ThrownBack$Owner", "more", "I", false)
  | 2 => ("ThrownBack$Owner", "wall", "I", false)
  | 3 => ("ThrownBack$Owner", "heap", "I", false)
  | 4 => ("ThrownBack$Owner", "bay", "I", false)
  | 5 => ("ThrownBack$Owner", "at", "I", false)
  | 6 => ("ThrownBack$Owner", "lifted", "I", false)
  | 7 => ("ThrownBack$Owner", "minutes", "I", false)
  | _ => ("ThrownBack$Owner", "blocked", "I", false)
def nty2 : Nat → FieldType := fun k => match k with
  | 0 => .int
  | 1 => .int
  | 2 => .int
  | 3 => .int
  | 4 => .int
  | 5 => .int
  | 6 => .int
  | 7 => .int
  | _ => .int
def nT3 : u_T := fun k => match k with
  | 0 => ("ThrownBack$Reader", "tape", "[I", true)
  | 1 => ("ThrownBack$Reader", "size", "I", false)
  | 2 => ("ThrownBack$Reader", "place", "I", false)
  | 3 => ("ThrownBack$Reader", "start", "I", false)
  | 4 => ("ThrownBack$Reader", "token", "I", false)
  | 5 => ("ThrownBack$Reader", "value", "I", false)
  | _ => ("ThrownBack$Reader", "law", "LThrownBack$Law;", false)
def nty3 : Nat → FieldType := fun k => match k with
  | 0 => .array .int
  | 1 => .int
  | 2 => .int
  | 3 => .int
  | 4 => .int
  | 5 => .int
  | _ => .object "ThrownBack$Law"
def nT4 : u_T := fun k => match k with
  | 0 => ("ThrownBack$Road", "owners", "[LThrownBack$Owner;", true)
  | 1 => ("ThrownBack$Road", "ownerCount", "I", false)
  | 2 => ("ThrownBack$Road", "lies", "[I", true)
  | 3 => ("ThrownBack$Road", "passHours", "[I", true)
  | 4 => ("ThrownBack$Road", "passSides", "[I", true)
  | 5 => ("ThrownBack$Road", "passCount", "I", false)
  | 6 => ("ThrownBack$Road", "hour", "I", false)
  | 7 => ("ThrownBack$Road", "limit", "I", false)
  | 8 => ("ThrownBack$Road", "law", "I", false)
  | 9 => ("ThrownBack$Road", "lost", "I", false)
  | _ => ("ThrownBack$Road", "facts", "[I", true)
def nty4 : Nat → FieldType := fun k => match k with
  | 0 => .array (.object "ThrownBack$Owner")
  | 1 => .int
  | 2 => .array .int
  | 3 => .array .int
  | 4 => .array .int
  | 5 => .int
  | 6 => .int
  | 7 => .int
  | 8 => .int
  | 9 => .int
  | _ => .array .int
def nT5 : u_T := fun k => match k with
  | 0 => ("ThrownBack$Sheet", "sort", "I", false)
  | 1 => ("ThrownBack$Sheet", "size", "I", false)
  | _ => ("ThrownBack$Sheet", "row", "[I", true)
def nty5 : Nat → FieldType := fun k => match k with
  | 0 => .int
  | 1 => .int
  | _ => .array .int
def nT6 : u_T := fun k => match k with
  | 0 => ("ThrownBack", "real", "LThrownBack$Road;", true)
  | 1 => ("ThrownBack", "thought", "LThrownBack$Road;", true)
  | 2 => ("ThrownBack", "kept", "LThrownBack$Road;", true)
  | 3 => ("ThrownBack", "isKept", "Z", false)
  | 4 => ("ThrownBack", "reader", "LThrownBack$Reader;", true)
  | 5 => ("ThrownBack", "texts", "[LThrownBack$Law;", true)
  | 6 => ("ThrownBack", "textCount", "I", false)
  | 7 => ("ThrownBack", "sheets", "[LThrownBack$Sheet;", true)
  | _ => ("ThrownBack", "lots", "LThrownBack$Lots;", true)
def nty6 : Nat → FieldType := fun k => match k with
  | 0 => .object "ThrownBack$Road"
  | 1 => .object "ThrownBack$Road"
  | 2 => .object "ThrownBack$Road"
  | 3 => .boolean
  | 4 => .object "ThrownBack$Reader"
  | 5 => .array (.object "ThrownBack$Law")
  | 6 => .int
  | 7 => .array (.object "ThrownBack$Sheet")
  | _ => .object "ThrownBack$Lots"
def nT7 : u_T := fun k => match k with
  | 0 => ("ThrownBackModel", "owners", "I", false)
  | 1 => ("ThrownBackModel", "kind", "[I", true)
  | 2 => ("ThrownBackModel", "moreOf", "[I", true)
  | 3 => ("ThrownBackModel", "rows", "[I", true)
  | 4 => ("ThrownBackModel", "road", "[I", true)
  | 5 => ("ThrownBackModel", "passes", "I", false)
  | 6 => ("ThrownBackModel", "passHours", "[I", true)
  | 7 => ("ThrownBackModel", "passSides", "[I", true)
  | 8 => ("ThrownBackModel", "hour0", "I", false)
  | 9 => ("ThrownBackModel", "limit", "I", false)
  | 10 => ("ThrownBackModel", "tape", "[I", true)
  | 11 => ("ThrownBackModel", "taped", "I", false)
  | 12 => ("ThrownBackModel", "codes", "[I", true)
  | 13 => ("ThrownBackModel", "starts", "[I", true)
  | 14 => ("ThrownBackModel", "texts", "I", false)
  | 15 => ("ThrownBackModel", "rule", "I", false)
  | 16 => ("ThrownBackModel", "hasImage", "Z", false)
  | 17 => ("ThrownBackModel", "imageRows", "[I", true)
  | 18 => ("ThrownBackModel", "imageHeld", "[I", true)
  | 19 => ("ThrownBackModel", "sheetSort", "[I", true)
  | 20 => ("ThrownBackModel", "sheetSize", "[I", true)
  | 21 => ("ThrownBackModel", "cells", "[I", true)
  | 22 => ("ThrownBackModel", "law", "[I", true)
  | 23 => ("ThrownBackModel", "at", "I", false)
  | 24 => ("ThrownBackModel", "begun", "I", false)
  | 25 => ("ThrownBackModel", "token", "I", false)
  | 26 => ("ThrownBackModel", "value", "I", false)
  | 27 => ("ThrownBackModel", "words", "[I", true)
  | 28 => ("ThrownBackModel", "held", "[I", true)
  | 29 => ("ThrownBackModel", "heldMany", "I", false)
  | 30 => ("ThrownBackModel", "opens", "I", false)
  | 31 => ("ThrownBackModel", "out", "I", false)
  | 32 => ("ThrownBackModel", "stack", "[I", true)
  | 33 => ("ThrownBackModel", "named", "[I", true)
  | 34 => ("ThrownBackModel", "lost", "I", false)
  | 35 => ("ThrownBackModel", "minutesOf", "[I", true)
  | 36 => ("ThrownBackModel", "blockedOf", "[I", true)
  | 37 => ("ThrownBackModel", "kept", "[I", true)
  | 38 => ("ThrownBackModel", "keptHour", "I", false)
  | 39 => ("ThrownBackModel", "lastWalls", "[I", true)
  | 40 => ("ThrownBackModel", "lastHeap", "I", false)
  | _ => ("ThrownBackModel", "keptSides", "[I", true)
def nty7 : Nat → FieldType := fun k => match k with
  | 0 => .int
  | 1 => .array .int
  | 2 => .array .int
  | 3 => .array .int
  | 4 => .array .int
  | 5 => .int
  | 6 => .array .int
  | 7 => .array .int
  | 8 => .int
  | 9 => .int
  | 10 => .array .int
  | 11 => .int
  | 12 => .array .int
  | 13 => .array .int
  | 14 => .int
  | 15 => .int
  | 16 => .boolean
  | 17 => .array .int
  | 18 => .array .int
  | 19 => .array .int
  | 20 => .array .int
  | 21 => .array .int
  | 22 => .array .int
  | 23 => .int
  | 24 => .int
  | 25 => .int
  | 26 => .int
  | 27 => .array .int
  | 28 => .array .int
  | 29 => .int
  | 30 => .int
  | 31 => .int
  | 32 => .array .int
  | 33 => .array .int
  | 34 => .int
  | 35 => .array .int
  | 36 => .array .int
  | 37 => .array .int
  | 38 => .int
  | 39 => .array .int
  | 40 => .int
  | _ => .array .int
def cnl : List String := ["ThrownBack$Law", "ThrownBack$Lots", "ThrownBack$Owner", "ThrownBack$Reader", "ThrownBack$Road", "ThrownBack$Sheet", "ThrownBack", "ThrownBackModel", "java/lang/String", "ThrownBackLaw", "java/lang/StringLatin1", "java/lang/Math", "jdk/internal/util/Preconditions"]
def cn (c : Nat) : String := cnl.getD c ""
abbrev mcl : List vw_C := [("ThrownBack$Law", nT0, 4), ("ThrownBack$Lots", nT1, 1), ("ThrownBack$Owner", nT2, 9), ("ThrownBack$Reader", nT3, 7), ("ThrownBack$Road", nT4, 11), ("ThrownBack$Sheet", nT5, 3), ("ThrownBack", nT6, 9), ("ThrownBackModel", nT7, 42)]
def nTT (a : Nat) : u_T := match a with
  | 0 => nT0
  | 1 => nT1
  | 2 => nT2
  | 3 => nT3
  | 4 => nT4
  | 5 => nT5
  | 6 => nT6
  | _ => nT7
def nNN (a : Nat) : Nat := match a with
  | 0 => 4
  | 1 => 1
  | 2 => 9
  | 3 => 7
  | 4 => 11
  | 5 => 3
  | 6 => 9
  | _ => 42
def nYY (a : Nat) : Nat → FieldType := match a with
  | 0 => nty0
  | 1 => nty1
  | 2 => nty2
  | 3 => nty3
  | 4 => nty4
  | 5 => nty5
  | 6 => nty6
  | _ => nty7
abbrev mE : Type := Nat × MethodName × ByteArray × Nat × Option FieldType
def mtl_0 : List mE := [(9, ⟨"ThrownBackLaw", "law", "([I)Z"⟩, code, 4, (some .boolean)), (8, ⟨"java/lang/String", "length", "()I"⟩, prog_12_method_54_code, 1, (some .int)), (8, ⟨"java/lang/String", "charAt", "(I)C"⟩, prog_12_method_56_code, 2, (some .char)), (8, ⟨"java/lang/String", "indexOf", "(I)I"⟩, prog_12_method_79_code, 2, (some .int)), (8, ⟨"java/lang/String", "indexOf", "(II)I"⟩, prog_12_method_80_code, 3, (some .int)), (8, ⟨"java/lang/String", "coder", "()B"⟩, prog_12_method_152_code, 1, (some .byte)), (8, ⟨"java/lang/String", "isLatin1", "()Z"⟩, prog_12_method_154_code, 1, (some .boolean)), (8, ⟨"java/lang/String", "checkIndex", "(II)V"⟩, prog_12_method_155_code, 2, none), (10, ⟨"java/lang/StringLatin1", "charAt", "([BI)C"⟩, prog_13_method_2_code, 2, (some .char)), (10, ⟨"java/lang/StringLatin1", "canEncode", "(I)Z"⟩, prog_13_method_4_code, 1, (some .boolean)), (10, ⟨"java/lang/StringLatin1", "indexOf", "([BIII)I"⟩, prog_13_method_22_code, 4, (some .int)), (10, ⟨"java/lang/StringLatin1", "indexOfChar", "([BIII)I"⟩, prog_13_method_23_code, 6, (some .int)), (12, ⟨"jdk/internal/util/Preconditions", "checkIndex", "(IILjava/util/function/BiFunction;)I"⟩, prog_16_method_11_code, 3, (some .int)), (11, ⟨"java/lang/Math", "max", "(II)I"⟩, prog_11_method_65_code, 2, (some .int)), (11, ⟨"java/lang/Math", "min", "(II)I"⟩, prog_11_method_69_code, 2, (some .int)), (0, ⟨"ThrownBack$Law", "<init>", "()V"⟩, prog_2_method_1_code, 1, none), (0, ⟨"ThrownBack$Law", "clear", "()V"⟩, prog_2_method_2_code, 1, none), (0, ⟨"ThrownBack$Law", "add", "(I)V"⟩, prog_2_method_3_code, 2, none), (0, ⟨"ThrownBack$Law", "endPart", "(I)V"⟩, prog_2_method_4_code, 2, none), (0, ⟨"ThrownBack$Law", "says", "(I[I)I"⟩, prog_2_method_5_code, 7, (some .int)), (0, ⟨"ThrownBack$Law", "isOfOne", "(I)Z"⟩, prog_2_method_6_code, 1, (some .boolean)), (0, ⟨"ThrownBack$Law", "joined", "(III)I"⟩, prog_2_method_7_code, 3, (some .int)), (1, ⟨"ThrownBack$Lots", "<init>", "()V"⟩, prog_3_method_1_code, 1, none), (1, ⟨"ThrownBack$Lots", "begin", "(I)V"⟩, prog_3_method_2_code, 2, none), (1, ⟨"ThrownBack$Lots", "next", "(I)I"⟩, prog_3_method_3_code, 2, (some .int)), (2, ⟨"ThrownBack$Owner", "<init>", "()V"⟩, prog_4_method_1_code, 1, none), (2, ⟨"ThrownBack$Owner", "begin", "(III)V"⟩, prog_4_method_2_code, 4, none), (2, ⟨"ThrownBack$Owner", "become", "(LThrownBack$Owner;)V"⟩, prog_4_method_3_code, 2, none), (2, ⟨"ThrownBack$Owner", "number", "(I)I"⟩, prog_4_method_4_code, 2, (some .int)), (2, ⟨"ThrownBack$Owner", "change", "(II)V"⟩, prog_4_method_5_code, 3, none)]
def mtl_1 : List mE := [(2, ⟨"ThrownBack$Owner", "getsBefore", "(I)I"⟩, prog_4_method_6_code, 3, (some .int)), (2, ⟨"ThrownBack$Owner", "isOf", "(I)Z"⟩, prog_4_method_7_code, 4, (some .boolean)), (2, ⟨"ThrownBack$Owner", "takes", "(I)I"⟩, prog_4_method_8_code, 2, (some .int)), (2, ⟨"ThrownBack$Owner", "throwsBack", "()Z"⟩, prog_4_method_9_code, 1, (some .boolean)), (2, ⟨"ThrownBack$Owner", "comesIn", "(I)Z"⟩, prog_4_method_10_code, 3, (some .boolean)), (3, ⟨"ThrownBack$Reader", "<init>", "()V"⟩, prog_5_method_1_code, 1, none), (3, ⟨"ThrownBack$Reader", "add", "(I)V"⟩, prog_5_method_2_code, 2, none), (3, ⟨"ThrownBack$Reader", "clear", "()V"⟩, prog_5_method_3_code, 1, none), (3, ⟨"ThrownBack$Reader", "readInto", "(LThrownBack$Law;)I"⟩, prog_5_method_4_code, 3, (some .int)), (3, ⟨"ThrownBack$Reader", "readPart", "(I)Z"⟩, prog_5_method_5_code, 2, (some .boolean)), (3, ⟨"ThrownBack$Reader", "readChain", "(II)Z"⟩, prog_5_method_6_code, 5, (some .boolean)), (3, ⟨"ThrownBack$Reader", "readLink", "(II)Z"⟩, prog_5_method_7_code, 3, (some .boolean)), (3, ⟨"ThrownBack$Reader", "isJoint", "(I)Z"⟩, prog_5_method_8_code, 2, (some .boolean)), (3, ⟨"ThrownBack$Reader", "stepOfToken", "()I"⟩, prog_5_method_9_code, 1, (some .int)), (3, ⟨"ThrownBack$Reader", "readNot", "(I)Z"⟩, prog_5_method_10_code, 3, (some .boolean)), (3, ⟨"ThrownBack$Reader", "readOne", "(I)Z"⟩, prog_5_method_11_code, 3, (some .boolean)), (3, ⟨"ThrownBack$Reader", "readClosed", "(I)Z"⟩, prog_5_method_12_code, 2, (some .boolean)), (3, ⟨"ThrownBack$Reader", "next", "()V"⟩, prog_5_method_13_code, 1, none), (3, ⟨"ThrownBack$Reader", "readWord", "()V"⟩, prog_5_method_14_code, 4, none), (3, ⟨"ThrownBack$Reader", "isWord", "(II)Z"⟩, prog_5_method_15_code, 4, (some .boolean)), (3, ⟨"ThrownBack$Reader", "readNumber", "()V"⟩, prog_5_method_16_code, 1, none), (3, ⟨"ThrownBack$Reader", "readSign", "()V"⟩, prog_5_method_17_code, 1, none), (3, ⟨"ThrownBack$Reader", "isBlank", "(I)Z"⟩, prog_5_method_18_code, 1, (some .boolean)), (3, ⟨"ThrownBack$Reader", "isLetter", "(I)Z"⟩, prog_5_method_19_code, 1, (some .boolean)), (3, ⟨"ThrownBack$Reader", "isDigit", "(I)Z"⟩, prog_5_method_20_code, 1, (some .boolean)), (4, ⟨"ThrownBack$Road", "<init>", "()V"⟩, prog_6_method_1_code, 2, none), (4, ⟨"ThrownBack$Road", "hasOwner", "(I)Z"⟩, prog_6_method_2_code, 2, (some .boolean)), (4, ⟨"ThrownBack$Road", "hasPass", "(I)Z"⟩, prog_6_method_3_code, 2, (some .boolean)), (4, ⟨"ThrownBack$Road", "addOwner", "(III)I"⟩, prog_6_method_4_code, 4, (some .int)), (4, ⟨"ThrownBack$Road", "addPass", "(II)I"⟩, prog_6_method_5_code, 3, (some .int))]
def mtl_2 : List mE := [(4, ⟨"ThrownBack$Road", "turnPasses", "(I)V"⟩, prog_6_method_6_code, 3, none), (4, ⟨"ThrownBack$Road", "become", "(LThrownBack$Road;)V"⟩, prog_6_method_7_code, 3, none), (4, ⟨"ThrownBack$Road", "forgetTallies", "()V"⟩, prog_6_method_8_code, 2, none), (4, ⟨"ThrownBack$Road", "snowBy", "(LThrownBack$Lots;I)V"⟩, prog_6_method_9_code, 4, none), (4, ⟨"ThrownBack$Road", "oneHour", "(LThrownBack$Law;)V"⟩, prog_6_method_10_code, 3, none), (4, ⟨"ThrownBack$Road", "snowFalls", "(LThrownBack$Law;)V"⟩, prog_6_method_11_code, 4, none), (4, ⟨"ThrownBack$Road", "ploughTo", "(ILThrownBack$Law;)V"⟩, prog_6_method_12_code, 8, none), (4, ⟨"ThrownBack$Road", "shovel", "(ILThrownBack$Law;)V"⟩, prog_6_method_13_code, 5, none), (4, ⟨"ThrownBack$Road", "saidOf", "(ILThrownBack$Law;II)I"⟩, prog_6_method_14_code, 5, (some .int)), (4, ⟨"ThrownBack$Road", "tell", "(IIII)V"⟩, prog_6_method_15_code, 5, none), (4, ⟨"ThrownBack$Road", "answer", "(I)I"⟩, prog_6_method_16_code, 2, (some .int)), (4, ⟨"ThrownBack$Road", "allMinutes", "()I"⟩, prog_6_method_17_code, 3, (some .int)), (4, ⟨"ThrownBack$Road", "allBlocked", "()I"⟩, prog_6_method_18_code, 3, (some .int)), (4, ⟨"ThrownBack$Road", "mostMinutes", "()I"⟩, prog_6_method_19_code, 2, (some .int)), (4, ⟨"ThrownBack$Road", "highestHeap", "()I"⟩, prog_6_method_20_code, 3, (some .int)), (4, ⟨"ThrownBack$Road", "busiest", "()I"⟩, prog_6_method_21_code, 4, (some .int)), (4, ⟨"ThrownBack$Road", "firstOther", "(LThrownBack$Sheet;)I"⟩, prog_6_method_22_code, 3, (some .int)), (5, ⟨"ThrownBack$Sheet", "<init>", "()V"⟩, prog_7_method_1_code, 1, none), (5, ⟨"ThrownBack$Sheet", "isMissing", "()Z"⟩, prog_7_method_2_code, 1, (some .boolean)), (5, ⟨"ThrownBack$Sheet", "begin", "(II)V"⟩, prog_7_method_3_code, 4, none), (5, ⟨"ThrownBack$Sheet", "hasPlace", "(I)Z"⟩, prog_7_method_4_code, 2, (some .boolean)), (5, ⟨"ThrownBack$Sheet", "hasPlaces", "(II)Z"⟩, prog_7_method_5_code, 3, (some .boolean)), (5, ⟨"ThrownBack$Sheet", "write", "(II)V"⟩, prog_7_method_6_code, 3, none), (6, ⟨"ThrownBack", "<init>", "()V"⟩, prog_1_method_1_code, 2, none), (6, ⟨"ThrownBack", "count", "(I)I"⟩, prog_1_method_2_code, 2, (some .int)), (6, ⟨"ThrownBack", "set", "(II)I"⟩, prog_1_method_3_code, 4, (some .int)), (6, ⟨"ThrownBack", "feed", "(IIIIII)I"⟩, prog_1_method_4_code, 8, (some .int)), (6, ⟨"ThrownBack", "text", "()I"⟩, prog_1_method_5_code, 2, (some .int)), (6, ⟨"ThrownBack", "force", "(I)I"⟩, prog_1_method_6_code, 3, (some .int)), (6, ⟨"ThrownBack", "asks", "(III)I"⟩, prog_1_method_7_code, 4, (some .int))]
def mtl_3 : List mE := [(6, ⟨"ThrownBack", "owner", "(II)I"⟩, prog_1_method_8_code, 3, (some .int)), (6, ⟨"ThrownBack", "put", "(III)I"⟩, prog_1_method_9_code, 6, (some .int)), (6, ⟨"ThrownBack", "told", "(II)I"⟩, prog_1_method_10_code, 3, (some .int)), (6, ⟨"ThrownBack", "pass", "(II)I"⟩, prog_1_method_11_code, 3, (some .int)), (6, ⟨"ThrownBack", "move", "(III)I"⟩, prog_1_method_12_code, 5, (some .int)), (6, ⟨"ThrownBack", "comes", "(I)I"⟩, prog_1_method_13_code, 2, (some .int)), (6, ⟨"ThrownBack", "live", "()I"⟩, prog_1_method_14_code, 1, (some .int)), (6, ⟨"ThrownBack", "run", "(II)I"⟩, prog_1_method_15_code, 4, (some .int)), (6, ⟨"ThrownBack", "ownerToldOf", "(I)I"⟩, prog_1_method_16_code, 1, (some .int)), (6, ⟨"ThrownBack", "when", "(III)I"⟩, prog_1_method_17_code, 9, (some .int)), (6, ⟨"ThrownBack", "dig", "(III)I"⟩, prog_1_method_18_code, 5, (some .int)), (6, ⟨"ThrownBack", "blade", "(II)I"⟩, prog_1_method_19_code, 7, (some .int)), (6, ⟨"ThrownBack", "sides", "(II)I"⟩, prog_1_method_20_code, 7, (some .int)), (6, ⟨"ThrownBack", "gains", "(III)I"⟩, prog_1_method_21_code, 8, (some .int)), (6, ⟨"ThrownBack", "helps", "(III)I"⟩, prog_1_method_22_code, 8, (some .int)), (6, ⟨"ThrownBack", "minutesOfLikes", "(III)I"⟩, prog_1_method_23_code, 6, (some .int)), (6, ⟨"ThrownBack", "judge", "(II)I"⟩, prog_1_method_24_code, 4, (some .int)), (6, ⟨"ThrownBack", "kinds", "(IIII)I"⟩, prog_1_method_25_code, 10, (some .int)), (6, ⟨"ThrownBack", "hours", "(II)I"⟩, prog_1_method_26_code, 7, (some .int)), (6, ⟨"ThrownBack", "laws", "(II)I"⟩, prog_1_method_27_code, 6, (some .int)), (6, ⟨"ThrownBack", "film", "(II)I"⟩, prog_1_method_28_code, 5, (some .int)), (6, ⟨"ThrownBack", "refusalOfTold", "(I)I"⟩, prog_1_method_29_code, 2, (some .int)), (6, ⟨"ThrownBack", "drawn", "(III)I"⟩, prog_1_method_30_code, 4, (some .int)), (6, ⟨"ThrownBack", "odds", "(IIIII)J"⟩, prog_1_method_31_code, 10, (some .long)), (6, ⟨"ThrownBack", "commonDivisor", "(II)I"⟩, prog_1_method_32_code, 3, (some .int)), (6, ⟨"ThrownBack", "image", "()I"⟩, prog_1_method_33_code, 1, (some .int)), (6, ⟨"ThrownBack", "back", "()I"⟩, prog_1_method_34_code, 1, (some .int)), (6, ⟨"ThrownBack", "sheet", "(III)I"⟩, prog_1_method_35_code, 4, (some .int)), (6, ⟨"ThrownBack", "cell", "(III)I"⟩, prog_1_method_36_code, 4, (some .int)), (6, ⟨"ThrownBack", "copy", "(IIIII)I"⟩, prog_1_method_37_code, 8, (some .int))]
def mtl_4 : List mE := [(6, ⟨"ThrownBack", "ownersBy", "(IIII)I"⟩, prog_1_method_38_code, 9, (some .int)), (6, ⟨"ThrownBack", "taken", "(II)J"⟩, prog_1_method_39_code, 3, (some .long)), (6, ⟨"ThrownBack", "think", "()V"⟩, prog_1_method_40_code, 1, none), (6, ⟨"ThrownBack", "goOn", "(I)V"⟩, prog_1_method_41_code, 4, none), (6, ⟨"ThrownBack", "thinkOf", "(IIII)V"⟩, prog_1_method_42_code, 5, none), (6, ⟨"ThrownBack", "thinkOfWinter", "(III)V"⟩, prog_1_method_43_code, 6, none), (6, ⟨"ThrownBack", "isWithin", "(II)Z"⟩, prog_1_method_44_code, 2, (some .boolean)), (6, ⟨"ThrownBack", "isByte", "(I)Z"⟩, prog_1_method_45_code, 1, (some .boolean)), (6, ⟨"ThrownBack", "isHourOfDay", "(I)Z"⟩, prog_1_method_46_code, 1, (some .boolean)), (6, ⟨"ThrownBack", "isSide", "(I)Z"⟩, prog_1_method_47_code, 1, (some .boolean)), (6, ⟨"ThrownBack", "areHours", "(I)Z"⟩, prog_1_method_48_code, 1, (some .boolean)), (6, ⟨"ThrownBack", "isAnswer", "(I)Z"⟩, prog_1_method_49_code, 1, (some .boolean)), (6, ⟨"ThrownBack", "isGoalWhat", "(I)Z"⟩, prog_1_method_50_code, 1, (some .boolean)), (6, ⟨"ThrownBack", "isSheet", "(I)Z"⟩, prog_1_method_51_code, 1, (some .boolean)), (7, ⟨"ThrownBackModel", "<init>", "()V"⟩, prog_9_method_1_code, 2, none), (7, ⟨"ThrownBackModel", "in", "(III)Z"⟩, prog_9_method_3_code, 3, (some .boolean)), (7, ⟨"ThrownBackModel", "within", "(III)I"⟩, prog_9_method_4_code, 3, (some .int)), (7, ⟨"ThrownBackModel", "isOwner", "(I)Z"⟩, prog_9_method_5_code, 2, (some .boolean)), (7, ⟨"ThrownBackModel", "isPass", "(I)Z"⟩, prog_9_method_6_code, 2, (some .boolean)), (7, ⟨"ThrownBackModel", "areHours", "(I)Z"⟩, prog_9_method_7_code, 1, (some .boolean)), (7, ⟨"ThrownBackModel", "count", "(I)I"⟩, prog_9_method_8_code, 2, (some .int)), (7, ⟨"ThrownBackModel", "set", "(II)I"⟩, prog_9_method_9_code, 4, (some .int)), (7, ⟨"ThrownBackModel", "isByte", "(I)Z"⟩, prog_9_method_10_code, 1, (some .boolean)), (7, ⟨"ThrownBackModel", "feed", "(IIIIII)I"⟩, prog_9_method_11_code, 8, (some .int)), (7, ⟨"ThrownBackModel", "wordFrom", "(II)I"⟩, prog_9_method_12_code, 6, (some .int)), (7, ⟨"ThrownBackModel", "next", "()V"⟩, prog_9_method_13_code, 3, none), (7, ⟨"ThrownBackModel", "rank", "(I)I"⟩, prog_9_method_14_code, 1, (some .int)), (7, ⟨"ThrownBackModel", "puts", "(I)V"⟩, prog_9_method_15_code, 2, none), (7, ⟨"ThrownBackModel", "unwinds", "(I)V"⟩, prog_9_method_16_code, 3, none), (7, ⟨"ThrownBackModel", "holds", "(I)V"⟩, prog_9_method_17_code, 2, none)]
def mtl_5 : List mE := [(7, ⟨"ThrownBackModel", "opensOne", "(I)Z"⟩, prog_9_method_18_code, 2, (some .boolean)), (7, ⟨"ThrownBackModel", "between", "(I)Z"⟩, prog_9_method_19_code, 2, (some .boolean)), (7, ⟨"ThrownBackModel", "signOf", "()I"⟩, prog_9_method_20_code, 1, (some .int)), (7, ⟨"ThrownBackModel", "eRead", "()Z"⟩, prog_9_method_21_code, 4, (some .boolean)), (7, ⟨"ThrownBackModel", "text", "()I"⟩, prog_9_method_22_code, 3, (some .int)), (7, ⟨"ThrownBackModel", "two", "(III)I"⟩, prog_9_method_23_code, 3, (some .int)), (7, ⟨"ThrownBackModel", "says", "(I)I"⟩, prog_9_method_24_code, 5, (some .int)), (7, ⟨"ThrownBackModel", "force", "(I)I"⟩, prog_9_method_25_code, 3, (some .int)), (7, ⟨"ThrownBackModel", "asksOf", "(III)I"⟩, prog_9_method_26_code, 4, (some .int)), (7, ⟨"ThrownBackModel", "asks", "(III)I"⟩, prog_9_method_27_code, 4, (some .int)), (7, ⟨"ThrownBackModel", "owner", "(II)I"⟩, prog_9_method_28_code, 4, (some .int)), (7, ⟨"ThrownBackModel", "mostOf", "(I)I"⟩, prog_9_method_29_code, 1, (some .int)), (7, ⟨"ThrownBackModel", "put", "(III)I"⟩, prog_9_method_30_code, 5, (some .int)), (7, ⟨"ThrownBackModel", "told", "(II)I"⟩, prog_9_method_31_code, 3, (some .int)), (7, ⟨"ThrownBackModel", "pass", "(II)I"⟩, prog_9_method_32_code, 3, (some .int)), (7, ⟨"ThrownBackModel", "move", "(III)I"⟩, prog_9_method_33_code, 5, (some .int)), (7, ⟨"ThrownBackModel", "comes", "(I)I"⟩, prog_9_method_34_code, 2, (some .int)), (7, ⟨"ThrownBackModel", "takesOf", "(I)I"⟩, prog_9_method_35_code, 3, (some .int)), (7, ⟨"ThrownBackModel", "throwsBack", "(I)Z"⟩, prog_9_method_36_code, 3, (some .boolean)), (7, ⟨"ThrownBackModel", "comesNow", "(I)Z"⟩, prog_9_method_37_code, 5, (some .boolean)), (7, ⟨"ThrownBackModel", "held", "(I)I"⟩, prog_9_method_38_code, 1, (some .int)), (7, ⟨"ThrownBackModel", "passBy", "(I)V"⟩, prog_9_method_39_code, 7, none), (7, ⟨"ThrownBackModel", "shovel", "(I)V"⟩, prog_9_method_40_code, 3, none), (7, ⟨"ThrownBackModel", "hourOf", "()V"⟩, prog_9_method_41_code, 3, none), (7, ⟨"ThrownBackModel", "begins", "()V"⟩, prog_9_method_42_code, 2, none), (7, ⟨"ThrownBackModel", "minutesAll", "()I"⟩, prog_9_method_43_code, 3, (some .int)), (7, ⟨"ThrownBackModel", "blockedAll", "()I"⟩, prog_9_method_44_code, 3, (some .int)), (7, ⟨"ThrownBackModel", "mostMinutes", "()I"⟩, prog_9_method_45_code, 3, (some .int)), (7, ⟨"ThrownBackModel", "live", "()I"⟩, prog_9_method_46_code, 1, (some .int)), (7, ⟨"ThrownBackModel", "keeps", "()V"⟩, prog_9_method_47_code, 2, none)]
def mtl_6 : List mE := [(7, ⟨"ThrownBackModel", "laysBack", "()V"⟩, prog_9_method_48_code, 2, none), (7, ⟨"ThrownBackModel", "goes", "(I)V"⟩, prog_9_method_49_code, 3, none), (7, ⟨"ThrownBackModel", "mostOwner", "()I"⟩, prog_9_method_50_code, 4, (some .int)), (7, ⟨"ThrownBackModel", "toldRun", "(I)I"⟩, prog_9_method_51_code, 2, (some .int)), (7, ⟨"ThrownBackModel", "run", "(II)I"⟩, prog_9_method_52_code, 3, (some .int)), (7, ⟨"ThrownBackModel", "isGoal", "(I)Z"⟩, prog_9_method_53_code, 1, (some .boolean)), (7, ⟨"ThrownBackModel", "when", "(III)I"⟩, prog_9_method_54_code, 10, (some .int)), (7, ⟨"ThrownBackModel", "dig", "(III)I"⟩, prog_9_method_55_code, 7, (some .int)), (7, ⟨"ThrownBackModel", "blade", "(II)I"⟩, prog_9_method_56_code, 8, (some .int)), (7, ⟨"ThrownBackModel", "sides", "(II)I"⟩, prog_9_method_57_code, 8, (some .int)), (7, ⟨"ThrownBackModel", "gains", "(III)I"⟩, prog_9_method_58_code, 7, (some .int)), (7, ⟨"ThrownBackModel", "helps", "(III)I"⟩, prog_9_method_59_code, 11, (some .int)), (7, ⟨"ThrownBackModel", "sheetWrong", "(I)I"⟩, prog_9_method_60_code, 2, (some .int)), (7, ⟨"ThrownBackModel", "toldWrong", "(II)I"⟩, prog_9_method_61_code, 4, (some .int)), (7, ⟨"ThrownBackModel", "unlike", "(II)I"⟩, prog_9_method_62_code, 4, (some .int)), (7, ⟨"ThrownBackModel", "judge", "(II)I"⟩, prog_9_method_63_code, 4, (some .int)), (7, ⟨"ThrownBackModel", "kinds", "(IIII)I"⟩, prog_9_method_64_code, 11, (some .int)), (7, ⟨"ThrownBackModel", "hours", "(II)I"⟩, prog_9_method_65_code, 8, (some .int)), (7, ⟨"ThrownBackModel", "laws", "(II)I"⟩, prog_9_method_66_code, 7, (some .int)), (7, ⟨"ThrownBackModel", "film", "(II)I"⟩, prog_9_method_67_code, 4, (some .int)), (7, ⟨"ThrownBackModel", "winter", "(III)V"⟩, prog_9_method_68_code, 8, none), (7, ⟨"ThrownBackModel", "drawn", "(III)I"⟩, prog_9_method_69_code, 4, (some .int)), (7, ⟨"ThrownBackModel", "lowest", "(JJI)J"⟩, prog_9_method_70_code, 11, (some .long)), (7, ⟨"ThrownBackModel", "odds", "(IIIII)J"⟩, prog_9_method_71_code, 10, (some .long)), (7, ⟨"ThrownBackModel", "image", "()I"⟩, prog_9_method_72_code, 2, (some .int)), (7, ⟨"ThrownBackModel", "back", "()I"⟩, prog_9_method_73_code, 2, (some .int)), (7, ⟨"ThrownBackModel", "sheet", "(III)I"⟩, prog_9_method_74_code, 5, (some .int)), (7, ⟨"ThrownBackModel", "cell", "(III)I"⟩, prog_9_method_75_code, 4, (some .int)), (7, ⟨"ThrownBackModel", "copy", "(IIIII)I"⟩, prog_9_method_76_code, 10, (some .int)), (7, ⟨"ThrownBackModel", "ownersBy", "(IIII)I"⟩, prog_9_method_77_code, 9, (some .int))]
def mtl_7 : List mE := [(7, ⟨"ThrownBackModel", "isUnder", "(II)Z"⟩, prog_9_method_78_code, 2, (some .boolean)), (7, ⟨"ThrownBackModel", "taken", "(II)J"⟩, prog_9_method_79_code, 4, (some .long))]
def mtl : List mE := mtl_0 ++ (mtl_1 ++ (mtl_2 ++ (mtl_3 ++ (mtl_4 ++ (mtl_5 ++ (mtl_6 ++ (mtl_7)))))))
def mte (y : Nat) : mE := mtl.getD y (0, ⟨"", "", ""⟩, .empty, 0, none)
def mow (y : Nat) : Nat := (mte y).1
def myn (y : Nat) : MethodName := (mte y).2.1
def bt (y : Nat) : ByteArray := (mte y).2.2.1
def mml (y : Nat) : Nat := (mte y).2.2.2.1
def mrt (y : Nat) : Option FieldType := (mte y).2.2.2.2
abbrev lE : Type := Nat × Nat × Nat × Nat
def lkl_0 : List lE := [(3, 8, 0, 0), (9, 1, 0, 0), (15, 1, 0, 1), (18, 1, 0, 2), (21, 1, 0, 3), (25, 5, 20, 1), (29, 5, 21, 3), (33, 5, 14, 2), (39, 5, 13, 2)]
def lkl_1 : List lE := [(1, 8, 0, 0), (7, 1, 1, 0), (13, 13, 48271, 0), (15, 13, 2147483647, 0)]
def lkl_2 : List lE := [(3, 8, 0, 0), (9, 1, 2, 0), (15, 1, 2, 1), (18, 1, 2, 5), (21, 1, 2, 2), (24, 1, 2, 3), (27, 1, 2, 4), (30, 1, 2, 6), (33, 5, 14, 2), (39, 3, 1, 0), (43, 5, 13, 2)]
def lkl_3 : List lE := [(3, 8, 0, 0), (9, 1, 3, 0), (15, 1, 3, 1), (19, 1, 3, 6), (23, 4, 16, 0), (28, 1, 3, 2), (31, 4, 47, 0), (34, 4, 39, 1), (38, 1, 3, 3), (41, 1, 3, 4), (44, 4, 40, 2), (48, 4, 18, 1), (52, 4, 41, 2), (55, 4, 42, 1), (58, 4, 43, 0), (62, 4, 17, 1), (65, 4, 44, 1), (68, 4, 45, 1), (71, 1, 3, 5), (74, 4, 46, 1), (77, 5, 52, 1), (80, 5, 53, 1), (83, 4, 48, 0), (86, 5, 54, 1), (89, 4, 50, 0), (92, 4, 51, 0), (95, 14, 1004, 0), (97, 15, 1, 0), (102, 15, 2, 1), (106, 4, 49, 2), (109, 14, 1005, 0), (111, 15, 3, 1)]
def lkl_4 : List lE := [(3, 8, 0, 0), (9, 11, 2, 0), (11, 1, 4, 0), (17, 1, 4, 2), (21, 1, 4, 3), (24, 1, 4, 4), (27, 1, 4, 7), (33, 1, 4, 10), (36, 7, 25, 0), (37, 1, 4, 1), (40, 1, 4, 5), (43, 4, 26, 3), (47, 4, 27, 1), (51, 9, 0, 0), (57, 1, 4, 6), (60, 1, 4, 8), (63, 4, 62, 0), (66, 1, 4, 9), (69, 1, 2, 7), (72, 1, 2, 8), (75, 4, 24, 1), (81, 5, 14, 2), (87, 4, 65, 1), (91, 4, 66, 2), (95, 1, 2, 2), (98, 4, 34, 1), (102, 4, 67, 2), (105, 4, 69, 4), (109, 4, 19, 2), (113, 4, 56, 1), (116, 1, 2, 6), (119, 1, 2, 1), (122, 1, 2, 3), (125, 4, 30, 1), (128, 4, 32, 1), (131, 4, 33, 0), (135, 4, 71, 0), (139, 4, 72, 0), (142, 4, 74, 0), (145, 4, 75, 0), (148, 5, 13, 2), (151, 1, 5, 2), (65545, 10, 2, 9)]
def lkl_5 : List lE := [(3, 8, 0, 0), (9, 1, 5, 0), (15, 1, 5, 2), (19, 1, 5, 1)]
def lkl_6 : List lE := [(1, 8, 0, 0), (9, 6, 55, 0), (10, 1, 6, 0), (16, 1, 6, 1), (19, 1, 6, 2), (24, 7, 35, 0), (25, 1, 6, 4), (29, 11, 0, 0), (31, 1, 6, 5), (35, 11, 5, 0), (37, 1, 6, 7), (43, 7, 22, 0), (44, 1, 6, 8), (48, 7, 15, 0), (49, 7, 77, 0), (50, 14, 1003, 0), (52, 15, 1, 0), (58, 15, 2, 1), (62, 4, 36, 1), (66, 4, 38, 1), (70, 4, 37, 0), (73, 1, 6, 6), (77, 1, 4, 1), (80, 1, 4, 5), (83, 1, 4, 6), (86, 1, 4, 7), (89, 1, 4, 8), (92, 1, 3, 1), (95, 5, 126, 2), (99, 5, 127, 1), (103, 4, 56, 1), (106, 4, 68, 4), (110, 5, 128, 1), (113, 4, 58, 3), (117, 3, 0, 0), (121, 1, 4, 0), (125, 4, 28, 1), (131, 4, 29, 2), (135, 1, 4, 2), (138, 5, 129, 1), (141, 4, 59, 2), (145, 4, 57, 1), (148, 4, 95, 1), (151, 1, 4, 3), (154, 1, 4, 4), (157, 4, 62, 0), (160, 4, 64, 1), (164, 4, 71, 0), (167, 5, 130, 1), (170, 5, 131, 1), (173, 5, 98, 1), (176, 4, 122, 0), (179, 4, 123, 1), (182, 4, 70, 1), (185, 1, 2, 7), (188, 1, 2, 8), (191, 1, 2, 2), (194, 5, 132, 1), (197, 12, 2147483647, 0), (198, 4, 124, 4), (202, 4, 60, 1), (205, 4, 72, 0), (208, 4, 73, 0), (211, 12, 4293967291, 0), (212, 12, 4293967289, 0), (213, 4, 105, 3), (216, 1, 2, 0), (219, 1, 2, 1), (222, 4, 111, 1), (225, 4, 76, 1), (229, 5, 133, 1), (232, 4, 79, 2), (235, 4, 82, 2), (238, 4, 78, 0), (242, 1, 5, 1), (243, 12, 99999, 0), (244, 4, 125, 3), (248, 13, 13835058055282163712, 0), (250, 5, 114, 2), (253, 4, 61, 1), (257, 1, 6, 3), (261, 4, 80, 1), (264, 1, 5, 0), (267, 4, 81, 2), (270, 1, 5, 2), (273, 9, 0, 0), (279, 4, 90, 2), (282, 13, 18446744073709551614, 0), (284, 13, 18446744073709551604, 0), (286, 13, 18446744073709551603, 0), (288, 13, 18446744073709551605, 0), (290, 4, 31, 1), (293, 4, 23, 1), (295, 4, 63, 2), (65543, 10, 4, 11), (65558, 10, 3, 7), (65565, 10, 0, 4), (65571, 10, 5, 3), (65577, 10, 1, 1)]
def lkl_7 : List lE := [(1, 8, 0, 0), (7, 1, 7, 1), (13, 1, 7, 2), (16, 1, 7, 3), (19, 1, 7, 4), (22, 1, 7, 6), (25, 1, 7, 7), (28, 1, 7, 9), (32, 1, 7, 10), (35, 1, 7, 12), (38, 1, 7, 13), (41, 1, 7, 17), (44, 1, 7, 18), (47, 1, 7, 19), (50, 1, 7, 20), (53, 1, 7, 21), (56, 1, 7, 22), (59, 1, 7, 27), (62, 1, 7, 28), (65, 1, 7, 32), (68, 1, 7, 33), (71, 1, 7, 35), (74, 1, 7, 36), (77, 1, 7, 37), (80, 1, 7, 39), (83, 1, 7, 41), (86, 1, 7, 11), (89, 4, 154, 0), (93, 1, 7, 0), (96, 5, 135, 3), (100, 1, 7, 5), (103, 1, 7, 8), (106, 1, 7, 14), (109, 1, 7, 15), (112, 5, 142, 1), (116, 1, 7, 23), (119, 1, 7, 24), (122, 1, 7, 25), (125, 1, 7, 26), (128, 4, 144, 2), (132, 1, 7, 31), (135, 1, 7, 29), (138, 5, 146, 1), (142, 1, 7, 30), (145, 4, 147, 1), (149, 4, 149, 1), (152, 4, 148, 1), (155, 4, 145, 0), (158, 12, 100000, 0), (159, 4, 150, 1), (162, 4, 152, 0), (165, 4, 151, 1), (168, 4, 153, 0), (172, 5, 155, 3), (176, 5, 136, 3), (179, 4, 156, 1), (182, 4, 137, 1), (185, 4, 158, 3), (188, 5, 161, 1), (191, 4, 138, 1), (194, 4, 166, 1), (197, 5, 170, 1), (199, 1, 7, 34), (202, 4, 167, 1), (205, 4, 168, 1), (208, 4, 171, 1), (211, 4, 169, 1), (214, 4, 172, 1), (217, 4, 174, 0), (220, 4, 173, 0), (223, 4, 175, 0), (226, 1, 7, 38), (229, 1, 7, 40), (232, 4, 179, 0), (235, 4, 180, 0), (238, 4, 176, 0), (241, 4, 182, 0), (244, 5, 139, 1), (247, 4, 181, 1), (250, 4, 183, 1), (253, 5, 185, 1), (256, 4, 177, 0), (259, 12, 4293967291, 0), (260, 12, 4293967289, 0), (261, 4, 192, 1), (264, 4, 193, 2), (267, 4, 194, 2), (270, 13, 48271, 0), (272, 13, 2147483647, 0), (274, 12, 99999, 0), (275, 4, 200, 3), (279, 13, 13835058055282163712, 0), (281, 5, 202, 3), (285, 1, 7, 16), (289, 4, 160, 2), (292, 13, 18446744073709551614, 0), (294, 13, 18446744073709551604, 0), (296, 13, 18446744073709551603, 0), (298, 13, 18446744073709551605, 0), (300, 5, 210, 2)]
def lkl_8 : List lE := [(9, 16, 0, 0), (15, 16, 1, 0), (38, 3, 2, 0), (335, 15, 5, 0), (492, 15, 6, 0), (495, 5, 8, 2), (505, 15, 1, 0), (633, 15, 4, 2), (637, 5, 10, 4), (1053, 3, 3, 0), (1059, 5, 12, 3)]
def lkl_9 : List lE := [(9, 6, 83, 0), (12, 6, 134, 0), (13, 4, 84, 1), (17, 4, 140, 1), (18, 4, 85, 2), (22, 4, 141, 2), (23, 4, 86, 6), (27, 4, 143, 6), (28, 4, 87, 0), (32, 4, 154, 0), (33, 4, 88, 1), (36, 4, 157, 1), (37, 4, 89, 3), (41, 4, 159, 3), (42, 4, 90, 2), (45, 4, 160, 2), (46, 4, 91, 3), (49, 4, 162, 3), (50, 4, 92, 2), (53, 4, 163, 2), (54, 4, 93, 2), (57, 4, 164, 2), (58, 4, 94, 3), (61, 4, 165, 3), (62, 4, 95, 1), (65, 4, 166, 1), (66, 4, 96, 0), (69, 4, 178, 0), (70, 4, 97, 2), (73, 4, 184, 2), (74, 4, 99, 3), (77, 4, 186, 3), (78, 4, 100, 3), (81, 4, 187, 3), (82, 4, 101, 2), (85, 4, 188, 2), (86, 4, 102, 2), (89, 4, 189, 2), (90, 4, 103, 3), (93, 4, 190, 3), (94, 4, 104, 3), (97, 4, 191, 3), (98, 4, 106, 2), (101, 4, 195, 2), (102, 4, 107, 4), (106, 4, 196, 4), (107, 4, 108, 2), (110, 4, 197, 2), (111, 4, 109, 2), (114, 4, 198, 2), (115, 4, 110, 2), (118, 4, 199, 2), (119, 4, 112, 3), (122, 4, 201, 3), (123, 4, 113, 5), (127, 4, 203, 5), (128, 4, 115, 0), (131, 4, 204, 0), (132, 4, 116, 0), (135, 4, 205, 0), (136, 4, 117, 3), (139, 4, 206, 3), (140, 4, 118, 3), (143, 4, 207, 3), (144, 4, 119, 5), (148, 4, 208, 5), (149, 4, 120, 4), (152, 4, 209, 4), (153, 4, 121, 2), (157, 4, 211, 2), (65543, 10, 6, 9), (65546, 10, 7, 42)]
def lkl_10 : List lE := [(9, 5, 7, 2), (38, 5, 14, 2), (88, 5, 9, 1), (92, 5, 13, 2), (95, 5, 11, 4)]
def lkl (c : Nat) : List lE := match c with
  | 0 => lkl_0
  | 1 => lkl_1
  | 2 => lkl_2
  | 3 => lkl_3
  | 4 => lkl_4
  | 5 => lkl_5
  | 6 => lkl_6
  | 7 => lkl_7
  | 8 => lkl_8
  | 9 => lkl_9
  | 10 => lkl_10
  | _ => []
def lk (c i : Nat) : Nat × Nat × Nat := match (lkl c).find? (fun e => e.1 == i) with
  | some e => e.2
  | none => (0, 0, 0)
def stn (a : Nat) : String × String × String := match a with
  | 0 => ("ThrownBack", "MOST_PUT", "[I")
  | 1 => ("ThrownBack$Owner", "KIND_ABOVE", "[I")
  | 2 => ("java/lang/String", "COMPACT_STRINGS", "Z")
  | _ => ("jdk/internal/util/Preconditions", "SIOOBE_FORMATTER", "Ljava/util/function/BiFunction;")
def sfn (a : Nat) : String × String := match a with
  | 0 => ("value", "[B")
  | _ => ("coder", "B")
def cwd (z : Nat) : Cond := .code (myn z) (bt z) (mml z) (mrt z)
/-- the words that a link's use needs -/
def lw (c : Nat) (e : lE) : List Cond := match e with
  | (i, 1, a, b) => [.fieldLink (cn c) i (nTT a b).1 (nTT a b).2.1 (nTT a b).2.2.1]
  | (i, 16, a, _) => [.fieldLink (cn c) i "java/lang/String" (sfn a).1 (sfn a).2]
  | (i, 3, a, _) => [.fieldLink (cn c) i (stn a).1 (stn a).2.1 (stn a).2.2]
  | (i, 4, z, _) => [.methodLink (cn c) i (myn z), .instanceMethod (myn z), .selects (myn z).cls (myn z) (myn z), .initialized (myn z).cls]
  | (i, 15, z, _) => [.methodLink (cn c) i (myn z), .instanceMethod (myn z), .selects (myn z).cls (myn z) (myn z), .initialized (myn z).cls]
  | (i, 5, z, _) => [.methodLink (cn c) i (myn z), .static (myn z), .initialized (myn z).cls]
  | (i, 6, z, _) => [.methodLink (cn c) i (myn z), .instanceMethod (myn z), .initialized (myn z).cls]
  | (_, 7, z, _) => [.instanceMethod (myn z), .initialized (myn z).cls]
  | (i, 8, _, _) => [.methodLink (cn c) i Lib.objectInit, .instanceMethod Lib.objectInit]
  | (i, 9, _, _) => [.methodLink (cn c) i arraycopyName, .native arraycopyName, .static arraycopyName, .initialized "java/lang/System"]
  | (i, 10, a, b) => [.classLink (cn c) (i - 65536) (cn a), .instantiable (cn a) b, .initialized (cn a)]
  | (i, 11, a, _) => [.classLink (cn c) i (cn a)]
  | (i, 12, a, _) => [.constant (cn c) i (Int32.ofNat a)]
  | (i, 13, a, _) => [.constantLong (cn c) i (Int64.ofNat a)]
  | _ => []
/-- the tables' words that stay true -/
def WS : List Cond := lw_tbl.filter goodWord
theorem ws_of (ws : List Cond) (ps : List Nat) (hp : ps.mapM (fun i => lw_tbl[i]?) = some ws) (h : ws.all goodWord = true) : ∀ w ∈ ws, w ∈ WS := by
  intro w hw
  refine List.mem_filter.mpr ⟨?_, List.all_eq_true.mp h w hw⟩
  have key : ∀ (ps : List Nat) (ws : List Cond), ps.mapM (fun i => lw_tbl[i]?) = some ws → ∀ w ∈ ws, w ∈ lw_tbl := by
    intro ps
    induction ps with
    | nil => intro ws h w hw; simp at h; subst h; simp at hw
    | cons a l ih =>
      intro ws h w hw
      rw [List.mapM_cons] at h
      cases ha : lw_tbl[a]? with
      | none => simp [ha] at h
      | some x =>
        cases hl : l.mapM (fun i => lw_tbl[i]?) with
        | none => simp [ha, hl] at h
        | some xs =>
          simp [ha, hl] at h
          subst h
          rcases List.mem_cons.mp hw with h1 | h1
          · subst h1; exact List.mem_of_getElem? ha
          · exact ih xs hl w h1
  exact key ps ws hp w hw
def lkc_0_0 : List lE := [(3, 8, 0, 0), (9, 1, 0, 0), (15, 1, 0, 1), (18, 1, 0, 2), (21, 1, 0, 3), (25, 5, 20, 1), (29, 5, 21, 3), (33, 5, 14, 2), (39, 5, 13, 2)]
set_option maxRecDepth 20000 in
theorem lkw_0_0 : ∀ w ∈ lkc_0_0.flatMap (lw 0), w ∈ WS := ws_of _ [222, 79, 223, 224, 225, 226, 527, 528, 63, 530, 531, 63, 533, 368, 69, 534, 365, 69] (by decide +kernel) (by decide +kernel)
theorem lkw_0 : ∀ e ∈ lkl_0, ∀ w ∈ lw 0 e, w ∈ WS := by
  have h : lkl_0 = lkc_0_0 := by decide +kernel
  intro e he w hw
  rw [h] at he
  exact lkw_0_0 w (List.mem_flatMap.mpr ⟨e, he, hw⟩)
def lkc_1_0 : List lE := [(1, 8, 0, 0), (7, 1, 1, 0), (13, 13, 48271, 0), (15, 13, 2147483647, 0)]
set_option maxRecDepth 20000 in
theorem lkw_1_0 : ∀ w ∈ lkc_1_0.flatMap (lw 1), w ∈ WS := ws_of _ [213, 79, 214, 802, 803] (by decide +kernel) (by decide +kernel)
theorem lkw_1 : ∀ e ∈ lkl_1, ∀ w ∈ lw 1 e, w ∈ WS := by
  have h : lkl_1 = lkc_1_0 := by decide +kernel
  intro e he w hw
  rw [h] at he
  exact lkw_1_0 w (List.mem_flatMap.mpr ⟨e, he, hw⟩)
def lkc_2_0 : List lE := [(3, 8, 0, 0), (9, 1, 2, 0), (15, 1, 2, 1), (18, 1, 2, 5), (21, 1, 2, 2), (24, 1, 2, 3), (27, 1, 2, 4), (30, 1, 2, 6), (33, 5, 14, 2), (39, 3, 1, 0), (43, 5, 13, 2)]
set_option maxRecDepth 20000 in
theorem lkw_2_0 : ∀ w ∈ lkc_2_0.flatMap (lw 2), w ∈ WS := ws_of _ [93, 79, 94, 96, 105, 99, 102, 104, 106, 618, 368, 69, 858, 631, 365, 69] (by decide +kernel) (by decide +kernel)
theorem lkw_2 : ∀ e ∈ lkl_2, ∀ w ∈ lw 2 e, w ∈ WS := by
  have h : lkl_2 = lkc_2_0 := by decide +kernel
  intro e he w hw
  rw [h] at he
  exact lkw_2_0 w (List.mem_flatMap.mpr ⟨e, he, hw⟩)
def lkc_3_0 : List lE := [(3, 8, 0, 0), (9, 1, 3, 0), (15, 1, 3, 1), (19, 1, 3, 6), (23, 4, 16, 0), (28, 1, 3, 2), (31, 4, 47, 0), (34, 4, 39, 1), (38, 1, 3, 3), (41, 1, 3, 4), (44, 4, 40, 2), (48, 4, 18, 1), (52, 4, 41, 2), (55, 4, 42, 1), (58, 4, 43, 0), (62, 4, 17, 1), (65, 4, 44, 1), (68, 4, 45, 1), (71, 1, 3, 5), (74, 4, 46, 1), (77, 5, 52, 1), (80, 5, 53, 1), (83, 4, 48, 0), (86, 5, 54, 1), (89, 4, 50, 0)]
set_option maxRecDepth 20000 in
theorem lkw_3_0 : ∀ w ∈ lkc_3_0.flatMap (lw 3), w ∈ WS := ws_of _ [180, 79, 181, 182, 188, 312, 313, 314, 63, 184, 316, 318, 0, 61, 408, 410, 5, 61, 185, 186, 412, 414, 6, 61, 444, 445, 446, 63, 416, 418, 7, 61, 440, 442, 12, 61, 428, 430, 9, 61, 424, 425, 426, 63, 420, 422, 8, 61, 432, 434, 10, 61, 187, 436, 438, 11, 61, 320, 321, 61, 323, 324, 61, 326, 328, 1, 61, 337, 338, 61, 340, 342, 3, 61] (by decide +kernel) (by decide +kernel)
def lkc_3_1 : List lE := [(92, 4, 51, 0), (95, 14, 1004, 0), (97, 15, 1, 0), (102, 15, 2, 1), (106, 4, 49, 2), (109, 14, 1005, 0), (111, 15, 3, 1)]
set_option maxRecDepth 20000 in
theorem lkw_3_1 : ∀ w ∈ lkc_3_1.flatMap (lw 3), w ∈ WS := ws_of _ [344, 346, 4, 61, 331, 257, 258, 65, 332, 267, 268, 65, 333, 335, 2, 61, 349, 350, 351, 65] (by decide +kernel) (by decide +kernel)
theorem lkw_3 : ∀ e ∈ lkl_3, ∀ w ∈ lw 3 e, w ∈ WS := by
  have h : lkl_3 = lkc_3_0 ++ (lkc_3_1) := by decide +kernel
  intro e he w hw
  rw [h] at he
  simp only [List.mem_append] at he
  rcases he with he | he
  · exact lkw_3_0 w (List.mem_flatMap.mpr ⟨e, he, hw⟩)
  · exact lkw_3_1 w (List.mem_flatMap.mpr ⟨e, he, hw⟩)
def lkc_4_0 : List lE := [(3, 8, 0, 0), (9, 11, 2, 0), (11, 1, 4, 0), (17, 1, 4, 2), (21, 1, 4, 3), (24, 1, 4, 4), (27, 1, 4, 7), (33, 1, 4, 10), (36, 7, 25, 0), (37, 1, 4, 1), (40, 1, 4, 5), (43, 4, 26, 3), (47, 4, 27, 1), (51, 9, 0, 0), (57, 1, 4, 6), (60, 1, 4, 8), (63, 4, 62, 0), (66, 1, 4, 9), (69, 1, 2, 7), (72, 1, 2, 8), (75, 4, 24, 1), (81, 5, 14, 2), (87, 4, 65, 1), (91, 4, 66, 2), (95, 1, 2, 2)]
set_option maxRecDepth 20000 in
theorem lkw_4_0 : ∀ w ∈ lkc_4_0.flatMap (lw 4), w ∈ WS := ws_of _ [86, 79, 87, 132, 136, 138, 140, 146, 151, 91, 60, 134, 143, 546, 547, 548, 60, 661, 662, 663, 60, 665, 667, 666, 72, 145, 149, 668, 597, 598, 59, 150, 108, 110, 798, 799, 800, 62, 608, 368, 69, 604, 606, 14, 59, 609, 611, 15, 59, 100] (by decide +kernel) (by decide +kernel)
def lkc_4_1 : List lE := [(98, 4, 34, 1), (102, 4, 67, 2), (105, 4, 69, 4), (109, 4, 19, 2), (113, 4, 56, 1), (116, 1, 2, 6), (119, 1, 2, 1), (122, 1, 2, 3), (125, 4, 30, 1), (128, 4, 32, 1), (131, 4, 33, 0), (135, 4, 71, 0), (139, 4, 72, 0), (142, 4, 74, 0), (145, 4, 75, 0), (148, 5, 13, 2), (151, 1, 5, 2), (65545, 10, 2, 9)]
set_option maxRecDepth 20000 in
theorem lkw_4_1 : ∀ w ∈ lkc_4_1.flatMap (lw 4), w ∈ WS := ws_of _ [619, 620, 621, 60, 623, 625, 16, 59, 519, 521, 13, 59, 523, 524, 525, 63, 613, 512, 513, 59, 107, 97, 103, 614, 615, 616, 60, 627, 628, 629, 60, 632, 633, 634, 60, 677, 637, 638, 59, 678, 679, 680, 59, 682, 684, 19, 59, 687, 689, 20, 59, 686, 365, 69, 246, 87, 89, 60] (by decide +kernel) (by decide +kernel)
theorem lkw_4 : ∀ e ∈ lkl_4, ∀ w ∈ lw 4 e, w ∈ WS := by
  have h : lkl_4 = lkc_4_0 ++ (lkc_4_1) := by decide +kernel
  intro e he w hw
  rw [h] at he
  simp only [List.mem_append] at he
  rcases he with he | he
  · exact lkw_4_0 w (List.mem_flatMap.mpr ⟨e, he, hw⟩)
  · exact lkw_4_1 w (List.mem_flatMap.mpr ⟨e, he, hw⟩)
def lkc_5_0 : List lE := [(3, 8, 0, 0), (9, 1, 5, 0), (15, 1, 5, 2), (19, 1, 5, 1)]
set_option maxRecDepth 20000 in
theorem lkw_5_0 : ∀ w ∈ lkc_5_0.flatMap (lw 5), w ∈ WS := ws_of _ [240, 79, 241, 245, 243] (by decide +kernel) (by decide +kernel)
theorem lkw_5 : ∀ e ∈ lkl_5, ∀ w ∈ lw 5 e, w ∈ WS := by
  have h : lkl_5 = lkc_5_0 := by decide +kernel
  intro e he w hw
  rw [h] at he
  exact lkw_5_0 w (List.mem_flatMap.mpr ⟨e, he, hw⟩)
def lkc_6_0 : List lE := [(1, 8, 0, 0), (9, 6, 55, 0), (10, 1, 6, 0), (16, 1, 6, 1), (19, 1, 6, 2), (24, 7, 35, 0), (25, 1, 6, 4), (29, 11, 0, 0), (31, 1, 6, 5), (35, 11, 5, 0), (37, 1, 6, 7), (43, 7, 22, 0), (44, 1, 6, 8), (48, 7, 15, 0), (49, 7, 77, 0), (50, 14, 1003, 0), (52, 15, 1, 0), (58, 15, 2, 1), (62, 4, 36, 1), (66, 4, 38, 1), (70, 4, 37, 0), (73, 1, 6, 6), (77, 1, 4, 1), (80, 1, 4, 5), (83, 1, 4, 6)]
set_option maxRecDepth 20000 in
theorem lkw_6_0 : ∀ w ∈ lkc_6_0.flatMap (lw 6), w ∈ WS := ws_of _ [78, 79, 83, 84, 59, 452, 453, 454, 178, 61, 456, 204, 457, 206, 459, 211, 62, 460, 220, 63, 238, 64, 256, 257, 258, 65, 266, 267, 268, 65, 304, 305, 306, 61, 308, 309, 310, 61, 448, 449, 450, 61, 458, 135, 142, 144] (by decide +kernel) (by decide +kernel)
def lkc_6_1 : List lE := [(86, 1, 4, 7), (89, 1, 4, 8), (92, 1, 3, 1), (95, 5, 126, 2), (99, 5, 127, 1), (103, 4, 56, 1), (106, 4, 68, 4), (110, 5, 128, 1), (113, 4, 58, 3), (117, 3, 0, 0), (121, 1, 4, 0), (125, 4, 28, 1), (131, 4, 29, 2), (135, 1, 4, 2), (138, 5, 129, 1), (141, 4, 59, 2), (145, 4, 57, 1), (148, 4, 95, 1), (151, 1, 4, 3), (154, 1, 4, 4), (157, 4, 62, 0), (160, 4, 64, 1), (164, 4, 71, 0), (167, 5, 130, 1), (170, 5, 131, 1)]
set_option maxRecDepth 20000 in
theorem lkw_6_1 : ∀ w ∈ lkc_6_1.flatMap (lw 6), w ∈ WS := ws_of _ [147, 148, 183, 489, 490, 58, 496, 497, 58, 511, 512, 513, 59, 515, 516, 517, 59, 539, 540, 58, 542, 543, 544, 59, 554, 133, 556, 557, 558, 60, 560, 561, 562, 60, 137, 572, 573, 58, 575, 576, 577, 59, 583, 584, 585, 59, 587, 588, 589, 58, 139, 141, 596, 597, 598, 59, 600, 601, 602, 59, 636, 637, 638, 59, 644, 645, 58, 647, 648, 58] (by decide +kernel) (by decide +kernel)
def lkc_6_2 : List lE := [(173, 5, 98, 1), (176, 4, 122, 0), (179, 4, 123, 1), (182, 4, 70, 1), (185, 1, 2, 7), (188, 1, 2, 8), (191, 1, 2, 2), (194, 5, 132, 1), (197, 12, 2147483647, 0), (198, 4, 124, 4), (202, 4, 60, 1), (205, 4, 72, 0), (208, 4, 73, 0), (211, 12, 4293967291, 0), (212, 12, 4293967289, 0), (213, 4, 105, 3), (216, 1, 2, 0), (219, 1, 2, 1), (222, 4, 111, 1), (225, 4, 76, 1), (229, 5, 133, 1), (232, 4, 79, 2), (235, 4, 82, 2), (238, 4, 78, 0), (242, 1, 5, 1)]
set_option maxRecDepth 20000 in
theorem lkw_6_2 : ∀ w ∈ lkc_6_2.flatMap (lw 6), w ∈ WS := ws_of _ [650, 651, 58, 653, 655, 17, 58, 669, 671, 18, 58, 673, 674, 675, 59, 109, 111, 101, 695, 696, 58, 698, 699, 701, 21, 58, 715, 716, 717, 59, 719, 679, 680, 59, 720, 721, 722, 59, 728, 729, 734, 736, 22, 58, 95, 98, 742, 744, 23, 58, 753, 754, 755, 59, 746, 747, 58, 773, 774, 775, 64, 777, 778, 779, 64, 749, 750, 751, 64, 244] (by decide +kernel) (by decide +kernel)
def lkc_6_3 : List lE := [(243, 12, 99999, 0), (244, 4, 125, 3), (248, 13, 13835058055282163712, 0), (250, 5, 114, 2), (253, 4, 61, 1), (257, 1, 6, 3), (261, 4, 80, 1), (264, 1, 5, 0), (267, 4, 81, 2), (270, 1, 5, 2), (273, 9, 0, 0), (279, 4, 90, 2), (282, 13, 18446744073709551614, 0), (284, 13, 18446744073709551604, 0), (286, 13, 18446744073709551603, 0), (288, 13, 18446744073709551605, 0), (290, 4, 31, 1), (293, 4, 23, 1), (295, 4, 63, 2), (65543, 10, 4, 11), (65558, 10, 3, 7), (65565, 10, 0, 4), (65571, 10, 5, 3), (65577, 10, 1, 1)]
set_option maxRecDepth 20000 in
theorem lkw_6_3 : ∀ w ∈ lkc_6_3.flatMap (lw 6), w ∈ WS := ws_of _ [785, 786, 788, 24, 58, 808, 809, 810, 58, 657, 658, 659, 59, 455, 828, 829, 830, 64, 242, 836, 837, 838, 64, 247, 840, 667, 666, 72, 845, 536, 537, 58, 850, 851, 852, 853, 854, 855, 856, 60, 790, 791, 792, 62, 794, 795, 796, 59, 81, 82, 59, 175, 176, 61, 204, 218, 63, 206, 236, 64, 208, 209, 62] (by decide +kernel) (by decide +kernel)
theorem lkw_6 : ∀ e ∈ lkl_6, ∀ w ∈ lw 6 e, w ∈ WS := by
  have h : lkl_6 = lkc_6_0 ++ (lkc_6_1 ++ (lkc_6_2 ++ (lkc_6_3))) := by decide +kernel
  intro e he w hw
  rw [h] at he
  simp only [List.mem_append] at he
  rcases he with he | he | he | he
  · exact lkw_6_0 w (List.mem_flatMap.mpr ⟨e, he, hw⟩)
  · exact lkw_6_1 w (List.mem_flatMap.mpr ⟨e, he, hw⟩)
  · exact lkw_6_2 w (List.mem_flatMap.mpr ⟨e, he, hw⟩)
  · exact lkw_6_3 w (List.mem_flatMap.mpr ⟨e, he, hw⟩)
def lkc_7_0 : List lE := [(1, 8, 0, 0), (7, 1, 7, 1), (13, 1, 7, 2), (16, 1, 7, 3), (19, 1, 7, 4), (22, 1, 7, 6), (25, 1, 7, 7), (28, 1, 7, 9), (32, 1, 7, 10), (35, 1, 7, 12), (38, 1, 7, 13), (41, 1, 7, 17), (44, 1, 7, 18), (47, 1, 7, 19), (50, 1, 7, 20), (53, 1, 7, 21), (56, 1, 7, 22), (59, 1, 7, 27), (62, 1, 7, 28), (65, 1, 7, 32), (68, 1, 7, 33), (71, 1, 7, 35), (74, 1, 7, 36), (77, 1, 7, 37), (80, 1, 7, 39)]
set_option maxRecDepth 20000 in
theorem lkw_7_0 : ∀ w ∈ lkc_7_0.flatMap (lw 7), w ∈ WS := ws_of _ [865, 79, 914, 915, 916, 917, 919, 920, 922, 923, 925, 926, 930, 931, 932, 933, 934, 935, 940, 941, 945, 946, 948, 949, 950, 952] (by decide +kernel) (by decide +kernel)
def lkc_7_1 : List lE := [(83, 1, 7, 41), (86, 1, 7, 11), (89, 4, 154, 0), (93, 1, 7, 0), (96, 5, 135, 3), (100, 1, 7, 5), (103, 1, 7, 8), (106, 1, 7, 14), (109, 1, 7, 15), (112, 5, 142, 1), (116, 1, 7, 23), (119, 1, 7, 24), (122, 1, 7, 25), (125, 1, 7, 26), (128, 4, 144, 2), (132, 1, 7, 31), (135, 1, 7, 29), (138, 5, 146, 1), (142, 1, 7, 30), (145, 4, 147, 1), (149, 4, 149, 1), (152, 4, 148, 1), (155, 4, 145, 0), (158, 12, 100000, 0), (159, 4, 150, 1)]
set_option maxRecDepth 20000 in
theorem lkw_7_1 : ∀ w ∈ lkc_7_1.flatMap (lw 7), w ∈ WS := ws_of _ [954, 924, 866, 867, 868, 71, 913, 874, 875, 71, 918, 921, 927, 928, 1052, 1053, 71, 936, 937, 938, 939, 877, 879, 26, 71, 944, 942, 894, 895, 71, 943, 886, 888, 28, 71, 901, 903, 31, 71, 890, 892, 29, 71, 870, 872, 25, 71, 885, 897, 899, 30, 71] (by decide +kernel) (by decide +kernel)
def lkc_7_2 : List lE := [(162, 4, 152, 0), (165, 4, 151, 1), (168, 4, 153, 0), (172, 5, 155, 3), (176, 5, 136, 3), (179, 4, 156, 1), (182, 4, 137, 1), (185, 4, 158, 3), (188, 5, 161, 1), (191, 4, 138, 1), (194, 4, 166, 1), (197, 5, 170, 1), (199, 1, 7, 34), (202, 4, 167, 1), (205, 4, 168, 1), (208, 4, 171, 1), (211, 4, 169, 1), (214, 4, 172, 1), (217, 4, 174, 0), (220, 4, 173, 0), (223, 4, 175, 0), (226, 1, 7, 38), (229, 1, 7, 40), (232, 4, 179, 0), (235, 4, 180, 0)]
set_option maxRecDepth 20000 in
theorem lkw_7_2 : ∀ w ∈ lkc_7_2.flatMap (lw 7), w ∈ WS := ws_of _ [905, 907, 32, 71, 909, 911, 33, 71, 881, 883, 27, 71, 1079, 1080, 71, 1072, 1073, 71, 1075, 1077, 36, 71, 1064, 1066, 34, 71, 1068, 1070, 35, 71, 1090, 1091, 71, 1105, 1107, 37, 71, 1109, 1110, 1111, 71, 1126, 1127, 71, 947, 1141, 1143, 43, 71, 1145, 1147, 44, 71, 1129, 1131, 40, 71, 1133, 1135, 41, 71, 1137, 1139, 42, 71, 1118, 1120, 38, 71, 1122, 1124, 39, 71, 1149, 1151, 45, 71, 951, 953, 1164, 1166, 47, 71, 1168, 1170, 48, 71] (by decide +kernel) (by decide +kernel)
def lkc_7_3 : List lE := [(238, 4, 176, 0), (241, 4, 182, 0), (244, 5, 139, 1), (247, 4, 181, 1), (250, 4, 183, 1), (253, 5, 185, 1), (256, 4, 177, 0), (259, 12, 4293967291, 0), (260, 12, 4293967289, 0), (261, 4, 192, 1), (264, 4, 193, 2), (267, 4, 194, 2), (270, 13, 48271, 0), (272, 13, 2147483647, 0), (274, 12, 99999, 0), (275, 4, 200, 3), (279, 13, 13835058055282163712, 0), (281, 5, 202, 3), (285, 1, 7, 16), (289, 4, 160, 2), (292, 13, 18446744073709551614, 0), (294, 13, 18446744073709551604, 0), (296, 13, 18446744073709551603, 0), (298, 13, 18446744073709551605, 0), (300, 5, 210, 2)]
set_option maxRecDepth 20000 in
theorem lkw_7_3 : ∀ w ∈ lkc_7_3.flatMap (lw 7), w ∈ WS := ws_of _ [1176, 1178, 50, 71, 1180, 1182, 51, 71, 1157, 1158, 71, 1160, 1162, 46, 71, 1172, 1174, 49, 71, 1188, 1189, 71, 1203, 1205, 52, 71, 1211, 1212, 1225, 1227, 54, 71, 1221, 1223, 53, 71, 1229, 1231, 55, 71, 1258, 1259, 1253, 1254, 1256, 56, 71, 1264, 1265, 1266, 71, 929, 1292, 1083, 1084, 71, 1297, 1298, 1299, 1300, 1301, 1302, 71] (by decide +kernel) (by decide +kernel)
theorem lkw_7 : ∀ e ∈ lkl_7, ∀ w ∈ lw 7 e, w ∈ WS := by
  have h : lkl_7 = lkc_7_0 ++ (lkc_7_1 ++ (lkc_7_2 ++ (lkc_7_3))) := by decide +kernel
  intro e he w hw
  rw [h] at he
  simp only [List.mem_append] at he
  rcases he with he | he | he | he
  · exact lkw_7_0 w (List.mem_flatMap.mpr ⟨e, he, hw⟩)
  · exact lkw_7_1 w (List.mem_flatMap.mpr ⟨e, he, hw⟩)
  · exact lkw_7_2 w (List.mem_flatMap.mpr ⟨e, he, hw⟩)
  · exact lkw_7_3 w (List.mem_flatMap.mpr ⟨e, he, hw⟩)
def lkc_8_0 : List lE := [(9, 16, 0, 0), (15, 16, 1, 0), (38, 3, 2, 0), (335, 15, 5, 0), (492, 15, 6, 0), (495, 5, 8, 2), (505, 15, 1, 0), (633, 15, 4, 2), (637, 5, 10, 4), (1053, 3, 3, 0), (1059, 5, 12, 3)]
set_option maxRecDepth 20000 in
theorem lkw_8_0 : ∀ w ∈ lkc_8_0.flatMap (lw 8), w ∈ WS := ws_of _ [1304, 1305, 264, 260, 261, 262, 65, 270, 271, 272, 65, 274, 275, 66, 357, 257, 258, 65, 353, 354, 355, 65, 358, 359, 66, 280, 282, 283, 67] (by decide +kernel) (by decide +kernel)
theorem lkw_8 : ∀ e ∈ lkl_8, ∀ w ∈ lw 8 e, w ∈ WS := by
  have h : lkl_8 = lkc_8_0 := by decide +kernel
  intro e he w hw
  rw [h] at he
  exact lkw_8_0 w (List.mem_flatMap.mpr ⟨e, he, hw⟩)
def lkc_9_0 : List lE := [(9, 6, 83, 0), (12, 6, 134, 0), (13, 4, 84, 1), (17, 4, 140, 1), (18, 4, 85, 2), (22, 4, 141, 2), (23, 4, 86, 6), (27, 4, 143, 6), (28, 4, 87, 0), (32, 4, 154, 0), (33, 4, 88, 1), (36, 4, 157, 1), (37, 4, 89, 3), (41, 4, 159, 3), (42, 4, 90, 2), (45, 4, 160, 2), (46, 4, 91, 3), (49, 4, 162, 3), (50, 4, 92, 2), (53, 4, 163, 2), (54, 4, 93, 2), (57, 4, 164, 2), (58, 4, 94, 3), (61, 4, 165, 3), (62, 4, 95, 1)]
set_option maxRecDepth 20000 in
theorem lkw_9_0 : ∀ w ∈ lkc_9_0.flatMap (lw 9), w ∈ WS := ws_of _ [75, 76, 58, 862, 863, 71, 481, 482, 483, 58, 1040, 1041, 1042, 71, 485, 486, 487, 58, 1044, 1045, 1046, 71, 492, 493, 494, 58, 1048, 1049, 1050, 71, 499, 500, 501, 58, 1055, 867, 868, 71, 503, 504, 505, 58, 1056, 1057, 1058, 71, 507, 508, 509, 58, 1060, 1061, 1062, 71, 535, 536, 537, 58, 1082, 1083, 1084, 71, 550, 551, 552, 58, 1086, 1087, 1088, 71, 564, 565, 566, 58, 1093, 1094, 1095, 71, 568, 569, 570, 58, 1097, 1098, 1099, 71, 579, 580, 581, 58, 1101, 1102, 1103, 71, 591, 588, 589, 58] (by decide +kernel) (by decide +kernel)
def lkc_9_1 : List lE := [(65, 4, 166, 1), (66, 4, 96, 0), (69, 4, 178, 0), (70, 4, 97, 2), (73, 4, 184, 2), (74, 4, 99, 3), (77, 4, 186, 3), (78, 4, 100, 3), (81, 4, 187, 3), (82, 4, 101, 2), (85, 4, 188, 2), (86, 4, 102, 2), (89, 4, 189, 2), (90, 4, 103, 3), (93, 4, 190, 3), (94, 4, 104, 3), (97, 4, 191, 3), (98, 4, 106, 2), (101, 4, 195, 2), (102, 4, 107, 4), (106, 4, 196, 4), (107, 4, 108, 2), (110, 4, 197, 2), (111, 4, 109, 2), (114, 4, 198, 2)]
set_option maxRecDepth 20000 in
theorem lkw_9_1 : ∀ w ∈ lkc_9_1.flatMap (lw 9), w ∈ WS := ws_of _ [1113, 1110, 1111, 71, 592, 593, 594, 58, 1114, 1115, 1116, 71, 640, 641, 642, 58, 1153, 1154, 1155, 71, 691, 692, 693, 58, 1184, 1185, 1186, 71, 703, 704, 705, 58, 1191, 1192, 1193, 71, 707, 708, 709, 58, 1195, 1196, 1197, 71, 711, 712, 713, 58, 1199, 1200, 1201, 71, 724, 725, 726, 58, 1207, 1208, 1209, 71, 730, 731, 732, 58, 1213, 1214, 1215, 71, 738, 739, 740, 58, 1217, 1218, 1219, 71, 757, 758, 759, 58, 1233, 1234, 1235, 71, 761, 762, 763, 58, 1237, 1238, 1239, 71, 765, 766, 767, 58, 1241, 1242, 1243, 71] (by decide +kernel) (by decide +kernel)
def lkc_9_2 : List lE := [(115, 4, 110, 2), (118, 4, 199, 2), (119, 4, 112, 3), (122, 4, 201, 3), (123, 4, 113, 5), (127, 4, 203, 5), (128, 4, 115, 0), (131, 4, 204, 0), (132, 4, 116, 0), (135, 4, 205, 0), (136, 4, 117, 3), (139, 4, 206, 3), (140, 4, 118, 3), (143, 4, 207, 3), (144, 4, 119, 5), (148, 4, 208, 5), (149, 4, 120, 4), (152, 4, 209, 4), (153, 4, 121, 2), (157, 4, 211, 2), (65543, 10, 6, 9), (65546, 10, 7, 42)]
set_option maxRecDepth 20000 in
theorem lkw_9_2 : ∀ w ∈ lkc_9_2.flatMap (lw 9), w ∈ WS := ws_of _ [769, 770, 771, 58, 1245, 1246, 1247, 71, 781, 782, 783, 58, 1249, 1250, 1251, 71, 804, 805, 806, 58, 1260, 1261, 1262, 71, 812, 813, 814, 58, 1268, 1269, 1270, 71, 816, 817, 818, 58, 1272, 1273, 1274, 71, 820, 821, 822, 58, 1276, 1277, 1278, 71, 824, 825, 826, 58, 1280, 1281, 1282, 71, 832, 833, 834, 58, 1284, 1285, 1286, 71, 841, 842, 843, 58, 1288, 1289, 1290, 71, 846, 847, 848, 58, 1293, 1294, 1295, 71, 73, 74, 58, 860, 861, 71] (by decide +kernel) (by decide +kernel)
theorem lkw_9 : ∀ e ∈ lkl_9, ∀ w ∈ lw 9 e, w ∈ WS := by
  have h : lkl_9 = lkc_9_0 ++ (lkc_9_1 ++ (lkc_9_2)) := by decide +kernel
  intro e he w hw
  rw [h] at he
  simp only [List.mem_append] at he
  rcases he with he | he | he
  · exact lkw_9_0 w (List.mem_flatMap.mpr ⟨e, he, hw⟩)
  · exact lkw_9_1 w (List.mem_flatMap.mpr ⟨e, he, hw⟩)
  · exact lkw_9_2 w (List.mem_flatMap.mpr ⟨e, he, hw⟩)
def lkc_10_0 : List lE := [(9, 5, 7, 2), (38, 5, 14, 2), (88, 5, 9, 1), (92, 5, 13, 2), (95, 5, 11, 4)]
set_option maxRecDepth 20000 in
theorem lkw_10_0 : ∀ w ∈ lkc_10_0.flatMap (lw 10), w ∈ WS := ws_of _ [277, 278, 65, 367, 368, 69, 361, 362, 66, 364, 365, 69, 370, 371, 66] (by decide +kernel) (by decide +kernel)
theorem lkw_10 : ∀ e ∈ lkl_10, ∀ w ∈ lw 10 e, w ∈ WS := by
  have h : lkl_10 = lkc_10_0 := by decide +kernel
  intro e he w hw
  rw [h] at he
  exact lkw_10_0 w (List.mem_flatMap.mpr ⟨e, he, hw⟩)
theorem lkw (c i : Nat) (hk : (lk c i).1 ≠ 0) : ∀ w ∈ lw c (i, lk c i), w ∈ WS := by
  have key : ∀ c : Nat, ∀ e ∈ lkl c, ∀ w ∈ lw c e, w ∈ WS := by
    intro c
    match c with
    | 0 => exact lkw_0
    | 1 => exact lkw_1
    | 2 => exact lkw_2
    | 3 => exact lkw_3
    | 4 => exact lkw_4
    | 5 => exact lkw_5
    | 6 => exact lkw_6
    | 7 => exact lkw_7
    | 8 => exact lkw_8
    | 9 => exact lkw_9
    | 10 => exact lkw_10
    | 11 => exact fun e he => absurd he List.not_mem_nil
    | 12 => exact fun e he => absurd he List.not_mem_nil
    | c + 13 => exact fun e he => absurd he List.not_mem_nil
  intro w hw
  unfold lk at hk hw
  cases hf : (lkl c).find? (fun e => e.1 == i) with
  | none => rw [hf] at hk; exact absurd rfl hk
  | some e =>
    rw [hf] at hw
    have h1 := List.find?_some hf
    simp only [beq_iff_eq] at h1
    refine key c e (List.mem_of_find?_eq_some hf) w ?_
    rw [← h1] at hw
    exact hw
theorem ws_of2 (ws : List Cond) (ps : List Nat) (hp : ws = ps.filterMap (fun i => lw_tbl[i]?)) (h : ws.all goodWord = true) : ∀ w ∈ ws, w ∈ WS := by
  intro w hw
  refine List.mem_filter.mpr ⟨?_, List.all_eq_true.mp h w hw⟩
  rw [hp] at hw
  obtain ⟨i, -, hi⟩ := List.mem_filterMap.mp hw
  exact List.mem_of_getElem? hi
set_option maxRecDepth 20000 in
theorem cwd_1 : ∀ w ∈ [cwd 1, cwd 2, cwd 3, cwd 4, cwd 5, cwd 6, cwd 7, cwd 8, cwd 9, cwd 10, cwd 11, cwd 12], w ∈ WS := ws_of2 _ [259, 269, 352, 356, 263, 273, 279, 276, 363, 360, 372, 284] rfl (by decide +kernel)
set_option maxRecDepth 20000 in
theorem cwd_13 : ∀ w ∈ [cwd 13, cwd 14, cwd 15, cwd 16, cwd 17, cwd 18, cwd 19, cwd 20, cwd 21, cwd 22, cwd 23, cwd 24], w ∈ WS := ws_of2 _ [366, 369, 221, 315, 427, 447, 526, 529, 532, 212, 793, 801] rfl (by decide +kernel)
set_option maxRecDepth 20000 in
theorem cwd_25 : ∀ w ∈ [cwd 25, cwd 26, cwd 27, cwd 28, cwd 29, cwd 30, cwd 31, cwd 32, cwd 33, cwd 34, cwd 35, cwd 36], w ∈ WS := ws_of2 _ [92, 549, 664, 559, 563, 617, 857, 630, 635, 622, 179, 307] rfl (by decide +kernel)
set_option maxRecDepth 20000 in
theorem cwd_37 : ∀ w ∈ [cwd 37, cwd 38, cwd 39, cwd 40, cwd 41, cwd 42, cwd 43, cwd 44, cwd 45, cwd 46, cwd 47, cwd 48], w ∈ WS := ws_of2 _ [451, 311, 411, 415, 419, 443, 431, 423, 435, 439, 319, 329] rfl (by decide +kernel)
set_option maxRecDepth 20000 in
theorem cwd_49 : ∀ w ∈ [cwd 49, cwd 50, cwd 51, cwd 52, cwd 53, cwd 54, cwd 55, cwd 56, cwd 57, cwd 58, cwd 59, cwd 60], w ∈ WS := ws_of2 _ [336, 343, 347, 322, 325, 339, 85, 514, 586, 545, 578, 718] rfl (by decide +kernel)
set_option maxRecDepth 20000 in
theorem cwd_61 : ∀ w ∈ [cwd 61, cwd 62, cwd 63, cwd 64, cwd 65, cwd 66, cwd 67, cwd 68, cwd 69, cwd 70, cwd 71, cwd 72], w ∈ WS := ws_of2 _ [660, 599, 797, 603, 607, 612, 626, 518, 522, 676, 639, 681] rfl (by decide +kernel)
set_option maxRecDepth 20000 in
theorem cwd_73 : ∀ w ∈ [cwd 73, cwd 74, cwd 75, cwd 76, cwd 77, cwd 78, cwd 79, cwd 80, cwd 81, cwd 82, cwd 83, cwd 84], w ∈ WS := ws_of2 _ [723, 685, 690, 756, 239, 752, 776, 831, 839, 780, 77, 484] rfl (by decide +kernel)
set_option maxRecDepth 20000 in
theorem cwd_85 : ∀ w ∈ [cwd 85, cwd 86, cwd 87, cwd 88, cwd 89, cwd 90, cwd 91, cwd 92, cwd 93, cwd 94, cwd 95, cwd 96], w ∈ WS := ws_of2 _ [488, 495, 502, 506, 510, 538, 553, 567, 571, 582, 590, 595] rfl (by decide +kernel)
set_option maxRecDepth 20000 in
theorem cwd_97 : ∀ w ∈ [cwd 97, cwd 98, cwd 99, cwd 100, cwd 101, cwd 102, cwd 103, cwd 104, cwd 105, cwd 106, cwd 107, cwd 108], w ∈ WS := ws_of2 _ [643, 652, 694, 706, 710, 714, 727, 733, 737, 741, 760, 764] rfl (by decide +kernel)
set_option maxRecDepth 20000 in
theorem cwd_109 : ∀ w ∈ [cwd 109, cwd 110, cwd 111, cwd 112, cwd 113, cwd 114, cwd 115, cwd 116, cwd 117, cwd 118, cwd 119, cwd 120], w ∈ WS := ws_of2 _ [768, 772, 745, 784, 807, 811, 815, 819, 823, 827, 835, 844] rfl (by decide +kernel)
set_option maxRecDepth 20000 in
theorem cwd_121 : ∀ w ∈ [cwd 121, cwd 122, cwd 123, cwd 124, cwd 125, cwd 126, cwd 127, cwd 128, cwd 129, cwd 130, cwd 131, cwd 132], w ∈ WS := ws_of2 _ [849, 656, 672, 702, 789, 491, 498, 541, 574, 646, 649, 697] rfl (by decide +kernel)
set_option maxRecDepth 20000 in
theorem cwd_133 : ∀ w ∈ [cwd 133, cwd 134, cwd 135, cwd 136, cwd 137, cwd 138, cwd 139, cwd 140, cwd 141, cwd 142, cwd 143, cwd 144], w ∈ WS := ws_of2 _ [748, 864, 876, 1074, 1067, 1108, 1159, 1043, 1047, 1054, 1051, 880] rfl (by decide +kernel)
set_option maxRecDepth 20000 in
theorem cwd_145 : ∀ w ∈ [cwd 145, cwd 146, cwd 147, cwd 148, cwd 149, cwd 150, cwd 151, cwd 152, cwd 153, cwd 154, cwd 155, cwd 156], w ∈ WS := ws_of2 _ [873, 896, 889, 893, 904, 900, 912, 908, 884, 869, 1081, 1078] rfl (by decide +kernel)
set_option maxRecDepth 20000 in
theorem cwd_157 : ∀ w ∈ [cwd 157, cwd 158, cwd 159, cwd 160, cwd 161, cwd 162, cwd 163, cwd 164, cwd 165, cwd 166, cwd 167, cwd 168], w ∈ WS := ws_of2 _ [1059, 1071, 1063, 1085, 1092, 1089, 1096, 1100, 1104, 1112, 1144, 1148] rfl (by decide +kernel)
set_option maxRecDepth 20000 in
theorem cwd_169 : ∀ w ∈ [cwd 169, cwd 170, cwd 171, cwd 172, cwd 173, cwd 174, cwd 175, cwd 176, cwd 177, cwd 178, cwd 179, cwd 180], w ∈ WS := ws_of2 _ [1136, 1128, 1132, 1140, 1125, 1121, 1152, 1179, 1206, 1117, 1167, 1171] rfl (by decide +kernel)
set_option maxRecDepth 20000 in
theorem cwd_181 : ∀ w ∈ [cwd 181, cwd 182, cwd 183, cwd 184, cwd 185, cwd 186, cwd 187, cwd 188, cwd 189, cwd 190, cwd 191, cwd 192], w ∈ WS := ws_of2 _ [1163, 1183, 1175, 1156, 1190, 1187, 1194, 1198, 1202, 1210, 1216, 1228] rfl (by decide +kernel)
set_option maxRecDepth 20000 in
theorem cwd_193 : ∀ w ∈ [cwd 193, cwd 194, cwd 195, cwd 196, cwd 197, cwd 198, cwd 199, cwd 200, cwd 201, cwd 202, cwd 203, cwd 204], w ∈ WS := ws_of2 _ [1224, 1232, 1220, 1236, 1240, 1244, 1248, 1257, 1252, 1267, 1263, 1271] rfl (by decide +kernel)
set_option maxRecDepth 20000 in
theorem cwd_205 : ∀ w ∈ [cwd 205, cwd 206, cwd 207, cwd 208, cwd 209, cwd 210, cwd 211], w ∈ WS := ws_of2 _ [1275, 1279, 1283, 1287, 1291, 1303, 1296] rfl (by decide +kernel)
set_option maxRecDepth 20000 in
theorem ws_obj : Cond.code Lib.objectInit ⟨#[0xb1]⟩ 1 none ∈ WS := ws_of2 [.code Lib.objectInit ⟨#[0xb1]⟩ 1 none] [80] rfl (by decide +kernel) _ List.mem_cons_self
theorem nnm0 : ∀ a, a < 4 → ∀ b, b < 4 → a ≠ b → (nT0 a).2.1 ≠ (nT0 b).2.1 := by decide +kernel
theorem nok0 : ∀ k, k < 4 → parseFieldDescriptor (nT0 k).2.2.1 = some (nty0 k) := by decide +kernel
theorem nin0 : ∀ w ∈ u_ws "ThrownBack$Law" nT0 4, w ∈ WS := ws_of _ [227, 229, 231, 233] (by decide +kernel) (by decide +kernel)
theorem nnm1 : ∀ a, a < 1 → ∀ b, b < 1 → a ≠ b → (nT1 a).2.1 ≠ (nT1 b).2.1 := by decide +kernel
theorem nok1 : ∀ k, k < 1 → parseFieldDescriptor (nT1 k).2.2.1 = some (nty1 k) := by decide +kernel
theorem nin1 : ∀ w ∈ u_ws "ThrownBack$Lots" nT1 1, w ∈ WS := ws_of _ [215] (by decide +kernel) (by decide +kernel)
theorem nnm2 : ∀ a, a < 9 → ∀ b, b < 9 → a ≠ b → (nT2 a).2.1 ≠ (nT2 b).2.1 := by decide +kernel
theorem nok2 : ∀ k, k < 9 → parseFieldDescriptor (nT2 k).2.2.1 = some (nty2 k) := by decide +kernel
theorem nin2 : ∀ w ∈ u_ws "ThrownBack$Owner" nT2 9, w ∈ WS := ws_of _ [112, 114, 116, 118, 120, 122, 124, 126, 128] (by decide +kernel) (by decide +kernel)
theorem nnm3 : ∀ a, a < 7 → ∀ b, b < 7 → a ≠ b → (nT3 a).2.1 ≠ (nT3 b).2.1 := by decide +kernel
theorem nok3 : ∀ k, k < 7 → parseFieldDescriptor (nT3 k).2.2.1 = some (nty3 k) := by decide +kernel
theorem nin3 : ∀ w ∈ u_ws "ThrownBack$Reader" nT3 7, w ∈ WS := ws_of _ [189, 191, 193, 195, 197, 199, 201] (by decide +kernel) (by decide +kernel)
theorem nnm4 : ∀ a, a < 11 → ∀ b, b < 11 → a ≠ b → (nT4 a).2.1 ≠ (nT4 b).2.1 := by decide +kernel
theorem nok4 : ∀ k, k < 11 → parseFieldDescriptor (nT4 k).2.2.1 = some (nty4 k) := by decide +kernel
theorem nin4 : ∀ w ∈ u_ws "ThrownBack$Road" nT4 11, w ∈ WS := ws_of _ [152, 154, 156, 158, 160, 162, 164, 166, 168, 170, 172] (by decide +kernel) (by decide +kernel)
theorem nnm5 : ∀ a, a < 3 → ∀ b, b < 3 → a ≠ b → (nT5 a).2.1 ≠ (nT5 b).2.1 := by decide +kernel
theorem nok5 : ∀ k, k < 3 → parseFieldDescriptor (nT5 k).2.2.1 = some (nty5 k) := by decide +kernel
theorem nin5 : ∀ w ∈ u_ws "ThrownBack$Sheet" nT5 3, w ∈ WS := ws_of _ [248, 250, 252] (by decide +kernel) (by decide +kernel)
theorem nnm6 : ∀ a, a < 9 → ∀ b, b < 9 → a ≠ b → (nT6 a).2.1 ≠ (nT6 b).2.1 := by decide +kernel
theorem nok6 : ∀ k, k < 9 → parseFieldDescriptor (nT6 k).2.2.1 = some (nty6 k) := by decide +kernel
theorem nin6 : ∀ w ∈ u_ws "ThrownBack" nT6 9, w ∈ WS := ws_of _ [461, 463, 465, 467, 469, 471, 473, 475, 477] (by decide +kernel) (by decide +kernel)
theorem nnm7 : ∀ a, a < 42 → ∀ b, b < 42 → a ≠ b → (nT7 a).2.1 ≠ (nT7 b).2.1 := by decide +kernel
theorem nok7 : ∀ k, k < 42 → parseFieldDescriptor (nT7 k).2.2.1 = some (nty7 k) := by decide +kernel
theorem nin7 : ∀ w ∈ u_ws "ThrownBackModel" nT7 42, w ∈ WS := ws_of _ [955, 957, 959, 961, 963, 965, 967, 969, 971, 973, 975, 977, 979, 981, 983, 985, 987, 989, 991, 993, 995, 997, 999, 1001, 1003, 1005, 1007, 1009, 1011, 1013, 1015, 1017, 1019, 1021, 1023, 1025, 1027, 1029, 1031, 1033, 1035, 1037] (by decide +kernel) (by decide +kernel)
theorem ws_arrI : Cond.arrayClass .int ∈ WS := ws_of [.arrayClass .int] [131] (by decide +kernel) (by decide +kernel) _ List.mem_cons_self
