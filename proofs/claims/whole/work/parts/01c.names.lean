/-! ===== BEGIN printed: names, fields, word lists, decode rows ===== -/
def RX0 : String := "HiveYard$Content"
def TX0 : u_T := fun k => match k with
  | 0 => ("HiveYard$Content", "sort", "I", true)
  | _ => ("HiveYard$Content", "cells", "[J", true)
def tyX0 : Nat → FieldType := fun k => match k with
  | 0 => .int
  | _ => .array .long
abbrev wsX00 : List Cond := u_ws RX0 TX0 2
theorem nmX0 : ∀ a, a < 2 → ∀ b, b < 2 → a ≠ b → (TX0 a).2.1 ≠ (TX0 b).2.1 := by decide +kernel
theorem tyX0_ok : ∀ k, k < 2 → parseFieldDescriptor (TX0 k).2.2.1 = some (tyX0 k) := by decide +kernel
abbrev cX0_init : ByteArray := prog_2_method_1_code
def yX0_init : MethodName := ⟨RX0, "<init>", "(I[J)V"⟩
def RX1 : String := "HiveYard"
def TX1 : u_T := fun k => match k with
  | 0 => ("HiveYard", "boxes", "[LHiveYard$Content;", true)
  | 1 => ("HiveYard", "oneLid", "LHiveYard$Content;", true)
  | 2 => ("HiveYard", "kindOfComb", "[I", true)
  | 3 => ("HiveYard", "weightOfComb", "[I", true)
  | 4 => ("HiveYard", "movesByEnd", "[I", true)
  | 5 => ("HiveYard", "rowsMade", "I", false)
  | 6 => ("HiveYard", "combsMade", "I", false)
  | 7 => ("HiveYard", "movesMade", "I", false)
  | 8 => ("HiveYard", "latestMoved", "I", false)
  | _ => ("HiveYard", "placesMoved", "I", false)
def tyX1 : Nat → FieldType := fun k => match k with
  | 0 => .array (.object "HiveYard$Content")
  | 1 => .object "HiveYard$Content"
  | 2 => .array .int
  | 3 => .array .int
  | 4 => .array .int
  | 5 => .int
  | 6 => .int
  | 7 => .int
  | 8 => .int
  | _ => .int
abbrev wsX10 : List Cond := u_ws RX1 TX1 10
theorem nmX1 : ∀ a, a < 10 → ∀ b, b < 10 → a ≠ b → (TX1 a).2.1 ≠ (TX1 b).2.1 := by decide +kernel
theorem tyX1_ok : ∀ k, k < 10 → parseFieldDescriptor (TX1 k).2.2.1 = some (tyX1 k) := by decide +kernel
abbrev cX1_init : ByteArray := prog_1_method_1_code
def yX1_init : MethodName := ⟨RX1, "<init>", "()V"⟩
abbrev cX1_row : ByteArray := prog_1_method_2_code
def yX1_row : MethodName := ⟨RX1, "row", "(III)Z"⟩
abbrev cX1_lid : ByteArray := prog_1_method_3_code
def yX1_lid : MethodName := ⟨RX1, "lid", "(I)Z"⟩
abbrev cX1_clear : ByteArray := prog_1_method_4_code
def yX1_clear : MethodName := ⟨RX1, "clear", "(I)Z"⟩
abbrev cX1_share : ByteArray := prog_1_method_5_code
def yX1_share : MethodName := ⟨RX1, "share", "(II)I"⟩
abbrev cX1_put : ByteArray := prog_1_method_6_code
def yX1_put : MethodName := ⟨RX1, "put", "(IIJ)J"⟩
abbrev cX1_lay : ByteArray := prog_1_method_7_code
def yX1_lay : MethodName := ⟨RX1, "lay", "(III)I"⟩
abbrev cX1_lift : ByteArray := prog_1_method_8_code
def yX1_lift : MethodName := ⟨RX1, "lift", "(II)I"⟩
abbrev cX1_move : ByteArray := prog_1_method_9_code
def yX1_move : MethodName := ⟨RX1, "move", "(IIIII)I"⟩
abbrev cX1_pour : ByteArray := prog_1_method_10_code
def yX1_pour : MethodName := ⟨RX1, "pour", "(II)I"⟩
abbrev cX1_moved : ByteArray := prog_1_method_11_code
def yX1_moved : MethodName := ⟨RX1, "moved", "()I"⟩
abbrev cX1_at : ByteArray := prog_1_method_12_code
def yX1_at : MethodName := ⟨RX1, "at", "(II)J"⟩
abbrev cX1_holds : ByteArray := prog_1_method_13_code
def yX1_holds : MethodName := ⟨RX1, "holds", "(I)I"⟩
abbrev cX1_places : ByteArray := prog_1_method_14_code
def yX1_places : MethodName := ⟨RX1, "places", "(I)I"⟩
abbrev cX1_same : ByteArray := prog_1_method_15_code
def yX1_same : MethodName := ⟨RX1, "same", "(II)Z"⟩
abbrev cX1_all : ByteArray := prog_1_method_16_code
def yX1_all : MethodName := ⟨RX1, "all", "(I)J"⟩
abbrev cX1_feed : ByteArray := prog_1_method_17_code
def yX1_feed : MethodName := ⟨RX1, "feed", "(II)I"⟩
abbrev cX1_kind : ByteArray := prog_1_method_18_code
def yX1_kind : MethodName := ⟨RX1, "kind", "(I)I"⟩
abbrev cX1_count : ByteArray := prog_1_method_19_code
def yX1_count : MethodName := ⟨RX1, "count", "(I)I"⟩
abbrev cX1_countOfEnd : ByteArray := prog_1_method_20_code
def yX1_countOfEnd : MethodName := ⟨RX1, "countOfEnd", "(I)I"⟩
abbrev cX1_requireBox : ByteArray := prog_1_method_21_code
def yX1_requireBox : MethodName := ⟨RX1, "requireBox", "(I)V"⟩
abbrev cX1_contentOf : ByteArray := prog_1_method_22_code
def yX1_contentOf : MethodName := ⟨RX1, "contentOf", "(I)LHiveYard$Content;"⟩
abbrev cX1_requireRow : ByteArray := prog_1_method_23_code
def yX1_requireRow : MethodName := ⟨RX1, "requireRow", "(LHiveYard$Content;)V"⟩
abbrev cX1_requireCombs : ByteArray := prog_1_method_24_code
def yX1_requireCombs : MethodName := ⟨RX1, "requireCombs", "(LHiveYard$Content;)V"⟩
abbrev cX1_requirePlace : ByteArray := prog_1_method_25_code
def yX1_requirePlace : MethodName := ⟨RX1, "requirePlace", "(LHiveYard$Content;I)V"⟩
abbrev cX1_requireComb : ByteArray := prog_1_method_26_code
def yX1_requireComb : MethodName := ⟨RX1, "requireComb", "(I)V"⟩
abbrev cX1_isComb : ByteArray := prog_1_method_27_code
def yX1_isComb : MethodName := ⟨RX1, "isComb", "(J)Z"⟩
abbrev cX1_isRow : ByteArray := prog_1_method_28_code
def yX1_isRow : MethodName := ⟨RX1, "isRow", "(LHiveYard$Content;)Z"⟩
abbrev cX1_isNumbers : ByteArray := prog_1_method_29_code
def yX1_isNumbers : MethodName := ⟨RX1, "isNumbers", "(LHiveYard$Content;)Z"⟩
abbrev cX1_isCombs : ByteArray := prog_1_method_30_code
def yX1_isCombs : MethodName := ⟨RX1, "isCombs", "(LHiveYard$Content;)Z"⟩
abbrev cX1_sortOf : ByteArray := prog_1_method_31_code
def yX1_sortOf : MethodName := ⟨RX1, "sortOf", "(LHiveYard$Content;)I"⟩
abbrev cX1_cellsIn : ByteArray := prog_1_method_32_code
def yX1_cellsIn : MethodName := ⟨RX1, "cellsIn", "(LHiveYard$Content;)I"⟩
abbrev cX1_newRow : ByteArray := prog_1_method_33_code
def yX1_newRow : MethodName := ⟨RX1, "newRow", "(II)LHiveYard$Content;"⟩
abbrev cX1_lowestBits : ByteArray := prog_1_method_34_code
def yX1_lowestBits : MethodName := ⟨RX1, "lowestBits", "(IJ)J"⟩
abbrev cX1_takes : ByteArray := prog_1_method_35_code
def yX1_takes : MethodName := ⟨RX1, "takes", "(II)Z"⟩
abbrev cX1_carry : ByteArray := prog_1_method_36_code
def yX1_carry : MethodName := ⟨RX1, "carry", "(LHiveYard$Content;ILHiveYard$Content;II)I"⟩
abbrev cX1_areUnlike : ByteArray := prog_1_method_37_code
def yX1_areUnlike : MethodName := ⟨RX1, "areUnlike", "(LHiveYard$Content;LHiveYard$Content;)Z"⟩
abbrev cX1_isOutside : ByteArray := prog_1_method_38_code
def yX1_isOutside : MethodName := ⟨RX1, "isOutside", "(LHiveYard$Content;II)Z"⟩
abbrev cX1_howManyFit : ByteArray := prog_1_method_39_code
def yX1_howManyFit : MethodName := ⟨RX1, "howManyFit", "(LHiveYard$Content;ILHiveYard$Content;I)I"⟩
abbrev cX1_ended : ByteArray := prog_1_method_40_code
def yX1_ended : MethodName := ⟨RX1, "ended", "(II)I"⟩
abbrev cX1_sumOfNumbers : ByteArray := prog_1_method_41_code
def yX1_sumOfNumbers : MethodName := ⟨RX1, "sumOfNumbers", "([J)J"⟩
abbrev cX1_sumOfWeights : ByteArray := prog_1_method_42_code
def yX1_sumOfWeights : MethodName := ⟨RX1, "sumOfWeights", "([J)J"⟩
def RX2 : String := "HiveYardModel"
def TX2 : u_T := fun k => match k with
  | 0 => ("HiveYardModel", "thrown", "I", false)
  | 1 => ("HiveYardModel", "boxes", "[I", true)
  | 2 => ("HiveYardModel", "rows", "I", false)
  | 3 => ("HiveYardModel", "sorts", "[I", true)
  | 4 => ("HiveYardModel", "sizes", "[I", true)
  | 5 => ("HiveYardModel", "stands", "[J", true)
  | 6 => ("HiveYardModel", "taken", "[J", true)
  | 7 => ("HiveYardModel", "combs", "I", false)
  | 8 => ("HiveYardModel", "kinds", "[I", true)
  | 9 => ("HiveYardModel", "weights", "[I", true)
  | 10 => ("HiveYardModel", "moved", "I", false)
  | 11 => ("HiveYardModel", "moves", "I", false)
  | 12 => ("HiveYardModel", "allMoved", "I", false)
  | _ => ("HiveYardModel", "ended", "[I", true)
def tyX2 : Nat → FieldType := fun k => match k with
  | 0 => .int
  | 1 => .array .int
  | 2 => .int
  | 3 => .array .int
  | 4 => .array .int
  | 5 => .array .long
  | 6 => .array .long
  | 7 => .int
  | 8 => .array .int
  | 9 => .array .int
  | 10 => .int
  | 11 => .int
  | 12 => .int
  | _ => .array .int
abbrev wsX20 : List Cond := u_ws RX2 TX2 14
theorem nmX2 : ∀ a, a < 14 → ∀ b, b < 14 → a ≠ b → (TX2 a).2.1 ≠ (TX2 b).2.1 := by decide +kernel
theorem tyX2_ok : ∀ k, k < 14 → parseFieldDescriptor (TX2 k).2.2.1 = some (tyX2 k) := by decide +kernel
abbrev cX2_init : ByteArray := prog_4_method_1_code
def yX2_init : MethodName := ⟨RX2, "<init>", "()V"⟩
abbrev cX2_thrown : ByteArray := prog_4_method_2_code
def yX2_thrown : MethodName := ⟨RX2, "thrown", "()I"⟩
abbrev cX2_fail : ByteArray := prog_4_method_3_code
def yX2_fail : MethodName := ⟨RX2, "fail", "(I)I"⟩
abbrev cX2_isBox : ByteArray := prog_4_method_4_code
def yX2_isBox : MethodName := ⟨RX2, "isBox", "(I)Z"⟩
abbrev cX2_isOfCombs : ByteArray := prog_4_method_5_code
def yX2_isOfCombs : MethodName := ⟨RX2, "isOfCombs", "(I)Z"⟩
abbrev cX2_what : ByteArray := prog_4_method_6_code
def yX2_what : MethodName := ⟨RX2, "what", "(I)I"⟩
abbrev cX2_hasRow : ByteArray := prog_4_method_7_code
def yX2_hasRow : MethodName := ⟨RX2, "hasRow", "(I)Z"⟩
abbrev cX2_isPlace : ByteArray := prog_4_method_8_code
def yX2_isPlace : MethodName := ⟨RX2, "isPlace", "(II)Z"⟩
abbrev cX2_takes : ByteArray := prog_4_method_9_code
def yX2_takes : MethodName := ⟨RX2, "takes", "(II)Z"⟩
abbrev cX2_cut : ByteArray := prog_4_method_10_code
def yX2_cut : MethodName := ⟨RX2, "cut", "(IJ)J"⟩
abbrev cX2_row : ByteArray := prog_4_method_11_code
def yX2_row : MethodName := ⟨RX2, "row", "(III)Z"⟩
abbrev cX2_lid : ByteArray := prog_4_method_12_code
def yX2_lid : MethodName := ⟨RX2, "lid", "(I)Z"⟩
abbrev cX2_clear : ByteArray := prog_4_method_13_code
def yX2_clear : MethodName := ⟨RX2, "clear", "(I)Z"⟩
abbrev cX2_share : ByteArray := prog_4_method_14_code
def yX2_share : MethodName := ⟨RX2, "share", "(II)I"⟩
abbrev cX2_barred : ByteArray := prog_4_method_15_code
def yX2_barred : MethodName := ⟨RX2, "barred", "(IIZI)I"⟩
abbrev cX2_put : ByteArray := prog_4_method_16_code
def yX2_put : MethodName := ⟨RX2, "put", "(IIJ)J"⟩
abbrev cX2_lay : ByteArray := prog_4_method_17_code
def yX2_lay : MethodName := ⟨RX2, "lay", "(III)I"⟩
abbrev cX2_lift : ByteArray := prog_4_method_18_code
def yX2_lift : MethodName := ⟨RX2, "lift", "(II)I"⟩
abbrev cX2_isOutside : ByteArray := prog_4_method_19_code
def yX2_isOutside : MethodName := ⟨RX2, "isOutside", "(III)Z"⟩
abbrev cX2_bars : ByteArray := prog_4_method_20_code
def yX2_bars : MethodName := ⟨RX2, "bars", "(IIIII)I"⟩
abbrev cX2_goes : ByteArray := prog_4_method_21_code
def yX2_goes : MethodName := ⟨RX2, "goes", "(IIIII)I"⟩
abbrev cX2_told : ByteArray := prog_4_method_22_code
def yX2_told : MethodName := ⟨RX2, "told", "(I)I"⟩
abbrev cX2_move : ByteArray := prog_4_method_23_code
def yX2_move : MethodName := ⟨RX2, "move", "(IIIII)I"⟩
abbrev cX2_pour : ByteArray := prog_4_method_24_code
def yX2_pour : MethodName := ⟨RX2, "pour", "(II)I"⟩
abbrev cX2_moved : ByteArray := prog_4_method_25_code
def yX2_moved : MethodName := ⟨RX2, "moved", "()I"⟩
abbrev cX2_at : ByteArray := prog_4_method_26_code
def yX2_at : MethodName := ⟨RX2, "at", "(II)J"⟩
abbrev cX2_holds : ByteArray := prog_4_method_27_code
def yX2_holds : MethodName := ⟨RX2, "holds", "(I)I"⟩
abbrev cX2_places : ByteArray := prog_4_method_28_code
def yX2_places : MethodName := ⟨RX2, "places", "(I)I"⟩
abbrev cX2_same : ByteArray := prog_4_method_29_code
def yX2_same : MethodName := ⟨RX2, "same", "(II)Z"⟩
abbrev cX2_all : ByteArray := prog_4_method_30_code
def yX2_all : MethodName := ⟨RX2, "all", "(I)J"⟩
abbrev cX2_isComb : ByteArray := prog_4_method_31_code
def yX2_isComb : MethodName := ⟨RX2, "isComb", "(I)Z"⟩
abbrev cX2_feed : ByteArray := prog_4_method_32_code
def yX2_feed : MethodName := ⟨RX2, "feed", "(II)I"⟩
abbrev cX2_kind : ByteArray := prog_4_method_33_code
def yX2_kind : MethodName := ⟨RX2, "kind", "(I)I"⟩
abbrev cX2_count : ByteArray := prog_4_method_34_code
def yX2_count : MethodName := ⟨RX2, "count", "(I)I"⟩
def RJ9 : String := "java/lang/Math"
def TJ9 : u_T := fun k => match k with
  | _ => ("", "", "", false)
def tyJ9 : Nat → FieldType := fun k => match k with
  | _ => .int
abbrev wsJ90 : List Cond := u_ws RJ9 TJ9 0
theorem nmJ9 : ∀ a, a < 0 → ∀ b, b < 0 → a ≠ b → (TJ9 a).2.1 ≠ (TJ9 b).2.1 := by decide +kernel
theorem tyJ9_ok : ∀ k, k < 0 → parseFieldDescriptor (TJ9 k).2.2.1 = some (tyJ9 k) := by decide +kernel
abbrev cJ9_min_7cf53 : ByteArray := prog_9_method_69_code
def yJ9_min_7cf53 : MethodName := ⟨RJ9, "min", "(II)I"⟩
def RJ0 : String := "java/lang/String"
def TJ0 : u_T := fun k => match k with
  | _ => ("", "", "", false)
def tyJ0 : Nat → FieldType := fun k => match k with
  | _ => .int
abbrev wsJ00 : List Cond := u_ws RJ0 TJ0 0
theorem nmJ0 : ∀ a, a < 0 → ∀ b, b < 0 → a ≠ b → (TJ0 a).2.1 ≠ (TJ0 b).2.1 := by decide +kernel
theorem tyJ0_ok : ∀ k, k < 0 → parseFieldDescriptor (TJ0 k).2.2.1 = some (tyJ0 k) := by decide +kernel
def RJ10 : String := "java/lang/System"
def TJ10 : u_T := fun k => match k with
  | _ => ("", "", "", false)
def tyJ10 : Nat → FieldType := fun k => match k with
  | _ => .int
abbrev wsJ100 : List Cond := u_ws RJ10 TJ10 0
theorem nmJ10 : ∀ a, a < 0 → ∀ b, b < 0 → a ≠ b → (TJ10 a).2.1 ≠ (TJ10 b).2.1 := by decide +kernel
theorem tyJ10_ok : ∀ k, k < 0 → parseFieldDescriptor (TJ10 k).2.2.1 = some (tyJ10 k) := by decide +kernel
def RL : String := "HiveYardLaw"
abbrev cL_row : ByteArray := method_3_code
def yL_row : MethodName := ⟨RL, "row", "(LHiveYard;III[J)I"⟩
abbrev cL_lid : ByteArray := method_4_code
def yL_lid : MethodName := ⟨RL, "lid", "(LHiveYard;I[J)I"⟩
abbrev cL_clear : ByteArray := method_5_code
def yL_clear : MethodName := ⟨RL, "clear", "(LHiveYard;I[J)I"⟩
abbrev cL_share : ByteArray := method_6_code
def yL_share : MethodName := ⟨RL, "share", "(LHiveYard;II[J)I"⟩
abbrev cL_put : ByteArray := method_7_code
def yL_put : MethodName := ⟨RL, "put", "(LHiveYard;IIJ[J)I"⟩
abbrev cL_lay : ByteArray := method_8_code
def yL_lay : MethodName := ⟨RL, "lay", "(LHiveYard;III[J)I"⟩
abbrev cL_lift : ByteArray := method_9_code
def yL_lift : MethodName := ⟨RL, "lift", "(LHiveYard;II[J)I"⟩
abbrev cL_move : ByteArray := method_10_code
def yL_move : MethodName := ⟨RL, "move", "(LHiveYard;IIIII[J)I"⟩
abbrev cL_pour : ByteArray := method_11_code
def yL_pour : MethodName := ⟨RL, "pour", "(LHiveYard;II[J)I"⟩
abbrev cL_at : ByteArray := method_12_code
def yL_at : MethodName := ⟨RL, "at", "(LHiveYard;II[J)I"⟩
abbrev cL_holds : ByteArray := method_13_code
def yL_holds : MethodName := ⟨RL, "holds", "(LHiveYard;I[J)I"⟩
abbrev cL_places : ByteArray := method_14_code
def yL_places : MethodName := ⟨RL, "places", "(LHiveYard;I[J)I"⟩
abbrev cL_same : ByteArray := method_15_code
def yL_same : MethodName := ⟨RL, "same", "(LHiveYard;II[J)I"⟩
abbrev cL_all : ByteArray := method_16_code
def yL_all : MethodName := ⟨RL, "all", "(LHiveYard;I[J)I"⟩
abbrev cL_feed : ByteArray := method_17_code
def yL_feed : MethodName := ⟨RL, "feed", "(LHiveYard;II[J)I"⟩
abbrev cL_kind : ByteArray := method_18_code
def yL_kind : MethodName := ⟨RL, "kind", "(LHiveYard;I[J)I"⟩
def wsX0_init : List Cond := .code yX0_init cX0_init 3 none :: ([.methodLink RX0 1 objectInit, .instanceMethod objectInit, .code objectInit ⟨#[0xb1]⟩ 1 none, .fieldLink RX0 7 "HiveYard$Content" "sort" "I", .fieldLink RX0 13 "HiveYard$Content" "cells" "[J"] ++ wsX00)
def wsX1_init : List Cond := .code yX1_init cX1_init 1 none :: ([.methodLink RX1 1 objectInit, .instanceMethod objectInit, .code objectInit ⟨#[0xb1]⟩ 1 none, .classLink RX1 9 RX0, .fieldLink RX1 11 "HiveYard" "boxes" "[LHiveYard$Content;", .instantiable RX0 2, .initialized RX0, .arrayClass .long, .fieldLink RX1 18 "HiveYard" "oneLid" "LHiveYard$Content;", .arrayClass .int, .fieldLink RX1 22 "HiveYard" "kindOfComb" "[I", .fieldLink RX1 26 "HiveYard" "weightOfComb" "[I", .fieldLink RX1 29 "HiveYard" "movesByEnd" "[I", .methodLink RX1 15 yX0_init, .instanceMethod yX0_init, .code yX0_init cX0_init 3 none, .methodLink RX0 1 objectInit, .fieldLink RX0 7 "HiveYard$Content" "sort" "I", .fieldLink RX0 13 "HiveYard$Content" "cells" "[J"] ++ wsX10 ++ wsX00)
def wsX1_requireBox : List Cond := .code yX1_requireBox cX1_requireBox 1 none :: ([.classLink RX1 152 "java/lang/IndexOutOfBoundsException", .initialized "java/lang/IndexOutOfBoundsException"] ++ (vx_atS RX1 156 "java/lang/IndexOutOfBoundsException" ["java/lang/RuntimeException", "java/lang/Exception"]).filter goodWord)
def wsX1_contentOf : List Cond := .code yX1_contentOf cX1_contentOf 2 (some (.object "HiveYard$Content")) :: ([.fieldLink RX1 11 "HiveYard" "boxes" "[LHiveYard$Content;", .methodLink RX1 58 yX1_requireBox, .static yX1_requireBox, .initialized RX1, .code yX1_requireBox cX1_requireBox 1 none, .classLink RX1 152 "java/lang/IndexOutOfBoundsException", .initialized "java/lang/IndexOutOfBoundsException"] ++ wsX10 ++ (vx_atS RX1 156 "java/lang/IndexOutOfBoundsException" ["java/lang/RuntimeException", "java/lang/Exception"]).filter goodWord)
def wsX1_newRow : List Cond := .code yX1_newRow cX1_newRow 4 (some (.object "HiveYard$Content")) :: ([.arrayClass .long, .constantLong RX1 105 (-1), .classLink RX1 9 RX0, .instantiable RX0 2, .initialized RX0, .methodLink RX1 15 yX0_init, .instanceMethod yX0_init, .code yX0_init cX0_init 3 none, .methodLink RX0 1 objectInit, .instanceMethod objectInit, .code objectInit ⟨#[0xb1]⟩ 1 none, .fieldLink RX0 7 "HiveYard$Content" "sort" "I", .fieldLink RX0 13 "HiveYard$Content" "cells" "[J"] ++ wsX00)
def wsX1_row_r1 : List Cond := [Cond.classLink RX1 36 "java/lang/IllegalArgumentException", Cond.initialized "java/lang/IllegalArgumentException", Cond.classLink RX1 49 "java/lang/UnsupportedOperationException", Cond.initialized "java/lang/UnsupportedOperationException", Cond.fieldLink RX1 45 "HiveYard" "rowsMade" "I", Cond.fieldLink RX1 11 "HiveYard" "boxes" "[LHiveYard$Content;", Cond.methodLink RX1 32 yX1_contentOf, Cond.instanceMethod yX1_contentOf, Cond.selects RX1 yX1_contentOf yX1_contentOf, Cond.initialized RX1, Cond.code yX1_contentOf cX1_contentOf 2 (some (.object "HiveYard$Content")), Cond.methodLink RX1 58 yX1_requireBox, Cond.static yX1_requireBox, Cond.code yX1_requireBox cX1_requireBox 1 none, Cond.classLink RX1 152 "java/lang/IndexOutOfBoundsException", Cond.initialized "java/lang/IndexOutOfBoundsException", Cond.methodLink RX1 54 yX1_newRow, Cond.static yX1_newRow, Cond.code yX1_newRow cX1_newRow 4 (some (.object "HiveYard$Content")), Cond.arrayClass .long, Cond.constantLong RX1 105 (-1), Cond.classLink RX1 9 RX0, Cond.instantiable RX0 2, Cond.initialized RX0]
def wsX1_row_r2 : List Cond := [Cond.methodLink RX1 15 yX0_init, Cond.instanceMethod yX0_init, Cond.code yX0_init cX0_init 3 none, Cond.methodLink RX0 1 objectInit, Cond.instanceMethod objectInit, Cond.code objectInit ⟨#[0xb1]⟩ 1 none, Cond.fieldLink RX0 7 "HiveYard$Content" "sort" "I", Cond.fieldLink RX0 13 "HiveYard$Content" "cells" "[J"]
def wsX1_row : List Cond := .code yX1_row cX1_row 5 (some .boolean) :: ((wsX1_row_r1 ++ wsX1_row_r2) ++ wsX10 ++ wsX00 ++ (vx_atS RX1 40 "java/lang/IllegalArgumentException" ["java/lang/RuntimeException", "java/lang/Exception"]).filter goodWord ++ (vx_atS RX1 53 "java/lang/UnsupportedOperationException" ["java/lang/RuntimeException", "java/lang/Exception"]).filter goodWord ++ (vx_atS RX1 156 "java/lang/IndexOutOfBoundsException" ["java/lang/RuntimeException", "java/lang/Exception"]).filter goodWord)
def wsX1_lid : List Cond := .code yX1_lid cX1_lid 3 (some .boolean) :: ([.fieldLink RX1 11 "HiveYard" "boxes" "[LHiveYard$Content;", .fieldLink RX1 18 "HiveYard" "oneLid" "LHiveYard$Content;", .methodLink RX1 32 yX1_contentOf, .instanceMethod yX1_contentOf, .selects RX1 yX1_contentOf yX1_contentOf, .initialized RX1, .code yX1_contentOf cX1_contentOf 2 (some (.object "HiveYard$Content")), .methodLink RX1 58 yX1_requireBox, .static yX1_requireBox, .code yX1_requireBox cX1_requireBox 1 none, .classLink RX1 152 "java/lang/IndexOutOfBoundsException", .initialized "java/lang/IndexOutOfBoundsException"] ++ wsX10 ++ (vx_atS RX1 156 "java/lang/IndexOutOfBoundsException" ["java/lang/RuntimeException", "java/lang/Exception"]).filter goodWord)
def wsX1_clear : List Cond := .code yX1_clear cX1_clear 3 (some .boolean) :: ([.fieldLink RX1 11 "HiveYard" "boxes" "[LHiveYard$Content;", .methodLink RX1 32 yX1_contentOf, .instanceMethod yX1_contentOf, .selects RX1 yX1_contentOf yX1_contentOf, .initialized RX1, .code yX1_contentOf cX1_contentOf 2 (some (.object "HiveYard$Content")), .methodLink RX1 58 yX1_requireBox, .static yX1_requireBox, .code yX1_requireBox cX1_requireBox 1 none, .classLink RX1 152 "java/lang/IndexOutOfBoundsException", .initialized "java/lang/IndexOutOfBoundsException"] ++ wsX10 ++ (vx_atS RX1 156 "java/lang/IndexOutOfBoundsException" ["java/lang/RuntimeException", "java/lang/Exception"]).filter goodWord)
def wsX1_sortOf : List Cond := .code yX1_sortOf cX1_sortOf 1 (some .int) :: ([.fieldLink RX1 83 "HiveYard$Content" "sort" "I"] ++ wsX00)
def wsX1_share : List Cond := .code yX1_share cX1_share 4 (some .int) :: ([.fieldLink RX1 11 "HiveYard" "boxes" "[LHiveYard$Content;", .methodLink RX1 58 yX1_requireBox, .static yX1_requireBox, .initialized RX1, .code yX1_requireBox cX1_requireBox 1 none, .classLink RX1 152 "java/lang/IndexOutOfBoundsException", .initialized "java/lang/IndexOutOfBoundsException", .methodLink RX1 32 yX1_contentOf, .instanceMethod yX1_contentOf, .selects RX1 yX1_contentOf yX1_contentOf, .code yX1_contentOf cX1_contentOf 2 (some (.object "HiveYard$Content")), .methodLink RX1 62 yX1_sortOf, .static yX1_sortOf, .code yX1_sortOf cX1_sortOf 1 (some .int), .fieldLink RX1 83 "HiveYard$Content" "sort" "I"] ++ wsX10 ++ wsX00 ++ (vx_atS RX1 156 "java/lang/IndexOutOfBoundsException" ["java/lang/RuntimeException", "java/lang/Exception"]).filter goodWord)
def wsX1_isRow : List Cond := .code yX1_isRow cX1_isRow 1 (some .boolean) :: ([.fieldLink RX1 83 "HiveYard$Content" "sort" "I"] ++ wsX00)
def wsX1_isNumbers : List Cond := .code yX1_isNumbers cX1_isNumbers 1 (some .boolean) :: ([.fieldLink RX1 83 "HiveYard$Content" "sort" "I", .methodLink RX1 126 yX1_isRow, .static yX1_isRow, .initialized RX1, .code yX1_isRow cX1_isRow 1 (some .boolean)] ++ wsX00)
def wsX1_requirePlace : List Cond := .code yX1_requirePlace cX1_requirePlace 2 none :: ([.classLink RX1 161 "java/util/NoSuchElementException", .initialized "java/util/NoSuchElementException", .fieldLink RX1 79 "HiveYard$Content" "cells" "[J"] ++ wsX00 ++ (hy_atN RX1 165 "java/util/NoSuchElementException" ["java/lang/RuntimeException", "java/lang/Exception"]).filter goodWord)
def wsX1_lowestBits : List Cond := .code yX1_lowestBits cX1_lowestBits 3 (some .long) :: ([])
def wsX1_put_r1 : List Cond := [Cond.classLink RX1 70 "java/lang/IllegalStateException", Cond.initialized "java/lang/IllegalStateException", Cond.fieldLink RX1 79 "HiveYard$Content" "cells" "[J", Cond.fieldLink RX1 83 "HiveYard$Content" "sort" "I", Cond.methodLink RX1 32 yX1_contentOf, Cond.instanceMethod yX1_contentOf, Cond.selects RX1 yX1_contentOf yX1_contentOf, Cond.initialized RX1, Cond.code yX1_contentOf cX1_contentOf 2 (some (.object "HiveYard$Content")), Cond.fieldLink RX1 11 "HiveYard" "boxes" "[LHiveYard$Content;", Cond.methodLink RX1 58 yX1_requireBox, Cond.static yX1_requireBox, Cond.code yX1_requireBox cX1_requireBox 1 none, Cond.classLink RX1 152 "java/lang/IndexOutOfBoundsException", Cond.initialized "java/lang/IndexOutOfBoundsException", Cond.methodLink RX1 66 yX1_isNumbers, Cond.static yX1_isNumbers, Cond.code yX1_isNumbers cX1_isNumbers 1 (some .boolean), Cond.methodLink RX1 126 yX1_isRow, Cond.static yX1_isRow, Cond.code yX1_isRow cX1_isRow 1 (some .boolean), Cond.methodLink RX1 75 yX1_requirePlace, Cond.static yX1_requirePlace, Cond.code yX1_requirePlace cX1_requirePlace 2 none]
def wsX1_put_r2 : List Cond := [Cond.classLink RX1 161 "java/util/NoSuchElementException", Cond.initialized "java/util/NoSuchElementException", Cond.methodLink RX1 86 yX1_lowestBits, Cond.static yX1_lowestBits, Cond.code yX1_lowestBits cX1_lowestBits 3 (some .long)]
def wsX1_put : List Cond := .code yX1_put cX1_put 8 (some .long) :: ((wsX1_put_r1 ++ wsX1_put_r2) ++ wsX00 ++ wsX10 ++ (vx_atS RX1 74 "java/lang/IllegalStateException" ["java/lang/RuntimeException", "java/lang/Exception"]).filter goodWord ++ (vx_atS RX1 156 "java/lang/IndexOutOfBoundsException" ["java/lang/RuntimeException", "java/lang/Exception"]).filter goodWord ++ (hy_atN RX1 165 "java/util/NoSuchElementException" ["java/lang/RuntimeException", "java/lang/Exception"]).filter goodWord)
def wsX1_isCombs : List Cond := .code yX1_isCombs cX1_isCombs 1 (some .boolean) :: ([.fieldLink RX1 83 "HiveYard$Content" "sort" "I", .methodLink RX1 126 yX1_isRow, .static yX1_isRow, .initialized RX1, .code yX1_isRow cX1_isRow 1 (some .boolean)] ++ wsX00)
def wsX1_requireCombs : List Cond := .code yX1_requireCombs cX1_requireCombs 1 none :: ([.classLink RX1 70 "java/lang/IllegalStateException", .initialized "java/lang/IllegalStateException", .methodLink RX1 129 yX1_isCombs, .static yX1_isCombs, .initialized RX1, .code yX1_isCombs cX1_isCombs 1 (some .boolean), .fieldLink RX1 83 "HiveYard$Content" "sort" "I", .methodLink RX1 126 yX1_isRow, .static yX1_isRow, .code yX1_isRow cX1_isRow 1 (some .boolean)] ++ wsX00 ++ (vx_atS RX1 74 "java/lang/IllegalStateException" ["java/lang/RuntimeException", "java/lang/Exception"]).filter goodWord)
def wsX1_takes : List Cond := .code yX1_takes cX1_takes 3 (some .boolean) :: ([])
def wsX1_lay_r1 : List Cond := [Cond.classLink RX1 36 "java/lang/IllegalArgumentException", Cond.initialized "java/lang/IllegalArgumentException", Cond.classLink RX1 49 "java/lang/UnsupportedOperationException", Cond.initialized "java/lang/UnsupportedOperationException", Cond.fieldLink RX1 96 "HiveYard" "combsMade" "I", Cond.fieldLink RX1 83 "HiveYard$Content" "sort" "I", Cond.fieldLink RX1 22 "HiveYard" "kindOfComb" "[I", Cond.fieldLink RX1 79 "HiveYard$Content" "cells" "[J", Cond.methodLink RX1 32 yX1_contentOf, Cond.instanceMethod yX1_contentOf, Cond.selects RX1 yX1_contentOf yX1_contentOf, Cond.initialized RX1, Cond.code yX1_contentOf cX1_contentOf 2 (some (.object "HiveYard$Content")), Cond.fieldLink RX1 11 "HiveYard" "boxes" "[LHiveYard$Content;", Cond.methodLink RX1 58 yX1_requireBox, Cond.static yX1_requireBox, Cond.code yX1_requireBox cX1_requireBox 1 none, Cond.classLink RX1 152 "java/lang/IndexOutOfBoundsException", Cond.initialized "java/lang/IndexOutOfBoundsException", Cond.methodLink RX1 92 yX1_requireCombs, Cond.static yX1_requireCombs, Cond.code yX1_requireCombs cX1_requireCombs 1 none, Cond.classLink RX1 70 "java/lang/IllegalStateException", Cond.initialized "java/lang/IllegalStateException"]
def wsX1_lay_r2 : List Cond := [Cond.methodLink RX1 129 yX1_isCombs, Cond.static yX1_isCombs, Cond.code yX1_isCombs cX1_isCombs 1 (some .boolean), Cond.methodLink RX1 126 yX1_isRow, Cond.static yX1_isRow, Cond.code yX1_isRow cX1_isRow 1 (some .boolean), Cond.methodLink RX1 75 yX1_requirePlace, Cond.static yX1_requirePlace, Cond.code yX1_requirePlace cX1_requirePlace 2 none, Cond.classLink RX1 161 "java/util/NoSuchElementException", Cond.initialized "java/util/NoSuchElementException", Cond.methodLink RX1 101 yX1_takes, Cond.static yX1_takes, Cond.code yX1_takes cX1_takes 3 (some .boolean)]
def wsX1_lay : List Cond := .code yX1_lay cX1_lay 6 (some .int) :: ((wsX1_lay_r1 ++ wsX1_lay_r2) ++ wsX10 ++ wsX00 ++ (vx_atS RX1 40 "java/lang/IllegalArgumentException" ["java/lang/RuntimeException", "java/lang/Exception"]).filter goodWord ++ (vx_atS RX1 53 "java/lang/UnsupportedOperationException" ["java/lang/RuntimeException", "java/lang/Exception"]).filter goodWord ++ (vx_atS RX1 156 "java/lang/IndexOutOfBoundsException" ["java/lang/RuntimeException", "java/lang/Exception"]).filter goodWord ++ (vx_atS RX1 74 "java/lang/IllegalStateException" ["java/lang/RuntimeException", "java/lang/Exception"]).filter goodWord ++ (hy_atN RX1 165 "java/util/NoSuchElementException" ["java/lang/RuntimeException", "java/lang/Exception"]).filter goodWord)
def wsX1_lift_r1 : List Cond := [Cond.fieldLink RX1 79 "HiveYard$Content" "cells" "[J", Cond.constantLong RX1 105 (-1), Cond.methodLink RX1 32 yX1_contentOf, Cond.instanceMethod yX1_contentOf, Cond.selects RX1 yX1_contentOf yX1_contentOf, Cond.initialized RX1, Cond.code yX1_contentOf cX1_contentOf 2 (some (.object "HiveYard$Content")), Cond.fieldLink RX1 11 "HiveYard" "boxes" "[LHiveYard$Content;", Cond.methodLink RX1 58 yX1_requireBox, Cond.static yX1_requireBox, Cond.code yX1_requireBox cX1_requireBox 1 none, Cond.classLink RX1 152 "java/lang/IndexOutOfBoundsException", Cond.initialized "java/lang/IndexOutOfBoundsException", Cond.methodLink RX1 92 yX1_requireCombs, Cond.static yX1_requireCombs, Cond.code yX1_requireCombs cX1_requireCombs 1 none, Cond.classLink RX1 70 "java/lang/IllegalStateException", Cond.initialized "java/lang/IllegalStateException", Cond.methodLink RX1 129 yX1_isCombs, Cond.static yX1_isCombs, Cond.code yX1_isCombs cX1_isCombs 1 (some .boolean), Cond.fieldLink RX1 83 "HiveYard$Content" "sort" "I", Cond.methodLink RX1 126 yX1_isRow, Cond.static yX1_isRow]
def wsX1_lift_r2 : List Cond := [Cond.code yX1_isRow cX1_isRow 1 (some .boolean), Cond.methodLink RX1 75 yX1_requirePlace, Cond.static yX1_requirePlace, Cond.code yX1_requirePlace cX1_requirePlace 2 none, Cond.classLink RX1 161 "java/util/NoSuchElementException", Cond.initialized "java/util/NoSuchElementException"]
def wsX1_lift : List Cond := .code yX1_lift cX1_lift 5 (some .int) :: ((wsX1_lift_r1 ++ wsX1_lift_r2) ++ wsX00 ++ wsX10 ++ (vx_atS RX1 156 "java/lang/IndexOutOfBoundsException" ["java/lang/RuntimeException", "java/lang/Exception"]).filter goodWord ++ (vx_atS RX1 74 "java/lang/IllegalStateException" ["java/lang/RuntimeException", "java/lang/Exception"]).filter goodWord ++ (hy_atN RX1 165 "java/util/NoSuchElementException" ["java/lang/RuntimeException", "java/lang/Exception"]).filter goodWord)
def wsX1_ended : List Cond := .code yX1_ended cX1_ended 3 (some .int) :: ([.fieldLink RX1 142 "HiveYard" "movesMade" "I", .fieldLink RX1 29 "HiveYard" "movesByEnd" "[I", .fieldLink RX1 120 "HiveYard" "latestMoved" "I", .fieldLink RX1 145 "HiveYard" "placesMoved" "I"] ++ wsX10)
def wsX1_areUnlike : List Cond := .code yX1_areUnlike cX1_areUnlike 2 (some .boolean) :: ([.fieldLink RX1 83 "HiveYard$Content" "sort" "I", .methodLink RX1 129 yX1_isCombs, .static yX1_isCombs, .initialized RX1, .code yX1_isCombs cX1_isCombs 1 (some .boolean), .methodLink RX1 126 yX1_isRow, .static yX1_isRow, .code yX1_isRow cX1_isRow 1 (some .boolean)] ++ wsX00)
def wsX1_isOutside : List Cond := .code yX1_isOutside cX1_isOutside 3 (some .boolean) :: ([.fieldLink RX1 79 "HiveYard$Content" "cells" "[J"] ++ wsX00)
def wsX1_isComb : List Cond := .code yX1_isComb cX1_isComb 3 (some .boolean) :: ([.fieldLink RX1 96 "HiveYard" "combsMade" "I"] ++ wsX10)
def wsX1_howManyFit : List Cond := .code yX1_howManyFit cX1_howManyFit 8 (some .int) :: ([.fieldLink RX1 79 "HiveYard$Content" "cells" "[J", .fieldLink RX1 83 "HiveYard$Content" "sort" "I", .fieldLink RX1 22 "HiveYard" "kindOfComb" "[I", .methodLink RX1 66 yX1_isNumbers, .static yX1_isNumbers, .initialized RX1, .code yX1_isNumbers cX1_isNumbers 1 (some .boolean), .methodLink RX1 126 yX1_isRow, .static yX1_isRow, .code yX1_isRow cX1_isRow 1 (some .boolean), .methodLink RX1 166 yX1_isComb, .instanceMethod yX1_isComb, .selects RX1 yX1_isComb yX1_isComb, .code yX1_isComb cX1_isComb 3 (some .boolean), .fieldLink RX1 96 "HiveYard" "combsMade" "I", .methodLink RX1 101 yX1_takes, .static yX1_takes, .code yX1_takes cX1_takes 3 (some .boolean)] ++ wsX00 ++ wsX10)
def wsX1_carry_r1 : List Cond := [Cond.fieldLink RX1 79 "HiveYard$Content" "cells" "[J", Cond.methodLink RX1 187 arraycopyName, Cond.native arraycopyName, Cond.static arraycopyName, Cond.initialized "java/lang/System", Cond.methodLink RX1 172 yX1_ended, Cond.instanceMethod yX1_ended, Cond.selects RX1 yX1_ended yX1_ended, Cond.initialized RX1, Cond.code yX1_ended cX1_ended 3 (some .int), Cond.fieldLink RX1 142 "HiveYard" "movesMade" "I", Cond.fieldLink RX1 29 "HiveYard" "movesByEnd" "[I", Cond.fieldLink RX1 120 "HiveYard" "latestMoved" "I", Cond.fieldLink RX1 145 "HiveYard" "placesMoved" "I", Cond.methodLink RX1 126 yX1_isRow, Cond.static yX1_isRow, Cond.code yX1_isRow cX1_isRow 1 (some .boolean), Cond.fieldLink RX1 83 "HiveYard$Content" "sort" "I", Cond.methodLink RX1 175 yX1_areUnlike, Cond.static yX1_areUnlike, Cond.code yX1_areUnlike cX1_areUnlike 2 (some .boolean), Cond.methodLink RX1 129 yX1_isCombs, Cond.static yX1_isCombs, Cond.code yX1_isCombs cX1_isCombs 1 (some .boolean)]
def wsX1_carry_r2 : List Cond := [Cond.methodLink RX1 179 yX1_isOutside, Cond.static yX1_isOutside, Cond.code yX1_isOutside cX1_isOutside 3 (some .boolean), Cond.methodLink RX1 183 yX1_howManyFit, Cond.instanceMethod yX1_howManyFit, Cond.selects RX1 yX1_howManyFit yX1_howManyFit, Cond.code yX1_howManyFit cX1_howManyFit 8 (some .int), Cond.fieldLink RX1 22 "HiveYard" "kindOfComb" "[I", Cond.methodLink RX1 66 yX1_isNumbers, Cond.static yX1_isNumbers, Cond.code yX1_isNumbers cX1_isNumbers 1 (some .boolean), Cond.methodLink RX1 166 yX1_isComb, Cond.instanceMethod yX1_isComb, Cond.selects RX1 yX1_isComb yX1_isComb, Cond.code yX1_isComb cX1_isComb 3 (some .boolean), Cond.fieldLink RX1 96 "HiveYard" "combsMade" "I", Cond.methodLink RX1 101 yX1_takes, Cond.static yX1_takes, Cond.code yX1_takes cX1_takes 3 (some .boolean)]
def wsX1_carry : List Cond := .code yX1_carry cX1_carry 7 (some .int) :: ((wsX1_carry_r1 ++ wsX1_carry_r2) ++ wsX00 ++ wsX10)
def wsX1_move_r1 : List Cond := [Cond.methodLink RX1 32 yX1_contentOf, Cond.instanceMethod yX1_contentOf, Cond.selects RX1 yX1_contentOf yX1_contentOf, Cond.initialized RX1, Cond.code yX1_contentOf cX1_contentOf 2 (some (.object "HiveYard$Content")), Cond.fieldLink RX1 11 "HiveYard" "boxes" "[LHiveYard$Content;", Cond.methodLink RX1 58 yX1_requireBox, Cond.static yX1_requireBox, Cond.code yX1_requireBox cX1_requireBox 1 none, Cond.classLink RX1 152 "java/lang/IndexOutOfBoundsException", Cond.initialized "java/lang/IndexOutOfBoundsException", Cond.methodLink RX1 107 yX1_carry, Cond.instanceMethod yX1_carry, Cond.selects RX1 yX1_carry yX1_carry, Cond.code yX1_carry cX1_carry 7 (some .int), Cond.fieldLink RX1 79 "HiveYard$Content" "cells" "[J", Cond.methodLink RX1 187 arraycopyName, Cond.native arraycopyName, Cond.static arraycopyName, Cond.initialized "java/lang/System", Cond.methodLink RX1 172 yX1_ended, Cond.instanceMethod yX1_ended, Cond.selects RX1 yX1_ended yX1_ended, Cond.code yX1_ended cX1_ended 3 (some .int)]
def wsX1_move_r2 : List Cond := [Cond.fieldLink RX1 142 "HiveYard" "movesMade" "I", Cond.fieldLink RX1 29 "HiveYard" "movesByEnd" "[I", Cond.fieldLink RX1 120 "HiveYard" "latestMoved" "I", Cond.fieldLink RX1 145 "HiveYard" "placesMoved" "I", Cond.methodLink RX1 126 yX1_isRow, Cond.static yX1_isRow, Cond.code yX1_isRow cX1_isRow 1 (some .boolean), Cond.fieldLink RX1 83 "HiveYard$Content" "sort" "I", Cond.methodLink RX1 175 yX1_areUnlike, Cond.static yX1_areUnlike, Cond.code yX1_areUnlike cX1_areUnlike 2 (some .boolean), Cond.methodLink RX1 129 yX1_isCombs, Cond.static yX1_isCombs, Cond.code yX1_isCombs cX1_isCombs 1 (some .boolean), Cond.methodLink RX1 179 yX1_isOutside, Cond.static yX1_isOutside, Cond.code yX1_isOutside cX1_isOutside 3 (some .boolean), Cond.methodLink RX1 183 yX1_howManyFit, Cond.instanceMethod yX1_howManyFit, Cond.selects RX1 yX1_howManyFit yX1_howManyFit, Cond.code yX1_howManyFit cX1_howManyFit 8 (some .int), Cond.fieldLink RX1 22 "HiveYard" "kindOfComb" "[I", Cond.methodLink RX1 66 yX1_isNumbers, Cond.static yX1_isNumbers]
def wsX1_move_r3 : List Cond := [Cond.code yX1_isNumbers cX1_isNumbers 1 (some .boolean), Cond.methodLink RX1 166 yX1_isComb, Cond.instanceMethod yX1_isComb, Cond.selects RX1 yX1_isComb yX1_isComb, Cond.code yX1_isComb cX1_isComb 3 (some .boolean), Cond.fieldLink RX1 96 "HiveYard" "combsMade" "I", Cond.methodLink RX1 101 yX1_takes, Cond.static yX1_takes, Cond.code yX1_takes cX1_takes 3 (some .boolean)]
def wsX1_move : List Cond := .code yX1_move cX1_move 8 (some .int) :: ((wsX1_move_r1 ++ (wsX1_move_r2 ++ wsX1_move_r3)) ++ wsX10 ++ wsX00 ++ (vx_atS RX1 156 "java/lang/IndexOutOfBoundsException" ["java/lang/RuntimeException", "java/lang/Exception"]).filter goodWord)
def wsX1_cellsIn : List Cond := .code yX1_cellsIn cX1_cellsIn 1 (some .int) :: ([.fieldLink RX1 79 "HiveYard$Content" "cells" "[J"] ++ wsX00)
def wsX1_pour_r1 : List Cond := [Cond.methodLink RX1 114 Lib.Math.min.name, Cond.static Lib.Math.min.name, Cond.initialized "java/lang/Math", Cond.code Lib.Math.min.name Lib.Math.min.code 2 (some .int), Cond.methodLink RX1 32 yX1_contentOf, Cond.instanceMethod yX1_contentOf, Cond.selects RX1 yX1_contentOf yX1_contentOf, Cond.initialized RX1, Cond.code yX1_contentOf cX1_contentOf 2 (some (.object "HiveYard$Content")), Cond.fieldLink RX1 11 "HiveYard" "boxes" "[LHiveYard$Content;", Cond.methodLink RX1 58 yX1_requireBox, Cond.static yX1_requireBox, Cond.code yX1_requireBox cX1_requireBox 1 none, Cond.classLink RX1 152 "java/lang/IndexOutOfBoundsException", Cond.initialized "java/lang/IndexOutOfBoundsException", Cond.methodLink RX1 111 yX1_cellsIn, Cond.static yX1_cellsIn, Cond.code yX1_cellsIn cX1_cellsIn 1 (some .int), Cond.fieldLink RX1 79 "HiveYard$Content" "cells" "[J", Cond.methodLink RX1 107 yX1_carry, Cond.instanceMethod yX1_carry, Cond.selects RX1 yX1_carry yX1_carry, Cond.code yX1_carry cX1_carry 7 (some .int), Cond.methodLink RX1 187 arraycopyName]
def wsX1_pour_r2 : List Cond := [Cond.native arraycopyName, Cond.static arraycopyName, Cond.initialized "java/lang/System", Cond.methodLink RX1 172 yX1_ended, Cond.instanceMethod yX1_ended, Cond.selects RX1 yX1_ended yX1_ended, Cond.code yX1_ended cX1_ended 3 (some .int), Cond.fieldLink RX1 142 "HiveYard" "movesMade" "I", Cond.fieldLink RX1 29 "HiveYard" "movesByEnd" "[I", Cond.fieldLink RX1 120 "HiveYard" "latestMoved" "I", Cond.fieldLink RX1 145 "HiveYard" "placesMoved" "I", Cond.methodLink RX1 126 yX1_isRow, Cond.static yX1_isRow, Cond.code yX1_isRow cX1_isRow 1 (some .boolean), Cond.fieldLink RX1 83 "HiveYard$Content" "sort" "I", Cond.methodLink RX1 175 yX1_areUnlike, Cond.static yX1_areUnlike, Cond.code yX1_areUnlike cX1_areUnlike 2 (some .boolean), Cond.methodLink RX1 129 yX1_isCombs, Cond.static yX1_isCombs, Cond.code yX1_isCombs cX1_isCombs 1 (some .boolean), Cond.methodLink RX1 179 yX1_isOutside, Cond.static yX1_isOutside, Cond.code yX1_isOutside cX1_isOutside 3 (some .boolean)]
def wsX1_pour_r3 : List Cond := [Cond.methodLink RX1 183 yX1_howManyFit, Cond.instanceMethod yX1_howManyFit, Cond.selects RX1 yX1_howManyFit yX1_howManyFit, Cond.code yX1_howManyFit cX1_howManyFit 8 (some .int), Cond.fieldLink RX1 22 "HiveYard" "kindOfComb" "[I", Cond.methodLink RX1 66 yX1_isNumbers, Cond.static yX1_isNumbers, Cond.code yX1_isNumbers cX1_isNumbers 1 (some .boolean), Cond.methodLink RX1 166 yX1_isComb, Cond.instanceMethod yX1_isComb, Cond.selects RX1 yX1_isComb yX1_isComb, Cond.code yX1_isComb cX1_isComb 3 (some .boolean), Cond.fieldLink RX1 96 "HiveYard" "combsMade" "I", Cond.methodLink RX1 101 yX1_takes, Cond.static yX1_takes, Cond.code yX1_takes cX1_takes 3 (some .boolean)]
def wsX1_pour : List Cond := .code yX1_pour cX1_pour 6 (some .int) :: ((wsX1_pour_r1 ++ (wsX1_pour_r2 ++ wsX1_pour_r3)) ++ wsX10 ++ wsX00 ++ (vx_atS RX1 156 "java/lang/IndexOutOfBoundsException" ["java/lang/RuntimeException", "java/lang/Exception"]).filter goodWord)
def wsX1_moved : List Cond := .code yX1_moved cX1_moved 1 (some .int) :: ([.fieldLink RX1 120 "HiveYard" "latestMoved" "I"] ++ wsX10)
def wsX1_requireRow : List Cond := .code yX1_requireRow cX1_requireRow 1 none :: ([.classLink RX1 70 "java/lang/IllegalStateException", .initialized "java/lang/IllegalStateException", .methodLink RX1 126 yX1_isRow, .static yX1_isRow, .initialized RX1, .code yX1_isRow cX1_isRow 1 (some .boolean), .fieldLink RX1 83 "HiveYard$Content" "sort" "I"] ++ wsX00 ++ (vx_atS RX1 74 "java/lang/IllegalStateException" ["java/lang/RuntimeException", "java/lang/Exception"]).filter goodWord)
def wsX1_at_r1 : List Cond := [Cond.fieldLink RX1 79 "HiveYard$Content" "cells" "[J", Cond.methodLink RX1 32 yX1_contentOf, Cond.instanceMethod yX1_contentOf, Cond.selects RX1 yX1_contentOf yX1_contentOf, Cond.initialized RX1, Cond.code yX1_contentOf cX1_contentOf 2 (some (.object "HiveYard$Content")), Cond.fieldLink RX1 11 "HiveYard" "boxes" "[LHiveYard$Content;", Cond.methodLink RX1 58 yX1_requireBox, Cond.static yX1_requireBox, Cond.code yX1_requireBox cX1_requireBox 1 none, Cond.classLink RX1 152 "java/lang/IndexOutOfBoundsException", Cond.initialized "java/lang/IndexOutOfBoundsException", Cond.methodLink RX1 123 yX1_requireRow, Cond.static yX1_requireRow, Cond.code yX1_requireRow cX1_requireRow 1 none, Cond.classLink RX1 70 "java/lang/IllegalStateException", Cond.initialized "java/lang/IllegalStateException", Cond.methodLink RX1 126 yX1_isRow, Cond.static yX1_isRow, Cond.code yX1_isRow cX1_isRow 1 (some .boolean), Cond.fieldLink RX1 83 "HiveYard$Content" "sort" "I", Cond.methodLink RX1 75 yX1_requirePlace, Cond.static yX1_requirePlace, Cond.code yX1_requirePlace cX1_requirePlace 2 none]
def wsX1_at_r2 : List Cond := [Cond.classLink RX1 161 "java/util/NoSuchElementException", Cond.initialized "java/util/NoSuchElementException"]
def wsX1_at : List Cond := .code yX1_at cX1_at 4 (some .long) :: ((wsX1_at_r1 ++ wsX1_at_r2) ++ wsX00 ++ wsX10 ++ (vx_atS RX1 156 "java/lang/IndexOutOfBoundsException" ["java/lang/RuntimeException", "java/lang/Exception"]).filter goodWord ++ (vx_atS RX1 74 "java/lang/IllegalStateException" ["java/lang/RuntimeException", "java/lang/Exception"]).filter goodWord ++ (hy_atN RX1 165 "java/util/NoSuchElementException" ["java/lang/RuntimeException", "java/lang/Exception"]).filter goodWord)
def wsX1_holds : List Cond := .code yX1_holds cX1_holds 2 (some .int) :: ([.methodLink RX1 32 yX1_contentOf, .instanceMethod yX1_contentOf, .selects RX1 yX1_contentOf yX1_contentOf, .initialized RX1, .code yX1_contentOf cX1_contentOf 2 (some (.object "HiveYard$Content")), .fieldLink RX1 11 "HiveYard" "boxes" "[LHiveYard$Content;", .methodLink RX1 58 yX1_requireBox, .static yX1_requireBox, .code yX1_requireBox cX1_requireBox 1 none, .classLink RX1 152 "java/lang/IndexOutOfBoundsException", .initialized "java/lang/IndexOutOfBoundsException", .methodLink RX1 62 yX1_sortOf, .static yX1_sortOf, .code yX1_sortOf cX1_sortOf 1 (some .int), .fieldLink RX1 83 "HiveYard$Content" "sort" "I"] ++ wsX10 ++ wsX00 ++ (vx_atS RX1 156 "java/lang/IndexOutOfBoundsException" ["java/lang/RuntimeException", "java/lang/Exception"]).filter goodWord)
def wsX1_places : List Cond := .code yX1_places cX1_places 3 (some .int) :: ([.fieldLink RX1 79 "HiveYard$Content" "cells" "[J", .methodLink RX1 32 yX1_contentOf, .instanceMethod yX1_contentOf, .selects RX1 yX1_contentOf yX1_contentOf, .initialized RX1, .code yX1_contentOf cX1_contentOf 2 (some (.object "HiveYard$Content")), .fieldLink RX1 11 "HiveYard" "boxes" "[LHiveYard$Content;", .methodLink RX1 58 yX1_requireBox, .static yX1_requireBox, .code yX1_requireBox cX1_requireBox 1 none, .classLink RX1 152 "java/lang/IndexOutOfBoundsException", .initialized "java/lang/IndexOutOfBoundsException", .methodLink RX1 123 yX1_requireRow, .static yX1_requireRow, .code yX1_requireRow cX1_requireRow 1 none, .classLink RX1 70 "java/lang/IllegalStateException", .initialized "java/lang/IllegalStateException", .methodLink RX1 126 yX1_isRow, .static yX1_isRow, .code yX1_isRow cX1_isRow 1 (some .boolean), .fieldLink RX1 83 "HiveYard$Content" "sort" "I"] ++ wsX00 ++ wsX10 ++ (vx_atS RX1 156 "java/lang/IndexOutOfBoundsException" ["java/lang/RuntimeException", "java/lang/Exception"]).filter goodWord ++ (vx_atS RX1 74 "java/lang/IllegalStateException" ["java/lang/RuntimeException", "java/lang/Exception"]).filter goodWord)
def wsX1_same : List Cond := .code yX1_same cX1_same 5 (some .boolean) :: ([.methodLink RX1 32 yX1_contentOf, .instanceMethod yX1_contentOf, .selects RX1 yX1_contentOf yX1_contentOf, .initialized RX1, .code yX1_contentOf cX1_contentOf 2 (some (.object "HiveYard$Content")), .fieldLink RX1 11 "HiveYard" "boxes" "[LHiveYard$Content;", .methodLink RX1 58 yX1_requireBox, .static yX1_requireBox, .code yX1_requireBox cX1_requireBox 1 none, .classLink RX1 152 "java/lang/IndexOutOfBoundsException", .initialized "java/lang/IndexOutOfBoundsException", .methodLink RX1 126 yX1_isRow, .static yX1_isRow, .code yX1_isRow cX1_isRow 1 (some .boolean), .fieldLink RX1 83 "HiveYard$Content" "sort" "I"] ++ wsX10 ++ wsX00 ++ (vx_atS RX1 156 "java/lang/IndexOutOfBoundsException" ["java/lang/RuntimeException", "java/lang/Exception"]).filter goodWord)
def wsX1_sumOfWeights : List Cond := .code yX1_sumOfWeights cX1_sumOfWeights 5 (some .long) :: ([.fieldLink RX1 26 "HiveYard" "weightOfComb" "[I", .methodLink RX1 166 yX1_isComb, .instanceMethod yX1_isComb, .selects RX1 yX1_isComb yX1_isComb, .initialized RX1, .code yX1_isComb cX1_isComb 3 (some .boolean), .fieldLink RX1 96 "HiveYard" "combsMade" "I"] ++ wsX10)
def wsX1_sumOfNumbers : List Cond := .code yX1_sumOfNumbers cX1_sumOfNumbers 4 (some .long) :: ([])
def wsX1_all_r1 : List Cond := [Cond.fieldLink RX1 79 "HiveYard$Content" "cells" "[J", Cond.methodLink RX1 32 yX1_contentOf, Cond.instanceMethod yX1_contentOf, Cond.selects RX1 yX1_contentOf yX1_contentOf, Cond.initialized RX1, Cond.code yX1_contentOf cX1_contentOf 2 (some (.object "HiveYard$Content")), Cond.fieldLink RX1 11 "HiveYard" "boxes" "[LHiveYard$Content;", Cond.methodLink RX1 58 yX1_requireBox, Cond.static yX1_requireBox, Cond.code yX1_requireBox cX1_requireBox 1 none, Cond.classLink RX1 152 "java/lang/IndexOutOfBoundsException", Cond.initialized "java/lang/IndexOutOfBoundsException", Cond.methodLink RX1 123 yX1_requireRow, Cond.static yX1_requireRow, Cond.code yX1_requireRow cX1_requireRow 1 none, Cond.classLink RX1 70 "java/lang/IllegalStateException", Cond.initialized "java/lang/IllegalStateException", Cond.methodLink RX1 126 yX1_isRow, Cond.static yX1_isRow, Cond.code yX1_isRow cX1_isRow 1 (some .boolean), Cond.fieldLink RX1 83 "HiveYard$Content" "sort" "I", Cond.methodLink RX1 129 yX1_isCombs, Cond.static yX1_isCombs, Cond.code yX1_isCombs cX1_isCombs 1 (some .boolean)]
def wsX1_all_r2 : List Cond := [Cond.methodLink RX1 132 yX1_sumOfWeights, Cond.instanceMethod yX1_sumOfWeights, Cond.selects RX1 yX1_sumOfWeights yX1_sumOfWeights, Cond.code yX1_sumOfWeights cX1_sumOfWeights 5 (some .long), Cond.fieldLink RX1 26 "HiveYard" "weightOfComb" "[I", Cond.methodLink RX1 166 yX1_isComb, Cond.instanceMethod yX1_isComb, Cond.selects RX1 yX1_isComb yX1_isComb, Cond.code yX1_isComb cX1_isComb 3 (some .boolean), Cond.fieldLink RX1 96 "HiveYard" "combsMade" "I", Cond.methodLink RX1 136 yX1_sumOfNumbers, Cond.static yX1_sumOfNumbers, Cond.code yX1_sumOfNumbers cX1_sumOfNumbers 4 (some .long)]
def wsX1_all : List Cond := .code yX1_all cX1_all 3 (some .long) :: ((wsX1_all_r1 ++ wsX1_all_r2) ++ wsX00 ++ wsX10 ++ (vx_atS RX1 156 "java/lang/IndexOutOfBoundsException" ["java/lang/RuntimeException", "java/lang/Exception"]).filter goodWord ++ (vx_atS RX1 74 "java/lang/IllegalStateException" ["java/lang/RuntimeException", "java/lang/Exception"]).filter goodWord)
def wsX1_requireComb : List Cond := .code yX1_requireComb cX1_requireComb 2 none :: ([.classLink RX1 161 "java/util/NoSuchElementException", .initialized "java/util/NoSuchElementException", .methodLink RX1 166 yX1_isComb, .instanceMethod yX1_isComb, .selects RX1 yX1_isComb yX1_isComb, .initialized RX1, .code yX1_isComb cX1_isComb 3 (some .boolean), .fieldLink RX1 96 "HiveYard" "combsMade" "I"] ++ wsX10 ++ (hy_atN RX1 165 "java/util/NoSuchElementException" ["java/lang/RuntimeException", "java/lang/Exception"]).filter goodWord)
def wsX1_feed : List Cond := .code yX1_feed cX1_feed 3 (some .int) :: ([.fieldLink RX1 26 "HiveYard" "weightOfComb" "[I", .methodLink RX1 139 yX1_requireComb, .instanceMethod yX1_requireComb, .selects RX1 yX1_requireComb yX1_requireComb, .initialized RX1, .code yX1_requireComb cX1_requireComb 2 none, .classLink RX1 161 "java/util/NoSuchElementException", .initialized "java/util/NoSuchElementException", .methodLink RX1 166 yX1_isComb, .instanceMethod yX1_isComb, .selects RX1 yX1_isComb yX1_isComb, .code yX1_isComb cX1_isComb 3 (some .boolean), .fieldLink RX1 96 "HiveYard" "combsMade" "I"] ++ wsX10 ++ (hy_atN RX1 165 "java/util/NoSuchElementException" ["java/lang/RuntimeException", "java/lang/Exception"]).filter goodWord)
def wsX1_kind : List Cond := .code yX1_kind cX1_kind 2 (some .int) :: ([.fieldLink RX1 22 "HiveYard" "kindOfComb" "[I", .methodLink RX1 139 yX1_requireComb, .instanceMethod yX1_requireComb, .selects RX1 yX1_requireComb yX1_requireComb, .initialized RX1, .code yX1_requireComb cX1_requireComb 2 none, .classLink RX1 161 "java/util/NoSuchElementException", .initialized "java/util/NoSuchElementException", .methodLink RX1 166 yX1_isComb, .instanceMethod yX1_isComb, .selects RX1 yX1_isComb yX1_isComb, .code yX1_isComb cX1_isComb 3 (some .boolean), .fieldLink RX1 96 "HiveYard" "combsMade" "I"] ++ wsX10 ++ (hy_atN RX1 165 "java/util/NoSuchElementException" ["java/lang/RuntimeException", "java/lang/Exception"]).filter goodWord)
def wsX1_countOfEnd : List Cond := .code yX1_countOfEnd cX1_countOfEnd 2 (some .int) :: ([.fieldLink RX1 29 "HiveYard" "movesByEnd" "[I"] ++ wsX10)
def wsX1_count : List Cond := .code yX1_count cX1_count 2 (some .int) :: ([.fieldLink RX1 45 "HiveYard" "rowsMade" "I", .fieldLink RX1 96 "HiveYard" "combsMade" "I", .fieldLink RX1 142 "HiveYard" "movesMade" "I", .fieldLink RX1 145 "HiveYard" "placesMoved" "I", .methodLink RX1 148 yX1_countOfEnd, .instanceMethod yX1_countOfEnd, .selects RX1 yX1_countOfEnd yX1_countOfEnd, .initialized RX1, .code yX1_countOfEnd cX1_countOfEnd 2 (some .int), .fieldLink RX1 29 "HiveYard" "movesByEnd" "[I"] ++ wsX10)
def wsX2_init : List Cond := .code yX2_init cX2_init 2 none :: ([.methodLink RX2 1 objectInit, .instanceMethod objectInit, .code objectInit ⟨#[0xb1]⟩ 1 none, .arrayClass .int, .fieldLink RX2 7 "HiveYardModel" "boxes" "[I", .fieldLink RX2 13 "HiveYardModel" "sorts" "[I", .fieldLink RX2 16 "HiveYardModel" "sizes" "[I", .arrayClass .long, .fieldLink RX2 19 "HiveYardModel" "stands" "[J", .fieldLink RX2 23 "HiveYardModel" "taken" "[J", .fieldLink RX2 26 "HiveYardModel" "kinds" "[I", .fieldLink RX2 29 "HiveYardModel" "weights" "[I", .fieldLink RX2 32 "HiveYardModel" "ended" "[I"] ++ wsX20)
def wsX2_thrown : List Cond := .code yX2_thrown cX2_thrown 1 (some .int) :: ([.fieldLink RX2 35 "HiveYardModel" "thrown" "I"] ++ wsX20)
def wsX2_fail : List Cond := .code yX2_fail cX2_fail 2 (some .int) :: ([.fieldLink RX2 35 "HiveYardModel" "thrown" "I"] ++ wsX20)
def wsX2_isBox : List Cond := .code yX2_isBox cX2_isBox 1 (some .boolean) :: ([])
def wsX2_isOfCombs : List Cond := .code yX2_isOfCombs cX2_isOfCombs 1 (some .boolean) :: ([])
def wsX2_what : List Cond := .code yX2_what cX2_what 3 (some .int) :: ([.fieldLink RX2 7 "HiveYardModel" "boxes" "[I", .fieldLink RX2 13 "HiveYardModel" "sorts" "[I"] ++ wsX20)
def wsX2_hasRow : List Cond := .code yX2_hasRow cX2_hasRow 2 (some .boolean) :: ([.fieldLink RX2 7 "HiveYardModel" "boxes" "[I"] ++ wsX20)
def wsX2_isPlace : List Cond := .code yX2_isPlace cX2_isPlace 3 (some .boolean) :: ([.fieldLink RX2 16 "HiveYardModel" "sizes" "[I", .fieldLink RX2 7 "HiveYardModel" "boxes" "[I"] ++ wsX20)
def wsX2_takes : List Cond := .code yX2_takes cX2_takes 2 (some .boolean) :: ([])
def wsX2_cut : List Cond := .code yX2_cut cX2_cut 3 (some .long) :: ([])
def wsX2_row : List Cond := .code yX2_row cX2_row 7 (some .boolean) :: ([.fieldLink RX2 35 "HiveYardModel" "thrown" "I", .fieldLink RX2 47 "HiveYardModel" "rows" "I", .fieldLink RX2 7 "HiveYardModel" "boxes" "[I", .fieldLink RX2 13 "HiveYardModel" "sorts" "[I", .fieldLink RX2 16 "HiveYardModel" "sizes" "[I", .fieldLink RX2 19 "HiveYardModel" "stands" "[J", .constantLong RX2 53 (-1), .methodLink RX2 39 yX2_isBox, .static yX2_isBox, .initialized RX2, .code yX2_isBox cX2_isBox 1 (some .boolean), .methodLink RX2 43 yX2_fail, .instanceMethod yX2_fail, .selects RX2 yX2_fail yX2_fail, .code yX2_fail cX2_fail 2 (some .int), .methodLink RX2 50 yX2_isOfCombs, .static yX2_isOfCombs, .code yX2_isOfCombs cX2_isOfCombs 1 (some .boolean)] ++ wsX20)
def wsX2_lid : List Cond := .code yX2_lid cX2_lid 3 (some .boolean) :: ([.fieldLink RX2 35 "HiveYardModel" "thrown" "I", .fieldLink RX2 7 "HiveYardModel" "boxes" "[I", .methodLink RX2 39 yX2_isBox, .static yX2_isBox, .initialized RX2, .code yX2_isBox cX2_isBox 1 (some .boolean), .methodLink RX2 43 yX2_fail, .instanceMethod yX2_fail, .selects RX2 yX2_fail yX2_fail, .code yX2_fail cX2_fail 2 (some .int)] ++ wsX20)
def wsX2_clear : List Cond := .code yX2_clear cX2_clear 3 (some .boolean) :: ([.fieldLink RX2 35 "HiveYardModel" "thrown" "I", .fieldLink RX2 7 "HiveYardModel" "boxes" "[I", .methodLink RX2 39 yX2_isBox, .static yX2_isBox, .initialized RX2, .code yX2_isBox cX2_isBox 1 (some .boolean), .methodLink RX2 43 yX2_fail, .instanceMethod yX2_fail, .selects RX2 yX2_fail yX2_fail, .code yX2_fail cX2_fail 2 (some .int)] ++ wsX20)
def wsX2_share : List Cond := .code yX2_share cX2_share 3 (some .int) :: ([.fieldLink RX2 35 "HiveYardModel" "thrown" "I", .fieldLink RX2 7 "HiveYardModel" "boxes" "[I", .methodLink RX2 39 yX2_isBox, .static yX2_isBox, .initialized RX2, .code yX2_isBox cX2_isBox 1 (some .boolean), .methodLink RX2 43 yX2_fail, .instanceMethod yX2_fail, .selects RX2 yX2_fail yX2_fail, .code yX2_fail cX2_fail 2 (some .int), .methodLink RX2 55 yX2_what, .instanceMethod yX2_what, .selects RX2 yX2_what yX2_what, .code yX2_what cX2_what 3 (some .int), .fieldLink RX2 13 "HiveYardModel" "sorts" "[I"] ++ wsX20)
def wsX2_barred : List Cond := .code yX2_barred cX2_barred 5 (some .int) :: ([.methodLink RX2 58 yX2_hasRow, .instanceMethod yX2_hasRow, .selects RX2 yX2_hasRow yX2_hasRow, .initialized RX2, .code yX2_hasRow cX2_hasRow 2 (some .boolean), .fieldLink RX2 7 "HiveYardModel" "boxes" "[I", .methodLink RX2 55 yX2_what, .instanceMethod yX2_what, .selects RX2 yX2_what yX2_what, .code yX2_what cX2_what 3 (some .int), .fieldLink RX2 13 "HiveYardModel" "sorts" "[I", .methodLink RX2 50 yX2_isOfCombs, .static yX2_isOfCombs, .code yX2_isOfCombs cX2_isOfCombs 1 (some .boolean), .methodLink RX2 61 yX2_isPlace, .instanceMethod yX2_isPlace, .selects RX2 yX2_isPlace yX2_isPlace, .code yX2_isPlace cX2_isPlace 3 (some .boolean), .fieldLink RX2 16 "HiveYardModel" "sizes" "[I"] ++ wsX20)
def wsX2_put_r1 : List Cond := [Cond.fieldLink RX2 35 "HiveYardModel" "thrown" "I", Cond.fieldLink RX2 7 "HiveYardModel" "boxes" "[I", Cond.fieldLink RX2 19 "HiveYardModel" "stands" "[J", Cond.methodLink RX2 39 yX2_isBox, Cond.static yX2_isBox, Cond.initialized RX2, Cond.code yX2_isBox cX2_isBox 1 (some .boolean), Cond.methodLink RX2 43 yX2_fail, Cond.instanceMethod yX2_fail, Cond.selects RX2 yX2_fail yX2_fail, Cond.code yX2_fail cX2_fail 2 (some .int), Cond.methodLink RX2 65 yX2_barred, Cond.instanceMethod yX2_barred, Cond.selects RX2 yX2_barred yX2_barred, Cond.code yX2_barred cX2_barred 5 (some .int), Cond.methodLink RX2 58 yX2_hasRow, Cond.instanceMethod yX2_hasRow, Cond.selects RX2 yX2_hasRow yX2_hasRow, Cond.code yX2_hasRow cX2_hasRow 2 (some .boolean), Cond.methodLink RX2 55 yX2_what, Cond.instanceMethod yX2_what, Cond.selects RX2 yX2_what yX2_what, Cond.code yX2_what cX2_what 3 (some .int), Cond.fieldLink RX2 13 "HiveYardModel" "sorts" "[I"]
def wsX2_put_r2 : List Cond := [Cond.methodLink RX2 50 yX2_isOfCombs, Cond.static yX2_isOfCombs, Cond.code yX2_isOfCombs cX2_isOfCombs 1 (some .boolean), Cond.methodLink RX2 61 yX2_isPlace, Cond.instanceMethod yX2_isPlace, Cond.selects RX2 yX2_isPlace yX2_isPlace, Cond.code yX2_isPlace cX2_isPlace 3 (some .boolean), Cond.fieldLink RX2 16 "HiveYardModel" "sizes" "[I", Cond.methodLink RX2 69 yX2_cut, Cond.static yX2_cut, Cond.code yX2_cut cX2_cut 3 (some .long)]
def wsX2_put : List Cond := .code yX2_put cX2_put 9 (some .long) :: ((wsX2_put_r1 ++ wsX2_put_r2) ++ wsX20)
def wsX2_lay_r1 : List Cond := [Cond.fieldLink RX2 35 "HiveYardModel" "thrown" "I", Cond.fieldLink RX2 73 "HiveYardModel" "combs" "I", Cond.fieldLink RX2 26 "HiveYardModel" "kinds" "[I", Cond.fieldLink RX2 29 "HiveYardModel" "weights" "[I", Cond.fieldLink RX2 19 "HiveYardModel" "stands" "[J", Cond.fieldLink RX2 7 "HiveYardModel" "boxes" "[I", Cond.methodLink RX2 39 yX2_isBox, Cond.static yX2_isBox, Cond.initialized RX2, Cond.code yX2_isBox cX2_isBox 1 (some .boolean), Cond.methodLink RX2 43 yX2_fail, Cond.instanceMethod yX2_fail, Cond.selects RX2 yX2_fail yX2_fail, Cond.code yX2_fail cX2_fail 2 (some .int), Cond.methodLink RX2 65 yX2_barred, Cond.instanceMethod yX2_barred, Cond.selects RX2 yX2_barred yX2_barred, Cond.code yX2_barred cX2_barred 5 (some .int), Cond.methodLink RX2 58 yX2_hasRow, Cond.instanceMethod yX2_hasRow, Cond.selects RX2 yX2_hasRow yX2_hasRow, Cond.code yX2_hasRow cX2_hasRow 2 (some .boolean), Cond.methodLink RX2 55 yX2_what, Cond.instanceMethod yX2_what]
def wsX2_lay_r2 : List Cond := [Cond.selects RX2 yX2_what yX2_what, Cond.code yX2_what cX2_what 3 (some .int), Cond.fieldLink RX2 13 "HiveYardModel" "sorts" "[I", Cond.methodLink RX2 50 yX2_isOfCombs, Cond.static yX2_isOfCombs, Cond.code yX2_isOfCombs cX2_isOfCombs 1 (some .boolean), Cond.methodLink RX2 61 yX2_isPlace, Cond.instanceMethod yX2_isPlace, Cond.selects RX2 yX2_isPlace yX2_isPlace, Cond.code yX2_isPlace cX2_isPlace 3 (some .boolean), Cond.fieldLink RX2 16 "HiveYardModel" "sizes" "[I", Cond.methodLink RX2 76 yX2_takes, Cond.static yX2_takes, Cond.code yX2_takes cX2_takes 2 (some .boolean)]
def wsX2_lay : List Cond := .code yX2_lay cX2_lay 6 (some .int) :: ((wsX2_lay_r1 ++ wsX2_lay_r2) ++ wsX20)
def wsX2_lift_r1 : List Cond := [Cond.fieldLink RX2 35 "HiveYardModel" "thrown" "I", Cond.fieldLink RX2 7 "HiveYardModel" "boxes" "[I", Cond.fieldLink RX2 19 "HiveYardModel" "stands" "[J", Cond.constantLong RX2 53 (-1), Cond.methodLink RX2 39 yX2_isBox, Cond.static yX2_isBox, Cond.initialized RX2, Cond.code yX2_isBox cX2_isBox 1 (some .boolean), Cond.methodLink RX2 43 yX2_fail, Cond.instanceMethod yX2_fail, Cond.selects RX2 yX2_fail yX2_fail, Cond.code yX2_fail cX2_fail 2 (some .int), Cond.methodLink RX2 65 yX2_barred, Cond.instanceMethod yX2_barred, Cond.selects RX2 yX2_barred yX2_barred, Cond.code yX2_barred cX2_barred 5 (some .int), Cond.methodLink RX2 58 yX2_hasRow, Cond.instanceMethod yX2_hasRow, Cond.selects RX2 yX2_hasRow yX2_hasRow, Cond.code yX2_hasRow cX2_hasRow 2 (some .boolean), Cond.methodLink RX2 55 yX2_what, Cond.instanceMethod yX2_what, Cond.selects RX2 yX2_what yX2_what, Cond.code yX2_what cX2_what 3 (some .int)]
def wsX2_lift_r2 : List Cond := [Cond.fieldLink RX2 13 "HiveYardModel" "sorts" "[I", Cond.methodLink RX2 50 yX2_isOfCombs, Cond.static yX2_isOfCombs, Cond.code yX2_isOfCombs cX2_isOfCombs 1 (some .boolean), Cond.methodLink RX2 61 yX2_isPlace, Cond.instanceMethod yX2_isPlace, Cond.selects RX2 yX2_isPlace yX2_isPlace, Cond.code yX2_isPlace cX2_isPlace 3 (some .boolean), Cond.fieldLink RX2 16 "HiveYardModel" "sizes" "[I"]
def wsX2_lift : List Cond := .code yX2_lift cX2_lift 6 (some .int) :: ((wsX2_lift_r1 ++ wsX2_lift_r2) ++ wsX20)
def wsX2_isOutside : List Cond := .code yX2_isOutside cX2_isOutside 3 (some .boolean) :: ([])
def wsX2_bars : List Cond := .code yX2_bars cX2_bars 9 (some .int) :: ([.fieldLink RX2 7 "HiveYardModel" "boxes" "[I", .fieldLink RX2 16 "HiveYardModel" "sizes" "[I", .methodLink RX2 58 yX2_hasRow, .instanceMethod yX2_hasRow, .selects RX2 yX2_hasRow yX2_hasRow, .initialized RX2, .code yX2_hasRow cX2_hasRow 2 (some .boolean), .methodLink RX2 55 yX2_what, .instanceMethod yX2_what, .selects RX2 yX2_what yX2_what, .code yX2_what cX2_what 3 (some .int), .fieldLink RX2 13 "HiveYardModel" "sorts" "[I", .methodLink RX2 50 yX2_isOfCombs, .static yX2_isOfCombs, .code yX2_isOfCombs cX2_isOfCombs 1 (some .boolean), .methodLink RX2 79 yX2_isOutside, .static yX2_isOutside, .code yX2_isOutside cX2_isOutside 3 (some .boolean)] ++ wsX20)
def wsX2_goes_r1 : List Cond := [Cond.fieldLink RX2 83 "HiveYardModel" "moved" "I", Cond.fieldLink RX2 7 "HiveYardModel" "boxes" "[I", Cond.fieldLink RX2 23 "HiveYardModel" "taken" "[J", Cond.fieldLink RX2 19 "HiveYardModel" "stands" "[J", Cond.fieldLink RX2 26 "HiveYardModel" "kinds" "[I", Cond.methodLink RX2 86 yX2_bars, Cond.instanceMethod yX2_bars, Cond.selects RX2 yX2_bars yX2_bars, Cond.initialized RX2, Cond.code yX2_bars cX2_bars 9 (some .int), Cond.fieldLink RX2 16 "HiveYardModel" "sizes" "[I", Cond.methodLink RX2 58 yX2_hasRow, Cond.instanceMethod yX2_hasRow, Cond.selects RX2 yX2_hasRow yX2_hasRow, Cond.code yX2_hasRow cX2_hasRow 2 (some .boolean), Cond.methodLink RX2 55 yX2_what, Cond.instanceMethod yX2_what, Cond.selects RX2 yX2_what yX2_what, Cond.code yX2_what cX2_what 3 (some .int), Cond.fieldLink RX2 13 "HiveYardModel" "sorts" "[I", Cond.methodLink RX2 50 yX2_isOfCombs, Cond.static yX2_isOfCombs, Cond.code yX2_isOfCombs cX2_isOfCombs 1 (some .boolean), Cond.methodLink RX2 79 yX2_isOutside]
def wsX2_goes_r2 : List Cond := [Cond.static yX2_isOutside, Cond.code yX2_isOutside cX2_isOutside 3 (some .boolean), Cond.methodLink RX2 76 yX2_takes, Cond.static yX2_takes, Cond.code yX2_takes cX2_takes 2 (some .boolean)]
def wsX2_goes : List Cond := .code yX2_goes cX2_goes 12 (some .int) :: ((wsX2_goes_r1 ++ wsX2_goes_r2) ++ wsX20)
def wsX2_told : List Cond := .code yX2_told cX2_told 2 (some .int) :: ([.fieldLink RX2 90 "HiveYardModel" "moves" "I", .fieldLink RX2 32 "HiveYardModel" "ended" "[I", .fieldLink RX2 93 "HiveYardModel" "allMoved" "I", .fieldLink RX2 83 "HiveYardModel" "moved" "I"] ++ wsX20)
def wsX2_move_r1 : List Cond := [Cond.fieldLink RX2 35 "HiveYardModel" "thrown" "I", Cond.methodLink RX2 39 yX2_isBox, Cond.static yX2_isBox, Cond.initialized RX2, Cond.code yX2_isBox cX2_isBox 1 (some .boolean), Cond.methodLink RX2 43 yX2_fail, Cond.instanceMethod yX2_fail, Cond.selects RX2 yX2_fail yX2_fail, Cond.code yX2_fail cX2_fail 2 (some .int), Cond.methodLink RX2 96 yX2_goes, Cond.instanceMethod yX2_goes, Cond.selects RX2 yX2_goes yX2_goes, Cond.code yX2_goes cX2_goes 12 (some .int), Cond.fieldLink RX2 83 "HiveYardModel" "moved" "I", Cond.fieldLink RX2 7 "HiveYardModel" "boxes" "[I", Cond.fieldLink RX2 23 "HiveYardModel" "taken" "[J", Cond.fieldLink RX2 19 "HiveYardModel" "stands" "[J", Cond.fieldLink RX2 26 "HiveYardModel" "kinds" "[I", Cond.methodLink RX2 86 yX2_bars, Cond.instanceMethod yX2_bars, Cond.selects RX2 yX2_bars yX2_bars, Cond.code yX2_bars cX2_bars 9 (some .int), Cond.fieldLink RX2 16 "HiveYardModel" "sizes" "[I", Cond.methodLink RX2 58 yX2_hasRow]
def wsX2_move_r2 : List Cond := [Cond.instanceMethod yX2_hasRow, Cond.selects RX2 yX2_hasRow yX2_hasRow, Cond.code yX2_hasRow cX2_hasRow 2 (some .boolean), Cond.methodLink RX2 55 yX2_what, Cond.instanceMethod yX2_what, Cond.selects RX2 yX2_what yX2_what, Cond.code yX2_what cX2_what 3 (some .int), Cond.fieldLink RX2 13 "HiveYardModel" "sorts" "[I", Cond.methodLink RX2 50 yX2_isOfCombs, Cond.static yX2_isOfCombs, Cond.code yX2_isOfCombs cX2_isOfCombs 1 (some .boolean), Cond.methodLink RX2 79 yX2_isOutside, Cond.static yX2_isOutside, Cond.code yX2_isOutside cX2_isOutside 3 (some .boolean), Cond.methodLink RX2 76 yX2_takes, Cond.static yX2_takes, Cond.code yX2_takes cX2_takes 2 (some .boolean), Cond.methodLink RX2 99 yX2_told, Cond.instanceMethod yX2_told, Cond.selects RX2 yX2_told yX2_told, Cond.code yX2_told cX2_told 2 (some .int), Cond.fieldLink RX2 90 "HiveYardModel" "moves" "I", Cond.fieldLink RX2 32 "HiveYardModel" "ended" "[I", Cond.fieldLink RX2 93 "HiveYardModel" "allMoved" "I"]
def wsX2_move : List Cond := .code yX2_move cX2_move 6 (some .int) :: ((wsX2_move_r1 ++ wsX2_move_r2) ++ wsX20)
def wsX2_pour_r1 : List Cond := [Cond.fieldLink RX2 35 "HiveYardModel" "thrown" "I", Cond.fieldLink RX2 16 "HiveYardModel" "sizes" "[I", Cond.fieldLink RX2 7 "HiveYardModel" "boxes" "[I", Cond.methodLink RX2 39 yX2_isBox, Cond.static yX2_isBox, Cond.initialized RX2, Cond.code yX2_isBox cX2_isBox 1 (some .boolean), Cond.methodLink RX2 43 yX2_fail, Cond.instanceMethod yX2_fail, Cond.selects RX2 yX2_fail yX2_fail, Cond.code yX2_fail cX2_fail 2 (some .int), Cond.methodLink RX2 58 yX2_hasRow, Cond.instanceMethod yX2_hasRow, Cond.selects RX2 yX2_hasRow yX2_hasRow, Cond.code yX2_hasRow cX2_hasRow 2 (some .boolean), Cond.methodLink RX2 96 yX2_goes, Cond.instanceMethod yX2_goes, Cond.selects RX2 yX2_goes yX2_goes, Cond.code yX2_goes cX2_goes 12 (some .int), Cond.fieldLink RX2 83 "HiveYardModel" "moved" "I", Cond.fieldLink RX2 23 "HiveYardModel" "taken" "[J", Cond.fieldLink RX2 19 "HiveYardModel" "stands" "[J", Cond.fieldLink RX2 26 "HiveYardModel" "kinds" "[I", Cond.methodLink RX2 86 yX2_bars]
def wsX2_pour_r2 : List Cond := [Cond.instanceMethod yX2_bars, Cond.selects RX2 yX2_bars yX2_bars, Cond.code yX2_bars cX2_bars 9 (some .int), Cond.methodLink RX2 55 yX2_what, Cond.instanceMethod yX2_what, Cond.selects RX2 yX2_what yX2_what, Cond.code yX2_what cX2_what 3 (some .int), Cond.fieldLink RX2 13 "HiveYardModel" "sorts" "[I", Cond.methodLink RX2 50 yX2_isOfCombs, Cond.static yX2_isOfCombs, Cond.code yX2_isOfCombs cX2_isOfCombs 1 (some .boolean), Cond.methodLink RX2 79 yX2_isOutside, Cond.static yX2_isOutside, Cond.code yX2_isOutside cX2_isOutside 3 (some .boolean), Cond.methodLink RX2 76 yX2_takes, Cond.static yX2_takes, Cond.code yX2_takes cX2_takes 2 (some .boolean), Cond.methodLink RX2 99 yX2_told, Cond.instanceMethod yX2_told, Cond.selects RX2 yX2_told yX2_told, Cond.code yX2_told cX2_told 2 (some .int), Cond.fieldLink RX2 90 "HiveYardModel" "moves" "I", Cond.fieldLink RX2 32 "HiveYardModel" "ended" "[I", Cond.fieldLink RX2 93 "HiveYardModel" "allMoved" "I"]
def wsX2_pour : List Cond := .code yX2_pour cX2_pour 6 (some .int) :: ((wsX2_pour_r1 ++ wsX2_pour_r2) ++ wsX20)
def wsX2_moved : List Cond := .code yX2_moved cX2_moved 1 (some .int) :: ([.fieldLink RX2 35 "HiveYardModel" "thrown" "I", .fieldLink RX2 83 "HiveYardModel" "moved" "I"] ++ wsX20)
def wsX2_at : List Cond := .code yX2_at cX2_at 3 (some .long) :: ([.fieldLink RX2 35 "HiveYardModel" "thrown" "I", .fieldLink RX2 19 "HiveYardModel" "stands" "[J", .fieldLink RX2 7 "HiveYardModel" "boxes" "[I", .methodLink RX2 39 yX2_isBox, .static yX2_isBox, .initialized RX2, .code yX2_isBox cX2_isBox 1 (some .boolean), .methodLink RX2 43 yX2_fail, .instanceMethod yX2_fail, .selects RX2 yX2_fail yX2_fail, .code yX2_fail cX2_fail 2 (some .int), .methodLink RX2 58 yX2_hasRow, .instanceMethod yX2_hasRow, .selects RX2 yX2_hasRow yX2_hasRow, .code yX2_hasRow cX2_hasRow 2 (some .boolean), .methodLink RX2 61 yX2_isPlace, .instanceMethod yX2_isPlace, .selects RX2 yX2_isPlace yX2_isPlace, .code yX2_isPlace cX2_isPlace 3 (some .boolean), .fieldLink RX2 16 "HiveYardModel" "sizes" "[I"] ++ wsX20)
def wsX2_holds : List Cond := .code yX2_holds cX2_holds 2 (some .int) :: ([.fieldLink RX2 35 "HiveYardModel" "thrown" "I", .methodLink RX2 39 yX2_isBox, .static yX2_isBox, .initialized RX2, .code yX2_isBox cX2_isBox 1 (some .boolean), .methodLink RX2 55 yX2_what, .instanceMethod yX2_what, .selects RX2 yX2_what yX2_what, .code yX2_what cX2_what 3 (some .int), .fieldLink RX2 7 "HiveYardModel" "boxes" "[I", .fieldLink RX2 13 "HiveYardModel" "sorts" "[I", .methodLink RX2 43 yX2_fail, .instanceMethod yX2_fail, .selects RX2 yX2_fail yX2_fail, .code yX2_fail cX2_fail 2 (some .int)] ++ wsX20)
def wsX2_places : List Cond := .code yX2_places cX2_places 2 (some .int) :: ([.fieldLink RX2 35 "HiveYardModel" "thrown" "I", .fieldLink RX2 16 "HiveYardModel" "sizes" "[I", .fieldLink RX2 7 "HiveYardModel" "boxes" "[I", .methodLink RX2 39 yX2_isBox, .static yX2_isBox, .initialized RX2, .code yX2_isBox cX2_isBox 1 (some .boolean), .methodLink RX2 43 yX2_fail, .instanceMethod yX2_fail, .selects RX2 yX2_fail yX2_fail, .code yX2_fail cX2_fail 2 (some .int), .methodLink RX2 58 yX2_hasRow, .instanceMethod yX2_hasRow, .selects RX2 yX2_hasRow yX2_hasRow, .code yX2_hasRow cX2_hasRow 2 (some .boolean)] ++ wsX20)
def wsX2_same : List Cond := .code yX2_same cX2_same 3 (some .boolean) :: ([.fieldLink RX2 35 "HiveYardModel" "thrown" "I", .fieldLink RX2 7 "HiveYardModel" "boxes" "[I", .methodLink RX2 39 yX2_isBox, .static yX2_isBox, .initialized RX2, .code yX2_isBox cX2_isBox 1 (some .boolean), .methodLink RX2 43 yX2_fail, .instanceMethod yX2_fail, .selects RX2 yX2_fail yX2_fail, .code yX2_fail cX2_fail 2 (some .int), .methodLink RX2 58 yX2_hasRow, .instanceMethod yX2_hasRow, .selects RX2 yX2_hasRow yX2_hasRow, .code yX2_hasRow cX2_hasRow 2 (some .boolean)] ++ wsX20)
def wsX2_all : List Cond := .code yX2_all cX2_all 9 (some .long) :: ([.fieldLink RX2 35 "HiveYardModel" "thrown" "I", .fieldLink RX2 7 "HiveYardModel" "boxes" "[I", .fieldLink RX2 13 "HiveYardModel" "sorts" "[I", .fieldLink RX2 16 "HiveYardModel" "sizes" "[I", .fieldLink RX2 19 "HiveYardModel" "stands" "[J", .fieldLink RX2 29 "HiveYardModel" "weights" "[I", .methodLink RX2 39 yX2_isBox, .static yX2_isBox, .initialized RX2, .code yX2_isBox cX2_isBox 1 (some .boolean), .methodLink RX2 43 yX2_fail, .instanceMethod yX2_fail, .selects RX2 yX2_fail yX2_fail, .code yX2_fail cX2_fail 2 (some .int), .methodLink RX2 58 yX2_hasRow, .instanceMethod yX2_hasRow, .selects RX2 yX2_hasRow yX2_hasRow, .code yX2_hasRow cX2_hasRow 2 (some .boolean), .methodLink RX2 50 yX2_isOfCombs, .static yX2_isOfCombs, .code yX2_isOfCombs cX2_isOfCombs 1 (some .boolean)] ++ wsX20)
def wsX2_isComb : List Cond := .code yX2_isComb cX2_isComb 2 (some .boolean) :: ([.fieldLink RX2 73 "HiveYardModel" "combs" "I"] ++ wsX20)
def wsX2_feed : List Cond := .code yX2_feed cX2_feed 3 (some .int) :: ([.fieldLink RX2 35 "HiveYardModel" "thrown" "I", .fieldLink RX2 29 "HiveYardModel" "weights" "[I", .methodLink RX2 102 yX2_isComb, .instanceMethod yX2_isComb, .selects RX2 yX2_isComb yX2_isComb, .initialized RX2, .code yX2_isComb cX2_isComb 2 (some .boolean), .fieldLink RX2 73 "HiveYardModel" "combs" "I", .methodLink RX2 43 yX2_fail, .instanceMethod yX2_fail, .selects RX2 yX2_fail yX2_fail, .code yX2_fail cX2_fail 2 (some .int)] ++ wsX20)
def wsX2_kind : List Cond := .code yX2_kind cX2_kind 2 (some .int) :: ([.fieldLink RX2 35 "HiveYardModel" "thrown" "I", .fieldLink RX2 26 "HiveYardModel" "kinds" "[I", .methodLink RX2 102 yX2_isComb, .instanceMethod yX2_isComb, .selects RX2 yX2_isComb yX2_isComb, .initialized RX2, .code yX2_isComb cX2_isComb 2 (some .boolean), .fieldLink RX2 73 "HiveYardModel" "combs" "I", .methodLink RX2 43 yX2_fail, .instanceMethod yX2_fail, .selects RX2 yX2_fail yX2_fail, .code yX2_fail cX2_fail 2 (some .int)] ++ wsX20)
def wsX2_count : List Cond := .code yX2_count cX2_count 2 (some .int) :: ([.fieldLink RX2 35 "HiveYardModel" "thrown" "I", .fieldLink RX2 47 "HiveYardModel" "rows" "I", .fieldLink RX2 73 "HiveYardModel" "combs" "I", .fieldLink RX2 90 "HiveYardModel" "moves" "I", .fieldLink RX2 32 "HiveYardModel" "ended" "[I", .fieldLink RX2 93 "HiveYardModel" "allMoved" "I"] ++ wsX20)
def wsJ9_min_7cf53 : List Cond := .code yJ9_min_7cf53 cJ9_min_7cf53 2 (some .int) :: ([])
set_option maxRecDepth 20000 in
theorem ggX1_init_X0_init : GoodIn wsX1_init wsX0_init := goodIn_r _ [16, 17, 2, 3, 18, 19, 30, 31] (by decide +kernel) (by decide +kernel)
set_option maxRecDepth 20000 in
theorem gX1_init_X0_init : GoodIn wsX1_init (wsX0_init) := ggX1_init_X0_init
set_option maxRecDepth 20000 in
theorem ggX1_row_X1_contentOf : GoodIn wsX1_row wsX1_contentOf := goodIn_ca (goodIn_r _ [11, 6, 12, 13, 10, 14, 15, 16, 33, 34, 35, 36, 37, 38, 39, 40, 41, 42] (by decide +kernel) (by decide +kernel)) (goodIn_sub (fun _ h => List.mem_cons_of_mem _ (List.mem_append_right _ h)) (by decide +kernel))
set_option maxRecDepth 20000 in
theorem gX1_row_X1_contentOf : GoodIn wsX1_row (wsV RX1 32 RX1 yX1_contentOf wsX1_contentOf) := goodIn_app (goodIn_of _ (by decide +kernel)) ggX1_row_X1_contentOf
set_option maxRecDepth 20000 in
theorem ggX1_row_X1_newRow : GoodIn wsX1_row wsX1_newRow := goodIn_r _ [19, 20, 21, 22, 23, 24, 25, 26, 27, 28, 29, 30, 31, 32, 43, 44] (by decide +kernel) (by decide +kernel)
set_option maxRecDepth 20000 in
theorem gX1_row_X1_newRow : GoodIn wsX1_row (va_wsS RX1 54 yX1_newRow wsX1_newRow) := goodIn_app (goodIn_of _ (by decide +kernel)) ggX1_row_X1_newRow
set_option maxRecDepth 20000 in
theorem ggX1_lid_X1_contentOf : GoodIn wsX1_lid wsX1_contentOf := goodIn_ca (goodIn_r _ [7, 1, 8, 9, 6, 10, 11, 12, 13, 14, 15, 16, 17, 18, 19, 20, 21, 22] (by decide +kernel) (by decide +kernel)) (goodIn_sub (fun _ h => List.mem_cons_of_mem _ (List.mem_append_right _ h)) (by decide +kernel))
set_option maxRecDepth 20000 in
theorem gX1_lid_X1_contentOf : GoodIn wsX1_lid (wsV RX1 32 RX1 yX1_contentOf wsX1_contentOf) := goodIn_app (goodIn_of _ (by decide +kernel)) ggX1_lid_X1_contentOf
set_option maxRecDepth 20000 in
theorem ggX1_clear_X1_contentOf : GoodIn wsX1_clear wsX1_contentOf := goodIn_ca (goodIn_r _ [6, 1, 7, 8, 5, 9, 10, 11, 12, 13, 14, 15, 16, 17, 18, 19, 20, 21] (by decide +kernel) (by decide +kernel)) (goodIn_sub (fun _ h => List.mem_cons_of_mem _ (List.mem_append_right _ h)) (by decide +kernel))
set_option maxRecDepth 20000 in
theorem gX1_clear_X1_contentOf : GoodIn wsX1_clear (wsV RX1 32 RX1 yX1_contentOf wsX1_contentOf) := goodIn_app (goodIn_of _ (by decide +kernel)) ggX1_clear_X1_contentOf
set_option maxRecDepth 20000 in
theorem ggX1_share_X1_requireBox : GoodIn wsX1_share wsX1_requireBox := goodIn_ca (goodIn_r _ [5, 6, 7] (by decide +kernel) (by decide +kernel)) (goodIn_sub (fun _ h => List.mem_cons_of_mem _ (List.mem_append_right _ h)) (by decide +kernel))
set_option maxRecDepth 20000 in
theorem gX1_share_X1_requireBox : GoodIn wsX1_share (va_wsS RX1 58 yX1_requireBox wsX1_requireBox) := goodIn_app (goodIn_of _ (by decide +kernel)) ggX1_share_X1_requireBox
set_option maxRecDepth 20000 in
theorem ggX1_share_X1_contentOf : GoodIn wsX1_share wsX1_contentOf := goodIn_ca (goodIn_r _ [11, 1, 2, 3, 4, 5, 6, 7, 16, 17, 18, 19, 20, 21, 22, 23, 24, 25] (by decide +kernel) (by decide +kernel)) (goodIn_sub (fun _ h => List.mem_cons_of_mem _ (List.mem_append_right _ h)) (by decide +kernel))
set_option maxRecDepth 20000 in
theorem gX1_share_X1_contentOf : GoodIn wsX1_share (wsV RX1 32 RX1 yX1_contentOf wsX1_contentOf) := goodIn_app (goodIn_of _ (by decide +kernel)) ggX1_share_X1_contentOf
set_option maxRecDepth 20000 in
theorem ggX1_share_X1_sortOf : GoodIn wsX1_share wsX1_sortOf := goodIn_r _ [14, 15, 26, 27] (by decide +kernel) (by decide +kernel)
set_option maxRecDepth 20000 in
theorem gX1_share_X1_sortOf : GoodIn wsX1_share (va_wsS RX1 62 yX1_sortOf wsX1_sortOf) := goodIn_app (goodIn_of _ (by decide +kernel)) ggX1_share_X1_sortOf
set_option maxRecDepth 20000 in
theorem ggX1_put_X1_contentOf : GoodIn wsX1_put wsX1_contentOf := goodIn_ca (goodIn_r _ [9, 10, 11, 12, 8, 13, 14, 15, 32, 33, 34, 35, 36, 37, 38, 39, 40, 41] (by decide +kernel) (by decide +kernel)) (goodIn_sub (fun _ h => List.mem_cons_of_mem _ (List.mem_append_left _ (List.mem_append_right _ h))) (by decide +kernel))
set_option maxRecDepth 20000 in
theorem gX1_put_X1_contentOf : GoodIn wsX1_put (wsV RX1 32 RX1 yX1_contentOf wsX1_contentOf) := goodIn_app (goodIn_of _ (by decide +kernel)) ggX1_put_X1_contentOf
set_option maxRecDepth 20000 in
theorem ggX1_put_X1_isNumbers : GoodIn wsX1_put wsX1_isNumbers := goodIn_r _ [18, 4, 19, 20, 8, 21, 30, 31] (by decide +kernel) (by decide +kernel)
set_option maxRecDepth 20000 in
theorem gX1_put_X1_isNumbers : GoodIn wsX1_put (va_wsS RX1 66 yX1_isNumbers wsX1_isNumbers) := goodIn_app (goodIn_of _ (by decide +kernel)) ggX1_put_X1_isNumbers
set_option maxRecDepth 20000 in
theorem ggX1_put_X1_requirePlace : GoodIn wsX1_put wsX1_requirePlace := goodIn_ca (goodIn_r _ [24, 25, 26, 3, 30, 31] (by decide +kernel) (by decide +kernel)) (goodIn_sub (fun _ h => List.mem_cons_of_mem _ (List.mem_append_right _ h)) (by decide +kernel))
set_option maxRecDepth 20000 in
theorem gX1_put_X1_requirePlace : GoodIn wsX1_put (va_wsS RX1 75 yX1_requirePlace wsX1_requirePlace) := goodIn_app (goodIn_of _ (by decide +kernel)) ggX1_put_X1_requirePlace
set_option maxRecDepth 20000 in
theorem ggX1_put_X1_lowestBits : GoodIn wsX1_put wsX1_lowestBits := goodIn_r _ [29] (by decide +kernel) (by decide +kernel)
set_option maxRecDepth 20000 in
theorem gX1_put_X1_lowestBits : GoodIn wsX1_put (va_wsS RX1 86 yX1_lowestBits wsX1_lowestBits) := goodIn_app (goodIn_of _ (by decide +kernel)) ggX1_put_X1_lowestBits
set_option maxRecDepth 20000 in
theorem ggX1_lay_X1_contentOf : GoodIn wsX1_lay wsX1_contentOf := goodIn_ca (goodIn_r _ [13, 14, 15, 16, 12, 17, 18, 19, 39, 40, 41, 42, 43, 44, 45, 46, 47, 48] (by decide +kernel) (by decide +kernel)) (goodIn_sub (fun _ h => List.mem_cons_of_mem _ (List.mem_append_left _ (List.mem_append_left _ (List.mem_append_right _ h)))) (by decide +kernel))
set_option maxRecDepth 20000 in
theorem gX1_lay_X1_contentOf : GoodIn wsX1_lay (wsV RX1 32 RX1 yX1_contentOf wsX1_contentOf) := goodIn_app (goodIn_of _ (by decide +kernel)) ggX1_lay_X1_contentOf
set_option maxRecDepth 20000 in
theorem ggX1_lay_X1_requireCombs : GoodIn wsX1_lay wsX1_requireCombs := goodIn_ca (goodIn_r _ [22, 23, 24, 25, 26, 12, 27, 6, 28, 29, 30, 49, 50] (by decide +kernel) (by decide +kernel)) (goodIn_sub (fun _ h => List.mem_cons_of_mem _ (List.mem_append_left _ (List.mem_append_right _ h))) (by decide +kernel))
set_option maxRecDepth 20000 in
theorem gX1_lay_X1_requireCombs : GoodIn wsX1_lay (va_wsS RX1 92 yX1_requireCombs wsX1_requireCombs) := goodIn_app (goodIn_of _ (by decide +kernel)) ggX1_lay_X1_requireCombs
set_option maxRecDepth 20000 in
theorem ggX1_lay_X1_requirePlace : GoodIn wsX1_lay wsX1_requirePlace := goodIn_ca (goodIn_r _ [33, 34, 35, 8, 49, 50] (by decide +kernel) (by decide +kernel)) (goodIn_sub (fun _ h => List.mem_cons_of_mem _ (List.mem_append_right _ h)) (by decide +kernel))
set_option maxRecDepth 20000 in
theorem gX1_lay_X1_requirePlace : GoodIn wsX1_lay (va_wsS RX1 75 yX1_requirePlace wsX1_requirePlace) := goodIn_app (goodIn_of _ (by decide +kernel)) ggX1_lay_X1_requirePlace
set_option maxRecDepth 20000 in
theorem ggX1_lay_X1_takes : GoodIn wsX1_lay wsX1_takes := goodIn_r _ [38] (by decide +kernel) (by decide +kernel)
set_option maxRecDepth 20000 in
theorem gX1_lay_X1_takes : GoodIn wsX1_lay (va_wsS RX1 101 yX1_takes wsX1_takes) := goodIn_app (goodIn_of _ (by decide +kernel)) ggX1_lay_X1_takes
set_option maxRecDepth 20000 in
theorem ggX1_lift_X1_contentOf : GoodIn wsX1_lift wsX1_contentOf := goodIn_ca (goodIn_r _ [7, 8, 9, 10, 6, 11, 12, 13, 33, 34, 35, 36, 37, 38, 39, 40, 41, 42] (by decide +kernel) (by decide +kernel)) (goodIn_sub (fun _ h => List.mem_cons_of_mem _ (List.mem_append_left _ (List.mem_append_left _ (List.mem_append_right _ h)))) (by decide +kernel))
set_option maxRecDepth 20000 in
theorem gX1_lift_X1_contentOf : GoodIn wsX1_lift (wsV RX1 32 RX1 yX1_contentOf wsX1_contentOf) := goodIn_app (goodIn_of _ (by decide +kernel)) ggX1_lift_X1_contentOf
set_option maxRecDepth 20000 in
theorem ggX1_lift_X1_requireCombs : GoodIn wsX1_lift wsX1_requireCombs := goodIn_ca (goodIn_r _ [16, 17, 18, 19, 20, 6, 21, 22, 23, 24, 25, 31, 32] (by decide +kernel) (by decide +kernel)) (goodIn_sub (fun _ h => List.mem_cons_of_mem _ (List.mem_append_left _ (List.mem_append_right _ h))) (by decide +kernel))
set_option maxRecDepth 20000 in
theorem gX1_lift_X1_requireCombs : GoodIn wsX1_lift (va_wsS RX1 92 yX1_requireCombs wsX1_requireCombs) := goodIn_app (goodIn_of _ (by decide +kernel)) ggX1_lift_X1_requireCombs
set_option maxRecDepth 20000 in
theorem ggX1_lift_X1_requirePlace : GoodIn wsX1_lift wsX1_requirePlace := goodIn_ca (goodIn_r _ [28, 29, 30, 1, 31, 32] (by decide +kernel) (by decide +kernel)) (goodIn_sub (fun _ h => List.mem_cons_of_mem _ (List.mem_append_right _ h)) (by decide +kernel))
set_option maxRecDepth 20000 in
theorem gX1_lift_X1_requirePlace : GoodIn wsX1_lift (va_wsS RX1 75 yX1_requirePlace wsX1_requirePlace) := goodIn_app (goodIn_of _ (by decide +kernel)) ggX1_lift_X1_requirePlace
set_option maxRecDepth 20000 in
theorem ggX1_move_X1_contentOf : GoodIn wsX1_move wsX1_contentOf := goodIn_ca (goodIn_r _ [5, 6, 7, 8, 4, 9, 10, 11, 58, 59, 60, 61, 62, 63, 64, 65, 66, 67] (by decide +kernel) (by decide +kernel)) (goodIn_sub (fun _ h => List.mem_cons_of_mem _ (List.mem_append_right _ h)) (by decide +kernel))
set_option maxRecDepth 20000 in
theorem gX1_move_X1_contentOf : GoodIn wsX1_move (wsV RX1 32 RX1 yX1_contentOf wsX1_contentOf) := goodIn_app (goodIn_of _ (by decide +kernel)) ggX1_move_X1_contentOf
set_option maxRecDepth 20000 in
theorem ggX1_move_X1_carry : GoodIn wsX1_move wsX1_carry := goodIn_r _ [15, 16, 17, 18, 19, 20, 21, 22, 23, 4, 24, 25, 26, 27, 28, 29, 30, 31, 32, 33, 34, 35, 36, 37, 38, 39, 40, 41, 42, 43, 44, 45, 46, 47, 48, 49, 50, 51, 52, 53, 54, 55, 56, 57, 68, 69, 58, 59, 60, 61, 62, 63, 64, 65, 66, 67] (by decide +kernel) (by decide +kernel)
set_option maxRecDepth 20000 in
theorem gX1_move_X1_carry : GoodIn wsX1_move (wsV RX1 107 RX1 yX1_carry wsX1_carry) := goodIn_app (goodIn_of _ (by decide +kernel)) ggX1_move_X1_carry
set_option maxRecDepth 20000 in
theorem ggX1_pour_X1_contentOf : GoodIn wsX1_pour wsX1_contentOf := goodIn_ca (goodIn_r _ [9, 10, 11, 12, 8, 13, 14, 15, 65, 66, 67, 68, 69, 70, 71, 72, 73, 74] (by decide +kernel) (by decide +kernel)) (goodIn_sub (fun _ h => List.mem_cons_of_mem _ (List.mem_append_right _ h)) (by decide +kernel))
set_option maxRecDepth 20000 in
theorem gX1_pour_X1_contentOf : GoodIn wsX1_pour (wsV RX1 32 RX1 yX1_contentOf wsX1_contentOf) := goodIn_app (goodIn_of _ (by decide +kernel)) ggX1_pour_X1_contentOf
set_option maxRecDepth 20000 in
theorem ggX1_pour_X1_cellsIn : GoodIn wsX1_pour wsX1_cellsIn := goodIn_r _ [18, 19, 75, 76] (by decide +kernel) (by decide +kernel)
set_option maxRecDepth 20000 in
theorem gX1_pour_X1_cellsIn : GoodIn wsX1_pour (va_wsS RX1 111 yX1_cellsIn wsX1_cellsIn) := goodIn_app (goodIn_of _ (by decide +kernel)) ggX1_pour_X1_cellsIn
set_option maxRecDepth 20000 in
theorem ggX1_pour_X1_carry : GoodIn wsX1_pour wsX1_carry := goodIn_r _ [23, 19, 24, 25, 26, 27, 28, 29, 30, 8, 31, 32, 33, 34, 35, 36, 37, 38, 39, 40, 41, 42, 43, 44, 45, 46, 47, 48, 49, 50, 51, 52, 53, 54, 55, 56, 57, 58, 59, 60, 61, 62, 63, 64, 75, 76, 65, 66, 67, 68, 69, 70, 71, 72, 73, 74] (by decide +kernel) (by decide +kernel)
set_option maxRecDepth 20000 in
theorem gX1_pour_X1_carry : GoodIn wsX1_pour (wsV RX1 107 RX1 yX1_carry wsX1_carry) := goodIn_app (goodIn_of _ (by decide +kernel)) ggX1_pour_X1_carry
set_option maxRecDepth 20000 in
theorem ggX1_at_X1_contentOf : GoodIn wsX1_at wsX1_contentOf := goodIn_ca (goodIn_r _ [6, 7, 8, 9, 5, 10, 11, 12, 29, 30, 31, 32, 33, 34, 35, 36, 37, 38] (by decide +kernel) (by decide +kernel)) (goodIn_sub (fun _ h => List.mem_cons_of_mem _ (List.mem_append_left _ (List.mem_append_left _ (List.mem_append_right _ h)))) (by decide +kernel))
set_option maxRecDepth 20000 in
theorem gX1_at_X1_contentOf : GoodIn wsX1_at (wsV RX1 32 RX1 yX1_contentOf wsX1_contentOf) := goodIn_app (goodIn_of _ (by decide +kernel)) ggX1_at_X1_contentOf
set_option maxRecDepth 20000 in
theorem ggX1_at_X1_requireRow : GoodIn wsX1_at wsX1_requireRow := goodIn_ca (goodIn_r _ [15, 16, 17, 18, 19, 5, 20, 21, 27, 28] (by decide +kernel) (by decide +kernel)) (goodIn_sub (fun _ h => List.mem_cons_of_mem _ (List.mem_append_left _ (List.mem_append_right _ h))) (by decide +kernel))
set_option maxRecDepth 20000 in
theorem gX1_at_X1_requireRow : GoodIn wsX1_at (va_wsS RX1 123 yX1_requireRow wsX1_requireRow) := goodIn_app (goodIn_of _ (by decide +kernel)) ggX1_at_X1_requireRow
set_option maxRecDepth 20000 in
theorem ggX1_at_X1_requirePlace : GoodIn wsX1_at wsX1_requirePlace := goodIn_ca (goodIn_r _ [24, 25, 26, 1, 27, 28] (by decide +kernel) (by decide +kernel)) (goodIn_sub (fun _ h => List.mem_cons_of_mem _ (List.mem_append_right _ h)) (by decide +kernel))
set_option maxRecDepth 20000 in
theorem gX1_at_X1_requirePlace : GoodIn wsX1_at (va_wsS RX1 75 yX1_requirePlace wsX1_requirePlace) := goodIn_app (goodIn_of _ (by decide +kernel)) ggX1_at_X1_requirePlace
set_option maxRecDepth 20000 in
theorem ggX1_holds_X1_contentOf : GoodIn wsX1_holds wsX1_contentOf := goodIn_ca (goodIn_r _ [5, 6, 7, 8, 4, 9, 10, 11, 16, 17, 18, 19, 20, 21, 22, 23, 24, 25] (by decide +kernel) (by decide +kernel)) (goodIn_sub (fun _ h => List.mem_cons_of_mem _ (List.mem_append_right _ h)) (by decide +kernel))
set_option maxRecDepth 20000 in
theorem gX1_holds_X1_contentOf : GoodIn wsX1_holds (wsV RX1 32 RX1 yX1_contentOf wsX1_contentOf) := goodIn_app (goodIn_of _ (by decide +kernel)) ggX1_holds_X1_contentOf
set_option maxRecDepth 20000 in
theorem ggX1_holds_X1_sortOf : GoodIn wsX1_holds wsX1_sortOf := goodIn_r _ [14, 15, 26, 27] (by decide +kernel) (by decide +kernel)
set_option maxRecDepth 20000 in
theorem gX1_holds_X1_sortOf : GoodIn wsX1_holds (va_wsS RX1 62 yX1_sortOf wsX1_sortOf) := goodIn_app (goodIn_of _ (by decide +kernel)) ggX1_holds_X1_sortOf
set_option maxRecDepth 20000 in
theorem ggX1_places_X1_contentOf : GoodIn wsX1_places wsX1_contentOf := goodIn_ca (goodIn_r _ [6, 7, 8, 9, 5, 10, 11, 12, 24, 25, 26, 27, 28, 29, 30, 31, 32, 33] (by decide +kernel) (by decide +kernel)) (goodIn_sub (fun _ h => List.mem_cons_of_mem _ (List.mem_append_left _ (List.mem_append_right _ h))) (by decide +kernel))
set_option maxRecDepth 20000 in
theorem gX1_places_X1_contentOf : GoodIn wsX1_places (wsV RX1 32 RX1 yX1_contentOf wsX1_contentOf) := goodIn_app (goodIn_of _ (by decide +kernel)) ggX1_places_X1_contentOf
set_option maxRecDepth 20000 in
theorem ggX1_places_X1_requireRow : GoodIn wsX1_places wsX1_requireRow := goodIn_ca (goodIn_r _ [15, 16, 17, 18, 19, 5, 20, 21, 22, 23] (by decide +kernel) (by decide +kernel)) (goodIn_sub (fun _ h => List.mem_cons_of_mem _ (List.mem_append_right _ h)) (by decide +kernel))
set_option maxRecDepth 20000 in
theorem gX1_places_X1_requireRow : GoodIn wsX1_places (va_wsS RX1 123 yX1_requireRow wsX1_requireRow) := goodIn_app (goodIn_of _ (by decide +kernel)) ggX1_places_X1_requireRow
set_option maxRecDepth 20000 in
theorem ggX1_same_X1_contentOf : GoodIn wsX1_same wsX1_contentOf := goodIn_ca (goodIn_r _ [5, 6, 7, 8, 4, 9, 10, 11, 16, 17, 18, 19, 20, 21, 22, 23, 24, 25] (by decide +kernel) (by decide +kernel)) (goodIn_sub (fun _ h => List.mem_cons_of_mem _ (List.mem_append_right _ h)) (by decide +kernel))
set_option maxRecDepth 20000 in
theorem gX1_same_X1_contentOf : GoodIn wsX1_same (wsV RX1 32 RX1 yX1_contentOf wsX1_contentOf) := goodIn_app (goodIn_of _ (by decide +kernel)) ggX1_same_X1_contentOf
set_option maxRecDepth 20000 in
theorem ggX1_same_X1_isRow : GoodIn wsX1_same wsX1_isRow := goodIn_r _ [14, 15, 26, 27] (by decide +kernel) (by decide +kernel)
set_option maxRecDepth 20000 in
theorem gX1_same_X1_isRow : GoodIn wsX1_same (va_wsS RX1 126 yX1_isRow wsX1_isRow) := goodIn_app (goodIn_of _ (by decide +kernel)) ggX1_same_X1_isRow
set_option maxRecDepth 20000 in
theorem ggX1_all_X1_contentOf : GoodIn wsX1_all wsX1_contentOf := goodIn_ca (goodIn_r _ [6, 7, 8, 9, 5, 10, 11, 12, 40, 41, 42, 43, 44, 45, 46, 47, 48, 49] (by decide +kernel) (by decide +kernel)) (goodIn_sub (fun _ h => List.mem_cons_of_mem _ (List.mem_append_left _ (List.mem_append_right _ h))) (by decide +kernel))
set_option maxRecDepth 20000 in
theorem gX1_all_X1_contentOf : GoodIn wsX1_all (wsV RX1 32 RX1 yX1_contentOf wsX1_contentOf) := goodIn_app (goodIn_of _ (by decide +kernel)) ggX1_all_X1_contentOf
set_option maxRecDepth 20000 in
theorem ggX1_all_X1_requireRow : GoodIn wsX1_all wsX1_requireRow := goodIn_ca (goodIn_r _ [15, 16, 17, 18, 19, 5, 20, 21, 38, 39] (by decide +kernel) (by decide +kernel)) (goodIn_sub (fun _ h => List.mem_cons_of_mem _ (List.mem_append_right _ h)) (by decide +kernel))
set_option maxRecDepth 20000 in
theorem gX1_all_X1_requireRow : GoodIn wsX1_all (va_wsS RX1 123 yX1_requireRow wsX1_requireRow) := goodIn_app (goodIn_of _ (by decide +kernel)) ggX1_all_X1_requireRow
set_option maxRecDepth 20000 in
theorem ggX1_all_X1_isCombs : GoodIn wsX1_all wsX1_isCombs := goodIn_r _ [24, 21, 18, 19, 5, 20, 38, 39] (by decide +kernel) (by decide +kernel)
set_option maxRecDepth 20000 in
theorem gX1_all_X1_isCombs : GoodIn wsX1_all (va_wsS RX1 129 yX1_isCombs wsX1_isCombs) := goodIn_app (goodIn_of _ (by decide +kernel)) ggX1_all_X1_isCombs
set_option maxRecDepth 20000 in
theorem ggX1_all_X1_sumOfWeights : GoodIn wsX1_all wsX1_sumOfWeights := goodIn_r _ [28, 29, 30, 31, 32, 5, 33, 34, 40, 41, 42, 43, 44, 45, 46, 47, 48, 49] (by decide +kernel) (by decide +kernel)
set_option maxRecDepth 20000 in
theorem gX1_all_X1_sumOfWeights : GoodIn wsX1_all (wsV RX1 132 RX1 yX1_sumOfWeights wsX1_sumOfWeights) := goodIn_app (goodIn_of _ (by decide +kernel)) ggX1_all_X1_sumOfWeights
set_option maxRecDepth 20000 in
theorem ggX1_all_X1_sumOfNumbers : GoodIn wsX1_all wsX1_sumOfNumbers := goodIn_r _ [37] (by decide +kernel) (by decide +kernel)
set_option maxRecDepth 20000 in
theorem gX1_all_X1_sumOfNumbers : GoodIn wsX1_all (va_wsS RX1 136 yX1_sumOfNumbers wsX1_sumOfNumbers) := goodIn_app (goodIn_of _ (by decide +kernel)) ggX1_all_X1_sumOfNumbers
set_option maxRecDepth 20000 in
theorem ggX1_feed_X1_requireComb : GoodIn wsX1_feed wsX1_requireComb := goodIn_ca (goodIn_r _ [6, 7, 8, 9, 10, 11, 5, 12, 13, 14, 15, 16, 17, 18, 19, 20, 21, 22, 23] (by decide +kernel) (by decide +kernel)) (goodIn_sub (fun _ h => List.mem_cons_of_mem _ (List.mem_append_right _ h)) (by decide +kernel))
set_option maxRecDepth 20000 in
theorem gX1_feed_X1_requireComb : GoodIn wsX1_feed (wsV RX1 139 RX1 yX1_requireComb wsX1_requireComb) := goodIn_app (goodIn_of _ (by decide +kernel)) ggX1_feed_X1_requireComb
set_option maxRecDepth 20000 in
theorem ggX1_kind_X1_requireComb : GoodIn wsX1_kind wsX1_requireComb := goodIn_ca (goodIn_r _ [6, 7, 8, 9, 10, 11, 5, 12, 13, 14, 15, 16, 17, 18, 19, 20, 21, 22, 23] (by decide +kernel) (by decide +kernel)) (goodIn_sub (fun _ h => List.mem_cons_of_mem _ (List.mem_append_right _ h)) (by decide +kernel))
set_option maxRecDepth 20000 in
theorem gX1_kind_X1_requireComb : GoodIn wsX1_kind (wsV RX1 139 RX1 yX1_requireComb wsX1_requireComb) := goodIn_app (goodIn_of _ (by decide +kernel)) ggX1_kind_X1_requireComb
set_option maxRecDepth 20000 in
theorem ggX1_count_X1_countOfEnd : GoodIn wsX1_count wsX1_countOfEnd := goodIn_r _ [9, 10, 11, 12, 13, 14, 15, 16, 17, 18, 19, 20] (by decide +kernel) (by decide +kernel)
set_option maxRecDepth 20000 in
theorem gX1_count_X1_countOfEnd : GoodIn wsX1_count (wsV RX1 148 RX1 yX1_countOfEnd wsX1_countOfEnd) := goodIn_app (goodIn_of _ (by decide +kernel)) ggX1_count_X1_countOfEnd
set_option maxRecDepth 20000 in
theorem ggX1_contentOf_X1_requireBox : GoodIn wsX1_contentOf wsX1_requireBox := goodIn_ca (goodIn_r _ [5, 6, 7] (by decide +kernel) (by decide +kernel)) (goodIn_sub (fun _ h => List.mem_cons_of_mem _ (List.mem_append_right _ h)) (by decide +kernel))
set_option maxRecDepth 20000 in
theorem gX1_contentOf_X1_requireBox : GoodIn wsX1_contentOf (va_wsS RX1 58 yX1_requireBox wsX1_requireBox) := goodIn_app (goodIn_of _ (by decide +kernel)) ggX1_contentOf_X1_requireBox
set_option maxRecDepth 20000 in
theorem ggX1_requireRow_X1_isRow : GoodIn wsX1_requireRow wsX1_isRow := goodIn_r _ [6, 7, 8, 9] (by decide +kernel) (by decide +kernel)
set_option maxRecDepth 20000 in
theorem gX1_requireRow_X1_isRow : GoodIn wsX1_requireRow (va_wsS RX1 126 yX1_isRow wsX1_isRow) := goodIn_app (goodIn_of _ (by decide +kernel)) ggX1_requireRow_X1_isRow
set_option maxRecDepth 20000 in
theorem ggX1_requireCombs_X1_isCombs : GoodIn wsX1_requireCombs wsX1_isCombs := goodIn_r _ [6, 7, 8, 9, 5, 10, 11, 12] (by decide +kernel) (by decide +kernel)
set_option maxRecDepth 20000 in
theorem gX1_requireCombs_X1_isCombs : GoodIn wsX1_requireCombs (va_wsS RX1 129 yX1_isCombs wsX1_isCombs) := goodIn_app (goodIn_of _ (by decide +kernel)) ggX1_requireCombs_X1_isCombs
set_option maxRecDepth 20000 in
theorem ggX1_requireComb_X1_isComb : GoodIn wsX1_requireComb wsX1_isComb := goodIn_r _ [7, 8, 9, 10, 11, 12, 13, 14, 15, 16, 17, 18] (by decide +kernel) (by decide +kernel)
set_option maxRecDepth 20000 in
theorem gX1_requireComb_X1_isComb : GoodIn wsX1_requireComb (wsV RX1 166 RX1 yX1_isComb wsX1_isComb) := goodIn_app (goodIn_of _ (by decide +kernel)) ggX1_requireComb_X1_isComb
set_option maxRecDepth 20000 in
theorem ggX1_isNumbers_X1_isRow : GoodIn wsX1_isNumbers wsX1_isRow := goodIn_r _ [5, 1, 6, 7] (by decide +kernel) (by decide +kernel)
set_option maxRecDepth 20000 in
theorem gX1_isNumbers_X1_isRow : GoodIn wsX1_isNumbers (va_wsS RX1 126 yX1_isRow wsX1_isRow) := goodIn_app (goodIn_of _ (by decide +kernel)) ggX1_isNumbers_X1_isRow
set_option maxRecDepth 20000 in
theorem ggX1_isCombs_X1_isRow : GoodIn wsX1_isCombs wsX1_isRow := goodIn_r _ [5, 1, 6, 7] (by decide +kernel) (by decide +kernel)
set_option maxRecDepth 20000 in
theorem gX1_isCombs_X1_isRow : GoodIn wsX1_isCombs (va_wsS RX1 126 yX1_isRow wsX1_isRow) := goodIn_app (goodIn_of _ (by decide +kernel)) ggX1_isCombs_X1_isRow
set_option maxRecDepth 20000 in
theorem ggX1_newRow_X0_init : GoodIn wsX1_newRow wsX0_init := goodIn_r _ [8, 9, 10, 11, 12, 13, 14, 15] (by decide +kernel) (by decide +kernel)
set_option maxRecDepth 20000 in
theorem gX1_newRow_X0_init : GoodIn wsX1_newRow (wsX0_init) := ggX1_newRow_X0_init
set_option maxRecDepth 20000 in
theorem ggX1_carry_X1_ended : GoodIn wsX1_carry wsX1_ended := goodIn_r _ [10, 11, 12, 13, 14, 46, 47, 48, 49, 50, 51, 52, 53, 54, 55] (by decide +kernel) (by decide +kernel)
set_option maxRecDepth 20000 in
theorem gX1_carry_X1_ended : GoodIn wsX1_carry (wsV RX1 172 RX1 yX1_ended wsX1_ended) := goodIn_app (goodIn_of _ (by decide +kernel)) ggX1_carry_X1_ended
set_option maxRecDepth 20000 in
theorem ggX1_carry_X1_isRow : GoodIn wsX1_carry wsX1_isRow := goodIn_r _ [17, 18, 44, 45] (by decide +kernel) (by decide +kernel)
set_option maxRecDepth 20000 in
theorem gX1_carry_X1_isRow : GoodIn wsX1_carry (va_wsS RX1 126 yX1_isRow wsX1_isRow) := goodIn_app (goodIn_of _ (by decide +kernel)) ggX1_carry_X1_isRow
set_option maxRecDepth 20000 in
theorem ggX1_carry_X1_areUnlike : GoodIn wsX1_carry wsX1_areUnlike := goodIn_r _ [21, 18, 22, 23, 9, 24, 15, 16, 17, 44, 45] (by decide +kernel) (by decide +kernel)
set_option maxRecDepth 20000 in
theorem gX1_carry_X1_areUnlike : GoodIn wsX1_carry (va_wsS RX1 175 yX1_areUnlike wsX1_areUnlike) := goodIn_app (goodIn_of _ (by decide +kernel)) ggX1_carry_X1_areUnlike
set_option maxRecDepth 20000 in
theorem ggX1_carry_X1_isOutside : GoodIn wsX1_carry wsX1_isOutside := goodIn_r _ [27, 1, 44, 45] (by decide +kernel) (by decide +kernel)
set_option maxRecDepth 20000 in
theorem gX1_carry_X1_isOutside : GoodIn wsX1_carry (va_wsS RX1 179 yX1_isOutside wsX1_isOutside) := goodIn_app (goodIn_of _ (by decide +kernel)) ggX1_carry_X1_isOutside
set_option maxRecDepth 20000 in
theorem ggX1_carry_X1_howManyFit : GoodIn wsX1_carry wsX1_howManyFit := goodIn_r _ [31, 1, 18, 32, 33, 34, 9, 35, 15, 16, 17, 36, 37, 38, 39, 40, 41, 42, 43, 44, 45, 46, 47, 48, 49, 50, 51, 52, 53, 54, 55] (by decide +kernel) (by decide +kernel)
set_option maxRecDepth 20000 in
theorem gX1_carry_X1_howManyFit : GoodIn wsX1_carry (wsV RX1 183 RX1 yX1_howManyFit wsX1_howManyFit) := goodIn_app (goodIn_of _ (by decide +kernel)) ggX1_carry_X1_howManyFit
set_option maxRecDepth 20000 in
theorem ggX1_areUnlike_X1_isCombs : GoodIn wsX1_areUnlike wsX1_isCombs := goodIn_r _ [5, 1, 6, 7, 4, 8, 9, 10] (by decide +kernel) (by decide +kernel)
set_option maxRecDepth 20000 in
theorem gX1_areUnlike_X1_isCombs : GoodIn wsX1_areUnlike (va_wsS RX1 129 yX1_isCombs wsX1_isCombs) := goodIn_app (goodIn_of _ (by decide +kernel)) ggX1_areUnlike_X1_isCombs
set_option maxRecDepth 20000 in
theorem ggX1_howManyFit_X1_isNumbers : GoodIn wsX1_howManyFit wsX1_isNumbers := goodIn_r _ [7, 2, 8, 9, 6, 10, 19, 20] (by decide +kernel) (by decide +kernel)
set_option maxRecDepth 20000 in
theorem gX1_howManyFit_X1_isNumbers : GoodIn wsX1_howManyFit (va_wsS RX1 66 yX1_isNumbers wsX1_isNumbers) := goodIn_app (goodIn_of _ (by decide +kernel)) ggX1_howManyFit_X1_isNumbers
set_option maxRecDepth 20000 in
theorem ggX1_howManyFit_X1_isComb : GoodIn wsX1_howManyFit wsX1_isComb := goodIn_r _ [14, 15, 21, 22, 23, 24, 25, 26, 27, 28, 29, 30] (by decide +kernel) (by decide +kernel)
set_option maxRecDepth 20000 in
theorem gX1_howManyFit_X1_isComb : GoodIn wsX1_howManyFit (wsV RX1 166 RX1 yX1_isComb wsX1_isComb) := goodIn_app (goodIn_of _ (by decide +kernel)) ggX1_howManyFit_X1_isComb
set_option maxRecDepth 20000 in
theorem ggX1_howManyFit_X1_takes : GoodIn wsX1_howManyFit wsX1_takes := goodIn_r _ [18] (by decide +kernel) (by decide +kernel)
set_option maxRecDepth 20000 in
theorem gX1_howManyFit_X1_takes : GoodIn wsX1_howManyFit (va_wsS RX1 101 yX1_takes wsX1_takes) := goodIn_app (goodIn_of _ (by decide +kernel)) ggX1_howManyFit_X1_takes
set_option maxRecDepth 20000 in
theorem ggX1_sumOfWeights_X1_isComb : GoodIn wsX1_sumOfWeights wsX1_isComb := goodIn_r _ [6, 7, 8, 9, 10, 11, 12, 13, 14, 15, 16, 17] (by decide +kernel) (by decide +kernel)
set_option maxRecDepth 20000 in
theorem gX1_sumOfWeights_X1_isComb : GoodIn wsX1_sumOfWeights (wsV RX1 166 RX1 yX1_isComb wsX1_isComb) := goodIn_app (goodIn_of _ (by decide +kernel)) ggX1_sumOfWeights_X1_isComb
set_option maxRecDepth 20000 in
theorem ggX2_row_X2_isBox : GoodIn wsX2_row wsX2_isBox := goodIn_r _ [11] (by decide +kernel) (by decide +kernel)
set_option maxRecDepth 20000 in
theorem gX2_row_X2_isBox : GoodIn wsX2_row (va_wsS RX2 39 yX2_isBox wsX2_isBox) := goodIn_app (goodIn_of _ (by decide +kernel)) ggX2_row_X2_isBox
set_option maxRecDepth 20000 in
theorem ggX2_row_X2_fail : GoodIn wsX2_row wsX2_fail := goodIn_r _ [15, 1, 19, 20, 21, 22, 23, 24, 25, 26, 27, 28, 29, 30, 31, 32] (by decide +kernel) (by decide +kernel)
set_option maxRecDepth 20000 in
theorem gX2_row_X2_fail : GoodIn wsX2_row (wsV RX2 43 RX2 yX2_fail wsX2_fail) := goodIn_app (goodIn_of _ (by decide +kernel)) ggX2_row_X2_fail
set_option maxRecDepth 20000 in
theorem ggX2_row_X2_isOfCombs : GoodIn wsX2_row wsX2_isOfCombs := goodIn_r _ [18] (by decide +kernel) (by decide +kernel)
set_option maxRecDepth 20000 in
theorem gX2_row_X2_isOfCombs : GoodIn wsX2_row (va_wsS RX2 50 yX2_isOfCombs wsX2_isOfCombs) := goodIn_app (goodIn_of _ (by decide +kernel)) ggX2_row_X2_isOfCombs
set_option maxRecDepth 20000 in
theorem ggX2_lid_X2_isBox : GoodIn wsX2_lid wsX2_isBox := goodIn_r _ [6] (by decide +kernel) (by decide +kernel)
set_option maxRecDepth 20000 in
theorem gX2_lid_X2_isBox : GoodIn wsX2_lid (va_wsS RX2 39 yX2_isBox wsX2_isBox) := goodIn_app (goodIn_of _ (by decide +kernel)) ggX2_lid_X2_isBox
set_option maxRecDepth 20000 in
theorem ggX2_lid_X2_fail : GoodIn wsX2_lid wsX2_fail := goodIn_r _ [10, 1, 11, 12, 13, 14, 15, 16, 17, 18, 19, 20, 21, 22, 23, 24] (by decide +kernel) (by decide +kernel)
set_option maxRecDepth 20000 in
theorem gX2_lid_X2_fail : GoodIn wsX2_lid (wsV RX2 43 RX2 yX2_fail wsX2_fail) := goodIn_app (goodIn_of _ (by decide +kernel)) ggX2_lid_X2_fail
set_option maxRecDepth 20000 in
theorem ggX2_clear_X2_isBox : GoodIn wsX2_clear wsX2_isBox := goodIn_r _ [6] (by decide +kernel) (by decide +kernel)
set_option maxRecDepth 20000 in
theorem gX2_clear_X2_isBox : GoodIn wsX2_clear (va_wsS RX2 39 yX2_isBox wsX2_isBox) := goodIn_app (goodIn_of _ (by decide +kernel)) ggX2_clear_X2_isBox
set_option maxRecDepth 20000 in
theorem ggX2_clear_X2_fail : GoodIn wsX2_clear wsX2_fail := goodIn_r _ [10, 1, 11, 12, 13, 14, 15, 16, 17, 18, 19, 20, 21, 22, 23, 24] (by decide +kernel) (by decide +kernel)
set_option maxRecDepth 20000 in
theorem gX2_clear_X2_fail : GoodIn wsX2_clear (wsV RX2 43 RX2 yX2_fail wsX2_fail) := goodIn_app (goodIn_of _ (by decide +kernel)) ggX2_clear_X2_fail
set_option maxRecDepth 20000 in
theorem ggX2_share_X2_isBox : GoodIn wsX2_share wsX2_isBox := goodIn_r _ [6] (by decide +kernel) (by decide +kernel)
set_option maxRecDepth 20000 in
theorem gX2_share_X2_isBox : GoodIn wsX2_share (va_wsS RX2 39 yX2_isBox wsX2_isBox) := goodIn_app (goodIn_of _ (by decide +kernel)) ggX2_share_X2_isBox
set_option maxRecDepth 20000 in
theorem ggX2_share_X2_fail : GoodIn wsX2_share wsX2_fail := goodIn_r _ [10, 1, 16, 17, 18, 19, 20, 21, 22, 23, 24, 25, 26, 27, 28, 29] (by decide +kernel) (by decide +kernel)
set_option maxRecDepth 20000 in
theorem gX2_share_X2_fail : GoodIn wsX2_share (wsV RX2 43 RX2 yX2_fail wsX2_fail) := goodIn_app (goodIn_of _ (by decide +kernel)) ggX2_share_X2_fail
set_option maxRecDepth 20000 in
theorem ggX2_share_X2_what : GoodIn wsX2_share wsX2_what := goodIn_r _ [14, 2, 15, 16, 17, 18, 19, 20, 21, 22, 23, 24, 25, 26, 27, 28, 29] (by decide +kernel) (by decide +kernel)
set_option maxRecDepth 20000 in
theorem gX2_share_X2_what : GoodIn wsX2_share (wsV RX2 55 RX2 yX2_what wsX2_what) := goodIn_app (goodIn_of _ (by decide +kernel)) ggX2_share_X2_what
set_option maxRecDepth 20000 in
theorem ggX2_barred_X2_hasRow : GoodIn wsX2_barred wsX2_hasRow := goodIn_r _ [5, 6, 20, 21, 22, 23, 24, 25, 26, 27, 28, 29, 30, 31, 32, 33] (by decide +kernel) (by decide +kernel)
set_option maxRecDepth 20000 in
theorem gX2_barred_X2_hasRow : GoodIn wsX2_barred (wsV RX2 58 RX2 yX2_hasRow wsX2_hasRow) := goodIn_app (goodIn_of _ (by decide +kernel)) ggX2_barred_X2_hasRow
set_option maxRecDepth 20000 in
theorem ggX2_barred_X2_what : GoodIn wsX2_barred wsX2_what := goodIn_r _ [10, 6, 11, 20, 21, 22, 23, 24, 25, 26, 27, 28, 29, 30, 31, 32, 33] (by decide +kernel) (by decide +kernel)
set_option maxRecDepth 20000 in
theorem gX2_barred_X2_what : GoodIn wsX2_barred (wsV RX2 55 RX2 yX2_what wsX2_what) := goodIn_app (goodIn_of _ (by decide +kernel)) ggX2_barred_X2_what
set_option maxRecDepth 20000 in
theorem ggX2_barred_X2_isOfCombs : GoodIn wsX2_barred wsX2_isOfCombs := goodIn_r _ [14] (by decide +kernel) (by decide +kernel)
set_option maxRecDepth 20000 in
theorem gX2_barred_X2_isOfCombs : GoodIn wsX2_barred (va_wsS RX2 50 yX2_isOfCombs wsX2_isOfCombs) := goodIn_app (goodIn_of _ (by decide +kernel)) ggX2_barred_X2_isOfCombs
set_option maxRecDepth 20000 in
theorem ggX2_barred_X2_isPlace : GoodIn wsX2_barred wsX2_isPlace := goodIn_r _ [18, 19, 6, 20, 21, 22, 23, 24, 25, 26, 27, 28, 29, 30, 31, 32, 33] (by decide +kernel) (by decide +kernel)
set_option maxRecDepth 20000 in
theorem gX2_barred_X2_isPlace : GoodIn wsX2_barred (wsV RX2 61 RX2 yX2_isPlace wsX2_isPlace) := goodIn_app (goodIn_of _ (by decide +kernel)) ggX2_barred_X2_isPlace
set_option maxRecDepth 20000 in
theorem ggX2_put_X2_isBox : GoodIn wsX2_put wsX2_isBox := goodIn_r _ [7] (by decide +kernel) (by decide +kernel)
set_option maxRecDepth 20000 in
theorem gX2_put_X2_isBox : GoodIn wsX2_put (va_wsS RX2 39 yX2_isBox wsX2_isBox) := goodIn_app (goodIn_of _ (by decide +kernel)) ggX2_put_X2_isBox
set_option maxRecDepth 20000 in
theorem ggX2_put_X2_fail : GoodIn wsX2_put wsX2_fail := goodIn_r _ [11, 1, 36, 37, 38, 39, 40, 41, 42, 43, 44, 45, 46, 47, 48, 49] (by decide +kernel) (by decide +kernel)
set_option maxRecDepth 20000 in
theorem gX2_put_X2_fail : GoodIn wsX2_put (wsV RX2 43 RX2 yX2_fail wsX2_fail) := goodIn_app (goodIn_of _ (by decide +kernel)) ggX2_put_X2_fail
set_option maxRecDepth 20000 in
theorem ggX2_put_X2_barred : GoodIn wsX2_put wsX2_barred := goodIn_r _ [15, 16, 17, 18, 6, 19, 2, 20, 21, 22, 23, 24, 25, 26, 27, 28, 29, 30, 31, 32, 36, 37, 38, 39, 40, 41, 42, 43, 44, 45, 46, 47, 48, 49] (by decide +kernel) (by decide +kernel)
set_option maxRecDepth 20000 in
theorem gX2_put_X2_barred : GoodIn wsX2_put (wsV RX2 65 RX2 yX2_barred wsX2_barred) := goodIn_app (goodIn_of _ (by decide +kernel)) ggX2_put_X2_barred
set_option maxRecDepth 20000 in
theorem ggX2_put_X2_what : GoodIn wsX2_put wsX2_what := goodIn_r _ [23, 2, 24, 36, 37, 38, 39, 40, 41, 42, 43, 44, 45, 46, 47, 48, 49] (by decide +kernel) (by decide +kernel)
set_option maxRecDepth 20000 in
theorem gX2_put_X2_what : GoodIn wsX2_put (wsV RX2 55 RX2 yX2_what wsX2_what) := goodIn_app (goodIn_of _ (by decide +kernel)) ggX2_put_X2_what
set_option maxRecDepth 20000 in
theorem ggX2_put_X2_cut : GoodIn wsX2_put wsX2_cut := goodIn_r _ [35] (by decide +kernel) (by decide +kernel)
set_option maxRecDepth 20000 in
theorem gX2_put_X2_cut : GoodIn wsX2_put (va_wsS RX2 69 yX2_cut wsX2_cut) := goodIn_app (goodIn_of _ (by decide +kernel)) ggX2_put_X2_cut
set_option maxRecDepth 20000 in
theorem ggX2_lay_X2_isBox : GoodIn wsX2_lay wsX2_isBox := goodIn_r _ [10] (by decide +kernel) (by decide +kernel)
set_option maxRecDepth 20000 in
theorem gX2_lay_X2_isBox : GoodIn wsX2_lay (va_wsS RX2 39 yX2_isBox wsX2_isBox) := goodIn_app (goodIn_of _ (by decide +kernel)) ggX2_lay_X2_isBox
set_option maxRecDepth 20000 in
theorem ggX2_lay_X2_fail : GoodIn wsX2_lay wsX2_fail := goodIn_r _ [14, 1, 39, 40, 41, 42, 43, 44, 45, 46, 47, 48, 49, 50, 51, 52] (by decide +kernel) (by decide +kernel)
set_option maxRecDepth 20000 in
theorem gX2_lay_X2_fail : GoodIn wsX2_lay (wsV RX2 43 RX2 yX2_fail wsX2_fail) := goodIn_app (goodIn_of _ (by decide +kernel)) ggX2_lay_X2_fail
set_option maxRecDepth 20000 in
theorem ggX2_lay_X2_barred : GoodIn wsX2_lay wsX2_barred := goodIn_r _ [18, 19, 20, 21, 9, 22, 6, 23, 24, 25, 26, 27, 28, 29, 30, 31, 32, 33, 34, 35, 39, 40, 41, 42, 43, 44, 45, 46, 47, 48, 49, 50, 51, 52] (by decide +kernel) (by decide +kernel)
set_option maxRecDepth 20000 in
theorem gX2_lay_X2_barred : GoodIn wsX2_lay (wsV RX2 65 RX2 yX2_barred wsX2_barred) := goodIn_app (goodIn_of _ (by decide +kernel)) ggX2_lay_X2_barred
set_option maxRecDepth 20000 in
theorem ggX2_lay_X2_what : GoodIn wsX2_lay wsX2_what := goodIn_r _ [26, 6, 27, 39, 40, 41, 42, 43, 44, 45, 46, 47, 48, 49, 50, 51, 52] (by decide +kernel) (by decide +kernel)
set_option maxRecDepth 20000 in
theorem gX2_lay_X2_what : GoodIn wsX2_lay (wsV RX2 55 RX2 yX2_what wsX2_what) := goodIn_app (goodIn_of _ (by decide +kernel)) ggX2_lay_X2_what
set_option maxRecDepth 20000 in
theorem ggX2_lay_X2_takes : GoodIn wsX2_lay wsX2_takes := goodIn_r _ [38] (by decide +kernel) (by decide +kernel)
set_option maxRecDepth 20000 in
theorem gX2_lay_X2_takes : GoodIn wsX2_lay (va_wsS RX2 76 yX2_takes wsX2_takes) := goodIn_app (goodIn_of _ (by decide +kernel)) ggX2_lay_X2_takes
set_option maxRecDepth 20000 in
theorem ggX2_lift_X2_isBox : GoodIn wsX2_lift wsX2_isBox := goodIn_r _ [8] (by decide +kernel) (by decide +kernel)
set_option maxRecDepth 20000 in
theorem gX2_lift_X2_isBox : GoodIn wsX2_lift (va_wsS RX2 39 yX2_isBox wsX2_isBox) := goodIn_app (goodIn_of _ (by decide +kernel)) ggX2_lift_X2_isBox
set_option maxRecDepth 20000 in
theorem ggX2_lift_X2_fail : GoodIn wsX2_lift wsX2_fail := goodIn_r _ [12, 1, 34, 35, 36, 37, 38, 39, 40, 41, 42, 43, 44, 45, 46, 47] (by decide +kernel) (by decide +kernel)
set_option maxRecDepth 20000 in
theorem gX2_lift_X2_fail : GoodIn wsX2_lift (wsV RX2 43 RX2 yX2_fail wsX2_fail) := goodIn_app (goodIn_of _ (by decide +kernel)) ggX2_lift_X2_fail
set_option maxRecDepth 20000 in
theorem ggX2_lift_X2_barred : GoodIn wsX2_lift wsX2_barred := goodIn_r _ [16, 17, 18, 19, 7, 20, 2, 21, 22, 23, 24, 25, 26, 27, 28, 29, 30, 31, 32, 33, 34, 35, 36, 37, 38, 39, 40, 41, 42, 43, 44, 45, 46, 47] (by decide +kernel) (by decide +kernel)
set_option maxRecDepth 20000 in
theorem gX2_lift_X2_barred : GoodIn wsX2_lift (wsV RX2 65 RX2 yX2_barred wsX2_barred) := goodIn_app (goodIn_of _ (by decide +kernel)) ggX2_lift_X2_barred
set_option maxRecDepth 20000 in
theorem ggX2_bars_X2_hasRow : GoodIn wsX2_bars wsX2_hasRow := goodIn_r _ [7, 1, 19, 20, 21, 22, 23, 24, 25, 26, 27, 28, 29, 30, 31, 32] (by decide +kernel) (by decide +kernel)
set_option maxRecDepth 20000 in
theorem gX2_bars_X2_hasRow : GoodIn wsX2_bars (wsV RX2 58 RX2 yX2_hasRow wsX2_hasRow) := goodIn_app (goodIn_of _ (by decide +kernel)) ggX2_bars_X2_hasRow
set_option maxRecDepth 20000 in
theorem ggX2_bars_X2_what : GoodIn wsX2_bars wsX2_what := goodIn_r _ [11, 1, 12, 19, 20, 21, 22, 23, 24, 25, 26, 27, 28, 29, 30, 31, 32] (by decide +kernel) (by decide +kernel)
set_option maxRecDepth 20000 in
theorem gX2_bars_X2_what : GoodIn wsX2_bars (wsV RX2 55 RX2 yX2_what wsX2_what) := goodIn_app (goodIn_of _ (by decide +kernel)) ggX2_bars_X2_what
set_option maxRecDepth 20000 in
theorem ggX2_bars_X2_isOfCombs : GoodIn wsX2_bars wsX2_isOfCombs := goodIn_r _ [15] (by decide +kernel) (by decide +kernel)
set_option maxRecDepth 20000 in
theorem gX2_bars_X2_isOfCombs : GoodIn wsX2_bars (va_wsS RX2 50 yX2_isOfCombs wsX2_isOfCombs) := goodIn_app (goodIn_of _ (by decide +kernel)) ggX2_bars_X2_isOfCombs
set_option maxRecDepth 20000 in
theorem ggX2_bars_X2_isOutside : GoodIn wsX2_bars wsX2_isOutside := goodIn_r _ [18] (by decide +kernel) (by decide +kernel)
set_option maxRecDepth 20000 in
theorem gX2_bars_X2_isOutside : GoodIn wsX2_bars (va_wsS RX2 79 yX2_isOutside wsX2_isOutside) := goodIn_app (goodIn_of _ (by decide +kernel)) ggX2_bars_X2_isOutside
set_option maxRecDepth 20000 in
theorem ggX2_goes_X2_bars : GoodIn wsX2_goes wsX2_bars := goodIn_r _ [10, 2, 11, 12, 13, 14, 9, 15, 16, 17, 18, 19, 20, 21, 22, 23, 24, 25, 26, 30, 31, 32, 33, 34, 35, 36, 37, 38, 39, 40, 41, 42, 43] (by decide +kernel) (by decide +kernel)
set_option maxRecDepth 20000 in
theorem gX2_goes_X2_bars : GoodIn wsX2_goes (wsV RX2 86 RX2 yX2_bars wsX2_bars) := goodIn_app (goodIn_of _ (by decide +kernel)) ggX2_goes_X2_bars
set_option maxRecDepth 20000 in
theorem ggX2_goes_X2_what : GoodIn wsX2_goes wsX2_what := goodIn_r _ [19, 2, 20, 30, 31, 32, 33, 34, 35, 36, 37, 38, 39, 40, 41, 42, 43] (by decide +kernel) (by decide +kernel)
set_option maxRecDepth 20000 in
theorem gX2_goes_X2_what : GoodIn wsX2_goes (wsV RX2 55 RX2 yX2_what wsX2_what) := goodIn_app (goodIn_of _ (by decide +kernel)) ggX2_goes_X2_what
set_option maxRecDepth 20000 in
theorem ggX2_goes_X2_isOfCombs : GoodIn wsX2_goes wsX2_isOfCombs := goodIn_r _ [23] (by decide +kernel) (by decide +kernel)
set_option maxRecDepth 20000 in
theorem gX2_goes_X2_isOfCombs : GoodIn wsX2_goes (va_wsS RX2 50 yX2_isOfCombs wsX2_isOfCombs) := goodIn_app (goodIn_of _ (by decide +kernel)) ggX2_goes_X2_isOfCombs
set_option maxRecDepth 20000 in
theorem ggX2_goes_X2_takes : GoodIn wsX2_goes wsX2_takes := goodIn_r _ [29] (by decide +kernel) (by decide +kernel)
set_option maxRecDepth 20000 in
theorem gX2_goes_X2_takes : GoodIn wsX2_goes (va_wsS RX2 76 yX2_takes wsX2_takes) := goodIn_app (goodIn_of _ (by decide +kernel)) ggX2_goes_X2_takes
set_option maxRecDepth 20000 in
theorem ggX2_move_X2_isBox : GoodIn wsX2_move wsX2_isBox := goodIn_r _ [5] (by decide +kernel) (by decide +kernel)
set_option maxRecDepth 20000 in
theorem gX2_move_X2_isBox : GoodIn wsX2_move (va_wsS RX2 39 yX2_isBox wsX2_isBox) := goodIn_app (goodIn_of _ (by decide +kernel)) ggX2_move_X2_isBox
set_option maxRecDepth 20000 in
theorem ggX2_move_X2_fail : GoodIn wsX2_move wsX2_fail := goodIn_r _ [9, 1, 49, 50, 51, 52, 53, 54, 55, 56, 57, 58, 59, 60, 61, 62] (by decide +kernel) (by decide +kernel)
set_option maxRecDepth 20000 in
theorem gX2_move_X2_fail : GoodIn wsX2_move (wsV RX2 43 RX2 yX2_fail wsX2_fail) := goodIn_app (goodIn_of _ (by decide +kernel)) ggX2_move_X2_fail
set_option maxRecDepth 20000 in
theorem ggX2_move_X2_goes : GoodIn wsX2_move wsX2_goes := goodIn_r _ [13, 14, 15, 16, 17, 18, 19, 20, 21, 4, 22, 23, 24, 25, 26, 27, 28, 29, 30, 31, 32, 33, 34, 35, 36, 37, 38, 39, 40, 41, 49, 50, 51, 52, 53, 54, 55, 56, 57, 58, 59, 60, 61, 62] (by decide +kernel) (by decide +kernel)
set_option maxRecDepth 20000 in
theorem gX2_move_X2_goes : GoodIn wsX2_move (wsV RX2 96 RX2 yX2_goes wsX2_goes) := goodIn_app (goodIn_of _ (by decide +kernel)) ggX2_move_X2_goes
set_option maxRecDepth 20000 in
theorem ggX2_move_X2_told : GoodIn wsX2_move wsX2_told := goodIn_r _ [45, 46, 47, 48, 14, 49, 50, 51, 52, 53, 54, 55, 56, 57, 58, 59, 60, 61, 62] (by decide +kernel) (by decide +kernel)
set_option maxRecDepth 20000 in
theorem gX2_move_X2_told : GoodIn wsX2_move (wsV RX2 99 RX2 yX2_told wsX2_told) := goodIn_app (goodIn_of _ (by decide +kernel)) ggX2_move_X2_told
set_option maxRecDepth 20000 in
theorem ggX2_pour_X2_isBox : GoodIn wsX2_pour wsX2_isBox := goodIn_r _ [7] (by decide +kernel) (by decide +kernel)
set_option maxRecDepth 20000 in
theorem gX2_pour_X2_isBox : GoodIn wsX2_pour (va_wsS RX2 39 yX2_isBox wsX2_isBox) := goodIn_app (goodIn_of _ (by decide +kernel)) ggX2_pour_X2_isBox
set_option maxRecDepth 20000 in
theorem ggX2_pour_X2_fail : GoodIn wsX2_pour wsX2_fail := goodIn_r _ [11, 1, 49, 50, 51, 52, 53, 54, 55, 56, 57, 58, 59, 60, 61, 62] (by decide +kernel) (by decide +kernel)
set_option maxRecDepth 20000 in
theorem gX2_pour_X2_fail : GoodIn wsX2_pour (wsV RX2 43 RX2 yX2_fail wsX2_fail) := goodIn_app (goodIn_of _ (by decide +kernel)) ggX2_pour_X2_fail
set_option maxRecDepth 20000 in
theorem ggX2_pour_X2_hasRow : GoodIn wsX2_pour wsX2_hasRow := goodIn_r _ [15, 3, 49, 50, 51, 52, 53, 54, 55, 56, 57, 58, 59, 60, 61, 62] (by decide +kernel) (by decide +kernel)
set_option maxRecDepth 20000 in
theorem gX2_pour_X2_hasRow : GoodIn wsX2_pour (wsV RX2 58 RX2 yX2_hasRow wsX2_hasRow) := goodIn_app (goodIn_of _ (by decide +kernel)) ggX2_pour_X2_hasRow
set_option maxRecDepth 20000 in
theorem ggX2_pour_X2_goes : GoodIn wsX2_pour wsX2_goes := goodIn_r _ [19, 20, 3, 21, 22, 23, 24, 25, 26, 6, 27, 2, 12, 13, 14, 15, 28, 29, 30, 31, 32, 33, 34, 35, 36, 37, 38, 39, 40, 41, 49, 50, 51, 52, 53, 54, 55, 56, 57, 58, 59, 60, 61, 62] (by decide +kernel) (by decide +kernel)
set_option maxRecDepth 20000 in
theorem gX2_pour_X2_goes : GoodIn wsX2_pour (wsV RX2 96 RX2 yX2_goes wsX2_goes) := goodIn_app (goodIn_of _ (by decide +kernel)) ggX2_pour_X2_goes
set_option maxRecDepth 20000 in
theorem ggX2_pour_X2_told : GoodIn wsX2_pour wsX2_told := goodIn_r _ [45, 46, 47, 48, 20, 49, 50, 51, 52, 53, 54, 55, 56, 57, 58, 59, 60, 61, 62] (by decide +kernel) (by decide +kernel)
set_option maxRecDepth 20000 in
theorem gX2_pour_X2_told : GoodIn wsX2_pour (wsV RX2 99 RX2 yX2_told wsX2_told) := goodIn_app (goodIn_of _ (by decide +kernel)) ggX2_pour_X2_told
set_option maxRecDepth 20000 in
theorem ggX2_at_X2_isBox : GoodIn wsX2_at wsX2_isBox := goodIn_r _ [7] (by decide +kernel) (by decide +kernel)
set_option maxRecDepth 20000 in
theorem gX2_at_X2_isBox : GoodIn wsX2_at (va_wsS RX2 39 yX2_isBox wsX2_isBox) := goodIn_app (goodIn_of _ (by decide +kernel)) ggX2_at_X2_isBox
set_option maxRecDepth 20000 in
theorem ggX2_at_X2_fail : GoodIn wsX2_at wsX2_fail := goodIn_r _ [11, 1, 21, 22, 23, 24, 25, 26, 27, 28, 29, 30, 31, 32, 33, 34] (by decide +kernel) (by decide +kernel)
set_option maxRecDepth 20000 in
theorem gX2_at_X2_fail : GoodIn wsX2_at (wsV RX2 43 RX2 yX2_fail wsX2_fail) := goodIn_app (goodIn_of _ (by decide +kernel)) ggX2_at_X2_fail
set_option maxRecDepth 20000 in
theorem ggX2_at_X2_hasRow : GoodIn wsX2_at wsX2_hasRow := goodIn_r _ [15, 3, 21, 22, 23, 24, 25, 26, 27, 28, 29, 30, 31, 32, 33, 34] (by decide +kernel) (by decide +kernel)
set_option maxRecDepth 20000 in
theorem gX2_at_X2_hasRow : GoodIn wsX2_at (wsV RX2 58 RX2 yX2_hasRow wsX2_hasRow) := goodIn_app (goodIn_of _ (by decide +kernel)) ggX2_at_X2_hasRow
set_option maxRecDepth 20000 in
theorem ggX2_at_X2_isPlace : GoodIn wsX2_at wsX2_isPlace := goodIn_r _ [19, 20, 3, 21, 22, 23, 24, 25, 26, 27, 28, 29, 30, 31, 32, 33, 34] (by decide +kernel) (by decide +kernel)
set_option maxRecDepth 20000 in
theorem gX2_at_X2_isPlace : GoodIn wsX2_at (wsV RX2 61 RX2 yX2_isPlace wsX2_isPlace) := goodIn_app (goodIn_of _ (by decide +kernel)) ggX2_at_X2_isPlace
set_option maxRecDepth 20000 in
theorem ggX2_holds_X2_isBox : GoodIn wsX2_holds wsX2_isBox := goodIn_r _ [5] (by decide +kernel) (by decide +kernel)
set_option maxRecDepth 20000 in
theorem gX2_holds_X2_isBox : GoodIn wsX2_holds (va_wsS RX2 39 yX2_isBox wsX2_isBox) := goodIn_app (goodIn_of _ (by decide +kernel)) ggX2_holds_X2_isBox
set_option maxRecDepth 20000 in
theorem ggX2_holds_X2_what : GoodIn wsX2_holds wsX2_what := goodIn_r _ [9, 10, 11, 16, 17, 18, 19, 20, 21, 22, 23, 24, 25, 26, 27, 28, 29] (by decide +kernel) (by decide +kernel)
set_option maxRecDepth 20000 in
theorem gX2_holds_X2_what : GoodIn wsX2_holds (wsV RX2 55 RX2 yX2_what wsX2_what) := goodIn_app (goodIn_of _ (by decide +kernel)) ggX2_holds_X2_what
set_option maxRecDepth 20000 in
theorem ggX2_holds_X2_fail : GoodIn wsX2_holds wsX2_fail := goodIn_r _ [15, 1, 16, 17, 18, 19, 20, 21, 22, 23, 24, 25, 26, 27, 28, 29] (by decide +kernel) (by decide +kernel)
set_option maxRecDepth 20000 in
theorem gX2_holds_X2_fail : GoodIn wsX2_holds (wsV RX2 43 RX2 yX2_fail wsX2_fail) := goodIn_app (goodIn_of _ (by decide +kernel)) ggX2_holds_X2_fail
set_option maxRecDepth 20000 in
theorem ggX2_places_X2_isBox : GoodIn wsX2_places wsX2_isBox := goodIn_r _ [7] (by decide +kernel) (by decide +kernel)
set_option maxRecDepth 20000 in
theorem gX2_places_X2_isBox : GoodIn wsX2_places (va_wsS RX2 39 yX2_isBox wsX2_isBox) := goodIn_app (goodIn_of _ (by decide +kernel)) ggX2_places_X2_isBox
set_option maxRecDepth 20000 in
theorem ggX2_places_X2_fail : GoodIn wsX2_places wsX2_fail := goodIn_r _ [11, 1, 16, 17, 18, 19, 20, 21, 22, 23, 24, 25, 26, 27, 28, 29] (by decide +kernel) (by decide +kernel)
set_option maxRecDepth 20000 in
theorem gX2_places_X2_fail : GoodIn wsX2_places (wsV RX2 43 RX2 yX2_fail wsX2_fail) := goodIn_app (goodIn_of _ (by decide +kernel)) ggX2_places_X2_fail
set_option maxRecDepth 20000 in
theorem ggX2_places_X2_hasRow : GoodIn wsX2_places wsX2_hasRow := goodIn_r _ [15, 3, 16, 17, 18, 19, 20, 21, 22, 23, 24, 25, 26, 27, 28, 29] (by decide +kernel) (by decide +kernel)
set_option maxRecDepth 20000 in
theorem gX2_places_X2_hasRow : GoodIn wsX2_places (wsV RX2 58 RX2 yX2_hasRow wsX2_hasRow) := goodIn_app (goodIn_of _ (by decide +kernel)) ggX2_places_X2_hasRow
set_option maxRecDepth 20000 in
theorem ggX2_same_X2_isBox : GoodIn wsX2_same wsX2_isBox := goodIn_r _ [6] (by decide +kernel) (by decide +kernel)
set_option maxRecDepth 20000 in
theorem gX2_same_X2_isBox : GoodIn wsX2_same (va_wsS RX2 39 yX2_isBox wsX2_isBox) := goodIn_app (goodIn_of _ (by decide +kernel)) ggX2_same_X2_isBox
set_option maxRecDepth 20000 in
theorem ggX2_same_X2_fail : GoodIn wsX2_same wsX2_fail := goodIn_r _ [10, 1, 15, 16, 17, 18, 19, 20, 21, 22, 23, 24, 25, 26, 27, 28] (by decide +kernel) (by decide +kernel)
set_option maxRecDepth 20000 in
theorem gX2_same_X2_fail : GoodIn wsX2_same (wsV RX2 43 RX2 yX2_fail wsX2_fail) := goodIn_app (goodIn_of _ (by decide +kernel)) ggX2_same_X2_fail
set_option maxRecDepth 20000 in
theorem ggX2_same_X2_hasRow : GoodIn wsX2_same wsX2_hasRow := goodIn_r _ [14, 2, 15, 16, 17, 18, 19, 20, 21, 22, 23, 24, 25, 26, 27, 28] (by decide +kernel) (by decide +kernel)
set_option maxRecDepth 20000 in
theorem gX2_same_X2_hasRow : GoodIn wsX2_same (wsV RX2 58 RX2 yX2_hasRow wsX2_hasRow) := goodIn_app (goodIn_of _ (by decide +kernel)) ggX2_same_X2_hasRow
set_option maxRecDepth 20000 in
theorem ggX2_all_X2_isBox : GoodIn wsX2_all wsX2_isBox := goodIn_r _ [10] (by decide +kernel) (by decide +kernel)
set_option maxRecDepth 20000 in
theorem gX2_all_X2_isBox : GoodIn wsX2_all (va_wsS RX2 39 yX2_isBox wsX2_isBox) := goodIn_app (goodIn_of _ (by decide +kernel)) ggX2_all_X2_isBox
set_option maxRecDepth 20000 in
theorem ggX2_all_X2_fail : GoodIn wsX2_all wsX2_fail := goodIn_r _ [14, 1, 22, 23, 24, 25, 26, 27, 28, 29, 30, 31, 32, 33, 34, 35] (by decide +kernel) (by decide +kernel)
set_option maxRecDepth 20000 in
theorem gX2_all_X2_fail : GoodIn wsX2_all (wsV RX2 43 RX2 yX2_fail wsX2_fail) := goodIn_app (goodIn_of _ (by decide +kernel)) ggX2_all_X2_fail
set_option maxRecDepth 20000 in
theorem ggX2_all_X2_hasRow : GoodIn wsX2_all wsX2_hasRow := goodIn_r _ [18, 2, 22, 23, 24, 25, 26, 27, 28, 29, 30, 31, 32, 33, 34, 35] (by decide +kernel) (by decide +kernel)
set_option maxRecDepth 20000 in
theorem gX2_all_X2_hasRow : GoodIn wsX2_all (wsV RX2 58 RX2 yX2_hasRow wsX2_hasRow) := goodIn_app (goodIn_of _ (by decide +kernel)) ggX2_all_X2_hasRow
set_option maxRecDepth 20000 in
theorem ggX2_all_X2_isOfCombs : GoodIn wsX2_all wsX2_isOfCombs := goodIn_r _ [21] (by decide +kernel) (by decide +kernel)
set_option maxRecDepth 20000 in
theorem gX2_all_X2_isOfCombs : GoodIn wsX2_all (va_wsS RX2 50 yX2_isOfCombs wsX2_isOfCombs) := goodIn_app (goodIn_of _ (by decide +kernel)) ggX2_all_X2_isOfCombs
set_option maxRecDepth 20000 in
theorem ggX2_feed_X2_isComb : GoodIn wsX2_feed wsX2_isComb := goodIn_r _ [7, 8, 13, 14, 15, 16, 17, 18, 19, 20, 21, 22, 23, 24, 25, 26] (by decide +kernel) (by decide +kernel)
set_option maxRecDepth 20000 in
theorem gX2_feed_X2_isComb : GoodIn wsX2_feed (wsV RX2 102 RX2 yX2_isComb wsX2_isComb) := goodIn_app (goodIn_of _ (by decide +kernel)) ggX2_feed_X2_isComb
set_option maxRecDepth 20000 in
theorem ggX2_feed_X2_fail : GoodIn wsX2_feed wsX2_fail := goodIn_r _ [12, 1, 13, 14, 15, 16, 17, 18, 19, 20, 21, 22, 23, 24, 25, 26] (by decide +kernel) (by decide +kernel)
set_option maxRecDepth 20000 in
theorem gX2_feed_X2_fail : GoodIn wsX2_feed (wsV RX2 43 RX2 yX2_fail wsX2_fail) := goodIn_app (goodIn_of _ (by decide +kernel)) ggX2_feed_X2_fail
set_option maxRecDepth 20000 in
theorem ggX2_kind_X2_isComb : GoodIn wsX2_kind wsX2_isComb := goodIn_r _ [7, 8, 13, 14, 15, 16, 17, 18, 19, 20, 21, 22, 23, 24, 25, 26] (by decide +kernel) (by decide +kernel)
set_option maxRecDepth 20000 in
theorem gX2_kind_X2_isComb : GoodIn wsX2_kind (wsV RX2 102 RX2 yX2_isComb wsX2_isComb) := goodIn_app (goodIn_of _ (by decide +kernel)) ggX2_kind_X2_isComb
set_option maxRecDepth 20000 in
theorem ggX2_kind_X2_fail : GoodIn wsX2_kind wsX2_fail := goodIn_r _ [12, 1, 13, 14, 15, 16, 17, 18, 19, 20, 21, 22, 23, 24, 25, 26] (by decide +kernel) (by decide +kernel)
set_option maxRecDepth 20000 in
theorem gX2_kind_X2_fail : GoodIn wsX2_kind (wsV RX2 43 RX2 yX2_fail wsX2_fail) := goodIn_app (goodIn_of _ (by decide +kernel)) ggX2_kind_X2_fail
abbrev vwCl : List vw_C := [(RX0, TX0, 2), (RX1, TX1, 10), (RX2, TX2, 14)]

