/-! ===== BEGIN printed: names, fields, word lists, decode rows ===== -/
def RX0 : String := "RankRows"
def TX0 : u_T := fun k => match k with
  | 0 => ("RankRows", "row", "[I", true)
  | 1 => ("RankRows", "firsts", "[I", true)
  | 2 => ("RankRows", "seconds", "[I", true)
  | _ => ("RankRows", "count", "I", false)
def tyX0 : Nat → FieldType := fun k => match k with
  | 0 => .array .int
  | 1 => .array .int
  | 2 => .array .int
  | _ => .int
abbrev wsX00 : List Cond := u_ws RX0 TX0 4
theorem nmX0 : ∀ a, a < 4 → ∀ b, b < 4 → a ≠ b → (TX0 a).2.1 ≠ (TX0 b).2.1 := by decide +kernel
theorem tyX0_ok : ∀ k, k < 4 → parseFieldDescriptor (TX0 k).2.2.1 = some (tyX0 k) := by decide +kernel
abbrev cX0_init : ByteArray := prog_1_method_1_code
def yX0_init : MethodName := ⟨RX0, "<init>", "()V"⟩
abbrev cX0_behind : ByteArray := prog_1_method_2_code
def yX0_behind : MethodName := ⟨RX0, "behind", "(IIII)I"⟩
abbrev cX0_before : ByteArray := prog_1_method_3_code
def yX0_before : MethodName := ⟨RX0, "before", "(III)I"⟩
abbrev cX0_weigh : ByteArray := prog_1_method_4_code
def yX0_weigh : MethodName := ⟨RX0, "weigh", "(III)I"⟩
abbrev cX0_find : ByteArray := prog_1_method_5_code
def yX0_find : MethodName := ⟨RX0, "find", "(I)I"⟩
abbrev cX0_sum : ByteArray := prog_1_method_6_code
def yX0_sum : MethodName := ⟨RX0, "sum", "(II)I"⟩
abbrev cX0_next : ByteArray := prog_1_method_7_code
def yX0_next : MethodName := ⟨RX0, "next", "(I)I"⟩
abbrev cX0_place : ByteArray := prog_1_method_8_code
def yX0_place : MethodName := ⟨RX0, "place", "(I)I"⟩
abbrev cX0_entries : ByteArray := prog_1_method_9_code
def yX0_entries : MethodName := ⟨RX0, "entries", "()I"⟩
abbrev cX0_checkWeights : ByteArray := prog_1_method_10_code
def yX0_checkWeights : MethodName := ⟨RX0, "checkWeights", "(II)V"⟩
abbrev cX0_checkEntry : ByteArray := prog_1_method_11_code
def yX0_checkEntry : MethodName := ⟨RX0, "checkEntry", "(I)V"⟩
abbrev cX0_checkEntryOrNone : ByteArray := prog_1_method_12_code
def yX0_checkEntryOrNone : MethodName := ⟨RX0, "checkEntryOrNone", "(I)V"⟩
abbrev cX0_checkRoomFor : ByteArray := prog_1_method_13_code
def yX0_checkRoomFor : MethodName := ⟨RX0, "checkRoomFor", "(I)V"⟩
abbrev cX0_placeOf : ByteArray := prog_1_method_14_code
def yX0_placeOf : MethodName := ⟨RX0, "placeOf", "(I)I"⟩
abbrev cX0_placeBehind : ByteArray := prog_1_method_15_code
def yX0_placeBehind : MethodName := ⟨RX0, "placeBehind", "(I)I"⟩
abbrev cX0_sumInFrontOf : ByteArray := prog_1_method_16_code
def yX0_sumInFrontOf : MethodName := ⟨RX0, "sumInFrontOf", "(I[I)I"⟩
abbrev cX0_putAt : ByteArray := prog_1_method_17_code
def yX0_putAt : MethodName := ⟨RX0, "putAt", "(IIII)V"⟩
def RX1 : String := "RankRowsModel"
def TX1 : u_T := fun k => match k with
  | _ => ("RankRowsModel", "row", "[I", true)
def tyX1 : Nat → FieldType := fun k => match k with
  | _ => .array .int
abbrev wsX10 : List Cond := u_ws RX1 TX1 1
theorem nmX1 : ∀ a, a < 1 → ∀ b, b < 1 → a ≠ b → (TX1 a).2.1 ≠ (TX1 b).2.1 := by decide +kernel
theorem tyX1_ok : ∀ k, k < 1 → parseFieldDescriptor (TX1 k).2.2.1 = some (tyX1 k) := by decide +kernel
abbrev cX1_init : ByteArray := prog_3_method_1_code
def yX1_init : MethodName := ⟨RX1, "<init>", "()V"⟩
def RJ0 : String := "java/lang/String"
def TJ0 : u_T := fun k => match k with
  | _ => ("", "", "", false)
def tyJ0 : Nat → FieldType := fun k => match k with
  | _ => .int
abbrev wsJ00 : List Cond := u_ws RJ0 TJ0 0
theorem nmJ0 : ∀ a, a < 0 → ∀ b, b < 0 → a ≠ b → (TJ0 a).2.1 ≠ (TJ0 b).2.1 := by decide +kernel
theorem tyJ0_ok : ∀ k, k < 0 → parseFieldDescriptor (TJ0 k).2.2.1 = some (tyJ0 k) := by decide +kernel
def RJ10 : String := "java/lang/System"
def TJ10 : u_T := fun k => match k with
  | _ => ("", "", "", false)
def tyJ10 : Nat → FieldType := fun k => match k with
  | _ => .int
abbrev wsJ100 : List Cond := u_ws RJ10 TJ10 0
theorem nmJ10 : ∀ a, a < 0 → ∀ b, b < 0 → a ≠ b → (TJ10 a).2.1 ≠ (TJ10 b).2.1 := by decide +kernel
theorem tyJ10_ok : ∀ k, k < 0 → parseFieldDescriptor (TJ10 k).2.2.1 = some (tyJ10 k) := by decide +kernel
def RL : String := "RankRowsLaw"
abbrev cL_behind : ByteArray := method_3_code
def yL_behind : MethodName := ⟨RL, "behind", "(LRankRows;IIII[J)I"⟩
abbrev cL_before : ByteArray := method_4_code
def yL_before : MethodName := ⟨RL, "before", "(LRankRows;III[J)I"⟩
abbrev cL_weigh : ByteArray := method_5_code
def yL_weigh : MethodName := ⟨RL, "weigh", "(LRankRows;III[J)I"⟩
abbrev cL_find : ByteArray := method_6_code
def yL_find : MethodName := ⟨RL, "find", "(LRankRows;I[J)I"⟩
abbrev cL_sum : ByteArray := method_7_code
def yL_sum : MethodName := ⟨RL, "sum", "(LRankRows;II[J)I"⟩
abbrev cL_next : ByteArray := method_8_code
def yL_next : MethodName := ⟨RL, "next", "(LRankRows;I[J)I"⟩
abbrev cL_place : ByteArray := method_9_code
def yL_place : MethodName := ⟨RL, "place", "(LRankRows;I[J)I"⟩
abbrev cL_law : ByteArray := code
def yL_law : MethodName := ⟨RL, "law", "([I)Z"⟩
def wsX0_init : List Cond := .code yX0_init cX0_init 1 none :: ([.methodLink RX0 1 objectInit, .instanceMethod objectInit, .code objectInit ⟨#[0xb1]⟩ 1 none, .arrayClass .int, .fieldLink RX0 9 "RankRows" "row" "[I", .fieldLink RX0 13 "RankRows" "firsts" "[I", .fieldLink RX0 16 "RankRows" "seconds" "[I", .fieldLink RX0 19 "RankRows" "count" "I"] ++ wsX00)
def wsX0_checkWeights : List Cond := .code yX0_checkWeights cX0_checkWeights 2 none :: ([.classLink RX0 23 "java/lang/IllegalArgumentException", .initialized "java/lang/IllegalArgumentException"] ++ (vx_atS RX0 27 "java/lang/IllegalArgumentException" ["java/lang/RuntimeException", "java/lang/Exception"]).filter goodWord)
def wsX0_checkEntry : List Cond := .code yX0_checkEntry cX0_checkEntry 2 none :: ([.classLink RX0 55 "java/util/NoSuchElementException", .initialized "java/util/NoSuchElementException", .fieldLink RX0 19 "RankRows" "count" "I"] ++ wsX00 ++ (nx_at).filter goodWord)
def wsX0_checkEntryOrNone : List Cond := .code yX0_checkEntryOrNone cX0_checkEntryOrNone 2 none :: ([.methodLink RX0 49 yX0_checkEntry, .instanceMethod yX0_checkEntry, .selects RX0 yX0_checkEntry yX0_checkEntry, .initialized RX0, .code yX0_checkEntry cX0_checkEntry 2 none, .classLink RX0 55 "java/util/NoSuchElementException", .initialized "java/util/NoSuchElementException", .fieldLink RX0 19 "RankRows" "count" "I"] ++ wsX00 ++ (nx_at).filter goodWord)
def wsX0_checkRoomFor : List Cond := .code yX0_checkRoomFor cX0_checkRoomFor 2 none :: ([.classLink RX0 74 "java/lang/IllegalStateException", .initialized "java/lang/IllegalStateException", .fieldLink RX0 19 "RankRows" "count" "I"] ++ wsX00 ++ (vx_atS RX0 78 "java/lang/IllegalStateException" ["java/lang/RuntimeException", "java/lang/Exception"]).filter goodWord)
def wsX0_placeOf : List Cond := .code yX0_placeOf cX0_placeOf 3 (some .int) :: ([.fieldLink RX0 19 "RankRows" "count" "I", .fieldLink RX0 9 "RankRows" "row" "[I"] ++ wsX00)
def wsX0_placeBehind : List Cond := .code yX0_placeBehind cX0_placeBehind 2 (some .int) :: ([.methodLink RX0 52 yX0_placeOf, .instanceMethod yX0_placeOf, .selects RX0 yX0_placeOf yX0_placeOf, .initialized RX0, .code yX0_placeOf cX0_placeOf 3 (some .int), .fieldLink RX0 19 "RankRows" "count" "I", .fieldLink RX0 9 "RankRows" "row" "[I"] ++ wsX00)
def wsX0_putAt : List Cond := .code yX0_putAt cX0_putAt 7 none :: ([.fieldLink RX0 9 "RankRows" "row" "[I", .fieldLink RX0 19 "RankRows" "count" "I", .methodLink RX0 79 arraycopyName, .native arraycopyName, .static arraycopyName, .initialized "java/lang/System", .fieldLink RX0 13 "RankRows" "firsts" "[I", .fieldLink RX0 16 "RankRows" "seconds" "[I"] ++ wsX00)
def wsX0_behind_r1 : List Cond := [Cond.classLink RX0 23 "java/lang/IllegalArgumentException", Cond.initialized "java/lang/IllegalArgumentException", Cond.fieldLink RX0 19 "RankRows" "count" "I", Cond.methodLink RX0 30 yX0_checkWeights, Cond.static yX0_checkWeights, Cond.initialized RX0, Cond.code yX0_checkWeights cX0_checkWeights 2 none, Cond.methodLink RX0 34 yX0_checkEntryOrNone, Cond.instanceMethod yX0_checkEntryOrNone, Cond.selects RX0 yX0_checkEntryOrNone yX0_checkEntryOrNone, Cond.code yX0_checkEntryOrNone cX0_checkEntryOrNone 2 none, Cond.methodLink RX0 49 yX0_checkEntry, Cond.instanceMethod yX0_checkEntry, Cond.selects RX0 yX0_checkEntry yX0_checkEntry, Cond.code yX0_checkEntry cX0_checkEntry 2 none, Cond.classLink RX0 55 "java/util/NoSuchElementException", Cond.initialized "java/util/NoSuchElementException", Cond.methodLink RX0 38 yX0_checkRoomFor, Cond.instanceMethod yX0_checkRoomFor, Cond.selects RX0 yX0_checkRoomFor yX0_checkRoomFor, Cond.code yX0_checkRoomFor cX0_checkRoomFor 2 none, Cond.classLink RX0 74 "java/lang/IllegalStateException", Cond.initialized "java/lang/IllegalStateException", Cond.methodLink RX0 41 yX0_placeBehind]
def wsX0_behind_r2 : List Cond := [Cond.instanceMethod yX0_placeBehind, Cond.selects RX0 yX0_placeBehind yX0_placeBehind, Cond.code yX0_placeBehind cX0_placeBehind 2 (some .int), Cond.methodLink RX0 52 yX0_placeOf, Cond.instanceMethod yX0_placeOf, Cond.selects RX0 yX0_placeOf yX0_placeOf, Cond.code yX0_placeOf cX0_placeOf 3 (some .int), Cond.fieldLink RX0 9 "RankRows" "row" "[I", Cond.methodLink RX0 45 yX0_putAt, Cond.instanceMethod yX0_putAt, Cond.selects RX0 yX0_putAt yX0_putAt, Cond.code yX0_putAt cX0_putAt 7 none, Cond.methodLink RX0 79 arraycopyName, Cond.native arraycopyName, Cond.static arraycopyName, Cond.initialized "java/lang/System", Cond.fieldLink RX0 13 "RankRows" "firsts" "[I", Cond.fieldLink RX0 16 "RankRows" "seconds" "[I"]
def wsX0_behind : List Cond := .code yX0_behind cX0_behind 5 (some .int) :: ((wsX0_behind_r1 ++ wsX0_behind_r2) ++ wsX00 ++ (vx_atS RX0 27 "java/lang/IllegalArgumentException" ["java/lang/RuntimeException", "java/lang/Exception"]).filter goodWord ++ (nx_at).filter goodWord ++ (vx_atS RX0 78 "java/lang/IllegalStateException" ["java/lang/RuntimeException", "java/lang/Exception"]).filter goodWord)
def wsX0_before_r1 : List Cond := [Cond.fieldLink RX0 19 "RankRows" "count" "I", Cond.methodLink RX0 30 yX0_checkWeights, Cond.static yX0_checkWeights, Cond.initialized RX0, Cond.code yX0_checkWeights cX0_checkWeights 2 none, Cond.classLink RX0 23 "java/lang/IllegalArgumentException", Cond.initialized "java/lang/IllegalArgumentException", Cond.methodLink RX0 49 yX0_checkEntry, Cond.instanceMethod yX0_checkEntry, Cond.selects RX0 yX0_checkEntry yX0_checkEntry, Cond.code yX0_checkEntry cX0_checkEntry 2 none, Cond.classLink RX0 55 "java/util/NoSuchElementException", Cond.initialized "java/util/NoSuchElementException", Cond.methodLink RX0 38 yX0_checkRoomFor, Cond.instanceMethod yX0_checkRoomFor, Cond.selects RX0 yX0_checkRoomFor yX0_checkRoomFor, Cond.code yX0_checkRoomFor cX0_checkRoomFor 2 none, Cond.classLink RX0 74 "java/lang/IllegalStateException", Cond.initialized "java/lang/IllegalStateException", Cond.methodLink RX0 52 yX0_placeOf, Cond.instanceMethod yX0_placeOf, Cond.selects RX0 yX0_placeOf yX0_placeOf, Cond.code yX0_placeOf cX0_placeOf 3 (some .int), Cond.fieldLink RX0 9 "RankRows" "row" "[I"]
def wsX0_before_r2 : List Cond := [Cond.methodLink RX0 45 yX0_putAt, Cond.instanceMethod yX0_putAt, Cond.selects RX0 yX0_putAt yX0_putAt, Cond.code yX0_putAt cX0_putAt 7 none, Cond.methodLink RX0 79 arraycopyName, Cond.native arraycopyName, Cond.static arraycopyName, Cond.initialized "java/lang/System", Cond.fieldLink RX0 13 "RankRows" "firsts" "[I", Cond.fieldLink RX0 16 "RankRows" "seconds" "[I"]
def wsX0_before : List Cond := .code yX0_before cX0_before 4 (some .int) :: ((wsX0_before_r1 ++ wsX0_before_r2) ++ wsX00 ++ (vx_atS RX0 27 "java/lang/IllegalArgumentException" ["java/lang/RuntimeException", "java/lang/Exception"]).filter goodWord ++ (nx_at).filter goodWord ++ (vx_atS RX0 78 "java/lang/IllegalStateException" ["java/lang/RuntimeException", "java/lang/Exception"]).filter goodWord)
def wsX0_weigh : List Cond := .code yX0_weigh cX0_weigh 5 (some .int) :: ([.fieldLink RX0 13 "RankRows" "firsts" "[I", .fieldLink RX0 16 "RankRows" "seconds" "[I", .methodLink RX0 30 yX0_checkWeights, .static yX0_checkWeights, .initialized RX0, .code yX0_checkWeights cX0_checkWeights 2 none, .classLink RX0 23 "java/lang/IllegalArgumentException", .initialized "java/lang/IllegalArgumentException", .methodLink RX0 49 yX0_checkEntry, .instanceMethod yX0_checkEntry, .selects RX0 yX0_checkEntry yX0_checkEntry, .code yX0_checkEntry cX0_checkEntry 2 none, .classLink RX0 55 "java/util/NoSuchElementException", .initialized "java/util/NoSuchElementException", .fieldLink RX0 19 "RankRows" "count" "I"] ++ wsX00 ++ (vx_atS RX0 27 "java/lang/IllegalArgumentException" ["java/lang/RuntimeException", "java/lang/Exception"]).filter goodWord ++ (nx_at).filter goodWord)
def wsX0_find : List Cond := .code yX0_find cX0_find 4 (some .int) :: ([.classLink RX0 55 "java/util/NoSuchElementException", .initialized "java/util/NoSuchElementException", .fieldLink RX0 19 "RankRows" "count" "I", .fieldLink RX0 13 "RankRows" "firsts" "[I", .fieldLink RX0 9 "RankRows" "row" "[I"] ++ wsX00 ++ (nx_at).filter goodWord)
def wsX0_sumInFrontOf : List Cond := .code yX0_sumInFrontOf cX0_sumInFrontOf 5 (some .int) :: ([.fieldLink RX0 9 "RankRows" "row" "[I"] ++ wsX00)
def wsX0_sum_r1 : List Cond := [Cond.classLink RX0 23 "java/lang/IllegalArgumentException", Cond.initialized "java/lang/IllegalArgumentException", Cond.fieldLink RX0 19 "RankRows" "count" "I", Cond.fieldLink RX0 13 "RankRows" "firsts" "[I", Cond.fieldLink RX0 16 "RankRows" "seconds" "[I", Cond.methodLink RX0 34 yX0_checkEntryOrNone, Cond.instanceMethod yX0_checkEntryOrNone, Cond.selects RX0 yX0_checkEntryOrNone yX0_checkEntryOrNone, Cond.initialized RX0, Cond.code yX0_checkEntryOrNone cX0_checkEntryOrNone 2 none, Cond.methodLink RX0 49 yX0_checkEntry, Cond.instanceMethod yX0_checkEntry, Cond.selects RX0 yX0_checkEntry yX0_checkEntry, Cond.code yX0_checkEntry cX0_checkEntry 2 none, Cond.classLink RX0 55 "java/util/NoSuchElementException", Cond.initialized "java/util/NoSuchElementException", Cond.methodLink RX0 52 yX0_placeOf, Cond.instanceMethod yX0_placeOf, Cond.selects RX0 yX0_placeOf yX0_placeOf, Cond.code yX0_placeOf cX0_placeOf 3 (some .int), Cond.fieldLink RX0 9 "RankRows" "row" "[I", Cond.methodLink RX0 64 yX0_sumInFrontOf, Cond.instanceMethod yX0_sumInFrontOf, Cond.selects RX0 yX0_sumInFrontOf yX0_sumInFrontOf]
def wsX0_sum_r2 : List Cond := [Cond.code yX0_sumInFrontOf cX0_sumInFrontOf 5 (some .int)]
def wsX0_sum : List Cond := .code yX0_sum cX0_sum 4 (some .int) :: ((wsX0_sum_r1 ++ wsX0_sum_r2) ++ wsX00 ++ (vx_atS RX0 27 "java/lang/IllegalArgumentException" ["java/lang/RuntimeException", "java/lang/Exception"]).filter goodWord ++ (nx_at).filter goodWord)
def wsX0_next : List Cond := .code yX0_next cX0_next 3 (some .int) :: ([.classLink RX0 55 "java/util/NoSuchElementException", .initialized "java/util/NoSuchElementException", .fieldLink RX0 19 "RankRows" "count" "I", .fieldLink RX0 9 "RankRows" "row" "[I", .methodLink RX0 34 yX0_checkEntryOrNone, .instanceMethod yX0_checkEntryOrNone, .selects RX0 yX0_checkEntryOrNone yX0_checkEntryOrNone, .initialized RX0, .code yX0_checkEntryOrNone cX0_checkEntryOrNone 2 none, .methodLink RX0 49 yX0_checkEntry, .instanceMethod yX0_checkEntry, .selects RX0 yX0_checkEntry yX0_checkEntry, .code yX0_checkEntry cX0_checkEntry 2 none, .methodLink RX0 41 yX0_placeBehind, .instanceMethod yX0_placeBehind, .selects RX0 yX0_placeBehind yX0_placeBehind, .code yX0_placeBehind cX0_placeBehind 2 (some .int), .methodLink RX0 52 yX0_placeOf, .instanceMethod yX0_placeOf, .selects RX0 yX0_placeOf yX0_placeOf, .code yX0_placeOf cX0_placeOf 3 (some .int)] ++ wsX00 ++ (nx_at).filter goodWord)
def wsX0_place : List Cond := .code yX0_place cX0_place 2 (some .int) :: ([.methodLink RX0 49 yX0_checkEntry, .instanceMethod yX0_checkEntry, .selects RX0 yX0_checkEntry yX0_checkEntry, .initialized RX0, .code yX0_checkEntry cX0_checkEntry 2 none, .classLink RX0 55 "java/util/NoSuchElementException", .initialized "java/util/NoSuchElementException", .fieldLink RX0 19 "RankRows" "count" "I", .methodLink RX0 52 yX0_placeOf, .instanceMethod yX0_placeOf, .selects RX0 yX0_placeOf yX0_placeOf, .code yX0_placeOf cX0_placeOf 3 (some .int), .fieldLink RX0 9 "RankRows" "row" "[I"] ++ wsX00 ++ (nx_at).filter goodWord)
def wsX0_entries : List Cond := .code yX0_entries cX0_entries 1 (some .int) :: ([.fieldLink RX0 19 "RankRows" "count" "I"] ++ wsX00)
def wsX1_init : List Cond := .code yX1_init cX1_init 1 none :: ([.methodLink RX1 1 objectInit, .instanceMethod objectInit, .code objectInit ⟨#[0xb1]⟩ 1 none, .arrayClass .int, .fieldLink RX1 9 "RankRowsModel" "row" "[I", .fieldLink RX1 13 "RankRowsModel" "first" "[I", .fieldLink RX1 16 "RankRowsModel" "second" "[I"] ++ wsX10)
def wsL_behind_r1 : List Cond := [Cond.classLink RL 13 "java/lang/IllegalArgumentException", Cond.classLink RL 15 "java/util/NoSuchElementException", Cond.classLink RL 17 "java/lang/IllegalStateException", Cond.methodLink RL 7 yX0_behind, Cond.instanceMethod yX0_behind, Cond.selects RX0 yX0_behind yX0_behind, Cond.initialized RX0, Cond.code yX0_behind cX0_behind 5 (some .int), Cond.classLink RX0 23 "java/lang/IllegalArgumentException", Cond.initialized "java/lang/IllegalArgumentException", Cond.fieldLink RX0 19 "RankRows" "count" "I", Cond.methodLink RX0 30 yX0_checkWeights, Cond.static yX0_checkWeights, Cond.code yX0_checkWeights cX0_checkWeights 2 none, Cond.methodLink RX0 34 yX0_checkEntryOrNone, Cond.instanceMethod yX0_checkEntryOrNone, Cond.selects RX0 yX0_checkEntryOrNone yX0_checkEntryOrNone, Cond.code yX0_checkEntryOrNone cX0_checkEntryOrNone 2 none, Cond.methodLink RX0 49 yX0_checkEntry, Cond.instanceMethod yX0_checkEntry, Cond.selects RX0 yX0_checkEntry yX0_checkEntry, Cond.code yX0_checkEntry cX0_checkEntry 2 none, Cond.classLink RX0 55 "java/util/NoSuchElementException", Cond.initialized "java/util/NoSuchElementException"]
def wsL_behind_r2 : List Cond := [Cond.methodLink RX0 38 yX0_checkRoomFor, Cond.instanceMethod yX0_checkRoomFor, Cond.selects RX0 yX0_checkRoomFor yX0_checkRoomFor, Cond.code yX0_checkRoomFor cX0_checkRoomFor 2 none, Cond.classLink RX0 74 "java/lang/IllegalStateException", Cond.initialized "java/lang/IllegalStateException", Cond.methodLink RX0 41 yX0_placeBehind, Cond.instanceMethod yX0_placeBehind, Cond.selects RX0 yX0_placeBehind yX0_placeBehind, Cond.code yX0_placeBehind cX0_placeBehind 2 (some .int), Cond.methodLink RX0 52 yX0_placeOf, Cond.instanceMethod yX0_placeOf, Cond.selects RX0 yX0_placeOf yX0_placeOf, Cond.code yX0_placeOf cX0_placeOf 3 (some .int), Cond.fieldLink RX0 9 "RankRows" "row" "[I", Cond.methodLink RX0 45 yX0_putAt, Cond.instanceMethod yX0_putAt, Cond.selects RX0 yX0_putAt yX0_putAt, Cond.code yX0_putAt cX0_putAt 7 none, Cond.methodLink RX0 79 arraycopyName, Cond.native arraycopyName, Cond.static arraycopyName, Cond.initialized "java/lang/System", Cond.fieldLink RX0 13 "RankRows" "firsts" "[I"]
def wsL_behind_r3 : List Cond := [Cond.fieldLink RX0 16 "RankRows" "seconds" "[I"]
def wsL_behind : List Cond := .codeWith yL_behind cL_behind 7 (some .int) [(0, 14, 17, 13), (0, 14, 21, 15), (0, 14, 25, 17)] :: ((wsL_behind_r1 ++ (wsL_behind_r2 ++ wsL_behind_r3)) ++ wsX00 ++ (vx_atS RX0 27 "java/lang/IllegalArgumentException" ["java/lang/RuntimeException", "java/lang/Exception"]).filter goodWord ++ (nx_at).filter goodWord ++ (vx_atS RX0 78 "java/lang/IllegalStateException" ["java/lang/RuntimeException", "java/lang/Exception"]).filter goodWord)
def wsL_before_r1 : List Cond := [Cond.classLink RL 13 "java/lang/IllegalArgumentException", Cond.classLink RL 15 "java/util/NoSuchElementException", Cond.classLink RL 17 "java/lang/IllegalStateException", Cond.methodLink RL 19 yX0_before, Cond.instanceMethod yX0_before, Cond.selects RX0 yX0_before yX0_before, Cond.initialized RX0, Cond.code yX0_before cX0_before 4 (some .int), Cond.fieldLink RX0 19 "RankRows" "count" "I", Cond.methodLink RX0 30 yX0_checkWeights, Cond.static yX0_checkWeights, Cond.code yX0_checkWeights cX0_checkWeights 2 none, Cond.classLink RX0 23 "java/lang/IllegalArgumentException", Cond.initialized "java/lang/IllegalArgumentException", Cond.methodLink RX0 49 yX0_checkEntry, Cond.instanceMethod yX0_checkEntry, Cond.selects RX0 yX0_checkEntry yX0_checkEntry, Cond.code yX0_checkEntry cX0_checkEntry 2 none, Cond.classLink RX0 55 "java/util/NoSuchElementException", Cond.initialized "java/util/NoSuchElementException", Cond.methodLink RX0 38 yX0_checkRoomFor, Cond.instanceMethod yX0_checkRoomFor, Cond.selects RX0 yX0_checkRoomFor yX0_checkRoomFor, Cond.code yX0_checkRoomFor cX0_checkRoomFor 2 none]
def wsL_before_r2 : List Cond := [Cond.classLink RX0 74 "java/lang/IllegalStateException", Cond.initialized "java/lang/IllegalStateException", Cond.methodLink RX0 52 yX0_placeOf, Cond.instanceMethod yX0_placeOf, Cond.selects RX0 yX0_placeOf yX0_placeOf, Cond.code yX0_placeOf cX0_placeOf 3 (some .int), Cond.fieldLink RX0 9 "RankRows" "row" "[I", Cond.methodLink RX0 45 yX0_putAt, Cond.instanceMethod yX0_putAt, Cond.selects RX0 yX0_putAt yX0_putAt, Cond.code yX0_putAt cX0_putAt 7 none, Cond.methodLink RX0 79 arraycopyName, Cond.native arraycopyName, Cond.static arraycopyName, Cond.initialized "java/lang/System", Cond.fieldLink RX0 13 "RankRows" "firsts" "[I", Cond.fieldLink RX0 16 "RankRows" "seconds" "[I"]
def wsL_before : List Cond := .codeWith yL_before cL_before 6 (some .int) [(0, 12, 15, 13), (0, 12, 19, 15), (0, 12, 23, 17)] :: ((wsL_before_r1 ++ wsL_before_r2) ++ wsX00 ++ (vx_atS RX0 27 "java/lang/IllegalArgumentException" ["java/lang/RuntimeException", "java/lang/Exception"]).filter goodWord ++ (nx_at).filter goodWord ++ (vx_atS RX0 78 "java/lang/IllegalStateException" ["java/lang/RuntimeException", "java/lang/Exception"]).filter goodWord)
def wsL_weigh : List Cond := .codeWith yL_weigh cL_weigh 6 (some .int) [(0, 12, 15, 13), (0, 12, 19, 15)] :: ([.classLink RL 13 "java/lang/IllegalArgumentException", .classLink RL 15 "java/util/NoSuchElementException", .methodLink RL 23 yX0_weigh, .instanceMethod yX0_weigh, .selects RX0 yX0_weigh yX0_weigh, .initialized RX0, .code yX0_weigh cX0_weigh 5 (some .int), .fieldLink RX0 13 "RankRows" "firsts" "[I", .fieldLink RX0 16 "RankRows" "seconds" "[I", .methodLink RX0 30 yX0_checkWeights, .static yX0_checkWeights, .code yX0_checkWeights cX0_checkWeights 2 none, .classLink RX0 23 "java/lang/IllegalArgumentException", .initialized "java/lang/IllegalArgumentException", .methodLink RX0 49 yX0_checkEntry, .instanceMethod yX0_checkEntry, .selects RX0 yX0_checkEntry yX0_checkEntry, .code yX0_checkEntry cX0_checkEntry 2 none, .classLink RX0 55 "java/util/NoSuchElementException", .initialized "java/util/NoSuchElementException", .fieldLink RX0 19 "RankRows" "count" "I"] ++ wsX00 ++ (vx_atS RX0 27 "java/lang/IllegalArgumentException" ["java/lang/RuntimeException", "java/lang/Exception"]).filter goodWord ++ (nx_at).filter goodWord)
def wsL_find : List Cond := .codeWith yL_find cL_find 4 (some .int) [(0, 9, 12, 15)] :: ([.classLink RL 15 "java/util/NoSuchElementException", .methodLink RL 26 yX0_find, .instanceMethod yX0_find, .selects RX0 yX0_find yX0_find, .initialized RX0, .code yX0_find cX0_find 4 (some .int), .classLink RX0 55 "java/util/NoSuchElementException", .initialized "java/util/NoSuchElementException", .fieldLink RX0 19 "RankRows" "count" "I", .fieldLink RX0 13 "RankRows" "firsts" "[I", .fieldLink RX0 9 "RankRows" "row" "[I"] ++ wsX00 ++ (nx_at).filter goodWord)
def wsL_sum_r1 : List Cond := [Cond.classLink RL 13 "java/lang/IllegalArgumentException", Cond.classLink RL 15 "java/util/NoSuchElementException", Cond.methodLink RL 30 yX0_sum, Cond.instanceMethod yX0_sum, Cond.selects RX0 yX0_sum yX0_sum, Cond.initialized RX0, Cond.code yX0_sum cX0_sum 4 (some .int), Cond.classLink RX0 23 "java/lang/IllegalArgumentException", Cond.initialized "java/lang/IllegalArgumentException", Cond.fieldLink RX0 19 "RankRows" "count" "I", Cond.fieldLink RX0 13 "RankRows" "firsts" "[I", Cond.fieldLink RX0 16 "RankRows" "seconds" "[I", Cond.methodLink RX0 34 yX0_checkEntryOrNone, Cond.instanceMethod yX0_checkEntryOrNone, Cond.selects RX0 yX0_checkEntryOrNone yX0_checkEntryOrNone, Cond.code yX0_checkEntryOrNone cX0_checkEntryOrNone 2 none, Cond.methodLink RX0 49 yX0_checkEntry, Cond.instanceMethod yX0_checkEntry, Cond.selects RX0 yX0_checkEntry yX0_checkEntry, Cond.code yX0_checkEntry cX0_checkEntry 2 none, Cond.classLink RX0 55 "java/util/NoSuchElementException", Cond.initialized "java/util/NoSuchElementException", Cond.methodLink RX0 52 yX0_placeOf, Cond.instanceMethod yX0_placeOf]
def wsL_sum_r2 : List Cond := [Cond.selects RX0 yX0_placeOf yX0_placeOf, Cond.code yX0_placeOf cX0_placeOf 3 (some .int), Cond.fieldLink RX0 9 "RankRows" "row" "[I", Cond.methodLink RX0 64 yX0_sumInFrontOf, Cond.instanceMethod yX0_sumInFrontOf, Cond.selects RX0 yX0_sumInFrontOf yX0_sumInFrontOf, Cond.code yX0_sumInFrontOf cX0_sumInFrontOf 5 (some .int)]
def wsL_sum : List Cond := .codeWith yL_sum cL_sum 5 (some .int) [(0, 10, 13, 13), (0, 10, 17, 15)] :: ((wsL_sum_r1 ++ wsL_sum_r2) ++ wsX00 ++ (vx_atS RX0 27 "java/lang/IllegalArgumentException" ["java/lang/RuntimeException", "java/lang/Exception"]).filter goodWord ++ (nx_at).filter goodWord)
def wsL_next_r1 : List Cond := [Cond.classLink RL 15 "java/util/NoSuchElementException", Cond.methodLink RL 34 yX0_next, Cond.instanceMethod yX0_next, Cond.selects RX0 yX0_next yX0_next, Cond.initialized RX0, Cond.code yX0_next cX0_next 3 (some .int), Cond.classLink RX0 55 "java/util/NoSuchElementException", Cond.initialized "java/util/NoSuchElementException", Cond.fieldLink RX0 19 "RankRows" "count" "I", Cond.fieldLink RX0 9 "RankRows" "row" "[I", Cond.methodLink RX0 34 yX0_checkEntryOrNone, Cond.instanceMethod yX0_checkEntryOrNone, Cond.selects RX0 yX0_checkEntryOrNone yX0_checkEntryOrNone, Cond.code yX0_checkEntryOrNone cX0_checkEntryOrNone 2 none, Cond.methodLink RX0 49 yX0_checkEntry, Cond.instanceMethod yX0_checkEntry, Cond.selects RX0 yX0_checkEntry yX0_checkEntry, Cond.code yX0_checkEntry cX0_checkEntry 2 none, Cond.methodLink RX0 41 yX0_placeBehind, Cond.instanceMethod yX0_placeBehind, Cond.selects RX0 yX0_placeBehind yX0_placeBehind, Cond.code yX0_placeBehind cX0_placeBehind 2 (some .int), Cond.methodLink RX0 52 yX0_placeOf, Cond.instanceMethod yX0_placeOf]
def wsL_next_r2 : List Cond := [Cond.selects RX0 yX0_placeOf yX0_placeOf, Cond.code yX0_placeOf cX0_placeOf 3 (some .int)]
def wsL_next : List Cond := .codeWith yL_next cL_next 4 (some .int) [(0, 9, 12, 15)] :: ((wsL_next_r1 ++ wsL_next_r2) ++ wsX00 ++ (nx_at).filter goodWord)
def wsL_place : List Cond := .codeWith yL_place cL_place 4 (some .int) [(0, 9, 12, 15)] :: ([.classLink RL 15 "java/util/NoSuchElementException", .methodLink RL 37 yX0_place, .instanceMethod yX0_place, .selects RX0 yX0_place yX0_place, .initialized RX0, .code yX0_place cX0_place 2 (some .int), .methodLink RX0 49 yX0_checkEntry, .instanceMethod yX0_checkEntry, .selects RX0 yX0_checkEntry yX0_checkEntry, .code yX0_checkEntry cX0_checkEntry 2 none, .classLink RX0 55 "java/util/NoSuchElementException", .initialized "java/util/NoSuchElementException", .fieldLink RX0 19 "RankRows" "count" "I", .methodLink RX0 52 yX0_placeOf, .instanceMethod yX0_placeOf, .selects RX0 yX0_placeOf yX0_placeOf, .code yX0_placeOf cX0_placeOf 3 (some .int), .fieldLink RX0 9 "RankRows" "row" "[I"] ++ wsX00 ++ (nx_at).filter goodWord)
def wsL_law0_r1 : List Cond := [Cond.classLink RL 8 RX0, Cond.instantiable RX0 4, Cond.initialized RX0, Cond.classLink RL 41 RX1, Cond.instantiable RX1 5, Cond.initialized RX1, Cond.methodLink RL 40 yX0_init, Cond.instanceMethod yX0_init, Cond.code yX0_init cX0_init 1 none, Cond.methodLink RX0 1 objectInit, Cond.instanceMethod objectInit, Cond.code objectInit ⟨#[0xb1]⟩ 1 none, Cond.arrayClass .int, Cond.fieldLink RX0 9 "RankRows" "row" "[I", Cond.fieldLink RX0 13 "RankRows" "firsts" "[I", Cond.fieldLink RX0 16 "RankRows" "seconds" "[I", Cond.fieldLink RX0 19 "RankRows" "count" "I", Cond.methodLink RL 43 yX1_init, Cond.instanceMethod yX1_init, Cond.code yX1_init cX1_init 1 none, Cond.methodLink RX1 1 objectInit, Cond.fieldLink RX1 9 "RankRowsModel" "row" "[I", Cond.fieldLink RX1 13 "RankRowsModel" "first" "[I", Cond.fieldLink RX1 16 "RankRowsModel" "second" "[I"]
def wsL_law0_r2 : List Cond := [Cond.methodLink RL 44 yL_behind, Cond.static yL_behind, Cond.initialized RL, Cond.codeWith yL_behind cL_behind 7 (some .int) [(0, 14, 17, 13), (0, 14, 21, 15), (0, 14, 25, 17)], Cond.classLink RL 13 "java/lang/IllegalArgumentException", Cond.classLink RL 15 "java/util/NoSuchElementException", Cond.classLink RL 17 "java/lang/IllegalStateException", Cond.methodLink RL 7 yX0_behind, Cond.instanceMethod yX0_behind, Cond.selects RX0 yX0_behind yX0_behind, Cond.code yX0_behind cX0_behind 5 (some .int), Cond.classLink RX0 23 "java/lang/IllegalArgumentException", Cond.initialized "java/lang/IllegalArgumentException", Cond.methodLink RX0 30 yX0_checkWeights, Cond.static yX0_checkWeights, Cond.code yX0_checkWeights cX0_checkWeights 2 none, Cond.methodLink RX0 34 yX0_checkEntryOrNone, Cond.instanceMethod yX0_checkEntryOrNone, Cond.selects RX0 yX0_checkEntryOrNone yX0_checkEntryOrNone, Cond.code yX0_checkEntryOrNone cX0_checkEntryOrNone 2 none, Cond.methodLink RX0 49 yX0_checkEntry, Cond.instanceMethod yX0_checkEntry, Cond.selects RX0 yX0_checkEntry yX0_checkEntry, Cond.code yX0_checkEntry cX0_checkEntry 2 none]
def wsL_law0_r3 : List Cond := [Cond.classLink RX0 55 "java/util/NoSuchElementException", Cond.initialized "java/util/NoSuchElementException", Cond.methodLink RX0 38 yX0_checkRoomFor, Cond.instanceMethod yX0_checkRoomFor, Cond.selects RX0 yX0_checkRoomFor yX0_checkRoomFor, Cond.code yX0_checkRoomFor cX0_checkRoomFor 2 none, Cond.classLink RX0 74 "java/lang/IllegalStateException", Cond.initialized "java/lang/IllegalStateException", Cond.methodLink RX0 41 yX0_placeBehind, Cond.instanceMethod yX0_placeBehind, Cond.selects RX0 yX0_placeBehind yX0_placeBehind, Cond.code yX0_placeBehind cX0_placeBehind 2 (some .int), Cond.methodLink RX0 52 yX0_placeOf, Cond.instanceMethod yX0_placeOf, Cond.selects RX0 yX0_placeOf yX0_placeOf, Cond.code yX0_placeOf cX0_placeOf 3 (some .int), Cond.methodLink RX0 45 yX0_putAt, Cond.instanceMethod yX0_putAt, Cond.selects RX0 yX0_putAt yX0_putAt, Cond.code yX0_putAt cX0_putAt 7 none, Cond.methodLink RX0 79 arraycopyName, Cond.native arraycopyName, Cond.static arraycopyName, Cond.initialized "java/lang/System"]
def wsL_law0_r4 : List Cond := [Cond.methodLink RL 54 yL_before, Cond.static yL_before, Cond.codeWith yL_before cL_before 6 (some .int) [(0, 12, 15, 13), (0, 12, 19, 15), (0, 12, 23, 17)], Cond.methodLink RL 19 yX0_before, Cond.instanceMethod yX0_before, Cond.selects RX0 yX0_before yX0_before, Cond.code yX0_before cX0_before 4 (some .int), Cond.methodLink RL 58 yL_weigh, Cond.static yL_weigh, Cond.codeWith yL_weigh cL_weigh 6 (some .int) [(0, 12, 15, 13), (0, 12, 19, 15)], Cond.methodLink RL 23 yX0_weigh, Cond.instanceMethod yX0_weigh, Cond.selects RX0 yX0_weigh yX0_weigh, Cond.code yX0_weigh cX0_weigh 5 (some .int), Cond.methodLink RL 61 yL_find, Cond.static yL_find, Cond.codeWith yL_find cL_find 4 (some .int) [(0, 9, 12, 15)], Cond.methodLink RL 26 yX0_find, Cond.instanceMethod yX0_find, Cond.selects RX0 yX0_find yX0_find, Cond.code yX0_find cX0_find 4 (some .int), Cond.methodLink RL 65 yL_sum, Cond.static yL_sum, Cond.codeWith yL_sum cL_sum 5 (some .int) [(0, 10, 13, 13), (0, 10, 17, 15)]]
def wsL_law0_r5 : List Cond := [Cond.methodLink RL 30 yX0_sum, Cond.instanceMethod yX0_sum, Cond.selects RX0 yX0_sum yX0_sum, Cond.code yX0_sum cX0_sum 4 (some .int), Cond.methodLink RX0 64 yX0_sumInFrontOf, Cond.instanceMethod yX0_sumInFrontOf, Cond.selects RX0 yX0_sumInFrontOf yX0_sumInFrontOf, Cond.code yX0_sumInFrontOf cX0_sumInFrontOf 5 (some .int), Cond.methodLink RL 69 yL_next, Cond.static yL_next, Cond.codeWith yL_next cL_next 4 (some .int) [(0, 9, 12, 15)], Cond.methodLink RL 34 yX0_next, Cond.instanceMethod yX0_next, Cond.selects RX0 yX0_next yX0_next, Cond.code yX0_next cX0_next 3 (some .int), Cond.methodLink RL 72 yL_place, Cond.static yL_place, Cond.codeWith yL_place cL_place 4 (some .int) [(0, 9, 12, 15)], Cond.methodLink RL 37 yX0_place, Cond.instanceMethod yX0_place, Cond.selects RX0 yX0_place yX0_place, Cond.code yX0_place cX0_place 2 (some .int), Cond.methodLink RL 75 yX0_entries, Cond.instanceMethod yX0_entries]
def wsL_law0_r6 : List Cond := [Cond.selects RX0 yX0_entries yX0_entries, Cond.code yX0_entries cX0_entries 1 (some .int)]
def wsL_law0 : List Cond := (wsL_law0_r1 ++ (wsL_law0_r2 ++ (wsL_law0_r3 ++ (wsL_law0_r4 ++ (wsL_law0_r5 ++ wsL_law0_r6))))) ++ wsX00 ++ wsX10 ++ ([] : List Cond)
def wsL_law : List Cond := wsL_law0 ++ (vx_atS RX0 27 "java/lang/IllegalArgumentException" ["java/lang/RuntimeException", "java/lang/Exception"]).filter goodWord ++ (nx_at).filter goodWord ++ (vx_atS RX0 78 "java/lang/IllegalStateException" ["java/lang/RuntimeException", "java/lang/Exception"]).filter goodWord
set_option maxRecDepth 20000 in
theorem wsL_law_in0 : ∀ w ∈ wsL_law0, w ∈ lw_tbl := by decide +kernel
theorem wsL_law_x0 : ∀ w ∈ (vx_atS RX0 27 "java/lang/IllegalArgumentException" ["java/lang/RuntimeException", "java/lang/Exception"]).filter goodWord, w ∈ lw_tbl := by decide +kernel
theorem wsL_law_x1 : ∀ w ∈ (nx_at).filter goodWord, w ∈ lw_tbl := by decide +kernel
theorem wsL_law_x2 : ∀ w ∈ (vx_atS RX0 78 "java/lang/IllegalStateException" ["java/lang/RuntimeException", "java/lang/Exception"]).filter goodWord, w ∈ lw_tbl := by decide +kernel
theorem wsL_law_in : ∀ w ∈ wsL_law, w ∈ lw_tbl := fun w h => (List.mem_append.mp h).elim (fun h => (List.mem_append.mp h).elim (fun h => (List.mem_append.mp h).elim (fun h => wsL_law_in0 w h) (fun h => wsL_law_x0 w h)) (fun h => wsL_law_x1 w h)) (fun h => wsL_law_x2 w h)
theorem inlX0 : ∀ w ∈ wsX00, w ∈ wsL_law := fun _ h => List.mem_append_left _ (List.mem_append_left _ (List.mem_append_left _ (List.mem_append_left _ (List.mem_append_left _ (List.mem_append_right _ h)))))
theorem inX0 : ∀ w ∈ wsX00, w ∈ lw_tbl := fun w h => wsL_law_in w (inlX0 w h)
theorem inlX1 : ∀ w ∈ wsX10, w ∈ wsL_law := fun _ h => List.mem_append_left _ (List.mem_append_left _ (List.mem_append_left _ (List.mem_append_left _ (List.mem_append_right _ h))))
theorem inX1 : ∀ w ∈ wsX10, w ∈ lw_tbl := fun w h => wsL_law_in w (inlX1 w h)
theorem inJ0 : ∀ w ∈ wsJ00, w ∈ lw_tbl := by decide +kernel
theorem inJ10 : ∀ w ∈ wsJ100, w ∈ lw_tbl := by decide +kernel
theorem dX0_init_0 : decode cX0_init 0 = .ok (.aload_n 0, 1) := by decide +kernel
theorem dX0_init_1 : decode cX0_init 1 = .ok (.invokespecial 1, 3) := by decide +kernel
theorem dX0_init_4 : decode cX0_init 4 = .ok (.aload_n 0, 1) := by decide +kernel
theorem dX0_init_5 : decode cX0_init 5 = .ok (.sipush 4000, 3) := by decide +kernel
theorem dX0_init_8 : decode cX0_init 8 = .ok (.newarray .int, 2) := by decide +kernel
theorem dX0_init_10 : decode cX0_init 10 = .ok (.putfield 9, 3) := by decide +kernel
theorem dX0_init_13 : decode cX0_init 13 = .ok (.aload_n 0, 1) := by decide +kernel
theorem dX0_init_14 : decode cX0_init 14 = .ok (.sipush 4000, 3) := by decide +kernel
theorem dX0_init_17 : decode cX0_init 17 = .ok (.newarray .int, 2) := by decide +kernel
theorem dX0_init_19 : decode cX0_init 19 = .ok (.putfield 13, 3) := by decide +kernel
theorem dX0_init_22 : decode cX0_init 22 = .ok (.aload_n 0, 1) := by decide +kernel
theorem dX0_init_23 : decode cX0_init 23 = .ok (.sipush 4000, 3) := by decide +kernel
theorem dX0_init_26 : decode cX0_init 26 = .ok (.newarray .int, 2) := by decide +kernel
theorem dX0_init_28 : decode cX0_init 28 = .ok (.putfield 16, 3) := by decide +kernel
theorem dX0_init_31 : decode cX0_init 31 = .ok (.aload_n 0, 1) := by decide +kernel
theorem dX0_init_32 : decode cX0_init 32 = .ok (.iconst 0, 1) := by decide +kernel
theorem dX0_init_33 : decode cX0_init 33 = .ok (.putfield 19, 3) := by decide +kernel
theorem dX0_init_36 : decode cX0_init 36 = .ok (.return_, 1) := by decide +kernel
set_option maxRecDepth 20000 in
theorem ggX0_behind_X0_checkWeights : GoodIn wsX0_behind wsX0_checkWeights := goodIn_ca (goodIn_r _ [7, 1, 2] (by decide +kernel) (by decide +kernel)) (goodIn_sub (fun _ h => List.mem_cons_of_mem _ (List.mem_append_left _ (List.mem_append_left _ (List.mem_append_right _ h)))) (by decide +kernel))
set_option maxRecDepth 20000 in
theorem gX0_behind_X0_checkWeights : GoodIn wsX0_behind (va_wsS RX0 30 yX0_checkWeights wsX0_checkWeights) := goodIn_app (goodIn_of _ (by decide +kernel)) ggX0_behind_X0_checkWeights
set_option maxRecDepth 20000 in
theorem ggX0_behind_X0_checkEntryOrNone : GoodIn wsX0_behind wsX0_checkEntryOrNone := goodIn_ca (goodIn_r _ [11, 12, 13, 14, 6, 15, 16, 17, 3, 43, 44, 45, 46] (by decide +kernel) (by decide +kernel)) (goodIn_sub (fun _ h => List.mem_cons_of_mem _ (List.mem_append_left _ (List.mem_append_right _ h))) (by decide +kernel))
set_option maxRecDepth 20000 in
theorem gX0_behind_X0_checkEntryOrNone : GoodIn wsX0_behind (wsV RX0 34 RX0 yX0_checkEntryOrNone wsX0_checkEntryOrNone) := goodIn_app (goodIn_of _ (by decide +kernel)) ggX0_behind_X0_checkEntryOrNone
set_option maxRecDepth 20000 in
theorem ggX0_behind_X0_checkRoomFor : GoodIn wsX0_behind wsX0_checkRoomFor := goodIn_ca (goodIn_r _ [21, 22, 23, 3, 43, 44, 45, 46] (by decide +kernel) (by decide +kernel)) (goodIn_sub (fun _ h => List.mem_cons_of_mem _ (List.mem_append_right _ h)) (by decide +kernel))
set_option maxRecDepth 20000 in
theorem gX0_behind_X0_checkRoomFor : GoodIn wsX0_behind (wsV RX0 38 RX0 yX0_checkRoomFor wsX0_checkRoomFor) := goodIn_app (goodIn_of _ (by decide +kernel)) ggX0_behind_X0_checkRoomFor
set_option maxRecDepth 20000 in
theorem ggX0_behind_X0_placeBehind : GoodIn wsX0_behind wsX0_placeBehind := goodIn_r _ [27, 28, 29, 30, 6, 31, 3, 32, 43, 44, 45, 46] (by decide +kernel) (by decide +kernel)
set_option maxRecDepth 20000 in
theorem gX0_behind_X0_placeBehind : GoodIn wsX0_behind (wsV RX0 41 RX0 yX0_placeBehind wsX0_placeBehind) := goodIn_app (goodIn_of _ (by decide +kernel)) ggX0_behind_X0_placeBehind
set_option maxRecDepth 20000 in
theorem ggX0_behind_X0_putAt : GoodIn wsX0_behind wsX0_putAt := goodIn_r _ [36, 32, 3, 37, 38, 39, 40, 41, 42, 43, 44, 45, 46] (by decide +kernel) (by decide +kernel)
set_option maxRecDepth 20000 in
theorem gX0_behind_X0_putAt : GoodIn wsX0_behind (wsV RX0 45 RX0 yX0_putAt wsX0_putAt) := goodIn_app (goodIn_of _ (by decide +kernel)) ggX0_behind_X0_putAt
theorem dX0_behind_0 : decode cX0_behind 0 = .ok (.iload_n 2, 1) := by decide +kernel
theorem dX0_behind_1 : decode cX0_behind 1 = .ok (.iconst 1, 1) := by decide +kernel
theorem dX0_behind_2 : decode cX0_behind 2 = .ok (.if_icmp .lt 10, 3) := by decide +kernel
theorem dX0_behind_5 : decode cX0_behind 5 = .ok (.iload_n 2, 1) := by decide +kernel
theorem dX0_behind_6 : decode cX0_behind 6 = .ok (.sipush 200, 3) := by decide +kernel
theorem dX0_behind_9 : decode cX0_behind 9 = .ok (.if_icmp .le 13, 3) := by decide +kernel
theorem dX0_behind_12 : decode cX0_behind 12 = .ok (.new 23, 3) := by decide +kernel
theorem dX0_behind_15 : decode cX0_behind 15 = .ok (.dup, 1) := by decide +kernel
theorem dX0_behind_16 : decode cX0_behind 16 = .ok (.ldc 25, 2) := by decide +kernel
theorem dX0_behind_18 : decode cX0_behind 18 = .ok (.invokespecial 27, 3) := by decide +kernel
theorem dX0_behind_21 : decode cX0_behind 21 = .ok (.athrow, 1) := by decide +kernel
theorem dX0_behind_22 : decode cX0_behind 22 = .ok (.iload_n 3, 1) := by decide +kernel
theorem dX0_behind_23 : decode cX0_behind 23 = .ok (.iload 4, 2) := by decide +kernel
theorem dX0_behind_25 : decode cX0_behind 25 = .ok (.invokestatic 30, 3) := by decide +kernel
theorem dX0_behind_28 : decode cX0_behind 28 = .ok (.aload_n 0, 1) := by decide +kernel
theorem dX0_behind_29 : decode cX0_behind 29 = .ok (.iload_n 1, 1) := by decide +kernel
theorem dX0_behind_30 : decode cX0_behind 30 = .ok (.invokevirtual 34, 3) := by decide +kernel
theorem dX0_behind_33 : decode cX0_behind 33 = .ok (.aload_n 0, 1) := by decide +kernel
theorem dX0_behind_34 : decode cX0_behind 34 = .ok (.iload_n 2, 1) := by decide +kernel
theorem dX0_behind_35 : decode cX0_behind 35 = .ok (.invokevirtual 38, 3) := by decide +kernel
theorem dX0_behind_38 : decode cX0_behind 38 = .ok (.aload_n 0, 1) := by decide +kernel
theorem dX0_behind_39 : decode cX0_behind 39 = .ok (.aload_n 0, 1) := by decide +kernel
theorem dX0_behind_40 : decode cX0_behind 40 = .ok (.iload_n 1, 1) := by decide +kernel
theorem dX0_behind_41 : decode cX0_behind 41 = .ok (.invokevirtual 41, 3) := by decide +kernel
theorem dX0_behind_44 : decode cX0_behind 44 = .ok (.iload_n 2, 1) := by decide +kernel
theorem dX0_behind_45 : decode cX0_behind 45 = .ok (.iload_n 3, 1) := by decide +kernel
theorem dX0_behind_46 : decode cX0_behind 46 = .ok (.iload 4, 2) := by decide +kernel
theorem dX0_behind_48 : decode cX0_behind 48 = .ok (.invokevirtual 45, 3) := by decide +kernel
theorem dX0_behind_51 : decode cX0_behind 51 = .ok (.aload_n 0, 1) := by decide +kernel
theorem dX0_behind_52 : decode cX0_behind 52 = .ok (.getfield 19, 3) := by decide +kernel
theorem dX0_behind_55 : decode cX0_behind 55 = .ok (.iconst 1, 1) := by decide +kernel
theorem dX0_behind_56 : decode cX0_behind 56 = .ok (.isub, 1) := by decide +kernel
theorem dX0_behind_57 : decode cX0_behind 57 = .ok (.ireturn, 1) := by decide +kernel
set_option maxRecDepth 20000 in
theorem ggX0_before_X0_checkWeights : GoodIn wsX0_before wsX0_checkWeights := goodIn_ca (goodIn_r _ [5, 6, 7] (by decide +kernel) (by decide +kernel)) (goodIn_sub (fun _ h => List.mem_cons_of_mem _ (List.mem_append_left _ (List.mem_append_left _ (List.mem_append_right _ h)))) (by decide +kernel))
set_option maxRecDepth 20000 in
theorem gX0_before_X0_checkWeights : GoodIn wsX0_before (va_wsS RX0 30 yX0_checkWeights wsX0_checkWeights) := goodIn_app (goodIn_of _ (by decide +kernel)) ggX0_before_X0_checkWeights
set_option maxRecDepth 20000 in
theorem ggX0_before_X0_checkEntry : GoodIn wsX0_before wsX0_checkEntry := goodIn_ca (goodIn_r _ [11, 12, 13, 1, 35, 36, 37, 38] (by decide +kernel) (by decide +kernel)) (goodIn_sub (fun _ h => List.mem_cons_of_mem _ (List.mem_append_left _ (List.mem_append_right _ h))) (by decide +kernel))
set_option maxRecDepth 20000 in
theorem gX0_before_X0_checkEntry : GoodIn wsX0_before (wsV RX0 49 RX0 yX0_checkEntry wsX0_checkEntry) := goodIn_app (goodIn_of _ (by decide +kernel)) ggX0_before_X0_checkEntry
set_option maxRecDepth 20000 in
theorem ggX0_before_X0_checkRoomFor : GoodIn wsX0_before wsX0_checkRoomFor := goodIn_ca (goodIn_r _ [17, 18, 19, 1, 35, 36, 37, 38] (by decide +kernel) (by decide +kernel)) (goodIn_sub (fun _ h => List.mem_cons_of_mem _ (List.mem_append_right _ h)) (by decide +kernel))
set_option maxRecDepth 20000 in
theorem gX0_before_X0_checkRoomFor : GoodIn wsX0_before (wsV RX0 38 RX0 yX0_checkRoomFor wsX0_checkRoomFor) := goodIn_app (goodIn_of _ (by decide +kernel)) ggX0_before_X0_checkRoomFor
set_option maxRecDepth 20000 in
theorem ggX0_before_X0_placeOf : GoodIn wsX0_before wsX0_placeOf := goodIn_r _ [23, 1, 24, 35, 36, 37, 38] (by decide +kernel) (by decide +kernel)
set_option maxRecDepth 20000 in
theorem gX0_before_X0_placeOf : GoodIn wsX0_before (wsV RX0 52 RX0 yX0_placeOf wsX0_placeOf) := goodIn_app (goodIn_of _ (by decide +kernel)) ggX0_before_X0_placeOf
set_option maxRecDepth 20000 in
theorem ggX0_before_X0_putAt : GoodIn wsX0_before wsX0_putAt := goodIn_r _ [28, 24, 1, 29, 30, 31, 32, 33, 34, 35, 36, 37, 38] (by decide +kernel) (by decide +kernel)
set_option maxRecDepth 20000 in
theorem gX0_before_X0_putAt : GoodIn wsX0_before (wsV RX0 45 RX0 yX0_putAt wsX0_putAt) := goodIn_app (goodIn_of _ (by decide +kernel)) ggX0_before_X0_putAt
theorem dX0_before_0 : decode cX0_before 0 = .ok (.iload_n 2, 1) := by decide +kernel
theorem dX0_before_1 : decode cX0_before 1 = .ok (.iload_n 3, 1) := by decide +kernel
theorem dX0_before_2 : decode cX0_before 2 = .ok (.invokestatic 30, 3) := by decide +kernel
theorem dX0_before_5 : decode cX0_before 5 = .ok (.aload_n 0, 1) := by decide +kernel
theorem dX0_before_6 : decode cX0_before 6 = .ok (.iload_n 1, 1) := by decide +kernel
theorem dX0_before_7 : decode cX0_before 7 = .ok (.invokevirtual 49, 3) := by decide +kernel
theorem dX0_before_10 : decode cX0_before 10 = .ok (.aload_n 0, 1) := by decide +kernel
theorem dX0_before_11 : decode cX0_before 11 = .ok (.iconst 1, 1) := by decide +kernel
theorem dX0_before_12 : decode cX0_before 12 = .ok (.invokevirtual 38, 3) := by decide +kernel
theorem dX0_before_15 : decode cX0_before 15 = .ok (.aload_n 0, 1) := by decide +kernel
theorem dX0_before_16 : decode cX0_before 16 = .ok (.aload_n 0, 1) := by decide +kernel
theorem dX0_before_17 : decode cX0_before 17 = .ok (.iload_n 1, 1) := by decide +kernel
theorem dX0_before_18 : decode cX0_before 18 = .ok (.invokevirtual 52, 3) := by decide +kernel
theorem dX0_before_21 : decode cX0_before 21 = .ok (.iconst 1, 1) := by decide +kernel
theorem dX0_before_22 : decode cX0_before 22 = .ok (.iload_n 2, 1) := by decide +kernel
theorem dX0_before_23 : decode cX0_before 23 = .ok (.iload_n 3, 1) := by decide +kernel
theorem dX0_before_24 : decode cX0_before 24 = .ok (.invokevirtual 45, 3) := by decide +kernel
theorem dX0_before_27 : decode cX0_before 27 = .ok (.aload_n 0, 1) := by decide +kernel
theorem dX0_before_28 : decode cX0_before 28 = .ok (.getfield 19, 3) := by decide +kernel
theorem dX0_before_31 : decode cX0_before 31 = .ok (.iconst 1, 1) := by decide +kernel
theorem dX0_before_32 : decode cX0_before 32 = .ok (.isub, 1) := by decide +kernel
theorem dX0_before_33 : decode cX0_before 33 = .ok (.ireturn, 1) := by decide +kernel
set_option maxRecDepth 20000 in
theorem ggX0_weigh_X0_checkWeights : GoodIn wsX0_weigh wsX0_checkWeights := goodIn_ca (goodIn_r _ [6, 7, 8] (by decide +kernel) (by decide +kernel)) (goodIn_sub (fun _ h => List.mem_cons_of_mem _ (List.mem_append_left _ (List.mem_append_right _ h))) (by decide +kernel))
set_option maxRecDepth 20000 in
theorem gX0_weigh_X0_checkWeights : GoodIn wsX0_weigh (va_wsS RX0 30 yX0_checkWeights wsX0_checkWeights) := goodIn_app (goodIn_of _ (by decide +kernel)) ggX0_weigh_X0_checkWeights
set_option maxRecDepth 20000 in
theorem ggX0_weigh_X0_checkEntry : GoodIn wsX0_weigh wsX0_checkEntry := goodIn_ca (goodIn_r _ [12, 13, 14, 15, 16, 17, 18, 19] (by decide +kernel) (by decide +kernel)) (goodIn_sub (fun _ h => List.mem_cons_of_mem _ (List.mem_append_right _ h)) (by decide +kernel))
set_option maxRecDepth 20000 in
theorem gX0_weigh_X0_checkEntry : GoodIn wsX0_weigh (wsV RX0 49 RX0 yX0_checkEntry wsX0_checkEntry) := goodIn_app (goodIn_of _ (by decide +kernel)) ggX0_weigh_X0_checkEntry
theorem dX0_weigh_0 : decode cX0_weigh 0 = .ok (.iload_n 2, 1) := by decide +kernel
theorem dX0_weigh_1 : decode cX0_weigh 1 = .ok (.iload_n 3, 1) := by decide +kernel
theorem dX0_weigh_2 : decode cX0_weigh 2 = .ok (.invokestatic 30, 3) := by decide +kernel
theorem dX0_weigh_5 : decode cX0_weigh 5 = .ok (.aload_n 0, 1) := by decide +kernel
theorem dX0_weigh_6 : decode cX0_weigh 6 = .ok (.iload_n 1, 1) := by decide +kernel
theorem dX0_weigh_7 : decode cX0_weigh 7 = .ok (.invokevirtual 49, 3) := by decide +kernel
theorem dX0_weigh_10 : decode cX0_weigh 10 = .ok (.aload_n 0, 1) := by decide +kernel
theorem dX0_weigh_11 : decode cX0_weigh 11 = .ok (.getfield 13, 3) := by decide +kernel
theorem dX0_weigh_14 : decode cX0_weigh 14 = .ok (.iload_n 1, 1) := by decide +kernel
theorem dX0_weigh_15 : decode cX0_weigh 15 = .ok (.iaload, 1) := by decide +kernel
theorem dX0_weigh_16 : decode cX0_weigh 16 = .ok (.istore 4, 2) := by decide +kernel
theorem dX0_weigh_18 : decode cX0_weigh 18 = .ok (.aload_n 0, 1) := by decide +kernel
theorem dX0_weigh_19 : decode cX0_weigh 19 = .ok (.getfield 13, 3) := by decide +kernel
theorem dX0_weigh_22 : decode cX0_weigh 22 = .ok (.iload_n 1, 1) := by decide +kernel
theorem dX0_weigh_23 : decode cX0_weigh 23 = .ok (.iload_n 2, 1) := by decide +kernel
theorem dX0_weigh_24 : decode cX0_weigh 24 = .ok (.iastore, 1) := by decide +kernel
theorem dX0_weigh_25 : decode cX0_weigh 25 = .ok (.aload_n 0, 1) := by decide +kernel
theorem dX0_weigh_26 : decode cX0_weigh 26 = .ok (.getfield 16, 3) := by decide +kernel
theorem dX0_weigh_29 : decode cX0_weigh 29 = .ok (.iload_n 1, 1) := by decide +kernel
theorem dX0_weigh_30 : decode cX0_weigh 30 = .ok (.iload_n 3, 1) := by decide +kernel
theorem dX0_weigh_31 : decode cX0_weigh 31 = .ok (.iastore, 1) := by decide +kernel
theorem dX0_weigh_32 : decode cX0_weigh 32 = .ok (.iload 4, 2) := by decide +kernel
theorem dX0_weigh_34 : decode cX0_weigh 34 = .ok (.ireturn, 1) := by decide +kernel
theorem dX0_find_0 : decode cX0_find 0 = .ok (.iload_n 1, 1) := by decide +kernel
theorem dX0_find_1 : decode cX0_find 1 = .ok (.ifCond .ge 13, 3) := by decide +kernel
theorem dX0_find_4 : decode cX0_find 4 = .ok (.new 55, 3) := by decide +kernel
theorem dX0_find_7 : decode cX0_find 7 = .ok (.dup, 1) := by decide +kernel
theorem dX0_find_8 : decode cX0_find 8 = .ok (.ldc 57, 2) := by decide +kernel
theorem dX0_find_10 : decode cX0_find 10 = .ok (.invokespecial 59, 3) := by decide +kernel
theorem dX0_find_13 : decode cX0_find 13 = .ok (.athrow, 1) := by decide +kernel
theorem dX0_find_14 : decode cX0_find 14 = .ok (.iconst 0, 1) := by decide +kernel
theorem dX0_find_15 : decode cX0_find 15 = .ok (.istore_n 2, 1) := by decide +kernel
theorem dX0_find_16 : decode cX0_find 16 = .ok (.iconst 0, 1) := by decide +kernel
theorem dX0_find_17 : decode cX0_find 17 = .ok (.istore_n 3, 1) := by decide +kernel
theorem dX0_find_18 : decode cX0_find 18 = .ok (.iload_n 3, 1) := by decide +kernel
theorem dX0_find_19 : decode cX0_find 19 = .ok (.aload_n 0, 1) := by decide +kernel
theorem dX0_find_20 : decode cX0_find 20 = .ok (.getfield 19, 3) := by decide +kernel
theorem dX0_find_23 : decode cX0_find 23 = .ok (.if_icmp .ge 35, 3) := by decide +kernel
theorem dX0_find_26 : decode cX0_find 26 = .ok (.iload_n 2, 1) := by decide +kernel
theorem dX0_find_27 : decode cX0_find 27 = .ok (.aload_n 0, 1) := by decide +kernel
theorem dX0_find_28 : decode cX0_find 28 = .ok (.getfield 13, 3) := by decide +kernel
theorem dX0_find_31 : decode cX0_find 31 = .ok (.aload_n 0, 1) := by decide +kernel
theorem dX0_find_32 : decode cX0_find 32 = .ok (.getfield 9, 3) := by decide +kernel
theorem dX0_find_35 : decode cX0_find 35 = .ok (.iload_n 3, 1) := by decide +kernel
theorem dX0_find_36 : decode cX0_find 36 = .ok (.iaload, 1) := by decide +kernel
theorem dX0_find_37 : decode cX0_find 37 = .ok (.iaload, 1) := by decide +kernel
theorem dX0_find_38 : decode cX0_find 38 = .ok (.iadd, 1) := by decide +kernel
theorem dX0_find_39 : decode cX0_find 39 = .ok (.istore_n 2, 1) := by decide +kernel
theorem dX0_find_40 : decode cX0_find 40 = .ok (.iload_n 2, 1) := by decide +kernel
theorem dX0_find_41 : decode cX0_find 41 = .ok (.iload_n 1, 1) := by decide +kernel
theorem dX0_find_42 : decode cX0_find 42 = .ok (.if_icmp .le 10, 3) := by decide +kernel
theorem dX0_find_45 : decode cX0_find 45 = .ok (.aload_n 0, 1) := by decide +kernel
theorem dX0_find_46 : decode cX0_find 46 = .ok (.getfield 9, 3) := by decide +kernel
theorem dX0_find_49 : decode cX0_find 49 = .ok (.iload_n 3, 1) := by decide +kernel
theorem dX0_find_50 : decode cX0_find 50 = .ok (.iaload, 1) := by decide +kernel
theorem dX0_find_51 : decode cX0_find 51 = .ok (.ireturn, 1) := by decide +kernel
theorem dX0_find_52 : decode cX0_find 52 = .ok (.iinc 3 1, 3) := by decide +kernel
theorem dX0_find_55 : decode cX0_find 55 = .ok (.goto (-37), 3) := by decide +kernel
theorem dX0_find_58 : decode cX0_find 58 = .ok (.new 55, 3) := by decide +kernel
theorem dX0_find_61 : decode cX0_find 61 = .ok (.dup, 1) := by decide +kernel
theorem dX0_find_62 : decode cX0_find 62 = .ok (.ldc 60, 2) := by decide +kernel
theorem dX0_find_64 : decode cX0_find 64 = .ok (.invokespecial 59, 3) := by decide +kernel
theorem dX0_find_67 : decode cX0_find 67 = .ok (.athrow, 1) := by decide +kernel
set_option maxRecDepth 20000 in
theorem ggX0_sum_X0_checkEntryOrNone : GoodIn wsX0_sum wsX0_checkEntryOrNone := goodIn_ca (goodIn_r _ [10, 11, 12, 13, 9, 14, 15, 16, 3, 26, 27, 28, 29] (by decide +kernel) (by decide +kernel)) (goodIn_sub (fun _ h => List.mem_cons_of_mem _ (List.mem_append_right _ h)) (by decide +kernel))
set_option maxRecDepth 20000 in
theorem gX0_sum_X0_checkEntryOrNone : GoodIn wsX0_sum (wsV RX0 34 RX0 yX0_checkEntryOrNone wsX0_checkEntryOrNone) := goodIn_app (goodIn_of _ (by decide +kernel)) ggX0_sum_X0_checkEntryOrNone
set_option maxRecDepth 20000 in
theorem ggX0_sum_X0_placeOf : GoodIn wsX0_sum wsX0_placeOf := goodIn_r _ [20, 3, 21, 26, 27, 28, 29] (by decide +kernel) (by decide +kernel)
set_option maxRecDepth 20000 in
theorem gX0_sum_X0_placeOf : GoodIn wsX0_sum (wsV RX0 52 RX0 yX0_placeOf wsX0_placeOf) := goodIn_app (goodIn_of _ (by decide +kernel)) ggX0_sum_X0_placeOf
set_option maxRecDepth 20000 in
theorem ggX0_sum_X0_sumInFrontOf : GoodIn wsX0_sum wsX0_sumInFrontOf := goodIn_r _ [25, 21, 26, 27, 28, 29] (by decide +kernel) (by decide +kernel)
set_option maxRecDepth 20000 in
theorem gX0_sum_X0_sumInFrontOf : GoodIn wsX0_sum (wsV RX0 64 RX0 yX0_sumInFrontOf wsX0_sumInFrontOf) := goodIn_app (goodIn_of _ (by decide +kernel)) ggX0_sum_X0_sumInFrontOf
theorem dX0_sum_0 : decode cX0_sum 0 = .ok (.iload_n 2, 1) := by decide +kernel
theorem dX0_sum_1 : decode cX0_sum 1 = .ok (.ifCond .eq 18, 3) := by decide +kernel
theorem dX0_sum_4 : decode cX0_sum 4 = .ok (.iload_n 2, 1) := by decide +kernel
theorem dX0_sum_5 : decode cX0_sum 5 = .ok (.iconst 1, 1) := by decide +kernel
theorem dX0_sum_6 : decode cX0_sum 6 = .ok (.if_icmp .eq 13, 3) := by decide +kernel
theorem dX0_sum_9 : decode cX0_sum 9 = .ok (.new 23, 3) := by decide +kernel
theorem dX0_sum_12 : decode cX0_sum 12 = .ok (.dup, 1) := by decide +kernel
theorem dX0_sum_13 : decode cX0_sum 13 = .ok (.ldc 62, 2) := by decide +kernel
theorem dX0_sum_15 : decode cX0_sum 15 = .ok (.invokespecial 27, 3) := by decide +kernel
theorem dX0_sum_18 : decode cX0_sum 18 = .ok (.athrow, 1) := by decide +kernel
theorem dX0_sum_19 : decode cX0_sum 19 = .ok (.aload_n 0, 1) := by decide +kernel
theorem dX0_sum_20 : decode cX0_sum 20 = .ok (.iload_n 1, 1) := by decide +kernel
theorem dX0_sum_21 : decode cX0_sum 21 = .ok (.invokevirtual 34, 3) := by decide +kernel
theorem dX0_sum_24 : decode cX0_sum 24 = .ok (.iload_n 1, 1) := by decide +kernel
theorem dX0_sum_25 : decode cX0_sum 25 = .ok (.iconst (-1), 1) := by decide +kernel
theorem dX0_sum_26 : decode cX0_sum 26 = .ok (.if_icmp .ne 10, 3) := by decide +kernel
theorem dX0_sum_29 : decode cX0_sum 29 = .ok (.aload_n 0, 1) := by decide +kernel
theorem dX0_sum_30 : decode cX0_sum 30 = .ok (.getfield 19, 3) := by decide +kernel
theorem dX0_sum_33 : decode cX0_sum 33 = .ok (.goto 8, 3) := by decide +kernel
theorem dX0_sum_36 : decode cX0_sum 36 = .ok (.aload_n 0, 1) := by decide +kernel
theorem dX0_sum_37 : decode cX0_sum 37 = .ok (.iload_n 1, 1) := by decide +kernel
theorem dX0_sum_38 : decode cX0_sum 38 = .ok (.invokevirtual 52, 3) := by decide +kernel
theorem dX0_sum_41 : decode cX0_sum 41 = .ok (.istore_n 3, 1) := by decide +kernel
theorem dX0_sum_42 : decode cX0_sum 42 = .ok (.aload_n 0, 1) := by decide +kernel
theorem dX0_sum_43 : decode cX0_sum 43 = .ok (.iload_n 3, 1) := by decide +kernel
theorem dX0_sum_44 : decode cX0_sum 44 = .ok (.iload_n 2, 1) := by decide +kernel
theorem dX0_sum_45 : decode cX0_sum 45 = .ok (.ifCond .ne 10, 3) := by decide +kernel
theorem dX0_sum_48 : decode cX0_sum 48 = .ok (.aload_n 0, 1) := by decide +kernel
theorem dX0_sum_49 : decode cX0_sum 49 = .ok (.getfield 13, 3) := by decide +kernel
theorem dX0_sum_52 : decode cX0_sum 52 = .ok (.goto 7, 3) := by decide +kernel
theorem dX0_sum_55 : decode cX0_sum 55 = .ok (.aload_n 0, 1) := by decide +kernel
theorem dX0_sum_56 : decode cX0_sum 56 = .ok (.getfield 16, 3) := by decide +kernel
theorem dX0_sum_59 : decode cX0_sum 59 = .ok (.invokevirtual 64, 3) := by decide +kernel
theorem dX0_sum_62 : decode cX0_sum 62 = .ok (.ireturn, 1) := by decide +kernel
set_option maxRecDepth 20000 in
theorem ggX0_next_X0_checkEntryOrNone : GoodIn wsX0_next wsX0_checkEntryOrNone := goodIn_ca (goodIn_r _ [9, 10, 11, 12, 8, 13, 1, 2, 3, 22, 23, 24, 25] (by decide +kernel) (by decide +kernel)) (goodIn_sub (fun _ h => List.mem_cons_of_mem _ (List.mem_append_right _ h)) (by decide +kernel))
set_option maxRecDepth 20000 in
theorem gX0_next_X0_checkEntryOrNone : GoodIn wsX0_next (wsV RX0 34 RX0 yX0_checkEntryOrNone wsX0_checkEntryOrNone) := goodIn_app (goodIn_of _ (by decide +kernel)) ggX0_next_X0_checkEntryOrNone
set_option maxRecDepth 20000 in
theorem ggX0_next_X0_placeBehind : GoodIn wsX0_next wsX0_placeBehind := goodIn_r _ [17, 18, 19, 20, 8, 21, 3, 4, 22, 23, 24, 25] (by decide +kernel) (by decide +kernel)
set_option maxRecDepth 20000 in
theorem gX0_next_X0_placeBehind : GoodIn wsX0_next (wsV RX0 41 RX0 yX0_placeBehind wsX0_placeBehind) := goodIn_app (goodIn_of _ (by decide +kernel)) ggX0_next_X0_placeBehind
theorem dX0_next_0 : decode cX0_next 0 = .ok (.aload_n 0, 1) := by decide +kernel
theorem dX0_next_1 : decode cX0_next 1 = .ok (.iload_n 1, 1) := by decide +kernel
theorem dX0_next_2 : decode cX0_next 2 = .ok (.invokevirtual 34, 3) := by decide +kernel
theorem dX0_next_5 : decode cX0_next 5 = .ok (.aload_n 0, 1) := by decide +kernel
theorem dX0_next_6 : decode cX0_next 6 = .ok (.iload_n 1, 1) := by decide +kernel
theorem dX0_next_7 : decode cX0_next 7 = .ok (.invokevirtual 41, 3) := by decide +kernel
theorem dX0_next_10 : decode cX0_next 10 = .ok (.istore_n 2, 1) := by decide +kernel
theorem dX0_next_11 : decode cX0_next 11 = .ok (.iload_n 2, 1) := by decide +kernel
theorem dX0_next_12 : decode cX0_next 12 = .ok (.aload_n 0, 1) := by decide +kernel
theorem dX0_next_13 : decode cX0_next 13 = .ok (.getfield 19, 3) := by decide +kernel
theorem dX0_next_16 : decode cX0_next 16 = .ok (.if_icmp .lt 13, 3) := by decide +kernel
theorem dX0_next_19 : decode cX0_next 19 = .ok (.new 55, 3) := by decide +kernel
theorem dX0_next_22 : decode cX0_next 22 = .ok (.dup, 1) := by decide +kernel
theorem dX0_next_23 : decode cX0_next 23 = .ok (.ldc 68, 2) := by decide +kernel
theorem dX0_next_25 : decode cX0_next 25 = .ok (.invokespecial 59, 3) := by decide +kernel
theorem dX0_next_28 : decode cX0_next 28 = .ok (.athrow, 1) := by decide +kernel
theorem dX0_next_29 : decode cX0_next 29 = .ok (.aload_n 0, 1) := by decide +kernel
theorem dX0_next_30 : decode cX0_next 30 = .ok (.getfield 9, 3) := by decide +kernel
theorem dX0_next_33 : decode cX0_next 33 = .ok (.iload_n 2, 1) := by decide +kernel
theorem dX0_next_34 : decode cX0_next 34 = .ok (.iaload, 1) := by decide +kernel
theorem dX0_next_35 : decode cX0_next 35 = .ok (.ireturn, 1) := by decide +kernel
set_option maxRecDepth 20000 in
theorem ggX0_place_X0_checkEntry : GoodIn wsX0_place wsX0_checkEntry := goodIn_ca (goodIn_r _ [5, 6, 7, 8, 14, 15, 16, 17] (by decide +kernel) (by decide +kernel)) (goodIn_sub (fun _ h => List.mem_cons_of_mem _ (List.mem_append_right _ h)) (by decide +kernel))
set_option maxRecDepth 20000 in
theorem gX0_place_X0_checkEntry : GoodIn wsX0_place (wsV RX0 49 RX0 yX0_checkEntry wsX0_checkEntry) := goodIn_app (goodIn_of _ (by decide +kernel)) ggX0_place_X0_checkEntry
set_option maxRecDepth 20000 in
theorem ggX0_place_X0_placeOf : GoodIn wsX0_place wsX0_placeOf := goodIn_r _ [12, 8, 13, 14, 15, 16, 17] (by decide +kernel) (by decide +kernel)
set_option maxRecDepth 20000 in
theorem gX0_place_X0_placeOf : GoodIn wsX0_place (wsV RX0 52 RX0 yX0_placeOf wsX0_placeOf) := goodIn_app (goodIn_of _ (by decide +kernel)) ggX0_place_X0_placeOf
theorem dX0_place_0 : decode cX0_place 0 = .ok (.aload_n 0, 1) := by decide +kernel
theorem dX0_place_1 : decode cX0_place 1 = .ok (.iload_n 1, 1) := by decide +kernel
theorem dX0_place_2 : decode cX0_place 2 = .ok (.invokevirtual 49, 3) := by decide +kernel
theorem dX0_place_5 : decode cX0_place 5 = .ok (.aload_n 0, 1) := by decide +kernel
theorem dX0_place_6 : decode cX0_place 6 = .ok (.iload_n 1, 1) := by decide +kernel
theorem dX0_place_7 : decode cX0_place 7 = .ok (.invokevirtual 52, 3) := by decide +kernel
theorem dX0_place_10 : decode cX0_place 10 = .ok (.ireturn, 1) := by decide +kernel
theorem dX0_entries_0 : decode cX0_entries 0 = .ok (.aload_n 0, 1) := by decide +kernel
theorem dX0_entries_1 : decode cX0_entries 1 = .ok (.getfield 19, 3) := by decide +kernel
theorem dX0_entries_4 : decode cX0_entries 4 = .ok (.ireturn, 1) := by decide +kernel
theorem dX0_checkWeights_0 : decode cX0_checkWeights 0 = .ok (.iload_n 0, 1) := by decide +kernel
theorem dX0_checkWeights_1 : decode cX0_checkWeights 1 = .ok (.ifCond .lt 21, 3) := by decide +kernel
theorem dX0_checkWeights_4 : decode cX0_checkWeights 4 = .ok (.iload_n 0, 1) := by decide +kernel
theorem dX0_checkWeights_5 : decode cX0_checkWeights 5 = .ok (.sipush 1000, 3) := by decide +kernel
theorem dX0_checkWeights_8 : decode cX0_checkWeights 8 = .ok (.if_icmp .gt 14, 3) := by decide +kernel
theorem dX0_checkWeights_11 : decode cX0_checkWeights 11 = .ok (.iload_n 1, 1) := by decide +kernel
theorem dX0_checkWeights_12 : decode cX0_checkWeights 12 = .ok (.ifCond .lt 10, 3) := by decide +kernel
theorem dX0_checkWeights_15 : decode cX0_checkWeights 15 = .ok (.iload_n 1, 1) := by decide +kernel
theorem dX0_checkWeights_16 : decode cX0_checkWeights 16 = .ok (.sipush 1000, 3) := by decide +kernel
theorem dX0_checkWeights_19 : decode cX0_checkWeights 19 = .ok (.if_icmp .le 13, 3) := by decide +kernel
theorem dX0_checkWeights_22 : decode cX0_checkWeights 22 = .ok (.new 23, 3) := by decide +kernel
theorem dX0_checkWeights_25 : decode cX0_checkWeights 25 = .ok (.dup, 1) := by decide +kernel
theorem dX0_checkWeights_26 : decode cX0_checkWeights 26 = .ok (.ldc 70, 2) := by decide +kernel
theorem dX0_checkWeights_28 : decode cX0_checkWeights 28 = .ok (.invokespecial 27, 3) := by decide +kernel
theorem dX0_checkWeights_31 : decode cX0_checkWeights 31 = .ok (.athrow, 1) := by decide +kernel
theorem dX0_checkWeights_32 : decode cX0_checkWeights 32 = .ok (.return_, 1) := by decide +kernel
theorem dX0_checkEntry_0 : decode cX0_checkEntry 0 = .ok (.iload_n 1, 1) := by decide +kernel
theorem dX0_checkEntry_1 : decode cX0_checkEntry 1 = .ok (.ifCond .lt 11, 3) := by decide +kernel
theorem dX0_checkEntry_4 : decode cX0_checkEntry 4 = .ok (.iload_n 1, 1) := by decide +kernel
theorem dX0_checkEntry_5 : decode cX0_checkEntry 5 = .ok (.aload_n 0, 1) := by decide +kernel
theorem dX0_checkEntry_6 : decode cX0_checkEntry 6 = .ok (.getfield 19, 3) := by decide +kernel
theorem dX0_checkEntry_9 : decode cX0_checkEntry 9 = .ok (.if_icmp .lt 13, 3) := by decide +kernel
theorem dX0_checkEntry_12 : decode cX0_checkEntry 12 = .ok (.new 55, 3) := by decide +kernel
theorem dX0_checkEntry_15 : decode cX0_checkEntry 15 = .ok (.dup, 1) := by decide +kernel
theorem dX0_checkEntry_16 : decode cX0_checkEntry 16 = .ok (.ldc 72, 2) := by decide +kernel
theorem dX0_checkEntry_18 : decode cX0_checkEntry 18 = .ok (.invokespecial 59, 3) := by decide +kernel
theorem dX0_checkEntry_21 : decode cX0_checkEntry 21 = .ok (.athrow, 1) := by decide +kernel
theorem dX0_checkEntry_22 : decode cX0_checkEntry 22 = .ok (.return_, 1) := by decide +kernel
set_option maxRecDepth 20000 in
theorem ggX0_checkEntryOrNone_X0_checkEntry : GoodIn wsX0_checkEntryOrNone wsX0_checkEntry := goodIn_ca (goodIn_r _ [5, 6, 7, 8, 9, 10, 11, 12] (by decide +kernel) (by decide +kernel)) (goodIn_sub (fun _ h => List.mem_cons_of_mem _ (List.mem_append_right _ h)) (by decide +kernel))
set_option maxRecDepth 20000 in
theorem gX0_checkEntryOrNone_X0_checkEntry : GoodIn wsX0_checkEntryOrNone (wsV RX0 49 RX0 yX0_checkEntry wsX0_checkEntry) := goodIn_app (goodIn_of _ (by decide +kernel)) ggX0_checkEntryOrNone_X0_checkEntry
theorem dX0_checkEntryOrNone_0 : decode cX0_checkEntryOrNone 0 = .ok (.iload_n 1, 1) := by decide +kernel
theorem dX0_checkEntryOrNone_1 : decode cX0_checkEntryOrNone 1 = .ok (.iconst (-1), 1) := by decide +kernel
theorem dX0_checkEntryOrNone_2 : decode cX0_checkEntryOrNone 2 = .ok (.if_icmp .eq 8, 3) := by decide +kernel
theorem dX0_checkEntryOrNone_5 : decode cX0_checkEntryOrNone 5 = .ok (.aload_n 0, 1) := by decide +kernel
theorem dX0_checkEntryOrNone_6 : decode cX0_checkEntryOrNone 6 = .ok (.iload_n 1, 1) := by decide +kernel
theorem dX0_checkEntryOrNone_7 : decode cX0_checkEntryOrNone 7 = .ok (.invokevirtual 49, 3) := by decide +kernel
theorem dX0_checkEntryOrNone_10 : decode cX0_checkEntryOrNone 10 = .ok (.return_, 1) := by decide +kernel
theorem dX0_checkRoomFor_0 : decode cX0_checkRoomFor 0 = .ok (.iload_n 1, 1) := by decide +kernel
theorem dX0_checkRoomFor_1 : decode cX0_checkRoomFor 1 = .ok (.sipush 4000, 3) := by decide +kernel
theorem dX0_checkRoomFor_4 : decode cX0_checkRoomFor 4 = .ok (.aload_n 0, 1) := by decide +kernel
theorem dX0_checkRoomFor_5 : decode cX0_checkRoomFor 5 = .ok (.getfield 19, 3) := by decide +kernel
theorem dX0_checkRoomFor_8 : decode cX0_checkRoomFor 8 = .ok (.isub, 1) := by decide +kernel
theorem dX0_checkRoomFor_9 : decode cX0_checkRoomFor 9 = .ok (.if_icmp .le 13, 3) := by decide +kernel
theorem dX0_checkRoomFor_12 : decode cX0_checkRoomFor 12 = .ok (.new 74, 3) := by decide +kernel
theorem dX0_checkRoomFor_15 : decode cX0_checkRoomFor 15 = .ok (.dup, 1) := by decide +kernel
theorem dX0_checkRoomFor_16 : decode cX0_checkRoomFor 16 = .ok (.ldc 76, 2) := by decide +kernel
theorem dX0_checkRoomFor_18 : decode cX0_checkRoomFor 18 = .ok (.invokespecial 78, 3) := by decide +kernel
theorem dX0_checkRoomFor_21 : decode cX0_checkRoomFor 21 = .ok (.athrow, 1) := by decide +kernel
theorem dX0_checkRoomFor_22 : decode cX0_checkRoomFor 22 = .ok (.return_, 1) := by decide +kernel
theorem dX0_placeOf_0 : decode cX0_placeOf 0 = .ok (.iconst 0, 1) := by decide +kernel
theorem dX0_placeOf_1 : decode cX0_placeOf 1 = .ok (.istore_n 2, 1) := by decide +kernel
theorem dX0_placeOf_2 : decode cX0_placeOf 2 = .ok (.iload_n 2, 1) := by decide +kernel
theorem dX0_placeOf_3 : decode cX0_placeOf 3 = .ok (.aload_n 0, 1) := by decide +kernel
theorem dX0_placeOf_4 : decode cX0_placeOf 4 = .ok (.getfield 19, 3) := by decide +kernel
theorem dX0_placeOf_7 : decode cX0_placeOf 7 = .ok (.if_icmp .ge 19, 3) := by decide +kernel
theorem dX0_placeOf_10 : decode cX0_placeOf 10 = .ok (.aload_n 0, 1) := by decide +kernel
theorem dX0_placeOf_11 : decode cX0_placeOf 11 = .ok (.getfield 9, 3) := by decide +kernel
theorem dX0_placeOf_14 : decode cX0_placeOf 14 = .ok (.iload_n 2, 1) := by decide +kernel
theorem dX0_placeOf_15 : decode cX0_placeOf 15 = .ok (.iaload, 1) := by decide +kernel
theorem dX0_placeOf_16 : decode cX0_placeOf 16 = .ok (.iload_n 1, 1) := by decide +kernel
theorem dX0_placeOf_17 : decode cX0_placeOf 17 = .ok (.if_icmp .eq 9, 3) := by decide +kernel
theorem dX0_placeOf_20 : decode cX0_placeOf 20 = .ok (.iinc 2 1, 3) := by decide +kernel
theorem dX0_placeOf_23 : decode cX0_placeOf 23 = .ok (.goto (-21), 3) := by decide +kernel
theorem dX0_placeOf_26 : decode cX0_placeOf 26 = .ok (.iload_n 2, 1) := by decide +kernel
theorem dX0_placeOf_27 : decode cX0_placeOf 27 = .ok (.ireturn, 1) := by decide +kernel
set_option maxRecDepth 20000 in
theorem ggX0_placeBehind_X0_placeOf : GoodIn wsX0_placeBehind wsX0_placeOf := goodIn_r _ [5, 6, 7, 8, 9, 10, 11] (by decide +kernel) (by decide +kernel)
set_option maxRecDepth 20000 in
theorem gX0_placeBehind_X0_placeOf : GoodIn wsX0_placeBehind (wsV RX0 52 RX0 yX0_placeOf wsX0_placeOf) := goodIn_app (goodIn_of _ (by decide +kernel)) ggX0_placeBehind_X0_placeOf
theorem dX0_placeBehind_0 : decode cX0_placeBehind 0 = .ok (.iload_n 1, 1) := by decide +kernel
theorem dX0_placeBehind_1 : decode cX0_placeBehind 1 = .ok (.iconst (-1), 1) := by decide +kernel
theorem dX0_placeBehind_2 : decode cX0_placeBehind 2 = .ok (.if_icmp .ne 7, 3) := by decide +kernel
theorem dX0_placeBehind_5 : decode cX0_placeBehind 5 = .ok (.iconst 0, 1) := by decide +kernel
theorem dX0_placeBehind_6 : decode cX0_placeBehind 6 = .ok (.goto 10, 3) := by decide +kernel
theorem dX0_placeBehind_9 : decode cX0_placeBehind 9 = .ok (.aload_n 0, 1) := by decide +kernel
theorem dX0_placeBehind_10 : decode cX0_placeBehind 10 = .ok (.iload_n 1, 1) := by decide +kernel
theorem dX0_placeBehind_11 : decode cX0_placeBehind 11 = .ok (.invokevirtual 52, 3) := by decide +kernel
theorem dX0_placeBehind_14 : decode cX0_placeBehind 14 = .ok (.iconst 1, 1) := by decide +kernel
theorem dX0_placeBehind_15 : decode cX0_placeBehind 15 = .ok (.iadd, 1) := by decide +kernel
theorem dX0_placeBehind_16 : decode cX0_placeBehind 16 = .ok (.ireturn, 1) := by decide +kernel
theorem dX0_sumInFrontOf_0 : decode cX0_sumInFrontOf 0 = .ok (.iconst 0, 1) := by decide +kernel
theorem dX0_sumInFrontOf_1 : decode cX0_sumInFrontOf 1 = .ok (.istore_n 3, 1) := by decide +kernel
theorem dX0_sumInFrontOf_2 : decode cX0_sumInFrontOf 2 = .ok (.iconst 0, 1) := by decide +kernel
theorem dX0_sumInFrontOf_3 : decode cX0_sumInFrontOf 3 = .ok (.istore 4, 2) := by decide +kernel
theorem dX0_sumInFrontOf_5 : decode cX0_sumInFrontOf 5 = .ok (.iload 4, 2) := by decide +kernel
theorem dX0_sumInFrontOf_7 : decode cX0_sumInFrontOf 7 = .ok (.iload_n 1, 1) := by decide +kernel
theorem dX0_sumInFrontOf_8 : decode cX0_sumInFrontOf 8 = .ok (.if_icmp .ge 21, 3) := by decide +kernel
theorem dX0_sumInFrontOf_11 : decode cX0_sumInFrontOf 11 = .ok (.iload_n 3, 1) := by decide +kernel
theorem dX0_sumInFrontOf_12 : decode cX0_sumInFrontOf 12 = .ok (.aload_n 2, 1) := by decide +kernel
theorem dX0_sumInFrontOf_13 : decode cX0_sumInFrontOf 13 = .ok (.aload_n 0, 1) := by decide +kernel
theorem dX0_sumInFrontOf_14 : decode cX0_sumInFrontOf 14 = .ok (.getfield 9, 3) := by decide +kernel
theorem dX0_sumInFrontOf_17 : decode cX0_sumInFrontOf 17 = .ok (.iload 4, 2) := by decide +kernel
theorem dX0_sumInFrontOf_19 : decode cX0_sumInFrontOf 19 = .ok (.iaload, 1) := by decide +kernel
theorem dX0_sumInFrontOf_20 : decode cX0_sumInFrontOf 20 = .ok (.iaload, 1) := by decide +kernel
theorem dX0_sumInFrontOf_21 : decode cX0_sumInFrontOf 21 = .ok (.iadd, 1) := by decide +kernel
theorem dX0_sumInFrontOf_22 : decode cX0_sumInFrontOf 22 = .ok (.istore_n 3, 1) := by decide +kernel
theorem dX0_sumInFrontOf_23 : decode cX0_sumInFrontOf 23 = .ok (.iinc 4 1, 3) := by decide +kernel
theorem dX0_sumInFrontOf_26 : decode cX0_sumInFrontOf 26 = .ok (.goto (-21), 3) := by decide +kernel
theorem dX0_sumInFrontOf_29 : decode cX0_sumInFrontOf 29 = .ok (.iload_n 3, 1) := by decide +kernel
theorem dX0_sumInFrontOf_30 : decode cX0_sumInFrontOf 30 = .ok (.ireturn, 1) := by decide +kernel
theorem dX0_putAt_0 : decode cX0_putAt 0 = .ok (.aload_n 0, 1) := by decide +kernel
theorem dX0_putAt_1 : decode cX0_putAt 1 = .ok (.getfield 9, 3) := by decide +kernel
theorem dX0_putAt_4 : decode cX0_putAt 4 = .ok (.iload_n 1, 1) := by decide +kernel
theorem dX0_putAt_5 : decode cX0_putAt 5 = .ok (.aload_n 0, 1) := by decide +kernel
theorem dX0_putAt_6 : decode cX0_putAt 6 = .ok (.getfield 9, 3) := by decide +kernel
theorem dX0_putAt_9 : decode cX0_putAt 9 = .ok (.iload_n 1, 1) := by decide +kernel
theorem dX0_putAt_10 : decode cX0_putAt 10 = .ok (.iload_n 2, 1) := by decide +kernel
theorem dX0_putAt_11 : decode cX0_putAt 11 = .ok (.iadd, 1) := by decide +kernel
theorem dX0_putAt_12 : decode cX0_putAt 12 = .ok (.aload_n 0, 1) := by decide +kernel
theorem dX0_putAt_13 : decode cX0_putAt 13 = .ok (.getfield 19, 3) := by decide +kernel
theorem dX0_putAt_16 : decode cX0_putAt 16 = .ok (.iload_n 1, 1) := by decide +kernel
theorem dX0_putAt_17 : decode cX0_putAt 17 = .ok (.isub, 1) := by decide +kernel
theorem dX0_putAt_18 : decode cX0_putAt 18 = .ok (.invokestatic 79, 3) := by decide +kernel
theorem dX0_putAt_21 : decode cX0_putAt 21 = .ok (.iconst 0, 1) := by decide +kernel
theorem dX0_putAt_22 : decode cX0_putAt 22 = .ok (.istore 5, 2) := by decide +kernel
theorem dX0_putAt_24 : decode cX0_putAt 24 = .ok (.iload 5, 2) := by decide +kernel
theorem dX0_putAt_26 : decode cX0_putAt 26 = .ok (.iload_n 2, 1) := by decide +kernel
theorem dX0_putAt_27 : decode cX0_putAt 27 = .ok (.if_icmp .ge 46, 3) := by decide +kernel
theorem dX0_putAt_30 : decode cX0_putAt 30 = .ok (.aload_n 0, 1) := by decide +kernel
theorem dX0_putAt_31 : decode cX0_putAt 31 = .ok (.getfield 19, 3) := by decide +kernel
theorem dX0_putAt_34 : decode cX0_putAt 34 = .ok (.iload 5, 2) := by decide +kernel
theorem dX0_putAt_36 : decode cX0_putAt 36 = .ok (.iadd, 1) := by decide +kernel
theorem dX0_putAt_37 : decode cX0_putAt 37 = .ok (.istore 6, 2) := by decide +kernel
theorem dX0_putAt_39 : decode cX0_putAt 39 = .ok (.aload_n 0, 1) := by decide +kernel
theorem dX0_putAt_40 : decode cX0_putAt 40 = .ok (.getfield 9, 3) := by decide +kernel
theorem dX0_putAt_43 : decode cX0_putAt 43 = .ok (.iload_n 1, 1) := by decide +kernel
theorem dX0_putAt_44 : decode cX0_putAt 44 = .ok (.iload 5, 2) := by decide +kernel
theorem dX0_putAt_46 : decode cX0_putAt 46 = .ok (.iadd, 1) := by decide +kernel
theorem dX0_putAt_47 : decode cX0_putAt 47 = .ok (.iload 6, 2) := by decide +kernel
theorem dX0_putAt_49 : decode cX0_putAt 49 = .ok (.iastore, 1) := by decide +kernel
theorem dX0_putAt_50 : decode cX0_putAt 50 = .ok (.aload_n 0, 1) := by decide +kernel
theorem dX0_putAt_51 : decode cX0_putAt 51 = .ok (.getfield 13, 3) := by decide +kernel
theorem dX0_putAt_54 : decode cX0_putAt 54 = .ok (.iload 6, 2) := by decide +kernel
theorem dX0_putAt_56 : decode cX0_putAt 56 = .ok (.iload_n 3, 1) := by decide +kernel
theorem dX0_putAt_57 : decode cX0_putAt 57 = .ok (.iastore, 1) := by decide +kernel
theorem dX0_putAt_58 : decode cX0_putAt 58 = .ok (.aload_n 0, 1) := by decide +kernel
theorem dX0_putAt_59 : decode cX0_putAt 59 = .ok (.getfield 16, 3) := by decide +kernel
theorem dX0_putAt_62 : decode cX0_putAt 62 = .ok (.iload 6, 2) := by decide +kernel
theorem dX0_putAt_64 : decode cX0_putAt 64 = .ok (.iload 4, 2) := by decide +kernel
theorem dX0_putAt_66 : decode cX0_putAt 66 = .ok (.iastore, 1) := by decide +kernel
theorem dX0_putAt_67 : decode cX0_putAt 67 = .ok (.iinc 5 1, 3) := by decide +kernel
theorem dX0_putAt_70 : decode cX0_putAt 70 = .ok (.goto (-46), 3) := by decide +kernel
theorem dX0_putAt_73 : decode cX0_putAt 73 = .ok (.aload_n 0, 1) := by decide +kernel
theorem dX0_putAt_74 : decode cX0_putAt 74 = .ok (.dup, 1) := by decide +kernel
theorem dX0_putAt_75 : decode cX0_putAt 75 = .ok (.getfield 19, 3) := by decide +kernel
theorem dX0_putAt_78 : decode cX0_putAt 78 = .ok (.iload_n 2, 1) := by decide +kernel
theorem dX0_putAt_79 : decode cX0_putAt 79 = .ok (.iadd, 1) := by decide +kernel
theorem dX0_putAt_80 : decode cX0_putAt 80 = .ok (.putfield 19, 3) := by decide +kernel
theorem dX0_putAt_83 : decode cX0_putAt 83 = .ok (.return_, 1) := by decide +kernel
theorem dX1_init_0 : decode cX1_init 0 = .ok (.aload_n 0, 1) := by decide +kernel
theorem dX1_init_1 : decode cX1_init 1 = .ok (.invokespecial 1, 3) := by decide +kernel
theorem dX1_init_4 : decode cX1_init 4 = .ok (.aload_n 0, 1) := by decide +kernel
theorem dX1_init_5 : decode cX1_init 5 = .ok (.sipush 4000, 3) := by decide +kernel
theorem dX1_init_8 : decode cX1_init 8 = .ok (.newarray .int, 2) := by decide +kernel
theorem dX1_init_10 : decode cX1_init 10 = .ok (.putfield 9, 3) := by decide +kernel
theorem dX1_init_13 : decode cX1_init 13 = .ok (.aload_n 0, 1) := by decide +kernel
theorem dX1_init_14 : decode cX1_init 14 = .ok (.sipush 4000, 3) := by decide +kernel
theorem dX1_init_17 : decode cX1_init 17 = .ok (.newarray .int, 2) := by decide +kernel
theorem dX1_init_19 : decode cX1_init 19 = .ok (.putfield 13, 3) := by decide +kernel
theorem dX1_init_22 : decode cX1_init 22 = .ok (.aload_n 0, 1) := by decide +kernel
theorem dX1_init_23 : decode cX1_init 23 = .ok (.sipush 4000, 3) := by decide +kernel
theorem dX1_init_26 : decode cX1_init 26 = .ok (.newarray .int, 2) := by decide +kernel
theorem dX1_init_28 : decode cX1_init 28 = .ok (.putfield 16, 3) := by decide +kernel
theorem dX1_init_31 : decode cX1_init 31 = .ok (.return_, 1) := by decide +kernel
set_option maxRecDepth 20000 in
theorem ggL_behind_X0_behind : GoodIn wsL_behind wsX0_behind := goodIn_ca (goodIn_ca (goodIn_ca (goodIn_r _ [8, 9, 10, 11, 12, 13, 7, 14, 15, 16, 17, 18, 19, 20, 21, 22, 23, 24, 25, 26, 27, 28, 29, 30, 31, 32, 33, 34, 35, 36, 37, 38, 39, 40, 41, 42, 43, 44, 45, 46, 47, 48, 49, 50, 51, 52, 53] (by decide +kernel) (by decide +kernel)) (goodIn_sub (fun _ h => List.mem_cons_of_mem _ (List.mem_append_left _ (List.mem_append_left _ (List.mem_append_right _ h)))) (by decide +kernel))) (goodIn_sub (fun _ h => List.mem_cons_of_mem _ (List.mem_append_left _ (List.mem_append_right _ h))) (by decide +kernel))) (goodIn_sub (fun _ h => List.mem_cons_of_mem _ (List.mem_append_right _ h)) (by decide +kernel))
set_option maxRecDepth 20000 in
theorem gL_behind_X0_behind : GoodIn wsL_behind (wsV RL 7 RX0 yX0_behind wsX0_behind) := goodIn_app (goodIn_of _ (by decide +kernel)) ggL_behind_X0_behind
theorem dL_behind_0 : decode cL_behind 0 = .ok (.aload 5, 2) := by decide +kernel
theorem dL_behind_2 : decode cL_behind 2 = .ok (.iconst 0, 1) := by decide +kernel
theorem dL_behind_3 : decode cL_behind 3 = .ok (.aload_n 0, 1) := by decide +kernel
theorem dL_behind_4 : decode cL_behind 4 = .ok (.iload_n 1, 1) := by decide +kernel
theorem dL_behind_5 : decode cL_behind 5 = .ok (.iload_n 2, 1) := by decide +kernel
theorem dL_behind_6 : decode cL_behind 6 = .ok (.iload_n 3, 1) := by decide +kernel
theorem dL_behind_7 : decode cL_behind 7 = .ok (.iload 4, 2) := by decide +kernel
theorem dL_behind_9 : decode cL_behind 9 = .ok (.invokevirtual 7, 3) := by decide +kernel
theorem dL_behind_12 : decode cL_behind 12 = .ok (.i2l, 1) := by decide +kernel
theorem dL_behind_13 : decode cL_behind 13 = .ok (.lastore, 1) := by decide +kernel
theorem dL_behind_14 : decode cL_behind 14 = .ok (.goto 15, 3) := by decide +kernel
theorem dL_behind_17 : decode cL_behind 17 = .ok (.astore 6, 2) := by decide +kernel
theorem dL_behind_19 : decode cL_behind 19 = .ok (.iconst 1, 1) := by decide +kernel
theorem dL_behind_20 : decode cL_behind 20 = .ok (.ireturn, 1) := by decide +kernel
theorem dL_behind_21 : decode cL_behind 21 = .ok (.astore 6, 2) := by decide +kernel
theorem dL_behind_23 : decode cL_behind 23 = .ok (.iconst 2, 1) := by decide +kernel
theorem dL_behind_24 : decode cL_behind 24 = .ok (.ireturn, 1) := by decide +kernel
theorem dL_behind_25 : decode cL_behind 25 = .ok (.astore 6, 2) := by decide +kernel
theorem dL_behind_27 : decode cL_behind 27 = .ok (.iconst 3, 1) := by decide +kernel
theorem dL_behind_28 : decode cL_behind 28 = .ok (.ireturn, 1) := by decide +kernel
theorem dL_behind_29 : decode cL_behind 29 = .ok (.iconst 0, 1) := by decide +kernel
theorem dL_behind_30 : decode cL_behind 30 = .ok (.ireturn, 1) := by decide +kernel
set_option maxRecDepth 20000 in
theorem ggL_before_X0_before : GoodIn wsL_before wsX0_before := goodIn_ca (goodIn_ca (goodIn_ca (goodIn_r _ [8, 9, 10, 11, 7, 12, 13, 14, 15, 16, 17, 18, 19, 20, 21, 22, 23, 24, 25, 26, 27, 28, 29, 30, 31, 32, 33, 34, 35, 36, 37, 38, 39, 40, 41, 42, 43, 44, 45] (by decide +kernel) (by decide +kernel)) (goodIn_sub (fun _ h => List.mem_cons_of_mem _ (List.mem_append_left _ (List.mem_append_left _ (List.mem_append_right _ h)))) (by decide +kernel))) (goodIn_sub (fun _ h => List.mem_cons_of_mem _ (List.mem_append_left _ (List.mem_append_right _ h))) (by decide +kernel))) (goodIn_sub (fun _ h => List.mem_cons_of_mem _ (List.mem_append_right _ h)) (by decide +kernel))
set_option maxRecDepth 20000 in
theorem gL_before_X0_before : GoodIn wsL_before (wsV RL 19 RX0 yX0_before wsX0_before) := goodIn_app (goodIn_of _ (by decide +kernel)) ggL_before_X0_before
theorem dL_before_0 : decode cL_before 0 = .ok (.aload 4, 2) := by decide +kernel
theorem dL_before_2 : decode cL_before 2 = .ok (.iconst 0, 1) := by decide +kernel
theorem dL_before_3 : decode cL_before 3 = .ok (.aload_n 0, 1) := by decide +kernel
theorem dL_before_4 : decode cL_before 4 = .ok (.iload_n 1, 1) := by decide +kernel
theorem dL_before_5 : decode cL_before 5 = .ok (.iload_n 2, 1) := by decide +kernel
theorem dL_before_6 : decode cL_before 6 = .ok (.iload_n 3, 1) := by decide +kernel
theorem dL_before_7 : decode cL_before 7 = .ok (.invokevirtual 19, 3) := by decide +kernel
theorem dL_before_10 : decode cL_before 10 = .ok (.i2l, 1) := by decide +kernel
theorem dL_before_11 : decode cL_before 11 = .ok (.lastore, 1) := by decide +kernel
theorem dL_before_12 : decode cL_before 12 = .ok (.goto 15, 3) := by decide +kernel
theorem dL_before_15 : decode cL_before 15 = .ok (.astore 5, 2) := by decide +kernel
theorem dL_before_17 : decode cL_before 17 = .ok (.iconst 1, 1) := by decide +kernel
theorem dL_before_18 : decode cL_before 18 = .ok (.ireturn, 1) := by decide +kernel
theorem dL_before_19 : decode cL_before 19 = .ok (.astore 5, 2) := by decide +kernel
theorem dL_before_21 : decode cL_before 21 = .ok (.iconst 2, 1) := by decide +kernel
theorem dL_before_22 : decode cL_before 22 = .ok (.ireturn, 1) := by decide +kernel
theorem dL_before_23 : decode cL_before 23 = .ok (.astore 5, 2) := by decide +kernel
theorem dL_before_25 : decode cL_before 25 = .ok (.iconst 3, 1) := by decide +kernel
theorem dL_before_26 : decode cL_before 26 = .ok (.ireturn, 1) := by decide +kernel
theorem dL_before_27 : decode cL_before 27 = .ok (.iconst 0, 1) := by decide +kernel
theorem dL_before_28 : decode cL_before 28 = .ok (.ireturn, 1) := by decide +kernel
set_option maxRecDepth 20000 in
theorem ggL_weigh_X0_weigh : GoodIn wsL_weigh wsX0_weigh := goodIn_ca (goodIn_ca (goodIn_r _ [7, 8, 9, 10, 11, 6, 12, 13, 14, 15, 16, 17, 18, 19, 20, 21, 22, 23, 24, 25] (by decide +kernel) (by decide +kernel)) (goodIn_sub (fun _ h => List.mem_cons_of_mem _ (List.mem_append_left _ (List.mem_append_right _ h))) (by decide +kernel))) (goodIn_sub (fun _ h => List.mem_cons_of_mem _ (List.mem_append_right _ h)) (by decide +kernel))
set_option maxRecDepth 20000 in
theorem gL_weigh_X0_weigh : GoodIn wsL_weigh (wsV RL 23 RX0 yX0_weigh wsX0_weigh) := goodIn_app (goodIn_of _ (by decide +kernel)) ggL_weigh_X0_weigh
theorem dL_weigh_0 : decode cL_weigh 0 = .ok (.aload 4, 2) := by decide +kernel
theorem dL_weigh_2 : decode cL_weigh 2 = .ok (.iconst 0, 1) := by decide +kernel
theorem dL_weigh_3 : decode cL_weigh 3 = .ok (.aload_n 0, 1) := by decide +kernel
theorem dL_weigh_4 : decode cL_weigh 4 = .ok (.iload_n 1, 1) := by decide +kernel
theorem dL_weigh_5 : decode cL_weigh 5 = .ok (.iload_n 2, 1) := by decide +kernel
theorem dL_weigh_6 : decode cL_weigh 6 = .ok (.iload_n 3, 1) := by decide +kernel
theorem dL_weigh_7 : decode cL_weigh 7 = .ok (.invokevirtual 23, 3) := by decide +kernel
theorem dL_weigh_10 : decode cL_weigh 10 = .ok (.i2l, 1) := by decide +kernel
theorem dL_weigh_11 : decode cL_weigh 11 = .ok (.lastore, 1) := by decide +kernel
theorem dL_weigh_12 : decode cL_weigh 12 = .ok (.goto 11, 3) := by decide +kernel
theorem dL_weigh_15 : decode cL_weigh 15 = .ok (.astore 5, 2) := by decide +kernel
theorem dL_weigh_17 : decode cL_weigh 17 = .ok (.iconst 1, 1) := by decide +kernel
theorem dL_weigh_18 : decode cL_weigh 18 = .ok (.ireturn, 1) := by decide +kernel
theorem dL_weigh_19 : decode cL_weigh 19 = .ok (.astore 5, 2) := by decide +kernel
theorem dL_weigh_21 : decode cL_weigh 21 = .ok (.iconst 2, 1) := by decide +kernel
theorem dL_weigh_22 : decode cL_weigh 22 = .ok (.ireturn, 1) := by decide +kernel
theorem dL_weigh_23 : decode cL_weigh 23 = .ok (.iconst 0, 1) := by decide +kernel
theorem dL_weigh_24 : decode cL_weigh 24 = .ok (.ireturn, 1) := by decide +kernel
set_option maxRecDepth 20000 in
theorem ggL_find_X0_find : GoodIn wsL_find wsX0_find := goodIn_ca (goodIn_r _ [6, 7, 8, 9, 10, 11, 12, 13, 14, 15] (by decide +kernel) (by decide +kernel)) (goodIn_sub (fun _ h => List.mem_cons_of_mem _ (List.mem_append_right _ h)) (by decide +kernel))
set_option maxRecDepth 20000 in
theorem gL_find_X0_find : GoodIn wsL_find (wsV RL 26 RX0 yX0_find wsX0_find) := goodIn_app (goodIn_of _ (by decide +kernel)) ggL_find_X0_find
theorem dL_find_0 : decode cL_find 0 = .ok (.aload_n 2, 1) := by decide +kernel
theorem dL_find_1 : decode cL_find 1 = .ok (.iconst 0, 1) := by decide +kernel
theorem dL_find_2 : decode cL_find 2 = .ok (.aload_n 0, 1) := by decide +kernel
theorem dL_find_3 : decode cL_find 3 = .ok (.iload_n 1, 1) := by decide +kernel
theorem dL_find_4 : decode cL_find 4 = .ok (.invokevirtual 26, 3) := by decide +kernel
theorem dL_find_7 : decode cL_find 7 = .ok (.i2l, 1) := by decide +kernel
theorem dL_find_8 : decode cL_find 8 = .ok (.lastore, 1) := by decide +kernel
theorem dL_find_9 : decode cL_find 9 = .ok (.goto 6, 3) := by decide +kernel
theorem dL_find_12 : decode cL_find 12 = .ok (.astore_n 3, 1) := by decide +kernel
theorem dL_find_13 : decode cL_find 13 = .ok (.iconst 1, 1) := by decide +kernel
theorem dL_find_14 : decode cL_find 14 = .ok (.ireturn, 1) := by decide +kernel
theorem dL_find_15 : decode cL_find 15 = .ok (.iconst 0, 1) := by decide +kernel
theorem dL_find_16 : decode cL_find 16 = .ok (.ireturn, 1) := by decide +kernel
set_option maxRecDepth 20000 in
theorem ggL_sum_X0_sum : GoodIn wsL_sum wsX0_sum := goodIn_ca (goodIn_ca (goodIn_r _ [7, 8, 9, 10, 11, 12, 13, 14, 15, 6, 16, 17, 18, 19, 20, 21, 22, 23, 24, 25, 26, 27, 28, 29, 30, 31, 32, 33, 34, 35] (by decide +kernel) (by decide +kernel)) (goodIn_sub (fun _ h => List.mem_cons_of_mem _ (List.mem_append_left _ (List.mem_append_right _ h))) (by decide +kernel))) (goodIn_sub (fun _ h => List.mem_cons_of_mem _ (List.mem_append_right _ h)) (by decide +kernel))
set_option maxRecDepth 20000 in
theorem gL_sum_X0_sum : GoodIn wsL_sum (wsV RL 30 RX0 yX0_sum wsX0_sum) := goodIn_app (goodIn_of _ (by decide +kernel)) ggL_sum_X0_sum
theorem dL_sum_0 : decode cL_sum 0 = .ok (.aload_n 3, 1) := by decide +kernel
theorem dL_sum_1 : decode cL_sum 1 = .ok (.iconst 0, 1) := by decide +kernel
theorem dL_sum_2 : decode cL_sum 2 = .ok (.aload_n 0, 1) := by decide +kernel
theorem dL_sum_3 : decode cL_sum 3 = .ok (.iload_n 1, 1) := by decide +kernel
theorem dL_sum_4 : decode cL_sum 4 = .ok (.iload_n 2, 1) := by decide +kernel
theorem dL_sum_5 : decode cL_sum 5 = .ok (.invokevirtual 30, 3) := by decide +kernel
theorem dL_sum_8 : decode cL_sum 8 = .ok (.i2l, 1) := by decide +kernel
theorem dL_sum_9 : decode cL_sum 9 = .ok (.lastore, 1) := by decide +kernel
theorem dL_sum_10 : decode cL_sum 10 = .ok (.goto 11, 3) := by decide +kernel
theorem dL_sum_13 : decode cL_sum 13 = .ok (.astore 4, 2) := by decide +kernel
theorem dL_sum_15 : decode cL_sum 15 = .ok (.iconst 1, 1) := by decide +kernel
theorem dL_sum_16 : decode cL_sum 16 = .ok (.ireturn, 1) := by decide +kernel
theorem dL_sum_17 : decode cL_sum 17 = .ok (.astore 4, 2) := by decide +kernel
theorem dL_sum_19 : decode cL_sum 19 = .ok (.iconst 2, 1) := by decide +kernel
theorem dL_sum_20 : decode cL_sum 20 = .ok (.ireturn, 1) := by decide +kernel
theorem dL_sum_21 : decode cL_sum 21 = .ok (.iconst 0, 1) := by decide +kernel
theorem dL_sum_22 : decode cL_sum 22 = .ok (.ireturn, 1) := by decide +kernel
set_option maxRecDepth 20000 in
theorem ggL_next_X0_next : GoodIn wsL_next wsX0_next := goodIn_ca (goodIn_r _ [6, 7, 8, 9, 10, 11, 12, 13, 5, 14, 15, 16, 17, 18, 19, 20, 21, 22, 23, 24, 25, 26, 27, 28, 29, 30] (by decide +kernel) (by decide +kernel)) (goodIn_sub (fun _ h => List.mem_cons_of_mem _ (List.mem_append_right _ h)) (by decide +kernel))
set_option maxRecDepth 20000 in
theorem gL_next_X0_next : GoodIn wsL_next (wsV RL 34 RX0 yX0_next wsX0_next) := goodIn_app (goodIn_of _ (by decide +kernel)) ggL_next_X0_next
theorem dL_next_0 : decode cL_next 0 = .ok (.aload_n 2, 1) := by decide +kernel
theorem dL_next_1 : decode cL_next 1 = .ok (.iconst 0, 1) := by decide +kernel
theorem dL_next_2 : decode cL_next 2 = .ok (.aload_n 0, 1) := by decide +kernel
theorem dL_next_3 : decode cL_next 3 = .ok (.iload_n 1, 1) := by decide +kernel
theorem dL_next_4 : decode cL_next 4 = .ok (.invokevirtual 34, 3) := by decide +kernel
theorem dL_next_7 : decode cL_next 7 = .ok (.i2l, 1) := by decide +kernel
theorem dL_next_8 : decode cL_next 8 = .ok (.lastore, 1) := by decide +kernel
theorem dL_next_9 : decode cL_next 9 = .ok (.goto 6, 3) := by decide +kernel
theorem dL_next_12 : decode cL_next 12 = .ok (.astore_n 3, 1) := by decide +kernel
theorem dL_next_13 : decode cL_next 13 = .ok (.iconst 1, 1) := by decide +kernel
theorem dL_next_14 : decode cL_next 14 = .ok (.ireturn, 1) := by decide +kernel
theorem dL_next_15 : decode cL_next 15 = .ok (.iconst 0, 1) := by decide +kernel
theorem dL_next_16 : decode cL_next 16 = .ok (.ireturn, 1) := by decide +kernel
set_option maxRecDepth 20000 in
theorem ggL_place_X0_place : GoodIn wsL_place wsX0_place := goodIn_ca (goodIn_r _ [6, 7, 8, 9, 5, 10, 11, 12, 13, 14, 15, 16, 17, 18, 19, 20, 21, 22] (by decide +kernel) (by decide +kernel)) (goodIn_sub (fun _ h => List.mem_cons_of_mem _ (List.mem_append_right _ h)) (by decide +kernel))
set_option maxRecDepth 20000 in
theorem gL_place_X0_place : GoodIn wsL_place (wsV RL 37 RX0 yX0_place wsX0_place) := goodIn_app (goodIn_of _ (by decide +kernel)) ggL_place_X0_place
theorem dL_place_0 : decode cL_place 0 = .ok (.aload_n 2, 1) := by decide +kernel
theorem dL_place_1 : decode cL_place 1 = .ok (.iconst 0, 1) := by decide +kernel
theorem dL_place_2 : decode cL_place 2 = .ok (.aload_n 0, 1) := by decide +kernel
theorem dL_place_3 : decode cL_place 3 = .ok (.iload_n 1, 1) := by decide +kernel
theorem dL_place_4 : decode cL_place 4 = .ok (.invokevirtual 37, 3) := by decide +kernel
theorem dL_place_7 : decode cL_place 7 = .ok (.i2l, 1) := by decide +kernel
theorem dL_place_8 : decode cL_place 8 = .ok (.lastore, 1) := by decide +kernel
theorem dL_place_9 : decode cL_place 9 = .ok (.goto 6, 3) := by decide +kernel
theorem dL_place_12 : decode cL_place 12 = .ok (.astore_n 3, 1) := by decide +kernel
theorem dL_place_13 : decode cL_place 13 = .ok (.iconst 1, 1) := by decide +kernel
theorem dL_place_14 : decode cL_place 14 = .ok (.ireturn, 1) := by decide +kernel
theorem dL_place_15 : decode cL_place 15 = .ok (.iconst 0, 1) := by decide +kernel
theorem dL_place_16 : decode cL_place 16 = .ok (.ireturn, 1) := by decide +kernel
set_option maxRecDepth 20000 in
theorem ggL_law_X0_init : GoodIn wsL_law wsX0_init := goodIn_r _ [8, 9, 10, 11, 12, 13, 14, 15, 16, 122, 123, 124, 125] (by decide +kernel) (by decide +kernel)
set_option maxRecDepth 20000 in
theorem gL_law_X0_init : GoodIn wsL_law (wsX0_init) := ggL_law_X0_init
set_option maxRecDepth 20000 in
theorem ggL_law_X1_init : GoodIn wsL_law wsX1_init := goodIn_r _ [19, 20, 10, 11, 12, 21, 22, 23, 126] (by decide +kernel) (by decide +kernel)
set_option maxRecDepth 20000 in
theorem gL_law_X1_init : GoodIn wsL_law (wsX1_init) := ggL_law_X1_init
set_option maxRecDepth 20000 in
theorem ggL_law_L_behind : GoodIn wsL_law wsL_behind := goodIn_ca (goodIn_ca (goodIn_ca (goodIn_r _ [27, 28, 29, 30, 31, 32, 33, 2, 34, 35, 36, 16, 37, 38, 39, 40, 41, 42, 43, 44, 45, 46, 47, 48, 49, 50, 51, 52, 53, 54, 55, 56, 57, 58, 59, 60, 61, 62, 63, 13, 64, 65, 66, 67, 68, 69, 70, 71, 14, 15, 122, 123, 124, 125] (by decide +kernel) (by decide +kernel)) (goodIn_sub (fun _ h => List.mem_append_left _ (List.mem_append_left _ (List.mem_append_right _ h))) (by decide +kernel))) (goodIn_sub (fun _ h => List.mem_append_left _ (List.mem_append_right _ h)) (by decide +kernel))) (goodIn_sub (fun _ h => List.mem_append_right _ h) (by decide +kernel))
set_option maxRecDepth 20000 in
theorem gL_law_L_behind : GoodIn wsL_law (va_wsS RL 44 yL_behind wsL_behind) := goodIn_app (goodIn_of _ (by decide +kernel)) ggL_law_L_behind
set_option maxRecDepth 20000 in
theorem ggL_law_L_before : GoodIn wsL_law wsL_before := goodIn_ca (goodIn_ca (goodIn_ca (goodIn_r _ [74, 28, 29, 30, 75, 76, 77, 2, 78, 16, 37, 38, 39, 35, 36, 44, 45, 46, 47, 48, 49, 50, 51, 52, 53, 54, 55, 60, 61, 62, 63, 13, 64, 65, 66, 67, 68, 69, 70, 71, 14, 15, 122, 123, 124, 125] (by decide +kernel) (by decide +kernel)) (goodIn_sub (fun _ h => List.mem_append_left _ (List.mem_append_left _ (List.mem_append_right _ h))) (by decide +kernel))) (goodIn_sub (fun _ h => List.mem_append_left _ (List.mem_append_right _ h)) (by decide +kernel))) (goodIn_sub (fun _ h => List.mem_append_right _ h) (by decide +kernel))
set_option maxRecDepth 20000 in
theorem gL_law_L_before : GoodIn wsL_law (va_wsS RL 54 yL_before wsL_before) := goodIn_app (goodIn_of _ (by decide +kernel)) ggL_law_L_before
set_option maxRecDepth 20000 in
theorem ggL_law_L_weigh : GoodIn wsL_law wsL_weigh := goodIn_ca (goodIn_ca (goodIn_r _ [81, 28, 29, 82, 83, 84, 2, 85, 14, 15, 37, 38, 39, 35, 36, 44, 45, 46, 47, 48, 49, 16, 122, 123, 124, 125] (by decide +kernel) (by decide +kernel)) (goodIn_sub (fun _ h => List.mem_append_left _ (List.mem_append_left _ (List.mem_append_right _ h))) (by decide +kernel))) (goodIn_sub (fun _ h => List.mem_append_left _ (List.mem_append_right _ h)) (by decide +kernel))
set_option maxRecDepth 20000 in
theorem gL_law_L_weigh : GoodIn wsL_law (va_wsS RL 58 yL_weigh wsL_weigh) := goodIn_app (goodIn_of _ (by decide +kernel)) ggL_law_L_weigh
set_option maxRecDepth 20000 in
theorem ggL_law_L_find : GoodIn wsL_law wsL_find := goodIn_ca (goodIn_r _ [88, 29, 89, 90, 91, 2, 92, 48, 49, 16, 14, 13, 122, 123, 124, 125] (by decide +kernel) (by decide +kernel)) (goodIn_sub (fun _ h => List.mem_append_left _ (List.mem_append_right _ h)) (by decide +kernel))
set_option maxRecDepth 20000 in
theorem gL_law_L_find : GoodIn wsL_law (va_wsS RL 61 yL_find wsL_find) := goodIn_app (goodIn_of _ (by decide +kernel)) ggL_law_L_find
set_option maxRecDepth 20000 in
theorem ggL_law_L_sum : GoodIn wsL_law wsL_sum := goodIn_ca (goodIn_ca (goodIn_r _ [95, 28, 29, 96, 97, 98, 2, 99, 35, 36, 16, 14, 15, 40, 41, 42, 43, 44, 45, 46, 47, 48, 49, 60, 61, 62, 63, 13, 100, 101, 102, 103, 122, 123, 124, 125] (by decide +kernel) (by decide +kernel)) (goodIn_sub (fun _ h => List.mem_append_left _ (List.mem_append_left _ (List.mem_append_right _ h))) (by decide +kernel))) (goodIn_sub (fun _ h => List.mem_append_left _ (List.mem_append_right _ h)) (by decide +kernel))
set_option maxRecDepth 20000 in
theorem gL_law_L_sum : GoodIn wsL_law (va_wsS RL 65 yL_sum wsL_sum) := goodIn_app (goodIn_of _ (by decide +kernel)) ggL_law_L_sum
set_option maxRecDepth 20000 in
theorem ggL_law_L_next : GoodIn wsL_law wsL_next := goodIn_ca (goodIn_r _ [106, 29, 107, 108, 109, 2, 110, 48, 49, 16, 13, 40, 41, 42, 43, 44, 45, 46, 47, 56, 57, 58, 59, 60, 61, 62, 63, 122, 123, 124, 125] (by decide +kernel) (by decide +kernel)) (goodIn_sub (fun _ h => List.mem_append_left _ (List.mem_append_right _ h)) (by decide +kernel))
set_option maxRecDepth 20000 in
theorem gL_law_L_next : GoodIn wsL_law (va_wsS RL 69 yL_next wsL_next) := goodIn_app (goodIn_of _ (by decide +kernel)) ggL_law_L_next
set_option maxRecDepth 20000 in
theorem ggL_law_L_place : GoodIn wsL_law wsL_place := goodIn_ca (goodIn_r _ [113, 29, 114, 115, 116, 2, 117, 44, 45, 46, 47, 48, 49, 16, 60, 61, 62, 63, 13, 122, 123, 124, 125] (by decide +kernel) (by decide +kernel)) (goodIn_sub (fun _ h => List.mem_append_left _ (List.mem_append_right _ h)) (by decide +kernel))
set_option maxRecDepth 20000 in
theorem gL_law_L_place : GoodIn wsL_law (va_wsS RL 72 yL_place wsL_place) := goodIn_app (goodIn_of _ (by decide +kernel)) ggL_law_L_place
set_option maxRecDepth 20000 in
theorem ggL_law_X0_entries : GoodIn wsL_law wsX0_entries := goodIn_r _ [121, 16, 122, 123, 124, 125] (by decide +kernel) (by decide +kernel)
set_option maxRecDepth 20000 in
theorem gL_law_X0_entries : GoodIn wsL_law (wsV RL 75 RX0 yX0_entries wsX0_entries) := goodIn_app (goodIn_of _ (by decide +kernel)) ggL_law_X0_entries
theorem dL_law_0 : decode cL_law 0 = .ok (.new 8, 3) := by decide +kernel
theorem dL_law_3 : decode cL_law 3 = .ok (.dup, 1) := by decide +kernel
theorem dL_law_4 : decode cL_law 4 = .ok (.invokespecial 40, 3) := by decide +kernel
theorem dL_law_7 : decode cL_law 7 = .ok (.astore_n 1, 1) := by decide +kernel
theorem dL_law_8 : decode cL_law 8 = .ok (.new 41, 3) := by decide +kernel
theorem dL_law_11 : decode cL_law 11 = .ok (.dup, 1) := by decide +kernel
theorem dL_law_12 : decode cL_law 12 = .ok (.invokespecial 43, 3) := by decide +kernel
theorem dL_law_15 : decode cL_law 15 = .ok (.astore_n 2, 1) := by decide +kernel
theorem dL_law_16 : decode cL_law 16 = .ok (.iconst 1, 1) := by decide +kernel
theorem dL_law_17 : decode cL_law 17 = .ok (.newarray .long, 2) := by decide +kernel
theorem dL_law_19 : decode cL_law 19 = .ok (.astore_n 3, 1) := by decide +kernel
theorem dL_law_20 : decode cL_law 20 = .ok (.iconst 0, 1) := by decide +kernel
theorem dL_law_21 : decode cL_law 21 = .ok (.istore 4, 2) := by decide +kernel
theorem dL_law_23 : decode cL_law 23 = .ok (.iload 4, 2) := by decide +kernel
theorem dL_law_25 : decode cL_law 25 = .ok (.aload_n 0, 1) := by decide +kernel
theorem dL_law_26 : decode cL_law 26 = .ok (.arraylength, 1) := by decide +kernel
theorem dL_law_27 : decode cL_law 27 = .ok (.iconst 5, 1) := by decide +kernel
theorem dL_law_28 : decode cL_law 28 = .ok (.isub, 1) := by decide +kernel
theorem dL_law_29 : decode cL_law 29 = .ok (.if_icmp .gt 562, 3) := by decide +kernel
theorem dL_law_32 : decode cL_law 32 = .ok (.aload_n 0, 1) := by decide +kernel
theorem dL_law_33 : decode cL_law 33 = .ok (.iload 4, 2) := by decide +kernel
theorem dL_law_35 : decode cL_law 35 = .ok (.iaload, 1) := by decide +kernel
theorem dL_law_36 : decode cL_law 36 = .ok (.bipush 7, 2) := by decide +kernel
theorem dL_law_38 : decode cL_law 38 = .ok (.iand, 1) := by decide +kernel
theorem dL_law_39 : decode cL_law 39 = .ok (.tableswitch 546 0 7 #[45, 137, 217, 297, 353, 421, 477, 533], 45) := by decide +kernel
theorem dL_law_84 : decode cL_law 84 = .ok (.aload_n 1, 1) := by decide +kernel
theorem dL_law_85 : decode cL_law 85 = .ok (.aload_n 0, 1) := by decide +kernel
theorem dL_law_86 : decode cL_law 86 = .ok (.iload 4, 2) := by decide +kernel
theorem dL_law_88 : decode cL_law 88 = .ok (.iconst 1, 1) := by decide +kernel
theorem dL_law_89 : decode cL_law 89 = .ok (.iadd, 1) := by decide +kernel
theorem dL_law_90 : decode cL_law 90 = .ok (.iaload, 1) := by decide +kernel
theorem dL_law_91 : decode cL_law 91 = .ok (.aload_n 0, 1) := by decide +kernel
theorem dL_law_92 : decode cL_law 92 = .ok (.iload 4, 2) := by decide +kernel
theorem dL_law_94 : decode cL_law 94 = .ok (.iconst 2, 1) := by decide +kernel
theorem dL_law_95 : decode cL_law 95 = .ok (.iadd, 1) := by decide +kernel
theorem dL_law_96 : decode cL_law 96 = .ok (.iaload, 1) := by decide +kernel
theorem dL_law_97 : decode cL_law 97 = .ok (.aload_n 0, 1) := by decide +kernel
theorem dL_law_98 : decode cL_law 98 = .ok (.iload 4, 2) := by decide +kernel
theorem dL_law_100 : decode cL_law 100 = .ok (.iconst 3, 1) := by decide +kernel
theorem dL_law_101 : decode cL_law 101 = .ok (.iadd, 1) := by decide +kernel
theorem dL_law_102 : decode cL_law 102 = .ok (.iaload, 1) := by decide +kernel
theorem dL_law_103 : decode cL_law 103 = .ok (.aload_n 0, 1) := by decide +kernel
theorem dL_law_104 : decode cL_law 104 = .ok (.iload 4, 2) := by decide +kernel
theorem dL_law_106 : decode cL_law 106 = .ok (.iconst 4, 1) := by decide +kernel
theorem dL_law_107 : decode cL_law 107 = .ok (.iadd, 1) := by decide +kernel
theorem dL_law_108 : decode cL_law 108 = .ok (.iaload, 1) := by decide +kernel
theorem dL_law_109 : decode cL_law 109 = .ok (.aload_n 3, 1) := by decide +kernel
theorem dL_law_110 : decode cL_law 110 = .ok (.invokestatic 44, 3) := by decide +kernel
theorem dL_law_113 : decode cL_law 113 = .ok (.istore 5, 2) := by decide +kernel
theorem dL_law_115 : decode cL_law 115 = .ok (.aload_n 2, 1) := by decide +kernel
theorem dL_law_116 : decode cL_law 116 = .ok (.aload_n 0, 1) := by decide +kernel
theorem dL_law_117 : decode cL_law 117 = .ok (.iload 4, 2) := by decide +kernel
theorem dL_law_119 : decode cL_law 119 = .ok (.iconst 1, 1) := by decide +kernel
theorem dL_law_120 : decode cL_law 120 = .ok (.iadd, 1) := by decide +kernel
theorem dL_law_121 : decode cL_law 121 = .ok (.iaload, 1) := by decide +kernel
theorem dL_law_122 : decode cL_law 122 = .ok (.aload_n 0, 1) := by decide +kernel
theorem dL_law_123 : decode cL_law 123 = .ok (.iload 4, 2) := by decide +kernel
theorem dL_law_125 : decode cL_law 125 = .ok (.iconst 2, 1) := by decide +kernel
theorem dL_law_126 : decode cL_law 126 = .ok (.iadd, 1) := by decide +kernel
theorem dL_law_127 : decode cL_law 127 = .ok (.iaload, 1) := by decide +kernel
theorem dL_law_128 : decode cL_law 128 = .ok (.aload_n 0, 1) := by decide +kernel
theorem dL_law_129 : decode cL_law 129 = .ok (.iload 4, 2) := by decide +kernel
theorem dL_law_131 : decode cL_law 131 = .ok (.iconst 3, 1) := by decide +kernel
theorem dL_law_132 : decode cL_law 132 = .ok (.iadd, 1) := by decide +kernel
theorem dL_law_133 : decode cL_law 133 = .ok (.iaload, 1) := by decide +kernel
theorem dL_law_134 : decode cL_law 134 = .ok (.aload_n 0, 1) := by decide +kernel
theorem dL_law_135 : decode cL_law 135 = .ok (.iload 4, 2) := by decide +kernel
theorem dL_law_137 : decode cL_law 137 = .ok (.iconst 4, 1) := by decide +kernel
theorem dL_law_138 : decode cL_law 138 = .ok (.iadd, 1) := by decide +kernel
theorem dL_law_139 : decode cL_law 139 = .ok (.iaload, 1) := by decide +kernel
theorem dL_law_140 : decode cL_law 140 = .ok (.invokevirtual 49, 3) := by decide +kernel
theorem dL_law_143 : decode cL_law 143 = .ok (.istore 6, 2) := by decide +kernel
theorem dL_law_145 : decode cL_law 145 = .ok (.aload_n 2, 1) := by decide +kernel
theorem dL_law_146 : decode cL_law 146 = .ok (.invokevirtual 50, 3) := by decide +kernel
theorem dL_law_149 : decode cL_law 149 = .ok (.iload 5, 2) := by decide +kernel
theorem dL_law_151 : decode cL_law 151 = .ok (.if_icmp .eq 5, 3) := by decide +kernel
theorem dL_law_154 : decode cL_law 154 = .ok (.iconst 0, 1) := by decide +kernel
theorem dL_law_155 : decode cL_law 155 = .ok (.ireturn, 1) := by decide +kernel
theorem dL_law_156 : decode cL_law 156 = .ok (.iload 5, 2) := by decide +kernel
theorem dL_law_158 : decode cL_law 158 = .ok (.ifCond .ne 15, 3) := by decide +kernel
theorem dL_law_161 : decode cL_law 161 = .ok (.aload_n 3, 1) := by decide +kernel
theorem dL_law_162 : decode cL_law 162 = .ok (.iconst 0, 1) := by decide +kernel
theorem dL_law_163 : decode cL_law 163 = .ok (.laload, 1) := by decide +kernel
theorem dL_law_164 : decode cL_law 164 = .ok (.iload 6, 2) := by decide +kernel
theorem dL_law_166 : decode cL_law 166 = .ok (.i2l, 1) := by decide +kernel
theorem dL_law_167 : decode cL_law 167 = .ok (.lcmp, 1) := by decide +kernel
theorem dL_law_168 : decode cL_law 168 = .ok (.ifCond .eq 5, 3) := by decide +kernel
theorem dL_law_171 : decode cL_law 171 = .ok (.iconst 0, 1) := by decide +kernel
theorem dL_law_172 : decode cL_law 172 = .ok (.ireturn, 1) := by decide +kernel
theorem dL_law_173 : decode cL_law 173 = .ok (.goto 412, 3) := by decide +kernel
theorem dL_law_176 : decode cL_law 176 = .ok (.aload_n 1, 1) := by decide +kernel
theorem dL_law_177 : decode cL_law 177 = .ok (.aload_n 0, 1) := by decide +kernel
theorem dL_law_178 : decode cL_law 178 = .ok (.iload 4, 2) := by decide +kernel
theorem dL_law_180 : decode cL_law 180 = .ok (.iconst 1, 1) := by decide +kernel
theorem dL_law_181 : decode cL_law 181 = .ok (.iadd, 1) := by decide +kernel
theorem dL_law_182 : decode cL_law 182 = .ok (.iaload, 1) := by decide +kernel
theorem dL_law_183 : decode cL_law 183 = .ok (.aload_n 0, 1) := by decide +kernel
theorem dL_law_184 : decode cL_law 184 = .ok (.iload 4, 2) := by decide +kernel
theorem dL_law_186 : decode cL_law 186 = .ok (.iconst 2, 1) := by decide +kernel
theorem dL_law_187 : decode cL_law 187 = .ok (.iadd, 1) := by decide +kernel
theorem dL_law_188 : decode cL_law 188 = .ok (.iaload, 1) := by decide +kernel
theorem dL_law_189 : decode cL_law 189 = .ok (.aload_n 0, 1) := by decide +kernel
theorem dL_law_190 : decode cL_law 190 = .ok (.iload 4, 2) := by decide +kernel
theorem dL_law_192 : decode cL_law 192 = .ok (.iconst 3, 1) := by decide +kernel
theorem dL_law_193 : decode cL_law 193 = .ok (.iadd, 1) := by decide +kernel
theorem dL_law_194 : decode cL_law 194 = .ok (.iaload, 1) := by decide +kernel
theorem dL_law_195 : decode cL_law 195 = .ok (.aload_n 3, 1) := by decide +kernel
theorem dL_law_196 : decode cL_law 196 = .ok (.invokestatic 54, 3) := by decide +kernel
theorem dL_law_199 : decode cL_law 199 = .ok (.istore 5, 2) := by decide +kernel
theorem dL_law_201 : decode cL_law 201 = .ok (.aload_n 2, 1) := by decide +kernel
theorem dL_law_202 : decode cL_law 202 = .ok (.aload_n 0, 1) := by decide +kernel
theorem dL_law_203 : decode cL_law 203 = .ok (.iload 4, 2) := by decide +kernel
theorem dL_law_205 : decode cL_law 205 = .ok (.iconst 1, 1) := by decide +kernel
theorem dL_law_206 : decode cL_law 206 = .ok (.iadd, 1) := by decide +kernel
theorem dL_law_207 : decode cL_law 207 = .ok (.iaload, 1) := by decide +kernel
theorem dL_law_208 : decode cL_law 208 = .ok (.aload_n 0, 1) := by decide +kernel
theorem dL_law_209 : decode cL_law 209 = .ok (.iload 4, 2) := by decide +kernel
theorem dL_law_211 : decode cL_law 211 = .ok (.iconst 2, 1) := by decide +kernel
theorem dL_law_212 : decode cL_law 212 = .ok (.iadd, 1) := by decide +kernel
theorem dL_law_213 : decode cL_law 213 = .ok (.iaload, 1) := by decide +kernel
theorem dL_law_214 : decode cL_law 214 = .ok (.aload_n 0, 1) := by decide +kernel
theorem dL_law_215 : decode cL_law 215 = .ok (.iload 4, 2) := by decide +kernel
theorem dL_law_217 : decode cL_law 217 = .ok (.iconst 3, 1) := by decide +kernel
theorem dL_law_218 : decode cL_law 218 = .ok (.iadd, 1) := by decide +kernel
theorem dL_law_219 : decode cL_law 219 = .ok (.iaload, 1) := by decide +kernel
theorem dL_law_220 : decode cL_law 220 = .ok (.invokevirtual 57, 3) := by decide +kernel
theorem dL_law_223 : decode cL_law 223 = .ok (.istore 6, 2) := by decide +kernel
theorem dL_law_225 : decode cL_law 225 = .ok (.aload_n 2, 1) := by decide +kernel
theorem dL_law_226 : decode cL_law 226 = .ok (.invokevirtual 50, 3) := by decide +kernel
theorem dL_law_229 : decode cL_law 229 = .ok (.iload 5, 2) := by decide +kernel
theorem dL_law_231 : decode cL_law 231 = .ok (.if_icmp .eq 5, 3) := by decide +kernel
theorem dL_law_234 : decode cL_law 234 = .ok (.iconst 0, 1) := by decide +kernel
theorem dL_law_235 : decode cL_law 235 = .ok (.ireturn, 1) := by decide +kernel
theorem dL_law_236 : decode cL_law 236 = .ok (.iload 5, 2) := by decide +kernel
theorem dL_law_238 : decode cL_law 238 = .ok (.ifCond .ne 15, 3) := by decide +kernel
theorem dL_law_241 : decode cL_law 241 = .ok (.aload_n 3, 1) := by decide +kernel
theorem dL_law_242 : decode cL_law 242 = .ok (.iconst 0, 1) := by decide +kernel
theorem dL_law_243 : decode cL_law 243 = .ok (.laload, 1) := by decide +kernel
theorem dL_law_244 : decode cL_law 244 = .ok (.iload 6, 2) := by decide +kernel
theorem dL_law_246 : decode cL_law 246 = .ok (.i2l, 1) := by decide +kernel
theorem dL_law_247 : decode cL_law 247 = .ok (.lcmp, 1) := by decide +kernel
theorem dL_law_248 : decode cL_law 248 = .ok (.ifCond .eq 5, 3) := by decide +kernel
theorem dL_law_251 : decode cL_law 251 = .ok (.iconst 0, 1) := by decide +kernel
theorem dL_law_252 : decode cL_law 252 = .ok (.ireturn, 1) := by decide +kernel
theorem dL_law_253 : decode cL_law 253 = .ok (.goto 332, 3) := by decide +kernel
theorem dL_law_256 : decode cL_law 256 = .ok (.aload_n 1, 1) := by decide +kernel
theorem dL_law_257 : decode cL_law 257 = .ok (.aload_n 0, 1) := by decide +kernel
theorem dL_law_258 : decode cL_law 258 = .ok (.iload 4, 2) := by decide +kernel
theorem dL_law_260 : decode cL_law 260 = .ok (.iconst 1, 1) := by decide +kernel
theorem dL_law_261 : decode cL_law 261 = .ok (.iadd, 1) := by decide +kernel
theorem dL_law_262 : decode cL_law 262 = .ok (.iaload, 1) := by decide +kernel
theorem dL_law_263 : decode cL_law 263 = .ok (.aload_n 0, 1) := by decide +kernel
theorem dL_law_264 : decode cL_law 264 = .ok (.iload 4, 2) := by decide +kernel
theorem dL_law_266 : decode cL_law 266 = .ok (.iconst 2, 1) := by decide +kernel
theorem dL_law_267 : decode cL_law 267 = .ok (.iadd, 1) := by decide +kernel
theorem dL_law_268 : decode cL_law 268 = .ok (.iaload, 1) := by decide +kernel
theorem dL_law_269 : decode cL_law 269 = .ok (.aload_n 0, 1) := by decide +kernel
theorem dL_law_270 : decode cL_law 270 = .ok (.iload 4, 2) := by decide +kernel
theorem dL_law_272 : decode cL_law 272 = .ok (.iconst 3, 1) := by decide +kernel
theorem dL_law_273 : decode cL_law 273 = .ok (.iadd, 1) := by decide +kernel
theorem dL_law_274 : decode cL_law 274 = .ok (.iaload, 1) := by decide +kernel
theorem dL_law_275 : decode cL_law 275 = .ok (.aload_n 3, 1) := by decide +kernel
theorem dL_law_276 : decode cL_law 276 = .ok (.invokestatic 58, 3) := by decide +kernel
theorem dL_law_279 : decode cL_law 279 = .ok (.istore 5, 2) := by decide +kernel
theorem dL_law_281 : decode cL_law 281 = .ok (.aload_n 2, 1) := by decide +kernel
theorem dL_law_282 : decode cL_law 282 = .ok (.aload_n 0, 1) := by decide +kernel
theorem dL_law_283 : decode cL_law 283 = .ok (.iload 4, 2) := by decide +kernel
theorem dL_law_285 : decode cL_law 285 = .ok (.iconst 1, 1) := by decide +kernel
theorem dL_law_286 : decode cL_law 286 = .ok (.iadd, 1) := by decide +kernel
theorem dL_law_287 : decode cL_law 287 = .ok (.iaload, 1) := by decide +kernel
theorem dL_law_288 : decode cL_law 288 = .ok (.aload_n 0, 1) := by decide +kernel
theorem dL_law_289 : decode cL_law 289 = .ok (.iload 4, 2) := by decide +kernel
theorem dL_law_291 : decode cL_law 291 = .ok (.iconst 2, 1) := by decide +kernel
theorem dL_law_292 : decode cL_law 292 = .ok (.iadd, 1) := by decide +kernel
theorem dL_law_293 : decode cL_law 293 = .ok (.iaload, 1) := by decide +kernel
theorem dL_law_294 : decode cL_law 294 = .ok (.aload_n 0, 1) := by decide +kernel
theorem dL_law_295 : decode cL_law 295 = .ok (.iload 4, 2) := by decide +kernel
theorem dL_law_297 : decode cL_law 297 = .ok (.iconst 3, 1) := by decide +kernel
theorem dL_law_298 : decode cL_law 298 = .ok (.iadd, 1) := by decide +kernel
theorem dL_law_299 : decode cL_law 299 = .ok (.iaload, 1) := by decide +kernel
theorem dL_law_300 : decode cL_law 300 = .ok (.invokevirtual 60, 3) := by decide +kernel
theorem dL_law_303 : decode cL_law 303 = .ok (.istore 6, 2) := by decide +kernel
theorem dL_law_305 : decode cL_law 305 = .ok (.aload_n 2, 1) := by decide +kernel
theorem dL_law_306 : decode cL_law 306 = .ok (.invokevirtual 50, 3) := by decide +kernel
theorem dL_law_309 : decode cL_law 309 = .ok (.iload 5, 2) := by decide +kernel
theorem dL_law_311 : decode cL_law 311 = .ok (.if_icmp .eq 5, 3) := by decide +kernel
theorem dL_law_314 : decode cL_law 314 = .ok (.iconst 0, 1) := by decide +kernel
theorem dL_law_315 : decode cL_law 315 = .ok (.ireturn, 1) := by decide +kernel
theorem dL_law_316 : decode cL_law 316 = .ok (.iload 5, 2) := by decide +kernel
theorem dL_law_318 : decode cL_law 318 = .ok (.ifCond .ne 15, 3) := by decide +kernel
theorem dL_law_321 : decode cL_law 321 = .ok (.aload_n 3, 1) := by decide +kernel
theorem dL_law_322 : decode cL_law 322 = .ok (.iconst 0, 1) := by decide +kernel
theorem dL_law_323 : decode cL_law 323 = .ok (.laload, 1) := by decide +kernel
theorem dL_law_324 : decode cL_law 324 = .ok (.iload 6, 2) := by decide +kernel
theorem dL_law_326 : decode cL_law 326 = .ok (.i2l, 1) := by decide +kernel
theorem dL_law_327 : decode cL_law 327 = .ok (.lcmp, 1) := by decide +kernel
theorem dL_law_328 : decode cL_law 328 = .ok (.ifCond .eq 5, 3) := by decide +kernel
theorem dL_law_331 : decode cL_law 331 = .ok (.iconst 0, 1) := by decide +kernel
theorem dL_law_332 : decode cL_law 332 = .ok (.ireturn, 1) := by decide +kernel
theorem dL_law_333 : decode cL_law 333 = .ok (.goto 252, 3) := by decide +kernel
theorem dL_law_336 : decode cL_law 336 = .ok (.aload_n 1, 1) := by decide +kernel
theorem dL_law_337 : decode cL_law 337 = .ok (.aload_n 0, 1) := by decide +kernel
theorem dL_law_338 : decode cL_law 338 = .ok (.iload 4, 2) := by decide +kernel
theorem dL_law_340 : decode cL_law 340 = .ok (.iconst 1, 1) := by decide +kernel
theorem dL_law_341 : decode cL_law 341 = .ok (.iadd, 1) := by decide +kernel
theorem dL_law_342 : decode cL_law 342 = .ok (.iaload, 1) := by decide +kernel
theorem dL_law_343 : decode cL_law 343 = .ok (.aload_n 3, 1) := by decide +kernel
theorem dL_law_344 : decode cL_law 344 = .ok (.invokestatic 61, 3) := by decide +kernel
theorem dL_law_347 : decode cL_law 347 = .ok (.istore 5, 2) := by decide +kernel
theorem dL_law_349 : decode cL_law 349 = .ok (.aload_n 2, 1) := by decide +kernel
theorem dL_law_350 : decode cL_law 350 = .ok (.aload_n 0, 1) := by decide +kernel
theorem dL_law_351 : decode cL_law 351 = .ok (.iload 4, 2) := by decide +kernel
theorem dL_law_353 : decode cL_law 353 = .ok (.iconst 1, 1) := by decide +kernel
theorem dL_law_354 : decode cL_law 354 = .ok (.iadd, 1) := by decide +kernel
theorem dL_law_355 : decode cL_law 355 = .ok (.iaload, 1) := by decide +kernel
theorem dL_law_356 : decode cL_law 356 = .ok (.invokevirtual 64, 3) := by decide +kernel
theorem dL_law_359 : decode cL_law 359 = .ok (.istore 6, 2) := by decide +kernel
theorem dL_law_361 : decode cL_law 361 = .ok (.aload_n 2, 1) := by decide +kernel
theorem dL_law_362 : decode cL_law 362 = .ok (.invokevirtual 50, 3) := by decide +kernel
theorem dL_law_365 : decode cL_law 365 = .ok (.iload 5, 2) := by decide +kernel
theorem dL_law_367 : decode cL_law 367 = .ok (.if_icmp .eq 5, 3) := by decide +kernel
theorem dL_law_370 : decode cL_law 370 = .ok (.iconst 0, 1) := by decide +kernel
theorem dL_law_371 : decode cL_law 371 = .ok (.ireturn, 1) := by decide +kernel
theorem dL_law_372 : decode cL_law 372 = .ok (.iload 5, 2) := by decide +kernel
theorem dL_law_374 : decode cL_law 374 = .ok (.ifCond .ne 15, 3) := by decide +kernel
theorem dL_law_377 : decode cL_law 377 = .ok (.aload_n 3, 1) := by decide +kernel
theorem dL_law_378 : decode cL_law 378 = .ok (.iconst 0, 1) := by decide +kernel
theorem dL_law_379 : decode cL_law 379 = .ok (.laload, 1) := by decide +kernel
theorem dL_law_380 : decode cL_law 380 = .ok (.iload 6, 2) := by decide +kernel
theorem dL_law_382 : decode cL_law 382 = .ok (.i2l, 1) := by decide +kernel
theorem dL_law_383 : decode cL_law 383 = .ok (.lcmp, 1) := by decide +kernel
theorem dL_law_384 : decode cL_law 384 = .ok (.ifCond .eq 5, 3) := by decide +kernel
theorem dL_law_387 : decode cL_law 387 = .ok (.iconst 0, 1) := by decide +kernel
theorem dL_law_388 : decode cL_law 388 = .ok (.ireturn, 1) := by decide +kernel
theorem dL_law_389 : decode cL_law 389 = .ok (.goto 196, 3) := by decide +kernel
theorem dL_law_392 : decode cL_law 392 = .ok (.aload_n 1, 1) := by decide +kernel
theorem dL_law_393 : decode cL_law 393 = .ok (.aload_n 0, 1) := by decide +kernel
theorem dL_law_394 : decode cL_law 394 = .ok (.iload 4, 2) := by decide +kernel
theorem dL_law_396 : decode cL_law 396 = .ok (.iconst 1, 1) := by decide +kernel
theorem dL_law_397 : decode cL_law 397 = .ok (.iadd, 1) := by decide +kernel
theorem dL_law_398 : decode cL_law 398 = .ok (.iaload, 1) := by decide +kernel
theorem dL_law_399 : decode cL_law 399 = .ok (.aload_n 0, 1) := by decide +kernel
theorem dL_law_400 : decode cL_law 400 = .ok (.iload 4, 2) := by decide +kernel
theorem dL_law_402 : decode cL_law 402 = .ok (.iconst 2, 1) := by decide +kernel
theorem dL_law_403 : decode cL_law 403 = .ok (.iadd, 1) := by decide +kernel
theorem dL_law_404 : decode cL_law 404 = .ok (.iaload, 1) := by decide +kernel
theorem dL_law_405 : decode cL_law 405 = .ok (.aload_n 3, 1) := by decide +kernel
theorem dL_law_406 : decode cL_law 406 = .ok (.invokestatic 65, 3) := by decide +kernel
theorem dL_law_409 : decode cL_law 409 = .ok (.istore 5, 2) := by decide +kernel
theorem dL_law_411 : decode cL_law 411 = .ok (.aload_n 2, 1) := by decide +kernel
theorem dL_law_412 : decode cL_law 412 = .ok (.aload_n 0, 1) := by decide +kernel
theorem dL_law_413 : decode cL_law 413 = .ok (.iload 4, 2) := by decide +kernel
theorem dL_law_415 : decode cL_law 415 = .ok (.iconst 1, 1) := by decide +kernel
theorem dL_law_416 : decode cL_law 416 = .ok (.iadd, 1) := by decide +kernel
theorem dL_law_417 : decode cL_law 417 = .ok (.iaload, 1) := by decide +kernel
theorem dL_law_418 : decode cL_law 418 = .ok (.aload_n 0, 1) := by decide +kernel
theorem dL_law_419 : decode cL_law 419 = .ok (.iload 4, 2) := by decide +kernel
theorem dL_law_421 : decode cL_law 421 = .ok (.iconst 2, 1) := by decide +kernel
theorem dL_law_422 : decode cL_law 422 = .ok (.iadd, 1) := by decide +kernel
theorem dL_law_423 : decode cL_law 423 = .ok (.iaload, 1) := by decide +kernel
theorem dL_law_424 : decode cL_law 424 = .ok (.invokevirtual 68, 3) := by decide +kernel
theorem dL_law_427 : decode cL_law 427 = .ok (.istore 6, 2) := by decide +kernel
theorem dL_law_429 : decode cL_law 429 = .ok (.aload_n 2, 1) := by decide +kernel
theorem dL_law_430 : decode cL_law 430 = .ok (.invokevirtual 50, 3) := by decide +kernel
theorem dL_law_433 : decode cL_law 433 = .ok (.iload 5, 2) := by decide +kernel
theorem dL_law_435 : decode cL_law 435 = .ok (.if_icmp .eq 5, 3) := by decide +kernel
theorem dL_law_438 : decode cL_law 438 = .ok (.iconst 0, 1) := by decide +kernel
theorem dL_law_439 : decode cL_law 439 = .ok (.ireturn, 1) := by decide +kernel
theorem dL_law_440 : decode cL_law 440 = .ok (.iload 5, 2) := by decide +kernel
theorem dL_law_442 : decode cL_law 442 = .ok (.ifCond .ne 15, 3) := by decide +kernel
theorem dL_law_445 : decode cL_law 445 = .ok (.aload_n 3, 1) := by decide +kernel
theorem dL_law_446 : decode cL_law 446 = .ok (.iconst 0, 1) := by decide +kernel
theorem dL_law_447 : decode cL_law 447 = .ok (.laload, 1) := by decide +kernel
theorem dL_law_448 : decode cL_law 448 = .ok (.iload 6, 2) := by decide +kernel
theorem dL_law_450 : decode cL_law 450 = .ok (.i2l, 1) := by decide +kernel
theorem dL_law_451 : decode cL_law 451 = .ok (.lcmp, 1) := by decide +kernel
theorem dL_law_452 : decode cL_law 452 = .ok (.ifCond .eq 5, 3) := by decide +kernel
theorem dL_law_455 : decode cL_law 455 = .ok (.iconst 0, 1) := by decide +kernel
theorem dL_law_456 : decode cL_law 456 = .ok (.ireturn, 1) := by decide +kernel
theorem dL_law_457 : decode cL_law 457 = .ok (.goto 128, 3) := by decide +kernel
theorem dL_law_460 : decode cL_law 460 = .ok (.aload_n 1, 1) := by decide +kernel
theorem dL_law_461 : decode cL_law 461 = .ok (.aload_n 0, 1) := by decide +kernel
theorem dL_law_462 : decode cL_law 462 = .ok (.iload 4, 2) := by decide +kernel
theorem dL_law_464 : decode cL_law 464 = .ok (.iconst 1, 1) := by decide +kernel
theorem dL_law_465 : decode cL_law 465 = .ok (.iadd, 1) := by decide +kernel
theorem dL_law_466 : decode cL_law 466 = .ok (.iaload, 1) := by decide +kernel
theorem dL_law_467 : decode cL_law 467 = .ok (.aload_n 3, 1) := by decide +kernel
theorem dL_law_468 : decode cL_law 468 = .ok (.invokestatic 69, 3) := by decide +kernel
theorem dL_law_471 : decode cL_law 471 = .ok (.istore 5, 2) := by decide +kernel
theorem dL_law_473 : decode cL_law 473 = .ok (.aload_n 2, 1) := by decide +kernel
theorem dL_law_474 : decode cL_law 474 = .ok (.aload_n 0, 1) := by decide +kernel
theorem dL_law_475 : decode cL_law 475 = .ok (.iload 4, 2) := by decide +kernel
theorem dL_law_477 : decode cL_law 477 = .ok (.iconst 1, 1) := by decide +kernel
theorem dL_law_478 : decode cL_law 478 = .ok (.iadd, 1) := by decide +kernel
theorem dL_law_479 : decode cL_law 479 = .ok (.iaload, 1) := by decide +kernel
theorem dL_law_480 : decode cL_law 480 = .ok (.invokevirtual 71, 3) := by decide +kernel
theorem dL_law_483 : decode cL_law 483 = .ok (.istore 6, 2) := by decide +kernel
theorem dL_law_485 : decode cL_law 485 = .ok (.aload_n 2, 1) := by decide +kernel
theorem dL_law_486 : decode cL_law 486 = .ok (.invokevirtual 50, 3) := by decide +kernel
theorem dL_law_489 : decode cL_law 489 = .ok (.iload 5, 2) := by decide +kernel
theorem dL_law_491 : decode cL_law 491 = .ok (.if_icmp .eq 5, 3) := by decide +kernel
theorem dL_law_494 : decode cL_law 494 = .ok (.iconst 0, 1) := by decide +kernel
theorem dL_law_495 : decode cL_law 495 = .ok (.ireturn, 1) := by decide +kernel
theorem dL_law_496 : decode cL_law 496 = .ok (.iload 5, 2) := by decide +kernel
theorem dL_law_498 : decode cL_law 498 = .ok (.ifCond .ne 15, 3) := by decide +kernel
theorem dL_law_501 : decode cL_law 501 = .ok (.aload_n 3, 1) := by decide +kernel
theorem dL_law_502 : decode cL_law 502 = .ok (.iconst 0, 1) := by decide +kernel
theorem dL_law_503 : decode cL_law 503 = .ok (.laload, 1) := by decide +kernel
theorem dL_law_504 : decode cL_law 504 = .ok (.iload 6, 2) := by decide +kernel
theorem dL_law_506 : decode cL_law 506 = .ok (.i2l, 1) := by decide +kernel
theorem dL_law_507 : decode cL_law 507 = .ok (.lcmp, 1) := by decide +kernel
theorem dL_law_508 : decode cL_law 508 = .ok (.ifCond .eq 5, 3) := by decide +kernel
theorem dL_law_511 : decode cL_law 511 = .ok (.iconst 0, 1) := by decide +kernel
theorem dL_law_512 : decode cL_law 512 = .ok (.ireturn, 1) := by decide +kernel
theorem dL_law_513 : decode cL_law 513 = .ok (.goto 72, 3) := by decide +kernel
theorem dL_law_516 : decode cL_law 516 = .ok (.aload_n 1, 1) := by decide +kernel
theorem dL_law_517 : decode cL_law 517 = .ok (.aload_n 0, 1) := by decide +kernel
theorem dL_law_518 : decode cL_law 518 = .ok (.iload 4, 2) := by decide +kernel
theorem dL_law_520 : decode cL_law 520 = .ok (.iconst 1, 1) := by decide +kernel
theorem dL_law_521 : decode cL_law 521 = .ok (.iadd, 1) := by decide +kernel
theorem dL_law_522 : decode cL_law 522 = .ok (.iaload, 1) := by decide +kernel
theorem dL_law_523 : decode cL_law 523 = .ok (.aload_n 3, 1) := by decide +kernel
theorem dL_law_524 : decode cL_law 524 = .ok (.invokestatic 72, 3) := by decide +kernel
theorem dL_law_527 : decode cL_law 527 = .ok (.istore 5, 2) := by decide +kernel
theorem dL_law_529 : decode cL_law 529 = .ok (.aload_n 2, 1) := by decide +kernel
theorem dL_law_530 : decode cL_law 530 = .ok (.aload_n 0, 1) := by decide +kernel
theorem dL_law_531 : decode cL_law 531 = .ok (.iload 4, 2) := by decide +kernel
theorem dL_law_533 : decode cL_law 533 = .ok (.iconst 1, 1) := by decide +kernel
theorem dL_law_534 : decode cL_law 534 = .ok (.iadd, 1) := by decide +kernel
theorem dL_law_535 : decode cL_law 535 = .ok (.iaload, 1) := by decide +kernel
theorem dL_law_536 : decode cL_law 536 = .ok (.invokevirtual 74, 3) := by decide +kernel
theorem dL_law_539 : decode cL_law 539 = .ok (.istore 6, 2) := by decide +kernel
theorem dL_law_541 : decode cL_law 541 = .ok (.aload_n 2, 1) := by decide +kernel
theorem dL_law_542 : decode cL_law 542 = .ok (.invokevirtual 50, 3) := by decide +kernel
theorem dL_law_545 : decode cL_law 545 = .ok (.iload 5, 2) := by decide +kernel
theorem dL_law_547 : decode cL_law 547 = .ok (.if_icmp .eq 5, 3) := by decide +kernel
theorem dL_law_550 : decode cL_law 550 = .ok (.iconst 0, 1) := by decide +kernel
theorem dL_law_551 : decode cL_law 551 = .ok (.ireturn, 1) := by decide +kernel
theorem dL_law_552 : decode cL_law 552 = .ok (.iload 5, 2) := by decide +kernel
theorem dL_law_554 : decode cL_law 554 = .ok (.ifCond .ne 15, 3) := by decide +kernel
theorem dL_law_557 : decode cL_law 557 = .ok (.aload_n 3, 1) := by decide +kernel
theorem dL_law_558 : decode cL_law 558 = .ok (.iconst 0, 1) := by decide +kernel
theorem dL_law_559 : decode cL_law 559 = .ok (.laload, 1) := by decide +kernel
theorem dL_law_560 : decode cL_law 560 = .ok (.iload 6, 2) := by decide +kernel
theorem dL_law_562 : decode cL_law 562 = .ok (.i2l, 1) := by decide +kernel
theorem dL_law_563 : decode cL_law 563 = .ok (.lcmp, 1) := by decide +kernel
theorem dL_law_564 : decode cL_law 564 = .ok (.ifCond .eq 5, 3) := by decide +kernel
theorem dL_law_567 : decode cL_law 567 = .ok (.iconst 0, 1) := by decide +kernel
theorem dL_law_568 : decode cL_law 568 = .ok (.ireturn, 1) := by decide +kernel
theorem dL_law_569 : decode cL_law 569 = .ok (.goto 16, 3) := by decide +kernel
theorem dL_law_572 : decode cL_law 572 = .ok (.aload_n 1, 1) := by decide +kernel
theorem dL_law_573 : decode cL_law 573 = .ok (.invokevirtual 75, 3) := by decide +kernel
theorem dL_law_576 : decode cL_law 576 = .ok (.aload_n 2, 1) := by decide +kernel
theorem dL_law_577 : decode cL_law 577 = .ok (.invokevirtual 78, 3) := by decide +kernel
theorem dL_law_580 : decode cL_law 580 = .ok (.if_icmp .eq 5, 3) := by decide +kernel
theorem dL_law_583 : decode cL_law 583 = .ok (.iconst 0, 1) := by decide +kernel
theorem dL_law_584 : decode cL_law 584 = .ok (.ireturn, 1) := by decide +kernel
theorem dL_law_585 : decode cL_law 585 = .ok (.iinc 4 5, 3) := by decide +kernel
theorem dL_law_588 : decode cL_law 588 = .ok (.goto (-565), 3) := by decide +kernel
theorem dL_law_591 : decode cL_law 591 = .ok (.iconst 1, 1) := by decide +kernel
theorem dL_law_592 : decode cL_law 592 = .ok (.ireturn, 1) := by decide +kernel
abbrev vwCl : List vw_C := [(RX0, TX0, 4), (RX1, TX1, 1)]
/-! ===== END printed: names ===== -/
