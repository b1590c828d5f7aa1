/-! The reference: names, field table, words, rows that decode each instruction (the printed names stop at its constructor) -/
def RZ : String := "RankRowsModel"
def TZ : u_T := fun k => match k with
  | 0 => ("RankRowsModel", "row", "[I", true)
  | 1 => ("RankRowsModel", "first", "[I", true)
  | 2 => ("RankRowsModel", "second", "[I", true)
  | 3 => ("RankRowsModel", "many", "I", false)
  | _ => ("RankRowsModel", "thrown", "I", false)
def tyZ : Nat → FieldType := fun k => match k with
  | 0 => .array .int
  | 1 => .array .int
  | 2 => .array .int
  | 3 => .int
  | _ => .int
abbrev wsZ0 : List Cond := u_ws RZ TZ 5
theorem nmZ : ∀ a, a < 5 → ∀ b, b < 5 → a ≠ b → (TZ a).2.1 ≠ (TZ b).2.1 := by decide +kernel
theorem tyZ_ok : ∀ k, k < 5 → parseFieldDescriptor (TZ k).2.2.1 = some (tyZ k) := by decide +kernel
/-- the classes whose objects the worlds hold -/
abbrev vwD : List vw_C := [(RX0, TX0, 4), (RZ, TZ, 5)]
abbrev cZ_init : ByteArray := prog_3_method_1_code
def yZ_init : MethodName := ⟨RZ, "<init>", "()V"⟩
abbrev cZ_thrown : ByteArray := prog_3_method_15_code
def yZ_thrown : MethodName := ⟨RZ, "thrown", "()I"⟩
abbrev cZ_behind : ByteArray := prog_3_method_16_code
def yZ_behind : MethodName := ⟨RZ, "behind", "(IIII)I"⟩
abbrev cZ_behind0 : ByteArray := prog_3_method_7_code
def yZ_behind0 : MethodName := ⟨RZ, "behind0", "(IIII)I"⟩
abbrev cZ_isWeight : ByteArray := prog_3_method_3_code
def yZ_isWeight : MethodName := ⟨RZ, "isWeight", "(I)Z"⟩
abbrev cZ_check : ByteArray := prog_3_method_2_code
def yZ_check : MethodName := ⟨RZ, "check", "(Z)V"⟩
abbrev cZ_there : ByteArray := prog_3_method_4_code
def yZ_there : MethodName := ⟨RZ, "there", "(I)V"⟩
abbrev cZ_inRow : ByteArray := prog_3_method_5_code
def yZ_inRow : MethodName := ⟨RZ, "inRow", "(I)I"⟩
abbrev cZ_open : ByteArray := prog_3_method_6_code
def yZ_open : MethodName := ⟨RZ, "open", "(III)V"⟩
abbrev cZ_before : ByteArray := prog_3_method_17_code
def yZ_before : MethodName := ⟨RZ, "before", "(III)I"⟩
abbrev cZ_before0 : ByteArray := prog_3_method_8_code
def yZ_before0 : MethodName := ⟨RZ, "before0", "(III)I"⟩
abbrev cZ_weigh : ByteArray := prog_3_method_18_code
def yZ_weigh : MethodName := ⟨RZ, "weigh", "(III)I"⟩
abbrev cZ_weigh0 : ByteArray := prog_3_method_9_code
def yZ_weigh0 : MethodName := ⟨RZ, "weigh0", "(III)I"⟩
abbrev cZ_find : ByteArray := prog_3_method_19_code
def yZ_find : MethodName := ⟨RZ, "find", "(I)I"⟩
abbrev cZ_find0 : ByteArray := prog_3_method_10_code
def yZ_find0 : MethodName := ⟨RZ, "find0", "(I)I"⟩
abbrev cZ_sum : ByteArray := prog_3_method_20_code
def yZ_sum : MethodName := ⟨RZ, "sum", "(II)I"⟩
abbrev cZ_sum0 : ByteArray := prog_3_method_11_code
def yZ_sum0 : MethodName := ⟨RZ, "sum0", "(II)I"⟩
abbrev cZ_next : ByteArray := prog_3_method_21_code
def yZ_next : MethodName := ⟨RZ, "next", "(I)I"⟩
abbrev cZ_next0 : ByteArray := prog_3_method_12_code
def yZ_next0 : MethodName := ⟨RZ, "next0", "(I)I"⟩
abbrev cZ_place : ByteArray := prog_3_method_22_code
def yZ_place : MethodName := ⟨RZ, "place", "(I)I"⟩
abbrev cZ_place0 : ByteArray := prog_3_method_13_code
def yZ_place0 : MethodName := ⟨RZ, "place0", "(I)I"⟩
abbrev cZ_entries : ByteArray := prog_3_method_23_code
def yZ_entries : MethodName := ⟨RZ, "entries", "()I"⟩
abbrev cZ_entries0 : ByteArray := prog_3_method_14_code
def yZ_entries0 : MethodName := ⟨RZ, "entries0", "()I"⟩
/-- the words that its methods need of the tables, one list for all of them -/
def wsRa : List Cond := [.initialized RZ, .instantiable RZ 5, .classLink RL 41 RZ, .arrayClass .int, .methodLink RZ 1 objectInit, .instanceMethod objectInit, .code objectInit ⟨#[0xb1]⟩ 1 none, .fieldLink RZ 9 "RankRowsModel" "row" "[I", .fieldLink RZ 13 "RankRowsModel" "first" "[I", .fieldLink RZ 16 "RankRowsModel" "second" "[I", .fieldLink RZ 22 "RankRowsModel" "many" "I", .fieldLink RZ 52 "RankRowsModel" "thrown" "I", .classLink RZ 19 "java/lang/IllegalArgumentException", .initialized "java/lang/IllegalArgumentException", .classLink RZ 26 "java/util/NoSuchElementException", .initialized "java/util/NoSuchElementException", .classLink RZ 41 "java/lang/IllegalStateException", .initialized "java/lang/IllegalStateException", .methodLink RZ 55 yZ_behind0, .methodLink RZ 29 yZ_isWeight, .methodLink RZ 33 yZ_check, .methodLink RZ 37 yZ_there, .methodLink RZ 44 yZ_inRow, .methodLink RZ 48 yZ_open, .methodLink RZ 59 yZ_before0, .methodLink RZ 63 yZ_weigh0, .methodLink RZ 66 yZ_find0, .methodLink RZ 69 yZ_sum0, .methodLink RZ 73 yZ_next0, .methodLink RZ 76 yZ_place0, .methodLink RZ 79 yZ_entries0, .methodLink RL 43 yZ_init, .methodLink RL 50 yZ_thrown, .methodLink RL 49 yZ_behind, .methodLink RL 57 yZ_before, .methodLink RL 60 yZ_weigh, .methodLink RL 64 yZ_find, .methodLink RL 68 yZ_sum, .methodLink RL 71 yZ_next, .methodLink RL 74 yZ_place, .methodLink RL 78 yZ_entries, .code yZ_init cZ_init 1 none, .instanceMethod yZ_init, .code yZ_thrown cZ_thrown 1 (some .int), .instanceMethod yZ_thrown, .selects RZ yZ_thrown yZ_thrown, .codeWith yZ_behind cZ_behind 6 (some .int) [(5, 14, 15, 19), (5, 14, 25, 26), (5, 14, 35, 41)], .instanceMethod yZ_behind, .selects RZ yZ_behind yZ_behind, .code yZ_behind0 cZ_behind0 7 (some .int), .instanceMethod yZ_behind0, .selects RZ yZ_behind0 yZ_behind0, .code yZ_isWeight cZ_isWeight 1 (some .boolean), .static yZ_isWeight, .code yZ_check cZ_check 1 none, .static yZ_check, .code yZ_there cZ_there 2 none, .instanceMethod yZ_there, .selects RZ yZ_there yZ_there, .code yZ_inRow cZ_inRow 3 (some .int), .instanceMethod yZ_inRow, .selects RZ yZ_inRow yZ_inRow, .code yZ_open cZ_open 5 none, .instanceMethod yZ_open, .selects RZ yZ_open yZ_open, .codeWith yZ_before cZ_before 5 (some .int) [(5, 12, 13, 19), (5, 12, 23, 26), (5, 12, 33, 41)], .instanceMethod yZ_before, .selects RZ yZ_before yZ_before, .code yZ_before0 cZ_before0 4 (some .int), .instanceMethod yZ_before0, .selects RZ yZ_before0 yZ_before0, .codeWith yZ_weigh cZ_weigh 5 (some .int) [(5, 12, 13, 19), (5, 12, 23, 26)], .instanceMethod yZ_weigh, .selects RZ yZ_weigh yZ_weigh, .code yZ_weigh0 cZ_weigh0 5 (some .int), .instanceMethod yZ_weigh0, .selects RZ yZ_weigh0 yZ_weigh0, .codeWith yZ_find cZ_find 3 (some .int) [(5, 10, 11, 26)], .instanceMethod yZ_find, .selects RZ yZ_find yZ_find, .code yZ_find0 cZ_find0 4 (some .int), .instanceMethod yZ_find0, .selects RZ yZ_find0 yZ_find0, .codeWith yZ_sum cZ_sum 4 (some .int) [(5, 11, 12, 19), (5, 11, 21, 26)], .instanceMethod yZ_sum, .selects RZ yZ_sum yZ_sum, .code yZ_sum0 cZ_sum0 5 (some .int), .instanceMethod yZ_sum0, .selects RZ yZ_sum0 yZ_sum0, .codeWith yZ_next cZ_next 3 (some .int) [(5, 10, 11, 26)], .instanceMethod yZ_next, .selects RZ yZ_next yZ_next, .code yZ_next0 cZ_next0 3 (some .int), .instanceMethod yZ_next0, .selects RZ yZ_next0 yZ_next0, .codeWith yZ_place cZ_place 3 (some .int) [(5, 10, 11, 26)], .instanceMethod yZ_place, .selects RZ yZ_place yZ_place, .code yZ_place0 cZ_place0 2 (some .int), .instanceMethod yZ_place0, .selects RZ yZ_place0 yZ_place0, .code yZ_entries cZ_entries 1 (some .int), .instanceMethod yZ_entries, .selects RZ yZ_entries yZ_entries, .code yZ_entries0 cZ_entries0 1 (some .int), .instanceMethod yZ_entries0, .selects RZ yZ_entries0 yZ_entries0]
def wsR : List Cond := ((wsRa ++ wsZ0) ++ (vx_at0 RZ 21 "java/lang/IllegalArgumentException" ["java/lang/RuntimeException", "java/lang/Exception"]).filter goodWord) ++ ((vx_at0 RZ 28 "java/util/NoSuchElementException" ["java/lang/RuntimeException", "java/lang/Exception"]).filter goodWord ++ (vx_at0 RZ 43 "java/lang/IllegalStateException" ["java/lang/RuntimeException", "java/lang/Exception"]).filter goodWord)
theorem wsRa_in : ∀ w ∈ wsRa, w ∈ wsR := fun _ h => List.mem_append_left _ (List.mem_append_left _ (List.mem_append_left _ h))
theorem wsZ0_in : ∀ w ∈ wsZ0, w ∈ wsR := fun _ h => List.mem_append_left _ (List.mem_append_left _ (List.mem_append_right _ h))
theorem wsR_21 : ∀ w ∈ (vx_at0 RZ 21 "java/lang/IllegalArgumentException" ["java/lang/RuntimeException", "java/lang/Exception"]).filter goodWord, w ∈ wsR := fun _ h => List.mem_append_left _ (List.mem_append_right _ h)
theorem wsR_28 : ∀ w ∈ (vx_at0 RZ 28 "java/util/NoSuchElementException" ["java/lang/RuntimeException", "java/lang/Exception"]).filter goodWord, w ∈ wsR := fun _ h => List.mem_append_right _ (List.mem_append_left _ h)
theorem wsR_43 : ∀ w ∈ (vx_at0 RZ 43 "java/lang/IllegalStateException" ["java/lang/RuntimeException", "java/lang/Exception"]).filter goodWord, w ∈ wsR := fun _ h => List.mem_append_right _ (List.mem_append_right _ h)
set_option maxRecDepth 100000 in
theorem wsRa_good : ∀ w ∈ wsRa ++ wsZ0, goodWord w = true := List.all_eq_true.mp (by decide +kernel)
theorem wsR_good : ∀ w ∈ wsR, goodWord w = true := by
  intro w h
  rcases List.mem_append.mp h with h | h
  · rcases List.mem_append.mp h with h | h
    · exact wsRa_good w h
    · exact (List.mem_filter.mp h).2
  · rcases List.mem_append.mp h with h | h
    · exact (List.mem_filter.mp h).2
    · exact (List.mem_filter.mp h).2
set_option maxRecDepth 100000 in
theorem wsRa_tbl : ∀ w ∈ wsRa ++ wsZ0, w ∈ lw_tbl := by decide +kernel
set_option maxRecDepth 100000 in
theorem wsR_t21 : ∀ w ∈ (vx_at0 RZ 21 "java/lang/IllegalArgumentException" ["java/lang/RuntimeException", "java/lang/Exception"]).filter goodWord, w ∈ lw_tbl := by decide +kernel
set_option maxRecDepth 100000 in
theorem wsR_t28 : ∀ w ∈ (vx_at0 RZ 28 "java/util/NoSuchElementException" ["java/lang/RuntimeException", "java/lang/Exception"]).filter goodWord, w ∈ lw_tbl := by decide +kernel
set_option maxRecDepth 100000 in
theorem wsR_t43 : ∀ w ∈ (vx_at0 RZ 43 "java/lang/IllegalStateException" ["java/lang/RuntimeException", "java/lang/Exception"]).filter goodWord, w ∈ lw_tbl := by decide +kernel
theorem wsR_tbl : ∀ w ∈ wsR, w ∈ lw_tbl := by
  intro w h
  rcases List.mem_append.mp h with h | h
  · rcases List.mem_append.mp h with h | h
    · exact wsRa_tbl w h
    · exact wsR_t21 w h
  · rcases List.mem_append.mp h with h | h
    · exact wsR_t28 w h
    · exact wsR_t43 w h
theorem zg_app {c d : Cond} {L : List Cond} (hL : ∀ w ∈ L, w ∈ wsRa) (hd : d ∈ wsRa) : GoodIn (c :: wsR) (L ++ d :: wsR) := by
  intro w h
  have ok : ∀ w ∈ wsR, w ∈ c :: wsR ∧ ((w.onTables && w.keeps) = true ∨ ∃ ty, w = .arrayClass ty) := fun w h => ⟨List.mem_cons_of_mem _ h, good_of_word (wsR_good w h)⟩
  rcases List.mem_append.mp h with h | h
  · exact ok w (wsRa_in w (hL w h))
  · rcases List.mem_cons.mp h with h | h
    · rw [h]
      exact ok d (wsRa_in d hd)
    · exact ok w h
/-- the law's words: the printed ones, and the reference's -/
def wsL2 : List Cond := wsL_law ++ wsR
theorem wsL2_in : ∀ w ∈ wsL2, w ∈ lw_tbl := fun w h => (List.mem_append.mp h).elim (wsL_law_in w) (wsR_tbl w)
theorem wsL2_1 : ∀ w ∈ wsL_law, w ∈ wsL2 := fun _ h => List.mem_append_left _ h
theorem zg_law {L : List Cond} (h : GoodIn wsL_law L) : GoodIn wsL2 L := fun w hw => ⟨wsL2_1 w (h w hw).1, (h w hw).2⟩
theorem zg_l2 {d : Cond} {L : List Cond} (hL : ∀ w ∈ L, w ∈ wsRa) (hd : d ∈ wsRa) : GoodIn wsL2 (L ++ d :: wsR) := by
  intro w h
  have ok : ∀ w ∈ wsR, w ∈ wsL2 ∧ ((w.onTables && w.keeps) = true ∨ ∃ ty, w = .arrayClass ty) := fun w h => ⟨List.mem_append_right _ h, good_of_word (wsR_good w h)⟩
  rcases List.mem_append.mp h with h | h
  · exact ok w (wsRa_in w (hL w h))
  · rcases List.mem_cons.mp h with h | h
    · rw [h]
      exact ok d (wsRa_in d hd)
    · exact ok w h
def wsZ_init : List Cond := .code yZ_init cZ_init 1 none :: wsR
def wsZ_thrown : List Cond := .code yZ_thrown cZ_thrown 1 (some .int) :: wsR
def wsZ_behind : List Cond := .codeWith yZ_behind cZ_behind 6 (some .int) [(5, 14, 15, 19), (5, 14, 25, 26), (5, 14, 35, 41)] :: wsR
def wsZ_behind0 : List Cond := .code yZ_behind0 cZ_behind0 7 (some .int) :: wsR
def wsZ_isWeight : List Cond := .code yZ_isWeight cZ_isWeight 1 (some .boolean) :: wsR
def wsZ_check : List Cond := .code yZ_check cZ_check 1 none :: wsR
def wsZ_there : List Cond := .code yZ_there cZ_there 2 none :: wsR
def wsZ_inRow : List Cond := .code yZ_inRow cZ_inRow 3 (some .int) :: wsR
def wsZ_open : List Cond := .code yZ_open cZ_open 5 none :: wsR
def wsZ_before : List Cond := .codeWith yZ_before cZ_before 5 (some .int) [(5, 12, 13, 19), (5, 12, 23, 26), (5, 12, 33, 41)] :: wsR
def wsZ_before0 : List Cond := .code yZ_before0 cZ_before0 4 (some .int) :: wsR
def wsZ_weigh : List Cond := .codeWith yZ_weigh cZ_weigh 5 (some .int) [(5, 12, 13, 19), (5, 12, 23, 26)] :: wsR
def wsZ_weigh0 : List Cond := .code yZ_weigh0 cZ_weigh0 5 (some .int) :: wsR
def wsZ_find : List Cond := .codeWith yZ_find cZ_find 3 (some .int) [(5, 10, 11, 26)] :: wsR
def wsZ_find0 : List Cond := .code yZ_find0 cZ_find0 4 (some .int) :: wsR
def wsZ_sum : List Cond := .codeWith yZ_sum cZ_sum 4 (some .int) [(5, 11, 12, 19), (5, 11, 21, 26)] :: wsR
def wsZ_sum0 : List Cond := .code yZ_sum0 cZ_sum0 5 (some .int) :: wsR
def wsZ_next : List Cond := .codeWith yZ_next cZ_next 3 (some .int) [(5, 10, 11, 26)] :: wsR
def wsZ_next0 : List Cond := .code yZ_next0 cZ_next0 3 (some .int) :: wsR
def wsZ_place : List Cond := .codeWith yZ_place cZ_place 3 (some .int) [(5, 10, 11, 26)] :: wsR
def wsZ_place0 : List Cond := .code yZ_place0 cZ_place0 2 (some .int) :: wsR
def wsZ_entries : List Cond := .code yZ_entries cZ_entries 1 (some .int) :: wsR
def wsZ_entries0 : List Cond := .code yZ_entries0 cZ_entries0 1 (some .int) :: wsR
theorem dZ_init_0 : decode cZ_init 0 = .ok (.aload_n 0, 1) := by decide +kernel
theorem dZ_init_1 : decode cZ_init 1 = .ok (.invokespecial 1, 3) := by decide +kernel
theorem dZ_init_4 : decode cZ_init 4 = .ok (.aload_n 0, 1) := by decide +kernel
theorem dZ_init_5 : decode cZ_init 5 = .ok (.sipush 4000, 3) := by decide +kernel
theorem dZ_init_8 : decode cZ_init 8 = .ok (.newarray .int, 2) := by decide +kernel
theorem dZ_init_10 : decode cZ_init 10 = .ok (.putfield 9, 3) := by decide +kernel
theorem dZ_init_13 : decode cZ_init 13 = .ok (.aload_n 0, 1) := by decide +kernel
theorem dZ_init_14 : decode cZ_init 14 = .ok (.sipush 4000, 3) := by decide +kernel
theorem dZ_init_17 : decode cZ_init 17 = .ok (.newarray .int, 2) := by decide +kernel
theorem dZ_init_19 : decode cZ_init 19 = .ok (.putfield 13, 3) := by decide +kernel
theorem dZ_init_22 : decode cZ_init 22 = .ok (.aload_n 0, 1) := by decide +kernel
theorem dZ_init_23 : decode cZ_init 23 = .ok (.sipush 4000, 3) := by decide +kernel
theorem dZ_init_26 : decode cZ_init 26 = .ok (.newarray .int, 2) := by decide +kernel
theorem dZ_init_28 : decode cZ_init 28 = .ok (.putfield 16, 3) := by decide +kernel
theorem dZ_init_31 : decode cZ_init 31 = .ok (.return_, 1) := by decide +kernel
theorem dZ_check_0 : decode cZ_check 0 = .ok (.iload_n 0, 1) := by decide +kernel
theorem dZ_check_1 : decode cZ_check 1 = .ok (.ifCond .ne 11, 3) := by decide +kernel
theorem dZ_check_4 : decode cZ_check 4 = .ok (.new 19, 3) := by decide +kernel
theorem dZ_check_7 : decode cZ_check 7 = .ok (.dup, 1) := by decide +kernel
theorem dZ_check_8 : decode cZ_check 8 = .ok (.invokespecial 21, 3) := by decide +kernel
theorem dZ_check_11 : decode cZ_check 11 = .ok (.athrow, 1) := by decide +kernel
theorem dZ_check_12 : decode cZ_check 12 = .ok (.return_, 1) := by decide +kernel
theorem dZ_isWeight_0 : decode cZ_isWeight 0 = .ok (.iload_n 0, 1) := by decide +kernel
theorem dZ_isWeight_1 : decode cZ_isWeight 1 = .ok (.ifCond .lt 14, 3) := by decide +kernel
theorem dZ_isWeight_4 : decode cZ_isWeight 4 = .ok (.iload_n 0, 1) := by decide +kernel
theorem dZ_isWeight_5 : decode cZ_isWeight 5 = .ok (.sipush 1000, 3) := by decide +kernel
theorem dZ_isWeight_8 : decode cZ_isWeight 8 = .ok (.if_icmp .gt 7, 3) := by decide +kernel
theorem dZ_isWeight_11 : decode cZ_isWeight 11 = .ok (.iconst 1, 1) := by decide +kernel
theorem dZ_isWeight_12 : decode cZ_isWeight 12 = .ok (.goto 4, 3) := by decide +kernel
theorem dZ_isWeight_15 : decode cZ_isWeight 15 = .ok (.iconst 0, 1) := by decide +kernel
theorem dZ_isWeight_16 : decode cZ_isWeight 16 = .ok (.ireturn, 1) := by decide +kernel
theorem dZ_there_0 : decode cZ_there 0 = .ok (.iload_n 1, 1) := by decide +kernel
theorem dZ_there_1 : decode cZ_there 1 = .ok (.ifCond .lt 11, 3) := by decide +kernel
theorem dZ_there_4 : decode cZ_there 4 = .ok (.iload_n 1, 1) := by decide +kernel
theorem dZ_there_5 : decode cZ_there 5 = .ok (.aload_n 0, 1) := by decide +kernel
theorem dZ_there_6 : decode cZ_there 6 = .ok (.getfield 22, 3) := by decide +kernel
theorem dZ_there_9 : decode cZ_there 9 = .ok (.if_icmp .lt 11, 3) := by decide +kernel
theorem dZ_there_12 : decode cZ_there 12 = .ok (.new 26, 3) := by decide +kernel
theorem dZ_there_15 : decode cZ_there 15 = .ok (.dup, 1) := by decide +kernel
theorem dZ_there_16 : decode cZ_there 16 = .ok (.invokespecial 28, 3) := by decide +kernel
theorem dZ_there_19 : decode cZ_there 19 = .ok (.athrow, 1) := by decide +kernel
theorem dZ_there_20 : decode cZ_there 20 = .ok (.return_, 1) := by decide +kernel
theorem dZ_inRow_0 : decode cZ_inRow 0 = .ok (.iconst 0, 1) := by decide +kernel
theorem dZ_inRow_1 : decode cZ_inRow 1 = .ok (.istore_n 2, 1) := by decide +kernel
theorem dZ_inRow_2 : decode cZ_inRow 2 = .ok (.aload_n 0, 1) := by decide +kernel
theorem dZ_inRow_3 : decode cZ_inRow 3 = .ok (.getfield 9, 3) := by decide +kernel
theorem dZ_inRow_6 : decode cZ_inRow 6 = .ok (.iload_n 2, 1) := by decide +kernel
theorem dZ_inRow_7 : decode cZ_inRow 7 = .ok (.iaload, 1) := by decide +kernel
theorem dZ_inRow_8 : decode cZ_inRow 8 = .ok (.iload_n 1, 1) := by decide +kernel
theorem dZ_inRow_9 : decode cZ_inRow 9 = .ok (.if_icmp .eq 9, 3) := by decide +kernel
theorem dZ_inRow_12 : decode cZ_inRow 12 = .ok (.iinc 2 1, 3) := by decide +kernel
theorem dZ_inRow_15 : decode cZ_inRow 15 = .ok (.goto (-13), 3) := by decide +kernel
theorem dZ_inRow_18 : decode cZ_inRow 18 = .ok (.iload_n 2, 1) := by decide +kernel
theorem dZ_inRow_19 : decode cZ_inRow 19 = .ok (.ireturn, 1) := by decide +kernel
theorem dZ_open_0 : decode cZ_open 0 = .ok (.aload_n 0, 1) := by decide +kernel
theorem dZ_open_1 : decode cZ_open 1 = .ok (.getfield 22, 3) := by decide +kernel
theorem dZ_open_4 : decode cZ_open 4 = .ok (.istore 4, 2) := by decide +kernel
theorem dZ_open_6 : decode cZ_open 6 = .ok (.iload 4, 2) := by decide +kernel
theorem dZ_open_8 : decode cZ_open 8 = .ok (.iload_n 1, 1) := by decide +kernel
theorem dZ_open_9 : decode cZ_open 9 = .ok (.if_icmp .le 25, 3) := by decide +kernel
theorem dZ_open_12 : decode cZ_open 12 = .ok (.aload_n 0, 1) := by decide +kernel
theorem dZ_open_13 : decode cZ_open 13 = .ok (.getfield 9, 3) := by decide +kernel
theorem dZ_open_16 : decode cZ_open 16 = .ok (.iload 4, 2) := by decide +kernel
theorem dZ_open_18 : decode cZ_open 18 = .ok (.aload_n 0, 1) := by decide +kernel
theorem dZ_open_19 : decode cZ_open 19 = .ok (.getfield 9, 3) := by decide +kernel
theorem dZ_open_22 : decode cZ_open 22 = .ok (.iload 4, 2) := by decide +kernel
theorem dZ_open_24 : decode cZ_open 24 = .ok (.iconst 1, 1) := by decide +kernel
theorem dZ_open_25 : decode cZ_open 25 = .ok (.isub, 1) := by decide +kernel
theorem dZ_open_26 : decode cZ_open 26 = .ok (.iaload, 1) := by decide +kernel
theorem dZ_open_27 : decode cZ_open 27 = .ok (.iastore, 1) := by decide +kernel
theorem dZ_open_28 : decode cZ_open 28 = .ok (.iinc 4 (-1), 3) := by decide +kernel
theorem dZ_open_31 : decode cZ_open 31 = .ok (.goto (-25), 3) := by decide +kernel
theorem dZ_open_34 : decode cZ_open 34 = .ok (.aload_n 0, 1) := by decide +kernel
theorem dZ_open_35 : decode cZ_open 35 = .ok (.getfield 9, 3) := by decide +kernel
theorem dZ_open_38 : decode cZ_open 38 = .ok (.iload_n 1, 1) := by decide +kernel
theorem dZ_open_39 : decode cZ_open 39 = .ok (.aload_n 0, 1) := by decide +kernel
theorem dZ_open_40 : decode cZ_open 40 = .ok (.getfield 22, 3) := by decide +kernel
theorem dZ_open_43 : decode cZ_open 43 = .ok (.iastore, 1) := by decide +kernel
theorem dZ_open_44 : decode cZ_open 44 = .ok (.aload_n 0, 1) := by decide +kernel
theorem dZ_open_45 : decode cZ_open 45 = .ok (.getfield 13, 3) := by decide +kernel
theorem dZ_open_48 : decode cZ_open 48 = .ok (.aload_n 0, 1) := by decide +kernel
theorem dZ_open_49 : decode cZ_open 49 = .ok (.getfield 22, 3) := by decide +kernel
theorem dZ_open_52 : decode cZ_open 52 = .ok (.iload_n 2, 1) := by decide +kernel
theorem dZ_open_53 : decode cZ_open 53 = .ok (.iastore, 1) := by decide +kernel
theorem dZ_open_54 : decode cZ_open 54 = .ok (.aload_n 0, 1) := by decide +kernel
theorem dZ_open_55 : decode cZ_open 55 = .ok (.getfield 16, 3) := by decide +kernel
theorem dZ_open_58 : decode cZ_open 58 = .ok (.aload_n 0, 1) := by decide +kernel
theorem dZ_open_59 : decode cZ_open 59 = .ok (.getfield 22, 3) := by decide +kernel
theorem dZ_open_62 : decode cZ_open 62 = .ok (.iload_n 3, 1) := by decide +kernel
theorem dZ_open_63 : decode cZ_open 63 = .ok (.iastore, 1) := by decide +kernel
theorem dZ_open_64 : decode cZ_open 64 = .ok (.aload_n 0, 1) := by decide +kernel
theorem dZ_open_65 : decode cZ_open 65 = .ok (.dup, 1) := by decide +kernel
theorem dZ_open_66 : decode cZ_open 66 = .ok (.getfield 22, 3) := by decide +kernel
theorem dZ_open_69 : decode cZ_open 69 = .ok (.iconst 1, 1) := by decide +kernel
theorem dZ_open_70 : decode cZ_open 70 = .ok (.iadd, 1) := by decide +kernel
theorem dZ_open_71 : decode cZ_open 71 = .ok (.putfield 22, 3) := by decide +kernel
theorem dZ_open_74 : decode cZ_open 74 = .ok (.return_, 1) := by decide +kernel
theorem dZ_behind0_0 : decode cZ_behind0 0 = .ok (.iload_n 2, 1) := by decide +kernel
theorem dZ_behind0_1 : decode cZ_behind0 1 = .ok (.iconst 1, 1) := by decide +kernel
theorem dZ_behind0_2 : decode cZ_behind0 2 = .ok (.if_icmp .lt 29, 3) := by decide +kernel
theorem dZ_behind0_5 : decode cZ_behind0 5 = .ok (.iload_n 2, 1) := by decide +kernel
theorem dZ_behind0_6 : decode cZ_behind0 6 = .ok (.sipush 200, 3) := by decide +kernel
theorem dZ_behind0_9 : decode cZ_behind0 9 = .ok (.if_icmp .gt 22, 3) := by decide +kernel
theorem dZ_behind0_12 : decode cZ_behind0 12 = .ok (.iload_n 3, 1) := by decide +kernel
theorem dZ_behind0_13 : decode cZ_behind0 13 = .ok (.invokestatic 29, 3) := by decide +kernel
theorem dZ_behind0_16 : decode cZ_behind0 16 = .ok (.ifCond .eq 15, 3) := by decide +kernel
theorem dZ_behind0_19 : decode cZ_behind0 19 = .ok (.iload 4, 2) := by decide +kernel
theorem dZ_behind0_21 : decode cZ_behind0 21 = .ok (.invokestatic 29, 3) := by decide +kernel
theorem dZ_behind0_24 : decode cZ_behind0 24 = .ok (.ifCond .eq 7, 3) := by decide +kernel
theorem dZ_behind0_27 : decode cZ_behind0 27 = .ok (.iconst 1, 1) := by decide +kernel
theorem dZ_behind0_28 : decode cZ_behind0 28 = .ok (.goto 4, 3) := by decide +kernel
theorem dZ_behind0_31 : decode cZ_behind0 31 = .ok (.iconst 0, 1) := by decide +kernel
theorem dZ_behind0_32 : decode cZ_behind0 32 = .ok (.invokestatic 33, 3) := by decide +kernel
theorem dZ_behind0_35 : decode cZ_behind0 35 = .ok (.iload_n 1, 1) := by decide +kernel
theorem dZ_behind0_36 : decode cZ_behind0 36 = .ok (.iconst (-1), 1) := by decide +kernel
theorem dZ_behind0_37 : decode cZ_behind0 37 = .ok (.if_icmp .eq 8, 3) := by decide +kernel
theorem dZ_behind0_40 : decode cZ_behind0 40 = .ok (.aload_n 0, 1) := by decide +kernel
theorem dZ_behind0_41 : decode cZ_behind0 41 = .ok (.iload_n 1, 1) := by decide +kernel
theorem dZ_behind0_42 : decode cZ_behind0 42 = .ok (.invokevirtual 37, 3) := by decide +kernel
theorem dZ_behind0_45 : decode cZ_behind0 45 = .ok (.aload_n 0, 1) := by decide +kernel
theorem dZ_behind0_46 : decode cZ_behind0 46 = .ok (.getfield 22, 3) := by decide +kernel
theorem dZ_behind0_49 : decode cZ_behind0 49 = .ok (.iload_n 2, 1) := by decide +kernel
theorem dZ_behind0_50 : decode cZ_behind0 50 = .ok (.iadd, 1) := by decide +kernel
theorem dZ_behind0_51 : decode cZ_behind0 51 = .ok (.sipush 4000, 3) := by decide +kernel
theorem dZ_behind0_54 : decode cZ_behind0 54 = .ok (.if_icmp .le 11, 3) := by decide +kernel
theorem dZ_behind0_57 : decode cZ_behind0 57 = .ok (.new 41, 3) := by decide +kernel
theorem dZ_behind0_60 : decode cZ_behind0 60 = .ok (.dup, 1) := by decide +kernel
theorem dZ_behind0_61 : decode cZ_behind0 61 = .ok (.invokespecial 43, 3) := by decide +kernel
theorem dZ_behind0_64 : decode cZ_behind0 64 = .ok (.athrow, 1) := by decide +kernel
theorem dZ_behind0_65 : decode cZ_behind0 65 = .ok (.iload_n 1, 1) := by decide +kernel
theorem dZ_behind0_66 : decode cZ_behind0 66 = .ok (.ifCond .ge 7, 3) := by decide +kernel
theorem dZ_behind0_69 : decode cZ_behind0 69 = .ok (.iconst 0, 1) := by decide +kernel
theorem dZ_behind0_70 : decode cZ_behind0 70 = .ok (.goto 10, 3) := by decide +kernel
theorem dZ_behind0_73 : decode cZ_behind0 73 = .ok (.aload_n 0, 1) := by decide +kernel
theorem dZ_behind0_74 : decode cZ_behind0 74 = .ok (.iload_n 1, 1) := by decide +kernel
theorem dZ_behind0_75 : decode cZ_behind0 75 = .ok (.invokevirtual 44, 3) := by decide +kernel
theorem dZ_behind0_78 : decode cZ_behind0 78 = .ok (.iconst 1, 1) := by decide +kernel
theorem dZ_behind0_79 : decode cZ_behind0 79 = .ok (.iadd, 1) := by decide +kernel
theorem dZ_behind0_80 : decode cZ_behind0 80 = .ok (.istore 5, 2) := by decide +kernel
theorem dZ_behind0_82 : decode cZ_behind0 82 = .ok (.iconst 0, 1) := by decide +kernel
theorem dZ_behind0_83 : decode cZ_behind0 83 = .ok (.istore 6, 2) := by decide +kernel
theorem dZ_behind0_85 : decode cZ_behind0 85 = .ok (.iload 6, 2) := by decide +kernel
theorem dZ_behind0_87 : decode cZ_behind0 87 = .ok (.iload_n 2, 1) := by decide +kernel
theorem dZ_behind0_88 : decode cZ_behind0 88 = .ok (.if_icmp .ge 21, 3) := by decide +kernel
theorem dZ_behind0_91 : decode cZ_behind0 91 = .ok (.aload_n 0, 1) := by decide +kernel
theorem dZ_behind0_92 : decode cZ_behind0 92 = .ok (.iload 5, 2) := by decide +kernel
theorem dZ_behind0_94 : decode cZ_behind0 94 = .ok (.iload 6, 2) := by decide +kernel
theorem dZ_behind0_96 : decode cZ_behind0 96 = .ok (.iadd, 1) := by decide +kernel
theorem dZ_behind0_97 : decode cZ_behind0 97 = .ok (.iload_n 3, 1) := by decide +kernel
theorem dZ_behind0_98 : decode cZ_behind0 98 = .ok (.iload 4, 2) := by decide +kernel
theorem dZ_behind0_100 : decode cZ_behind0 100 = .ok (.invokevirtual 48, 3) := by decide +kernel
theorem dZ_behind0_103 : decode cZ_behind0 103 = .ok (.iinc 6 1, 3) := by decide +kernel
theorem dZ_behind0_106 : decode cZ_behind0 106 = .ok (.goto (-21), 3) := by decide +kernel
theorem dZ_behind0_109 : decode cZ_behind0 109 = .ok (.aload_n 0, 1) := by decide +kernel
theorem dZ_behind0_110 : decode cZ_behind0 110 = .ok (.getfield 22, 3) := by decide +kernel
theorem dZ_behind0_113 : decode cZ_behind0 113 = .ok (.iconst 1, 1) := by decide +kernel
theorem dZ_behind0_114 : decode cZ_behind0 114 = .ok (.isub, 1) := by decide +kernel
theorem dZ_behind0_115 : decode cZ_behind0 115 = .ok (.ireturn, 1) := by decide +kernel
theorem dZ_before0_0 : decode cZ_before0 0 = .ok (.iload_n 2, 1) := by decide +kernel
theorem dZ_before0_1 : decode cZ_before0 1 = .ok (.invokestatic 29, 3) := by decide +kernel
theorem dZ_before0_4 : decode cZ_before0 4 = .ok (.ifCond .eq 14, 3) := by decide +kernel
theorem dZ_before0_7 : decode cZ_before0 7 = .ok (.iload_n 3, 1) := by decide +kernel
theorem dZ_before0_8 : decode cZ_before0 8 = .ok (.invokestatic 29, 3) := by decide +kernel
theorem dZ_before0_11 : decode cZ_before0 11 = .ok (.ifCond .eq 7, 3) := by decide +kernel
theorem dZ_before0_14 : decode cZ_before0 14 = .ok (.iconst 1, 1) := by decide +kernel
theorem dZ_before0_15 : decode cZ_before0 15 = .ok (.goto 4, 3) := by decide +kernel
theorem dZ_before0_18 : decode cZ_before0 18 = .ok (.iconst 0, 1) := by decide +kernel
theorem dZ_before0_19 : decode cZ_before0 19 = .ok (.invokestatic 33, 3) := by decide +kernel
theorem dZ_before0_22 : decode cZ_before0 22 = .ok (.aload_n 0, 1) := by decide +kernel
theorem dZ_before0_23 : decode cZ_before0 23 = .ok (.iload_n 1, 1) := by decide +kernel
theorem dZ_before0_24 : decode cZ_before0 24 = .ok (.invokevirtual 37, 3) := by decide +kernel
theorem dZ_before0_27 : decode cZ_before0 27 = .ok (.aload_n 0, 1) := by decide +kernel
theorem dZ_before0_28 : decode cZ_before0 28 = .ok (.getfield 22, 3) := by decide +kernel
theorem dZ_before0_31 : decode cZ_before0 31 = .ok (.sipush 4000, 3) := by decide +kernel
theorem dZ_before0_34 : decode cZ_before0 34 = .ok (.if_icmp .ne 11, 3) := by decide +kernel
theorem dZ_before0_37 : decode cZ_before0 37 = .ok (.new 41, 3) := by decide +kernel
theorem dZ_before0_40 : decode cZ_before0 40 = .ok (.dup, 1) := by decide +kernel
theorem dZ_before0_41 : decode cZ_before0 41 = .ok (.invokespecial 43, 3) := by decide +kernel
theorem dZ_before0_44 : decode cZ_before0 44 = .ok (.athrow, 1) := by decide +kernel
theorem dZ_before0_45 : decode cZ_before0 45 = .ok (.aload_n 0, 1) := by decide +kernel
theorem dZ_before0_46 : decode cZ_before0 46 = .ok (.aload_n 0, 1) := by decide +kernel
theorem dZ_before0_47 : decode cZ_before0 47 = .ok (.iload_n 1, 1) := by decide +kernel
theorem dZ_before0_48 : decode cZ_before0 48 = .ok (.invokevirtual 44, 3) := by decide +kernel
theorem dZ_before0_51 : decode cZ_before0 51 = .ok (.iload_n 2, 1) := by decide +kernel
theorem dZ_before0_52 : decode cZ_before0 52 = .ok (.iload_n 3, 1) := by decide +kernel
theorem dZ_before0_53 : decode cZ_before0 53 = .ok (.invokevirtual 48, 3) := by decide +kernel
theorem dZ_before0_56 : decode cZ_before0 56 = .ok (.aload_n 0, 1) := by decide +kernel
theorem dZ_before0_57 : decode cZ_before0 57 = .ok (.getfield 22, 3) := by decide +kernel
theorem dZ_before0_60 : decode cZ_before0 60 = .ok (.iconst 1, 1) := by decide +kernel
theorem dZ_before0_61 : decode cZ_before0 61 = .ok (.isub, 1) := by decide +kernel
theorem dZ_before0_62 : decode cZ_before0 62 = .ok (.ireturn, 1) := by decide +kernel
theorem dZ_weigh0_0 : decode cZ_weigh0 0 = .ok (.iload_n 2, 1) := by decide +kernel
theorem dZ_weigh0_1 : decode cZ_weigh0 1 = .ok (.invokestatic 29, 3) := by decide +kernel
theorem dZ_weigh0_4 : decode cZ_weigh0 4 = .ok (.ifCond .eq 14, 3) := by decide +kernel
theorem dZ_weigh0_7 : decode cZ_weigh0 7 = .ok (.iload_n 3, 1) := by decide +kernel
theorem dZ_weigh0_8 : decode cZ_weigh0 8 = .ok (.invokestatic 29, 3) := by decide +kernel
theorem dZ_weigh0_11 : decode cZ_weigh0 11 = .ok (.ifCond .eq 7, 3) := by decide +kernel
theorem dZ_weigh0_14 : decode cZ_weigh0 14 = .ok (.iconst 1, 1) := by decide +kernel
theorem dZ_weigh0_15 : decode cZ_weigh0 15 = .ok (.goto 4, 3) := by decide +kernel
theorem dZ_weigh0_18 : decode cZ_weigh0 18 = .ok (.iconst 0, 1) := by decide +kernel
theorem dZ_weigh0_19 : decode cZ_weigh0 19 = .ok (.invokestatic 33, 3) := by decide +kernel
theorem dZ_weigh0_22 : decode cZ_weigh0 22 = .ok (.aload_n 0, 1) := by decide +kernel
theorem dZ_weigh0_23 : decode cZ_weigh0 23 = .ok (.iload_n 1, 1) := by decide +kernel
theorem dZ_weigh0_24 : decode cZ_weigh0 24 = .ok (.invokevirtual 37, 3) := by decide +kernel
theorem dZ_weigh0_27 : decode cZ_weigh0 27 = .ok (.aload_n 0, 1) := by decide +kernel
theorem dZ_weigh0_28 : decode cZ_weigh0 28 = .ok (.getfield 13, 3) := by decide +kernel
theorem dZ_weigh0_31 : decode cZ_weigh0 31 = .ok (.iload_n 1, 1) := by decide +kernel
theorem dZ_weigh0_32 : decode cZ_weigh0 32 = .ok (.iaload, 1) := by decide +kernel
theorem dZ_weigh0_33 : decode cZ_weigh0 33 = .ok (.istore 4, 2) := by decide +kernel
theorem dZ_weigh0_35 : decode cZ_weigh0 35 = .ok (.aload_n 0, 1) := by decide +kernel
theorem dZ_weigh0_36 : decode cZ_weigh0 36 = .ok (.getfield 13, 3) := by decide +kernel
theorem dZ_weigh0_39 : decode cZ_weigh0 39 = .ok (.iload_n 1, 1) := by decide +kernel
theorem dZ_weigh0_40 : decode cZ_weigh0 40 = .ok (.iload_n 2, 1) := by decide +kernel
theorem dZ_weigh0_41 : decode cZ_weigh0 41 = .ok (.iastore, 1) := by decide +kernel
theorem dZ_weigh0_42 : decode cZ_weigh0 42 = .ok (.aload_n 0, 1) := by decide +kernel
theorem dZ_weigh0_43 : decode cZ_weigh0 43 = .ok (.getfield 16, 3) := by decide +kernel
theorem dZ_weigh0_46 : decode cZ_weigh0 46 = .ok (.iload_n 1, 1) := by decide +kernel
theorem dZ_weigh0_47 : decode cZ_weigh0 47 = .ok (.iload_n 3, 1) := by decide +kernel
theorem dZ_weigh0_48 : decode cZ_weigh0 48 = .ok (.iastore, 1) := by decide +kernel
theorem dZ_weigh0_49 : decode cZ_weigh0 49 = .ok (.iload 4, 2) := by decide +kernel
theorem dZ_weigh0_51 : decode cZ_weigh0 51 = .ok (.ireturn, 1) := by decide +kernel
theorem dZ_find0_0 : decode cZ_find0 0 = .ok (.iconst 0, 1) := by decide +kernel
theorem dZ_find0_1 : decode cZ_find0 1 = .ok (.istore_n 2, 1) := by decide +kernel
theorem dZ_find0_2 : decode cZ_find0 2 = .ok (.iconst 0, 1) := by decide +kernel
theorem dZ_find0_3 : decode cZ_find0 3 = .ok (.istore_n 3, 1) := by decide +kernel
theorem dZ_find0_4 : decode cZ_find0 4 = .ok (.iload_n 3, 1) := by decide +kernel
theorem dZ_find0_5 : decode cZ_find0 5 = .ok (.aload_n 0, 1) := by decide +kernel
theorem dZ_find0_6 : decode cZ_find0 6 = .ok (.getfield 22, 3) := by decide +kernel
theorem dZ_find0_9 : decode cZ_find0 9 = .ok (.if_icmp .ge 39, 3) := by decide +kernel
theorem dZ_find0_12 : decode cZ_find0 12 = .ok (.iload_n 1, 1) := by decide +kernel
theorem dZ_find0_13 : decode cZ_find0 13 = .ok (.ifCond .lt 35, 3) := by decide +kernel
theorem dZ_find0_16 : decode cZ_find0 16 = .ok (.iload_n 2, 1) := by decide +kernel
theorem dZ_find0_17 : decode cZ_find0 17 = .ok (.aload_n 0, 1) := by decide +kernel
theorem dZ_find0_18 : decode cZ_find0 18 = .ok (.getfield 13, 3) := by decide +kernel
theorem dZ_find0_21 : decode cZ_find0 21 = .ok (.aload_n 0, 1) := by decide +kernel
theorem dZ_find0_22 : decode cZ_find0 22 = .ok (.getfield 9, 3) := by decide +kernel
theorem dZ_find0_25 : decode cZ_find0 25 = .ok (.iload_n 3, 1) := by decide +kernel
theorem dZ_find0_26 : decode cZ_find0 26 = .ok (.iaload, 1) := by decide +kernel
theorem dZ_find0_27 : decode cZ_find0 27 = .ok (.iaload, 1) := by decide +kernel
theorem dZ_find0_28 : decode cZ_find0 28 = .ok (.iadd, 1) := by decide +kernel
theorem dZ_find0_29 : decode cZ_find0 29 = .ok (.istore_n 2, 1) := by decide +kernel
theorem dZ_find0_30 : decode cZ_find0 30 = .ok (.iload_n 2, 1) := by decide +kernel
theorem dZ_find0_31 : decode cZ_find0 31 = .ok (.iload_n 1, 1) := by decide +kernel
theorem dZ_find0_32 : decode cZ_find0 32 = .ok (.if_icmp .le 10, 3) := by decide +kernel
theorem dZ_find0_35 : decode cZ_find0 35 = .ok (.aload_n 0, 1) := by decide +kernel
theorem dZ_find0_36 : decode cZ_find0 36 = .ok (.getfield 9, 3) := by decide +kernel
theorem dZ_find0_39 : decode cZ_find0 39 = .ok (.iload_n 3, 1) := by decide +kernel
theorem dZ_find0_40 : decode cZ_find0 40 = .ok (.iaload, 1) := by decide +kernel
theorem dZ_find0_41 : decode cZ_find0 41 = .ok (.ireturn, 1) := by decide +kernel
theorem dZ_find0_42 : decode cZ_find0 42 = .ok (.iinc 3 1, 3) := by decide +kernel
theorem dZ_find0_45 : decode cZ_find0 45 = .ok (.goto (-41), 3) := by decide +kernel
theorem dZ_find0_48 : decode cZ_find0 48 = .ok (.new 26, 3) := by decide +kernel
theorem dZ_find0_51 : decode cZ_find0 51 = .ok (.dup, 1) := by decide +kernel
theorem dZ_find0_52 : decode cZ_find0 52 = .ok (.invokespecial 28, 3) := by decide +kernel
theorem dZ_find0_55 : decode cZ_find0 55 = .ok (.athrow, 1) := by decide +kernel
theorem dZ_sum0_0 : decode cZ_sum0 0 = .ok (.iload_n 2, 1) := by decide +kernel
theorem dZ_sum0_1 : decode cZ_sum0 1 = .ok (.ifCond .eq 8, 3) := by decide +kernel
theorem dZ_sum0_4 : decode cZ_sum0 4 = .ok (.iload_n 2, 1) := by decide +kernel
theorem dZ_sum0_5 : decode cZ_sum0 5 = .ok (.iconst 1, 1) := by decide +kernel
theorem dZ_sum0_6 : decode cZ_sum0 6 = .ok (.if_icmp .ne 7, 3) := by decide +kernel
theorem dZ_sum0_9 : decode cZ_sum0 9 = .ok (.iconst 1, 1) := by decide +kernel
theorem dZ_sum0_10 : decode cZ_sum0 10 = .ok (.goto 4, 3) := by decide +kernel
theorem dZ_sum0_13 : decode cZ_sum0 13 = .ok (.iconst 0, 1) := by decide +kernel
theorem dZ_sum0_14 : decode cZ_sum0 14 = .ok (.invokestatic 33, 3) := by decide +kernel
theorem dZ_sum0_17 : decode cZ_sum0 17 = .ok (.iload_n 1, 1) := by decide +kernel
theorem dZ_sum0_18 : decode cZ_sum0 18 = .ok (.iconst (-1), 1) := by decide +kernel
theorem dZ_sum0_19 : decode cZ_sum0 19 = .ok (.if_icmp .eq 8, 3) := by decide +kernel
theorem dZ_sum0_22 : decode cZ_sum0 22 = .ok (.aload_n 0, 1) := by decide +kernel
theorem dZ_sum0_23 : decode cZ_sum0 23 = .ok (.iload_n 1, 1) := by decide +kernel
theorem dZ_sum0_24 : decode cZ_sum0 24 = .ok (.invokevirtual 37, 3) := by decide +kernel
theorem dZ_sum0_27 : decode cZ_sum0 27 = .ok (.iconst 0, 1) := by decide +kernel
theorem dZ_sum0_28 : decode cZ_sum0 28 = .ok (.istore_n 3, 1) := by decide +kernel
theorem dZ_sum0_29 : decode cZ_sum0 29 = .ok (.iconst 0, 1) := by decide +kernel
theorem dZ_sum0_30 : decode cZ_sum0 30 = .ok (.istore 4, 2) := by decide +kernel
theorem dZ_sum0_32 : decode cZ_sum0 32 = .ok (.iload 4, 2) := by decide +kernel
theorem dZ_sum0_34 : decode cZ_sum0 34 = .ok (.aload_n 0, 1) := by decide +kernel
theorem dZ_sum0_35 : decode cZ_sum0 35 = .ok (.getfield 22, 3) := by decide +kernel
theorem dZ_sum0_38 : decode cZ_sum0 38 = .ok (.if_icmp .ge 54, 3) := by decide +kernel
theorem dZ_sum0_41 : decode cZ_sum0 41 = .ok (.aload_n 0, 1) := by decide +kernel
theorem dZ_sum0_42 : decode cZ_sum0 42 = .ok (.getfield 9, 3) := by decide +kernel
theorem dZ_sum0_45 : decode cZ_sum0 45 = .ok (.iload 4, 2) := by decide +kernel
theorem dZ_sum0_47 : decode cZ_sum0 47 = .ok (.iaload, 1) := by decide +kernel
theorem dZ_sum0_48 : decode cZ_sum0 48 = .ok (.iload_n 1, 1) := by decide +kernel
theorem dZ_sum0_49 : decode cZ_sum0 49 = .ok (.if_icmp .eq 43, 3) := by decide +kernel
theorem dZ_sum0_52 : decode cZ_sum0 52 = .ok (.iload_n 3, 1) := by decide +kernel
theorem dZ_sum0_53 : decode cZ_sum0 53 = .ok (.iload_n 2, 1) := by decide +kernel
theorem dZ_sum0_54 : decode cZ_sum0 54 = .ok (.ifCond .ne 18, 3) := by decide +kernel
theorem dZ_sum0_57 : decode cZ_sum0 57 = .ok (.aload_n 0, 1) := by decide +kernel
theorem dZ_sum0_58 : decode cZ_sum0 58 = .ok (.getfield 13, 3) := by decide +kernel
theorem dZ_sum0_61 : decode cZ_sum0 61 = .ok (.aload_n 0, 1) := by decide +kernel
theorem dZ_sum0_62 : decode cZ_sum0 62 = .ok (.getfield 9, 3) := by decide +kernel
theorem dZ_sum0_65 : decode cZ_sum0 65 = .ok (.iload 4, 2) := by decide +kernel
theorem dZ_sum0_67 : decode cZ_sum0 67 = .ok (.iaload, 1) := by decide +kernel
theorem dZ_sum0_68 : decode cZ_sum0 68 = .ok (.iaload, 1) := by decide +kernel
theorem dZ_sum0_69 : decode cZ_sum0 69 = .ok (.goto 15, 3) := by decide +kernel
theorem dZ_sum0_72 : decode cZ_sum0 72 = .ok (.aload_n 0, 1) := by decide +kernel
theorem dZ_sum0_73 : decode cZ_sum0 73 = .ok (.getfield 16, 3) := by decide +kernel
theorem dZ_sum0_76 : decode cZ_sum0 76 = .ok (.aload_n 0, 1) := by decide +kernel
theorem dZ_sum0_77 : decode cZ_sum0 77 = .ok (.getfield 9, 3) := by decide +kernel
theorem dZ_sum0_80 : decode cZ_sum0 80 = .ok (.iload 4, 2) := by decide +kernel
theorem dZ_sum0_82 : decode cZ_sum0 82 = .ok (.iaload, 1) := by decide +kernel
theorem dZ_sum0_83 : decode cZ_sum0 83 = .ok (.iaload, 1) := by decide +kernel
theorem dZ_sum0_84 : decode cZ_sum0 84 = .ok (.iadd, 1) := by decide +kernel
theorem dZ_sum0_85 : decode cZ_sum0 85 = .ok (.istore_n 3, 1) := by decide +kernel
theorem dZ_sum0_86 : decode cZ_sum0 86 = .ok (.iinc 4 1, 3) := by decide +kernel
theorem dZ_sum0_89 : decode cZ_sum0 89 = .ok (.goto (-57), 3) := by decide +kernel
theorem dZ_sum0_92 : decode cZ_sum0 92 = .ok (.iload_n 3, 1) := by decide +kernel
theorem dZ_sum0_93 : decode cZ_sum0 93 = .ok (.ireturn, 1) := by decide +kernel
theorem dZ_next0_0 : decode cZ_next0 0 = .ok (.iload_n 1, 1) := by decide +kernel
theorem dZ_next0_1 : decode cZ_next0 1 = .ok (.iconst (-1), 1) := by decide +kernel
theorem dZ_next0_2 : decode cZ_next0 2 = .ok (.if_icmp .eq 8, 3) := by decide +kernel
theorem dZ_next0_5 : decode cZ_next0 5 = .ok (.aload_n 0, 1) := by decide +kernel
theorem dZ_next0_6 : decode cZ_next0 6 = .ok (.iload_n 1, 1) := by decide +kernel
theorem dZ_next0_7 : decode cZ_next0 7 = .ok (.invokevirtual 37, 3) := by decide +kernel
theorem dZ_next0_10 : decode cZ_next0 10 = .ok (.iload_n 1, 1) := by decide +kernel
theorem dZ_next0_11 : decode cZ_next0 11 = .ok (.ifCond .ge 7, 3) := by decide +kernel
theorem dZ_next0_14 : decode cZ_next0 14 = .ok (.iconst 0, 1) := by decide +kernel
theorem dZ_next0_15 : decode cZ_next0 15 = .ok (.goto 10, 3) := by decide +kernel
theorem dZ_next0_18 : decode cZ_next0 18 = .ok (.aload_n 0, 1) := by decide +kernel
theorem dZ_next0_19 : decode cZ_next0 19 = .ok (.iload_n 1, 1) := by decide +kernel
theorem dZ_next0_20 : decode cZ_next0 20 = .ok (.invokevirtual 44, 3) := by decide +kernel
theorem dZ_next0_23 : decode cZ_next0 23 = .ok (.iconst 1, 1) := by decide +kernel
theorem dZ_next0_24 : decode cZ_next0 24 = .ok (.iadd, 1) := by decide +kernel
theorem dZ_next0_25 : decode cZ_next0 25 = .ok (.istore_n 2, 1) := by decide +kernel
theorem dZ_next0_26 : decode cZ_next0 26 = .ok (.iload_n 2, 1) := by decide +kernel
theorem dZ_next0_27 : decode cZ_next0 27 = .ok (.aload_n 0, 1) := by decide +kernel
theorem dZ_next0_28 : decode cZ_next0 28 = .ok (.getfield 22, 3) := by decide +kernel
theorem dZ_next0_31 : decode cZ_next0 31 = .ok (.if_icmp .ne 11, 3) := by decide +kernel
theorem dZ_next0_34 : decode cZ_next0 34 = .ok (.new 26, 3) := by decide +kernel
theorem dZ_next0_37 : decode cZ_next0 37 = .ok (.dup, 1) := by decide +kernel
theorem dZ_next0_38 : decode cZ_next0 38 = .ok (.invokespecial 28, 3) := by decide +kernel
theorem dZ_next0_41 : decode cZ_next0 41 = .ok (.athrow, 1) := by decide +kernel
theorem dZ_next0_42 : decode cZ_next0 42 = .ok (.aload_n 0, 1) := by decide +kernel
theorem dZ_next0_43 : decode cZ_next0 43 = .ok (.getfield 9, 3) := by decide +kernel
theorem dZ_next0_46 : decode cZ_next0 46 = .ok (.iload_n 2, 1) := by decide +kernel
theorem dZ_next0_47 : decode cZ_next0 47 = .ok (.iaload, 1) := by decide +kernel
theorem dZ_next0_48 : decode cZ_next0 48 = .ok (.ireturn, 1) := by decide +kernel
theorem dZ_place0_0 : decode cZ_place0 0 = .ok (.aload_n 0, 1) := by decide +kernel
theorem dZ_place0_1 : decode cZ_place0 1 = .ok (.iload_n 1, 1) := by decide +kernel
theorem dZ_place0_2 : decode cZ_place0 2 = .ok (.invokevirtual 37, 3) := by decide +kernel
theorem dZ_place0_5 : decode cZ_place0 5 = .ok (.aload_n 0, 1) := by decide +kernel
theorem dZ_place0_6 : decode cZ_place0 6 = .ok (.iload_n 1, 1) := by decide +kernel
theorem dZ_place0_7 : decode cZ_place0 7 = .ok (.invokevirtual 44, 3) := by decide +kernel
theorem dZ_place0_10 : decode cZ_place0 10 = .ok (.ireturn, 1) := by decide +kernel
theorem dZ_entries0_0 : decode cZ_entries0 0 = .ok (.aload_n 0, 1) := by decide +kernel
theorem dZ_entries0_1 : decode cZ_entries0 1 = .ok (.getfield 22, 3) := by decide +kernel
theorem dZ_entries0_4 : decode cZ_entries0 4 = .ok (.ireturn, 1) := by decide +kernel
theorem dZ_thrown_0 : decode cZ_thrown 0 = .ok (.aload_n 0, 1) := by decide +kernel
theorem dZ_thrown_1 : decode cZ_thrown 1 = .ok (.getfield 52, 3) := by decide +kernel
theorem dZ_thrown_4 : decode cZ_thrown 4 = .ok (.ireturn, 1) := by decide +kernel
theorem dZ_behind_0 : decode cZ_behind 0 = .ok (.aload_n 0, 1) := by decide +kernel
theorem dZ_behind_1 : decode cZ_behind 1 = .ok (.iconst 0, 1) := by decide +kernel
theorem dZ_behind_2 : decode cZ_behind 2 = .ok (.putfield 52, 3) := by decide +kernel
theorem dZ_behind_5 : decode cZ_behind 5 = .ok (.aload_n 0, 1) := by decide +kernel
theorem dZ_behind_6 : decode cZ_behind 6 = .ok (.iload_n 1, 1) := by decide +kernel
theorem dZ_behind_7 : decode cZ_behind 7 = .ok (.iload_n 2, 1) := by decide +kernel
theorem dZ_behind_8 : decode cZ_behind 8 = .ok (.iload_n 3, 1) := by decide +kernel
theorem dZ_behind_9 : decode cZ_behind 9 = .ok (.iload 4, 2) := by decide +kernel
theorem dZ_behind_11 : decode cZ_behind 11 = .ok (.invokevirtual 55, 3) := by decide +kernel
theorem dZ_behind_14 : decode cZ_behind 14 = .ok (.ireturn, 1) := by decide +kernel
theorem dZ_behind_15 : decode cZ_behind 15 = .ok (.astore 5, 2) := by decide +kernel
theorem dZ_behind_17 : decode cZ_behind 17 = .ok (.aload_n 0, 1) := by decide +kernel
theorem dZ_behind_18 : decode cZ_behind 18 = .ok (.iconst 1, 1) := by decide +kernel
theorem dZ_behind_19 : decode cZ_behind 19 = .ok (.putfield 52, 3) := by decide +kernel
theorem dZ_behind_22 : decode cZ_behind 22 = .ok (.goto 20, 3) := by decide +kernel
theorem dZ_behind_25 : decode cZ_behind 25 = .ok (.astore 5, 2) := by decide +kernel
theorem dZ_behind_27 : decode cZ_behind 27 = .ok (.aload_n 0, 1) := by decide +kernel
theorem dZ_behind_28 : decode cZ_behind 28 = .ok (.iconst 2, 1) := by decide +kernel
theorem dZ_behind_29 : decode cZ_behind 29 = .ok (.putfield 52, 3) := by decide +kernel
theorem dZ_behind_32 : decode cZ_behind 32 = .ok (.goto 10, 3) := by decide +kernel
theorem dZ_behind_35 : decode cZ_behind 35 = .ok (.astore 5, 2) := by decide +kernel
theorem dZ_behind_37 : decode cZ_behind 37 = .ok (.aload_n 0, 1) := by decide +kernel
theorem dZ_behind_38 : decode cZ_behind 38 = .ok (.iconst 3, 1) := by decide +kernel
theorem dZ_behind_39 : decode cZ_behind 39 = .ok (.putfield 52, 3) := by decide +kernel
theorem dZ_behind_42 : decode cZ_behind 42 = .ok (.iconst 0, 1) := by decide +kernel
theorem dZ_behind_43 : decode cZ_behind 43 = .ok (.ireturn, 1) := by decide +kernel
theorem dZ_before_0 : decode cZ_before 0 = .ok (.aload_n 0, 1) := by decide +kernel
theorem dZ_before_1 : decode cZ_before 1 = .ok (.iconst 0, 1) := by decide +kernel
theorem dZ_before_2 : decode cZ_before 2 = .ok (.putfield 52, 3) := by decide +kernel
theorem dZ_before_5 : decode cZ_before 5 = .ok (.aload_n 0, 1) := by decide +kernel
theorem dZ_before_6 : decode cZ_before 6 = .ok (.iload_n 1, 1) := by decide +kernel
theorem dZ_before_7 : decode cZ_before 7 = .ok (.iload_n 2, 1) := by decide +kernel
theorem dZ_before_8 : decode cZ_before 8 = .ok (.iload_n 3, 1) := by decide +kernel
theorem dZ_before_9 : decode cZ_before 9 = .ok (.invokevirtual 59, 3) := by decide +kernel
theorem dZ_before_12 : decode cZ_before 12 = .ok (.ireturn, 1) := by decide +kernel
theorem dZ_before_13 : decode cZ_before 13 = .ok (.astore 4, 2) := by decide +kernel
theorem dZ_before_15 : decode cZ_before 15 = .ok (.aload_n 0, 1) := by decide +kernel
theorem dZ_before_16 : decode cZ_before 16 = .ok (.iconst 1, 1) := by decide +kernel
theorem dZ_before_17 : decode cZ_before 17 = .ok (.putfield 52, 3) := by decide +kernel
theorem dZ_before_20 : decode cZ_before 20 = .ok (.goto 20, 3) := by decide +kernel
theorem dZ_before_23 : decode cZ_before 23 = .ok (.astore 4, 2) := by decide +kernel
theorem dZ_before_25 : decode cZ_before 25 = .ok (.aload_n 0, 1) := by decide +kernel
theorem dZ_before_26 : decode cZ_before 26 = .ok (.iconst 2, 1) := by decide +kernel
theorem dZ_before_27 : decode cZ_before 27 = .ok (.putfield 52, 3) := by decide +kernel
theorem dZ_before_30 : decode cZ_before 30 = .ok (.goto 10, 3) := by decide +kernel
theorem dZ_before_33 : decode cZ_before 33 = .ok (.astore 4, 2) := by decide +kernel
theorem dZ_before_35 : decode cZ_before 35 = .ok (.aload_n 0, 1) := by decide +kernel
theorem dZ_before_36 : decode cZ_before 36 = .ok (.iconst 3, 1) := by decide +kernel
theorem dZ_before_37 : decode cZ_before 37 = .ok (.putfield 52, 3) := by decide +kernel
theorem dZ_before_40 : decode cZ_before 40 = .ok (.iconst 0, 1) := by decide +kernel
theorem dZ_before_41 : decode cZ_before 41 = .ok (.ireturn, 1) := by decide +kernel
theorem dZ_weigh_0 : decode cZ_weigh 0 = .ok (.aload_n 0, 1) := by decide +kernel
theorem dZ_weigh_1 : decode cZ_weigh 1 = .ok (.iconst 0, 1) := by decide +kernel
theorem dZ_weigh_2 : decode cZ_weigh 2 = .ok (.putfield 52, 3) := by decide +kernel
theorem dZ_weigh_5 : decode cZ_weigh 5 = .ok (.aload_n 0, 1) := by decide +kernel
theorem dZ_weigh_6 : decode cZ_weigh 6 = .ok (.iload_n 1, 1) := by decide +kernel
theorem dZ_weigh_7 : decode cZ_weigh 7 = .ok (.iload_n 2, 1) := by decide +kernel
theorem dZ_weigh_8 : decode cZ_weigh 8 = .ok (.iload_n 3, 1) := by decide +kernel
theorem dZ_weigh_9 : decode cZ_weigh 9 = .ok (.invokevirtual 63, 3) := by decide +kernel
theorem dZ_weigh_12 : decode cZ_weigh 12 = .ok (.ireturn, 1) := by decide +kernel
theorem dZ_weigh_13 : decode cZ_weigh 13 = .ok (.astore 4, 2) := by decide +kernel
theorem dZ_weigh_15 : decode cZ_weigh 15 = .ok (.aload_n 0, 1) := by decide +kernel
theorem dZ_weigh_16 : decode cZ_weigh 16 = .ok (.iconst 1, 1) := by decide +kernel
theorem dZ_weigh_17 : decode cZ_weigh 17 = .ok (.putfield 52, 3) := by decide +kernel
theorem dZ_weigh_20 : decode cZ_weigh 20 = .ok (.goto 10, 3) := by decide +kernel
theorem dZ_weigh_23 : decode cZ_weigh 23 = .ok (.astore 4, 2) := by decide +kernel
theorem dZ_weigh_25 : decode cZ_weigh 25 = .ok (.aload_n 0, 1) := by decide +kernel
theorem dZ_weigh_26 : decode cZ_weigh 26 = .ok (.iconst 2, 1) := by decide +kernel
theorem dZ_weigh_27 : decode cZ_weigh 27 = .ok (.putfield 52, 3) := by decide +kernel
theorem dZ_weigh_30 : decode cZ_weigh 30 = .ok (.iconst 0, 1) := by decide +kernel
theorem dZ_weigh_31 : decode cZ_weigh 31 = .ok (.ireturn, 1) := by decide +kernel
theorem dZ_find_0 : decode cZ_find 0 = .ok (.aload_n 0, 1) := by decide +kernel
theorem dZ_find_1 : decode cZ_find 1 = .ok (.iconst 0, 1) := by decide +kernel
theorem dZ_find_2 : decode cZ_find 2 = .ok (.putfield 52, 3) := by decide +kernel
theorem dZ_find_5 : decode cZ_find 5 = .ok (.aload_n 0, 1) := by decide +kernel
theorem dZ_find_6 : decode cZ_find 6 = .ok (.iload_n 1, 1) := by decide +kernel
theorem dZ_find_7 : decode cZ_find 7 = .ok (.invokevirtual 66, 3) := by decide +kernel
theorem dZ_find_10 : decode cZ_find 10 = .ok (.ireturn, 1) := by decide +kernel
theorem dZ_find_11 : decode cZ_find 11 = .ok (.astore_n 2, 1) := by decide +kernel
theorem dZ_find_12 : decode cZ_find 12 = .ok (.aload_n 0, 1) := by decide +kernel
theorem dZ_find_13 : decode cZ_find 13 = .ok (.iconst 1, 1) := by decide +kernel
theorem dZ_find_14 : decode cZ_find 14 = .ok (.putfield 52, 3) := by decide +kernel
theorem dZ_find_17 : decode cZ_find 17 = .ok (.iconst 0, 1) := by decide +kernel
theorem dZ_find_18 : decode cZ_find 18 = .ok (.ireturn, 1) := by decide +kernel
theorem dZ_sum_0 : decode cZ_sum 0 = .ok (.aload_n 0, 1) := by decide +kernel
theorem dZ_sum_1 : decode cZ_sum 1 = .ok (.iconst 0, 1) := by decide +kernel
theorem dZ_sum_2 : decode cZ_sum 2 = .ok (.putfield 52, 3) := by decide +kernel
theorem dZ_sum_5 : decode cZ_sum 5 = .ok (.aload_n 0, 1) := by decide +kernel
theorem dZ_sum_6 : decode cZ_sum 6 = .ok (.iload_n 1, 1) := by decide +kernel
theorem dZ_sum_7 : decode cZ_sum 7 = .ok (.iload_n 2, 1) := by decide +kernel
theorem dZ_sum_8 : decode cZ_sum 8 = .ok (.invokevirtual 69, 3) := by decide +kernel
theorem dZ_sum_11 : decode cZ_sum 11 = .ok (.ireturn, 1) := by decide +kernel
theorem dZ_sum_12 : decode cZ_sum 12 = .ok (.astore_n 3, 1) := by decide +kernel
theorem dZ_sum_13 : decode cZ_sum 13 = .ok (.aload_n 0, 1) := by decide +kernel
theorem dZ_sum_14 : decode cZ_sum 14 = .ok (.iconst 1, 1) := by decide +kernel
theorem dZ_sum_15 : decode cZ_sum 15 = .ok (.putfield 52, 3) := by decide +kernel
theorem dZ_sum_18 : decode cZ_sum 18 = .ok (.goto 9, 3) := by decide +kernel
theorem dZ_sum_21 : decode cZ_sum 21 = .ok (.astore_n 3, 1) := by decide +kernel
theorem dZ_sum_22 : decode cZ_sum 22 = .ok (.aload_n 0, 1) := by decide +kernel
theorem dZ_sum_23 : decode cZ_sum 23 = .ok (.iconst 2, 1) := by decide +kernel
theorem dZ_sum_24 : decode cZ_sum 24 = .ok (.putfield 52, 3) := by decide +kernel
theorem dZ_sum_27 : decode cZ_sum 27 = .ok (.iconst 0, 1) := by decide +kernel
theorem dZ_sum_28 : decode cZ_sum 28 = .ok (.ireturn, 1) := by decide +kernel
theorem dZ_next_0 : decode cZ_next 0 = .ok (.aload_n 0, 1) := by decide +kernel
theorem dZ_next_1 : decode cZ_next 1 = .ok (.iconst 0, 1) := by decide +kernel
theorem dZ_next_2 : decode cZ_next 2 = .ok (.putfield 52, 3) := by decide +kernel
theorem dZ_next_5 : decode cZ_next 5 = .ok (.aload_n 0, 1) := by decide +kernel
theorem dZ_next_6 : decode cZ_next 6 = .ok (.iload_n 1, 1) := by decide +kernel
theorem dZ_next_7 : decode cZ_next 7 = .ok (.invokevirtual 73, 3) := by decide +kernel
theorem dZ_next_10 : decode cZ_next 10 = .ok (.ireturn, 1) := by decide +kernel
theorem dZ_next_11 : decode cZ_next 11 = .ok (.astore_n 2, 1) := by decide +kernel
theorem dZ_next_12 : decode cZ_next 12 = .ok (.aload_n 0, 1) := by decide +kernel
theorem dZ_next_13 : decode cZ_next 13 = .ok (.iconst 1, 1) := by decide +kernel
theorem dZ_next_14 : decode cZ_next 14 = .ok (.putfield 52, 3) := by decide +kernel
theorem dZ_next_17 : decode cZ_next 17 = .ok (.iconst 0, 1) := by decide +kernel
theorem dZ_next_18 : decode cZ_next 18 = .ok (.ireturn, 1) := by decide +kernel
theorem dZ_place_0 : decode cZ_place 0 = .ok (.aload_n 0, 1) := by decide +kernel
theorem dZ_place_1 : decode cZ_place 1 = .ok (.iconst 0, 1) := by decide +kernel
theorem dZ_place_2 : decode cZ_place 2 = .ok (.putfield 52, 3) := by decide +kernel
theorem dZ_place_5 : decode cZ_place 5 = .ok (.aload_n 0, 1) := by decide +kernel
theorem dZ_place_6 : decode cZ_place 6 = .ok (.iload_n 1, 1) := by decide +kernel
theorem dZ_place_7 : decode cZ_place 7 = .ok (.invokevirtual 76, 3) := by decide +kernel
theorem dZ_place_10 : decode cZ_place 10 = .ok (.ireturn, 1) := by decide +kernel
theorem dZ_place_11 : decode cZ_place 11 = .ok (.astore_n 2, 1) := by decide +kernel
theorem dZ_place_12 : decode cZ_place 12 = .ok (.aload_n 0, 1) := by decide +kernel
theorem dZ_place_13 : decode cZ_place 13 = .ok (.iconst 1, 1) := by decide +kernel
theorem dZ_place_14 : decode cZ_place 14 = .ok (.putfield 52, 3) := by decide +kernel
theorem dZ_place_17 : decode cZ_place 17 = .ok (.iconst 0, 1) := by decide +kernel
theorem dZ_place_18 : decode cZ_place 18 = .ok (.ireturn, 1) := by decide +kernel
theorem dZ_entries_0 : decode cZ_entries 0 = .ok (.aload_n 0, 1) := by decide +kernel
theorem dZ_entries_1 : decode cZ_entries 1 = .ok (.iconst 0, 1) := by decide +kernel
theorem dZ_entries_2 : decode cZ_entries 2 = .ok (.putfield 52, 3) := by decide +kernel
theorem dZ_entries_5 : decode cZ_entries 5 = .ok (.aload_n 0, 1) := by decide +kernel
theorem dZ_entries_6 : decode cZ_entries 6 = .ok (.invokevirtual 79, 3) := by decide +kernel
theorem dZ_entries_9 : decode cZ_entries 9 = .ok (.ireturn, 1) := by decide +kernel
set_option maxRecDepth 100000 in
theorem gZ_behind0_Z_isWeight : GoodIn wsZ_behind0 (va_wsS RZ 29 yZ_isWeight wsZ_isWeight) := zg_app (c := .code yZ_behind0 cZ_behind0 7 (some .int)) (d := .code yZ_isWeight cZ_isWeight 1 (some .boolean)) (L := [.methodLink RZ 29 yZ_isWeight, .static yZ_isWeight, .initialized RZ]) (by decide +kernel) (by decide +kernel)
set_option maxRecDepth 100000 in
theorem gZ_behind0_Z_check : GoodIn wsZ_behind0 (va_wsS RZ 33 yZ_check wsZ_check) := zg_app (c := .code yZ_behind0 cZ_behind0 7 (some .int)) (d := .code yZ_check cZ_check 1 none) (L := [.methodLink RZ 33 yZ_check, .static yZ_check, .initialized RZ]) (by decide +kernel) (by decide +kernel)
set_option maxRecDepth 100000 in
theorem gZ_behind0_Z_there : GoodIn wsZ_behind0 (wsV RZ 37 RZ yZ_there wsZ_there) := zg_app (c := .code yZ_behind0 cZ_behind0 7 (some .int)) (d := .code yZ_there cZ_there 2 none) (L := [.methodLink RZ 37 yZ_there, .instanceMethod yZ_there, .selects RZ yZ_there yZ_there, .initialized RZ]) (by decide +kernel) (by decide +kernel)
set_option maxRecDepth 100000 in
theorem gZ_behind0_Z_inRow : GoodIn wsZ_behind0 (wsV RZ 44 RZ yZ_inRow wsZ_inRow) := zg_app (c := .code yZ_behind0 cZ_behind0 7 (some .int)) (d := .code yZ_inRow cZ_inRow 3 (some .int)) (L := [.methodLink RZ 44 yZ_inRow, .instanceMethod yZ_inRow, .selects RZ yZ_inRow yZ_inRow, .initialized RZ]) (by decide +kernel) (by decide +kernel)
set_option maxRecDepth 100000 in
theorem gZ_behind0_Z_open : GoodIn wsZ_behind0 (wsV RZ 48 RZ yZ_open wsZ_open) := zg_app (c := .code yZ_behind0 cZ_behind0 7 (some .int)) (d := .code yZ_open cZ_open 5 none) (L := [.methodLink RZ 48 yZ_open, .instanceMethod yZ_open, .selects RZ yZ_open yZ_open, .initialized RZ]) (by decide +kernel) (by decide +kernel)
set_option maxRecDepth 100000 in
theorem gZ_before0_Z_isWeight : GoodIn wsZ_before0 (va_wsS RZ 29 yZ_isWeight wsZ_isWeight) := zg_app (c := .code yZ_before0 cZ_before0 4 (some .int)) (d := .code yZ_isWeight cZ_isWeight 1 (some .boolean)) (L := [.methodLink RZ 29 yZ_isWeight, .static yZ_isWeight, .initialized RZ]) (by decide +kernel) (by decide +kernel)
set_option maxRecDepth 100000 in
theorem gZ_before0_Z_check : GoodIn wsZ_before0 (va_wsS RZ 33 yZ_check wsZ_check) := zg_app (c := .code yZ_before0 cZ_before0 4 (some .int)) (d := .code yZ_check cZ_check 1 none) (L := [.methodLink RZ 33 yZ_check, .static yZ_check, .initialized RZ]) (by decide +kernel) (by decide +kernel)
set_option maxRecDepth 100000 in
theorem gZ_before0_Z_there : GoodIn wsZ_before0 (wsV RZ 37 RZ yZ_there wsZ_there) := zg_app (c := .code yZ_before0 cZ_before0 4 (some .int)) (d := .code yZ_there cZ_there 2 none) (L := [.methodLink RZ 37 yZ_there, .instanceMethod yZ_there, .selects RZ yZ_there yZ_there, .initialized RZ]) (by decide +kernel) (by decide +kernel)
set_option maxRecDepth 100000 in
theorem gZ_before0_Z_inRow : GoodIn wsZ_before0 (wsV RZ 44 RZ yZ_inRow wsZ_inRow) := zg_app (c := .code yZ_before0 cZ_before0 4 (some .int)) (d := .code yZ_inRow cZ_inRow 3 (some .int)) (L := [.methodLink RZ 44 yZ_inRow, .instanceMethod yZ_inRow, .selects RZ yZ_inRow yZ_inRow, .initialized RZ]) (by decide +kernel) (by decide +kernel)
set_option maxRecDepth 100000 in
theorem gZ_before0_Z_open : GoodIn wsZ_before0 (wsV RZ 48 RZ yZ_open wsZ_open) := zg_app (c := .code yZ_before0 cZ_before0 4 (some .int)) (d := .code yZ_open cZ_open 5 none) (L := [.methodLink RZ 48 yZ_open, .instanceMethod yZ_open, .selects RZ yZ_open yZ_open, .initialized RZ]) (by decide +kernel) (by decide +kernel)
set_option maxRecDepth 100000 in
theorem gZ_weigh0_Z_isWeight : GoodIn wsZ_weigh0 (va_wsS RZ 29 yZ_isWeight wsZ_isWeight) := zg_app (c := .code yZ_weigh0 cZ_weigh0 5 (some .int)) (d := .code yZ_isWeight cZ_isWeight 1 (some .boolean)) (L := [.methodLink RZ 29 yZ_isWeight, .static yZ_isWeight, .initialized RZ]) (by decide +kernel) (by decide +kernel)
set_option maxRecDepth 100000 in
theorem gZ_weigh0_Z_check : GoodIn wsZ_weigh0 (va_wsS RZ 33 yZ_check wsZ_check) := zg_app (c := .code yZ_weigh0 cZ_weigh0 5 (some .int)) (d := .code yZ_check cZ_check 1 none) (L := [.methodLink RZ 33 yZ_check, .static yZ_check, .initialized RZ]) (by decide +kernel) (by decide +kernel)
set_option maxRecDepth 100000 in
theorem gZ_weigh0_Z_there : GoodIn wsZ_weigh0 (wsV RZ 37 RZ yZ_there wsZ_there) := zg_app (c := .code yZ_weigh0 cZ_weigh0 5 (some .int)) (d := .code yZ_there cZ_there 2 none) (L := [.methodLink RZ 37 yZ_there, .instanceMethod yZ_there, .selects RZ yZ_there yZ_there, .initialized RZ]) (by decide +kernel) (by decide +kernel)
set_option maxRecDepth 100000 in
theorem gZ_sum0_Z_check : GoodIn wsZ_sum0 (va_wsS RZ 33 yZ_check wsZ_check) := zg_app (c := .code yZ_sum0 cZ_sum0 5 (some .int)) (d := .code yZ_check cZ_check 1 none) (L := [.methodLink RZ 33 yZ_check, .static yZ_check, .initialized RZ]) (by decide +kernel) (by decide +kernel)
set_option maxRecDepth 100000 in
theorem gZ_sum0_Z_there : GoodIn wsZ_sum0 (wsV RZ 37 RZ yZ_there wsZ_there) := zg_app (c := .code yZ_sum0 cZ_sum0 5 (some .int)) (d := .code yZ_there cZ_there 2 none) (L := [.methodLink RZ 37 yZ_there, .instanceMethod yZ_there, .selects RZ yZ_there yZ_there, .initialized RZ]) (by decide +kernel) (by decide +kernel)
set_option maxRecDepth 100000 in
theorem gZ_next0_Z_there : GoodIn wsZ_next0 (wsV RZ 37 RZ yZ_there wsZ_there) := zg_app (c := .code yZ_next0 cZ_next0 3 (some .int)) (d := .code yZ_there cZ_there 2 none) (L := [.methodLink RZ 37 yZ_there, .instanceMethod yZ_there, .selects RZ yZ_there yZ_there, .initialized RZ]) (by decide +kernel) (by decide +kernel)
set_option maxRecDepth 100000 in
theorem gZ_next0_Z_inRow : GoodIn wsZ_next0 (wsV RZ 44 RZ yZ_inRow wsZ_inRow) := zg_app (c := .code yZ_next0 cZ_next0 3 (some .int)) (d := .code yZ_inRow cZ_inRow 3 (some .int)) (L := [.methodLink RZ 44 yZ_inRow, .instanceMethod yZ_inRow, .selects RZ yZ_inRow yZ_inRow, .initialized RZ]) (by decide +kernel) (by decide +kernel)
set_option maxRecDepth 100000 in
theorem gZ_place0_Z_there : GoodIn wsZ_place0 (wsV RZ 37 RZ yZ_there wsZ_there) := zg_app (c := .code yZ_place0 cZ_place0 2 (some .int)) (d := .code yZ_there cZ_there 2 none) (L := [.methodLink RZ 37 yZ_there, .instanceMethod yZ_there, .selects RZ yZ_there yZ_there, .initialized RZ]) (by decide +kernel) (by decide +kernel)
set_option maxRecDepth 100000 in
theorem gZ_place0_Z_inRow : GoodIn wsZ_place0 (wsV RZ 44 RZ yZ_inRow wsZ_inRow) := zg_app (c := .code yZ_place0 cZ_place0 2 (some .int)) (d := .code yZ_inRow cZ_inRow 3 (some .int)) (L := [.methodLink RZ 44 yZ_inRow, .instanceMethod yZ_inRow, .selects RZ yZ_inRow yZ_inRow, .initialized RZ]) (by decide +kernel) (by decide +kernel)
set_option maxRecDepth 100000 in
theorem gZ_behind_Z_behind0 : GoodIn wsZ_behind (wsV RZ 55 RZ yZ_behind0 wsZ_behind0) := zg_app (c := .codeWith yZ_behind cZ_behind 6 (some .int) [(5, 14, 15, 19), (5, 14, 25, 26), (5, 14, 35, 41)]) (d := .code yZ_behind0 cZ_behind0 7 (some .int)) (L := [.methodLink RZ 55 yZ_behind0, .instanceMethod yZ_behind0, .selects RZ yZ_behind0 yZ_behind0, .initialized RZ]) (by decide +kernel) (by decide +kernel)
set_option maxRecDepth 100000 in
theorem gZ_before_Z_before0 : GoodIn wsZ_before (wsV RZ 59 RZ yZ_before0 wsZ_before0) := zg_app (c := .codeWith yZ_before cZ_before 5 (some .int) [(5, 12, 13, 19), (5, 12, 23, 26), (5, 12, 33, 41)]) (d := .code yZ_before0 cZ_before0 4 (some .int)) (L := [.methodLink RZ 59 yZ_before0, .instanceMethod yZ_before0, .selects RZ yZ_before0 yZ_before0, .initialized RZ]) (by decide +kernel) (by decide +kernel)
set_option maxRecDepth 100000 in
theorem gZ_weigh_Z_weigh0 : GoodIn wsZ_weigh (wsV RZ 63 RZ yZ_weigh0 wsZ_weigh0) := zg_app (c := .codeWith yZ_weigh cZ_weigh 5 (some .int) [(5, 12, 13, 19), (5, 12, 23, 26)]) (d := .code yZ_weigh0 cZ_weigh0 5 (some .int)) (L := [.methodLink RZ 63 yZ_weigh0, .instanceMethod yZ_weigh0, .selects RZ yZ_weigh0 yZ_weigh0, .initialized RZ]) (by decide +kernel) (by decide +kernel)
set_option maxRecDepth 100000 in
theorem gZ_find_Z_find0 : GoodIn wsZ_find (wsV RZ 66 RZ yZ_find0 wsZ_find0) := zg_app (c := .codeWith yZ_find cZ_find 3 (some .int) [(5, 10, 11, 26)]) (d := .code yZ_find0 cZ_find0 4 (some .int)) (L := [.methodLink RZ 66 yZ_find0, .instanceMethod yZ_find0, .selects RZ yZ_find0 yZ_find0, .initialized RZ]) (by decide +kernel) (by decide +kernel)
set_option maxRecDepth 100000 in
theorem gZ_sum_Z_sum0 : GoodIn wsZ_sum (wsV RZ 69 RZ yZ_sum0 wsZ_sum0) := zg_app (c := .codeWith yZ_sum cZ_sum 4 (some .int) [(5, 11, 12, 19), (5, 11, 21, 26)]) (d := .code yZ_sum0 cZ_sum0 5 (some .int)) (L := [.methodLink RZ 69 yZ_sum0, .instanceMethod yZ_sum0, .selects RZ yZ_sum0 yZ_sum0, .initialized RZ]) (by decide +kernel) (by decide +kernel)
set_option maxRecDepth 100000 in
theorem gZ_next_Z_next0 : GoodIn wsZ_next (wsV RZ 73 RZ yZ_next0 wsZ_next0) := zg_app (c := .codeWith yZ_next cZ_next 3 (some .int) [(5, 10, 11, 26)]) (d := .code yZ_next0 cZ_next0 3 (some .int)) (L := [.methodLink RZ 73 yZ_next0, .instanceMethod yZ_next0, .selects RZ yZ_next0 yZ_next0, .initialized RZ]) (by decide +kernel) (by decide +kernel)
set_option maxRecDepth 100000 in
theorem gZ_place_Z_place0 : GoodIn wsZ_place (wsV RZ 76 RZ yZ_place0 wsZ_place0) := zg_app (c := .codeWith yZ_place cZ_place 3 (some .int) [(5, 10, 11, 26)]) (d := .code yZ_place0 cZ_place0 2 (some .int)) (L := [.methodLink RZ 76 yZ_place0, .instanceMethod yZ_place0, .selects RZ yZ_place0 yZ_place0, .initialized RZ]) (by decide +kernel) (by decide +kernel)
set_option maxRecDepth 100000 in
theorem gZ_entries_Z_entries0 : GoodIn wsZ_entries (wsV RZ 79 RZ yZ_entries0 wsZ_entries0) := zg_app (c := .code yZ_entries cZ_entries 1 (some .int)) (d := .code yZ_entries0 cZ_entries0 1 (some .int)) (L := [.methodLink RZ 79 yZ_entries0, .instanceMethod yZ_entries0, .selects RZ yZ_entries0 yZ_entries0, .initialized RZ]) (by decide +kernel) (by decide +kernel)
set_option maxRecDepth 100000 in
theorem gL2_Z_thrown : GoodIn wsL2 (wsV RL 50 RZ yZ_thrown wsZ_thrown) := zg_l2 (d := .code yZ_thrown cZ_thrown 1 (some .int)) (L := [.methodLink RL 50 yZ_thrown, .instanceMethod yZ_thrown, .selects RZ yZ_thrown yZ_thrown, .initialized RZ]) (by decide +kernel) (by decide +kernel)
set_option maxRecDepth 100000 in
theorem gL2_Z_behind : GoodIn wsL2 (wsV RL 49 RZ yZ_behind wsZ_behind) := zg_l2 (d := .codeWith yZ_behind cZ_behind 6 (some .int) [(5, 14, 15, 19), (5, 14, 25, 26), (5, 14, 35, 41)]) (L := [.methodLink RL 49 yZ_behind, .instanceMethod yZ_behind, .selects RZ yZ_behind yZ_behind, .initialized RZ]) (by decide +kernel) (by decide +kernel)
set_option maxRecDepth 100000 in
theorem gL2_Z_before : GoodIn wsL2 (wsV RL 57 RZ yZ_before wsZ_before) := zg_l2 (d := .codeWith yZ_before cZ_before 5 (some .int) [(5, 12, 13, 19), (5, 12, 23, 26), (5, 12, 33, 41)]) (L := [.methodLink RL 57 yZ_before, .instanceMethod yZ_before, .selects RZ yZ_before yZ_before, .initialized RZ]) (by decide +kernel) (by decide +kernel)
set_option maxRecDepth 100000 in
theorem gL2_Z_weigh : GoodIn wsL2 (wsV RL 60 RZ yZ_weigh wsZ_weigh) := zg_l2 (d := .codeWith yZ_weigh cZ_weigh 5 (some .int) [(5, 12, 13, 19), (5, 12, 23, 26)]) (L := [.methodLink RL 60 yZ_weigh, .instanceMethod yZ_weigh, .selects RZ yZ_weigh yZ_weigh, .initialized RZ]) (by decide +kernel) (by decide +kernel)
set_option maxRecDepth 100000 in
theorem gL2_Z_find : GoodIn wsL2 (wsV RL 64 RZ yZ_find wsZ_find) := zg_l2 (d := .codeWith yZ_find cZ_find 3 (some .int) [(5, 10, 11, 26)]) (L := [.methodLink RL 64 yZ_find, .instanceMethod yZ_find, .selects RZ yZ_find yZ_find, .initialized RZ]) (by decide +kernel) (by decide +kernel)
set_option maxRecDepth 100000 in
theorem gL2_Z_sum : GoodIn wsL2 (wsV RL 68 RZ yZ_sum wsZ_sum) := zg_l2 (d := .codeWith yZ_sum cZ_sum 4 (some .int) [(5, 11, 12, 19), (5, 11, 21, 26)]) (L := [.methodLink RL 68 yZ_sum, .instanceMethod yZ_sum, .selects RZ yZ_sum yZ_sum, .initialized RZ]) (by decide +kernel) (by decide +kernel)
set_option maxRecDepth 100000 in
theorem gL2_Z_next : GoodIn wsL2 (wsV RL 71 RZ yZ_next wsZ_next) := zg_l2 (d := .codeWith yZ_next cZ_next 3 (some .int) [(5, 10, 11, 26)]) (L := [.methodLink RL 71 yZ_next, .instanceMethod yZ_next, .selects RZ yZ_next yZ_next, .initialized RZ]) (by decide +kernel) (by decide +kernel)
set_option maxRecDepth 100000 in
theorem gL2_Z_place : GoodIn wsL2 (wsV RL 74 RZ yZ_place wsZ_place) := zg_l2 (d := .codeWith yZ_place cZ_place 3 (some .int) [(5, 10, 11, 26)]) (L := [.methodLink RL 74 yZ_place, .instanceMethod yZ_place, .selects RZ yZ_place yZ_place, .initialized RZ]) (by decide +kernel) (by decide +kernel)
set_option maxRecDepth 100000 in
theorem gL2_Z_entries : GoodIn wsL2 (wsV RL 78 RZ yZ_entries wsZ_entries) := zg_l2 (d := .code yZ_entries cZ_entries 1 (some .int)) (L := [.methodLink RL 78 yZ_entries, .instanceMethod yZ_entries, .selects RZ yZ_entries yZ_entries, .initialized RZ]) (by decide +kernel) (by decide +kernel)
set_option maxRecDepth 100000 in
theorem gL2_Z_init : GoodIn wsL2 wsZ_init := zg_l2 (d := .code yZ_init cZ_init 1 none) (L := []) (fun _ h => nomatch h) (by decide +kernel)
