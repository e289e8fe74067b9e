/-! ===== BEGIN words of one list among another's, by their places ===== -/
theorem goodIn_r {big : List Cond} (ws : List Cond) (ps : List Nat) (hp : ws = ps.filterMap (fun i => big[i]?)) (h : ws.all goodWord = true) : GoodIn big ws := by
  intro w hw
  have h1 := List.all_eq_true.mp h w hw
  rw [hp] at hw
  obtain ⟨i, -, hi⟩ := List.mem_filterMap.mp hw
  have hm : w ∈ big := by first | exact List.mem_of_getElem? hi | exact List.getElem?_mem hi
  exact ⟨hm, good_of_word h1⟩
theorem goodIn_app {big a b : List Cond} (ha : GoodIn big a) (hb : GoodIn big b) : GoodIn big (a ++ b) := fun w h => (List.mem_append.mp h).elim (ha w) (hb w)
theorem goodIn_ca {big a b : List Cond} {c : Cond} (ha : GoodIn big (c :: a)) (hb : GoodIn big b) : GoodIn big (c :: (a ++ b)) := fun w h => (List.mem_cons.mp h).elim (fun e => ha w (List.mem_cons.mpr (Or.inl e))) (fun h => (List.mem_append.mp h).elim (fun h => ha w (List.mem_cons.mpr (Or.inr h))) (hb w))
theorem goodIn_sub {big ws : List Cond} (hm : ∀ w ∈ ws, w ∈ big) (h : ws.all goodWord = true) : GoodIn big ws := fun w hw => ⟨hm w hw, good_of_word (List.all_eq_true.mp h w hw)⟩
def RX0 : String := "DayDiary$Coder"
def TX0 : u_T := fun k => match k with
  | 0 => ("DayDiary$Coder", "words", "LDayDiary$Words;", true)
  | 1 => ("DayDiary$Coder", "stack", "[I", true)
  | 2 => ("DayDiary$Coder", "top", "I", false)
  | 3 => ("DayDiary$Coder", "word", "I", false)
  | 4 => ("DayDiary$Coder", "second", "I", false)
  | 5 => ("DayDiary$Coder", "nextWord", "I", false)
  | _ => ("DayDiary$Coder", "ahead", "I", false)
def tyX0 : Nat → FieldType := fun k => match k with
  | 0 => .object "DayDiary$Words"
  | 1 => .array .int
  | 2 => .int
  | 3 => .int
  | 4 => .int
  | 5 => .int
  | _ => .int
abbrev wsX00 : List Cond := u_ws RX0 TX0 7
theorem nmX0 : ∀ a, a < 7 → ∀ b, b < 7 → a ≠ b → (TX0 a).2.1 ≠ (TX0 b).2.1 := by decide +kernel
theorem tyX0_ok : ∀ k, k < 7 → parseFieldDescriptor (TX0 k).2.2.1 = some (tyX0 k) := by decide +kernel
abbrev cX0_init : ByteArray := prog_2_method_1_code
def yX0_init : MethodName := ⟨RX0, "<init>", "(LDayDiary$Words;)V"⟩
abbrev cX0_refresh : ByteArray := prog_2_method_2_code
def yX0_refresh : MethodName := ⟨RX0, "refresh", "(LDayDiary$Diary;LDayDiary$Text;I)V"⟩
abbrev cX0_codeAs : ByteArray := prog_2_method_3_code
def yX0_codeAs : MethodName := ⟨RX0, "codeAs", "(IILDayDiary$Line;LDayDiary$Diary;LDayDiary$Text;)I"⟩
abbrev cX0_valueOf : ByteArray := prog_2_method_4_code
def yX0_valueOf : MethodName := ⟨RX0, "valueOf", "(LDayDiary$Text;IILDayDiary$Line;LDayDiary$Diary;)I"⟩
abbrev cX0_push : ByteArray := prog_2_method_5_code
def yX0_push : MethodName := ⟨RX0, "push", "(I)V"⟩
abbrev cX0_joinTop : ByteArray := prog_2_method_6_code
def yX0_joinTop : MethodName := ⟨RX0, "joinTop", "(I)V"⟩
abbrev cX0_joined : ByteArray := prog_2_method_7_code
def yX0_joined : MethodName := ⟨RX0, "joined", "(III)I"⟩
abbrev cX0_partOf : ByteArray := prog_2_method_8_code
def yX0_partOf : MethodName := ⟨RX0, "partOf", "(IILDayDiary$Line;LDayDiary$Diary;)I"⟩
abbrev cX0_oneIf : ByteArray := prog_2_method_9_code
def yX0_oneIf : MethodName := ⟨RX0, "oneIf", "(Z)I"⟩
def RX1 : String := "DayDiary$Diary"
def TX1 : u_T := fun k => match k with
  | 0 => ("DayDiary$Diary", "house", "I", true)
  | 1 => ("DayDiary$Diary", "person", "I", true)
  | 2 => ("DayDiary$Diary", "day", "I", true)
  | 3 => ("DayDiary$Diary", "age", "I", true)
  | 4 => ("DayDiary$Diary", "lines", "Ljava/util/ArrayList;", true)
  | 5 => ("DayDiary$Diary", "weight", "I", false)
  | _ => ("DayDiary$Diary", "codedVersion", "I", false)
def tyX1 : Nat → FieldType := fun k => match k with
  | 0 => .int
  | 1 => .int
  | 2 => .int
  | 3 => .int
  | 4 => .object "java/util/ArrayList"
  | 5 => .int
  | _ => .int
abbrev wsX10 : List Cond := u_ws RX1 TX1 7
theorem nmX1 : ∀ a, a < 7 → ∀ b, b < 7 → a ≠ b → (TX1 a).2.1 ≠ (TX1 b).2.1 := by decide +kernel
theorem tyX1_ok : ∀ k, k < 7 → parseFieldDescriptor (TX1 k).2.2.1 = some (tyX1 k) := by decide +kernel
abbrev cX1_init : ByteArray := prog_3_method_1_code
def yX1_init : MethodName := ⟨RX1, "<init>", "(IIII)V"⟩
abbrev cX1_isOf : ByteArray := prog_3_method_2_code
def yX1_isOf : MethodName := ⟨RX1, "isOf", "(II)Z"⟩
abbrev cX1_isOfSort : ByteArray := prog_3_method_3_code
def yX1_isOfSort : MethodName := ⟨RX1, "isOfSort", "(I)Z"⟩
abbrev cX1_insert : ByteArray := prog_3_method_4_code
def yX1_insert : MethodName := ⟨RX1, "insert", "(LDayDiary$Line;)Z"⟩
abbrev cX1_tensInCell : ByteArray := prog_3_method_5_code
def yX1_tensInCell : MethodName := ⟨RX1, "tensInCell", "(II)I"⟩
abbrev cX1_followers : ByteArray := prog_3_method_6_code
def yX1_followers : MethodName := ⟨RX1, "followers", "(II)I"⟩
abbrev cX1_tensDeniedBy : ByteArray := prog_3_method_7_code
def yX1_tensDeniedBy : MethodName := ⟨RX1, "tensDeniedBy", "(LDayDiary$Diary;)I"⟩
abbrev cX1_tensWithout : ByteArray := prog_3_method_8_code
def yX1_tensWithout : MethodName := ⟨RX1, "tensWithout", "(ILDayDiary$Line;)I"⟩
abbrev cX1_tensWithoutLine : ByteArray := prog_3_method_9_code
def yX1_tensWithoutLine : MethodName := ⟨RX1, "tensWithoutLine", "()I"⟩
abbrev cX1_tensMended : ByteArray := prog_3_method_10_code
def yX1_tensMended : MethodName := ⟨RX1, "tensMended", "()I"⟩
abbrev cX1_linesWithoutCode : ByteArray := prog_3_method_11_code
def yX1_linesWithoutCode : MethodName := ⟨RX1, "linesWithoutCode", "()I"⟩
def RX2 : String := "DayDiary$Line"
def TX2 : u_T := fun k => match k with
  | 0 => ("DayDiary$Line", "from", "I", true)
  | 1 => ("DayDiary$Line", "to", "I", true)
  | 2 => ("DayDiary$Line", "word", "I", true)
  | 3 => ("DayDiary$Line", "second", "I", true)
  | 4 => ("DayDiary$Line", "place", "I", true)
  | 5 => ("DayDiary$Line", "who", "I", true)
  | 6 => ("DayDiary$Line", "code", "I", false)
  | 7 => ("DayDiary$Line", "secondCode", "I", false)
  | _ => ("DayDiary$Line", "mendedAhead", "I", false)
def tyX2 : Nat → FieldType := fun k => match k with
  | 0 => .int
  | 1 => .int
  | 2 => .int
  | 3 => .int
  | 4 => .int
  | 5 => .int
  | 6 => .int
  | 7 => .int
  | _ => .int
abbrev wsX20 : List Cond := u_ws RX2 TX2 9
theorem nmX2 : ∀ a, a < 9 → ∀ b, b < 9 → a ≠ b → (TX2 a).2.1 ≠ (TX2 b).2.1 := by decide +kernel
theorem tyX2_ok : ∀ k, k < 9 → parseFieldDescriptor (TX2 k).2.2.1 = some (tyX2 k) := by decide +kernel
abbrev cX2_init : ByteArray := prog_4_method_1_code
def yX2_init : MethodName := ⟨RX2, "<init>", "(IIIIII)V"⟩
abbrev cX2_length : ByteArray := prog_4_method_2_code
def yX2_length : MethodName := ⟨RX2, "length", "()I"⟩
abbrev cX2_isInCell : ByteArray := prog_4_method_3_code
def yX2_isInCell : MethodName := ⟨RX2, "isInCell", "(II)Z"⟩
abbrev cX2_tensInCommon : ByteArray := prog_4_method_4_code
def yX2_tensInCommon : MethodName := ⟨RX2, "tensInCommon", "(LDayDiary$Line;)I"⟩
def RX3 : String := "DayDiary$Parser"
def TX3 : u_T := fun k => match k with
  | 0 => ("DayDiary$Parser", "tokens", "LDayDiary$Tokens;", true)
  | 1 => ("DayDiary$Parser", "codes", "[I", true)
  | 2 => ("DayDiary$Parser", "ends", "[I", true)
  | 3 => ("DayDiary$Parser", "steps", "[I", true)
  | 4 => ("DayDiary$Parser", "values", "[I", true)
  | 5 => ("DayDiary$Parser", "rules", "I", false)
  | 6 => ("DayDiary$Parser", "used", "I", false)
  | 7 => ("DayDiary$Parser", "mend", "I", false)
  | 8 => ("DayDiary$Parser", "fault", "I", false)
  | 9 => ("DayDiary$Parser", "at", "I", false)
  | _ => ("DayDiary$Parser", "kind", "I", false)
def tyX3 : Nat → FieldType := fun k => match k with
  | 0 => .object "DayDiary$Tokens"
  | 1 => .array .int
  | 2 => .array .int
  | 3 => .array .int
  | 4 => .array .int
  | 5 => .int
  | 6 => .int
  | 7 => .int
  | 8 => .int
  | 9 => .int
  | _ => .int
abbrev wsX30 : List Cond := u_ws RX3 TX3 11
theorem nmX3 : ∀ a, a < 11 → ∀ b, b < 11 → a ≠ b → (TX3 a).2.1 ≠ (TX3 b).2.1 := by decide +kernel
theorem tyX3_ok : ∀ k, k < 11 → parseFieldDescriptor (TX3 k).2.2.1 = some (tyX3 k) := by decide +kernel
abbrev cX3_init : ByteArray := prog_5_method_1_code
def yX3_init : MethodName := ⟨RX3, "<init>", "()V"⟩
abbrev cX3_read : ByteArray := prog_5_method_2_code
def yX3_read : MethodName := ⟨RX3, "read", "(LDayDiary$Tape;)I"⟩
abbrev cX3_makeText : ByteArray := prog_5_method_3_code
def yX3_makeText : MethodName := ⟨RX3, "makeText", "()LDayDiary$Text;"⟩
abbrev cX3_endRule : ByteArray := prog_5_method_4_code
def yX3_endRule : MethodName := ⟨RX3, "endRule", "(I)V"⟩
abbrev cX3_expression : ByteArray := prog_5_method_5_code
def yX3_expression : MethodName := ⟨RX3, "expression", "(I)V"⟩
abbrev cX3_test : ByteArray := prog_5_method_6_code
def yX3_test : MethodName := ⟨RX3, "test", "(I)V"⟩
abbrev cX3_sum : ByteArray := prog_5_method_7_code
def yX3_sum : MethodName := ⟨RX3, "sum", "(I)V"⟩
abbrev cX3_part : ByteArray := prog_5_method_8_code
def yX3_part : MethodName := ⟨RX3, "part", "(I)V"⟩
abbrev cX3_take : ByteArray := prog_5_method_9_code
def yX3_take : MethodName := ⟨RX3, "take", "(I)V"⟩
abbrev cX3_takeNumber : ByteArray := prog_5_method_10_code
def yX3_takeNumber : MethodName := ⟨RX3, "takeNumber", "(II)I"⟩
abbrev cX3_moveTo : ByteArray := prog_5_method_11_code
def yX3_moveTo : MethodName := ⟨RX3, "moveTo", "(I)V"⟩
abbrev cX3_fail : ByteArray := prog_5_method_12_code
def yX3_fail : MethodName := ⟨RX3, "fail", "(I)V"⟩
abbrev cX3_emit : ByteArray := prog_5_method_13_code
def yX3_emit : MethodName := ⟨RX3, "emit", "(II)V"⟩
def RX4 : String := "DayDiary$Tape"
def TX4 : u_T := fun k => match k with
  | 0 => ("DayDiary$Tape", "signs", "[C", true)
  | _ => ("DayDiary$Tape", "size", "I", false)
def tyX4 : Nat → FieldType := fun k => match k with
  | 0 => .array .char
  | _ => .int
abbrev wsX40 : List Cond := u_ws RX4 TX4 2
theorem nmX4 : ∀ a, a < 2 → ∀ b, b < 2 → a ≠ b → (TX4 a).2.1 ≠ (TX4 b).2.1 := by decide +kernel
theorem tyX4_ok : ∀ k, k < 2 → parseFieldDescriptor (TX4 k).2.2.1 = some (tyX4 k) := by decide +kernel
abbrev cX4_init : ByteArray := prog_6_method_1_code
def yX4_init : MethodName := ⟨RX4, "<init>", "()V"⟩
abbrev cX4_addBytes : ByteArray := prog_6_method_2_code
def yX4_addBytes : MethodName := ⟨RX4, "addBytes", "(J)V"⟩
abbrev cX4_endOfRun : ByteArray := prog_6_method_3_code
def yX4_endOfRun : MethodName := ⟨RX4, "endOfRun", "(ICC)I"⟩
abbrev cX4_spells : ByteArray := prog_6_method_4_code
def yX4_spells : MethodName := ⟨RX4, "spells", "(Ljava/lang/String;II)Z"⟩
def RX5 : String := "DayDiary$Text"
def TX5 : u_T := fun k => match k with
  | 0 => ("DayDiary$Text", "codes", "[I", true)
  | 1 => ("DayDiary$Text", "ends", "[I", true)
  | 2 => ("DayDiary$Text", "steps", "[I", true)
  | 3 => ("DayDiary$Text", "values", "[I", true)
  | _ => ("DayDiary$Text", "mend", "I", true)
def tyX5 : Nat → FieldType := fun k => match k with
  | 0 => .array .int
  | 1 => .array .int
  | 2 => .array .int
  | 3 => .array .int
  | _ => .int
abbrev wsX50 : List Cond := u_ws RX5 TX5 5
theorem nmX5 : ∀ a, a < 5 → ∀ b, b < 5 → a ≠ b → (TX5 a).2.1 ≠ (TX5 b).2.1 := by decide +kernel
theorem tyX5_ok : ∀ k, k < 5 → parseFieldDescriptor (TX5 k).2.2.1 = some (tyX5 k) := by decide +kernel
abbrev cX5_init : ByteArray := prog_7_method_1_code
def yX5_init : MethodName := ⟨RX5, "<init>", "([I[I[I[II)V"⟩
def RX6 : String := "DayDiary$Tokens"
def TX6 : u_T := fun k => match k with
  | 0 => ("DayDiary$Tokens", "kinds", "[I", true)
  | 1 => ("DayDiary$Tokens", "values", "[I", true)
  | 2 => ("DayDiary$Tokens", "places", "[I", true)
  | _ => ("DayDiary$Tokens", "size", "I", false)
def tyX6 : Nat → FieldType := fun k => match k with
  | 0 => .array .int
  | 1 => .array .int
  | 2 => .array .int
  | _ => .int
abbrev wsX60 : List Cond := u_ws RX6 TX6 4
theorem nmX6 : ∀ a, a < 4 → ∀ b, b < 4 → a ≠ b → (TX6 a).2.1 ≠ (TX6 b).2.1 := by decide +kernel
theorem tyX6_ok : ∀ k, k < 4 → parseFieldDescriptor (TX6 k).2.2.1 = some (tyX6 k) := by decide +kernel
abbrev cX6_init : ByteArray := prog_8_method_1_code
def yX6_init : MethodName := ⟨RX6, "<init>", "()V"⟩
abbrev cX6_scan : ByteArray := prog_8_method_2_code
def yX6_scan : MethodName := ⟨RX6, "scan", "(LDayDiary$Tape;)V"⟩
abbrev cX6_add : ByteArray := prog_8_method_3_code
def yX6_add : MethodName := ⟨RX6, "add", "(III)V"⟩
abbrev cX6_addNumber : ByteArray := prog_8_method_4_code
def yX6_addNumber : MethodName := ⟨RX6, "addNumber", "(LDayDiary$Tape;II)V"⟩
abbrev cX6_kindOfWord : ByteArray := prog_8_method_5_code
def yX6_kindOfWord : MethodName := ⟨RX6, "kindOfWord", "(LDayDiary$Tape;II)I"⟩
abbrev cX6_spelling : ByteArray := prog_8_method_6_code
def yX6_spelling : MethodName := ⟨RX6, "spelling", "(I)Ljava/lang/String;"⟩
abbrev cX6_kindOfSign : ByteArray := prog_8_method_7_code
def yX6_kindOfSign : MethodName := ⟨RX6, "kindOfSign", "(C)I"⟩
def RX7 : String := "DayDiary$Words"
def TX7 : u_T := fun k => match k with
  | _ => ("DayDiary$Words", "above", "[I", true)
def tyX7 : Nat → FieldType := fun k => match k with
  | _ => .array .int
abbrev wsX70 : List Cond := u_ws RX7 TX7 1
theorem nmX7 : ∀ a, a < 1 → ∀ b, b < 1 → a ≠ b → (TX7 a).2.1 ≠ (TX7 b).2.1 := by decide +kernel
theorem tyX7_ok : ∀ k, k < 1 → parseFieldDescriptor (TX7 k).2.2.1 = some (tyX7 k) := by decide +kernel
abbrev cX7_init : ByteArray := prog_9_method_1_code
def yX7_init : MethodName := ⟨RX7, "<init>", "()V"⟩
abbrev cX7_putBelow : ByteArray := prog_9_method_2_code
def yX7_putBelow : MethodName := ⟨RX7, "putBelow", "(II)V"⟩
abbrev cX7_isUnder : ByteArray := prog_9_method_3_code
def yX7_isUnder : MethodName := ⟨RX7, "isUnder", "(II)Z"⟩
def RX8 : String := "DayDiary"
def TX8 : u_T := fun k => match k with
  | 0 => ("DayDiary", "words", "LDayDiary$Words;", true)
  | 1 => ("DayDiary", "diaries", "Ljava/util/ArrayList;", true)
  | 2 => ("DayDiary", "texts", "Ljava/util/ArrayList;", true)
  | 3 => ("DayDiary", "noText", "LDayDiary$Text;", true)
  | 4 => ("DayDiary", "tape", "LDayDiary$Tape;", true)
  | 5 => ("DayDiary", "parser", "LDayDiary$Parser;", true)
  | 6 => ("DayDiary", "coder", "LDayDiary$Coder;", true)
  | 7 => ("DayDiary", "counts", "[I", true)
  | 8 => ("DayDiary", "chosen", "I", false)
  | _ => ("DayDiary", "version", "I", false)
def tyX8 : Nat → FieldType := fun k => match k with
  | 0 => .object "DayDiary$Words"
  | 1 => .object "java/util/ArrayList"
  | 2 => .object "java/util/ArrayList"
  | 3 => .object "DayDiary$Text"
  | 4 => .object "DayDiary$Tape"
  | 5 => .object "DayDiary$Parser"
  | 6 => .object "DayDiary$Coder"
  | 7 => .array .int
  | 8 => .int
  | _ => .int
abbrev wsX80 : List Cond := u_ws RX8 TX8 10
theorem nmX8 : ∀ a, a < 10 → ∀ b, b < 10 → a ≠ b → (TX8 a).2.1 ≠ (TX8 b).2.1 := by decide +kernel
theorem tyX8_ok : ∀ k, k < 10 → parseFieldDescriptor (TX8 k).2.2.1 = some (tyX8 k) := by decide +kernel
abbrev cX8_init : ByteArray := prog_1_method_1_code
def yX8_init : MethodName := ⟨RX8, "<init>", "()V"⟩
abbrev cX8_below : ByteArray := prog_1_method_2_code
def yX8_below : MethodName := ⟨RX8, "below", "(II)Z"⟩
abbrev cX8_diary : ByteArray := prog_1_method_3_code
def yX8_diary : MethodName := ⟨RX8, "diary", "(IIII)I"⟩
abbrev cX8_line : ByteArray := prog_1_method_4_code
def yX8_line : MethodName := ⟨RX8, "line", "(IIIIIII)I"⟩
abbrev cX8_feed : ByteArray := prog_1_method_5_code
def yX8_feed : MethodName := ⟨RX8, "feed", "(JJJ)I"⟩
abbrev cX8_text : ByteArray := prog_1_method_6_code
def yX8_text : MethodName := ⟨RX8, "text", "()I"⟩
abbrev cX8_choose : ByteArray := prog_1_method_7_code
def yX8_choose : MethodName := ⟨RX8, "choose", "(I)Z"⟩
abbrev cX8_code : ByteArray := prog_1_method_8_code
def yX8_code : MethodName := ⟨RX8, "code", "(II)I"⟩
abbrev cX8_look : ByteArray := prog_1_method_9_code
def yX8_look : MethodName := ⟨RX8, "look", "(III)I"⟩
abbrev cX8_ten : ByteArray := prog_1_method_10_code
def yX8_ten : MethodName := ⟨RX8, "ten", "(II)I"⟩
abbrev cX8_known : ByteArray := prog_1_method_11_code
def yX8_known : MethodName := ⟨RX8, "known", "(II)Z"⟩
abbrev cX8_rounds : ByteArray := prog_1_method_12_code
def yX8_rounds : MethodName := ⟨RX8, "rounds", "(I)I"⟩
abbrev cX8_weight : ByteArray := prog_1_method_13_code
def yX8_weight : MethodName := ⟨RX8, "weight", "(I)I"⟩
abbrev cX8_cell : ByteArray := prog_1_method_14_code
def yX8_cell : MethodName := ⟨RX8, "cell", "(IIZ)I"⟩
abbrev cX8_lead : ByteArray := prog_1_method_15_code
def yX8_lead : MethodName := ⟨RX8, "lead", "(III)I"⟩
abbrev cX8_next : ByteArray := prog_1_method_16_code
def yX8_next : MethodName := ⟨RX8, "next", "(II)I"⟩
abbrev cX8_quarrels : ByteArray := prog_1_method_17_code
def yX8_quarrels : MethodName := ⟨RX8, "quarrels", "(II)I"⟩
abbrev cX8_day : ByteArray := prog_1_method_18_code
def yX8_day : MethodName := ⟨RX8, "day", "(II)I"⟩
abbrev cX8_count : ByteArray := prog_1_method_19_code
def yX8_count : MethodName := ⟨RX8, "count", "(I)I"⟩
abbrev cX8_isWithin : ByteArray := prog_1_method_20_code
def yX8_isWithin : MethodName := ⟨RX8, "isWithin", "(III)Z"⟩
abbrev cX8_isHouseAndDay : ByteArray := prog_1_method_21_code
def yX8_isHouseAndDay : MethodName := ⟨RX8, "isHouseAndDay", "(II)Z"⟩
abbrev cX8_holds : ByteArray := prog_1_method_22_code
def yX8_holds : MethodName := ⟨RX8, "holds", "(II)Z"⟩
abbrev cX8_find : ByteArray := prog_1_method_23_code
def yX8_find : MethodName := ⟨RX8, "find", "(I)LDayDiary$Diary;"⟩
abbrev cX8_findCoded : ByteArray := prog_1_method_24_code
def yX8_findCoded : MethodName := ⟨RX8, "findCoded", "(I)LDayDiary$Diary;"⟩
abbrev cX8_codeDiaries : ByteArray := prog_1_method_25_code
def yX8_codeDiaries : MethodName := ⟨RX8, "codeDiaries", "()V"⟩
abbrev cX8_textInForce : ByteArray := prog_1_method_26_code
def yX8_textInForce : MethodName := ⟨RX8, "textInForce", "()LDayDiary$Text;"⟩
abbrev cX8_putInForce : ByteArray := prog_1_method_27_code
def yX8_putInForce : MethodName := ⟨RX8, "putInForce", "(I)V"⟩
abbrev cX8_linesInAll : ByteArray := prog_1_method_28_code
def yX8_linesInAll : MethodName := ⟨RX8, "linesInAll", "()I"⟩
abbrev cX8_weightOfSort : ByteArray := prog_1_method_29_code
def yX8_weightOfSort : MethodName := ⟨RX8, "weightOfSort", "(I)J"⟩
abbrev cX8_weighSort : ByteArray := prog_1_method_30_code
def yX8_weighSort : MethodName := ⟨RX8, "weighSort", "(I)V"⟩
abbrev cX8_hasSort : ByteArray := prog_1_method_31_code
def yX8_hasSort : MethodName := ⟨RX8, "hasSort", "(I)Z"⟩
abbrev cX8_greatestDifference : ByteArray := prog_1_method_32_code
def yX8_greatestDifference : MethodName := ⟨RX8, "greatestDifference", "()I"⟩
def RX9 : String := "DayDiaryModel"
def TX9 : u_T := fun k => match k with
  | 0 => ("DayDiaryModel", "thrown", "I", false)
  | 1 => ("DayDiaryModel", "tape", "[I", true)
  | 2 => ("DayDiaryModel", "taped", "I", false)
  | 3 => ("DayDiaryModel", "size", "I", false)
  | 4 => ("DayDiaryModel", "sort", "[I", true)
  | 5 => ("DayDiaryModel", "place", "[I", true)
  | 6 => ("DayDiaryModel", "value", "[J", true)
  | 7 => ("DayDiaryModel", "at", "I", false)
  | 8 => ("DayDiaryModel", "fault", "I", false)
  | 9 => ("DayDiaryModel", "words", "[J", true)
  | 10 => ("DayDiaryModel", "texts", "I", false)
  | 11 => ("DayDiaryModel", "holds", "I", false)
  | 12 => ("DayDiaryModel", "rules", "[I", true)
  | 13 => ("DayDiaryModel", "mends", "[I", true)
  | 14 => ("DayDiaryModel", "ruleCode", "[I", true)
  | 15 => ("DayDiaryModel", "ruleAt", "[I", true)
  | 16 => ("DayDiaryModel", "op", "[I", true)
  | 17 => ("DayDiaryModel", "one", "[I", true)
  | 18 => ("DayDiaryModel", "codes", "I", false)
  | 19 => ("DayDiaryModel", "deep", "I", false)
  | 20 => ("DayDiaryModel", "sumWaits", "[I", true)
  | 21 => ("DayDiaryModel", "signWaits", "[I", true)
  | 22 => ("DayDiaryModel", "andWaits", "[I", true)
  | 23 => ("DayDiaryModel", "known", "[I", true)
  | 24 => ("DayDiaryModel", "deed", "[I", true)
  | 25 => ("DayDiaryModel", "pile", "[I", true)
  | 26 => ("DayDiaryModel", "isBelow", "[I", true)
  | 27 => ("DayDiaryModel", "diaries", "I", false)
  | 28 => ("DayDiaryModel", "house", "[I", true)
  | 29 => ("DayDiaryModel", "person", "[I", true)
  | 30 => ("DayDiaryModel", "days", "[I", true)
  | 31 => ("DayDiaryModel", "age", "[I", true)
  | 32 => ("DayDiaryModel", "weight", "[I", true)
  | 33 => ("DayDiaryModel", "lines", "[I", true)
  | 34 => ("DayDiaryModel", "row", "[I", true)
  | 35 => ("DayDiaryModel", "first", "[I", true)
  | 36 => ("DayDiaryModel", "also", "[I", true)
  | 37 => ("DayDiaryModel", "isMended", "[Z", true)
  | _ => ("DayDiaryModel", "counts", "[I", true)
def tyX9 : Nat → FieldType := fun k => match k with
  | 0 => .int
  | 1 => .array .int
  | 2 => .int
  | 3 => .int
  | 4 => .array .int
  | 5 => .array .int
  | 6 => .array .long
  | 7 => .int
  | 8 => .int
  | 9 => .array .long
  | 10 => .int
  | 11 => .int
  | 12 => .array .int
  | 13 => .array .int
  | 14 => .array .int
  | 15 => .array .int
  | 16 => .array .int
  | 17 => .array .int
  | 18 => .int
  | 19 => .int
  | 20 => .array .int
  | 21 => .array .int
  | 22 => .array .int
  | 23 => .array .int
  | 24 => .array .int
  | 25 => .array .int
  | 26 => .array .int
  | 27 => .int
  | 28 => .array .int
  | 29 => .array .int
  | 30 => .array .int
  | 31 => .array .int
  | 32 => .array .int
  | 33 => .array .int
  | 34 => .array .int
  | 35 => .array .int
  | 36 => .array .int
  | 37 => .array .boolean
  | _ => .array .int
abbrev wsX90 : List Cond := u_ws RX9 TX9 39
theorem nmX9 : ∀ a, a < 39 → ∀ b, b < 39 → a ≠ b → (TX9 a).2.1 ≠ (TX9 b).2.1 := by decide +kernel
theorem tyX9_ok : ∀ k, k < 39 → parseFieldDescriptor (TX9 k).2.2.1 = some (tyX9 k) := by decide +kernel
abbrev cX9_init : ByteArray := prog_11_method_1_code
def yX9_init : MethodName := ⟨RX9, "<init>", "()V"⟩
abbrev cX9_thrown : ByteArray := prog_11_method_2_code
def yX9_thrown : MethodName := ⟨RX9, "thrown", "()I"⟩
abbrev cX9_feed : ByteArray := prog_11_method_3_code
def yX9_feed : MethodName := ⟨RX9, "feed", "(JJJ)I"⟩
abbrev cX9_lay : ByteArray := prog_11_method_4_code
def yX9_lay : MethodName := ⟨RX9, "lay", "(J)V"⟩
abbrev cX9_isLetter : ByteArray := prog_11_method_5_code
def yX9_isLetter : MethodName := ⟨RX9, "isLetter", "(I)Z"⟩
abbrev cX9_isDigit : ByteArray := prog_11_method_6_code
def yX9_isDigit : MethodName := ⟨RX9, "isDigit", "(I)Z"⟩
abbrev cX9_rank : ByteArray := prog_11_method_7_code
def yX9_rank : MethodName := ⟨RX9, "rank", "(I)I"⟩
abbrev cX9_isSignOf : ByteArray := prog_11_method_8_code
def yX9_isSignOf : MethodName := ⟨RX9, "isSignOf", "(I)Z"⟩
abbrev cX9_cutAll : ByteArray := prog_11_method_9_code
def yX9_cutAll : MethodName := ⟨RX9, "cutAll", "()V"⟩
abbrev cX9_wrong : ByteArray := prog_11_method_10_code
def yX9_wrong : MethodName := ⟨RX9, "wrong", "(I)V"⟩
abbrev cX9_isSign : ByteArray := prog_11_method_11_code
def yX9_isSign : MethodName := ⟨RX9, "isSign", "(I)Z"⟩
abbrev cX9_isWord : ByteArray := prog_11_method_12_code
def yX9_isWord : MethodName := ⟨RX9, "isWord", "(I)Z"⟩
abbrev cX9_takeSign : ByteArray := prog_11_method_13_code
def yX9_takeSign : MethodName := ⟨RX9, "takeSign", "(I)V"⟩
abbrev cX9_hasSign : ByteArray := prog_11_method_14_code
def yX9_hasSign : MethodName := ⟨RX9, "hasSign", "(I)Z"⟩
abbrev cX9_hasWord : ByteArray := prog_11_method_15_code
def yX9_hasWord : MethodName := ⟨RX9, "hasWord", "(I)Z"⟩
abbrev cX9_takeWord : ByteArray := prog_11_method_16_code
def yX9_takeWord : MethodName := ⟨RX9, "takeWord", "(I)V"⟩
abbrev cX9_takeNumber : ByteArray := prog_11_method_17_code
def yX9_takeNumber : MethodName := ⟨RX9, "takeNumber", "(II)I"⟩
abbrev cX9_emit : ByteArray := prog_11_method_18_code
def yX9_emit : MethodName := ⟨RX9, "emit", "(II)V"⟩
abbrev cX9_text : ByteArray := prog_11_method_19_code
def yX9_text : MethodName := ⟨RX9, "text", "()I"⟩
abbrev cX9_keeps : ByteArray := prog_11_method_20_code
def yX9_keeps : MethodName := ⟨RX9, "keeps", "()V"⟩
abbrev cX9_rule : ByteArray := prog_11_method_21_code
def yX9_rule : MethodName := ⟨RX9, "rule", "()V"⟩
abbrev cX9_opens : ByteArray := prog_11_method_22_code
def yX9_opens : MethodName := ⟨RX9, "opens", "()V"⟩
abbrev cX9_partWord : ByteArray := prog_11_method_23_code
def yX9_partWord : MethodName := ⟨RX9, "partWord", "()I"⟩
abbrev cX9_part : ByteArray := prog_11_method_24_code
def yX9_part : MethodName := ⟨RX9, "part", "()Z"⟩
abbrev cX9_goesOnBehind : ByteArray := prog_11_method_25_code
def yX9_goesOnBehind : MethodName := ⟨RX9, "goesOnBehind", "()Z"⟩
abbrev cX9_worth : ByteArray := prog_11_method_26_code
def yX9_worth : MethodName := ⟨RX9, "worth", "(I)I"⟩
abbrev cX9_choose : ByteArray := prog_11_method_27_code
def yX9_choose : MethodName := ⟨RX9, "choose", "(I)Z"⟩
abbrev cX9_below : ByteArray := prog_11_method_28_code
def yX9_below : MethodName := ⟨RX9, "below", "(II)Z"⟩
abbrev cX9_isUnder : ByteArray := prog_11_method_29_code
def yX9_isUnder : MethodName := ⟨RX9, "isUnder", "(II)Z"⟩
abbrev cX9_isDiary : ByteArray := prog_11_method_30_code
def yX9_isDiary : MethodName := ⟨RX9, "isDiary", "(I)Z"⟩
abbrev cX9_diaryOf : ByteArray := prog_11_method_31_code
def yX9_diaryOf : MethodName := ⟨RX9, "diaryOf", "(III)I"⟩
abbrev cX9_diary : ByteArray := prog_11_method_32_code
def yX9_diary : MethodName := ⟨RX9, "diary", "(IIII)I"⟩
abbrev cX9_of : ByteArray := prog_11_method_33_code
def yX9_of : MethodName := ⟨RX9, "of", "(III)I"⟩
abbrev cX9_lineAt : ByteArray := prog_11_method_34_code
def yX9_lineAt : MethodName := ⟨RX9, "lineAt", "(II)I"⟩
abbrev cX9_line : ByteArray := prog_11_method_35_code
def yX9_line : MethodName := ⟨RX9, "line", "(IIIIIII)I"⟩
abbrev cX9_codeBy : ByteArray := prog_11_method_36_code
def yX9_codeBy : MethodName := ⟨RX9, "codeBy", "(IIZ)I"⟩
abbrev cX9_gapAhead : ByteArray := prog_11_method_37_code
def yX9_gapAhead : MethodName := ⟨RX9, "gapAhead", "(II)I"⟩
abbrev cX9_findCodes : ByteArray := prog_11_method_38_code
def yX9_findCodes : MethodName := ⟨RX9, "findCodes", "(I)V"⟩
abbrev cX9_code : ByteArray := prog_11_method_39_code
def yX9_code : MethodName := ⟨RX9, "code", "(II)I"⟩
abbrev cX9_look : ByteArray := prog_11_method_40_code
def yX9_look : MethodName := ⟨RX9, "look", "(III)I"⟩
abbrev cX9_ten : ByteArray := prog_11_method_41_code
def yX9_ten : MethodName := ⟨RX9, "ten", "(II)I"⟩
abbrev cX9_known : ByteArray := prog_11_method_42_code
def yX9_known : MethodName := ⟨RX9, "known", "(II)Z"⟩
abbrev cX9_isOf : ByteArray := prog_11_method_43_code
def yX9_isOf : MethodName := ⟨RX9, "isOf", "(II)Z"⟩
abbrev cX9_sumOf : ByteArray := prog_11_method_44_code
def yX9_sumOf : MethodName := ⟨RX9, "sumOf", "(I)J"⟩
abbrev cX9_round : ByteArray := prog_11_method_45_code
def yX9_round : MethodName := ⟨RX9, "round", "()V"⟩
abbrev cX9_rounds : ByteArray := prog_11_method_46_code
def yX9_rounds : MethodName := ⟨RX9, "rounds", "(I)I"⟩
abbrev cX9_weight : ByteArray := prog_11_method_47_code
def yX9_weight : MethodName := ⟨RX9, "weight", "(I)I"⟩
abbrev cX9_isIn : ByteArray := prog_11_method_48_code
def yX9_isIn : MethodName := ⟨RX9, "isIn", "(III)Z"⟩
abbrev cX9_cell : ByteArray := prog_11_method_49_code
def yX9_cell : MethodName := ⟨RX9, "cell", "(IIZ)I"⟩
abbrev cX9_lead : ByteArray := prog_11_method_50_code
def yX9_lead : MethodName := ⟨RX9, "lead", "(III)I"⟩
abbrev cX9_next : ByteArray := prog_11_method_51_code
def yX9_next : MethodName := ⟨RX9, "next", "(II)I"⟩
abbrev cX9_says : ByteArray := prog_11_method_52_code
def yX9_says : MethodName := ⟨RX9, "says", "(III)Z"⟩
abbrev cX9_quarrel : ByteArray := prog_11_method_53_code
def yX9_quarrel : MethodName := ⟨RX9, "quarrel", "(II)I"⟩
abbrev cX9_quarrels : ByteArray := prog_11_method_54_code
def yX9_quarrels : MethodName := ⟨RX9, "quarrels", "(II)I"⟩
abbrev cX9_day : ByteArray := prog_11_method_55_code
def yX9_day : MethodName := ⟨RX9, "day", "(II)I"⟩
abbrev cX9_count : ByteArray := prog_11_method_56_code
def yX9_count : MethodName := ⟨RX9, "count", "(I)I"⟩
def RJx145de : String := "java/io/Serializable"
def TJx145de : u_T := fun k => match k with
  | _ => ("", "", "", false)
def tyJx145de : Nat → FieldType := fun k => match k with
  | _ => .int
abbrev wsJx145de0 : List Cond := u_ws RJx145de TJx145de 0
theorem nmJx145de : ∀ a, a < 0 → ∀ b, b < 0 → a ≠ b → (TJx145de a).2.1 ≠ (TJx145de b).2.1 := by decide +kernel
theorem tyJx145de_ok : ∀ k, k < 0 → parseFieldDescriptor (TJx145de k).2.2.1 = some (tyJx145de k) := by decide +kernel
def RJx8e188 : String := "java/lang/Cloneable"
def TJx8e188 : u_T := fun k => match k with
  | _ => ("", "", "", false)
def tyJx8e188 : Nat → FieldType := fun k => match k with
  | _ => .int
abbrev wsJx8e1880 : List Cond := u_ws RJx8e188 TJx8e188 0
theorem nmJx8e188 : ∀ a, a < 0 → ∀ b, b < 0 → a ≠ b → (TJx8e188 a).2.1 ≠ (TJx8e188 b).2.1 := by decide +kernel
theorem tyJx8e188_ok : ∀ k, k < 0 → parseFieldDescriptor (TJx8e188 k).2.2.1 = some (tyJx8e188 k) := by decide +kernel
def RJ6 : String := "java/lang/Integer"
def TJ6 : u_T := fun k => match k with
  | _ => ("", "", "", false)
def tyJ6 : Nat → FieldType := fun k => match k with
  | _ => .int
abbrev wsJ60 : List Cond := u_ws RJ6 TJ6 0
theorem nmJ6 : ∀ a, a < 0 → ∀ b, b < 0 → a ≠ b → (TJ6 a).2.1 ≠ (TJ6 b).2.1 := by decide +kernel
theorem tyJ6_ok : ∀ k, k < 0 → parseFieldDescriptor (TJ6 k).2.2.1 = some (tyJ6 k) := by decide +kernel
abbrev cJ6_bitCount_0f7a4 : ByteArray := prog_15_method_49_code
def yJ6_bitCount_0f7a4 : MethodName := ⟨RJ6, "bitCount", "(I)I"⟩
def RJxab1ab : String := "java/lang/Iterable"
def TJxab1ab : u_T := fun k => match k with
  | _ => ("", "", "", false)
def tyJxab1ab : Nat → FieldType := fun k => match k with
  | _ => .int
abbrev wsJxab1ab0 : List Cond := u_ws RJxab1ab TJxab1ab 0
theorem nmJxab1ab : ∀ a, a < 0 → ∀ b, b < 0 → a ≠ b → (TJxab1ab a).2.1 ≠ (TJxab1ab b).2.1 := by decide +kernel
theorem tyJxab1ab_ok : ∀ k, k < 0 → parseFieldDescriptor (TJxab1ab k).2.2.1 = some (tyJxab1ab k) := by decide +kernel
def RJ9 : String := "java/lang/Math"
def TJ9 : u_T := fun k => match k with
  | _ => ("", "", "", false)
def tyJ9 : Nat → FieldType := fun k => match k with
  | _ => .int
abbrev wsJ90 : List Cond := u_ws RJ9 TJ9 0
theorem nmJ9 : ∀ a, a < 0 → ∀ b, b < 0 → a ≠ b → (TJ9 a).2.1 ≠ (TJ9 b).2.1 := by decide +kernel
theorem tyJ9_ok : ∀ k, k < 0 → parseFieldDescriptor (TJ9 k).2.2.1 = some (tyJ9 k) := by decide +kernel
abbrev cJ9_abs_067f4 : ByteArray := prog_17_method_61_code
def yJ9_abs_067f4 : MethodName := ⟨RJ9, "abs", "(J)J"⟩
abbrev cJ9_max_7cf53 : ByteArray := prog_17_method_65_code
def yJ9_max_7cf53 : MethodName := ⟨RJ9, "max", "(II)I"⟩
abbrev cJ9_max_f86c9 : ByteArray := prog_17_method_66_code
def yJ9_max_f86c9 : MethodName := ⟨RJ9, "max", "(JJ)J"⟩
abbrev cJ9_min_7cf53 : ByteArray := prog_17_method_69_code
def yJ9_min_7cf53 : MethodName := ⟨RJ9, "min", "(II)I"⟩
def RJ0 : String := "java/lang/String"
def TJ0 : u_T := fun k => match k with
  | _ => ("", "", "", false)
def tyJ0 : Nat → FieldType := fun k => match k with
  | _ => .int
abbrev wsJ00 : List Cond := u_ws RJ0 TJ0 0
theorem nmJ0 : ∀ a, a < 0 → ∀ b, b < 0 → a ≠ b → (TJ0 a).2.1 ≠ (TJ0 b).2.1 := by decide +kernel
theorem tyJ0_ok : ∀ k, k < 0 → parseFieldDescriptor (TJ0 k).2.2.1 = some (tyJ0 k) := by decide +kernel
abbrev cJ0_length_8abf5 : ByteArray := prog_19_method_54_code
def yJ0_length_8abf5 : MethodName := ⟨RJ0, "length", "()I"⟩
abbrev cJ0_charAt_5068e : ByteArray := prog_19_method_56_code
def yJ0_charAt_5068e : MethodName := ⟨RJ0, "charAt", "(I)C"⟩
abbrev cJ0_coder_7d493 : ByteArray := prog_19_method_152_code
def yJ0_coder_7d493 : MethodName := ⟨RJ0, "coder", "()B"⟩
abbrev cJ0_isLatin1_aae02 : ByteArray := prog_19_method_154_code
def yJ0_isLatin1_aae02 : MethodName := ⟨RJ0, "isLatin1", "()Z"⟩
abbrev cJ0_checkIndex_df160 : ByteArray := prog_19_method_155_code
def yJ0_checkIndex_df160 : MethodName := ⟨RJ0, "checkIndex", "(II)V"⟩
def RJ1 : String := "java/lang/StringLatin1"
def TJ1 : u_T := fun k => match k with
  | _ => ("", "", "", false)
def tyJ1 : Nat → FieldType := fun k => match k with
  | _ => .int
abbrev wsJ10 : List Cond := u_ws RJ1 TJ1 0
theorem nmJ1 : ∀ a, a < 0 → ∀ b, b < 0 → a ≠ b → (TJ1 a).2.1 ≠ (TJ1 b).2.1 := by decide +kernel
theorem tyJ1_ok : ∀ k, k < 0 → parseFieldDescriptor (TJ1 k).2.2.1 = some (tyJ1 k) := by decide +kernel
abbrev cJ1_charAt_3b067 : ByteArray := prog_20_method_2_code
def yJ1_charAt_3b067 : MethodName := ⟨RJ1, "charAt", "([BI)C"⟩
def RJ2 : String := "java/lang/StringUTF16"
def TJ2 : u_T := fun k => match k with
  | _ => ("", "", "", false)
def tyJ2 : Nat → FieldType := fun k => match k with
  | _ => .int
abbrev wsJ20 : List Cond := u_ws RJ2 TJ2 0
theorem nmJ2 : ∀ a, a < 0 → ∀ b, b < 0 → a ≠ b → (TJ2 a).2.1 ≠ (TJ2 b).2.1 := by decide +kernel
theorem tyJ2_ok : ∀ k, k < 0 → parseFieldDescriptor (TJ2 k).2.2.1 = some (tyJ2 k) := by decide +kernel
abbrev cJ2_getChar_3b067 : ByteArray := prog_21_method_5_code
def yJ2_getChar_3b067 : MethodName := ⟨RJ2, "getChar", "([BI)C"⟩
abbrev cJ2_length_9d52b : ByteArray := prog_21_method_6_code
def yJ2_length_9d52b : MethodName := ⟨RJ2, "length", "([B)I"⟩
abbrev cJ2_charAt_3b067 : ByteArray := prog_21_method_83_code
def yJ2_charAt_3b067 : MethodName := ⟨RJ2, "charAt", "([BI)C"⟩
abbrev cJ2_checkIndex_2214a : ByteArray := prog_21_method_91_code
def yJ2_checkIndex_2214a : MethodName := ⟨RJ2, "checkIndex", "(I[B)V"⟩
def RJ10 : String := "java/lang/System"
def TJ10 : u_T := fun k => match k with
  | _ => ("", "", "", false)
def tyJ10 : Nat → FieldType := fun k => match k with
  | _ => .int
abbrev wsJ100 : List Cond := u_ws RJ10 TJ10 0
theorem nmJ10 : ∀ a, a < 0 → ∀ b, b < 0 → a ≠ b → (TJ10 a).2.1 ≠ (TJ10 b).2.1 := by decide +kernel
theorem tyJ10_ok : ∀ k, k < 0 → parseFieldDescriptor (TJ10 k).2.2.1 = some (tyJ10 k) := by decide +kernel
def RJxa1e45 : String := "java/util/AbstractCollection"
def TJxa1e45 : u_T := fun k => match k with
  | _ => ("", "", "", false)
def tyJxa1e45 : Nat → FieldType := fun k => match k with
  | _ => .int
abbrev wsJxa1e450 : List Cond := u_ws RJxa1e45 TJxa1e45 0
theorem nmJxa1e45 : ∀ a, a < 0 → ∀ b, b < 0 → a ≠ b → (TJxa1e45 a).2.1 ≠ (TJxa1e45 b).2.1 := by decide +kernel
theorem tyJxa1e45_ok : ∀ k, k < 0 → parseFieldDescriptor (TJxa1e45 k).2.2.1 = some (tyJxa1e45 k) := by decide +kernel
abbrev cJxa1e45_init_da8c8 : ByteArray := prog_24_method_1_code
def yJxa1e45_init_da8c8 : MethodName := ⟨RJxa1e45, "<init>", "()V"⟩
def RJxc12de : String := "java/util/AbstractList"
def TJxc12de : u_T := fun k => match k with
  | _ => ("", "", "", false)
def tyJxc12de : Nat → FieldType := fun k => match k with
  | _ => .int
abbrev wsJxc12de0 : List Cond := u_ws RJxc12de TJxc12de 0
theorem nmJxc12de : ∀ a, a < 0 → ∀ b, b < 0 → a ≠ b → (TJxc12de a).2.1 ≠ (TJxc12de b).2.1 := by decide +kernel
theorem tyJxc12de_ok : ∀ k, k < 0 → parseFieldDescriptor (TJxc12de k).2.2.1 = some (tyJxc12de k) := by decide +kernel
abbrev cJxc12de_init_da8c8 : ByteArray := prog_25_method_1_code
def yJxc12de_init_da8c8 : MethodName := ⟨RJxc12de, "<init>", "()V"⟩
def RJx4a65c : String := "java/util/ArrayList"
def TJx4a65c : u_T := fun k => match k with
  | 0 => ("java/util/AbstractList", "modCount", "I", false)
  | 1 => ("java/util/ArrayList", "elementData", "[Ljava/lang/Object;", false)
  | _ => ("java/util/ArrayList", "size", "I", false)
def tyJx4a65c : Nat → FieldType := fun k => match k with
  | 0 => .int
  | 1 => .array (.object "java/lang/Object")
  | _ => .int
abbrev wsJx4a65c0 : List Cond := u_ws RJx4a65c TJx4a65c 3
theorem nmJx4a65c : ∀ a, a < 3 → ∀ b, b < 3 → a ≠ b → (TJx4a65c a).2.1 ≠ (TJx4a65c b).2.1 := by decide +kernel
theorem tyJx4a65c_ok : ∀ k, k < 3 → parseFieldDescriptor (TJx4a65c k).2.2.1 = some (tyJx4a65c k) := by decide +kernel
abbrev cJx4a65c_init_da8c8 : ByteArray := prog_26_method_2_code
def yJx4a65c_init_da8c8 : MethodName := ⟨RJx4a65c, "<init>", "()V"⟩
abbrev cJx4a65c_grow_92f84 : ByteArray := prog_26_method_6_code
def yJx4a65c_grow_92f84 : MethodName := ⟨RJx4a65c, "grow", "(I)[Ljava/lang/Object;"⟩
abbrev cJx4a65c_grow_d5877 : ByteArray := prog_26_method_7_code
def yJx4a65c_grow_d5877 : MethodName := ⟨RJx4a65c, "grow", "()[Ljava/lang/Object;"⟩
abbrev cJx4a65c_size_8abf5 : ByteArray := prog_26_method_8_code
def yJx4a65c_size_8abf5 : MethodName := ⟨RJx4a65c, "size", "()I"⟩
abbrev cJx4a65c_elementData_915e3 : ByteArray := prog_26_method_18_code
def yJx4a65c_elementData_915e3 : MethodName := ⟨RJx4a65c, "elementData", "(I)Ljava/lang/Object;"⟩
abbrev cJx4a65c_get_915e3 : ByteArray := prog_26_method_20_code
def yJx4a65c_get_915e3 : MethodName := ⟨RJx4a65c, "get", "(I)Ljava/lang/Object;"⟩
abbrev cJx4a65c_add_72be8 : ByteArray := prog_26_method_24_code
def yJx4a65c_add_72be8 : MethodName := ⟨RJx4a65c, "add", "(Ljava/lang/Object;[Ljava/lang/Object;I)V"⟩
abbrev cJx4a65c_add_9ea2d : ByteArray := prog_26_method_25_code
def yJx4a65c_add_9ea2d : MethodName := ⟨RJx4a65c, "add", "(Ljava/lang/Object;)Z"⟩
abbrev cJx4a65c_add_7a177 : ByteArray := prog_26_method_26_code
def yJx4a65c_add_7a177 : MethodName := ⟨RJx4a65c, "add", "(ILjava/lang/Object;)V"⟩
abbrev cJx4a65c_rangeCheckForAdd_d00df : ByteArray := prog_26_method_45_code
def yJx4a65c_rangeCheckForAdd_d00df : MethodName := ⟨RJx4a65c, "rangeCheckForAdd", "(I)V"⟩
def RJ7 : String := "java/util/Arrays"
def TJ7 : u_T := fun k => match k with
  | _ => ("", "", "", false)
def tyJ7 : Nat → FieldType := fun k => match k with
  | _ => .int
abbrev wsJ70 : List Cond := u_ws RJ7 TJ7 0
theorem nmJ7 : ∀ a, a < 0 → ∀ b, b < 0 → a ≠ b → (TJ7 a).2.1 ≠ (TJ7 b).2.1 := by decide +kernel
theorem tyJ7_ok : ∀ k, k < 0 → parseFieldDescriptor (TJ7 k).2.2.1 = some (tyJ7 k) := by decide +kernel
abbrev cJ7_copyOf_1904c : ByteArray := prog_27_method_119_code
def yJ7_copyOf_1904c : MethodName := ⟨RJ7, "copyOf", "([Ljava/lang/Object;I)[Ljava/lang/Object;"⟩
abbrev cJ7_copyOf_6403c : ByteArray := prog_27_method_120_code
def yJ7_copyOf_6403c : MethodName := ⟨RJ7, "copyOf", "([Ljava/lang/Object;ILjava/lang/Class;)[Ljava/lang/Object;"⟩
abbrev cJ7_copyOf_59c91 : ByteArray := prog_27_method_123_code
def yJ7_copyOf_59c91 : MethodName := ⟨RJ7, "copyOf", "([II)[I"⟩
def RJx5ef63 : String := "java/util/Collection"
def TJx5ef63 : u_T := fun k => match k with
  | _ => ("", "", "", false)
def tyJx5ef63 : Nat → FieldType := fun k => match k with
  | _ => .int
abbrev wsJx5ef630 : List Cond := u_ws RJx5ef63 TJx5ef63 0
theorem nmJx5ef63 : ∀ a, a < 0 → ∀ b, b < 0 → a ≠ b → (TJx5ef63 a).2.1 ≠ (TJx5ef63 b).2.1 := by decide +kernel
theorem tyJx5ef63_ok : ∀ k, k < 0 → parseFieldDescriptor (TJx5ef63 k).2.2.1 = some (tyJx5ef63 k) := by decide +kernel
def RJxbd725 : String := "java/util/List"
def TJxbd725 : u_T := fun k => match k with
  | _ => ("", "", "", false)
def tyJxbd725 : Nat → FieldType := fun k => match k with
  | _ => .int
abbrev wsJxbd7250 : List Cond := u_ws RJxbd725 TJxbd725 0
theorem nmJxbd725 : ∀ a, a < 0 → ∀ b, b < 0 → a ≠ b → (TJxbd725 a).2.1 ≠ (TJxbd725 b).2.1 := by decide +kernel
theorem tyJxbd725_ok : ∀ k, k < 0 → parseFieldDescriptor (TJxbd725 k).2.2.1 = some (tyJxbd725 k) := by decide +kernel
def RJ15 : String := "java/util/Objects"
def TJ15 : u_T := fun k => match k with
  | _ => ("", "", "", false)
def tyJ15 : Nat → FieldType := fun k => match k with
  | _ => .int
abbrev wsJ150 : List Cond := u_ws RJ15 TJ15 0
theorem nmJ15 : ∀ a, a < 0 → ∀ b, b < 0 → a ≠ b → (TJ15 a).2.1 ≠ (TJ15 b).2.1 := by decide +kernel
theorem tyJ15_ok : ∀ k, k < 0 → parseFieldDescriptor (TJ15 k).2.2.1 = some (tyJ15 k) := by decide +kernel
abbrev cJ15_checkIndex_7cf53 : ByteArray := prog_31_method_17_code
def yJ15_checkIndex_7cf53 : MethodName := ⟨RJ15, "checkIndex", "(II)I"⟩
def RJxf0a74 : String := "java/util/RandomAccess"
def TJxf0a74 : u_T := fun k => match k with
  | _ => ("", "", "", false)
def tyJxf0a74 : Nat → FieldType := fun k => match k with
  | _ => .int
abbrev wsJxf0a740 : List Cond := u_ws RJxf0a74 TJxf0a74 0
theorem nmJxf0a74 : ∀ a, a < 0 → ∀ b, b < 0 → a ≠ b → (TJxf0a74 a).2.1 ≠ (TJxf0a74 b).2.1 := by decide +kernel
theorem tyJxf0a74_ok : ∀ k, k < 0 → parseFieldDescriptor (TJxf0a74 k).2.2.1 = some (tyJxf0a74 k) := by decide +kernel
def RJxa66e6 : String := "java/util/SequencedCollection"
def TJxa66e6 : u_T := fun k => match k with
  | _ => ("", "", "", false)
def tyJxa66e6 : Nat → FieldType := fun k => match k with
  | _ => .int
abbrev wsJxa66e60 : List Cond := u_ws RJxa66e6 TJxa66e6 0
theorem nmJxa66e6 : ∀ a, a < 0 → ∀ b, b < 0 → a ≠ b → (TJxa66e6 a).2.1 ≠ (TJxa66e6 b).2.1 := by decide +kernel
theorem tyJxa66e6_ok : ∀ k, k < 0 → parseFieldDescriptor (TJxa66e6 k).2.2.1 = some (tyJxa66e6 k) := by decide +kernel
def RJ8 : String := "jdk/internal/util/ArraysSupport"
def TJ8 : u_T := fun k => match k with
  | _ => ("", "", "", false)
def tyJ8 : Nat → FieldType := fun k => match k with
  | _ => .int
abbrev wsJ80 : List Cond := u_ws RJ8 TJ8 0
theorem nmJ8 : ∀ a, a < 0 → ∀ b, b < 0 → a ≠ b → (TJ8 a).2.1 ≠ (TJ8 b).2.1 := by decide +kernel
theorem tyJ8_ok : ∀ k, k < 0 → parseFieldDescriptor (TJ8 k).2.2.1 = some (tyJ8 k) := by decide +kernel
abbrev cJ8_newLength_cabcc : ByteArray := prog_34_method_27_code
def yJ8_newLength_cabcc : MethodName := ⟨RJ8, "newLength", "(III)I"⟩
abbrev cJ8_hugeLength_7cf53 : ByteArray := prog_34_method_28_code
def yJ8_hugeLength_7cf53 : MethodName := ⟨RJ8, "hugeLength", "(II)I"⟩
def RJ3 : String := "jdk/internal/util/Preconditions"
def TJ3 : u_T := fun k => match k with
  | _ => ("", "", "", false)
def tyJ3 : Nat → FieldType := fun k => match k with
  | _ => .int
abbrev wsJ30 : List Cond := u_ws RJ3 TJ3 0
theorem nmJ3 : ∀ a, a < 0 → ∀ b, b < 0 → a ≠ b → (TJ3 a).2.1 ≠ (TJ3 b).2.1 := by decide +kernel
theorem tyJ3_ok : ∀ k, k < 0 → parseFieldDescriptor (TJ3 k).2.2.1 = some (tyJ3 k) := by decide +kernel
abbrev cJ3_checkIndex_8e157 : ByteArray := prog_35_method_11_code
def yJ3_checkIndex_8e157 : MethodName := ⟨RJ3, "checkIndex", "(IILjava/util/function/BiFunction;)I"⟩
def RL : String := "DayDiaryLaw"
abbrev cL_look : ByteArray := method_3_code
def yL_look : MethodName := ⟨RL, "look", "(LDayDiary;III[J)I"⟩
abbrev cL_day : ByteArray := method_4_code
def yL_day : MethodName := ⟨RL, "day", "(LDayDiary;II[J)I"⟩
abbrev cL_law : ByteArray := code
def yL_law : MethodName := ⟨RL, "law", "([I)Z"⟩
