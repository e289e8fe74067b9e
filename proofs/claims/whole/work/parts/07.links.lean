set_option maxRecDepth 100000 in
theorem lkf_X7_9 : Cond.fieldLink RX7 9 "DayDiary$Words" "above" "[I" ∈ lw_g := lg_1 106 rfl rfl
set_option maxRecDepth 100000 in
theorem lkf_Jx4a65c_39 : Cond.fieldLink RJx4a65c 39 "java/util/ArrayList" "DEFAULTCAPACITY_EMPTY_ELEMENTDATA" "[Ljava/lang/Object;" ∈ lw_g := lg_1 123 rfl rfl
set_option maxRecDepth 100000 in
theorem lkf_Jx4a65c_9 : Cond.fieldLink RJx4a65c 9 "java/util/ArrayList" "elementData" "[Ljava/lang/Object;" ∈ lw_g := lg_1 125 rfl rfl
set_option maxRecDepth 100000 in
theorem lkf_Jx4a65c_48 : Cond.fieldLink RJx4a65c 48 "java/util/ArrayList" "size" "I" ∈ lw_g := lg_1 126 rfl rfl
set_option maxRecDepth 100000 in
theorem lkf_Jxc12de_7 : Cond.fieldLink RJxc12de 7 "java/util/AbstractList" "modCount" "I" ∈ lw_g := lg_1 127 rfl rfl
set_option maxRecDepth 100000 in
theorem lkf_Jx4a65c_63 : Cond.fieldLink RJx4a65c 63 "java/util/ArrayList" "modCount" "I" ∈ lw_g := lg_1 128 rfl rfl
set_option maxRecDepth 100000 in
theorem lkf_X5_7 : Cond.fieldLink RX5 7 "DayDiary$Text" "codes" "[I" ∈ lw_g := lg_1 143 rfl rfl
set_option maxRecDepth 100000 in
theorem lkf_X0_82 : Cond.fieldLink RX0 82 "DayDiary$Text" "codes" "[I" ∈ lw_g := lg_1 144 rfl rfl
set_option maxRecDepth 100000 in
theorem lkf_X8_234 : Cond.fieldLink RX8 234 "DayDiary$Text" "codes" "[I" ∈ lw_g := lg_1 145 rfl rfl
set_option maxRecDepth 100000 in
theorem lkf_X5_13 : Cond.fieldLink RX5 13 "DayDiary$Text" "ends" "[I" ∈ lw_g := lg_1 146 rfl rfl
set_option maxRecDepth 100000 in
theorem lkf_X0_85 : Cond.fieldLink RX0 85 "DayDiary$Text" "ends" "[I" ∈ lw_g := lg_1 147 rfl rfl
set_option maxRecDepth 100000 in
theorem lkf_X5_16 : Cond.fieldLink RX5 16 "DayDiary$Text" "steps" "[I" ∈ lw_g := lg_1 148 rfl rfl
set_option maxRecDepth 100000 in
theorem lkf_X0_92 : Cond.fieldLink RX0 92 "DayDiary$Text" "steps" "[I" ∈ lw_g := lg_1 149 rfl rfl
set_option maxRecDepth 100000 in
theorem lkf_X5_19 : Cond.fieldLink RX5 19 "DayDiary$Text" "values" "[I" ∈ lw_g := lg_1 150 rfl rfl
set_option maxRecDepth 100000 in
theorem lkf_X0_95 : Cond.fieldLink RX0 95 "DayDiary$Text" "values" "[I" ∈ lw_g := lg_1 151 rfl rfl
set_option maxRecDepth 100000 in
theorem lkf_X5_22 : Cond.fieldLink RX5 22 "DayDiary$Text" "mend" "I" ∈ lw_g := lg_1 152 rfl rfl
set_option maxRecDepth 100000 in
theorem lkf_X0_71 : Cond.fieldLink RX0 71 "DayDiary$Text" "mend" "I" ∈ lw_g := lg_1 153 rfl rfl
set_option maxRecDepth 100000 in
theorem lkf_X4_9 : Cond.fieldLink RX4 9 "DayDiary$Tape" "signs" "[C" ∈ lw_g := lg_1 171 rfl rfl
set_option maxRecDepth 100000 in
theorem lkf_X6_28 : Cond.fieldLink RX6 28 "DayDiary$Tape" "signs" "[C" ∈ lw_g := lg_1 172 rfl rfl
set_option maxRecDepth 100000 in
theorem lkf_X4_15 : Cond.fieldLink RX4 15 "DayDiary$Tape" "size" "I" ∈ lw_g := lg_1 173 rfl rfl
set_option maxRecDepth 100000 in
theorem lkf_X6_25 : Cond.fieldLink RX6 25 "DayDiary$Tape" "size" "I" ∈ lw_g := lg_1 174 rfl rfl
set_option maxRecDepth 100000 in
theorem lkf_X8_127 : Cond.fieldLink RX8 127 "DayDiary$Tape" "size" "I" ∈ lw_g := lg_1 175 rfl rfl
set_option maxRecDepth 100000 in
theorem lkf_X6_9 : Cond.fieldLink RX6 9 "DayDiary$Tokens" "kinds" "[I" ∈ lw_g := lg_1 194 rfl rfl
set_option maxRecDepth 100000 in
theorem lkf_X3_109 : Cond.fieldLink RX3 109 "DayDiary$Tokens" "kinds" "[I" ∈ lw_g := lg_1 195 rfl rfl
set_option maxRecDepth 100000 in
theorem lkf_X6_15 : Cond.fieldLink RX6 15 "DayDiary$Tokens" "values" "[I" ∈ lw_g := lg_1 196 rfl rfl
set_option maxRecDepth 100000 in
theorem lkf_X3_108 : Cond.fieldLink RX3 108 "DayDiary$Tokens" "values" "[I" ∈ lw_g := lg_1 197 rfl rfl
set_option maxRecDepth 100000 in
theorem lkf_X6_18 : Cond.fieldLink RX6 18 "DayDiary$Tokens" "places" "[I" ∈ lw_g := lg_1 198 rfl rfl
set_option maxRecDepth 100000 in
theorem lkf_X3_112 : Cond.fieldLink RX3 112 "DayDiary$Tokens" "places" "[I" ∈ lw_g := lg_1 199 rfl rfl
set_option maxRecDepth 100000 in
theorem lkf_X6_21 : Cond.fieldLink RX6 21 "DayDiary$Tokens" "size" "I" ∈ lw_g := lg_1 200 rfl rfl
set_option maxRecDepth 100000 in
theorem lkf_X3_105 : Cond.fieldLink RX3 105 "DayDiary$Tokens" "size" "I" ∈ lw_g := lg_1 201 rfl rfl
set_option maxRecDepth 100000 in
theorem lkf_X3_12 : Cond.fieldLink RX3 12 "DayDiary$Parser" "tokens" "LDayDiary$Tokens;" ∈ lw_g := lg_1 211 rfl rfl
set_option maxRecDepth 100000 in
theorem lkf_X3_18 : Cond.fieldLink RX3 18 "DayDiary$Parser" "codes" "[I" ∈ lw_g := lg_1 212 rfl rfl
set_option maxRecDepth 100000 in
theorem lkf_X3_22 : Cond.fieldLink RX3 22 "DayDiary$Parser" "ends" "[I" ∈ lw_g := lg_1 213 rfl rfl
set_option maxRecDepth 100000 in
theorem lkf_X3_25 : Cond.fieldLink RX3 25 "DayDiary$Parser" "steps" "[I" ∈ lw_g := lg_1 214 rfl rfl
set_option maxRecDepth 100000 in
theorem lkf_X3_28 : Cond.fieldLink RX3 28 "DayDiary$Parser" "values" "[I" ∈ lw_g := lg_1 215 rfl rfl
set_option maxRecDepth 100000 in
theorem lkf_X3_31 : Cond.fieldLink RX3 31 "DayDiary$Parser" "rules" "I" ∈ lw_g := lg_1 216 rfl rfl
set_option maxRecDepth 100000 in
theorem lkf_X3_35 : Cond.fieldLink RX3 35 "DayDiary$Parser" "used" "I" ∈ lw_g := lg_1 217 rfl rfl
set_option maxRecDepth 100000 in
theorem lkf_X3_38 : Cond.fieldLink RX3 38 "DayDiary$Parser" "mend" "I" ∈ lw_g := lg_1 218 rfl rfl
set_option maxRecDepth 100000 in
theorem lkf_X3_41 : Cond.fieldLink RX3 41 "DayDiary$Parser" "fault" "I" ∈ lw_g := lg_1 219 rfl rfl
set_option maxRecDepth 100000 in
theorem lkf_X3_44 : Cond.fieldLink RX3 44 "DayDiary$Parser" "at" "I" ∈ lw_g := lg_1 220 rfl rfl
set_option maxRecDepth 100000 in
theorem lkf_X3_47 : Cond.fieldLink RX3 47 "DayDiary$Parser" "kind" "I" ∈ lw_g := lg_1 221 rfl rfl
set_option maxRecDepth 100000 in
theorem lkf_X0_31 : Cond.fieldLink RX0 31 "DayDiary$Coder" "words" "LDayDiary$Words;" ∈ lw_g := lg_1 251 rfl rfl
set_option maxRecDepth 100000 in
theorem lkf_X0_9 : Cond.fieldLink RX0 9 "DayDiary$Coder" "stack" "[I" ∈ lw_g := lg_1 252 rfl rfl
set_option maxRecDepth 100000 in
theorem lkf_X0_15 : Cond.fieldLink RX0 15 "DayDiary$Coder" "top" "I" ∈ lw_g := lg_1 253 rfl rfl
set_option maxRecDepth 100000 in
theorem lkf_X0_19 : Cond.fieldLink RX0 19 "DayDiary$Coder" "word" "I" ∈ lw_g := lg_1 254 rfl rfl
set_option maxRecDepth 100000 in
theorem lkf_X0_22 : Cond.fieldLink RX0 22 "DayDiary$Coder" "second" "I" ∈ lw_g := lg_1 255 rfl rfl
set_option maxRecDepth 100000 in
theorem lkf_X0_25 : Cond.fieldLink RX0 25 "DayDiary$Coder" "nextWord" "I" ∈ lw_g := lg_1 256 rfl rfl
set_option maxRecDepth 100000 in
theorem lkf_X0_28 : Cond.fieldLink RX0 28 "DayDiary$Coder" "ahead" "I" ∈ lw_g := lg_1 257 rfl rfl
set_option maxRecDepth 100000 in
theorem lkf_X8_12 : Cond.fieldLink RX8 12 "DayDiary" "words" "LDayDiary$Words;" ∈ lw_g := lg_1 273 rfl rfl
set_option maxRecDepth 100000 in
theorem lkf_X8_19 : Cond.fieldLink RX8 19 "DayDiary" "diaries" "Ljava/util/ArrayList;" ∈ lw_g := lg_1 274 rfl rfl
set_option maxRecDepth 100000 in
theorem lkf_X8_23 : Cond.fieldLink RX8 23 "DayDiary" "texts" "Ljava/util/ArrayList;" ∈ lw_g := lg_1 275 rfl rfl
set_option maxRecDepth 100000 in
theorem lkf_X8_31 : Cond.fieldLink RX8 31 "DayDiary" "noText" "LDayDiary$Text;" ∈ lw_g := lg_1 276 rfl rfl
set_option maxRecDepth 100000 in
theorem lkf_X8_38 : Cond.fieldLink RX8 38 "DayDiary" "tape" "LDayDiary$Tape;" ∈ lw_g := lg_1 277 rfl rfl
set_option maxRecDepth 100000 in
theorem lkf_X8_45 : Cond.fieldLink RX8 45 "DayDiary" "parser" "LDayDiary$Parser;" ∈ lw_g := lg_1 278 rfl rfl
set_option maxRecDepth 100000 in
theorem lkf_X8_54 : Cond.fieldLink RX8 54 "DayDiary" "coder" "LDayDiary$Coder;" ∈ lw_g := lg_1 279 rfl rfl
set_option maxRecDepth 100000 in
theorem lkf_X8_58 : Cond.fieldLink RX8 58 "DayDiary" "counts" "[I" ∈ lw_g := lg_1 280 rfl rfl
set_option maxRecDepth 100000 in
theorem lkf_X8_62 : Cond.fieldLink RX8 62 "DayDiary" "chosen" "I" ∈ lw_g := lg_1 281 rfl rfl
set_option maxRecDepth 100000 in
theorem lkf_X8_66 : Cond.fieldLink RX8 66 "DayDiary" "version" "I" ∈ lw_g := lg_1 282 rfl rfl
set_option maxRecDepth 100000 in
theorem lkm_L_23 : GoodIn lw_g (wsV RL 23 RX8 yX8_below (Cond.code yX8_below cX8_below 3 (some .boolean) :: lw_g)) := gi_V (lg_ps _ [304, 305, 306, 65, 307] rfl (by decide +kernel))
set_option maxRecDepth 100000 in
theorem lkm_X8_69 : GoodIn lw_g (wsS RX8 69 yX8_isWithin (Cond.code yX8_isWithin cX8_isWithin 3 (some .boolean) :: lw_g)) := gi_S (lg_ps _ [308, 309, 65, 310] rfl (by decide +kernel))
set_option maxRecDepth 100000 in
theorem lkm_X8_73 : GoodIn lw_g (wsV RX8 73 RX7 yX7_putBelow (Cond.code yX7_putBelow cX7_putBelow 3 (none) :: lw_g)) := gi_V (lg_ps _ [311, 312, 313, 66, 314] rfl (by decide +kernel))
set_option maxRecDepth 100000 in
theorem lkn_X7_15 : Cond.methodLinkNest RX7 15 yX8_isWithin "DayDiary" ∈ lw_tbl := List.mem_of_getElem? (i := 315) rfl
set_option maxRecDepth 100000 in
theorem lkm_X7_15 : ∀ w ∈ [Cond.static yX8_isWithin, .initialized yX8_isWithin.cls, .code yX8_isWithin cX8_isWithin 3 (some .boolean)], w ∈ lw_g := lg_ps _ [309, 65, 310] rfl (by decide +kernel)
set_option maxRecDepth 100000 in
theorem lkm_L_28 : GoodIn lw_g (wsV RL 28 RX8 yX8_diary (Cond.code yX8_diary cX8_diary 7 (some .int) :: lw_g)) := gi_V (lg_ps _ [316, 317, 318, 65, 319] rfl (by decide +kernel))
set_option maxRecDepth 100000 in
theorem lkm_X8_77 : GoodIn lw_g (wsS RX8 77 yX8_isHouseAndDay (Cond.code yX8_isHouseAndDay cX8_isHouseAndDay 2 (some .boolean) :: lw_g)) := gi_S (lg_ps _ [320, 321, 65, 322] rfl (by decide +kernel))
set_option maxRecDepth 100000 in
theorem lkm_X8_81 : GoodIn lw_g (wsV RX8 81 RJx4a65c yJx4a65c_size_8abf5 (Cond.code yJx4a65c_size_8abf5 cJx4a65c_size_8abf5 1 (some .int) :: lw_g)) := gi_V (lg_ps _ [323, 324, 325, 69, 326] rfl (by decide +kernel))
set_option maxRecDepth 100000 in
theorem lkm_X8_85 : GoodIn lw_g (wsV RX8 85 RJx4a65c yJx4a65c_get_915e3 (Cond.code yJx4a65c_get_915e3 cJx4a65c_get_915e3 2 (some (.object "java/lang/Object")) :: lw_g)) := gi_V (lg_ps _ [327, 328, 329, 69, 330] rfl (by decide +kernel))
set_option maxRecDepth 100000 in
theorem lkm_Jx4a65c_123 : GoodIn lw_g (wsV RJx4a65c 123 RJx4a65c yJx4a65c_elementData_915e3 (Cond.code yJx4a65c_elementData_915e3 cJx4a65c_elementData_915e3 2 (some (.object "java/lang/Object")) :: lw_g)) := gi_V (lg_ps _ [337, 338, 339, 69, 340] rfl (by decide +kernel))
set_option maxRecDepth 100000 in
theorem lkm_X8_91 : GoodIn lw_g (wsV RX8 91 RX1 yX1_isOf (Cond.code yX1_isOf cX1_isOf 3 (some .boolean) :: lw_g)) := gi_V (lg_ps _ [342, 343, 344, 78, 345] rfl (by decide +kernel))
set_option maxRecDepth 100000 in
theorem lkc_X1_18 : Cond.constant RX1 18 (1000000) ∈ lw_g := lg_1 353 rfl rfl
set_option maxRecDepth 100000 in
theorem lkf_X1_26 : Cond.fieldLink RX1 26 "DayDiary$Diary" "house" "I" ∈ lw_g := lg_1 354 rfl rfl
set_option maxRecDepth 100000 in
theorem lkf_X8_217 : Cond.fieldLink RX8 217 "DayDiary$Diary" "house" "I" ∈ lw_g := lg_1 355 rfl rfl
set_option maxRecDepth 100000 in
theorem lkf_X1_29 : Cond.fieldLink RX1 29 "DayDiary$Diary" "person" "I" ∈ lw_g := lg_1 356 rfl rfl
set_option maxRecDepth 100000 in
theorem lkf_X8_94 : Cond.fieldLink RX8 94 "DayDiary$Diary" "person" "I" ∈ lw_g := lg_1 357 rfl rfl
set_option maxRecDepth 100000 in
theorem lkf_X1_32 : Cond.fieldLink RX1 32 "DayDiary$Diary" "day" "I" ∈ lw_g := lg_1 358 rfl rfl
set_option maxRecDepth 100000 in
theorem lkf_X0_154 : Cond.fieldLink RX0 154 "DayDiary$Diary" "day" "I" ∈ lw_g := lg_1 359 rfl rfl
set_option maxRecDepth 100000 in
theorem lkf_X8_220 : Cond.fieldLink RX8 220 "DayDiary$Diary" "day" "I" ∈ lw_g := lg_1 360 rfl rfl
set_option maxRecDepth 100000 in
theorem lkf_X1_35 : Cond.fieldLink RX1 35 "DayDiary$Diary" "age" "I" ∈ lw_g := lg_1 361 rfl rfl
set_option maxRecDepth 100000 in
theorem lkf_X0_151 : Cond.fieldLink RX0 151 "DayDiary$Diary" "age" "I" ∈ lw_g := lg_1 362 rfl rfl
set_option maxRecDepth 100000 in
theorem lkf_X8_223 : Cond.fieldLink RX8 223 "DayDiary$Diary" "age" "I" ∈ lw_g := lg_1 363 rfl rfl
set_option maxRecDepth 100000 in
theorem lkf_X1_12 : Cond.fieldLink RX1 12 "DayDiary$Diary" "lines" "Ljava/util/ArrayList;" ∈ lw_g := lg_1 364 rfl rfl
set_option maxRecDepth 100000 in
theorem lkf_X0_40 : Cond.fieldLink RX0 40 "DayDiary$Diary" "lines" "Ljava/util/ArrayList;" ∈ lw_g := lg_1 365 rfl rfl
set_option maxRecDepth 100000 in
theorem lkf_X8_108 : Cond.fieldLink RX8 108 "DayDiary$Diary" "lines" "Ljava/util/ArrayList;" ∈ lw_g := lg_1 366 rfl rfl
set_option maxRecDepth 100000 in
theorem lkf_X1_19 : Cond.fieldLink RX1 19 "DayDiary$Diary" "weight" "I" ∈ lw_g := lg_1 367 rfl rfl
set_option maxRecDepth 100000 in
theorem lkf_X8_184 : Cond.fieldLink RX8 184 "DayDiary$Diary" "weight" "I" ∈ lw_g := lg_1 368 rfl rfl
set_option maxRecDepth 100000 in
theorem lkf_X1_23 : Cond.fieldLink RX1 23 "DayDiary$Diary" "codedVersion" "I" ∈ lw_g := lg_1 369 rfl rfl
set_option maxRecDepth 100000 in
theorem lkf_X0_35 : Cond.fieldLink RX0 35 "DayDiary$Diary" "codedVersion" "I" ∈ lw_g := lg_1 370 rfl rfl
set_option maxRecDepth 100000 in
theorem lkm_X8_100 : GoodIn lw_g (wsV RX8 100 RJx4a65c yJx4a65c_add_9ea2d (Cond.code yJx4a65c_add_9ea2d cJx4a65c_add_9ea2d 2 (some .boolean) :: lw_g)) := gi_V (lg_ps _ [386, 387, 388, 69, 389] rfl (by decide +kernel))
set_option maxRecDepth 100000 in
theorem lkm_Jx4a65c_131 : GoodIn lw_g (wsV RJx4a65c 131 RJx4a65c yJx4a65c_add_72be8 (Cond.code yJx4a65c_add_72be8 cJx4a65c_add_72be8 4 (none) :: lw_g)) := gi_V (lg_ps _ [390, 392, 0, 69, 393] rfl (by decide +kernel))
set_option maxRecDepth 100000 in
theorem lkm_Jx4a65c_129 : GoodIn lw_g (wsV RJx4a65c 129 RJx4a65c yJx4a65c_grow_d5877 (Cond.code yJx4a65c_grow_d5877 cJx4a65c_grow_d5877 1 (some (.array (.object "java/lang/Object"))) :: lw_g)) := gi_V (lg_ps _ [394, 396, 1, 69, 397] rfl (by decide +kernel))
set_option maxRecDepth 100000 in
theorem lkm_Jx4a65c_69 : GoodIn lw_g (wsV RJx4a65c 69 RJx4a65c yJx4a65c_grow_92f84 (Cond.code yJx4a65c_grow_92f84 cJx4a65c_grow_92f84 4 (some (.array (.object "java/lang/Object"))) :: lw_g)) := gi_V (lg_ps _ [398, 400, 2, 69, 401] rfl (by decide +kernel))
set_option maxRecDepth 100000 in
theorem lkc_J8_200 : Cond.constant RJ8 200 (2147483639) ∈ lw_g := lg_1 408 rfl rfl
set_option maxRecDepth 100000 in
theorem lkm_J8_201 : GoodIn lw_g (wsS RJ8 201 yJ8_hugeLength_7cf53 (Cond.code yJ8_hugeLength_7cf53 cJ8_hugeLength_7cf53 3 (some .int) :: lw_g)) := gi_S (lg_ps _ [409, 410, 79, 411] rfl (by decide +kernel))
set_option maxRecDepth 100000 in
theorem lkm_J7_300 : GoodIn lw_g (wsS RJ7 300 yJ7_copyOf_6403c (Cond.code yJ7_copyOf_6403c cJ7_copyOf_6403c 4 (some (.array (.object "java/lang/Object"))) :: lw_g)) := gi_S (lg_ps _ [431, 432, 81, 433] rfl (by decide +kernel))
set_option maxRecDepth 100000 in
theorem lkm_L_33 : GoodIn lw_g (wsV RL 33 RX8 yX8_line (Cond.code yX8_line cX8_line 9 (some .int) :: lw_g)) := gi_V (lg_ps _ [445, 446, 447, 65, 448] rfl (by decide +kernel))
set_option maxRecDepth 100000 in
theorem lkm_X8_104 : GoodIn lw_g (wsV RX8 104 RX8 yX8_find (Cond.code yX8_find cX8_find 2 (some (.object "DayDiary$Diary")) :: lw_g)) := gi_V (lg_ps _ [449, 451, 3, 65, 452] rfl (by decide +kernel))
set_option maxRecDepth 100000 in
theorem lkm_X8_111 : GoodIn lw_g (wsS RX8 111 yX8_holds (Cond.code yX8_holds cX8_holds 2 (some .boolean) :: lw_g)) := gi_S (lg_ps _ [453, 454, 65, 455] rfl (by decide +kernel))
set_option maxRecDepth 100000 in
theorem lkf_X2_21 : Cond.fieldLink RX2 21 "DayDiary$Line" "from" "I" ∈ lw_g := lg_1 462 rfl rfl
set_option maxRecDepth 100000 in
theorem lkf_X0_68 : Cond.fieldLink RX0 68 "DayDiary$Line" "from" "I" ∈ lw_g := lg_1 463 rfl rfl
set_option maxRecDepth 100000 in
theorem lkf_X1_55 : Cond.fieldLink RX1 55 "DayDiary$Line" "from" "I" ∈ lw_g := lg_1 464 rfl rfl
set_option maxRecDepth 100000 in
theorem lkf_X8_154 : Cond.fieldLink RX8 154 "DayDiary$Line" "from" "I" ∈ lw_g := lg_1 465 rfl rfl
set_option maxRecDepth 100000 in
theorem lkf_X2_24 : Cond.fieldLink RX2 24 "DayDiary$Line" "to" "I" ∈ lw_g := lg_1 466 rfl rfl
set_option maxRecDepth 100000 in
theorem lkf_X0_79 : Cond.fieldLink RX0 79 "DayDiary$Line" "to" "I" ∈ lw_g := lg_1 467 rfl rfl
set_option maxRecDepth 100000 in
theorem lkf_X1_52 : Cond.fieldLink RX1 52 "DayDiary$Line" "to" "I" ∈ lw_g := lg_1 468 rfl rfl
set_option maxRecDepth 100000 in
theorem lkf_X8_157 : Cond.fieldLink RX8 157 "DayDiary$Line" "to" "I" ∈ lw_g := lg_1 469 rfl rfl
set_option maxRecDepth 100000 in
theorem lkf_X2_27 : Cond.fieldLink RX2 27 "DayDiary$Line" "word" "I" ∈ lw_g := lg_1 470 rfl rfl
set_option maxRecDepth 100000 in
theorem lkf_X0_56 : Cond.fieldLink RX0 56 "DayDiary$Line" "word" "I" ∈ lw_g := lg_1 471 rfl rfl
set_option maxRecDepth 100000 in
theorem lkf_X8_160 : Cond.fieldLink RX8 160 "DayDiary$Line" "word" "I" ∈ lw_g := lg_1 472 rfl rfl
set_option maxRecDepth 100000 in
theorem lkf_X2_30 : Cond.fieldLink RX2 30 "DayDiary$Line" "second" "I" ∈ lw_g := lg_1 473 rfl rfl
set_option maxRecDepth 100000 in
theorem lkf_X0_57 : Cond.fieldLink RX0 57 "DayDiary$Line" "second" "I" ∈ lw_g := lg_1 474 rfl rfl
set_option maxRecDepth 100000 in
theorem lkf_X8_163 : Cond.fieldLink RX8 163 "DayDiary$Line" "second" "I" ∈ lw_g := lg_1 475 rfl rfl
set_option maxRecDepth 100000 in
theorem lkf_X2_33 : Cond.fieldLink RX2 33 "DayDiary$Line" "place" "I" ∈ lw_g := lg_1 476 rfl rfl
set_option maxRecDepth 100000 in
theorem lkf_X0_136 : Cond.fieldLink RX0 136 "DayDiary$Line" "place" "I" ∈ lw_g := lg_1 477 rfl rfl
set_option maxRecDepth 100000 in
theorem lkf_X8_166 : Cond.fieldLink RX8 166 "DayDiary$Line" "place" "I" ∈ lw_g := lg_1 478 rfl rfl
set_option maxRecDepth 100000 in
theorem lkf_X2_36 : Cond.fieldLink RX2 36 "DayDiary$Line" "who" "I" ∈ lw_g := lg_1 479 rfl rfl
set_option maxRecDepth 100000 in
theorem lkf_X1_75 : Cond.fieldLink RX1 75 "DayDiary$Line" "who" "I" ∈ lw_g := lg_1 480 rfl rfl
set_option maxRecDepth 100000 in
theorem lkf_X0_139 : Cond.fieldLink RX0 139 "DayDiary$Line" "who" "I" ∈ lw_g := lg_1 481 rfl rfl
set_option maxRecDepth 100000 in
theorem lkf_X8_169 : Cond.fieldLink RX8 169 "DayDiary$Line" "who" "I" ∈ lw_g := lg_1 482 rfl rfl
set_option maxRecDepth 100000 in
theorem lkf_X2_9 : Cond.fieldLink RX2 9 "DayDiary$Line" "code" "I" ∈ lw_g := lg_1 483 rfl rfl
set_option maxRecDepth 100000 in
theorem lkf_X0_62 : Cond.fieldLink RX0 62 "DayDiary$Line" "code" "I" ∈ lw_g := lg_1 484 rfl rfl
set_option maxRecDepth 100000 in
theorem lkf_X1_62 : Cond.fieldLink RX1 62 "DayDiary$Line" "code" "I" ∈ lw_g := lg_1 485 rfl rfl
set_option maxRecDepth 100000 in
theorem lkf_X8_144 : Cond.fieldLink RX8 144 "DayDiary$Line" "code" "I" ∈ lw_g := lg_1 486 rfl rfl
set_option maxRecDepth 100000 in
theorem lkf_X2_15 : Cond.fieldLink RX2 15 "DayDiary$Line" "secondCode" "I" ∈ lw_g := lg_1 487 rfl rfl
set_option maxRecDepth 100000 in
theorem lkf_X0_65 : Cond.fieldLink RX0 65 "DayDiary$Line" "secondCode" "I" ∈ lw_g := lg_1 488 rfl rfl
set_option maxRecDepth 100000 in
theorem lkf_X2_18 : Cond.fieldLink RX2 18 "DayDiary$Line" "mendedAhead" "I" ∈ lw_g := lg_1 489 rfl rfl
set_option maxRecDepth 100000 in
theorem lkf_X0_76 : Cond.fieldLink RX0 76 "DayDiary$Line" "mendedAhead" "I" ∈ lw_g := lg_1 490 rfl rfl
set_option maxRecDepth 100000 in
theorem lkf_X1_65 : Cond.fieldLink RX1 65 "DayDiary$Line" "mendedAhead" "I" ∈ lw_g := lg_1 491 rfl rfl
set_option maxRecDepth 100000 in
theorem lkf_X8_174 : Cond.fieldLink RX8 174 "DayDiary$Line" "mendedAhead" "I" ∈ lw_g := lg_1 492 rfl rfl
set_option maxRecDepth 100000 in
theorem lkm_X8_119 : GoodIn lw_g (wsV RX8 119 RX1 yX1_insert (Cond.code yX1_insert cX1_insert 5 (some .boolean) :: lw_g)) := gi_V (lg_ps _ [512, 513, 514, 78, 515] rfl (by decide +kernel))
set_option maxRecDepth 100000 in
theorem lkm_X1_38 : GoodIn lw_g (wsV RX1 38 RJx4a65c yJx4a65c_size_8abf5 (Cond.code yJx4a65c_size_8abf5 cJx4a65c_size_8abf5 1 (some .int) :: lw_g)) := gi_V (lg_ps _ [516, 324, 325, 69, 326] rfl (by decide +kernel))
set_option maxRecDepth 100000 in
theorem lkm_X1_42 : GoodIn lw_g (wsV RX1 42 RJx4a65c yJx4a65c_get_915e3 (Cond.code yJx4a65c_get_915e3 cJx4a65c_get_915e3 2 (some (.object "java/lang/Object")) :: lw_g)) := gi_V (lg_ps _ [517, 328, 329, 69, 330] rfl (by decide +kernel))
set_option maxRecDepth 100000 in
theorem lkm_X1_48 : GoodIn lw_g (wsV RX1 48 RX2 yX2_tensInCommon (Cond.code yX2_tensInCommon cX2_tensInCommon 2 (some .int) :: lw_g)) := gi_V (lg_ps _ [519, 520, 521, 83, 522] rfl (by decide +kernel))
set_option maxRecDepth 100000 in
theorem lkm_X1_58 : GoodIn lw_g (wsV RX1 58 RJx4a65c yJx4a65c_add_7a177 (Cond.code yJx4a65c_add_7a177 cJx4a65c_add_7a177 5 (none) :: lw_g)) := gi_V (lg_ps _ [525, 526, 527, 69, 528] rfl (by decide +kernel))
set_option maxRecDepth 100000 in
theorem lkm_Jx4a65c_135 : GoodIn lw_g (wsV RJx4a65c 135 RJx4a65c yJx4a65c_rangeCheckForAdd_d00df (Cond.code yJx4a65c_rangeCheckForAdd_d00df cJx4a65c_rangeCheckForAdd_d00df 2 (none) :: lw_g)) := gi_V (lg_ps _ [529, 531, 4, 69, 532] rfl (by decide +kernel))
set_option maxRecDepth 100000 in
theorem lkm_L_40 : GoodIn lw_g (wsV RL 40 RX8 yX8_feed (Cond.code yX8_feed cX8_feed 7 (some .int) :: lw_g)) := gi_V (lg_ps _ [534, 535, 536, 65, 537] rfl (by decide +kernel))
set_option maxRecDepth 100000 in
theorem lkm_X8_123 : GoodIn lw_g (wsV RX8 123 RX4 yX4_addBytes (Cond.code yX4_addBytes cX4_addBytes 5 (none) :: lw_g)) := gi_V (lg_ps _ [538, 539, 540, 71, 541] rfl (by decide +kernel))
set_option maxRecDepth 100000 in
theorem lkc_X4_19 : Cond.constantLong RX4 19 (255) ∈ lw_g := lg_1 542 rfl rfl
set_option maxRecDepth 100000 in
theorem lkn_X4_21 : Cond.methodLinkNest RX4 21 yX8_isWithin "DayDiary" ∈ lw_tbl := List.mem_of_getElem? (i := 543) rfl
set_option maxRecDepth 100000 in
theorem lkm_X4_21 : ∀ w ∈ [Cond.static yX8_isWithin, .initialized yX8_isWithin.cls, .code yX8_isWithin cX8_isWithin 3 (some .boolean)], w ∈ lw_g := lg_ps _ [309, 65, 310] rfl (by decide +kernel)
set_option maxRecDepth 100000 in
theorem lkm_L_45 : GoodIn lw_g (wsV RL 45 RX8 yX8_text (Cond.code yX8_text cX8_text 2 (some .int) :: lw_g)) := gi_V (lg_ps _ [544, 545, 546, 65, 547] rfl (by decide +kernel))
set_option maxRecDepth 100000 in
theorem lkm_X8_129 : GoodIn lw_g (wsV RX8 129 RX3 yX3_read (Cond.code yX3_read cX3_read 4 (some .int) :: lw_g)) := gi_V (lg_ps _ [548, 549, 550, 72, 551] rfl (by decide +kernel))
set_option maxRecDepth 100000 in
theorem lkm_X3_50 : GoodIn lw_g (wsV RX3 50 RX6 yX6_scan (Cond.code yX6_scan cX6_scan 6 (none) :: lw_g)) := gi_V (lg_ps _ [552, 553, 554, 73, 555] rfl (by decide +kernel))
set_option maxRecDepth 100000 in
theorem lkn_X6_32 : Cond.methodLinkNest RX6 32 yX8_isWithin "DayDiary" ∈ lw_tbl := List.mem_of_getElem? (i := 556) rfl
set_option maxRecDepth 100000 in
theorem lkm_X6_32 : ∀ w ∈ [Cond.static yX8_isWithin, .initialized yX8_isWithin.cls, .code yX8_isWithin cX8_isWithin 3 (some .boolean)], w ∈ lw_g := lg_ps _ [309, 65, 310] rfl (by decide +kernel)
set_option maxRecDepth 100000 in
theorem lkm_X6_36 : GoodIn lw_g (wsV RX6 36 RX4 yX4_endOfRun (Cond.code yX4_endOfRun cX4_endOfRun 6 (some .int) :: lw_g)) := gi_V (lg_ps _ [557, 558, 559, 71, 560] rfl (by decide +kernel))
set_option maxRecDepth 100000 in
theorem lkm_X6_40 : GoodIn lw_g (wsS RX6 40 yX6_kindOfWord (Cond.code yX6_kindOfWord cX6_kindOfWord 4 (some .int) :: lw_g)) := gi_S (lg_ps _ [561, 562, 73, 563] rfl (by decide +kernel))
set_option maxRecDepth 100000 in
theorem lkm_X6_56 : GoodIn lw_g (wsS RX6 56 yX6_spelling (Cond.code yX6_spelling cX6_spelling 1 (some (.object "java/lang/String")) :: lw_g)) := gi_S (lg_ps _ [564, 565, 73, 566] rfl (by decide +kernel))
set_option maxRecDepth 100000 in
theorem lkm_X6_60 : GoodIn lw_g (wsV RX6 60 RX4 yX4_spells (Cond.code yX4_spells cX4_spells 5 (some .boolean) :: lw_g)) := gi_V (lg_ps _ [582, 583, 584, 71, 585] rfl (by decide +kernel))
set_option maxRecDepth 100000 in
theorem lkm_X4_25 : GoodIn lw_g (wsV RX4 25 RJ0 yJ0_length_8abf5 (Cond.code yJ0_length_8abf5 cJ0_length_8abf5 1 (some .int) :: lw_g)) := gi_V (lg_ps _ [586, 587, 588, 84, 589] rfl (by decide +kernel))
set_option maxRecDepth 100000 in
theorem lkm_J0_335 : GoodIn lw_g (wsV RJ0 335 RJ0 yJ0_coder_7d493 (Cond.code yJ0_coder_7d493 cJ0_coder_7d493 1 (some .byte) :: lw_g)) := gi_V (lg_ps _ [590, 591, 592, 84, 593] rfl (by decide +kernel))
set_option maxRecDepth 100000 in
theorem lkf_J0_38 : Cond.fieldLink RJ0 38 "java/lang/String" "COMPACT_STRINGS" "Z" ∈ lw_g := lg_1 594 rfl rfl
set_option maxRecDepth 100000 in
theorem lkm_X4_31 : GoodIn lw_g (wsV RX4 31 RJ0 yJ0_charAt_5068e (Cond.code yJ0_charAt_5068e cJ0_charAt_5068e 2 (some .char) :: lw_g)) := gi_V (lg_ps _ [596, 597, 598, 84, 599] rfl (by decide +kernel))
set_option maxRecDepth 100000 in
theorem lkm_J0_492 : GoodIn lw_g (wsV RJ0 492 RJ0 yJ0_isLatin1_aae02 (Cond.code yJ0_isLatin1_aae02 cJ0_isLatin1_aae02 1 (some .boolean) :: lw_g)) := gi_V (lg_ps _ [600, 601, 602, 84, 603] rfl (by decide +kernel))
set_option maxRecDepth 100000 in
theorem lkf_J0_1053 : Cond.fieldLink RJ0 1053 "jdk/internal/util/Preconditions" "SIOOBE_FORMATTER" "Ljava/util/function/BiFunction;" ∈ lw_g := lg_1 610 rfl rfl
set_option maxRecDepth 100000 in
theorem lkm_J2_67 : GoodIn lw_g (wsS RJ2 67 yJ2_checkIndex_2214a (Cond.code yJ2_checkIndex_2214a cJ2_checkIndex_2214a 2 (none) :: lw_g)) := gi_S (lg_ps _ [616, 617, 86, 618] rfl (by decide +kernel))
set_option maxRecDepth 100000 in
theorem lkm_J2_48 : GoodIn lw_g (wsS RJ2 48 yJ2_length_9d52b (Cond.code yJ2_length_9d52b cJ2_length_9d52b 1 (some .int) :: lw_g)) := gi_S (lg_ps _ [619, 620, 86, 621] rfl (by decide +kernel))
set_option maxRecDepth 100000 in
theorem lkm_J2_71 : GoodIn lw_g (wsS RJ2 71 yJ2_getChar_3b067 (Cond.code yJ2_getChar_3b067 cJ2_getChar_3b067 2 (some .char) :: lw_g)) := gi_S (lg_ps _ [623, 624, 86, 625] rfl (by decide +kernel))
set_option maxRecDepth 100000 in
theorem lkf_J2_44 : Cond.fieldLink RJ2 44 "java/lang/StringUTF16" "$assertionsDisabled" "Z" ∈ lw_g := lg_1 626 rfl rfl
set_option maxRecDepth 100000 in
theorem lkf_J2_59 : Cond.fieldLink RJ2 59 "java/lang/StringUTF16" "HI_BYTE_SHIFT" "I" ∈ lw_g := lg_1 628 rfl rfl
set_option maxRecDepth 100000 in
theorem lkf_J2_63 : Cond.fieldLink RJ2 63 "java/lang/StringUTF16" "LO_BYTE_SHIFT" "I" ∈ lw_g := lg_1 630 rfl rfl
set_option maxRecDepth 100000 in
theorem lkm_X6_44 : GoodIn lw_g (wsV RX6 44 RX6 yX6_add (Cond.code yX6_add cX6_add 4 (none) :: lw_g)) := gi_V (lg_ps _ [632, 634, 5, 73, 635] rfl (by decide +kernel))
set_option maxRecDepth 100000 in
theorem lkm_X6_48 : GoodIn lw_g (wsV RX6 48 RX6 yX6_addNumber (Cond.code yX6_addNumber cX6_addNumber 6 (none) :: lw_g)) := gi_V (lg_ps _ [636, 638, 6, 73, 639] rfl (by decide +kernel))
set_option maxRecDepth 100000 in
theorem lkm_X6_52 : GoodIn lw_g (wsS RX6 52 yX6_kindOfSign (Cond.code yX6_kindOfSign cX6_kindOfSign 1 (some .int) :: lw_g)) := gi_S (lg_ps _ [640, 641, 73, 642] rfl (by decide +kernel))
set_option maxRecDepth 100000 in
theorem lkm_X3_54 : GoodIn lw_g (wsV RX3 54 RX3 yX3_moveTo (Cond.code yX3_moveTo cX3_moveTo 2 (none) :: lw_g)) := gi_V (lg_ps _ [643, 645, 7, 72, 646] rfl (by decide +kernel))
set_option maxRecDepth 100000 in
theorem lkm_X3_58 : GoodIn lw_g (wsV RX3 58 RX3 yX3_fail (Cond.code yX3_fail cX3_fail 2 (none) :: lw_g)) := gi_V (lg_ps _ [647, 649, 8, 72, 650] rfl (by decide +kernel))
set_option maxRecDepth 100000 in
theorem lkm_X3_61 : GoodIn lw_g (wsV RX3 61 RX3 yX3_take (Cond.code yX3_take cX3_take 2 (none) :: lw_g)) := gi_V (lg_ps _ [651, 653, 9, 72, 654] rfl (by decide +kernel))
set_option maxRecDepth 100000 in
theorem lkm_X3_64 : GoodIn lw_g (wsV RX3 64 RX3 yX3_takeNumber (Cond.code yX3_takeNumber cX3_takeNumber 4 (some .int) :: lw_g)) := gi_V (lg_ps _ [655, 657, 10, 72, 658] rfl (by decide +kernel))
set_option maxRecDepth 100000 in
theorem lkn_X3_98 : Cond.methodLinkNest RX3 98 yX8_isWithin "DayDiary" ∈ lw_tbl := List.mem_of_getElem? (i := 659) rfl
set_option maxRecDepth 100000 in
theorem lkm_X3_98 : ∀ w ∈ [Cond.static yX8_isWithin, .initialized yX8_isWithin.cls, .code yX8_isWithin cX8_isWithin 3 (some .boolean)], w ∈ lw_g := lg_ps _ [309, 65, 310] rfl (by decide +kernel)
set_option maxRecDepth 100000 in
theorem lkm_X3_68 : GoodIn lw_g (wsV RX3 68 RX3 yX3_expression (Cond.code yX3_expression cX3_expression 3 (none) :: lw_g)) := gi_V (lg_ps _ [660, 662, 11, 72, 663] rfl (by decide +kernel))
set_option maxRecDepth 100000 in
theorem lkm_X3_85 : GoodIn lw_g (wsV RX3 85 RX3 yX3_test (Cond.code yX3_test cX3_test 3 (none) :: lw_g)) := gi_V (lg_ps _ [664, 666, 12, 72, 667] rfl (by decide +kernel))
set_option maxRecDepth 100000 in
theorem lkm_X3_92 : GoodIn lw_g (wsV RX3 92 RX3 yX3_sum (Cond.code yX3_sum cX3_sum 4 (none) :: lw_g)) := gi_V (lg_ps _ [668, 670, 13, 72, 671] rfl (by decide +kernel))
set_option maxRecDepth 100000 in
theorem lkm_X3_95 : GoodIn lw_g (wsV RX3 95 RX3 yX3_part (Cond.code yX3_part cX3_part 5 (none) :: lw_g)) := gi_V (lg_ps _ [672, 674, 14, 72, 675] rfl (by decide +kernel))
set_option maxRecDepth 100000 in
theorem lkc_X3_104 : Cond.constant RX3 104 (2147483647) ∈ lw_g := lg_1 676 rfl rfl
set_option maxRecDepth 100000 in
theorem lkm_X3_88 : GoodIn lw_g (wsV RX3 88 RX3 yX3_emit (Cond.code yX3_emit cX3_emit 3 (none) :: lw_g)) := gi_V (lg_ps _ [677, 679, 15, 72, 680] rfl (by decide +kernel))
set_option maxRecDepth 100000 in
theorem lkm_X3_71 : GoodIn lw_g (wsV RX3 71 RX3 yX3_endRule (Cond.code yX3_endRule cX3_endRule 2 (none) :: lw_g)) := gi_V (lg_ps _ [681, 683, 16, 72, 684] rfl (by decide +kernel))
set_option maxRecDepth 100000 in
theorem lkm_X8_133 : GoodIn lw_g (wsV RX8 133 RX3 yX3_makeText (Cond.code yX3_makeText cX3_makeText 1 (some (.object "DayDiary$Text")) :: lw_g)) := gi_V (lg_ps _ [685, 686, 687, 72, 688] rfl (by decide +kernel))
set_option maxRecDepth 100000 in
theorem lkm_X8_137 : GoodIn lw_g (wsV RX8 137 RX8 yX8_putInForce (Cond.code yX8_putInForce cX8_putInForce 2 (none) :: lw_g)) := gi_V (lg_ps _ [701, 703, 17, 65, 704] rfl (by decide +kernel))
set_option maxRecDepth 100000 in
theorem lkm_L_50 : GoodIn lw_g (wsV RL 50 RX8 yX8_choose (Cond.code yX8_choose cX8_choose 2 (some .boolean) :: lw_g)) := gi_V (lg_ps _ [706, 707, 708, 65, 709] rfl (by decide +kernel))
set_option maxRecDepth 100000 in
theorem lkm_L_55 : GoodIn lw_g (wsV RL 55 RX8 yX8_code (Cond.code yX8_code cX8_code 4 (some .int) :: lw_g)) := gi_V (lg_ps _ [710, 711, 712, 65, 713] rfl (by decide +kernel))
set_option maxRecDepth 100000 in
theorem lkm_X8_141 : GoodIn lw_g (wsV RX8 141 RX8 yX8_findCoded (Cond.code yX8_findCoded cX8_findCoded 3 (some (.object "DayDiary$Diary")) :: lw_g)) := gi_V (lg_ps _ [714, 716, 18, 65, 717] rfl (by decide +kernel))
set_option maxRecDepth 100000 in
theorem lkm_X8_231 : GoodIn lw_g (wsV RX8 231 RX8 yX8_textInForce (Cond.code yX8_textInForce cX8_textInForce 1 (some (.object "DayDiary$Text")) :: lw_g)) := gi_V (lg_ps _ [718, 720, 19, 65, 721] rfl (by decide +kernel))
set_option maxRecDepth 100000 in
theorem lkm_X8_237 : GoodIn lw_g (wsV RX8 237 RX0 yX0_refresh (Cond.code yX0_refresh cX0_refresh 9 (none) :: lw_g)) := gi_V (lg_ps _ [722, 723, 724, 74, 725] rfl (by decide +kernel))
set_option maxRecDepth 100000 in
theorem lkm_X0_44 : GoodIn lw_g (wsV RX0 44 RJx4a65c yJx4a65c_size_8abf5 (Cond.code yJx4a65c_size_8abf5 cJx4a65c_size_8abf5 1 (some .int) :: lw_g)) := gi_V (lg_ps _ [726, 324, 325, 69, 326] rfl (by decide +kernel))
set_option maxRecDepth 100000 in
theorem lkm_X0_50 : GoodIn lw_g (wsV RX0 50 RJx4a65c yJx4a65c_get_915e3 (Cond.code yJx4a65c_get_915e3 cJx4a65c_get_915e3 2 (some (.object "java/lang/Object")) :: lw_g)) := gi_V (lg_ps _ [727, 328, 329, 69, 330] rfl (by decide +kernel))
set_option maxRecDepth 100000 in
theorem lkm_X0_58 : GoodIn lw_g (wsV RX0 58 RX0 yX0_codeAs (Cond.code yX0_codeAs cX0_codeAs 8 (some .int) :: lw_g)) := gi_V (lg_ps _ [729, 731, 20, 74, 732] rfl (by decide +kernel))
set_option maxRecDepth 100000 in
theorem lkm_X0_88 : GoodIn lw_g (wsV RX0 88 RX0 yX0_valueOf (Cond.code yX0_valueOf cX0_valueOf 9 (some .int) :: lw_g)) := gi_V (lg_ps _ [733, 735, 21, 74, 736] rfl (by decide +kernel))
set_option maxRecDepth 100000 in
theorem lkn_X0_107 : Cond.methodLinkNest RX0 107 yX8_isWithin "DayDiary" ∈ lw_tbl := List.mem_of_getElem? (i := 739) rfl
set_option maxRecDepth 100000 in
theorem lkm_X0_107 : ∀ w ∈ [Cond.static yX8_isWithin, .initialized yX8_isWithin.cls, .code yX8_isWithin cX8_isWithin 3 (some .boolean)], w ∈ lw_g := lg_ps _ [309, 65, 310] rfl (by decide +kernel)
set_option maxRecDepth 100000 in
theorem lkm_X0_111 : GoodIn lw_g (wsV RX0 111 RX0 yX0_joinTop (Cond.code yX0_joinTop cX0_joinTop 2 (none) :: lw_g)) := gi_V (lg_ps _ [740, 742, 22, 74, 743] rfl (by decide +kernel))
set_option maxRecDepth 100000 in
theorem lkm_X0_122 : GoodIn lw_g (wsS RX0 122 yX0_joined (Cond.code yX0_joined cX0_joined 3 (some .int) :: lw_g)) := gi_S (lg_ps _ [744, 745, 74, 746] rfl (by decide +kernel))
set_option maxRecDepth 100000 in
theorem lkm_X0_126 : GoodIn lw_g (wsS RX0 126 yX0_oneIf (Cond.code yX0_oneIf cX0_oneIf 1 (some .int) :: lw_g)) := gi_S (lg_ps _ [747, 748, 74, 749] rfl (by decide +kernel))
set_option maxRecDepth 100000 in
theorem lkm_X0_115 : GoodIn lw_g (wsV RX0 115 RX0 yX0_partOf (Cond.code yX0_partOf cX0_partOf 5 (some .int) :: lw_g)) := gi_V (lg_ps _ [750, 752, 23, 74, 753] rfl (by decide +kernel))
set_option maxRecDepth 100000 in
theorem lkm_X0_130 : GoodIn lw_g (wsV RX0 130 RX7 yX7_isUnder (Cond.code yX7_isUnder cX7_isUnder 5 (some .boolean) :: lw_g)) := gi_V (lg_ps _ [754, 755, 756, 66, 757] rfl (by decide +kernel))
set_option maxRecDepth 100000 in
theorem lkc_J6_265 : Cond.constant RJ6 265 (1431655765) ∈ lw_g := lg_1 761 rfl rfl
set_option maxRecDepth 100000 in
theorem lkc_J6_266 : Cond.constant RJ6 266 (858993459) ∈ lw_g := lg_1 762 rfl rfl
set_option maxRecDepth 100000 in
theorem lkc_J6_267 : Cond.constant RJ6 267 (252645135) ∈ lw_g := lg_1 763 rfl rfl
set_option maxRecDepth 100000 in
theorem lkm_X0_148 : GoodIn lw_g (wsV RX0 148 RX2 yX2_length (Cond.code yX2_length cX2_length 1 (some .int) :: lw_g)) := gi_V (lg_ps _ [764, 765, 766, 83, 767] rfl (by decide +kernel))
set_option maxRecDepth 100000 in
theorem lkm_X0_119 : GoodIn lw_g (wsV RX0 119 RX0 yX0_push (Cond.code yX0_push cX0_push 2 (none) :: lw_g)) := gi_V (lg_ps _ [768, 770, 24, 74, 771] rfl (by decide +kernel))
set_option maxRecDepth 100000 in
theorem lkm_L_68 : GoodIn lw_g (wsV RL 68 RX8 yX8_ten (Cond.code yX8_ten cX8_ten 6 (some .int) :: lw_g)) := gi_V (lg_ps _ [772, 773, 774, 65, 775] rfl (by decide +kernel))
set_option maxRecDepth 100000 in
theorem lkm_L_72 : GoodIn lw_g (wsV RL 72 RX8 yX8_known (Cond.code yX8_known cX8_known 3 (some .boolean) :: lw_g)) := gi_V (lg_ps _ [776, 777, 778, 65, 779] rfl (by decide +kernel))
set_option maxRecDepth 100000 in
theorem lkc_X8_177 : Cond.constant RX8 177 (1000000) ∈ lw_g := lg_1 780 rfl rfl
set_option maxRecDepth 100000 in
theorem lkm_L_76 : GoodIn lw_g (wsV RL 76 RX8 yX8_rounds (Cond.code yX8_rounds cX8_rounds 4 (some .int) :: lw_g)) := gi_V (lg_ps _ [781, 782, 783, 65, 784] rfl (by decide +kernel))
set_option maxRecDepth 100000 in
theorem lkm_X8_178 : GoodIn lw_g (wsV RX8 178 RX8 yX8_weighSort (Cond.code yX8_weighSort cX8_weighSort 6 (none) :: lw_g)) := gi_V (lg_ps _ [785, 787, 25, 65, 788] rfl (by decide +kernel))
set_option maxRecDepth 100000 in
theorem lkm_X8_245 : GoodIn lw_g (wsV RX8 245 RX8 yX8_weightOfSort (Cond.code yX8_weightOfSort cX8_weightOfSort 6 (some .long) :: lw_g)) := gi_V (lg_ps _ [789, 791, 26, 65, 792] rfl (by decide +kernel))
set_option maxRecDepth 100000 in
theorem lkm_X8_241 : GoodIn lw_g (wsV RX8 241 RX1 yX1_isOfSort (Cond.code yX1_isOfSort cX1_isOfSort 2 (some .boolean) :: lw_g)) := gi_V (lg_ps _ [793, 794, 795, 78, 796] rfl (by decide +kernel))
set_option maxRecDepth 100000 in
theorem lkc_X8_194 : Cond.constantLong RX8 194 (1000) ∈ lw_g := lg_1 797 rfl rfl
set_option maxRecDepth 100000 in
theorem lkm_X8_181 : GoodIn lw_g (wsV RX8 181 RX8 yX8_greatestDifference (Cond.code yX8_greatestDifference cX8_greatestDifference 6 (some .int) :: lw_g)) := gi_V (lg_ps _ [798, 800, 27, 65, 801] rfl (by decide +kernel))
set_option maxRecDepth 100000 in
theorem lkm_X8_249 : GoodIn lw_g (wsV RX8 249 RX8 yX8_hasSort (Cond.code yX8_hasSort cX8_hasSort 3 (some .boolean) :: lw_g)) := gi_V (lg_ps _ [802, 804, 28, 65, 805] rfl (by decide +kernel))
set_option maxRecDepth 100000 in
theorem lkm_L_81 : GoodIn lw_g (wsV RL 81 RX8 yX8_weight (Cond.code yX8_weight cX8_weight 3 (some .int) :: lw_g)) := gi_V (lg_ps _ [812, 813, 814, 65, 815] rfl (by decide +kernel))
set_option maxRecDepth 100000 in
theorem lkm_L_85 : GoodIn lw_g (wsV RL 85 RX8 yX8_cell (Cond.code yX8_cell cX8_cell 10 (some .int) :: lw_g)) := gi_V (lg_ps _ [816, 817, 818, 65, 819] rfl (by decide +kernel))
set_option maxRecDepth 100000 in
theorem lkm_X8_187 : GoodIn lw_g (wsV RX8 187 RX8 yX8_codeDiaries (Cond.code yX8_codeDiaries cX8_codeDiaries 2 (none) :: lw_g)) := gi_V (lg_ps _ [820, 822, 29, 65, 823] rfl (by decide +kernel))
set_option maxRecDepth 100000 in
theorem lkm_X8_190 : GoodIn lw_g (wsV RX8 190 RX1 yX1_tensInCell (Cond.code yX1_tensInCell cX1_tensInCell 6 (some .int) :: lw_g)) := gi_V (lg_ps _ [824, 825, 826, 78, 827] rfl (by decide +kernel))
set_option maxRecDepth 100000 in
theorem lkm_X1_68 : GoodIn lw_g (wsV RX1 68 RX2 yX2_isInCell (Cond.code yX2_isInCell cX2_isInCell 5 (some .boolean) :: lw_g)) := gi_V (lg_ps _ [828, 829, 830, 83, 831] rfl (by decide +kernel))
set_option maxRecDepth 100000 in
theorem lkm_X1_72 : GoodIn lw_g (wsV RX1 72 RX2 yX2_length (Cond.code yX2_length cX2_length 1 (some .int) :: lw_g)) := gi_V (lg_ps _ [832, 765, 766, 83, 767] rfl (by decide +kernel))
set_option maxRecDepth 100000 in
theorem lkm_L_90 : GoodIn lw_g (wsV RL 90 RX8 yX8_lead (Cond.code yX8_lead cX8_lead 8 (some .int) :: lw_g)) := gi_V (lg_ps _ [833, 834, 835, 65, 836] rfl (by decide +kernel))
set_option maxRecDepth 100000 in
theorem lkm_X8_196 : GoodIn lw_g (wsV RX8 196 RX2 yX2_isInCell (Cond.code yX2_isInCell cX2_isInCell 5 (some .boolean) :: lw_g)) := gi_V (lg_ps _ [837, 829, 830, 83, 831] rfl (by decide +kernel))
set_option maxRecDepth 100000 in
theorem lkm_L_94 : GoodIn lw_g (wsV RL 94 RX8 yX8_next (Cond.code yX8_next cX8_next 5 (some .int) :: lw_g)) := gi_V (lg_ps _ [838, 839, 840, 65, 841] rfl (by decide +kernel))
set_option maxRecDepth 100000 in
theorem lkm_X8_199 : GoodIn lw_g (wsV RX8 199 RX1 yX1_followers (Cond.code yX1_followers cX1_followers 8 (some .int) :: lw_g)) := gi_V (lg_ps _ [842, 843, 844, 78, 845] rfl (by decide +kernel))
set_option maxRecDepth 100000 in
theorem lkm_L_98 : GoodIn lw_g (wsV RL 98 RX8 yX8_quarrels (Cond.code yX8_quarrels cX8_quarrels 8 (some .int) :: lw_g)) := gi_V (lg_ps _ [846, 847, 848, 65, 849] rfl (by decide +kernel))
set_option maxRecDepth 100000 in
theorem lkm_X8_202 : GoodIn lw_g (wsV RX8 202 RX1 yX1_tensDeniedBy (Cond.code yX1_tensDeniedBy cX1_tensDeniedBy 5 (some .int) :: lw_g)) := gi_V (lg_ps _ [850, 851, 852, 78, 853] rfl (by decide +kernel))
set_option maxRecDepth 100000 in
theorem lkn_X1_78 : Cond.methodLinkNest RX1 78 yX8_holds "DayDiary" ∈ lw_tbl := List.mem_of_getElem? (i := 854) rfl
set_option maxRecDepth 100000 in
theorem lkm_X1_78 : ∀ w ∈ [Cond.static yX8_holds, .initialized yX8_holds.cls, .code yX8_holds cX8_holds 2 (some .boolean)], w ∈ lw_g := lg_ps _ [454, 65, 455] rfl (by decide +kernel)
set_option maxRecDepth 100000 in
theorem lkm_X1_81 : GoodIn lw_g (wsV RX1 81 RX1 yX1_tensWithout (Cond.code yX1_tensWithout cX1_tensWithout 6 (some .int) :: lw_g)) := gi_V (lg_ps _ [855, 856, 857, 78, 858] rfl (by decide +kernel))
set_option maxRecDepth 100000 in
theorem lkm_L_106 : GoodIn lw_g (wsV RL 106 RX8 yX8_count (Cond.code yX8_count cX8_count 2 (some .int) :: lw_g)) := gi_V (lg_ps _ [859, 860, 861, 65, 862] rfl (by decide +kernel))
set_option maxRecDepth 100000 in
theorem lkm_X8_228 : GoodIn lw_g (wsV RX8 228 RX8 yX8_linesInAll (Cond.code yX8_linesInAll cX8_linesInAll 3 (some .int) :: lw_g)) := gi_V (lg_ps _ [863, 865, 30, 65, 866] rfl (by decide +kernel))
set_option maxRecDepth 100000 in
theorem lkm_L_7 : GoodIn lw_g (wsV RL 7 RX8 yX8_look (Cond.code yX8_look cX8_look 6 (some .int) :: lw_g)) := gi_V (lg_ps _ [871, 872, 873, 65, 874] rfl (by decide +kernel))
set_option maxRecDepth 100000 in
theorem lkm_L_15 : GoodIn lw_g (wsV RL 15 RX8 yX8_day (Cond.code yX8_day cX8_day 4 (some .int) :: lw_g)) := gi_V (lg_ps _ [944, 945, 946, 65, 947] rfl (by decide +kernel))
set_option maxRecDepth 100000 in
theorem lkm_X8_208 : GoodIn lw_g (wsV RX8 208 RX1 yX1_tensWithoutLine (Cond.code yX1_tensWithoutLine cX1_tensWithoutLine 3 (some .int) :: lw_g)) := gi_V (lg_ps _ [949, 950, 951, 78, 952] rfl (by decide +kernel))
set_option maxRecDepth 100000 in
theorem lkm_X8_211 : GoodIn lw_g (wsV RX8 211 RX1 yX1_tensMended (Cond.code yX1_tensMended cX1_tensMended 3 (some .int) :: lw_g)) := gi_V (lg_ps _ [953, 954, 955, 78, 956] rfl (by decide +kernel))
set_option maxRecDepth 100000 in
theorem lkm_X8_214 : GoodIn lw_g (wsV RX8 214 RX1 yX1_linesWithoutCode (Cond.code yX1_linesWithoutCode cX1_linesWithoutCode 3 (some .int) :: lw_g)) := gi_V (lg_ps _ [957, 958, 959, 78, 960] rfl (by decide +kernel))
set_option maxRecDepth 100000 in
theorem lkc_X9_23 : Cond.constantLong RX9 23 (172647) ∈ lw_g := lg_1 968 rfl rfl
set_option maxRecDepth 100000 in
theorem lkc_X9_25 : Cond.constantLong RX9 25 (665856) ∈ lw_g := lg_1 969 rfl rfl
set_option maxRecDepth 100000 in
theorem lkc_X9_27 : Cond.constantLong RX9 27 (1176170) ∈ lw_g := lg_1 970 rfl rfl
set_option maxRecDepth 100000 in
theorem lkc_X9_29 : Cond.constantLong RX9 29 (1891) ∈ lw_g := lg_1 971 rfl rfl
set_option maxRecDepth 100000 in
theorem lkc_X9_31 : Cond.constantLong RX9 31 (1186224) ∈ lw_g := lg_1 972 rfl rfl
set_option maxRecDepth 100000 in
theorem lkc_X9_33 : Cond.constantLong RX9 33 (1327079004) ∈ lw_g := lg_1 973 rfl rfl
set_option maxRecDepth 100000 in
theorem lkc_X9_35 : Cond.constantLong RX9 35 (716895) ∈ lw_g := lg_1 974 rfl rfl
set_option maxRecDepth 100000 in
theorem lkc_X9_37 : Cond.constantLong RX9 37 (30595897) ∈ lw_g := lg_1 975 rfl rfl
set_option maxRecDepth 100000 in
theorem lkc_X9_39 : Cond.constantLong RX9 39 (1178088) ∈ lw_g := lg_1 976 rfl rfl
set_option maxRecDepth 100000 in
theorem lkc_X9_41 : Cond.constantLong RX9 41 (329128) ∈ lw_g := lg_1 977 rfl rfl
set_option maxRecDepth 100000 in
theorem lkc_X9_43 : Cond.constantLong RX9 43 (628896) ∈ lw_g := lg_1 978 rfl rfl
set_option maxRecDepth 100000 in
theorem lkc_X9_45 : Cond.constantLong RX9 45 (2286271) ∈ lw_g := lg_1 979 rfl rfl
set_option maxRecDepth 100000 in
theorem lkc_X9_47 : Cond.constantLong RX9 47 (1633) ∈ lw_g := lg_1 980 rfl rfl
set_option maxRecDepth 100000 in
theorem lkc_X9_49 : Cond.constantLong RX9 49 (5538) ∈ lw_g := lg_1 981 rfl rfl
set_option maxRecDepth 100000 in
theorem lkf_X9_131 : Cond.fieldLink RX9 131 "DayDiaryModel" "thrown" "I" ∈ lw_g := lg_1 982 rfl rfl
set_option maxRecDepth 100000 in
theorem lkf_X9_7 : Cond.fieldLink RX9 7 "DayDiaryModel" "tape" "[I" ∈ lw_g := lg_1 983 rfl rfl
set_option maxRecDepth 100000 in
theorem lkf_X9_138 : Cond.fieldLink RX9 138 "DayDiaryModel" "taped" "I" ∈ lw_g := lg_1 984 rfl rfl
set_option maxRecDepth 100000 in
theorem lkf_X9_145 : Cond.fieldLink RX9 145 "DayDiaryModel" "size" "I" ∈ lw_g := lg_1 985 rfl rfl
set_option maxRecDepth 100000 in
theorem lkf_X9_13 : Cond.fieldLink RX9 13 "DayDiaryModel" "sort" "[I" ∈ lw_g := lg_1 986 rfl rfl
set_option maxRecDepth 100000 in
theorem lkf_X9_16 : Cond.fieldLink RX9 16 "DayDiaryModel" "place" "[I" ∈ lw_g := lg_1 987 rfl rfl
set_option maxRecDepth 100000 in
theorem lkf_X9_19 : Cond.fieldLink RX9 19 "DayDiaryModel" "value" "[J" ∈ lw_g := lg_1 988 rfl rfl
set_option maxRecDepth 100000 in
theorem lkf_X9_164 : Cond.fieldLink RX9 164 "DayDiaryModel" "at" "I" ∈ lw_g := lg_1 989 rfl rfl
set_option maxRecDepth 100000 in
theorem lkf_X9_167 : Cond.fieldLink RX9 167 "DayDiaryModel" "fault" "I" ∈ lw_g := lg_1 990 rfl rfl
set_option maxRecDepth 100000 in
theorem lkf_X9_51 : Cond.fieldLink RX9 51 "DayDiaryModel" "words" "[J" ∈ lw_g := lg_1 991 rfl rfl
set_option maxRecDepth 100000 in
theorem lkf_X9_186 : Cond.fieldLink RX9 186 "DayDiaryModel" "texts" "I" ∈ lw_g := lg_1 992 rfl rfl
set_option maxRecDepth 100000 in
theorem lkf_X9_54 : Cond.fieldLink RX9 54 "DayDiaryModel" "holds" "I" ∈ lw_g := lg_1 993 rfl rfl
set_option maxRecDepth 100000 in
theorem lkf_X9_58 : Cond.fieldLink RX9 58 "DayDiaryModel" "rules" "[I" ∈ lw_g := lg_1 994 rfl rfl
set_option maxRecDepth 100000 in
theorem lkf_X9_61 : Cond.fieldLink RX9 61 "DayDiaryModel" "mends" "[I" ∈ lw_g := lg_1 995 rfl rfl
set_option maxRecDepth 100000 in
theorem lkf_X9_64 : Cond.fieldLink RX9 64 "DayDiaryModel" "ruleCode" "[I" ∈ lw_g := lg_1 996 rfl rfl
set_option maxRecDepth 100000 in
theorem lkf_X9_67 : Cond.fieldLink RX9 67 "DayDiaryModel" "ruleAt" "[I" ∈ lw_g := lg_1 997 rfl rfl
set_option maxRecDepth 100000 in
theorem lkf_X9_70 : Cond.fieldLink RX9 70 "DayDiaryModel" "op" "[I" ∈ lw_g := lg_1 998 rfl rfl
set_option maxRecDepth 100000 in
theorem lkf_X9_73 : Cond.fieldLink RX9 73 "DayDiaryModel" "one" "[I" ∈ lw_g := lg_1 999 rfl rfl
set_option maxRecDepth 100000 in
theorem lkf_X9_183 : Cond.fieldLink RX9 183 "DayDiaryModel" "codes" "I" ∈ lw_g := lg_1 1000 rfl rfl
set_option maxRecDepth 100000 in
theorem lkf_X9_208 : Cond.fieldLink RX9 208 "DayDiaryModel" "deep" "I" ∈ lw_g := lg_1 1001 rfl rfl
set_option maxRecDepth 100000 in
theorem lkf_X9_76 : Cond.fieldLink RX9 76 "DayDiaryModel" "sumWaits" "[I" ∈ lw_g := lg_1 1002 rfl rfl
set_option maxRecDepth 100000 in
theorem lkf_X9_79 : Cond.fieldLink RX9 79 "DayDiaryModel" "signWaits" "[I" ∈ lw_g := lg_1 1003 rfl rfl
set_option maxRecDepth 100000 in
theorem lkf_X9_82 : Cond.fieldLink RX9 82 "DayDiaryModel" "andWaits" "[I" ∈ lw_g := lg_1 1004 rfl rfl
set_option maxRecDepth 100000 in
theorem lkf_X9_85 : Cond.fieldLink RX9 85 "DayDiaryModel" "known" "[I" ∈ lw_g := lg_1 1005 rfl rfl
set_option maxRecDepth 100000 in
theorem lkf_X9_88 : Cond.fieldLink RX9 88 "DayDiaryModel" "deed" "[I" ∈ lw_g := lg_1 1006 rfl rfl
set_option maxRecDepth 100000 in
theorem lkf_X9_91 : Cond.fieldLink RX9 91 "DayDiaryModel" "pile" "[I" ∈ lw_g := lg_1 1007 rfl rfl
set_option maxRecDepth 100000 in
theorem lkf_X9_94 : Cond.fieldLink RX9 94 "DayDiaryModel" "isBelow" "[I" ∈ lw_g := lg_1 1008 rfl rfl
set_option maxRecDepth 100000 in
theorem lkf_X9_236 : Cond.fieldLink RX9 236 "DayDiaryModel" "diaries" "I" ∈ lw_g := lg_1 1009 rfl rfl
set_option maxRecDepth 100000 in
theorem lkf_X9_97 : Cond.fieldLink RX9 97 "DayDiaryModel" "house" "[I" ∈ lw_g := lg_1 1010 rfl rfl
set_option maxRecDepth 100000 in
theorem lkf_X9_100 : Cond.fieldLink RX9 100 "DayDiaryModel" "person" "[I" ∈ lw_g := lg_1 1011 rfl rfl
set_option maxRecDepth 100000 in
theorem lkf_X9_103 : Cond.fieldLink RX9 103 "DayDiaryModel" "days" "[I" ∈ lw_g := lg_1 1012 rfl rfl
set_option maxRecDepth 100000 in
theorem lkf_X9_106 : Cond.fieldLink RX9 106 "DayDiaryModel" "age" "[I" ∈ lw_g := lg_1 1013 rfl rfl
set_option maxRecDepth 100000 in
theorem lkf_X9_109 : Cond.fieldLink RX9 109 "DayDiaryModel" "weight" "[I" ∈ lw_g := lg_1 1014 rfl rfl
set_option maxRecDepth 100000 in
theorem lkf_X9_112 : Cond.fieldLink RX9 112 "DayDiaryModel" "lines" "[I" ∈ lw_g := lg_1 1015 rfl rfl
set_option maxRecDepth 100000 in
theorem lkf_X9_115 : Cond.fieldLink RX9 115 "DayDiaryModel" "row" "[I" ∈ lw_g := lg_1 1016 rfl rfl
set_option maxRecDepth 100000 in
theorem lkf_X9_118 : Cond.fieldLink RX9 118 "DayDiaryModel" "first" "[I" ∈ lw_g := lg_1 1017 rfl rfl
set_option maxRecDepth 100000 in
theorem lkf_X9_121 : Cond.fieldLink RX9 121 "DayDiaryModel" "also" "[I" ∈ lw_g := lg_1 1018 rfl rfl
set_option maxRecDepth 100000 in
theorem lkf_X9_124 : Cond.fieldLink RX9 124 "DayDiaryModel" "isMended" "[Z" ∈ lw_g := lg_1 1019 rfl rfl
set_option maxRecDepth 100000 in
theorem lkf_X9_128 : Cond.fieldLink RX9 128 "DayDiaryModel" "counts" "[I" ∈ lw_g := lg_1 1020 rfl rfl
set_option maxRecDepth 100000 in
theorem lkm_L_65 : GoodIn lw_g (wsV RL 65 RX9 yX9_thrown (Cond.code yX9_thrown cX9_thrown 1 (some .int) :: lw_g)) := gi_V (lg_ps _ [1102, 1103, 1104, 75, 1105] rfl (by decide +kernel))
set_option maxRecDepth 100000 in
theorem lkm_L_44 : GoodIn lw_g (wsV RL 44 RX9 yX9_feed (Cond.code yX9_feed cX9_feed 7 (some .int) :: lw_g)) := gi_V (lg_ps _ [1106, 1107, 1108, 75, 1109] rfl (by decide +kernel))
set_option maxRecDepth 100000 in
theorem lkm_X9_134 : GoodIn lw_g (wsV RX9 134 RX9 yX9_lay (Cond.code yX9_lay cX9_lay 5 (none) :: lw_g)) := gi_V (lg_ps _ [1110, 1112, 32, 75, 1113] rfl (by decide +kernel))
set_option maxRecDepth 100000 in
theorem lkm_L_49 : GoodIn lw_g (wsV RL 49 RX9 yX9_text (Cond.code yX9_text cX9_text 1 (some .int) :: lw_g)) := gi_V (lg_ps _ [1114, 1115, 1116, 75, 1117] rfl (by decide +kernel))
set_option maxRecDepth 100000 in
theorem lkm_X9_189 : GoodIn lw_g (wsV RX9 189 RX9 yX9_cutAll (Cond.code yX9_cutAll cX9_cutAll 7 (none) :: lw_g)) := gi_V (lg_ps _ [1118, 1120, 33, 75, 1121] rfl (by decide +kernel))
set_option maxRecDepth 100000 in
theorem lkm_X9_141 : GoodIn lw_g (wsS RX9 141 yX9_isLetter (Cond.code yX9_isLetter cX9_isLetter 1 (some .boolean) :: lw_g)) := gi_S (lg_ps _ [1122, 1123, 75, 1124] rfl (by decide +kernel))
set_option maxRecDepth 100000 in
theorem lkc_X9_148 : Cond.constantLong RX9 148 (37) ∈ lw_g := lg_1 1125 rfl rfl
set_option maxRecDepth 100000 in
theorem lkm_X9_150 : GoodIn lw_g (wsS RX9 150 yX9_rank (Cond.code yX9_rank cX9_rank 1 (some .int) :: lw_g)) := gi_S (lg_ps _ [1126, 1127, 75, 1128] rfl (by decide +kernel))
set_option maxRecDepth 100000 in
theorem lkm_X9_154 : GoodIn lw_g (wsS RX9 154 yX9_isDigit (Cond.code yX9_isDigit cX9_isDigit 1 (some .boolean) :: lw_g)) := gi_S (lg_ps _ [1129, 1130, 75, 1131] rfl (by decide +kernel))
set_option maxRecDepth 100000 in
theorem lkc_X9_157 : Cond.constantLong RX9 157 (10) ∈ lw_g := lg_1 1132 rfl rfl
set_option maxRecDepth 100000 in
theorem lkc_X9_159 : Cond.constantLong RX9 159 (48) ∈ lw_g := lg_1 1133 rfl rfl
set_option maxRecDepth 100000 in
theorem lkm_X9_161 : GoodIn lw_g (wsS RX9 161 yX9_isSignOf (Cond.code yX9_isSignOf cX9_isSignOf 1 (some .boolean) :: lw_g)) := gi_S (lg_ps _ [1134, 1135, 75, 1136] rfl (by decide +kernel))
set_option maxRecDepth 100000 in
theorem lkm_X9_177 : GoodIn lw_g (wsV RX9 177 RX9 yX9_isWord (Cond.code yX9_isWord cX9_isWord 2 (some .boolean) :: lw_g)) := gi_V (lg_ps _ [1137, 1139, 34, 75, 1140] rfl (by decide +kernel))
set_option maxRecDepth 100000 in
theorem lkm_X9_192 : GoodIn lw_g (wsV RX9 192 RX9 yX9_rule (Cond.code yX9_rule cX9_rule 3 (none) :: lw_g)) := gi_V (lg_ps _ [1141, 1143, 35, 75, 1144] rfl (by decide +kernel))
set_option maxRecDepth 100000 in
theorem lkm_X9_173 : GoodIn lw_g (wsV RX9 173 RX9 yX9_wrong (Cond.code yX9_wrong cX9_wrong 2 (none) :: lw_g)) := gi_V (lg_ps _ [1145, 1147, 36, 75, 1148] rfl (by decide +kernel))
set_option maxRecDepth 100000 in
theorem lkm_X9_195 : GoodIn lw_g (wsV RX9 195 RX9 yX9_takeNumber (Cond.code yX9_takeNumber cX9_takeNumber 3 (some .int) :: lw_g)) := gi_V (lg_ps _ [1149, 1151, 37, 75, 1152] rfl (by decide +kernel))
set_option maxRecDepth 100000 in
theorem lkm_X9_205 : GoodIn lw_g (wsV RX9 205 RX9 yX9_takeWord (Cond.code yX9_takeWord cX9_takeWord 2 (none) :: lw_g)) := gi_V (lg_ps _ [1153, 1155, 38, 75, 1156] rfl (by decide +kernel))
set_option maxRecDepth 100000 in
theorem lkm_X9_180 : GoodIn lw_g (wsV RX9 180 RX9 yX9_hasWord (Cond.code yX9_hasWord cX9_hasWord 3 (some .boolean) :: lw_g)) := gi_V (lg_ps _ [1157, 1159, 39, 75, 1160] rfl (by decide +kernel))
set_option maxRecDepth 100000 in
theorem lkm_X9_211 : GoodIn lw_g (wsV RX9 211 RX9 yX9_opens (Cond.code yX9_opens cX9_opens 1 (none) :: lw_g)) := gi_V (lg_ps _ [1161, 1163, 40, 75, 1164] rfl (by decide +kernel))
set_option maxRecDepth 100000 in
theorem lkm_X9_214 : GoodIn lw_g (wsV RX9 214 RX9 yX9_part (Cond.code yX9_part cX9_part 2 (some .boolean) :: lw_g)) := gi_V (lg_ps _ [1165, 1167, 41, 75, 1168] rfl (by decide +kernel))
set_option maxRecDepth 100000 in
theorem lkm_X9_225 : GoodIn lw_g (wsV RX9 225 RX9 yX9_partWord (Cond.code yX9_partWord cX9_partWord 2 (some .int) :: lw_g)) := gi_V (lg_ps _ [1169, 1171, 42, 75, 1172] rfl (by decide +kernel))
set_option maxRecDepth 100000 in
theorem lkm_X9_170 : GoodIn lw_g (wsV RX9 170 RX9 yX9_isSign (Cond.code yX9_isSign cX9_isSign 2 (some .boolean) :: lw_g)) := gi_V (lg_ps _ [1173, 1175, 43, 75, 1176] rfl (by decide +kernel))
set_option maxRecDepth 100000 in
theorem lkm_X9_229 : GoodIn lw_g (wsV RX9 229 RX9 yX9_hasSign (Cond.code yX9_hasSign cX9_hasSign 3 (some .boolean) :: lw_g)) := gi_V (lg_ps _ [1177, 1179, 44, 75, 1180] rfl (by decide +kernel))
set_option maxRecDepth 100000 in
theorem lkm_X9_221 : GoodIn lw_g (wsV RX9 221 RX9 yX9_emit (Cond.code yX9_emit cX9_emit 3 (none) :: lw_g)) := gi_V (lg_ps _ [1181, 1183, 45, 75, 1184] rfl (by decide +kernel))
set_option maxRecDepth 100000 in
theorem lkm_X9_218 : GoodIn lw_g (wsV RX9 218 RX9 yX9_goesOnBehind (Cond.code yX9_goesOnBehind cX9_goesOnBehind 1 (some .boolean) :: lw_g)) := gi_V (lg_ps _ [1185, 1187, 46, 75, 1188] rfl (by decide +kernel))
set_option maxRecDepth 100000 in
theorem lkm_X9_199 : GoodIn lw_g (wsV RX9 199 RX9 yX9_takeSign (Cond.code yX9_takeSign cX9_takeSign 2 (none) :: lw_g)) := gi_V (lg_ps _ [1189, 1191, 47, 75, 1192] rfl (by decide +kernel))
set_option maxRecDepth 100000 in
theorem lkm_X9_202 : GoodIn lw_g (wsV RX9 202 RX9 yX9_keeps (Cond.code yX9_keeps cX9_keeps 2 (none) :: lw_g)) := gi_V (lg_ps _ [1193, 1195, 48, 75, 1196] rfl (by decide +kernel))
set_option maxRecDepth 100000 in
theorem lkm_L_54 : GoodIn lw_g (wsV RL 54 RX9 yX9_choose (Cond.code yX9_choose cX9_choose 2 (some .boolean) :: lw_g)) := gi_V (lg_ps _ [1197, 1198, 1199, 75, 1200] rfl (by decide +kernel))
set_option maxRecDepth 100000 in
theorem lkm_L_27 : GoodIn lw_g (wsV RL 27 RX9 yX9_below (Cond.code yX9_below cX9_below 3 (some .boolean) :: lw_g)) := gi_V (lg_ps _ [1201, 1202, 1203, 75, 1204] rfl (by decide +kernel))
set_option maxRecDepth 100000 in
theorem lkm_L_32 : GoodIn lw_g (wsV RL 32 RX9 yX9_diary (Cond.code yX9_diary cX9_diary 5 (some .int) :: lw_g)) := gi_V (lg_ps _ [1205, 1206, 1207, 75, 1208] rfl (by decide +kernel))
set_option maxRecDepth 100000 in
theorem lkm_X9_239 : GoodIn lw_g (wsV RX9 239 RX9 yX9_diaryOf (Cond.code yX9_diaryOf cX9_diaryOf 6 (some .int) :: lw_g)) := gi_V (lg_ps _ [1209, 1211, 49, 75, 1212] rfl (by decide +kernel))
set_option maxRecDepth 100000 in
theorem lkc_X9_243 : Cond.constant RX9 243 (1000000) ∈ lw_g := lg_1 1213 rfl rfl
set_option maxRecDepth 100000 in
theorem lkm_L_37 : GoodIn lw_g (wsV RL 37 RX9 yX9_line (Cond.code yX9_line cX9_line 10 (some .int) :: lw_g)) := gi_V (lg_ps _ [1214, 1215, 1216, 75, 1217] rfl (by decide +kernel))
set_option maxRecDepth 100000 in
theorem lkm_X9_247 : GoodIn lw_g (wsV RX9 247 RX9 yX9_isDiary (Cond.code yX9_isDiary cX9_isDiary 2 (some .boolean) :: lw_g)) := gi_V (lg_ps _ [1218, 1220, 50, 75, 1221] rfl (by decide +kernel))
set_option maxRecDepth 100000 in
theorem lkm_X9_250 : GoodIn lw_g (wsV RX9 250 RX9 yX9_lineAt (Cond.code yX9_lineAt cX9_lineAt 5 (some .int) :: lw_g)) := gi_V (lg_ps _ [1222, 1224, 51, 75, 1225] rfl (by decide +kernel))
set_option maxRecDepth 100000 in
theorem lkm_X9_244 : GoodIn lw_g (wsV RX9 244 RX9 yX9_of (Cond.code yX9_of cX9_of 4 (some .int) :: lw_g)) := gi_V (lg_ps _ [1226, 1228, 52, 75, 1229] rfl (by decide +kernel))
set_option maxRecDepth 100000 in
theorem lkm_L_58 : GoodIn lw_g (wsV RL 58 RX9 yX9_code (Cond.code yX9_code cX9_code 3 (some .int) :: lw_g)) := gi_V (lg_ps _ [1230, 1231, 1232, 75, 1233] rfl (by decide +kernel))
set_option maxRecDepth 100000 in
theorem lkm_X9_263 : GoodIn lw_g (wsV RX9 263 RX9 yX9_findCodes (Cond.code yX9_findCodes cX9_findCodes 4 (none) :: lw_g)) := gi_V (lg_ps _ [1234, 1236, 53, 75, 1237] rfl (by decide +kernel))
set_option maxRecDepth 100000 in
theorem lkm_X9_256 : GoodIn lw_g (wsV RX9 256 RX9 yX9_codeBy (Cond.code yX9_codeBy cX9_codeBy 7 (some .int) :: lw_g)) := gi_V (lg_ps _ [1238, 1240, 54, 75, 1241] rfl (by decide +kernel))
set_option maxRecDepth 100000 in
theorem lkm_X9_253 : GoodIn lw_g (wsV RX9 253 RX9 yX9_worth (Cond.code yX9_worth cX9_worth 7 (some .int) :: lw_g)) := gi_V (lg_ps _ [1242, 1244, 55, 75, 1245] rfl (by decide +kernel))
set_option maxRecDepth 100000 in
theorem lkm_X9_232 : GoodIn lw_g (wsV RX9 232 RX9 yX9_isUnder (Cond.code yX9_isUnder cX9_isUnder 4 (some .boolean) :: lw_g)) := gi_V (lg_ps _ [1246, 1248, 56, 75, 1249] rfl (by decide +kernel))
set_option maxRecDepth 100000 in
theorem lkm_X9_260 : GoodIn lw_g (wsV RX9 260 RX9 yX9_gapAhead (Cond.code yX9_gapAhead cX9_gapAhead 3 (some .int) :: lw_g)) := gi_V (lg_ps _ [1250, 1252, 57, 75, 1253] rfl (by decide +kernel))
set_option maxRecDepth 100000 in
theorem lkm_L_64 : GoodIn lw_g (wsV RL 64 RX9 yX9_look (Cond.code yX9_look cX9_look 4 (some .int) :: lw_g)) := gi_V (lg_ps _ [1254, 1255, 1256, 75, 1257] rfl (by decide +kernel))
set_option maxRecDepth 100000 in
theorem lkm_L_71 : GoodIn lw_g (wsV RL 71 RX9 yX9_ten (Cond.code yX9_ten cX9_ten 4 (some .int) :: lw_g)) := gi_V (lg_ps _ [1258, 1259, 1260, 75, 1261] rfl (by decide +kernel))
set_option maxRecDepth 100000 in
theorem lkm_L_75 : GoodIn lw_g (wsV RL 75 RX9 yX9_known (Cond.code yX9_known cX9_known 3 (some .boolean) :: lw_g)) := gi_V (lg_ps _ [1262, 1263, 1264, 75, 1265] rfl (by decide +kernel))
set_option maxRecDepth 100000 in
theorem lkm_L_80 : GoodIn lw_g (wsV RL 80 RX9 yX9_rounds (Cond.code yX9_rounds cX9_rounds 6 (some .int) :: lw_g)) := gi_V (lg_ps _ [1266, 1267, 1268, 75, 1269] rfl (by decide +kernel))
set_option maxRecDepth 100000 in
theorem lkm_X9_275 : GoodIn lw_g (wsV RX9 275 RX9 yX9_round (Cond.code yX9_round cX9_round 5 (none) :: lw_g)) := gi_V (lg_ps _ [1270, 1272, 58, 75, 1273] rfl (by decide +kernel))
set_option maxRecDepth 100000 in
theorem lkm_X9_269 : GoodIn lw_g (wsV RX9 269 RX9 yX9_sumOf (Cond.code yX9_sumOf cX9_sumOf 5 (some .long) :: lw_g)) := gi_V (lg_ps _ [1274, 1276, 59, 75, 1277] rfl (by decide +kernel))
set_option maxRecDepth 100000 in
theorem lkm_X9_266 : GoodIn lw_g (wsV RX9 266 RX9 yX9_isOf (Cond.code yX9_isOf cX9_isOf 3 (some .boolean) :: lw_g)) := gi_V (lg_ps _ [1278, 1280, 60, 75, 1281] rfl (by decide +kernel))
set_option maxRecDepth 100000 in
theorem lkc_X9_273 : Cond.constantLong RX9 273 (1000) ∈ lw_g := lg_1 1282 rfl rfl
set_option maxRecDepth 100000 in
theorem lkm_L_84 : GoodIn lw_g (wsV RL 84 RX9 yX9_weight (Cond.code yX9_weight cX9_weight 2 (some .int) :: lw_g)) := gi_V (lg_ps _ [1283, 1284, 1285, 75, 1286] rfl (by decide +kernel))
set_option maxRecDepth 100000 in
theorem lkm_L_89 : GoodIn lw_g (wsV RL 89 RX9 yX9_cell (Cond.code yX9_cell cX9_cell 9 (some .int) :: lw_g)) := gi_V (lg_ps _ [1287, 1288, 1289, 75, 1290] rfl (by decide +kernel))
set_option maxRecDepth 100000 in
theorem lkm_X9_278 : GoodIn lw_g (wsV RX9 278 RX9 yX9_isIn (Cond.code yX9_isIn cX9_isIn 4 (some .boolean) :: lw_g)) := gi_V (lg_ps _ [1291, 1293, 61, 75, 1294] rfl (by decide +kernel))
set_option maxRecDepth 100000 in
theorem lkm_L_93 : GoodIn lw_g (wsV RL 93 RX9 yX9_lead (Cond.code yX9_lead cX9_lead 7 (some .int) :: lw_g)) := gi_V (lg_ps _ [1295, 1296, 1297, 75, 1298] rfl (by decide +kernel))
set_option maxRecDepth 100000 in
theorem lkm_L_97 : GoodIn lw_g (wsV RL 97 RX9 yX9_next (Cond.code yX9_next cX9_next 6 (some .int) :: lw_g)) := gi_V (lg_ps _ [1299, 1300, 1301, 75, 1302] rfl (by decide +kernel))
set_option maxRecDepth 100000 in
theorem lkm_L_101 : GoodIn lw_g (wsV RL 101 RX9 yX9_quarrels (Cond.code yX9_quarrels cX9_quarrels 6 (some .int) :: lw_g)) := gi_V (lg_ps _ [1303, 1304, 1305, 75, 1306] rfl (by decide +kernel))
set_option maxRecDepth 100000 in
theorem lkm_X9_285 : GoodIn lw_g (wsV RX9 285 RX9 yX9_quarrel (Cond.code yX9_quarrel cX9_quarrel 7 (some .int) :: lw_g)) := gi_V (lg_ps _ [1307, 1309, 62, 75, 1310] rfl (by decide +kernel))
set_option maxRecDepth 100000 in
theorem lkm_X9_282 : GoodIn lw_g (wsV RX9 282 RX9 yX9_says (Cond.code yX9_says cX9_says 4 (some .boolean) :: lw_g)) := gi_V (lg_ps _ [1311, 1313, 63, 75, 1314] rfl (by decide +kernel))
set_option maxRecDepth 100000 in
theorem lkm_L_105 : GoodIn lw_g (wsV RL 105 RX9 yX9_day (Cond.code yX9_day cX9_day 7 (some .int) :: lw_g)) := gi_V (lg_ps _ [1315, 1316, 1317, 75, 1318] rfl (by decide +kernel))
set_option maxRecDepth 100000 in
theorem lkm_L_109 : GoodIn lw_g (wsV RL 109 RX9 yX9_count (Cond.code yX9_count cX9_count 4 (some .int) :: lw_g)) := gi_V (lg_ps _ [1319, 1320, 1321, 75, 1322] rfl (by decide +kernel))
set_option maxRecDepth 100000 in
theorem lkc_L_38 : Cond.constantLong RL 38 (4294967295) ∈ lw_g := lg_1 1323 rfl rfl
set_option maxRecDepth 100000 in
theorem lkf_J0_9 : Cond.fieldLink RJ0 9 "java/lang/String" "value" "[B" ∈ lw_g := lg_1 1348 rfl rfl
set_option maxRecDepth 100000 in
theorem lkf_J0_15 : Cond.fieldLink RJ0 15 "java/lang/String" "coder" "B" ∈ lw_g := lg_1 1349 rfl rfl
