set_option maxRecDepth 100000 in
theorem lkm_Jx4a65c_118 : GoodIn lw_g (va_wsS RJx4a65c 118 yJ15_checkIndex_7cf53 (Cond.code yJ15_checkIndex_7cf53 cJ15_checkIndex_7cf53 2 (some .int) :: lw_g)) := gi_X (lg_ps _ [331, 332, 76, 333] rfl (by decide +kernel))
set_option maxRecDepth 100000 in
theorem lkm_J15_105 : GoodIn lw_g (va_wsS RJ15 105 yJ3_checkIndex_8e157 (Cond.code yJ3_checkIndex_8e157 cJ3_checkIndex_8e157 3 (some .int) :: lw_g)) := gi_X (lg_ps _ [334, 335, 77, 336] rfl (by decide +kernel))
set_option maxRecDepth 100000 in
theorem lkm_Jx4a65c_73 : GoodIn lw_g (va_wsS RJx4a65c 73 yJ8_newLength_cabcc (Cond.code yJ8_newLength_cabcc cJ8_newLength_cabcc 4 (some .int) :: lw_g)) := gi_X (lg_ps _ [402, 403, 79, 404] rfl (by decide +kernel))
set_option maxRecDepth 100000 in
theorem lkm_J8_194 : GoodIn lw_g (va_wsS RJ8 194 yJ9_max_7cf53 (Cond.code yJ9_max_7cf53 cJ9_max_7cf53 2 (some .int) :: lw_g)) := gi_X (lg_ps _ [405, 406, 80, 407] rfl (by decide +kernel))
set_option maxRecDepth 100000 in
theorem lkm_Jx4a65c_66 : GoodIn lw_g (va_wsS RJx4a65c 66 yJ7_copyOf_1904c (Cond.code yJ7_copyOf_1904c cJ7_copyOf_1904c 2 (some (.array (.object "java/lang/Object"))) :: lw_g)) := gi_X (lg_ps _ [412, 413, 81, 414] rfl (by decide +kernel))
set_option maxRecDepth 100000 in
theorem lkm_J7_304 : GoodIn lw_g (va_wsS RJ7 304 yJ9_min_7cf53 (Cond.code yJ9_min_7cf53 cJ9_min_7cf53 2 (some .int) :: lw_g)) := gi_X (lg_ps _ [437, 438, 80, 439] rfl (by decide +kernel))
set_option maxRecDepth 100000 in
theorem lkm_Jx4a65c_79 : GoodIn lw_g (va_wsS RJx4a65c 79 yJ9_max_7cf53 (Cond.code yJ9_max_7cf53 cJ9_max_7cf53 2 (some .int) :: lw_g)) := gi_X (lg_ps _ [443, 406, 80, 407] rfl (by decide +kernel))
set_option maxRecDepth 100000 in
theorem lkm_X2_39 : GoodIn lw_g (va_wsS RX2 39 yJ9_min_7cf53 (Cond.code yJ9_min_7cf53 cJ9_min_7cf53 2 (some .int) :: lw_g)) := gi_X (lg_ps _ [523, 438, 80, 439] rfl (by decide +kernel))
set_option maxRecDepth 100000 in
theorem lkm_X2_45 : GoodIn lw_g (va_wsS RX2 45 yJ9_max_7cf53 (Cond.code yJ9_max_7cf53 cJ9_max_7cf53 2 (some .int) :: lw_g)) := gi_X (lg_ps _ [524, 406, 80, 407] rfl (by decide +kernel))
set_option maxRecDepth 100000 in
theorem lkm_J0_495 : GoodIn lw_g (va_wsS RJ0 495 yJ1_charAt_3b067 (Cond.code yJ1_charAt_3b067 cJ1_charAt_3b067 2 (some .char) :: lw_g)) := gi_X (lg_ps _ [604, 605, 85, 606] rfl (by decide +kernel))
set_option maxRecDepth 100000 in
theorem lkm_J1_9 : GoodIn lw_g (va_wsS RJ1 9 yJ0_checkIndex_df160 (Cond.code yJ0_checkIndex_df160 cJ0_checkIndex_df160 2 (none) :: lw_g)) := gi_X (lg_ps _ [607, 608, 84, 609] rfl (by decide +kernel))
set_option maxRecDepth 100000 in
theorem lkm_J0_1059 : GoodIn lw_g (va_wsS RJ0 1059 yJ3_checkIndex_8e157 (Cond.code yJ3_checkIndex_8e157 cJ3_checkIndex_8e157 3 (some .int) :: lw_g)) := gi_X (lg_ps _ [612, 335, 77, 336] rfl (by decide +kernel))
set_option maxRecDepth 100000 in
theorem lkm_J0_498 : GoodIn lw_g (va_wsS RJ0 498 yJ2_charAt_3b067 (Cond.code yJ2_charAt_3b067 cJ2_charAt_3b067 2 (some .char) :: lw_g)) := gi_X (lg_ps _ [613, 614, 86, 615] rfl (by decide +kernel))
set_option maxRecDepth 100000 in
theorem lkm_J2_414 : GoodIn lw_g (va_wsS RJ2 414 yJ0_checkIndex_df160 (Cond.code yJ0_checkIndex_df160 cJ0_checkIndex_df160 2 (none) :: lw_g)) := gi_X (lg_ps _ [622, 608, 84, 609] rfl (by decide +kernel))
set_option maxRecDepth 100000 in
theorem lkm_X3_76 : GoodIn lw_g (va_wsS RX3 76 yJ7_copyOf_59c91 (Cond.code yJ7_copyOf_59c91 cJ7_copyOf_59c91 3 (some (.array .int)) :: lw_g)) := gi_X (lg_ps _ [690, 691, 81, 692] rfl (by decide +kernel))
set_option maxRecDepth 100000 in
theorem lkm_X0_98 : GoodIn lw_g (va_wsS RX0 98 yJ9_min_7cf53 (Cond.code yJ9_min_7cf53 cJ9_min_7cf53 2 (some .int) :: lw_g)) := gi_X (lg_ps _ [737, 438, 80, 439] rfl (by decide +kernel))
set_option maxRecDepth 100000 in
theorem lkm_X0_104 : GoodIn lw_g (va_wsS RX0 104 yJ9_max_7cf53 (Cond.code yJ9_max_7cf53 cJ9_max_7cf53 2 (some .int) :: lw_g)) := gi_X (lg_ps _ [738, 406, 80, 407] rfl (by decide +kernel))
set_option maxRecDepth 100000 in
theorem lkm_X0_142 : GoodIn lw_g (va_wsS RX0 142 yJ6_bitCount_0f7a4 (Cond.code yJ6_bitCount_0f7a4 cJ6_bitCount_0f7a4 1 (some .int) :: lw_g)) := gi_X (lg_ps _ [758, 759, 87, 760] rfl (by decide +kernel))
set_option maxRecDepth 100000 in
theorem lkm_X8_252 : GoodIn lw_g (va_wsS RX8 252 yJ9_abs_067f4 (Cond.code yJ9_abs_067f4 cJ9_abs_067f4 2 (some .long) :: lw_g)) := gi_X (lg_ps _ [806, 807, 80, 808] rfl (by decide +kernel))
set_option maxRecDepth 100000 in
theorem lkm_X8_258 : GoodIn lw_g (va_wsS RX8 258 yJ9_max_f86c9 (Cond.code yJ9_max_f86c9 cJ9_max_f86c9 4 (some .long) :: lw_g)) := gi_X (lg_ps _ [809, 810, 80, 811] rfl (by decide +kernel))
