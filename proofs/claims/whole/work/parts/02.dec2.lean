theorem dX3_take_9 : decode cX3_take 9 = .ok (.aload_n 0, 1) := by decide +kernel
theorem dX3_take_10 : decode cX3_take 10 = .ok (.getfield 44, 3) := by decide +kernel
theorem dX3_take_13 : decode cX3_take 13 = .ok (.iconst 1, 1) := by decide +kernel
theorem dX3_take_14 : decode cX3_take 14 = .ok (.iadd, 1) := by decide +kernel
theorem dX3_take_15 : decode cX3_take 15 = .ok (.invokevirtual 54, 3) := by decide +kernel
theorem dX3_take_18 : decode cX3_take 18 = .ok (.goto 8, 3) := by decide +kernel
theorem dX3_take_21 : decode cX3_take 21 = .ok (.aload_n 0, 1) := by decide +kernel
theorem dX3_take_22 : decode cX3_take 22 = .ok (.iconst 1, 1) := by decide +kernel
theorem dX3_take_23 : decode cX3_take 23 = .ok (.invokevirtual 58, 3) := by decide +kernel
theorem dX3_take_26 : decode cX3_take 26 = .ok (.return_, 1) := by decide +kernel
theorem dX3_takeNumber_0 : decode cX3_takeNumber 0 = .ok (.aload_n 0, 1) := by decide +kernel
theorem dX3_takeNumber_1 : decode cX3_takeNumber 1 = .ok (.getfield 47, 3) := by decide +kernel
theorem dX3_takeNumber_4 : decode cX3_takeNumber 4 = .ok (.iconst 2, 1) := by decide +kernel
theorem dX3_takeNumber_5 : decode cX3_takeNumber 5 = .ok (.if_icmp .ne 17, 3) := by decide +kernel
theorem dX3_takeNumber_8 : decode cX3_takeNumber 8 = .ok (.aload_n 0, 1) := by decide +kernel
theorem dX3_takeNumber_9 : decode cX3_takeNumber 9 = .ok (.getfield 44, 3) := by decide +kernel
theorem dX3_takeNumber_12 : decode cX3_takeNumber 12 = .ok (.aload_n 0, 1) := by decide +kernel
theorem dX3_takeNumber_13 : decode cX3_takeNumber 13 = .ok (.getfield 12, 3) := by decide +kernel
theorem dX3_takeNumber_16 : decode cX3_takeNumber 16 = .ok (.getfield 105, 3) := by decide +kernel
theorem dX3_takeNumber_19 : decode cX3_takeNumber 19 = .ok (.if_icmp .lt 10, 3) := by decide +kernel
theorem dX3_takeNumber_22 : decode cX3_takeNumber 22 = .ok (.aload_n 0, 1) := by decide +kernel
theorem dX3_takeNumber_23 : decode cX3_takeNumber 23 = .ok (.iconst 1, 1) := by decide +kernel
theorem dX3_takeNumber_24 : decode cX3_takeNumber 24 = .ok (.invokevirtual 58, 3) := by decide +kernel
theorem dX3_takeNumber_27 : decode cX3_takeNumber 27 = .ok (.iload_n 1, 1) := by decide +kernel
theorem dX3_takeNumber_28 : decode cX3_takeNumber 28 = .ok (.ireturn, 1) := by decide +kernel
theorem dX3_takeNumber_29 : decode cX3_takeNumber 29 = .ok (.aload_n 0, 1) := by decide +kernel
theorem dX3_takeNumber_30 : decode cX3_takeNumber 30 = .ok (.getfield 12, 3) := by decide +kernel
theorem dX3_takeNumber_33 : decode cX3_takeNumber 33 = .ok (.getfield 108, 3) := by decide +kernel
theorem dX3_takeNumber_36 : decode cX3_takeNumber 36 = .ok (.aload_n 0, 1) := by decide +kernel
theorem dX3_takeNumber_37 : decode cX3_takeNumber 37 = .ok (.getfield 44, 3) := by decide +kernel
theorem dX3_takeNumber_40 : decode cX3_takeNumber 40 = .ok (.iaload, 1) := by decide +kernel
theorem dX3_takeNumber_41 : decode cX3_takeNumber 41 = .ok (.istore_n 3, 1) := by decide +kernel
theorem dX3_takeNumber_42 : decode cX3_takeNumber 42 = .ok (.iload_n 3, 1) := by decide +kernel
theorem dX3_takeNumber_43 : decode cX3_takeNumber 43 = .ok (.iload_n 1, 1) := by decide +kernel
theorem dX3_takeNumber_44 : decode cX3_takeNumber 44 = .ok (.iload_n 2, 1) := by decide +kernel
theorem dX3_takeNumber_45 : decode cX3_takeNumber 45 = .ok (.invokestatic 98, 3) := by decide +kernel
theorem dX3_takeNumber_48 : decode cX3_takeNumber 48 = .ok (.ifCond .eq 16, 3) := by decide +kernel
theorem dX3_takeNumber_51 : decode cX3_takeNumber 51 = .ok (.aload_n 0, 1) := by decide +kernel
theorem dX3_takeNumber_52 : decode cX3_takeNumber 52 = .ok (.aload_n 0, 1) := by decide +kernel
theorem dX3_takeNumber_53 : decode cX3_takeNumber 53 = .ok (.getfield 44, 3) := by decide +kernel
theorem dX3_takeNumber_56 : decode cX3_takeNumber 56 = .ok (.iconst 1, 1) := by decide +kernel
theorem dX3_takeNumber_57 : decode cX3_takeNumber 57 = .ok (.iadd, 1) := by decide +kernel
theorem dX3_takeNumber_58 : decode cX3_takeNumber 58 = .ok (.invokevirtual 54, 3) := by decide +kernel
theorem dX3_takeNumber_61 : decode cX3_takeNumber 61 = .ok (.goto 8, 3) := by decide +kernel
theorem dX3_takeNumber_64 : decode cX3_takeNumber 64 = .ok (.aload_n 0, 1) := by decide +kernel
theorem dX3_takeNumber_65 : decode cX3_takeNumber 65 = .ok (.iconst 4, 1) := by decide +kernel
theorem dX3_takeNumber_66 : decode cX3_takeNumber 66 = .ok (.invokevirtual 58, 3) := by decide +kernel
theorem dX3_takeNumber_69 : decode cX3_takeNumber 69 = .ok (.iload_n 3, 1) := by decide +kernel
theorem dX3_takeNumber_70 : decode cX3_takeNumber 70 = .ok (.ireturn, 1) := by decide +kernel
theorem dX3_moveTo_0 : decode cX3_moveTo 0 = .ok (.iload_n 1, 1) := by decide +kernel
theorem dX3_moveTo_1 : decode cX3_moveTo 1 = .ok (.ifCond .lt 32, 3) := by decide +kernel
theorem dX3_moveTo_4 : decode cX3_moveTo 4 = .ok (.iload_n 1, 1) := by decide +kernel
theorem dX3_moveTo_5 : decode cX3_moveTo 5 = .ok (.aload_n 0, 1) := by decide +kernel
theorem dX3_moveTo_6 : decode cX3_moveTo 6 = .ok (.getfield 12, 3) := by decide +kernel
theorem dX3_moveTo_9 : decode cX3_moveTo 9 = .ok (.getfield 105, 3) := by decide +kernel
theorem dX3_moveTo_12 : decode cX3_moveTo 12 = .ok (.if_icmp .ge 21, 3) := by decide +kernel
theorem dX3_moveTo_15 : decode cX3_moveTo 15 = .ok (.aload_n 0, 1) := by decide +kernel
theorem dX3_moveTo_16 : decode cX3_moveTo 16 = .ok (.iload_n 1, 1) := by decide +kernel
theorem dX3_moveTo_17 : decode cX3_moveTo 17 = .ok (.putfield 44, 3) := by decide +kernel
theorem dX3_moveTo_20 : decode cX3_moveTo 20 = .ok (.aload_n 0, 1) := by decide +kernel
theorem dX3_moveTo_21 : decode cX3_moveTo 21 = .ok (.aload_n 0, 1) := by decide +kernel
theorem dX3_moveTo_22 : decode cX3_moveTo 22 = .ok (.getfield 12, 3) := by decide +kernel
theorem dX3_moveTo_25 : decode cX3_moveTo 25 = .ok (.getfield 109, 3) := by decide +kernel
theorem dX3_moveTo_28 : decode cX3_moveTo 28 = .ok (.iload_n 1, 1) := by decide +kernel
theorem dX3_moveTo_29 : decode cX3_moveTo 29 = .ok (.iaload, 1) := by decide +kernel
theorem dX3_moveTo_30 : decode cX3_moveTo 30 = .ok (.putfield 47, 3) := by decide +kernel
theorem dX3_moveTo_33 : decode cX3_moveTo 33 = .ok (.return_, 1) := by decide +kernel
theorem dX3_fail_0 : decode cX3_fail 0 = .ok (.aload_n 0, 1) := by decide +kernel
theorem dX3_fail_1 : decode cX3_fail 1 = .ok (.getfield 41, 3) := by decide +kernel
theorem dX3_fail_4 : decode cX3_fail 4 = .ok (.ifCond .ne 38, 3) := by decide +kernel
theorem dX3_fail_7 : decode cX3_fail 7 = .ok (.aload_n 0, 1) := by decide +kernel
theorem dX3_fail_8 : decode cX3_fail 8 = .ok (.getfield 44, 3) := by decide +kernel
theorem dX3_fail_11 : decode cX3_fail 11 = .ok (.aload_n 0, 1) := by decide +kernel
theorem dX3_fail_12 : decode cX3_fail 12 = .ok (.getfield 12, 3) := by decide +kernel
theorem dX3_fail_15 : decode cX3_fail 15 = .ok (.getfield 105, 3) := by decide +kernel
theorem dX3_fail_18 : decode cX3_fail 18 = .ok (.if_icmp .ge 24, 3) := by decide +kernel
theorem dX3_fail_21 : decode cX3_fail 21 = .ok (.aload_n 0, 1) := by decide +kernel
theorem dX3_fail_22 : decode cX3_fail 22 = .ok (.iload_n 1, 1) := by decide +kernel
theorem dX3_fail_23 : decode cX3_fail 23 = .ok (.bipush 16, 2) := by decide +kernel
theorem dX3_fail_25 : decode cX3_fail 25 = .ok (.aload_n 0, 1) := by decide +kernel
theorem dX3_fail_26 : decode cX3_fail 26 = .ok (.getfield 12, 3) := by decide +kernel
theorem dX3_fail_29 : decode cX3_fail 29 = .ok (.getfield 112, 3) := by decide +kernel
theorem dX3_fail_32 : decode cX3_fail 32 = .ok (.aload_n 0, 1) := by decide +kernel
theorem dX3_fail_33 : decode cX3_fail 33 = .ok (.getfield 44, 3) := by decide +kernel
theorem dX3_fail_36 : decode cX3_fail 36 = .ok (.iaload, 1) := by decide +kernel
theorem dX3_fail_37 : decode cX3_fail 37 = .ok (.imul, 1) := by decide +kernel
theorem dX3_fail_38 : decode cX3_fail 38 = .ok (.iadd, 1) := by decide +kernel
theorem dX3_fail_39 : decode cX3_fail 39 = .ok (.putfield 41, 3) := by decide +kernel
theorem dX3_fail_42 : decode cX3_fail 42 = .ok (.aload_n 0, 1) := by decide +kernel
theorem dX3_fail_43 : decode cX3_fail 43 = .ok (.iconst 0, 1) := by decide +kernel
theorem dX3_fail_44 : decode cX3_fail 44 = .ok (.putfield 47, 3) := by decide +kernel
theorem dX3_fail_47 : decode cX3_fail 47 = .ok (.return_, 1) := by decide +kernel
theorem dX3_emit_0 : decode cX3_emit 0 = .ok (.aload_n 0, 1) := by decide +kernel
theorem dX3_emit_1 : decode cX3_emit 1 = .ok (.getfield 35, 3) := by decide +kernel
theorem dX3_emit_4 : decode cX3_emit 4 = .ok (.sipush 800, 3) := by decide +kernel
theorem dX3_emit_7 : decode cX3_emit 7 = .ok (.if_icmp .ge 33, 3) := by decide +kernel
theorem dX3_emit_10 : decode cX3_emit 10 = .ok (.aload_n 0, 1) := by decide +kernel
theorem dX3_emit_11 : decode cX3_emit 11 = .ok (.getfield 25, 3) := by decide +kernel
theorem dX3_emit_14 : decode cX3_emit 14 = .ok (.aload_n 0, 1) := by decide +kernel
theorem dX3_emit_15 : decode cX3_emit 15 = .ok (.getfield 35, 3) := by decide +kernel
theorem dX3_emit_18 : decode cX3_emit 18 = .ok (.iload_n 1, 1) := by decide +kernel
theorem dX3_emit_19 : decode cX3_emit 19 = .ok (.iastore, 1) := by decide +kernel
theorem dX3_emit_20 : decode cX3_emit 20 = .ok (.aload_n 0, 1) := by decide +kernel
theorem dX3_emit_21 : decode cX3_emit 21 = .ok (.getfield 28, 3) := by decide +kernel
theorem dX3_emit_24 : decode cX3_emit 24 = .ok (.aload_n 0, 1) := by decide +kernel
theorem dX3_emit_25 : decode cX3_emit 25 = .ok (.getfield 35, 3) := by decide +kernel
theorem dX3_emit_28 : decode cX3_emit 28 = .ok (.iload_n 2, 1) := by decide +kernel
theorem dX3_emit_29 : decode cX3_emit 29 = .ok (.iastore, 1) := by decide +kernel
theorem dX3_emit_30 : decode cX3_emit 30 = .ok (.aload_n 0, 1) := by decide +kernel
theorem dX3_emit_31 : decode cX3_emit 31 = .ok (.dup, 1) := by decide +kernel
theorem dX3_emit_32 : decode cX3_emit 32 = .ok (.getfield 35, 3) := by decide +kernel
theorem dX3_emit_35 : decode cX3_emit 35 = .ok (.iconst 1, 1) := by decide +kernel
theorem dX3_emit_36 : decode cX3_emit 36 = .ok (.iadd, 1) := by decide +kernel
theorem dX3_emit_37 : decode cX3_emit 37 = .ok (.putfield 35, 3) := by decide +kernel
theorem dX3_emit_40 : decode cX3_emit 40 = .ok (.return_, 1) := by decide +kernel
theorem dX4_init_0 : decode cX4_init 0 = .ok (.aload_n 0, 1) := by decide +kernel
theorem dX4_init_1 : decode cX4_init 1 = .ok (.invokespecial 3, 3) := by decide +kernel
theorem dX4_init_4 : decode cX4_init 4 = .ok (.aload_n 0, 1) := by decide +kernel
theorem dX4_init_5 : decode cX4_init 5 = .ok (.sipush 800, 3) := by decide +kernel
theorem dX4_init_8 : decode cX4_init 8 = .ok (.newarray .char, 2) := by decide +kernel
theorem dX4_init_10 : decode cX4_init 10 = .ok (.putfield 9, 3) := by decide +kernel
theorem dX4_init_13 : decode cX4_init 13 = .ok (.aload_n 0, 1) := by decide +kernel
theorem dX4_init_14 : decode cX4_init 14 = .ok (.iconst 0, 1) := by decide +kernel
theorem dX4_init_15 : decode cX4_init 15 = .ok (.putfield 15, 3) := by decide +kernel
theorem dX4_init_18 : decode cX4_init 18 = .ok (.return_, 1) := by decide +kernel
theorem dX4_addBytes_0 : decode cX4_addBytes 0 = .ok (.bipush 56, 2) := by decide +kernel
theorem dX4_addBytes_2 : decode cX4_addBytes 2 = .ok (.istore_n 3, 1) := by decide +kernel
theorem dX4_addBytes_3 : decode cX4_addBytes 3 = .ok (.iload_n 3, 1) := by decide +kernel
theorem dX4_addBytes_4 : decode cX4_addBytes 4 = .ok (.ifCond .lt 70, 3) := by decide +kernel
theorem dX4_addBytes_7 : decode cX4_addBytes 7 = .ok (.lload_n 1, 1) := by decide +kernel
theorem dX4_addBytes_8 : decode cX4_addBytes 8 = .ok (.iload_n 3, 1) := by decide +kernel
theorem dX4_addBytes_9 : decode cX4_addBytes 9 = .ok (.lushr, 1) := by decide +kernel
theorem dX4_addBytes_10 : decode cX4_addBytes 10 = .ok (.ldc2_w 19, 3) := by decide +kernel
theorem dX4_addBytes_13 : decode cX4_addBytes 13 = .ok (.land, 1) := by decide +kernel
theorem dX4_addBytes_14 : decode cX4_addBytes 14 = .ok (.l2i, 1) := by decide +kernel
theorem dX4_addBytes_15 : decode cX4_addBytes 15 = .ok (.istore 4, 2) := by decide +kernel
theorem dX4_addBytes_17 : decode cX4_addBytes 17 = .ok (.iload 4, 2) := by decide +kernel
theorem dX4_addBytes_19 : decode cX4_addBytes 19 = .ok (.bipush 10, 2) := by decide +kernel
theorem dX4_addBytes_21 : decode cX4_addBytes 21 = .ok (.if_icmp .eq 15, 3) := by decide +kernel
theorem dX4_addBytes_24 : decode cX4_addBytes 24 = .ok (.iload 4, 2) := by decide +kernel
theorem dX4_addBytes_26 : decode cX4_addBytes 26 = .ok (.bipush 32, 2) := by decide +kernel
theorem dX4_addBytes_28 : decode cX4_addBytes 28 = .ok (.bipush 126, 2) := by decide +kernel
theorem dX4_addBytes_30 : decode cX4_addBytes 30 = .ok (.invokestatic 21, 3) := by decide +kernel
theorem dX4_addBytes_33 : decode cX4_addBytes 33 = .ok (.ifCond .eq 35, 3) := by decide +kernel
theorem dX4_addBytes_36 : decode cX4_addBytes 36 = .ok (.aload_n 0, 1) := by decide +kernel
theorem dX4_addBytes_37 : decode cX4_addBytes 37 = .ok (.getfield 15, 3) := by decide +kernel
theorem dX4_addBytes_40 : decode cX4_addBytes 40 = .ok (.sipush 800, 3) := by decide +kernel
theorem dX4_addBytes_43 : decode cX4_addBytes 43 = .ok (.if_icmp .ge 25, 3) := by decide +kernel
theorem dX4_addBytes_46 : decode cX4_addBytes 46 = .ok (.aload_n 0, 1) := by decide +kernel
theorem dX4_addBytes_47 : decode cX4_addBytes 47 = .ok (.getfield 9, 3) := by decide +kernel
theorem dX4_addBytes_50 : decode cX4_addBytes 50 = .ok (.aload_n 0, 1) := by decide +kernel
theorem dX4_addBytes_51 : decode cX4_addBytes 51 = .ok (.getfield 15, 3) := by decide +kernel
theorem dX4_addBytes_54 : decode cX4_addBytes 54 = .ok (.iload 4, 2) := by decide +kernel
theorem dX4_addBytes_56 : decode cX4_addBytes 56 = .ok (.i2c, 1) := by decide +kernel
theorem dX4_addBytes_57 : decode cX4_addBytes 57 = .ok (.castore, 1) := by decide +kernel
theorem dX4_addBytes_58 : decode cX4_addBytes 58 = .ok (.aload_n 0, 1) := by decide +kernel
theorem dX4_addBytes_59 : decode cX4_addBytes 59 = .ok (.dup, 1) := by decide +kernel
theorem dX4_addBytes_60 : decode cX4_addBytes 60 = .ok (.getfield 15, 3) := by decide +kernel
theorem dX4_addBytes_63 : decode cX4_addBytes 63 = .ok (.iconst 1, 1) := by decide +kernel
theorem dX4_addBytes_64 : decode cX4_addBytes 64 = .ok (.iadd, 1) := by decide +kernel
theorem dX4_addBytes_65 : decode cX4_addBytes 65 = .ok (.putfield 15, 3) := by decide +kernel
theorem dX4_addBytes_68 : decode cX4_addBytes 68 = .ok (.iinc 3 (-8), 3) := by decide +kernel
theorem dX4_addBytes_71 : decode cX4_addBytes 71 = .ok (.goto (-68), 3) := by decide +kernel
theorem dX4_addBytes_74 : decode cX4_addBytes 74 = .ok (.return_, 1) := by decide +kernel
theorem dX4_endOfRun_0 : decode cX4_endOfRun 0 = .ok (.iload_n 1, 1) := by decide +kernel
theorem dX4_endOfRun_1 : decode cX4_endOfRun 1 = .ok (.istore 4, 2) := by decide +kernel
theorem dX4_endOfRun_3 : decode cX4_endOfRun 3 = .ok (.iload_n 1, 1) := by decide +kernel
theorem dX4_endOfRun_4 : decode cX4_endOfRun 4 = .ok (.istore 5, 2) := by decide +kernel
theorem dX4_endOfRun_6 : decode cX4_endOfRun 6 = .ok (.iload 5, 2) := by decide +kernel
theorem dX4_endOfRun_8 : decode cX4_endOfRun 8 = .ok (.aload_n 0, 1) := by decide +kernel
theorem dX4_endOfRun_9 : decode cX4_endOfRun 9 = .ok (.getfield 15, 3) := by decide +kernel
theorem dX4_endOfRun_12 : decode cX4_endOfRun 12 = .ok (.if_icmp .ge 41, 3) := by decide +kernel
theorem dX4_endOfRun_15 : decode cX4_endOfRun 15 = .ok (.iload 5, 2) := by decide +kernel
theorem dX4_endOfRun_17 : decode cX4_endOfRun 17 = .ok (.sipush 800, 3) := by decide +kernel
theorem dX4_endOfRun_20 : decode cX4_endOfRun 20 = .ok (.if_icmp .ge 33, 3) := by decide +kernel
theorem dX4_endOfRun_23 : decode cX4_endOfRun 23 = .ok (.aload_n 0, 1) := by decide +kernel
theorem dX4_endOfRun_24 : decode cX4_endOfRun 24 = .ok (.getfield 9, 3) := by decide +kernel
theorem dX4_endOfRun_27 : decode cX4_endOfRun 27 = .ok (.iload 5, 2) := by decide +kernel
theorem dX4_endOfRun_29 : decode cX4_endOfRun 29 = .ok (.caload, 1) := by decide +kernel
theorem dX4_endOfRun_30 : decode cX4_endOfRun 30 = .ok (.iload_n 2, 1) := by decide +kernel
theorem dX4_endOfRun_31 : decode cX4_endOfRun 31 = .ok (.iload_n 3, 1) := by decide +kernel
theorem dX4_endOfRun_32 : decode cX4_endOfRun 32 = .ok (.invokestatic 21, 3) := by decide +kernel
theorem dX4_endOfRun_35 : decode cX4_endOfRun 35 = .ok (.ifCond .ne 6, 3) := by decide +kernel
theorem dX4_endOfRun_38 : decode cX4_endOfRun 38 = .ok (.goto 15, 3) := by decide +kernel
theorem dX4_endOfRun_41 : decode cX4_endOfRun 41 = .ok (.iload 5, 2) := by decide +kernel
theorem dX4_endOfRun_43 : decode cX4_endOfRun 43 = .ok (.iconst 1, 1) := by decide +kernel
theorem dX4_endOfRun_44 : decode cX4_endOfRun 44 = .ok (.iadd, 1) := by decide +kernel
theorem dX4_endOfRun_45 : decode cX4_endOfRun 45 = .ok (.istore 4, 2) := by decide +kernel
theorem dX4_endOfRun_47 : decode cX4_endOfRun 47 = .ok (.iinc 5 1, 3) := by decide +kernel
theorem dX4_endOfRun_50 : decode cX4_endOfRun 50 = .ok (.goto (-44), 3) := by decide +kernel
theorem dX4_endOfRun_53 : decode cX4_endOfRun 53 = .ok (.iload 4, 2) := by decide +kernel
theorem dX4_endOfRun_55 : decode cX4_endOfRun 55 = .ok (.ireturn, 1) := by decide +kernel
theorem dX4_spells_0 : decode cX4_spells 0 = .ok (.aload_n 1, 1) := by decide +kernel
theorem dX4_spells_1 : decode cX4_spells 1 = .ok (.invokevirtual 25, 3) := by decide +kernel
theorem dX4_spells_4 : decode cX4_spells 4 = .ok (.iload_n 3, 1) := by decide +kernel
theorem dX4_spells_5 : decode cX4_spells 5 = .ok (.iload_n 2, 1) := by decide +kernel
theorem dX4_spells_6 : decode cX4_spells 6 = .ok (.isub, 1) := by decide +kernel
theorem dX4_spells_7 : decode cX4_spells 7 = .ok (.if_icmp .ne 22, 3) := by decide +kernel
theorem dX4_spells_10 : decode cX4_spells 10 = .ok (.iload_n 2, 1) := by decide +kernel
theorem dX4_spells_11 : decode cX4_spells 11 = .ok (.ifCond .lt 18, 3) := by decide +kernel
theorem dX4_spells_14 : decode cX4_spells 14 = .ok (.iload_n 3, 1) := by decide +kernel
theorem dX4_spells_15 : decode cX4_spells 15 = .ok (.aload_n 0, 1) := by decide +kernel
theorem dX4_spells_16 : decode cX4_spells 16 = .ok (.getfield 15, 3) := by decide +kernel
theorem dX4_spells_19 : decode cX4_spells 19 = .ok (.if_icmp .gt 10, 3) := by decide +kernel
theorem dX4_spells_22 : decode cX4_spells 22 = .ok (.iload_n 3, 1) := by decide +kernel
theorem dX4_spells_23 : decode cX4_spells 23 = .ok (.sipush 800, 3) := by decide +kernel
theorem dX4_spells_26 : decode cX4_spells 26 = .ok (.if_icmp .le 5, 3) := by decide +kernel
theorem dX4_spells_29 : decode cX4_spells 29 = .ok (.iconst 0, 1) := by decide +kernel
theorem dX4_spells_30 : decode cX4_spells 30 = .ok (.ireturn, 1) := by decide +kernel
theorem dX4_spells_31 : decode cX4_spells 31 = .ok (.iconst 0, 1) := by decide +kernel
theorem dX4_spells_32 : decode cX4_spells 32 = .ok (.istore 4, 2) := by decide +kernel
theorem dX4_spells_34 : decode cX4_spells 34 = .ok (.iload 4, 2) := by decide +kernel
theorem dX4_spells_36 : decode cX4_spells 36 = .ok (.aload_n 1, 1) := by decide +kernel
theorem dX4_spells_37 : decode cX4_spells 37 = .ok (.invokevirtual 25, 3) := by decide +kernel
theorem dX4_spells_40 : decode cX4_spells 40 = .ok (.if_icmp .ge 29, 3) := by decide +kernel
theorem dX4_spells_43 : decode cX4_spells 43 = .ok (.aload_n 1, 1) := by decide +kernel
theorem dX4_spells_44 : decode cX4_spells 44 = .ok (.iload 4, 2) := by decide +kernel
theorem dX4_spells_46 : decode cX4_spells 46 = .ok (.invokevirtual 31, 3) := by decide +kernel
theorem dX4_spells_49 : decode cX4_spells 49 = .ok (.aload_n 0, 1) := by decide +kernel
theorem dX4_spells_50 : decode cX4_spells 50 = .ok (.getfield 9, 3) := by decide +kernel
theorem dX4_spells_53 : decode cX4_spells 53 = .ok (.iload_n 2, 1) := by decide +kernel
theorem dX4_spells_54 : decode cX4_spells 54 = .ok (.iload 4, 2) := by decide +kernel
theorem dX4_spells_56 : decode cX4_spells 56 = .ok (.iadd, 1) := by decide +kernel
theorem dX4_spells_57 : decode cX4_spells 57 = .ok (.caload, 1) := by decide +kernel
theorem dX4_spells_58 : decode cX4_spells 58 = .ok (.if_icmp .eq 5, 3) := by decide +kernel
theorem dX4_spells_61 : decode cX4_spells 61 = .ok (.iconst 0, 1) := by decide +kernel
theorem dX4_spells_62 : decode cX4_spells 62 = .ok (.ireturn, 1) := by decide +kernel
theorem dX4_spells_63 : decode cX4_spells 63 = .ok (.iinc 4 1, 3) := by decide +kernel
theorem dX4_spells_66 : decode cX4_spells 66 = .ok (.goto (-32), 3) := by decide +kernel
theorem dX4_spells_69 : decode cX4_spells 69 = .ok (.iconst 1, 1) := by decide +kernel
theorem dX4_spells_70 : decode cX4_spells 70 = .ok (.ireturn, 1) := by decide +kernel
theorem dX5_init_0 : decode cX5_init 0 = .ok (.aload_n 0, 1) := by decide +kernel
theorem dX5_init_1 : decode cX5_init 1 = .ok (.invokespecial 1, 3) := by decide +kernel
theorem dX5_init_4 : decode cX5_init 4 = .ok (.aload_n 0, 1) := by decide +kernel
theorem dX5_init_5 : decode cX5_init 5 = .ok (.aload_n 1, 1) := by decide +kernel
theorem dX5_init_6 : decode cX5_init 6 = .ok (.putfield 7, 3) := by decide +kernel
theorem dX5_init_9 : decode cX5_init 9 = .ok (.aload_n 0, 1) := by decide +kernel
theorem dX5_init_10 : decode cX5_init 10 = .ok (.aload_n 2, 1) := by decide +kernel
theorem dX5_init_11 : decode cX5_init 11 = .ok (.putfield 13, 3) := by decide +kernel
theorem dX5_init_14 : decode cX5_init 14 = .ok (.aload_n 0, 1) := by decide +kernel
theorem dX5_init_15 : decode cX5_init 15 = .ok (.aload_n 3, 1) := by decide +kernel
theorem dX5_init_16 : decode cX5_init 16 = .ok (.putfield 16, 3) := by decide +kernel
theorem dX5_init_19 : decode cX5_init 19 = .ok (.aload_n 0, 1) := by decide +kernel
theorem dX5_init_20 : decode cX5_init 20 = .ok (.aload 4, 2) := by decide +kernel
theorem dX5_init_22 : decode cX5_init 22 = .ok (.putfield 19, 3) := by decide +kernel
theorem dX5_init_25 : decode cX5_init 25 = .ok (.aload_n 0, 1) := by decide +kernel
theorem dX5_init_26 : decode cX5_init 26 = .ok (.iload 5, 2) := by decide +kernel
theorem dX5_init_28 : decode cX5_init 28 = .ok (.putfield 22, 3) := by decide +kernel
theorem dX5_init_31 : decode cX5_init 31 = .ok (.return_, 1) := by decide +kernel
theorem dX6_init_0 : decode cX6_init 0 = .ok (.aload_n 0, 1) := by decide +kernel
theorem dX6_init_1 : decode cX6_init 1 = .ok (.invokespecial 3, 3) := by decide +kernel
theorem dX6_init_4 : decode cX6_init 4 = .ok (.aload_n 0, 1) := by decide +kernel
theorem dX6_init_5 : decode cX6_init 5 = .ok (.sipush 801, 3) := by decide +kernel
theorem dX6_init_8 : decode cX6_init 8 = .ok (.newarray .int, 2) := by decide +kernel
theorem dX6_init_10 : decode cX6_init 10 = .ok (.putfield 9, 3) := by decide +kernel
theorem dX6_init_13 : decode cX6_init 13 = .ok (.aload_n 0, 1) := by decide +kernel
theorem dX6_init_14 : decode cX6_init 14 = .ok (.sipush 801, 3) := by decide +kernel
theorem dX6_init_17 : decode cX6_init 17 = .ok (.newarray .int, 2) := by decide +kernel
theorem dX6_init_19 : decode cX6_init 19 = .ok (.putfield 15, 3) := by decide +kernel
theorem dX6_init_22 : decode cX6_init 22 = .ok (.aload_n 0, 1) := by decide +kernel
theorem dX6_init_23 : decode cX6_init 23 = .ok (.sipush 801, 3) := by decide +kernel
theorem dX6_init_26 : decode cX6_init 26 = .ok (.newarray .int, 2) := by decide +kernel
theorem dX6_init_28 : decode cX6_init 28 = .ok (.putfield 18, 3) := by decide +kernel
theorem dX6_init_31 : decode cX6_init 31 = .ok (.aload_n 0, 1) := by decide +kernel
theorem dX6_init_32 : decode cX6_init 32 = .ok (.iconst 0, 1) := by decide +kernel
theorem dX6_init_33 : decode cX6_init 33 = .ok (.putfield 21, 3) := by decide +kernel
theorem dX6_init_36 : decode cX6_init 36 = .ok (.return_, 1) := by decide +kernel
theorem dX6_scan_0 : decode cX6_scan 0 = .ok (.aload_n 0, 1) := by decide +kernel
theorem dX6_scan_1 : decode cX6_scan 1 = .ok (.iconst 0, 1) := by decide +kernel
theorem dX6_scan_2 : decode cX6_scan 2 = .ok (.putfield 21, 3) := by decide +kernel
theorem dX6_scan_5 : decode cX6_scan 5 = .ok (.iconst 0, 1) := by decide +kernel
theorem dX6_scan_6 : decode cX6_scan 6 = .ok (.istore_n 2, 1) := by decide +kernel
theorem dX6_scan_7 : decode cX6_scan 7 = .ok (.iconst 0, 1) := by decide +kernel
theorem dX6_scan_8 : decode cX6_scan 8 = .ok (.istore_n 3, 1) := by decide +kernel
theorem dX6_scan_9 : decode cX6_scan 9 = .ok (.iload_n 3, 1) := by decide +kernel
theorem dX6_scan_10 : decode cX6_scan 10 = .ok (.sipush 800, 3) := by decide +kernel
theorem dX6_scan_13 : decode cX6_scan 13 = .ok (.if_icmp .ge 138, 3) := by decide +kernel
theorem dX6_scan_16 : decode cX6_scan 16 = .ok (.iload_n 2, 1) := by decide +kernel
theorem dX6_scan_17 : decode cX6_scan 17 = .ok (.aload_n 1, 1) := by decide +kernel
theorem dX6_scan_18 : decode cX6_scan 18 = .ok (.getfield 25, 3) := by decide +kernel
theorem dX6_scan_21 : decode cX6_scan 21 = .ok (.if_icmp .ge 130, 3) := by decide +kernel
theorem dX6_scan_24 : decode cX6_scan 24 = .ok (.iload_n 2, 1) := by decide +kernel
theorem dX6_scan_25 : decode cX6_scan 25 = .ok (.sipush 800, 3) := by decide +kernel
theorem dX6_scan_28 : decode cX6_scan 28 = .ok (.if_icmp .ge 123, 3) := by decide +kernel
theorem dX6_scan_31 : decode cX6_scan 31 = .ok (.aload_n 1, 1) := by decide +kernel
theorem dX6_scan_32 : decode cX6_scan 32 = .ok (.getfield 28, 3) := by decide +kernel
theorem dX6_scan_35 : decode cX6_scan 35 = .ok (.iload_n 2, 1) := by decide +kernel
theorem dX6_scan_36 : decode cX6_scan 36 = .ok (.caload, 1) := by decide +kernel
theorem dX6_scan_37 : decode cX6_scan 37 = .ok (.istore 4, 2) := by decide +kernel
theorem dX6_scan_39 : decode cX6_scan 39 = .ok (.iload_n 2, 1) := by decide +kernel
theorem dX6_scan_40 : decode cX6_scan 40 = .ok (.iconst 1, 1) := by decide +kernel
theorem dX6_scan_41 : decode cX6_scan 41 = .ok (.iadd, 1) := by decide +kernel
theorem dX6_scan_42 : decode cX6_scan 42 = .ok (.istore 5, 2) := by decide +kernel
theorem dX6_scan_44 : decode cX6_scan 44 = .ok (.iload 4, 2) := by decide +kernel
theorem dX6_scan_46 : decode cX6_scan 46 = .ok (.bipush 97, 2) := by decide +kernel
theorem dX6_scan_48 : decode cX6_scan 48 = .ok (.bipush 122, 2) := by decide +kernel
theorem dX6_scan_50 : decode cX6_scan 50 = .ok (.invokestatic 32, 3) := by decide +kernel
theorem dX6_scan_53 : decode cX6_scan 53 = .ok (.ifCond .eq 30, 3) := by decide +kernel
theorem dX6_scan_56 : decode cX6_scan 56 = .ok (.aload_n 1, 1) := by decide +kernel
theorem dX6_scan_57 : decode cX6_scan 57 = .ok (.iload_n 2, 1) := by decide +kernel
theorem dX6_scan_58 : decode cX6_scan 58 = .ok (.bipush 97, 2) := by decide +kernel
theorem dX6_scan_60 : decode cX6_scan 60 = .ok (.bipush 122, 2) := by decide +kernel
theorem dX6_scan_62 : decode cX6_scan 62 = .ok (.invokevirtual 36, 3) := by decide +kernel
theorem dX6_scan_65 : decode cX6_scan 65 = .ok (.istore 5, 2) := by decide +kernel
theorem dX6_scan_67 : decode cX6_scan 67 = .ok (.aload_n 0, 1) := by decide +kernel
theorem dX6_scan_68 : decode cX6_scan 68 = .ok (.aload_n 1, 1) := by decide +kernel
theorem dX6_scan_69 : decode cX6_scan 69 = .ok (.iload_n 2, 1) := by decide +kernel
theorem dX6_scan_70 : decode cX6_scan 70 = .ok (.iload 5, 2) := by decide +kernel
theorem dX6_scan_72 : decode cX6_scan 72 = .ok (.invokestatic 40, 3) := by decide +kernel
theorem dX6_scan_75 : decode cX6_scan 75 = .ok (.iconst 0, 1) := by decide +kernel
theorem dX6_scan_76 : decode cX6_scan 76 = .ok (.iload_n 2, 1) := by decide +kernel
theorem dX6_scan_77 : decode cX6_scan 77 = .ok (.invokevirtual 44, 3) := by decide +kernel
theorem dX6_scan_80 : decode cX6_scan 80 = .ok (.goto 62, 3) := by decide +kernel
theorem dX6_scan_83 : decode cX6_scan 83 = .ok (.iload 4, 2) := by decide +kernel
theorem dX6_scan_85 : decode cX6_scan 85 = .ok (.bipush 48, 2) := by decide +kernel
theorem dX6_scan_87 : decode cX6_scan 87 = .ok (.bipush 57, 2) := by decide +kernel
theorem dX6_scan_89 : decode cX6_scan 89 = .ok (.invokestatic 32, 3) := by decide +kernel
theorem dX6_scan_92 : decode cX6_scan 92 = .ok (.ifCond .eq 25, 3) := by decide +kernel
theorem dX6_scan_95 : decode cX6_scan 95 = .ok (.aload_n 1, 1) := by decide +kernel
theorem dX6_scan_96 : decode cX6_scan 96 = .ok (.iload_n 2, 1) := by decide +kernel
theorem dX6_scan_97 : decode cX6_scan 97 = .ok (.bipush 48, 2) := by decide +kernel
theorem dX6_scan_99 : decode cX6_scan 99 = .ok (.bipush 57, 2) := by decide +kernel
theorem dX6_scan_101 : decode cX6_scan 101 = .ok (.invokevirtual 36, 3) := by decide +kernel
theorem dX6_scan_104 : decode cX6_scan 104 = .ok (.istore 5, 2) := by decide +kernel
theorem dX6_scan_106 : decode cX6_scan 106 = .ok (.aload_n 0, 1) := by decide +kernel
theorem dX6_scan_107 : decode cX6_scan 107 = .ok (.aload_n 1, 1) := by decide +kernel
theorem dX6_scan_108 : decode cX6_scan 108 = .ok (.iload_n 2, 1) := by decide +kernel
theorem dX6_scan_109 : decode cX6_scan 109 = .ok (.iload 5, 2) := by decide +kernel
theorem dX6_scan_111 : decode cX6_scan 111 = .ok (.invokevirtual 48, 3) := by decide +kernel
theorem dX6_scan_114 : decode cX6_scan 114 = .ok (.goto 28, 3) := by decide +kernel
theorem dX6_scan_117 : decode cX6_scan 117 = .ok (.iload 4, 2) := by decide +kernel
theorem dX6_scan_119 : decode cX6_scan 119 = .ok (.bipush 10, 2) := by decide +kernel
theorem dX6_scan_121 : decode cX6_scan 121 = .ok (.if_icmp .eq 21, 3) := by decide +kernel
theorem dX6_scan_124 : decode cX6_scan 124 = .ok (.iload 4, 2) := by decide +kernel
theorem dX6_scan_126 : decode cX6_scan 126 = .ok (.bipush 32, 2) := by decide +kernel
theorem dX6_scan_128 : decode cX6_scan 128 = .ok (.if_icmp .eq 14, 3) := by decide +kernel
theorem dX6_scan_131 : decode cX6_scan 131 = .ok (.aload_n 0, 1) := by decide +kernel
theorem dX6_scan_132 : decode cX6_scan 132 = .ok (.iload 4, 2) := by decide +kernel
theorem dX6_scan_134 : decode cX6_scan 134 = .ok (.invokestatic 52, 3) := by decide +kernel
theorem dX6_scan_137 : decode cX6_scan 137 = .ok (.iconst 0, 1) := by decide +kernel
theorem dX6_scan_138 : decode cX6_scan 138 = .ok (.iload_n 2, 1) := by decide +kernel
theorem dX6_scan_139 : decode cX6_scan 139 = .ok (.invokevirtual 44, 3) := by decide +kernel
theorem dX6_scan_142 : decode cX6_scan 142 = .ok (.iload 5, 2) := by decide +kernel
theorem dX6_scan_144 : decode cX6_scan 144 = .ok (.istore_n 2, 1) := by decide +kernel
theorem dX6_scan_145 : decode cX6_scan 145 = .ok (.iinc 3 1, 3) := by decide +kernel
theorem dX6_scan_148 : decode cX6_scan 148 = .ok (.goto (-139), 3) := by decide +kernel
theorem dX6_scan_151 : decode cX6_scan 151 = .ok (.aload_n 0, 1) := by decide +kernel
theorem dX6_scan_152 : decode cX6_scan 152 = .ok (.iconst 1, 1) := by decide +kernel
theorem dX6_scan_153 : decode cX6_scan 153 = .ok (.iconst 0, 1) := by decide +kernel
theorem dX6_scan_154 : decode cX6_scan 154 = .ok (.aload_n 1, 1) := by decide +kernel
theorem dX6_scan_155 : decode cX6_scan 155 = .ok (.getfield 25, 3) := by decide +kernel
theorem dX6_scan_158 : decode cX6_scan 158 = .ok (.invokevirtual 44, 3) := by decide +kernel
theorem dX6_scan_161 : decode cX6_scan 161 = .ok (.return_, 1) := by decide +kernel
theorem dX6_add_0 : decode cX6_add 0 = .ok (.aload_n 0, 1) := by decide +kernel
theorem dX6_add_1 : decode cX6_add 1 = .ok (.getfield 21, 3) := by decide +kernel
theorem dX6_add_4 : decode cX6_add 4 = .ok (.sipush 801, 3) := by decide +kernel
theorem dX6_add_7 : decode cX6_add 7 = .ok (.if_icmp .ge 43, 3) := by decide +kernel
theorem dX6_add_10 : decode cX6_add 10 = .ok (.aload_n 0, 1) := by decide +kernel
theorem dX6_add_11 : decode cX6_add 11 = .ok (.getfield 9, 3) := by decide +kernel
theorem dX6_add_14 : decode cX6_add 14 = .ok (.aload_n 0, 1) := by decide +kernel
theorem dX6_add_15 : decode cX6_add 15 = .ok (.getfield 21, 3) := by decide +kernel
theorem dX6_add_18 : decode cX6_add 18 = .ok (.iload_n 1, 1) := by decide +kernel
theorem dX6_add_19 : decode cX6_add 19 = .ok (.iastore, 1) := by decide +kernel
theorem dX6_add_20 : decode cX6_add 20 = .ok (.aload_n 0, 1) := by decide +kernel
theorem dX6_add_21 : decode cX6_add 21 = .ok (.getfield 15, 3) := by decide +kernel
theorem dX6_add_24 : decode cX6_add 24 = .ok (.aload_n 0, 1) := by decide +kernel
theorem dX6_add_25 : decode cX6_add 25 = .ok (.getfield 21, 3) := by decide +kernel
theorem dX6_add_28 : decode cX6_add 28 = .ok (.iload_n 2, 1) := by decide +kernel
theorem dX6_add_29 : decode cX6_add 29 = .ok (.iastore, 1) := by decide +kernel
theorem dX6_add_30 : decode cX6_add 30 = .ok (.aload_n 0, 1) := by decide +kernel
theorem dX6_add_31 : decode cX6_add 31 = .ok (.getfield 18, 3) := by decide +kernel
theorem dX6_add_34 : decode cX6_add 34 = .ok (.aload_n 0, 1) := by decide +kernel
theorem dX6_add_35 : decode cX6_add 35 = .ok (.getfield 21, 3) := by decide +kernel
theorem dX6_add_38 : decode cX6_add 38 = .ok (.iload_n 3, 1) := by decide +kernel
theorem dX6_add_39 : decode cX6_add 39 = .ok (.iastore, 1) := by decide +kernel
theorem dX6_add_40 : decode cX6_add 40 = .ok (.aload_n 0, 1) := by decide +kernel
theorem dX6_add_41 : decode cX6_add 41 = .ok (.dup, 1) := by decide +kernel
theorem dX6_add_42 : decode cX6_add 42 = .ok (.getfield 21, 3) := by decide +kernel
theorem dX6_add_45 : decode cX6_add 45 = .ok (.iconst 1, 1) := by decide +kernel
theorem dX6_add_46 : decode cX6_add 46 = .ok (.iadd, 1) := by decide +kernel
theorem dX6_add_47 : decode cX6_add 47 = .ok (.putfield 21, 3) := by decide +kernel
theorem dX6_add_50 : decode cX6_add 50 = .ok (.return_, 1) := by decide +kernel
theorem dX6_addNumber_0 : decode cX6_addNumber 0 = .ok (.iload_n 3, 1) := by decide +kernel
theorem dX6_addNumber_1 : decode cX6_addNumber 1 = .ok (.iload_n 2, 1) := by decide +kernel
theorem dX6_addNumber_2 : decode cX6_addNumber 2 = .ok (.isub, 1) := by decide +kernel
theorem dX6_addNumber_3 : decode cX6_addNumber 3 = .ok (.iconst 4, 1) := by decide +kernel
theorem dX6_addNumber_4 : decode cX6_addNumber 4 = .ok (.if_icmp .le 11, 3) := by decide +kernel
theorem dX6_addNumber_7 : decode cX6_addNumber 7 = .ok (.aload_n 0, 1) := by decide +kernel
theorem dX6_addNumber_8 : decode cX6_addNumber 8 = .ok (.iconst 0, 1) := by decide +kernel
theorem dX6_addNumber_9 : decode cX6_addNumber 9 = .ok (.iconst 0, 1) := by decide +kernel
theorem dX6_addNumber_10 : decode cX6_addNumber 10 = .ok (.iload_n 2, 1) := by decide +kernel
theorem dX6_addNumber_11 : decode cX6_addNumber 11 = .ok (.invokevirtual 44, 3) := by decide +kernel
theorem dX6_addNumber_14 : decode cX6_addNumber 14 = .ok (.return_, 1) := by decide +kernel
theorem dX6_addNumber_15 : decode cX6_addNumber 15 = .ok (.iconst 0, 1) := by decide +kernel
theorem dX6_addNumber_16 : decode cX6_addNumber 16 = .ok (.istore 4, 2) := by decide +kernel
theorem dX6_addNumber_18 : decode cX6_addNumber 18 = .ok (.iload_n 2, 1) := by decide +kernel
theorem dX6_addNumber_19 : decode cX6_addNumber 19 = .ok (.istore 5, 2) := by decide +kernel
theorem dX6_addNumber_21 : decode cX6_addNumber 21 = .ok (.iload 5, 2) := by decide +kernel
theorem dX6_addNumber_23 : decode cX6_addNumber 23 = .ok (.iload_n 3, 1) := by decide +kernel
theorem dX6_addNumber_24 : decode cX6_addNumber 24 = .ok (.if_icmp .ge 35, 3) := by decide +kernel
theorem dX6_addNumber_27 : decode cX6_addNumber 27 = .ok (.iload 5, 2) := by decide +kernel
theorem dX6_addNumber_29 : decode cX6_addNumber 29 = .ok (.sipush 800, 3) := by decide +kernel
theorem dX6_addNumber_32 : decode cX6_addNumber 32 = .ok (.if_icmp .ge 27, 3) := by decide +kernel
theorem dX6_addNumber_35 : decode cX6_addNumber 35 = .ok (.bipush 10, 2) := by decide +kernel
theorem dX6_addNumber_37 : decode cX6_addNumber 37 = .ok (.iload 4, 2) := by decide +kernel
theorem dX6_addNumber_39 : decode cX6_addNumber 39 = .ok (.imul, 1) := by decide +kernel
theorem dX6_addNumber_40 : decode cX6_addNumber 40 = .ok (.aload_n 1, 1) := by decide +kernel
theorem dX6_addNumber_41 : decode cX6_addNumber 41 = .ok (.getfield 28, 3) := by decide +kernel
theorem dX6_addNumber_44 : decode cX6_addNumber 44 = .ok (.iload 5, 2) := by decide +kernel
theorem dX6_addNumber_46 : decode cX6_addNumber 46 = .ok (.caload, 1) := by decide +kernel
theorem dX6_addNumber_47 : decode cX6_addNumber 47 = .ok (.bipush 48, 2) := by decide +kernel
theorem dX6_addNumber_49 : decode cX6_addNumber 49 = .ok (.isub, 1) := by decide +kernel
theorem dX6_addNumber_50 : decode cX6_addNumber 50 = .ok (.iadd, 1) := by decide +kernel
theorem dX6_addNumber_51 : decode cX6_addNumber 51 = .ok (.istore 4, 2) := by decide +kernel
theorem dX6_addNumber_53 : decode cX6_addNumber 53 = .ok (.iinc 5 1, 3) := by decide +kernel
theorem dX6_addNumber_56 : decode cX6_addNumber 56 = .ok (.goto (-35), 3) := by decide +kernel
theorem dX6_addNumber_59 : decode cX6_addNumber 59 = .ok (.aload_n 0, 1) := by decide +kernel
theorem dX6_addNumber_60 : decode cX6_addNumber 60 = .ok (.iconst 2, 1) := by decide +kernel
theorem dX6_addNumber_61 : decode cX6_addNumber 61 = .ok (.iload 4, 2) := by decide +kernel
theorem dX6_addNumber_63 : decode cX6_addNumber 63 = .ok (.iload_n 2, 1) := by decide +kernel
theorem dX6_addNumber_64 : decode cX6_addNumber 64 = .ok (.invokevirtual 44, 3) := by decide +kernel
theorem dX6_addNumber_67 : decode cX6_addNumber 67 = .ok (.return_, 1) := by decide +kernel
theorem dX6_kindOfWord_0 : decode cX6_kindOfWord 0 = .ok (.iload_n 2, 1) := by decide +kernel
theorem dX6_kindOfWord_1 : decode cX6_kindOfWord 1 = .ok (.iload_n 1, 1) := by decide +kernel
theorem dX6_kindOfWord_2 : decode cX6_kindOfWord 2 = .ok (.isub, 1) := by decide +kernel
theorem dX6_kindOfWord_3 : decode cX6_kindOfWord 3 = .ok (.bipush 8, 2) := by decide +kernel
theorem dX6_kindOfWord_5 : decode cX6_kindOfWord 5 = .ok (.if_icmp .le 5, 3) := by decide +kernel
theorem dX6_kindOfWord_8 : decode cX6_kindOfWord 8 = .ok (.iconst 0, 1) := by decide +kernel
theorem dX6_kindOfWord_9 : decode cX6_kindOfWord 9 = .ok (.ireturn, 1) := by decide +kernel
theorem dX6_kindOfWord_10 : decode cX6_kindOfWord 10 = .ok (.bipush 10, 2) := by decide +kernel
theorem dX6_kindOfWord_12 : decode cX6_kindOfWord 12 = .ok (.istore_n 3, 1) := by decide +kernel
theorem dX6_kindOfWord_13 : decode cX6_kindOfWord 13 = .ok (.iload_n 3, 1) := by decide +kernel
theorem dX6_kindOfWord_14 : decode cX6_kindOfWord 14 = .ok (.bipush 23, 2) := by decide +kernel
theorem dX6_kindOfWord_16 : decode cX6_kindOfWord 16 = .ok (.if_icmp .gt 24, 3) := by decide +kernel
theorem dX6_kindOfWord_19 : decode cX6_kindOfWord 19 = .ok (.aload_n 0, 1) := by decide +kernel
theorem dX6_kindOfWord_20 : decode cX6_kindOfWord 20 = .ok (.iload_n 3, 1) := by decide +kernel
theorem dX6_kindOfWord_21 : decode cX6_kindOfWord 21 = .ok (.invokestatic 56, 3) := by decide +kernel
theorem dX6_kindOfWord_24 : decode cX6_kindOfWord 24 = .ok (.iload_n 1, 1) := by decide +kernel
theorem dX6_kindOfWord_25 : decode cX6_kindOfWord 25 = .ok (.iload_n 2, 1) := by decide +kernel
theorem dX6_kindOfWord_26 : decode cX6_kindOfWord 26 = .ok (.invokevirtual 60, 3) := by decide +kernel
theorem dX6_kindOfWord_29 : decode cX6_kindOfWord 29 = .ok (.ifCond .eq 5, 3) := by decide +kernel
theorem dX6_kindOfWord_32 : decode cX6_kindOfWord 32 = .ok (.iload_n 3, 1) := by decide +kernel
theorem dX6_kindOfWord_33 : decode cX6_kindOfWord 33 = .ok (.ireturn, 1) := by decide +kernel
theorem dX6_kindOfWord_34 : decode cX6_kindOfWord 34 = .ok (.iinc 3 1, 3) := by decide +kernel
theorem dX6_kindOfWord_37 : decode cX6_kindOfWord 37 = .ok (.goto (-24), 3) := by decide +kernel
theorem dX6_kindOfWord_40 : decode cX6_kindOfWord 40 = .ok (.iconst 0, 1) := by decide +kernel
theorem dX6_kindOfWord_41 : decode cX6_kindOfWord 41 = .ok (.ireturn, 1) := by decide +kernel
theorem dX6_spelling_0 : decode cX6_spelling 0 = .ok (.iload_n 0, 1) := by decide +kernel
theorem dX6_spelling_1 : decode cX6_spelling 1 = .ok (.tableswitch 113 10 23 #[71, 74, 77, 80, 83, 86, 89, 92, 95, 98, 101, 104, 107, 110], 71) := by decide +kernel
theorem dX6_spelling_72 : decode cX6_spelling 72 = .ok (.ldc 64, 2) := by decide +kernel
theorem dX6_spelling_74 : decode cX6_spelling 74 = .ok (.areturn, 1) := by decide +kernel
theorem dX6_spelling_75 : decode cX6_spelling 75 = .ok (.ldc 66, 2) := by decide +kernel
theorem dX6_spelling_77 : decode cX6_spelling 77 = .ok (.areturn, 1) := by decide +kernel
theorem dX6_spelling_78 : decode cX6_spelling 78 = .ok (.ldc 68, 2) := by decide +kernel
theorem dX6_spelling_80 : decode cX6_spelling 80 = .ok (.areturn, 1) := by decide +kernel
theorem dX6_spelling_81 : decode cX6_spelling 81 = .ok (.ldc 70, 2) := by decide +kernel
theorem dX6_spelling_83 : decode cX6_spelling 83 = .ok (.areturn, 1) := by decide +kernel
theorem dX6_spelling_84 : decode cX6_spelling 84 = .ok (.ldc 72, 2) := by decide +kernel
theorem dX6_spelling_86 : decode cX6_spelling 86 = .ok (.areturn, 1) := by decide +kernel
theorem dX6_spelling_87 : decode cX6_spelling 87 = .ok (.ldc 74, 2) := by decide +kernel
theorem dX6_spelling_89 : decode cX6_spelling 89 = .ok (.areturn, 1) := by decide +kernel
theorem dX6_spelling_90 : decode cX6_spelling 90 = .ok (.ldc 76, 2) := by decide +kernel
theorem dX6_spelling_92 : decode cX6_spelling 92 = .ok (.areturn, 1) := by decide +kernel
theorem dX6_spelling_93 : decode cX6_spelling 93 = .ok (.ldc 78, 2) := by decide +kernel
theorem dX6_spelling_95 : decode cX6_spelling 95 = .ok (.areturn, 1) := by decide +kernel
theorem dX6_spelling_96 : decode cX6_spelling 96 = .ok (.ldc 80, 2) := by decide +kernel
theorem dX6_spelling_98 : decode cX6_spelling 98 = .ok (.areturn, 1) := by decide +kernel
theorem dX6_spelling_99 : decode cX6_spelling 99 = .ok (.ldc 82, 2) := by decide +kernel
theorem dX6_spelling_101 : decode cX6_spelling 101 = .ok (.areturn, 1) := by decide +kernel
theorem dX6_spelling_102 : decode cX6_spelling 102 = .ok (.ldc 84, 2) := by decide +kernel
theorem dX6_spelling_104 : decode cX6_spelling 104 = .ok (.areturn, 1) := by decide +kernel
theorem dX6_spelling_105 : decode cX6_spelling 105 = .ok (.ldc 86, 2) := by decide +kernel
theorem dX6_spelling_107 : decode cX6_spelling 107 = .ok (.areturn, 1) := by decide +kernel
theorem dX6_spelling_108 : decode cX6_spelling 108 = .ok (.ldc 88, 2) := by decide +kernel
theorem dX6_spelling_110 : decode cX6_spelling 110 = .ok (.areturn, 1) := by decide +kernel
theorem dX6_spelling_111 : decode cX6_spelling 111 = .ok (.ldc 90, 2) := by decide +kernel
theorem dX6_spelling_113 : decode cX6_spelling 113 = .ok (.areturn, 1) := by decide +kernel
theorem dX6_spelling_114 : decode cX6_spelling 114 = .ok (.ldc 92, 2) := by decide +kernel
theorem dX6_spelling_116 : decode cX6_spelling 116 = .ok (.areturn, 1) := by decide +kernel
theorem dX6_kindOfSign_0 : decode cX6_kindOfSign 0 = .ok (.iload_n 0, 1) := by decide +kernel
theorem dX6_kindOfSign_1 : decode cX6_kindOfSign 1 = .ok (.tableswitch 121 40 61 #[103, 105, 121, 115, 121, 118, 121, 121, 121, 121, 121, 121, 121, 121, 121, 121, 121, 121, 121, 107, 109, 112], 103) := by decide +kernel
theorem dX6_kindOfSign_104 : decode cX6_kindOfSign 104 = .ok (.iconst 3, 1) := by decide +kernel
theorem dX6_kindOfSign_105 : decode cX6_kindOfSign 105 = .ok (.ireturn, 1) := by decide +kernel
theorem dX6_kindOfSign_106 : decode cX6_kindOfSign 106 = .ok (.iconst 4, 1) := by decide +kernel
theorem dX6_kindOfSign_107 : decode cX6_kindOfSign 107 = .ok (.ireturn, 1) := by decide +kernel
theorem dX6_kindOfSign_108 : decode cX6_kindOfSign 108 = .ok (.iconst 5, 1) := by decide +kernel
theorem dX6_kindOfSign_109 : decode cX6_kindOfSign 109 = .ok (.ireturn, 1) := by decide +kernel
theorem dX6_kindOfSign_110 : decode cX6_kindOfSign 110 = .ok (.bipush 6, 2) := by decide +kernel
theorem dX6_kindOfSign_112 : decode cX6_kindOfSign 112 = .ok (.ireturn, 1) := by decide +kernel
theorem dX6_kindOfSign_113 : decode cX6_kindOfSign 113 = .ok (.bipush 7, 2) := by decide +kernel
theorem dX6_kindOfSign_115 : decode cX6_kindOfSign 115 = .ok (.ireturn, 1) := by decide +kernel
theorem dX6_kindOfSign_116 : decode cX6_kindOfSign 116 = .ok (.bipush 8, 2) := by decide +kernel
theorem dX6_kindOfSign_118 : decode cX6_kindOfSign 118 = .ok (.ireturn, 1) := by decide +kernel
theorem dX6_kindOfSign_119 : decode cX6_kindOfSign 119 = .ok (.bipush 9, 2) := by decide +kernel
theorem dX6_kindOfSign_121 : decode cX6_kindOfSign 121 = .ok (.ireturn, 1) := by decide +kernel
theorem dX6_kindOfSign_122 : decode cX6_kindOfSign 122 = .ok (.iconst 0, 1) := by decide +kernel
theorem dX6_kindOfSign_123 : decode cX6_kindOfSign 123 = .ok (.ireturn, 1) := by decide +kernel
theorem dX7_init_0 : decode cX7_init 0 = .ok (.aload_n 0, 1) := by decide +kernel
theorem dX7_init_1 : decode cX7_init 1 = .ok (.invokespecial 3, 3) := by decide +kernel
theorem dX7_init_4 : decode cX7_init 4 = .ok (.aload_n 0, 1) := by decide +kernel
theorem dX7_init_5 : decode cX7_init 5 = .ok (.sipush 201, 3) := by decide +kernel
theorem dX7_init_8 : decode cX7_init 8 = .ok (.newarray .int, 2) := by decide +kernel
theorem dX7_init_10 : decode cX7_init 10 = .ok (.putfield 9, 3) := by decide +kernel
theorem dX7_init_13 : decode cX7_init 13 = .ok (.return_, 1) := by decide +kernel
theorem dX7_putBelow_0 : decode cX7_putBelow 0 = .ok (.iload_n 1, 1) := by decide +kernel
theorem dX7_putBelow_1 : decode cX7_putBelow 1 = .ok (.iconst 1, 1) := by decide +kernel
theorem dX7_putBelow_2 : decode cX7_putBelow 2 = .ok (.sipush 200, 3) := by decide +kernel
theorem dX7_putBelow_5 : decode cX7_putBelow 5 = .ok (.invokestatic 15, 3) := by decide +kernel
theorem dX7_putBelow_8 : decode cX7_putBelow 8 = .ok (.ifCond .eq 10, 3) := by decide +kernel
theorem dX7_putBelow_11 : decode cX7_putBelow 11 = .ok (.aload_n 0, 1) := by decide +kernel
theorem dX7_putBelow_12 : decode cX7_putBelow 12 = .ok (.getfield 9, 3) := by decide +kernel
theorem dX7_putBelow_15 : decode cX7_putBelow 15 = .ok (.iload_n 1, 1) := by decide +kernel
theorem dX7_putBelow_16 : decode cX7_putBelow 16 = .ok (.iload_n 2, 1) := by decide +kernel
theorem dX7_putBelow_17 : decode cX7_putBelow 17 = .ok (.iastore, 1) := by decide +kernel
theorem dX7_putBelow_18 : decode cX7_putBelow 18 = .ok (.return_, 1) := by decide +kernel
theorem dX7_isUnder_0 : decode cX7_isUnder 0 = .ok (.iload_n 1, 1) := by decide +kernel
theorem dX7_isUnder_1 : decode cX7_isUnder 1 = .ok (.istore_n 3, 1) := by decide +kernel
theorem dX7_isUnder_2 : decode cX7_isUnder 2 = .ok (.iconst 0, 1) := by decide +kernel
theorem dX7_isUnder_3 : decode cX7_isUnder 3 = .ok (.istore 4, 2) := by decide +kernel
theorem dX7_isUnder_5 : decode cX7_isUnder 5 = .ok (.iload 4, 2) := by decide +kernel
theorem dX7_isUnder_7 : decode cX7_isUnder 7 = .ok (.sipush 200, 3) := by decide +kernel
theorem dX7_isUnder_10 : decode cX7_isUnder 10 = .ok (.if_icmp .ge 32, 3) := by decide +kernel
theorem dX7_isUnder_13 : decode cX7_isUnder 13 = .ok (.iload_n 3, 1) := by decide +kernel
theorem dX7_isUnder_14 : decode cX7_isUnder 14 = .ok (.iload_n 2, 1) := by decide +kernel
theorem dX7_isUnder_15 : decode cX7_isUnder 15 = .ok (.if_icmp .le 27, 3) := by decide +kernel
theorem dX7_isUnder_18 : decode cX7_isUnder 18 = .ok (.iload_n 3, 1) := by decide +kernel
theorem dX7_isUnder_19 : decode cX7_isUnder 19 = .ok (.ifCond .le 23, 3) := by decide +kernel
theorem dX7_isUnder_22 : decode cX7_isUnder 22 = .ok (.iload_n 3, 1) := by decide +kernel
theorem dX7_isUnder_23 : decode cX7_isUnder 23 = .ok (.sipush 200, 3) := by decide +kernel
theorem dX7_isUnder_26 : decode cX7_isUnder 26 = .ok (.if_icmp .gt 16, 3) := by decide +kernel
theorem dX7_isUnder_29 : decode cX7_isUnder 29 = .ok (.aload_n 0, 1) := by decide +kernel
theorem dX7_isUnder_30 : decode cX7_isUnder 30 = .ok (.getfield 9, 3) := by decide +kernel
theorem dX7_isUnder_33 : decode cX7_isUnder 33 = .ok (.iload_n 3, 1) := by decide +kernel
theorem dX7_isUnder_34 : decode cX7_isUnder 34 = .ok (.iaload, 1) := by decide +kernel
theorem dX7_isUnder_35 : decode cX7_isUnder 35 = .ok (.istore_n 3, 1) := by decide +kernel
theorem dX7_isUnder_36 : decode cX7_isUnder 36 = .ok (.iinc 4 1, 3) := by decide +kernel
theorem dX7_isUnder_39 : decode cX7_isUnder 39 = .ok (.goto (-34), 3) := by decide +kernel
theorem dX7_isUnder_42 : decode cX7_isUnder 42 = .ok (.iload_n 3, 1) := by decide +kernel
theorem dX7_isUnder_43 : decode cX7_isUnder 43 = .ok (.iload_n 2, 1) := by decide +kernel
theorem dX7_isUnder_44 : decode cX7_isUnder 44 = .ok (.if_icmp .ne 7, 3) := by decide +kernel
theorem dX7_isUnder_47 : decode cX7_isUnder 47 = .ok (.iconst 1, 1) := by decide +kernel
theorem dX7_isUnder_48 : decode cX7_isUnder 48 = .ok (.goto 4, 3) := by decide +kernel
theorem dX7_isUnder_51 : decode cX7_isUnder 51 = .ok (.iconst 0, 1) := by decide +kernel
theorem dX7_isUnder_52 : decode cX7_isUnder 52 = .ok (.ireturn, 1) := by decide +kernel
theorem dX8_init_0 : decode cX8_init 0 = .ok (.aload_n 0, 1) := by decide +kernel
theorem dX8_init_1 : decode cX8_init 1 = .ok (.invokespecial 3, 3) := by decide +kernel
theorem dX8_init_4 : decode cX8_init 4 = .ok (.aload_n 0, 1) := by decide +kernel
theorem dX8_init_5 : decode cX8_init 5 = .ok (.new 9, 3) := by decide +kernel
theorem dX8_init_8 : decode cX8_init 8 = .ok (.dup, 1) := by decide +kernel
theorem dX8_init_9 : decode cX8_init 9 = .ok (.invokespecial 11, 3) := by decide +kernel
theorem dX8_init_12 : decode cX8_init 12 = .ok (.putfield 12, 3) := by decide +kernel
theorem dX8_init_15 : decode cX8_init 15 = .ok (.aload_n 0, 1) := by decide +kernel
theorem dX8_init_16 : decode cX8_init 16 = .ok (.new 16, 3) := by decide +kernel
theorem dX8_init_19 : decode cX8_init 19 = .ok (.dup, 1) := by decide +kernel
theorem dX8_init_20 : decode cX8_init 20 = .ok (.invokespecial 18, 3) := by decide +kernel
theorem dX8_init_23 : decode cX8_init 23 = .ok (.putfield 19, 3) := by decide +kernel
theorem dX8_init_26 : decode cX8_init 26 = .ok (.aload_n 0, 1) := by decide +kernel
theorem dX8_init_27 : decode cX8_init 27 = .ok (.new 16, 3) := by decide +kernel
theorem dX8_init_30 : decode cX8_init 30 = .ok (.dup, 1) := by decide +kernel
theorem dX8_init_31 : decode cX8_init 31 = .ok (.invokespecial 18, 3) := by decide +kernel
theorem dX8_init_34 : decode cX8_init 34 = .ok (.putfield 23, 3) := by decide +kernel
theorem dX8_init_37 : decode cX8_init 37 = .ok (.aload_n 0, 1) := by decide +kernel
theorem dX8_init_38 : decode cX8_init 38 = .ok (.new 26, 3) := by decide +kernel
theorem dX8_init_41 : decode cX8_init 41 = .ok (.dup, 1) := by decide +kernel
theorem dX8_init_42 : decode cX8_init 42 = .ok (.iconst 0, 1) := by decide +kernel
theorem dX8_init_43 : decode cX8_init 43 = .ok (.newarray .int, 2) := by decide +kernel
theorem dX8_init_45 : decode cX8_init 45 = .ok (.iconst 0, 1) := by decide +kernel
theorem dX8_init_46 : decode cX8_init 46 = .ok (.newarray .int, 2) := by decide +kernel
theorem dX8_init_48 : decode cX8_init 48 = .ok (.iconst 0, 1) := by decide +kernel
theorem dX8_init_49 : decode cX8_init 49 = .ok (.newarray .int, 2) := by decide +kernel
theorem dX8_init_51 : decode cX8_init 51 = .ok (.iconst 0, 1) := by decide +kernel
theorem dX8_init_52 : decode cX8_init 52 = .ok (.newarray .int, 2) := by decide +kernel
theorem dX8_init_54 : decode cX8_init 54 = .ok (.iconst 0, 1) := by decide +kernel
theorem dX8_init_55 : decode cX8_init 55 = .ok (.invokespecial 28, 3) := by decide +kernel
theorem dX8_init_58 : decode cX8_init 58 = .ok (.putfield 31, 3) := by decide +kernel
theorem dX8_init_61 : decode cX8_init 61 = .ok (.aload_n 0, 1) := by decide +kernel
theorem dX8_init_62 : decode cX8_init 62 = .ok (.new 35, 3) := by decide +kernel
theorem dX8_init_65 : decode cX8_init 65 = .ok (.dup, 1) := by decide +kernel
theorem dX8_init_66 : decode cX8_init 66 = .ok (.invokespecial 37, 3) := by decide +kernel
theorem dX8_init_69 : decode cX8_init 69 = .ok (.putfield 38, 3) := by decide +kernel
theorem dX8_init_72 : decode cX8_init 72 = .ok (.aload_n 0, 1) := by decide +kernel
theorem dX8_init_73 : decode cX8_init 73 = .ok (.new 42, 3) := by decide +kernel
theorem dX8_init_76 : decode cX8_init 76 = .ok (.dup, 1) := by decide +kernel
theorem dX8_init_77 : decode cX8_init 77 = .ok (.invokespecial 44, 3) := by decide +kernel
theorem dX8_init_80 : decode cX8_init 80 = .ok (.putfield 45, 3) := by decide +kernel
theorem dX8_init_83 : decode cX8_init 83 = .ok (.aload_n 0, 1) := by decide +kernel
theorem dX8_init_84 : decode cX8_init 84 = .ok (.new 49, 3) := by decide +kernel
theorem dX8_init_87 : decode cX8_init 87 = .ok (.dup, 1) := by decide +kernel
theorem dX8_init_88 : decode cX8_init 88 = .ok (.aload_n 0, 1) := by decide +kernel
theorem dX8_init_89 : decode cX8_init 89 = .ok (.getfield 12, 3) := by decide +kernel
theorem dX8_init_92 : decode cX8_init 92 = .ok (.invokespecial 51, 3) := by decide +kernel
theorem dX8_init_95 : decode cX8_init 95 = .ok (.putfield 54, 3) := by decide +kernel
theorem dX8_init_98 : decode cX8_init 98 = .ok (.aload_n 0, 1) := by decide +kernel
theorem dX8_init_99 : decode cX8_init 99 = .ok (.iconst 5, 1) := by decide +kernel
theorem dX8_init_100 : decode cX8_init 100 = .ok (.newarray .int, 2) := by decide +kernel
theorem dX8_init_102 : decode cX8_init 102 = .ok (.dup, 1) := by decide +kernel
theorem dX8_init_103 : decode cX8_init 103 = .ok (.iconst 0, 1) := by decide +kernel
theorem dX8_init_104 : decode cX8_init 104 = .ok (.iconst 1, 1) := by decide +kernel
theorem dX8_init_105 : decode cX8_init 105 = .ok (.iastore, 1) := by decide +kernel
theorem dX8_init_106 : decode cX8_init 106 = .ok (.dup, 1) := by decide +kernel
theorem dX8_init_107 : decode cX8_init 107 = .ok (.iconst 1, 1) := by decide +kernel
theorem dX8_init_108 : decode cX8_init 108 = .ok (.iconst 1, 1) := by decide +kernel
theorem dX8_init_109 : decode cX8_init 109 = .ok (.iastore, 1) := by decide +kernel
theorem dX8_init_110 : decode cX8_init 110 = .ok (.dup, 1) := by decide +kernel
theorem dX8_init_111 : decode cX8_init 111 = .ok (.iconst 2, 1) := by decide +kernel
theorem dX8_init_112 : decode cX8_init 112 = .ok (.iconst 1, 1) := by decide +kernel
theorem dX8_init_113 : decode cX8_init 113 = .ok (.iastore, 1) := by decide +kernel
theorem dX8_init_114 : decode cX8_init 114 = .ok (.dup, 1) := by decide +kernel
theorem dX8_init_115 : decode cX8_init 115 = .ok (.iconst 3, 1) := by decide +kernel
theorem dX8_init_116 : decode cX8_init 116 = .ok (.iconst 1, 1) := by decide +kernel
theorem dX8_init_117 : decode cX8_init 117 = .ok (.iastore, 1) := by decide +kernel
theorem dX8_init_118 : decode cX8_init 118 = .ok (.dup, 1) := by decide +kernel
theorem dX8_init_119 : decode cX8_init 119 = .ok (.iconst 4, 1) := by decide +kernel
theorem dX8_init_120 : decode cX8_init 120 = .ok (.iconst 1, 1) := by decide +kernel
theorem dX8_init_121 : decode cX8_init 121 = .ok (.iastore, 1) := by decide +kernel
theorem dX8_init_122 : decode cX8_init 122 = .ok (.putfield 58, 3) := by decide +kernel
theorem dX8_init_125 : decode cX8_init 125 = .ok (.aload_n 0, 1) := by decide +kernel
theorem dX8_init_126 : decode cX8_init 126 = .ok (.iconst (-1), 1) := by decide +kernel
theorem dX8_init_127 : decode cX8_init 127 = .ok (.putfield 62, 3) := by decide +kernel
theorem dX8_init_130 : decode cX8_init 130 = .ok (.aload_n 0, 1) := by decide +kernel
theorem dX8_init_131 : decode cX8_init 131 = .ok (.iconst 0, 1) := by decide +kernel
theorem dX8_init_132 : decode cX8_init 132 = .ok (.putfield 66, 3) := by decide +kernel
theorem dX8_init_135 : decode cX8_init 135 = .ok (.return_, 1) := by decide +kernel
theorem dX8_below_0 : decode cX8_below 0 = .ok (.iload_n 1, 1) := by decide +kernel
theorem dX8_below_1 : decode cX8_below 1 = .ok (.iconst 1, 1) := by decide +kernel
theorem dX8_below_2 : decode cX8_below 2 = .ok (.sipush 200, 3) := by decide +kernel
theorem dX8_below_5 : decode cX8_below 5 = .ok (.invokestatic 69, 3) := by decide +kernel
theorem dX8_below_8 : decode cX8_below 8 = .ok (.ifCond .eq 19, 3) := by decide +kernel
theorem dX8_below_11 : decode cX8_below 11 = .ok (.iload_n 2, 1) := by decide +kernel
theorem dX8_below_12 : decode cX8_below 12 = .ok (.iconst 1, 1) := by decide +kernel
theorem dX8_below_13 : decode cX8_below 13 = .ok (.sipush 200, 3) := by decide +kernel
theorem dX8_below_16 : decode cX8_below 16 = .ok (.invokestatic 69, 3) := by decide +kernel
theorem dX8_below_19 : decode cX8_below 19 = .ok (.ifCond .eq 8, 3) := by decide +kernel
theorem dX8_below_22 : decode cX8_below 22 = .ok (.iload_n 2, 1) := by decide +kernel
theorem dX8_below_23 : decode cX8_below 23 = .ok (.iload_n 1, 1) := by decide +kernel
theorem dX8_below_24 : decode cX8_below 24 = .ok (.if_icmp .lt 5, 3) := by decide +kernel
theorem dX8_below_27 : decode cX8_below 27 = .ok (.iconst 0, 1) := by decide +kernel
theorem dX8_below_28 : decode cX8_below 28 = .ok (.ireturn, 1) := by decide +kernel
theorem dX8_below_29 : decode cX8_below 29 = .ok (.aload_n 0, 1) := by decide +kernel
theorem dX8_below_30 : decode cX8_below 30 = .ok (.getfield 12, 3) := by decide +kernel
theorem dX8_below_33 : decode cX8_below 33 = .ok (.iload_n 1, 1) := by decide +kernel
theorem dX8_below_34 : decode cX8_below 34 = .ok (.iload_n 2, 1) := by decide +kernel
theorem dX8_below_35 : decode cX8_below 35 = .ok (.invokevirtual 73, 3) := by decide +kernel
theorem dX8_below_38 : decode cX8_below 38 = .ok (.aload_n 0, 1) := by decide +kernel
theorem dX8_below_39 : decode cX8_below 39 = .ok (.dup, 1) := by decide +kernel
theorem dX8_below_40 : decode cX8_below 40 = .ok (.getfield 66, 3) := by decide +kernel
theorem dX8_below_43 : decode cX8_below 43 = .ok (.iconst 1, 1) := by decide +kernel
theorem dX8_below_44 : decode cX8_below 44 = .ok (.iadd, 1) := by decide +kernel
theorem dX8_below_45 : decode cX8_below 45 = .ok (.putfield 66, 3) := by decide +kernel
theorem dX8_below_48 : decode cX8_below 48 = .ok (.iconst 1, 1) := by decide +kernel
theorem dX8_below_49 : decode cX8_below 49 = .ok (.ireturn, 1) := by decide +kernel
theorem dX8_diary_0 : decode cX8_diary 0 = .ok (.iload_n 1, 1) := by decide +kernel
theorem dX8_diary_1 : decode cX8_diary 1 = .ok (.iload_n 3, 1) := by decide +kernel
theorem dX8_diary_2 : decode cX8_diary 2 = .ok (.invokestatic 77, 3) := by decide +kernel
theorem dX8_diary_5 : decode cX8_diary 5 = .ok (.ifCond .eq 35, 3) := by decide +kernel
theorem dX8_diary_8 : decode cX8_diary 8 = .ok (.iload_n 2, 1) := by decide +kernel
theorem dX8_diary_9 : decode cX8_diary 9 = .ok (.iconst 0, 1) := by decide +kernel
theorem dX8_diary_10 : decode cX8_diary 10 = .ok (.bipush 7, 2) := by decide +kernel
theorem dX8_diary_12 : decode cX8_diary 12 = .ok (.invokestatic 69, 3) := by decide +kernel
theorem dX8_diary_15 : decode cX8_diary 15 = .ok (.ifCond .eq 25, 3) := by decide +kernel
theorem dX8_diary_18 : decode cX8_diary 18 = .ok (.iload 4, 2) := by decide +kernel
theorem dX8_diary_20 : decode cX8_diary 20 = .ok (.iconst 0, 1) := by decide +kernel
theorem dX8_diary_21 : decode cX8_diary 21 = .ok (.iconst 2, 1) := by decide +kernel
theorem dX8_diary_22 : decode cX8_diary 22 = .ok (.invokestatic 69, 3) := by decide +kernel
theorem dX8_diary_25 : decode cX8_diary 25 = .ok (.ifCond .eq 15, 3) := by decide +kernel
theorem dX8_diary_28 : decode cX8_diary 28 = .ok (.aload_n 0, 1) := by decide +kernel
theorem dX8_diary_29 : decode cX8_diary 29 = .ok (.getfield 19, 3) := by decide +kernel
theorem dX8_diary_32 : decode cX8_diary 32 = .ok (.invokevirtual 81, 3) := by decide +kernel
theorem dX8_diary_35 : decode cX8_diary 35 = .ok (.bipush 40, 2) := by decide +kernel
theorem dX8_diary_37 : decode cX8_diary 37 = .ok (.if_icmp .lt 5, 3) := by decide +kernel
theorem dX8_diary_40 : decode cX8_diary 40 = .ok (.iconst (-1), 1) := by decide +kernel
theorem dX8_diary_41 : decode cX8_diary 41 = .ok (.ireturn, 1) := by decide +kernel
theorem dX8_diary_42 : decode cX8_diary 42 = .ok (.iconst 0, 1) := by decide +kernel
theorem dX8_diary_43 : decode cX8_diary 43 = .ok (.istore 5, 2) := by decide +kernel
theorem dX8_diary_45 : decode cX8_diary 45 = .ok (.iload 5, 2) := by decide +kernel
theorem dX8_diary_47 : decode cX8_diary 47 = .ok (.aload_n 0, 1) := by decide +kernel
theorem dX8_diary_48 : decode cX8_diary 48 = .ok (.getfield 19, 3) := by decide +kernel
theorem dX8_diary_51 : decode cX8_diary 51 = .ok (.invokevirtual 81, 3) := by decide +kernel
theorem dX8_diary_54 : decode cX8_diary 54 = .ok (.if_icmp .ge 44, 3) := by decide +kernel
theorem dX8_diary_57 : decode cX8_diary 57 = .ok (.aload_n 0, 1) := by decide +kernel
theorem dX8_diary_58 : decode cX8_diary 58 = .ok (.getfield 19, 3) := by decide +kernel
theorem dX8_diary_61 : decode cX8_diary 61 = .ok (.iload 5, 2) := by decide +kernel
theorem dX8_diary_63 : decode cX8_diary 63 = .ok (.invokevirtual 85, 3) := by decide +kernel
theorem dX8_diary_66 : decode cX8_diary 66 = .ok (.checkcast 89, 3) := by decide +kernel
theorem dX8_diary_69 : decode cX8_diary 69 = .ok (.astore 6, 2) := by decide +kernel
theorem dX8_diary_71 : decode cX8_diary 71 = .ok (.aload 6, 2) := by decide +kernel
theorem dX8_diary_73 : decode cX8_diary 73 = .ok (.iload_n 1, 1) := by decide +kernel
theorem dX8_diary_74 : decode cX8_diary 74 = .ok (.iload_n 3, 1) := by decide +kernel
theorem dX8_diary_75 : decode cX8_diary 75 = .ok (.invokevirtual 91, 3) := by decide +kernel
theorem dX8_diary_78 : decode cX8_diary 78 = .ok (.ifCond .eq 14, 3) := by decide +kernel
theorem dX8_diary_81 : decode cX8_diary 81 = .ok (.aload 6, 2) := by decide +kernel
theorem dX8_diary_83 : decode cX8_diary 83 = .ok (.getfield 94, 3) := by decide +kernel
theorem dX8_diary_86 : decode cX8_diary 86 = .ok (.iload_n 2, 1) := by decide +kernel
theorem dX8_diary_87 : decode cX8_diary 87 = .ok (.if_icmp .ne 5, 3) := by decide +kernel
theorem dX8_diary_90 : decode cX8_diary 90 = .ok (.iconst (-1), 1) := by decide +kernel
theorem dX8_diary_91 : decode cX8_diary 91 = .ok (.ireturn, 1) := by decide +kernel
theorem dX8_diary_92 : decode cX8_diary 92 = .ok (.iinc 5 1, 3) := by decide +kernel
theorem dX8_diary_95 : decode cX8_diary 95 = .ok (.goto (-50), 3) := by decide +kernel
theorem dX8_diary_98 : decode cX8_diary 98 = .ok (.aload_n 0, 1) := by decide +kernel
theorem dX8_diary_99 : decode cX8_diary 99 = .ok (.getfield 19, 3) := by decide +kernel
theorem dX8_diary_102 : decode cX8_diary 102 = .ok (.new 89, 3) := by decide +kernel
theorem dX8_diary_105 : decode cX8_diary 105 = .ok (.dup, 1) := by decide +kernel
theorem dX8_diary_106 : decode cX8_diary 106 = .ok (.iload_n 1, 1) := by decide +kernel
theorem dX8_diary_107 : decode cX8_diary 107 = .ok (.iload_n 2, 1) := by decide +kernel
theorem dX8_diary_108 : decode cX8_diary 108 = .ok (.iload_n 3, 1) := by decide +kernel
theorem dX8_diary_109 : decode cX8_diary 109 = .ok (.iload 4, 2) := by decide +kernel
theorem dX8_diary_111 : decode cX8_diary 111 = .ok (.invokespecial 97, 3) := by decide +kernel
theorem dX8_diary_114 : decode cX8_diary 114 = .ok (.invokevirtual 100, 3) := by decide +kernel
theorem dX8_diary_117 : decode cX8_diary 117 = .ok (.pop, 1) := by decide +kernel
theorem dX8_diary_118 : decode cX8_diary 118 = .ok (.aload_n 0, 1) := by decide +kernel
theorem dX8_diary_119 : decode cX8_diary 119 = .ok (.getfield 19, 3) := by decide +kernel
theorem dX8_diary_122 : decode cX8_diary 122 = .ok (.invokevirtual 81, 3) := by decide +kernel
theorem dX8_diary_125 : decode cX8_diary 125 = .ok (.iconst 1, 1) := by decide +kernel
theorem dX8_diary_126 : decode cX8_diary 126 = .ok (.isub, 1) := by decide +kernel
theorem dX8_diary_127 : decode cX8_diary 127 = .ok (.ireturn, 1) := by decide +kernel
theorem dX8_line_0 : decode cX8_line 0 = .ok (.aload_n 0, 1) := by decide +kernel
theorem dX8_line_1 : decode cX8_line 1 = .ok (.iload_n 1, 1) := by decide +kernel
theorem dX8_line_2 : decode cX8_line 2 = .ok (.invokevirtual 104, 3) := by decide +kernel
theorem dX8_line_5 : decode cX8_line 5 = .ok (.astore 8, 2) := by decide +kernel
theorem dX8_line_7 : decode cX8_line 7 = .ok (.aload 8, 2) := by decide +kernel
theorem dX8_line_9 : decode cX8_line 9 = .ok (.ifnull 16, 3) := by decide +kernel
theorem dX8_line_12 : decode cX8_line 12 = .ok (.aload 8, 2) := by decide +kernel
theorem dX8_line_14 : decode cX8_line 14 = .ok (.getfield 108, 3) := by decide +kernel
theorem dX8_line_17 : decode cX8_line 17 = .ok (.invokevirtual 81, 3) := by decide +kernel
theorem dX8_line_20 : decode cX8_line 20 = .ok (.bipush 24, 2) := by decide +kernel
theorem dX8_line_22 : decode cX8_line 22 = .ok (.if_icmp .lt 5, 3) := by decide +kernel
theorem dX8_line_25 : decode cX8_line 25 = .ok (.iconst (-1), 1) := by decide +kernel
theorem dX8_line_26 : decode cX8_line 26 = .ok (.ireturn, 1) := by decide +kernel
theorem dX8_line_27 : decode cX8_line 27 = .ok (.iload_n 2, 1) := by decide +kernel
theorem dX8_line_28 : decode cX8_line 28 = .ok (.iconst 0, 1) := by decide +kernel
theorem dX8_line_29 : decode cX8_line 29 = .ok (.sipush 143, 3) := by decide +kernel
theorem dX8_line_32 : decode cX8_line 32 = .ok (.invokestatic 69, 3) := by decide +kernel
theorem dX8_line_35 : decode cX8_line 35 = .ok (.ifCond .eq 74, 3) := by decide +kernel
theorem dX8_line_38 : decode cX8_line 38 = .ok (.iload_n 3, 1) := by decide +kernel
theorem dX8_line_39 : decode cX8_line 39 = .ok (.iload_n 2, 1) := by decide +kernel
theorem dX8_line_40 : decode cX8_line 40 = .ok (.sipush 143, 3) := by decide +kernel
theorem dX8_line_43 : decode cX8_line 43 = .ok (.invokestatic 69, 3) := by decide +kernel
theorem dX8_line_46 : decode cX8_line 46 = .ok (.ifCond .eq 63, 3) := by decide +kernel
theorem dX8_line_49 : decode cX8_line 49 = .ok (.iload 4, 2) := by decide +kernel
theorem dX8_line_51 : decode cX8_line 51 = .ok (.iconst 1, 1) := by decide +kernel
theorem dX8_line_52 : decode cX8_line 52 = .ok (.sipush 200, 3) := by decide +kernel
theorem dX8_line_55 : decode cX8_line 55 = .ok (.invokestatic 69, 3) := by decide +kernel
theorem dX8_line_58 : decode cX8_line 58 = .ok (.ifCond .eq 51, 3) := by decide +kernel
theorem dX8_line_61 : decode cX8_line 61 = .ok (.iload 5, 2) := by decide +kernel
theorem dX8_line_63 : decode cX8_line 63 = .ok (.iconst 0, 1) := by decide +kernel
theorem dX8_line_64 : decode cX8_line 64 = .ok (.sipush 200, 3) := by decide +kernel
theorem dX8_line_67 : decode cX8_line 67 = .ok (.invokestatic 69, 3) := by decide +kernel
theorem dX8_line_70 : decode cX8_line 70 = .ok (.ifCond .eq 39, 3) := by decide +kernel
theorem dX8_line_73 : decode cX8_line 73 = .ok (.iload 6, 2) := by decide +kernel
theorem dX8_line_75 : decode cX8_line 75 = .ok (.iconst 0, 1) := by decide +kernel
theorem dX8_line_76 : decode cX8_line 76 = .ok (.bipush 9, 2) := by decide +kernel
theorem dX8_line_78 : decode cX8_line 78 = .ok (.invokestatic 69, 3) := by decide +kernel
theorem dX8_line_81 : decode cX8_line 81 = .ok (.ifCond .eq 28, 3) := by decide +kernel
theorem dX8_line_84 : decode cX8_line 84 = .ok (.iload 7, 2) := by decide +kernel
theorem dX8_line_86 : decode cX8_line 86 = .ok (.iconst 0, 1) := by decide +kernel
theorem dX8_line_87 : decode cX8_line 87 = .ok (.sipush 255, 3) := by decide +kernel
theorem dX8_line_90 : decode cX8_line 90 = .ok (.invokestatic 69, 3) := by decide +kernel
theorem dX8_line_93 : decode cX8_line 93 = .ok (.ifCond .eq 16, 3) := by decide +kernel
theorem dX8_line_96 : decode cX8_line 96 = .ok (.iload 7, 2) := by decide +kernel
theorem dX8_line_98 : decode cX8_line 98 = .ok (.aload 8, 2) := by decide +kernel
theorem dX8_line_100 : decode cX8_line 100 = .ok (.getfield 94, 3) := by decide +kernel
theorem dX8_line_103 : decode cX8_line 103 = .ok (.invokestatic 111, 3) := by decide +kernel
theorem dX8_line_106 : decode cX8_line 106 = .ok (.ifCond .eq 5, 3) := by decide +kernel
theorem dX8_line_109 : decode cX8_line 109 = .ok (.iconst (-1), 1) := by decide +kernel
theorem dX8_line_110 : decode cX8_line 110 = .ok (.ireturn, 1) := by decide +kernel
theorem dX8_line_111 : decode cX8_line 111 = .ok (.aload 8, 2) := by decide +kernel
theorem dX8_line_113 : decode cX8_line 113 = .ok (.new 114, 3) := by decide +kernel
theorem dX8_line_116 : decode cX8_line 116 = .ok (.dup, 1) := by decide +kernel
theorem dX8_line_117 : decode cX8_line 117 = .ok (.iload_n 2, 1) := by decide +kernel
theorem dX8_line_118 : decode cX8_line 118 = .ok (.iload_n 3, 1) := by decide +kernel
theorem dX8_line_119 : decode cX8_line 119 = .ok (.iload 4, 2) := by decide +kernel
theorem dX8_line_121 : decode cX8_line 121 = .ok (.iload 5, 2) := by decide +kernel
theorem dX8_line_123 : decode cX8_line 123 = .ok (.iload 6, 2) := by decide +kernel
theorem dX8_line_125 : decode cX8_line 125 = .ok (.iload 7, 2) := by decide +kernel
theorem dX8_line_127 : decode cX8_line 127 = .ok (.invokespecial 116, 3) := by decide +kernel
theorem dX8_line_130 : decode cX8_line 130 = .ok (.invokevirtual 119, 3) := by decide +kernel
theorem dX8_line_133 : decode cX8_line 133 = .ok (.ifCond .ne 5, 3) := by decide +kernel
theorem dX8_line_136 : decode cX8_line 136 = .ok (.iconst (-1), 1) := by decide +kernel
theorem dX8_line_137 : decode cX8_line 137 = .ok (.ireturn, 1) := by decide +kernel
theorem dX8_line_138 : decode cX8_line 138 = .ok (.aload 8, 2) := by decide +kernel
theorem dX8_line_140 : decode cX8_line 140 = .ok (.getfield 108, 3) := by decide +kernel
theorem dX8_line_143 : decode cX8_line 143 = .ok (.invokevirtual 81, 3) := by decide +kernel
theorem dX8_line_146 : decode cX8_line 146 = .ok (.ireturn, 1) := by decide +kernel
theorem dX8_feed_0 : decode cX8_feed 0 = .ok (.aload_n 0, 1) := by decide +kernel
theorem dX8_feed_1 : decode cX8_feed 1 = .ok (.getfield 38, 3) := by decide +kernel
theorem dX8_feed_4 : decode cX8_feed 4 = .ok (.lload_n 1, 1) := by decide +kernel
theorem dX8_feed_5 : decode cX8_feed 5 = .ok (.invokevirtual 123, 3) := by decide +kernel
theorem dX8_feed_8 : decode cX8_feed 8 = .ok (.aload_n 0, 1) := by decide +kernel
theorem dX8_feed_9 : decode cX8_feed 9 = .ok (.getfield 38, 3) := by decide +kernel
theorem dX8_feed_12 : decode cX8_feed 12 = .ok (.lload_n 3, 1) := by decide +kernel
theorem dX8_feed_13 : decode cX8_feed 13 = .ok (.invokevirtual 123, 3) := by decide +kernel
theorem dX8_feed_16 : decode cX8_feed 16 = .ok (.aload_n 0, 1) := by decide +kernel
theorem dX8_feed_17 : decode cX8_feed 17 = .ok (.getfield 38, 3) := by decide +kernel
theorem dX8_feed_20 : decode cX8_feed 20 = .ok (.lload 5, 2) := by decide +kernel
theorem dX8_feed_22 : decode cX8_feed 22 = .ok (.invokevirtual 123, 3) := by decide +kernel
theorem dX8_feed_25 : decode cX8_feed 25 = .ok (.aload_n 0, 1) := by decide +kernel
theorem dX8_feed_26 : decode cX8_feed 26 = .ok (.getfield 38, 3) := by decide +kernel
theorem dX8_feed_29 : decode cX8_feed 29 = .ok (.getfield 127, 3) := by decide +kernel
theorem dX8_feed_32 : decode cX8_feed 32 = .ok (.ireturn, 1) := by decide +kernel
theorem dX8_text_0 : decode cX8_text 0 = .ok (.aload_n 0, 1) := by decide +kernel
theorem dX8_text_1 : decode cX8_text 1 = .ok (.getfield 23, 3) := by decide +kernel
theorem dX8_text_4 : decode cX8_text 4 = .ok (.invokevirtual 81, 3) := by decide +kernel
theorem dX8_text_7 : decode cX8_text 7 = .ok (.bipush 8, 2) := by decide +kernel
theorem dX8_text_9 : decode cX8_text 9 = .ok (.if_icmp .lt 13, 3) := by decide +kernel
theorem dX8_text_12 : decode cX8_text 12 = .ok (.aload_n 0, 1) := by decide +kernel
theorem dX8_text_13 : decode cX8_text 13 = .ok (.getfield 38, 3) := by decide +kernel
theorem dX8_text_16 : decode cX8_text 16 = .ok (.iconst 0, 1) := by decide +kernel
theorem dX8_text_17 : decode cX8_text 17 = .ok (.putfield 127, 3) := by decide +kernel
theorem dX8_text_20 : decode cX8_text 20 = .ok (.iconst (-1), 1) := by decide +kernel
theorem dX8_text_21 : decode cX8_text 21 = .ok (.ireturn, 1) := by decide +kernel
theorem dX8_text_22 : decode cX8_text 22 = .ok (.aload_n 0, 1) := by decide +kernel
theorem dX8_text_23 : decode cX8_text 23 = .ok (.getfield 45, 3) := by decide +kernel
theorem dX8_text_26 : decode cX8_text 26 = .ok (.aload_n 0, 1) := by decide +kernel
theorem dX8_text_27 : decode cX8_text 27 = .ok (.getfield 38, 3) := by decide +kernel
theorem dX8_text_30 : decode cX8_text 30 = .ok (.invokevirtual 129, 3) := by decide +kernel
theorem dX8_text_33 : decode cX8_text 33 = .ok (.istore_n 1, 1) := by decide +kernel
theorem dX8_text_34 : decode cX8_text 34 = .ok (.aload_n 0, 1) := by decide +kernel
theorem dX8_text_35 : decode cX8_text 35 = .ok (.getfield 38, 3) := by decide +kernel
theorem dX8_text_38 : decode cX8_text 38 = .ok (.iconst 0, 1) := by decide +kernel
theorem dX8_text_39 : decode cX8_text 39 = .ok (.putfield 127, 3) := by decide +kernel
theorem dX8_text_42 : decode cX8_text 42 = .ok (.iload_n 1, 1) := by decide +kernel
theorem dX8_text_43 : decode cX8_text 43 = .ok (.ifCond .ne 31, 3) := by decide +kernel
theorem dX8_text_46 : decode cX8_text 46 = .ok (.aload_n 0, 1) := by decide +kernel
theorem dX8_text_47 : decode cX8_text 47 = .ok (.getfield 23, 3) := by decide +kernel
theorem dX8_text_50 : decode cX8_text 50 = .ok (.aload_n 0, 1) := by decide +kernel
theorem dX8_text_51 : decode cX8_text 51 = .ok (.getfield 45, 3) := by decide +kernel
theorem dX8_text_54 : decode cX8_text 54 = .ok (.invokevirtual 133, 3) := by decide +kernel
theorem dX8_text_57 : decode cX8_text 57 = .ok (.invokevirtual 100, 3) := by decide +kernel
theorem dX8_text_60 : decode cX8_text 60 = .ok (.pop, 1) := by decide +kernel
theorem dX8_text_61 : decode cX8_text 61 = .ok (.aload_n 0, 1) := by decide +kernel
theorem dX8_text_62 : decode cX8_text 62 = .ok (.aload_n 0, 1) := by decide +kernel
theorem dX8_text_63 : decode cX8_text 63 = .ok (.getfield 23, 3) := by decide +kernel
theorem dX8_text_66 : decode cX8_text 66 = .ok (.invokevirtual 81, 3) := by decide +kernel
theorem dX8_text_69 : decode cX8_text 69 = .ok (.iconst 1, 1) := by decide +kernel
theorem dX8_text_70 : decode cX8_text 70 = .ok (.isub, 1) := by decide +kernel
theorem dX8_text_71 : decode cX8_text 71 = .ok (.invokevirtual 137, 3) := by decide +kernel
theorem dX8_text_74 : decode cX8_text 74 = .ok (.iload_n 1, 1) := by decide +kernel
theorem dX8_text_75 : decode cX8_text 75 = .ok (.ireturn, 1) := by decide +kernel
theorem dX8_choose_0 : decode cX8_choose 0 = .ok (.iload_n 1, 1) := by decide +kernel
theorem dX8_choose_1 : decode cX8_choose 1 = .ok (.iconst (-1), 1) := by decide +kernel
theorem dX8_choose_2 : decode cX8_choose 2 = .ok (.if_icmp .eq 22, 3) := by decide +kernel
theorem dX8_choose_5 : decode cX8_choose 5 = .ok (.iload_n 1, 1) := by decide +kernel
theorem dX8_choose_6 : decode cX8_choose 6 = .ok (.iconst 0, 1) := by decide +kernel
theorem dX8_choose_7 : decode cX8_choose 7 = .ok (.aload_n 0, 1) := by decide +kernel
theorem dX8_choose_8 : decode cX8_choose 8 = .ok (.getfield 23, 3) := by decide +kernel
theorem dX8_choose_11 : decode cX8_choose 11 = .ok (.invokevirtual 81, 3) := by decide +kernel
theorem dX8_choose_14 : decode cX8_choose 14 = .ok (.iconst 1, 1) := by decide +kernel
theorem dX8_choose_15 : decode cX8_choose 15 = .ok (.isub, 1) := by decide +kernel
theorem dX8_choose_16 : decode cX8_choose 16 = .ok (.invokestatic 69, 3) := by decide +kernel
theorem dX8_choose_19 : decode cX8_choose 19 = .ok (.ifCond .ne 5, 3) := by decide +kernel
theorem dX8_choose_22 : decode cX8_choose 22 = .ok (.iconst 0, 1) := by decide +kernel
theorem dX8_choose_23 : decode cX8_choose 23 = .ok (.ireturn, 1) := by decide +kernel
theorem dX8_choose_24 : decode cX8_choose 24 = .ok (.aload_n 0, 1) := by decide +kernel
theorem dX8_choose_25 : decode cX8_choose 25 = .ok (.iload_n 1, 1) := by decide +kernel
theorem dX8_choose_26 : decode cX8_choose 26 = .ok (.invokevirtual 137, 3) := by decide +kernel
theorem dX8_choose_29 : decode cX8_choose 29 = .ok (.iconst 1, 1) := by decide +kernel
theorem dX8_choose_30 : decode cX8_choose 30 = .ok (.ireturn, 1) := by decide +kernel
theorem dX8_code_0 : decode cX8_code 0 = .ok (.aload_n 0, 1) := by decide +kernel
theorem dX8_code_1 : decode cX8_code 1 = .ok (.iload_n 1, 1) := by decide +kernel
theorem dX8_code_2 : decode cX8_code 2 = .ok (.invokevirtual 141, 3) := by decide +kernel
theorem dX8_code_5 : decode cX8_code 5 = .ok (.astore_n 3, 1) := by decide +kernel
theorem dX8_code_6 : decode cX8_code 6 = .ok (.aload_n 3, 1) := by decide +kernel
theorem dX8_code_7 : decode cX8_code 7 = .ok (.ifnull 20, 3) := by decide +kernel
theorem dX8_code_10 : decode cX8_code 10 = .ok (.iload_n 2, 1) := by decide +kernel
theorem dX8_code_11 : decode cX8_code 11 = .ok (.iconst 0, 1) := by decide +kernel
theorem dX8_code_12 : decode cX8_code 12 = .ok (.aload_n 3, 1) := by decide +kernel
theorem dX8_code_13 : decode cX8_code 13 = .ok (.getfield 108, 3) := by decide +kernel
theorem dX8_code_16 : decode cX8_code 16 = .ok (.invokevirtual 81, 3) := by decide +kernel
theorem dX8_code_19 : decode cX8_code 19 = .ok (.iconst 1, 1) := by decide +kernel
theorem dX8_code_20 : decode cX8_code 20 = .ok (.isub, 1) := by decide +kernel
theorem dX8_code_21 : decode cX8_code 21 = .ok (.invokestatic 69, 3) := by decide +kernel
theorem dX8_code_24 : decode cX8_code 24 = .ok (.ifCond .ne 6, 3) := by decide +kernel
theorem dX8_code_27 : decode cX8_code 27 = .ok (.bipush (-2), 2) := by decide +kernel
theorem dX8_code_29 : decode cX8_code 29 = .ok (.ireturn, 1) := by decide +kernel
theorem dX8_code_30 : decode cX8_code 30 = .ok (.aload_n 3, 1) := by decide +kernel
theorem dX8_code_31 : decode cX8_code 31 = .ok (.getfield 108, 3) := by decide +kernel
theorem dX8_code_34 : decode cX8_code 34 = .ok (.iload_n 2, 1) := by decide +kernel
theorem dX8_code_35 : decode cX8_code 35 = .ok (.invokevirtual 85, 3) := by decide +kernel
theorem dX8_code_38 : decode cX8_code 38 = .ok (.checkcast 114, 3) := by decide +kernel
theorem dX8_code_41 : decode cX8_code 41 = .ok (.getfield 144, 3) := by decide +kernel
theorem dX8_code_44 : decode cX8_code 44 = .ok (.ireturn, 1) := by decide +kernel
theorem dX8_look_0 : decode cX8_look 0 = .ok (.aload_n 0, 1) := by decide +kernel
theorem dX8_look_1 : decode cX8_look 1 = .ok (.iload_n 1, 1) := by decide +kernel
theorem dX8_look_2 : decode cX8_look 2 = .ok (.invokevirtual 104, 3) := by decide +kernel
theorem dX8_look_5 : decode cX8_look 5 = .ok (.astore 4, 2) := by decide +kernel
theorem dX8_look_7 : decode cX8_look 7 = .ok (.aload 4, 2) := by decide +kernel
theorem dX8_look_9 : decode cX8_look 9 = .ok (.ifnull 21, 3) := by decide +kernel
theorem dX8_look_12 : decode cX8_look 12 = .ok (.iload_n 2, 1) := by decide +kernel
theorem dX8_look_13 : decode cX8_look 13 = .ok (.iconst 0, 1) := by decide +kernel
theorem dX8_look_14 : decode cX8_look 14 = .ok (.aload 4, 2) := by decide +kernel
theorem dX8_look_16 : decode cX8_look 16 = .ok (.getfield 108, 3) := by decide +kernel
theorem dX8_look_19 : decode cX8_look 19 = .ok (.invokevirtual 81, 3) := by decide +kernel
theorem dX8_look_22 : decode cX8_look 22 = .ok (.iconst 1, 1) := by decide +kernel
theorem dX8_look_23 : decode cX8_look 23 = .ok (.isub, 1) := by decide +kernel
theorem dX8_look_24 : decode cX8_look 24 = .ok (.invokestatic 69, 3) := by decide +kernel
theorem dX8_look_27 : decode cX8_look 27 = .ok (.ifCond .ne 13, 3) := by decide +kernel
theorem dX8_look_30 : decode cX8_look 30 = .ok (.new 147, 3) := by decide +kernel
theorem dX8_look_33 : decode cX8_look 33 = .ok (.dup, 1) := by decide +kernel
theorem dX8_look_34 : decode cX8_look 34 = .ok (.ldc 149, 2) := by decide +kernel
theorem dX8_look_36 : decode cX8_look 36 = .ok (.invokespecial 151, 3) := by decide +kernel
theorem dX8_look_39 : decode cX8_look 39 = .ok (.athrow, 1) := by decide +kernel
theorem dX8_look_40 : decode cX8_look 40 = .ok (.aload 4, 2) := by decide +kernel
theorem dX8_look_42 : decode cX8_look 42 = .ok (.getfield 108, 3) := by decide +kernel
theorem dX8_look_45 : decode cX8_look 45 = .ok (.iload_n 2, 1) := by decide +kernel
theorem dX8_look_46 : decode cX8_look 46 = .ok (.invokevirtual 85, 3) := by decide +kernel
theorem dX8_look_49 : decode cX8_look 49 = .ok (.checkcast 114, 3) := by decide +kernel
theorem dX8_look_52 : decode cX8_look 52 = .ok (.astore 5, 2) := by decide +kernel
theorem dX8_look_54 : decode cX8_look 54 = .ok (.iload_n 3, 1) := by decide +kernel
theorem dX8_look_55 : decode cX8_look 55 = .ok (.tableswitch 73 0 5 #[37, 43, 49, 55, 61, 67], 37) := by decide +kernel
theorem dX8_look_92 : decode cX8_look 92 = .ok (.aload 5, 2) := by decide +kernel
theorem dX8_look_94 : decode cX8_look 94 = .ok (.getfield 154, 3) := by decide +kernel
theorem dX8_look_97 : decode cX8_look 97 = .ok (.ireturn, 1) := by decide +kernel
theorem dX8_look_98 : decode cX8_look 98 = .ok (.aload 5, 2) := by decide +kernel
theorem dX8_look_100 : decode cX8_look 100 = .ok (.getfield 157, 3) := by decide +kernel
theorem dX8_look_103 : decode cX8_look 103 = .ok (.ireturn, 1) := by decide +kernel
theorem dX8_look_104 : decode cX8_look 104 = .ok (.aload 5, 2) := by decide +kernel
theorem dX8_look_106 : decode cX8_look 106 = .ok (.getfield 160, 3) := by decide +kernel
theorem dX8_look_109 : decode cX8_look 109 = .ok (.ireturn, 1) := by decide +kernel
theorem dX8_look_110 : decode cX8_look 110 = .ok (.aload 5, 2) := by decide +kernel
theorem dX8_look_112 : decode cX8_look 112 = .ok (.getfield 163, 3) := by decide +kernel
theorem dX8_look_115 : decode cX8_look 115 = .ok (.ireturn, 1) := by decide +kernel
theorem dX8_look_116 : decode cX8_look 116 = .ok (.aload 5, 2) := by decide +kernel
theorem dX8_look_118 : decode cX8_look 118 = .ok (.getfield 166, 3) := by decide +kernel
theorem dX8_look_121 : decode cX8_look 121 = .ok (.ireturn, 1) := by decide +kernel
theorem dX8_look_122 : decode cX8_look 122 = .ok (.aload 5, 2) := by decide +kernel
theorem dX8_look_124 : decode cX8_look 124 = .ok (.getfield 169, 3) := by decide +kernel
theorem dX8_look_127 : decode cX8_look 127 = .ok (.ireturn, 1) := by decide +kernel
theorem dX8_look_128 : decode cX8_look 128 = .ok (.new 147, 3) := by decide +kernel
theorem dX8_look_131 : decode cX8_look 131 = .ok (.dup, 1) := by decide +kernel
theorem dX8_look_132 : decode cX8_look 132 = .ok (.ldc 172, 2) := by decide +kernel
theorem dX8_look_134 : decode cX8_look 134 = .ok (.invokespecial 151, 3) := by decide +kernel
theorem dX8_look_137 : decode cX8_look 137 = .ok (.athrow, 1) := by decide +kernel
theorem dX8_ten_0 : decode cX8_ten 0 = .ok (.aload_n 0, 1) := by decide +kernel
theorem dX8_ten_1 : decode cX8_ten 1 = .ok (.iload_n 1, 1) := by decide +kernel
theorem dX8_ten_2 : decode cX8_ten 2 = .ok (.invokevirtual 141, 3) := by decide +kernel
theorem dX8_ten_5 : decode cX8_ten 5 = .ok (.astore_n 3, 1) := by decide +kernel
theorem dX8_ten_6 : decode cX8_ten 6 = .ok (.aload_n 3, 1) := by decide +kernel
theorem dX8_ten_7 : decode cX8_ten 7 = .ok (.ifnull 14, 3) := by decide +kernel
theorem dX8_ten_10 : decode cX8_ten 10 = .ok (.iload_n 2, 1) := by decide +kernel
theorem dX8_ten_11 : decode cX8_ten 11 = .ok (.iconst 0, 1) := by decide +kernel
theorem dX8_ten_12 : decode cX8_ten 12 = .ok (.sipush 143, 3) := by decide +kernel
theorem dX8_ten_15 : decode cX8_ten 15 = .ok (.invokestatic 69, 3) := by decide +kernel
theorem dX8_ten_18 : decode cX8_ten 18 = .ok (.ifCond .ne 6, 3) := by decide +kernel
theorem dX8_ten_21 : decode cX8_ten 21 = .ok (.bipush (-3), 2) := by decide +kernel
theorem dX8_ten_23 : decode cX8_ten 23 = .ok (.ireturn, 1) := by decide +kernel
theorem dX8_ten_24 : decode cX8_ten 24 = .ok (.iconst 0, 1) := by decide +kernel
theorem dX8_ten_25 : decode cX8_ten 25 = .ok (.istore 4, 2) := by decide +kernel
theorem dX8_ten_27 : decode cX8_ten 27 = .ok (.iload 4, 2) := by decide +kernel
theorem dX8_ten_29 : decode cX8_ten 29 = .ok (.aload_n 3, 1) := by decide +kernel
theorem dX8_ten_30 : decode cX8_ten 30 = .ok (.getfield 108, 3) := by decide +kernel
theorem dX8_ten_33 : decode cX8_ten 33 = .ok (.invokevirtual 81, 3) := by decide +kernel
theorem dX8_ten_36 : decode cX8_ten 36 = .ok (.if_icmp .ge 69, 3) := by decide +kernel
theorem dX8_ten_39 : decode cX8_ten 39 = .ok (.aload_n 3, 1) := by decide +kernel
theorem dX8_ten_40 : decode cX8_ten 40 = .ok (.getfield 108, 3) := by decide +kernel
theorem dX8_ten_43 : decode cX8_ten 43 = .ok (.iload 4, 2) := by decide +kernel
theorem dX8_ten_45 : decode cX8_ten 45 = .ok (.invokevirtual 85, 3) := by decide +kernel
theorem dX8_ten_48 : decode cX8_ten 48 = .ok (.checkcast 114, 3) := by decide +kernel
theorem dX8_ten_51 : decode cX8_ten 51 = .ok (.astore 5, 2) := by decide +kernel
theorem dX8_ten_53 : decode cX8_ten 53 = .ok (.iload_n 2, 1) := by decide +kernel
theorem dX8_ten_54 : decode cX8_ten 54 = .ok (.aload 5, 2) := by decide +kernel
theorem dX8_ten_56 : decode cX8_ten 56 = .ok (.getfield 154, 3) := by decide +kernel
theorem dX8_ten_59 : decode cX8_ten 59 = .ok (.if_icmp .ge 25, 3) := by decide +kernel
theorem dX8_ten_62 : decode cX8_ten 62 = .ok (.aload 5, 2) := by decide +kernel
theorem dX8_ten_64 : decode cX8_ten 64 = .ok (.getfield 174, 3) := by decide +kernel
theorem dX8_ten_67 : decode cX8_ten 67 = .ok (.ifCond .le 14, 3) := by decide +kernel
theorem dX8_ten_70 : decode cX8_ten 70 = .ok (.bipush 100, 2) := by decide +kernel
theorem dX8_ten_72 : decode cX8_ten 72 = .ok (.aload 5, 2) := by decide +kernel
theorem dX8_ten_74 : decode cX8_ten 74 = .ok (.getfield 144, 3) := by decide +kernel
theorem dX8_ten_77 : decode cX8_ten 77 = .ok (.iadd, 1) := by decide +kernel
theorem dX8_ten_78 : decode cX8_ten 78 = .ok (.goto 5, 3) := by decide +kernel
theorem dX8_ten_81 : decode cX8_ten 81 = .ok (.bipush (-2), 2) := by decide +kernel
theorem dX8_ten_83 : decode cX8_ten 83 = .ok (.ireturn, 1) := by decide +kernel
theorem dX8_ten_84 : decode cX8_ten 84 = .ok (.iload_n 2, 1) := by decide +kernel
theorem dX8_ten_85 : decode cX8_ten 85 = .ok (.aload 5, 2) := by decide +kernel
theorem dX8_ten_87 : decode cX8_ten 87 = .ok (.getfield 157, 3) := by decide +kernel
theorem dX8_ten_90 : decode cX8_ten 90 = .ok (.if_icmp .gt 9, 3) := by decide +kernel
theorem dX8_ten_93 : decode cX8_ten 93 = .ok (.aload 5, 2) := by decide +kernel
theorem dX8_ten_95 : decode cX8_ten 95 = .ok (.getfield 144, 3) := by decide +kernel
theorem dX8_ten_98 : decode cX8_ten 98 = .ok (.ireturn, 1) := by decide +kernel
theorem dX8_ten_99 : decode cX8_ten 99 = .ok (.iinc 4 1, 3) := by decide +kernel
theorem dX8_ten_102 : decode cX8_ten 102 = .ok (.goto (-75), 3) := by decide +kernel
theorem dX8_ten_105 : decode cX8_ten 105 = .ok (.bipush (-2), 2) := by decide +kernel
theorem dX8_ten_107 : decode cX8_ten 107 = .ok (.ireturn, 1) := by decide +kernel
theorem dX8_known_0 : decode cX8_known 0 = .ok (.iload_n 1, 1) := by decide +kernel
theorem dX8_known_1 : decode cX8_known 1 = .ok (.iconst 0, 1) := by decide +kernel
theorem dX8_known_2 : decode cX8_known 2 = .ok (.iconst 4, 1) := by decide +kernel
theorem dX8_known_3 : decode cX8_known 3 = .ok (.invokestatic 69, 3) := by decide +kernel
theorem dX8_known_6 : decode cX8_known 6 = .ok (.ifCond .eq 13, 3) := by decide +kernel
theorem dX8_known_9 : decode cX8_known 9 = .ok (.iload_n 2, 1) := by decide +kernel
theorem dX8_known_10 : decode cX8_known 10 = .ok (.iconst 1, 1) := by decide +kernel
theorem dX8_known_11 : decode cX8_known 11 = .ok (.ldc 177, 2) := by decide +kernel
theorem dX8_known_13 : decode cX8_known 13 = .ok (.invokestatic 69, 3) := by decide +kernel
theorem dX8_known_16 : decode cX8_known 16 = .ok (.ifCond .ne 5, 3) := by decide +kernel
theorem dX8_known_19 : decode cX8_known 19 = .ok (.iconst 0, 1) := by decide +kernel
theorem dX8_known_20 : decode cX8_known 20 = .ok (.ireturn, 1) := by decide +kernel
theorem dX8_known_21 : decode cX8_known 21 = .ok (.aload_n 0, 1) := by decide +kernel
theorem dX8_known_22 : decode cX8_known 22 = .ok (.getfield 58, 3) := by decide +kernel
theorem dX8_known_25 : decode cX8_known 25 = .ok (.iload_n 1, 1) := by decide +kernel
theorem dX8_known_26 : decode cX8_known 26 = .ok (.iload_n 2, 1) := by decide +kernel
theorem dX8_known_27 : decode cX8_known 27 = .ok (.iastore, 1) := by decide +kernel
theorem dX8_known_28 : decode cX8_known 28 = .ok (.iconst 1, 1) := by decide +kernel
theorem dX8_known_29 : decode cX8_known 29 = .ok (.ireturn, 1) := by decide +kernel
theorem dX8_rounds_0 : decode cX8_rounds 0 = .ok (.iload_n 1, 1) := by decide +kernel
theorem dX8_rounds_1 : decode cX8_rounds 1 = .ok (.iconst 0, 1) := by decide +kernel
theorem dX8_rounds_2 : decode cX8_rounds 2 = .ok (.bipush 20, 2) := by decide +kernel
theorem dX8_rounds_4 : decode cX8_rounds 4 = .ok (.invokestatic 69, 3) := by decide +kernel
theorem dX8_rounds_7 : decode cX8_rounds 7 = .ok (.ifCond .ne 5, 3) := by decide +kernel
theorem dX8_rounds_10 : decode cX8_rounds 10 = .ok (.iconst (-1), 1) := by decide +kernel
theorem dX8_rounds_11 : decode cX8_rounds 11 = .ok (.ireturn, 1) := by decide +kernel
theorem dX8_rounds_12 : decode cX8_rounds 12 = .ok (.iconst 0, 1) := by decide +kernel
theorem dX8_rounds_13 : decode cX8_rounds 13 = .ok (.istore_n 2, 1) := by decide +kernel
theorem dX8_rounds_14 : decode cX8_rounds 14 = .ok (.iload_n 2, 1) := by decide +kernel
theorem dX8_rounds_15 : decode cX8_rounds 15 = .ok (.iload_n 1, 1) := by decide +kernel
theorem dX8_rounds_16 : decode cX8_rounds 16 = .ok (.if_icmp .ge 27, 3) := by decide +kernel
theorem dX8_rounds_19 : decode cX8_rounds 19 = .ok (.iconst 0, 1) := by decide +kernel
theorem dX8_rounds_20 : decode cX8_rounds 20 = .ok (.istore_n 3, 1) := by decide +kernel
theorem dX8_rounds_21 : decode cX8_rounds 21 = .ok (.iload_n 3, 1) := by decide +kernel
theorem dX8_rounds_22 : decode cX8_rounds 22 = .ok (.iconst 5, 1) := by decide +kernel
theorem dX8_rounds_23 : decode cX8_rounds 23 = .ok (.if_icmp .ge 14, 3) := by decide +kernel
theorem dX8_rounds_26 : decode cX8_rounds 26 = .ok (.aload_n 0, 1) := by decide +kernel
theorem dX8_rounds_27 : decode cX8_rounds 27 = .ok (.iload_n 3, 1) := by decide +kernel
theorem dX8_rounds_28 : decode cX8_rounds 28 = .ok (.invokevirtual 178, 3) := by decide +kernel
theorem dX8_rounds_31 : decode cX8_rounds 31 = .ok (.iinc 3 1, 3) := by decide +kernel
theorem dX8_rounds_34 : decode cX8_rounds 34 = .ok (.goto (-13), 3) := by decide +kernel
theorem dX8_rounds_37 : decode cX8_rounds 37 = .ok (.iinc 2 1, 3) := by decide +kernel
theorem dX8_rounds_40 : decode cX8_rounds 40 = .ok (.goto (-26), 3) := by decide +kernel
theorem dX8_rounds_43 : decode cX8_rounds 43 = .ok (.aload_n 0, 1) := by decide +kernel
theorem dX8_rounds_44 : decode cX8_rounds 44 = .ok (.invokevirtual 181, 3) := by decide +kernel
theorem dX8_rounds_47 : decode cX8_rounds 47 = .ok (.ireturn, 1) := by decide +kernel
theorem dX8_weight_0 : decode cX8_weight 0 = .ok (.aload_n 0, 1) := by decide +kernel
theorem dX8_weight_1 : decode cX8_weight 1 = .ok (.iload_n 1, 1) := by decide +kernel
theorem dX8_weight_2 : decode cX8_weight 2 = .ok (.invokevirtual 104, 3) := by decide +kernel
theorem dX8_weight_5 : decode cX8_weight 5 = .ok (.astore_n 2, 1) := by decide +kernel
theorem dX8_weight_6 : decode cX8_weight 6 = .ok (.aload_n 2, 1) := by decide +kernel
theorem dX8_weight_7 : decode cX8_weight 7 = .ok (.ifnonnull 7, 3) := by decide +kernel
theorem dX8_weight_10 : decode cX8_weight 10 = .ok (.iconst (-1), 1) := by decide +kernel
theorem dX8_weight_11 : decode cX8_weight 11 = .ok (.goto 7, 3) := by decide +kernel
theorem dX8_weight_14 : decode cX8_weight 14 = .ok (.aload_n 2, 1) := by decide +kernel
theorem dX8_weight_15 : decode cX8_weight 15 = .ok (.getfield 184, 3) := by decide +kernel
theorem dX8_weight_18 : decode cX8_weight 18 = .ok (.ireturn, 1) := by decide +kernel
theorem dX8_cell_0 : decode cX8_cell 0 = .ok (.iload_n 1, 1) := by decide +kernel
theorem dX8_cell_1 : decode cX8_cell 1 = .ok (.iconst 0, 1) := by decide +kernel
theorem dX8_cell_2 : decode cX8_cell 2 = .ok (.bipush 49, 2) := by decide +kernel
theorem dX8_cell_4 : decode cX8_cell 4 = .ok (.invokestatic 69, 3) := by decide +kernel
theorem dX8_cell_7 : decode cX8_cell 7 = .ok (.ifCond .eq 12, 3) := by decide +kernel
theorem dX8_cell_10 : decode cX8_cell 10 = .ok (.iload_n 2, 1) := by decide +kernel
theorem dX8_cell_11 : decode cX8_cell 11 = .ok (.iconst 0, 1) := by decide +kernel
theorem dX8_cell_12 : decode cX8_cell 12 = .ok (.iconst 3, 1) := by decide +kernel
theorem dX8_cell_13 : decode cX8_cell 13 = .ok (.invokestatic 69, 3) := by decide +kernel
theorem dX8_cell_16 : decode cX8_cell 16 = .ok (.ifCond .ne 5, 3) := by decide +kernel
theorem dX8_cell_19 : decode cX8_cell 19 = .ok (.iconst (-1), 1) := by decide +kernel
theorem dX8_cell_20 : decode cX8_cell 20 = .ok (.ireturn, 1) := by decide +kernel
theorem dX8_cell_21 : decode cX8_cell 21 = .ok (.aload_n 0, 1) := by decide +kernel
theorem dX8_cell_22 : decode cX8_cell 22 = .ok (.invokevirtual 187, 3) := by decide +kernel
theorem dX8_cell_25 : decode cX8_cell 25 = .ok (.lconst 0, 1) := by decide +kernel
theorem dX8_cell_26 : decode cX8_cell 26 = .ok (.lstore 4, 2) := by decide +kernel
theorem dX8_cell_28 : decode cX8_cell 28 = .ok (.iconst 0, 1) := by decide +kernel
theorem dX8_cell_29 : decode cX8_cell 29 = .ok (.istore 6, 2) := by decide +kernel
theorem dX8_cell_31 : decode cX8_cell 31 = .ok (.iload 6, 2) := by decide +kernel
theorem dX8_cell_33 : decode cX8_cell 33 = .ok (.aload_n 0, 1) := by decide +kernel
theorem dX8_cell_34 : decode cX8_cell 34 = .ok (.getfield 19, 3) := by decide +kernel
theorem dX8_cell_37 : decode cX8_cell 37 = .ok (.invokevirtual 81, 3) := by decide +kernel
theorem dX8_cell_40 : decode cX8_cell 40 = .ok (.if_icmp .ge 56, 3) := by decide +kernel
theorem dX8_cell_43 : decode cX8_cell 43 = .ok (.aload_n 0, 1) := by decide +kernel
theorem dX8_cell_44 : decode cX8_cell 44 = .ok (.getfield 19, 3) := by decide +kernel
theorem dX8_cell_47 : decode cX8_cell 47 = .ok (.iload 6, 2) := by decide +kernel
theorem dX8_cell_49 : decode cX8_cell 49 = .ok (.invokevirtual 85, 3) := by decide +kernel
theorem dX8_cell_52 : decode cX8_cell 52 = .ok (.checkcast 89, 3) := by decide +kernel
theorem dX8_cell_55 : decode cX8_cell 55 = .ok (.astore 7, 2) := by decide +kernel
theorem dX8_cell_57 : decode cX8_cell 57 = .ok (.aload 7, 2) := by decide +kernel
theorem dX8_cell_59 : decode cX8_cell 59 = .ok (.iload_n 1, 1) := by decide +kernel
theorem dX8_cell_60 : decode cX8_cell 60 = .ok (.iload_n 2, 1) := by decide +kernel
theorem dX8_cell_61 : decode cX8_cell 61 = .ok (.invokevirtual 190, 3) := by decide +kernel
theorem dX8_cell_64 : decode cX8_cell 64 = .ok (.i2l, 1) := by decide +kernel
theorem dX8_cell_65 : decode cX8_cell 65 = .ok (.lstore 8, 2) := by decide +kernel
theorem dX8_cell_67 : decode cX8_cell 67 = .ok (.lload 4, 2) := by decide +kernel
theorem dX8_cell_69 : decode cX8_cell 69 = .ok (.iload_n 3, 1) := by decide +kernel
theorem dX8_cell_70 : decode cX8_cell 70 = .ok (.ifCond .eq 15, 3) := by decide +kernel
theorem dX8_cell_73 : decode cX8_cell 73 = .ok (.lload 8, 2) := by decide +kernel
theorem dX8_cell_75 : decode cX8_cell 75 = .ok (.aload 7, 2) := by decide +kernel
theorem dX8_cell_77 : decode cX8_cell 77 = .ok (.getfield 184, 3) := by decide +kernel
theorem dX8_cell_80 : decode cX8_cell 80 = .ok (.i2l, 1) := by decide +kernel
theorem dX8_cell_81 : decode cX8_cell 81 = .ok (.lmul, 1) := by decide +kernel
theorem dX8_cell_82 : decode cX8_cell 82 = .ok (.goto 5, 3) := by decide +kernel
theorem dX8_cell_85 : decode cX8_cell 85 = .ok (.lload 8, 2) := by decide +kernel
theorem dX8_cell_87 : decode cX8_cell 87 = .ok (.ladd, 1) := by decide +kernel
theorem dX8_cell_88 : decode cX8_cell 88 = .ok (.lstore 4, 2) := by decide +kernel
theorem dX8_cell_90 : decode cX8_cell 90 = .ok (.iinc 6 1, 3) := by decide +kernel
theorem dX8_cell_93 : decode cX8_cell 93 = .ok (.goto (-62), 3) := by decide +kernel
theorem dX8_cell_96 : decode cX8_cell 96 = .ok (.iload_n 3, 1) := by decide +kernel
theorem dX8_cell_97 : decode cX8_cell 97 = .ok (.ifCond .eq 12, 3) := by decide +kernel
theorem dX8_cell_100 : decode cX8_cell 100 = .ok (.lload 4, 2) := by decide +kernel
theorem dX8_cell_102 : decode cX8_cell 102 = .ok (.ldc2_w 194, 3) := by decide +kernel
theorem dX8_cell_105 : decode cX8_cell 105 = .ok (.ldiv, 1) := by decide +kernel
theorem dX8_cell_106 : decode cX8_cell 106 = .ok (.goto 5, 3) := by decide +kernel
theorem dX8_cell_109 : decode cX8_cell 109 = .ok (.lload 4, 2) := by decide +kernel
theorem dX8_cell_111 : decode cX8_cell 111 = .ok (.l2i, 1) := by decide +kernel
theorem dX8_cell_112 : decode cX8_cell 112 = .ok (.ireturn, 1) := by decide +kernel
theorem dX8_lead_0 : decode cX8_lead 0 = .ok (.iload_n 1, 1) := by decide +kernel
theorem dX8_lead_1 : decode cX8_lead 1 = .ok (.iconst 0, 1) := by decide +kernel
theorem dX8_lead_2 : decode cX8_lead 2 = .ok (.bipush 49, 2) := by decide +kernel
theorem dX8_lead_4 : decode cX8_lead 4 = .ok (.invokestatic 69, 3) := by decide +kernel
theorem dX8_lead_7 : decode cX8_lead 7 = .ok (.ifCond .eq 16, 3) := by decide +kernel
theorem dX8_lead_10 : decode cX8_lead 10 = .ok (.iload_n 2, 1) := by decide +kernel
theorem dX8_lead_11 : decode cX8_lead 11 = .ok (.iconst 0, 1) := by decide +kernel
theorem dX8_lead_12 : decode cX8_lead 12 = .ok (.iconst 2, 1) := by decide +kernel
theorem dX8_lead_13 : decode cX8_lead 13 = .ok (.invokestatic 69, 3) := by decide +kernel
theorem dX8_lead_16 : decode cX8_lead 16 = .ok (.ifCond .eq 7, 3) := by decide +kernel
theorem dX8_lead_19 : decode cX8_lead 19 = .ok (.iload_n 3, 1) := by decide +kernel
theorem dX8_lead_20 : decode cX8_lead 20 = .ok (.ifCond .ge 5, 3) := by decide +kernel
theorem dX8_lead_23 : decode cX8_lead 23 = .ok (.iconst (-1), 1) := by decide +kernel
theorem dX8_lead_24 : decode cX8_lead 24 = .ok (.ireturn, 1) := by decide +kernel
theorem dX8_lead_25 : decode cX8_lead 25 = .ok (.aload_n 0, 1) := by decide +kernel
theorem dX8_lead_26 : decode cX8_lead 26 = .ok (.invokevirtual 187, 3) := by decide +kernel
theorem dX8_lead_29 : decode cX8_lead 29 = .ok (.iload_n 3, 1) := by decide +kernel
theorem dX8_lead_30 : decode cX8_lead 30 = .ok (.istore 4, 2) := by decide +kernel
theorem dX8_lead_32 : decode cX8_lead 32 = .ok (.iconst 0, 1) := by decide +kernel
theorem dX8_lead_33 : decode cX8_lead 33 = .ok (.istore 5, 2) := by decide +kernel
theorem dX8_lead_35 : decode cX8_lead 35 = .ok (.iload 5, 2) := by decide +kernel
theorem dX8_lead_37 : decode cX8_lead 37 = .ok (.aload_n 0, 1) := by decide +kernel
theorem dX8_lead_38 : decode cX8_lead 38 = .ok (.getfield 19, 3) := by decide +kernel
theorem dX8_lead_41 : decode cX8_lead 41 = .ok (.invokevirtual 81, 3) := by decide +kernel
theorem dX8_lead_44 : decode cX8_lead 44 = .ok (.if_icmp .ge 86, 3) := by decide +kernel
theorem dX8_lead_47 : decode cX8_lead 47 = .ok (.aload_n 0, 1) := by decide +kernel
theorem dX8_lead_48 : decode cX8_lead 48 = .ok (.getfield 19, 3) := by decide +kernel
theorem dX8_lead_51 : decode cX8_lead 51 = .ok (.iload 5, 2) := by decide +kernel
theorem dX8_lead_53 : decode cX8_lead 53 = .ok (.invokevirtual 85, 3) := by decide +kernel
theorem dX8_lead_56 : decode cX8_lead 56 = .ok (.checkcast 89, 3) := by decide +kernel
theorem dX8_lead_59 : decode cX8_lead 59 = .ok (.astore 6, 2) := by decide +kernel
theorem dX8_lead_61 : decode cX8_lead 61 = .ok (.iconst 0, 1) := by decide +kernel
theorem dX8_lead_62 : decode cX8_lead 62 = .ok (.istore 7, 2) := by decide +kernel
theorem dX8_lead_64 : decode cX8_lead 64 = .ok (.iload 7, 2) := by decide +kernel
theorem dX8_lead_66 : decode cX8_lead 66 = .ok (.aload 6, 2) := by decide +kernel
theorem dX8_lead_68 : decode cX8_lead 68 = .ok (.getfield 108, 3) := by decide +kernel
theorem dX8_lead_71 : decode cX8_lead 71 = .ok (.invokevirtual 81, 3) := by decide +kernel
theorem dX8_lead_74 : decode cX8_lead 74 = .ok (.if_icmp .ge 50, 3) := by decide +kernel
theorem dX8_lead_77 : decode cX8_lead 77 = .ok (.aload 6, 2) := by decide +kernel
theorem dX8_lead_79 : decode cX8_lead 79 = .ok (.getfield 108, 3) := by decide +kernel
theorem dX8_lead_82 : decode cX8_lead 82 = .ok (.iload 7, 2) := by decide +kernel
theorem dX8_lead_84 : decode cX8_lead 84 = .ok (.invokevirtual 85, 3) := by decide +kernel
theorem dX8_lead_87 : decode cX8_lead 87 = .ok (.checkcast 114, 3) := by decide +kernel
theorem dX8_lead_90 : decode cX8_lead 90 = .ok (.iload_n 1, 1) := by decide +kernel
theorem dX8_lead_91 : decode cX8_lead 91 = .ok (.iload_n 2, 1) := by decide +kernel
theorem dX8_lead_92 : decode cX8_lead 92 = .ok (.invokevirtual 196, 3) := by decide +kernel
theorem dX8_lead_95 : decode cX8_lead 95 = .ok (.ifCond .ne 6, 3) := by decide +kernel
theorem dX8_lead_98 : decode cX8_lead 98 = .ok (.goto 20, 3) := by decide +kernel
theorem dX8_lead_101 : decode cX8_lead 101 = .ok (.iload 4, 2) := by decide +kernel
theorem dX8_lead_103 : decode cX8_lead 103 = .ok (.ifCond .ne 12, 3) := by decide +kernel
theorem dX8_lead_106 : decode cX8_lead 106 = .ok (.bipush 100, 2) := by decide +kernel
theorem dX8_lead_108 : decode cX8_lead 108 = .ok (.iload 5, 2) := by decide +kernel
theorem dX8_lead_110 : decode cX8_lead 110 = .ok (.imul, 1) := by decide +kernel
theorem dX8_lead_111 : decode cX8_lead 111 = .ok (.iload 7, 2) := by decide +kernel
