theorem dX8_lead_113 : decode cX8_lead 113 = .ok (.iadd, 1) := by decide +kernel
theorem dX8_lead_114 : decode cX8_lead 114 = .ok (.ireturn, 1) := by decide +kernel
theorem dX8_lead_115 : decode cX8_lead 115 = .ok (.iinc 4 (-1), 3) := by decide +kernel
theorem dX8_lead_118 : decode cX8_lead 118 = .ok (.iinc 7 1, 3) := by decide +kernel
theorem dX8_lead_121 : decode cX8_lead 121 = .ok (.goto (-57), 3) := by decide +kernel
theorem dX8_lead_124 : decode cX8_lead 124 = .ok (.iinc 5 1, 3) := by decide +kernel
theorem dX8_lead_127 : decode cX8_lead 127 = .ok (.goto (-92), 3) := by decide +kernel
theorem dX8_lead_130 : decode cX8_lead 130 = .ok (.iconst (-1), 1) := by decide +kernel
theorem dX8_lead_131 : decode cX8_lead 131 = .ok (.ireturn, 1) := by decide +kernel
theorem dX8_next_0 : decode cX8_next 0 = .ok (.iload_n 1, 1) := by decide +kernel
theorem dX8_next_1 : decode cX8_next 1 = .ok (.iconst 0, 1) := by decide +kernel
theorem dX8_next_2 : decode cX8_next 2 = .ok (.bipush 49, 2) := by decide +kernel
theorem dX8_next_4 : decode cX8_next 4 = .ok (.invokestatic 69, 3) := by decide +kernel
theorem dX8_next_7 : decode cX8_next 7 = .ok (.ifCond .eq 13, 3) := by decide +kernel
theorem dX8_next_10 : decode cX8_next 10 = .ok (.iload_n 2, 1) := by decide +kernel
theorem dX8_next_11 : decode cX8_next 11 = .ok (.iconst 0, 1) := by decide +kernel
theorem dX8_next_12 : decode cX8_next 12 = .ok (.bipush 49, 2) := by decide +kernel
theorem dX8_next_14 : decode cX8_next 14 = .ok (.invokestatic 69, 3) := by decide +kernel
theorem dX8_next_17 : decode cX8_next 17 = .ok (.ifCond .ne 5, 3) := by decide +kernel
theorem dX8_next_20 : decode cX8_next 20 = .ok (.iconst (-1), 1) := by decide +kernel
theorem dX8_next_21 : decode cX8_next 21 = .ok (.ireturn, 1) := by decide +kernel
theorem dX8_next_22 : decode cX8_next 22 = .ok (.aload_n 0, 1) := by decide +kernel
theorem dX8_next_23 : decode cX8_next 23 = .ok (.invokevirtual 187, 3) := by decide +kernel
theorem dX8_next_26 : decode cX8_next 26 = .ok (.iconst 0, 1) := by decide +kernel
theorem dX8_next_27 : decode cX8_next 27 = .ok (.istore_n 3, 1) := by decide +kernel
theorem dX8_next_28 : decode cX8_next 28 = .ok (.iconst 0, 1) := by decide +kernel
theorem dX8_next_29 : decode cX8_next 29 = .ok (.istore 4, 2) := by decide +kernel
theorem dX8_next_31 : decode cX8_next 31 = .ok (.iload 4, 2) := by decide +kernel
theorem dX8_next_33 : decode cX8_next 33 = .ok (.aload_n 0, 1) := by decide +kernel
theorem dX8_next_34 : decode cX8_next 34 = .ok (.getfield 19, 3) := by decide +kernel
theorem dX8_next_37 : decode cX8_next 37 = .ok (.invokevirtual 81, 3) := by decide +kernel
theorem dX8_next_40 : decode cX8_next 40 = .ok (.if_icmp .ge 29, 3) := by decide +kernel
theorem dX8_next_43 : decode cX8_next 43 = .ok (.iload_n 3, 1) := by decide +kernel
theorem dX8_next_44 : decode cX8_next 44 = .ok (.aload_n 0, 1) := by decide +kernel
theorem dX8_next_45 : decode cX8_next 45 = .ok (.getfield 19, 3) := by decide +kernel
theorem dX8_next_48 : decode cX8_next 48 = .ok (.iload 4, 2) := by decide +kernel
theorem dX8_next_50 : decode cX8_next 50 = .ok (.invokevirtual 85, 3) := by decide +kernel
theorem dX8_next_53 : decode cX8_next 53 = .ok (.checkcast 89, 3) := by decide +kernel
theorem dX8_next_56 : decode cX8_next 56 = .ok (.iload_n 1, 1) := by decide +kernel
theorem dX8_next_57 : decode cX8_next 57 = .ok (.iload_n 2, 1) := by decide +kernel
theorem dX8_next_58 : decode cX8_next 58 = .ok (.invokevirtual 199, 3) := by decide +kernel
theorem dX8_next_61 : decode cX8_next 61 = .ok (.iadd, 1) := by decide +kernel
theorem dX8_next_62 : decode cX8_next 62 = .ok (.istore_n 3, 1) := by decide +kernel
theorem dX8_next_63 : decode cX8_next 63 = .ok (.iinc 4 1, 3) := by decide +kernel
theorem dX8_next_66 : decode cX8_next 66 = .ok (.goto (-35), 3) := by decide +kernel
theorem dX8_next_69 : decode cX8_next 69 = .ok (.iload_n 3, 1) := by decide +kernel
theorem dX8_next_70 : decode cX8_next 70 = .ok (.ireturn, 1) := by decide +kernel
theorem dX8_quarrels_0 : decode cX8_quarrels 0 = .ok (.iload_n 1, 1) := by decide +kernel
theorem dX8_quarrels_1 : decode cX8_quarrels 1 = .ok (.iload_n 2, 1) := by decide +kernel
theorem dX8_quarrels_2 : decode cX8_quarrels 2 = .ok (.invokestatic 77, 3) := by decide +kernel
theorem dX8_quarrels_5 : decode cX8_quarrels 5 = .ok (.ifCond .ne 5, 3) := by decide +kernel
theorem dX8_quarrels_8 : decode cX8_quarrels 8 = .ok (.iconst (-1), 1) := by decide +kernel
theorem dX8_quarrels_9 : decode cX8_quarrels 9 = .ok (.ireturn, 1) := by decide +kernel
theorem dX8_quarrels_10 : decode cX8_quarrels 10 = .ok (.iconst 0, 1) := by decide +kernel
theorem dX8_quarrels_11 : decode cX8_quarrels 11 = .ok (.istore_n 3, 1) := by decide +kernel
theorem dX8_quarrels_12 : decode cX8_quarrels 12 = .ok (.iconst 0, 1) := by decide +kernel
theorem dX8_quarrels_13 : decode cX8_quarrels 13 = .ok (.istore 4, 2) := by decide +kernel
theorem dX8_quarrels_15 : decode cX8_quarrels 15 = .ok (.iload 4, 2) := by decide +kernel
theorem dX8_quarrels_17 : decode cX8_quarrels 17 = .ok (.aload_n 0, 1) := by decide +kernel
theorem dX8_quarrels_18 : decode cX8_quarrels 18 = .ok (.getfield 19, 3) := by decide +kernel
theorem dX8_quarrels_21 : decode cX8_quarrels 21 = .ok (.invokevirtual 81, 3) := by decide +kernel
theorem dX8_quarrels_24 : decode cX8_quarrels 24 = .ok (.if_icmp .ge 92, 3) := by decide +kernel
theorem dX8_quarrels_27 : decode cX8_quarrels 27 = .ok (.aload_n 0, 1) := by decide +kernel
theorem dX8_quarrels_28 : decode cX8_quarrels 28 = .ok (.getfield 19, 3) := by decide +kernel
theorem dX8_quarrels_31 : decode cX8_quarrels 31 = .ok (.iload 4, 2) := by decide +kernel
theorem dX8_quarrels_33 : decode cX8_quarrels 33 = .ok (.invokevirtual 85, 3) := by decide +kernel
theorem dX8_quarrels_36 : decode cX8_quarrels 36 = .ok (.checkcast 89, 3) := by decide +kernel
theorem dX8_quarrels_39 : decode cX8_quarrels 39 = .ok (.astore 5, 2) := by decide +kernel
theorem dX8_quarrels_41 : decode cX8_quarrels 41 = .ok (.iconst 0, 1) := by decide +kernel
theorem dX8_quarrels_42 : decode cX8_quarrels 42 = .ok (.istore 6, 2) := by decide +kernel
theorem dX8_quarrels_44 : decode cX8_quarrels 44 = .ok (.iload 6, 2) := by decide +kernel
theorem dX8_quarrels_46 : decode cX8_quarrels 46 = .ok (.aload_n 0, 1) := by decide +kernel
theorem dX8_quarrels_47 : decode cX8_quarrels 47 = .ok (.getfield 19, 3) := by decide +kernel
theorem dX8_quarrels_50 : decode cX8_quarrels 50 = .ok (.invokevirtual 81, 3) := by decide +kernel
theorem dX8_quarrels_53 : decode cX8_quarrels 53 = .ok (.if_icmp .ge 57, 3) := by decide +kernel
theorem dX8_quarrels_56 : decode cX8_quarrels 56 = .ok (.aload 5, 2) := by decide +kernel
theorem dX8_quarrels_58 : decode cX8_quarrels 58 = .ok (.iload_n 1, 1) := by decide +kernel
theorem dX8_quarrels_59 : decode cX8_quarrels 59 = .ok (.iload_n 2, 1) := by decide +kernel
theorem dX8_quarrels_60 : decode cX8_quarrels 60 = .ok (.invokevirtual 91, 3) := by decide +kernel
theorem dX8_quarrels_63 : decode cX8_quarrels 63 = .ok (.ifCond .eq 47, 3) := by decide +kernel
theorem dX8_quarrels_66 : decode cX8_quarrels 66 = .ok (.aload_n 0, 1) := by decide +kernel
theorem dX8_quarrels_67 : decode cX8_quarrels 67 = .ok (.getfield 19, 3) := by decide +kernel
theorem dX8_quarrels_70 : decode cX8_quarrels 70 = .ok (.iload 6, 2) := by decide +kernel
theorem dX8_quarrels_72 : decode cX8_quarrels 72 = .ok (.invokevirtual 85, 3) := by decide +kernel
theorem dX8_quarrels_75 : decode cX8_quarrels 75 = .ok (.checkcast 89, 3) := by decide +kernel
theorem dX8_quarrels_78 : decode cX8_quarrels 78 = .ok (.astore 7, 2) := by decide +kernel
theorem dX8_quarrels_80 : decode cX8_quarrels 80 = .ok (.iload_n 3, 1) := by decide +kernel
theorem dX8_quarrels_81 : decode cX8_quarrels 81 = .ok (.aload 7, 2) := by decide +kernel
theorem dX8_quarrels_83 : decode cX8_quarrels 83 = .ok (.iload_n 1, 1) := by decide +kernel
theorem dX8_quarrels_84 : decode cX8_quarrels 84 = .ok (.iload_n 2, 1) := by decide +kernel
theorem dX8_quarrels_85 : decode cX8_quarrels 85 = .ok (.invokevirtual 91, 3) := by decide +kernel
theorem dX8_quarrels_88 : decode cX8_quarrels 88 = .ok (.ifCond .eq 13, 3) := by decide +kernel
theorem dX8_quarrels_91 : decode cX8_quarrels 91 = .ok (.aload 5, 2) := by decide +kernel
theorem dX8_quarrels_93 : decode cX8_quarrels 93 = .ok (.aload 7, 2) := by decide +kernel
theorem dX8_quarrels_95 : decode cX8_quarrels 95 = .ok (.invokevirtual 202, 3) := by decide +kernel
theorem dX8_quarrels_98 : decode cX8_quarrels 98 = .ok (.goto 4, 3) := by decide +kernel
theorem dX8_quarrels_101 : decode cX8_quarrels 101 = .ok (.iconst 0, 1) := by decide +kernel
theorem dX8_quarrels_102 : decode cX8_quarrels 102 = .ok (.iadd, 1) := by decide +kernel
theorem dX8_quarrels_103 : decode cX8_quarrels 103 = .ok (.istore_n 3, 1) := by decide +kernel
theorem dX8_quarrels_104 : decode cX8_quarrels 104 = .ok (.iinc 6 1, 3) := by decide +kernel
theorem dX8_quarrels_107 : decode cX8_quarrels 107 = .ok (.goto (-63), 3) := by decide +kernel
theorem dX8_quarrels_110 : decode cX8_quarrels 110 = .ok (.iinc 4 1, 3) := by decide +kernel
theorem dX8_quarrels_113 : decode cX8_quarrels 113 = .ok (.goto (-98), 3) := by decide +kernel
theorem dX8_quarrels_116 : decode cX8_quarrels 116 = .ok (.iload_n 3, 1) := by decide +kernel
theorem dX8_quarrels_117 : decode cX8_quarrels 117 = .ok (.ireturn, 1) := by decide +kernel
theorem dX8_day_0 : decode cX8_day 0 = .ok (.aload_n 0, 1) := by decide +kernel
theorem dX8_day_1 : decode cX8_day 1 = .ok (.iload_n 1, 1) := by decide +kernel
theorem dX8_day_2 : decode cX8_day 2 = .ok (.invokevirtual 141, 3) := by decide +kernel
theorem dX8_day_5 : decode cX8_day 5 = .ok (.astore_n 3, 1) := by decide +kernel
theorem dX8_day_6 : decode cX8_day 6 = .ok (.aload_n 3, 1) := by decide +kernel
theorem dX8_day_7 : decode cX8_day 7 = .ok (.ifnonnull 13, 3) := by decide +kernel
theorem dX8_day_10 : decode cX8_day 10 = .ok (.new 147, 3) := by decide +kernel
theorem dX8_day_13 : decode cX8_day 13 = .ok (.dup, 1) := by decide +kernel
theorem dX8_day_14 : decode cX8_day 14 = .ok (.ldc 206, 2) := by decide +kernel
theorem dX8_day_16 : decode cX8_day 16 = .ok (.invokespecial 151, 3) := by decide +kernel
theorem dX8_day_19 : decode cX8_day 19 = .ok (.athrow, 1) := by decide +kernel
theorem dX8_day_20 : decode cX8_day 20 = .ok (.iload_n 2, 1) := by decide +kernel
theorem dX8_day_21 : decode cX8_day 21 = .ok (.tableswitch 90 0 7 #[47, 55, 60, 65, 70, 75, 80, 85], 47) := by decide +kernel
theorem dX8_day_68 : decode cX8_day 68 = .ok (.aload_n 3, 1) := by decide +kernel
theorem dX8_day_69 : decode cX8_day 69 = .ok (.getfield 108, 3) := by decide +kernel
theorem dX8_day_72 : decode cX8_day 72 = .ok (.invokevirtual 81, 3) := by decide +kernel
theorem dX8_day_75 : decode cX8_day 75 = .ok (.ireturn, 1) := by decide +kernel
theorem dX8_day_76 : decode cX8_day 76 = .ok (.aload_n 3, 1) := by decide +kernel
theorem dX8_day_77 : decode cX8_day 77 = .ok (.invokevirtual 208, 3) := by decide +kernel
theorem dX8_day_80 : decode cX8_day 80 = .ok (.ireturn, 1) := by decide +kernel
theorem dX8_day_81 : decode cX8_day 81 = .ok (.aload_n 3, 1) := by decide +kernel
theorem dX8_day_82 : decode cX8_day 82 = .ok (.invokevirtual 211, 3) := by decide +kernel
theorem dX8_day_85 : decode cX8_day 85 = .ok (.ireturn, 1) := by decide +kernel
theorem dX8_day_86 : decode cX8_day 86 = .ok (.aload_n 3, 1) := by decide +kernel
theorem dX8_day_87 : decode cX8_day 87 = .ok (.invokevirtual 214, 3) := by decide +kernel
theorem dX8_day_90 : decode cX8_day 90 = .ok (.ireturn, 1) := by decide +kernel
theorem dX8_day_91 : decode cX8_day 91 = .ok (.aload_n 3, 1) := by decide +kernel
theorem dX8_day_92 : decode cX8_day 92 = .ok (.getfield 217, 3) := by decide +kernel
theorem dX8_day_95 : decode cX8_day 95 = .ok (.ireturn, 1) := by decide +kernel
theorem dX8_day_96 : decode cX8_day 96 = .ok (.aload_n 3, 1) := by decide +kernel
theorem dX8_day_97 : decode cX8_day 97 = .ok (.getfield 94, 3) := by decide +kernel
theorem dX8_day_100 : decode cX8_day 100 = .ok (.ireturn, 1) := by decide +kernel
theorem dX8_day_101 : decode cX8_day 101 = .ok (.aload_n 3, 1) := by decide +kernel
theorem dX8_day_102 : decode cX8_day 102 = .ok (.getfield 220, 3) := by decide +kernel
theorem dX8_day_105 : decode cX8_day 105 = .ok (.ireturn, 1) := by decide +kernel
theorem dX8_day_106 : decode cX8_day 106 = .ok (.aload_n 3, 1) := by decide +kernel
theorem dX8_day_107 : decode cX8_day 107 = .ok (.getfield 223, 3) := by decide +kernel
theorem dX8_day_110 : decode cX8_day 110 = .ok (.ireturn, 1) := by decide +kernel
theorem dX8_day_111 : decode cX8_day 111 = .ok (.new 147, 3) := by decide +kernel
theorem dX8_day_114 : decode cX8_day 114 = .ok (.dup, 1) := by decide +kernel
theorem dX8_day_115 : decode cX8_day 115 = .ok (.ldc 226, 2) := by decide +kernel
theorem dX8_day_117 : decode cX8_day 117 = .ok (.invokespecial 151, 3) := by decide +kernel
theorem dX8_day_120 : decode cX8_day 120 = .ok (.athrow, 1) := by decide +kernel
theorem dX8_count_0 : decode cX8_count 0 = .ok (.iload_n 1, 1) := by decide +kernel
theorem dX8_count_1 : decode cX8_count 1 = .ok (.tableswitch 82 0 5 #[39, 47, 55, 60, 68, 73], 39) := by decide +kernel
theorem dX8_count_40 : decode cX8_count 40 = .ok (.aload_n 0, 1) := by decide +kernel
theorem dX8_count_41 : decode cX8_count 41 = .ok (.getfield 19, 3) := by decide +kernel
theorem dX8_count_44 : decode cX8_count 44 = .ok (.invokevirtual 81, 3) := by decide +kernel
theorem dX8_count_47 : decode cX8_count 47 = .ok (.ireturn, 1) := by decide +kernel
theorem dX8_count_48 : decode cX8_count 48 = .ok (.aload_n 0, 1) := by decide +kernel
theorem dX8_count_49 : decode cX8_count 49 = .ok (.getfield 23, 3) := by decide +kernel
theorem dX8_count_52 : decode cX8_count 52 = .ok (.invokevirtual 81, 3) := by decide +kernel
theorem dX8_count_55 : decode cX8_count 55 = .ok (.ireturn, 1) := by decide +kernel
theorem dX8_count_56 : decode cX8_count 56 = .ok (.aload_n 0, 1) := by decide +kernel
theorem dX8_count_57 : decode cX8_count 57 = .ok (.getfield 62, 3) := by decide +kernel
theorem dX8_count_60 : decode cX8_count 60 = .ok (.ireturn, 1) := by decide +kernel
theorem dX8_count_61 : decode cX8_count 61 = .ok (.aload_n 0, 1) := by decide +kernel
theorem dX8_count_62 : decode cX8_count 62 = .ok (.getfield 38, 3) := by decide +kernel
theorem dX8_count_65 : decode cX8_count 65 = .ok (.getfield 127, 3) := by decide +kernel
theorem dX8_count_68 : decode cX8_count 68 = .ok (.ireturn, 1) := by decide +kernel
theorem dX8_count_69 : decode cX8_count 69 = .ok (.aload_n 0, 1) := by decide +kernel
theorem dX8_count_70 : decode cX8_count 70 = .ok (.invokevirtual 228, 3) := by decide +kernel
theorem dX8_count_73 : decode cX8_count 73 = .ok (.ireturn, 1) := by decide +kernel
theorem dX8_count_74 : decode cX8_count 74 = .ok (.aload_n 0, 1) := by decide +kernel
theorem dX8_count_75 : decode cX8_count 75 = .ok (.invokevirtual 231, 3) := by decide +kernel
theorem dX8_count_78 : decode cX8_count 78 = .ok (.getfield 234, 3) := by decide +kernel
theorem dX8_count_81 : decode cX8_count 81 = .ok (.arraylength, 1) := by decide +kernel
theorem dX8_count_82 : decode cX8_count 82 = .ok (.ireturn, 1) := by decide +kernel
theorem dX8_count_83 : decode cX8_count 83 = .ok (.iconst (-1), 1) := by decide +kernel
theorem dX8_count_84 : decode cX8_count 84 = .ok (.ireturn, 1) := by decide +kernel
theorem dX8_isWithin_0 : decode cX8_isWithin 0 = .ok (.iload_n 0, 1) := by decide +kernel
theorem dX8_isWithin_1 : decode cX8_isWithin 1 = .ok (.iload_n 1, 1) := by decide +kernel
theorem dX8_isWithin_2 : decode cX8_isWithin 2 = .ok (.if_icmp .lt 12, 3) := by decide +kernel
theorem dX8_isWithin_5 : decode cX8_isWithin 5 = .ok (.iload_n 0, 1) := by decide +kernel
theorem dX8_isWithin_6 : decode cX8_isWithin 6 = .ok (.iload_n 2, 1) := by decide +kernel
theorem dX8_isWithin_7 : decode cX8_isWithin 7 = .ok (.if_icmp .gt 7, 3) := by decide +kernel
theorem dX8_isWithin_10 : decode cX8_isWithin 10 = .ok (.iconst 1, 1) := by decide +kernel
theorem dX8_isWithin_11 : decode cX8_isWithin 11 = .ok (.goto 4, 3) := by decide +kernel
theorem dX8_isWithin_14 : decode cX8_isWithin 14 = .ok (.iconst 0, 1) := by decide +kernel
theorem dX8_isWithin_15 : decode cX8_isWithin 15 = .ok (.ireturn, 1) := by decide +kernel
theorem dX8_isHouseAndDay_0 : decode cX8_isHouseAndDay 0 = .ok (.iload_n 0, 1) := by decide +kernel
theorem dX8_isHouseAndDay_1 : decode cX8_isHouseAndDay 1 = .ok (.iconst 0, 1) := by decide +kernel
theorem dX8_isHouseAndDay_2 : decode cX8_isHouseAndDay 2 = .ok (.bipush 9, 2) := by decide +kernel
theorem dX8_isHouseAndDay_4 : decode cX8_isHouseAndDay 4 = .ok (.invokestatic 69, 3) := by decide +kernel
theorem dX8_isHouseAndDay_7 : decode cX8_isHouseAndDay 7 = .ok (.ifCond .eq 17, 3) := by decide +kernel
theorem dX8_isHouseAndDay_10 : decode cX8_isHouseAndDay 10 = .ok (.iload_n 1, 1) := by decide +kernel
theorem dX8_isHouseAndDay_11 : decode cX8_isHouseAndDay 11 = .ok (.iconst 0, 1) := by decide +kernel
theorem dX8_isHouseAndDay_12 : decode cX8_isHouseAndDay 12 = .ok (.bipush 6, 2) := by decide +kernel
theorem dX8_isHouseAndDay_14 : decode cX8_isHouseAndDay 14 = .ok (.invokestatic 69, 3) := by decide +kernel
theorem dX8_isHouseAndDay_17 : decode cX8_isHouseAndDay 17 = .ok (.ifCond .eq 7, 3) := by decide +kernel
theorem dX8_isHouseAndDay_20 : decode cX8_isHouseAndDay 20 = .ok (.iconst 1, 1) := by decide +kernel
theorem dX8_isHouseAndDay_21 : decode cX8_isHouseAndDay 21 = .ok (.goto 4, 3) := by decide +kernel
theorem dX8_isHouseAndDay_24 : decode cX8_isHouseAndDay 24 = .ok (.iconst 0, 1) := by decide +kernel
theorem dX8_isHouseAndDay_25 : decode cX8_isHouseAndDay 25 = .ok (.ireturn, 1) := by decide +kernel
theorem dX8_holds_0 : decode cX8_holds 0 = .ok (.iload_n 0, 1) := by decide +kernel
theorem dX8_holds_1 : decode cX8_holds 1 = .ok (.iload_n 1, 1) := by decide +kernel
theorem dX8_holds_2 : decode cX8_holds 2 = .ok (.ishr, 1) := by decide +kernel
theorem dX8_holds_3 : decode cX8_holds 3 = .ok (.iconst 1, 1) := by decide +kernel
theorem dX8_holds_4 : decode cX8_holds 4 = .ok (.iand, 1) := by decide +kernel
theorem dX8_holds_5 : decode cX8_holds 5 = .ok (.ifCond .eq 7, 3) := by decide +kernel
theorem dX8_holds_8 : decode cX8_holds 8 = .ok (.iconst 1, 1) := by decide +kernel
theorem dX8_holds_9 : decode cX8_holds 9 = .ok (.goto 4, 3) := by decide +kernel
theorem dX8_holds_12 : decode cX8_holds 12 = .ok (.iconst 0, 1) := by decide +kernel
theorem dX8_holds_13 : decode cX8_holds 13 = .ok (.ireturn, 1) := by decide +kernel
theorem dX8_find_0 : decode cX8_find 0 = .ok (.iload_n 1, 1) := by decide +kernel
theorem dX8_find_1 : decode cX8_find 1 = .ok (.iconst 0, 1) := by decide +kernel
theorem dX8_find_2 : decode cX8_find 2 = .ok (.aload_n 0, 1) := by decide +kernel
theorem dX8_find_3 : decode cX8_find 3 = .ok (.getfield 19, 3) := by decide +kernel
theorem dX8_find_6 : decode cX8_find 6 = .ok (.invokevirtual 81, 3) := by decide +kernel
theorem dX8_find_9 : decode cX8_find 9 = .ok (.iconst 1, 1) := by decide +kernel
theorem dX8_find_10 : decode cX8_find 10 = .ok (.isub, 1) := by decide +kernel
theorem dX8_find_11 : decode cX8_find 11 = .ok (.invokestatic 69, 3) := by decide +kernel
theorem dX8_find_14 : decode cX8_find 14 = .ok (.ifCond .eq 17, 3) := by decide +kernel
theorem dX8_find_17 : decode cX8_find 17 = .ok (.aload_n 0, 1) := by decide +kernel
theorem dX8_find_18 : decode cX8_find 18 = .ok (.getfield 19, 3) := by decide +kernel
theorem dX8_find_21 : decode cX8_find 21 = .ok (.iload_n 1, 1) := by decide +kernel
theorem dX8_find_22 : decode cX8_find 22 = .ok (.invokevirtual 85, 3) := by decide +kernel
theorem dX8_find_25 : decode cX8_find 25 = .ok (.checkcast 89, 3) := by decide +kernel
theorem dX8_find_28 : decode cX8_find 28 = .ok (.goto 4, 3) := by decide +kernel
theorem dX8_find_31 : decode cX8_find 31 = .ok (.aconst_null, 1) := by decide +kernel
theorem dX8_find_32 : decode cX8_find 32 = .ok (.areturn, 1) := by decide +kernel
theorem dX8_findCoded_0 : decode cX8_findCoded 0 = .ok (.aload_n 0, 1) := by decide +kernel
theorem dX8_findCoded_1 : decode cX8_findCoded 1 = .ok (.iload_n 1, 1) := by decide +kernel
theorem dX8_findCoded_2 : decode cX8_findCoded 2 = .ok (.invokevirtual 104, 3) := by decide +kernel
theorem dX8_findCoded_5 : decode cX8_findCoded 5 = .ok (.astore_n 2, 1) := by decide +kernel
theorem dX8_findCoded_6 : decode cX8_findCoded 6 = .ok (.aload_n 2, 1) := by decide +kernel
theorem dX8_findCoded_7 : decode cX8_findCoded 7 = .ok (.ifnull 19, 3) := by decide +kernel
theorem dX8_findCoded_10 : decode cX8_findCoded 10 = .ok (.aload_n 0, 1) := by decide +kernel
theorem dX8_findCoded_11 : decode cX8_findCoded 11 = .ok (.getfield 54, 3) := by decide +kernel
theorem dX8_findCoded_14 : decode cX8_findCoded 14 = .ok (.aload_n 2, 1) := by decide +kernel
theorem dX8_findCoded_15 : decode cX8_findCoded 15 = .ok (.aload_n 0, 1) := by decide +kernel
theorem dX8_findCoded_16 : decode cX8_findCoded 16 = .ok (.invokevirtual 231, 3) := by decide +kernel
theorem dX8_findCoded_19 : decode cX8_findCoded 19 = .ok (.aload_n 0, 1) := by decide +kernel
theorem dX8_findCoded_20 : decode cX8_findCoded 20 = .ok (.getfield 66, 3) := by decide +kernel
theorem dX8_findCoded_23 : decode cX8_findCoded 23 = .ok (.invokevirtual 237, 3) := by decide +kernel
theorem dX8_findCoded_26 : decode cX8_findCoded 26 = .ok (.aload_n 2, 1) := by decide +kernel
theorem dX8_findCoded_27 : decode cX8_findCoded 27 = .ok (.areturn, 1) := by decide +kernel
theorem dX8_codeDiaries_0 : decode cX8_codeDiaries 0 = .ok (.iconst 0, 1) := by decide +kernel
theorem dX8_codeDiaries_1 : decode cX8_codeDiaries 1 = .ok (.istore_n 1, 1) := by decide +kernel
theorem dX8_codeDiaries_2 : decode cX8_codeDiaries 2 = .ok (.iload_n 1, 1) := by decide +kernel
theorem dX8_codeDiaries_3 : decode cX8_codeDiaries 3 = .ok (.aload_n 0, 1) := by decide +kernel
theorem dX8_codeDiaries_4 : decode cX8_codeDiaries 4 = .ok (.getfield 19, 3) := by decide +kernel
theorem dX8_codeDiaries_7 : decode cX8_codeDiaries 7 = .ok (.invokevirtual 81, 3) := by decide +kernel
theorem dX8_codeDiaries_10 : decode cX8_codeDiaries 10 = .ok (.if_icmp .ge 35, 3) := by decide +kernel
theorem dX8_codeDiaries_13 : decode cX8_codeDiaries 13 = .ok (.aload_n 0, 1) := by decide +kernel
theorem dX8_codeDiaries_14 : decode cX8_codeDiaries 14 = .ok (.getfield 54, 3) := by decide +kernel
theorem dX8_codeDiaries_17 : decode cX8_codeDiaries 17 = .ok (.aload_n 0, 1) := by decide +kernel
theorem dX8_codeDiaries_18 : decode cX8_codeDiaries 18 = .ok (.getfield 19, 3) := by decide +kernel
theorem dX8_codeDiaries_21 : decode cX8_codeDiaries 21 = .ok (.iload_n 1, 1) := by decide +kernel
theorem dX8_codeDiaries_22 : decode cX8_codeDiaries 22 = .ok (.invokevirtual 85, 3) := by decide +kernel
theorem dX8_codeDiaries_25 : decode cX8_codeDiaries 25 = .ok (.checkcast 89, 3) := by decide +kernel
theorem dX8_codeDiaries_28 : decode cX8_codeDiaries 28 = .ok (.aload_n 0, 1) := by decide +kernel
theorem dX8_codeDiaries_29 : decode cX8_codeDiaries 29 = .ok (.invokevirtual 231, 3) := by decide +kernel
theorem dX8_codeDiaries_32 : decode cX8_codeDiaries 32 = .ok (.aload_n 0, 1) := by decide +kernel
theorem dX8_codeDiaries_33 : decode cX8_codeDiaries 33 = .ok (.getfield 66, 3) := by decide +kernel
theorem dX8_codeDiaries_36 : decode cX8_codeDiaries 36 = .ok (.invokevirtual 237, 3) := by decide +kernel
theorem dX8_codeDiaries_39 : decode cX8_codeDiaries 39 = .ok (.iinc 1 1, 3) := by decide +kernel
theorem dX8_codeDiaries_42 : decode cX8_codeDiaries 42 = .ok (.goto (-40), 3) := by decide +kernel
theorem dX8_codeDiaries_45 : decode cX8_codeDiaries 45 = .ok (.return_, 1) := by decide +kernel
theorem dX8_textInForce_0 : decode cX8_textInForce 0 = .ok (.aload_n 0, 1) := by decide +kernel
theorem dX8_textInForce_1 : decode cX8_textInForce 1 = .ok (.getfield 62, 3) := by decide +kernel
theorem dX8_textInForce_4 : decode cX8_textInForce 4 = .ok (.iconst 0, 1) := by decide +kernel
theorem dX8_textInForce_5 : decode cX8_textInForce 5 = .ok (.aload_n 0, 1) := by decide +kernel
theorem dX8_textInForce_6 : decode cX8_textInForce 6 = .ok (.getfield 23, 3) := by decide +kernel
theorem dX8_textInForce_9 : decode cX8_textInForce 9 = .ok (.invokevirtual 81, 3) := by decide +kernel
theorem dX8_textInForce_12 : decode cX8_textInForce 12 = .ok (.iconst 1, 1) := by decide +kernel
theorem dX8_textInForce_13 : decode cX8_textInForce 13 = .ok (.isub, 1) := by decide +kernel
theorem dX8_textInForce_14 : decode cX8_textInForce 14 = .ok (.invokestatic 69, 3) := by decide +kernel
theorem dX8_textInForce_17 : decode cX8_textInForce 17 = .ok (.ifCond .eq 20, 3) := by decide +kernel
theorem dX8_textInForce_20 : decode cX8_textInForce 20 = .ok (.aload_n 0, 1) := by decide +kernel
theorem dX8_textInForce_21 : decode cX8_textInForce 21 = .ok (.getfield 23, 3) := by decide +kernel
theorem dX8_textInForce_24 : decode cX8_textInForce 24 = .ok (.aload_n 0, 1) := by decide +kernel
theorem dX8_textInForce_25 : decode cX8_textInForce 25 = .ok (.getfield 62, 3) := by decide +kernel
theorem dX8_textInForce_28 : decode cX8_textInForce 28 = .ok (.invokevirtual 85, 3) := by decide +kernel
theorem dX8_textInForce_31 : decode cX8_textInForce 31 = .ok (.checkcast 26, 3) := by decide +kernel
theorem dX8_textInForce_34 : decode cX8_textInForce 34 = .ok (.goto 7, 3) := by decide +kernel
theorem dX8_textInForce_37 : decode cX8_textInForce 37 = .ok (.aload_n 0, 1) := by decide +kernel
theorem dX8_textInForce_38 : decode cX8_textInForce 38 = .ok (.getfield 31, 3) := by decide +kernel
theorem dX8_textInForce_41 : decode cX8_textInForce 41 = .ok (.areturn, 1) := by decide +kernel
theorem dX8_putInForce_0 : decode cX8_putInForce 0 = .ok (.aload_n 0, 1) := by decide +kernel
theorem dX8_putInForce_1 : decode cX8_putInForce 1 = .ok (.iload_n 1, 1) := by decide +kernel
theorem dX8_putInForce_2 : decode cX8_putInForce 2 = .ok (.putfield 62, 3) := by decide +kernel
theorem dX8_putInForce_5 : decode cX8_putInForce 5 = .ok (.aload_n 0, 1) := by decide +kernel
theorem dX8_putInForce_6 : decode cX8_putInForce 6 = .ok (.dup, 1) := by decide +kernel
theorem dX8_putInForce_7 : decode cX8_putInForce 7 = .ok (.getfield 66, 3) := by decide +kernel
theorem dX8_putInForce_10 : decode cX8_putInForce 10 = .ok (.iconst 1, 1) := by decide +kernel
theorem dX8_putInForce_11 : decode cX8_putInForce 11 = .ok (.iadd, 1) := by decide +kernel
theorem dX8_putInForce_12 : decode cX8_putInForce 12 = .ok (.putfield 66, 3) := by decide +kernel
theorem dX8_putInForce_15 : decode cX8_putInForce 15 = .ok (.return_, 1) := by decide +kernel
theorem dX8_linesInAll_0 : decode cX8_linesInAll 0 = .ok (.iconst 0, 1) := by decide +kernel
theorem dX8_linesInAll_1 : decode cX8_linesInAll 1 = .ok (.istore_n 1, 1) := by decide +kernel
theorem dX8_linesInAll_2 : decode cX8_linesInAll 2 = .ok (.iconst 0, 1) := by decide +kernel
theorem dX8_linesInAll_3 : decode cX8_linesInAll 3 = .ok (.istore_n 2, 1) := by decide +kernel
theorem dX8_linesInAll_4 : decode cX8_linesInAll 4 = .ok (.iload_n 2, 1) := by decide +kernel
theorem dX8_linesInAll_5 : decode cX8_linesInAll 5 = .ok (.aload_n 0, 1) := by decide +kernel
theorem dX8_linesInAll_6 : decode cX8_linesInAll 6 = .ok (.getfield 19, 3) := by decide +kernel
theorem dX8_linesInAll_9 : decode cX8_linesInAll 9 = .ok (.invokevirtual 81, 3) := by decide +kernel
theorem dX8_linesInAll_12 : decode cX8_linesInAll 12 = .ok (.if_icmp .ge 29, 3) := by decide +kernel
theorem dX8_linesInAll_15 : decode cX8_linesInAll 15 = .ok (.iload_n 1, 1) := by decide +kernel
theorem dX8_linesInAll_16 : decode cX8_linesInAll 16 = .ok (.aload_n 0, 1) := by decide +kernel
theorem dX8_linesInAll_17 : decode cX8_linesInAll 17 = .ok (.getfield 19, 3) := by decide +kernel
theorem dX8_linesInAll_20 : decode cX8_linesInAll 20 = .ok (.iload_n 2, 1) := by decide +kernel
theorem dX8_linesInAll_21 : decode cX8_linesInAll 21 = .ok (.invokevirtual 85, 3) := by decide +kernel
theorem dX8_linesInAll_24 : decode cX8_linesInAll 24 = .ok (.checkcast 89, 3) := by decide +kernel
theorem dX8_linesInAll_27 : decode cX8_linesInAll 27 = .ok (.getfield 108, 3) := by decide +kernel
theorem dX8_linesInAll_30 : decode cX8_linesInAll 30 = .ok (.invokevirtual 81, 3) := by decide +kernel
theorem dX8_linesInAll_33 : decode cX8_linesInAll 33 = .ok (.iadd, 1) := by decide +kernel
theorem dX8_linesInAll_34 : decode cX8_linesInAll 34 = .ok (.istore_n 1, 1) := by decide +kernel
theorem dX8_linesInAll_35 : decode cX8_linesInAll 35 = .ok (.iinc 2 1, 3) := by decide +kernel
theorem dX8_linesInAll_38 : decode cX8_linesInAll 38 = .ok (.goto (-34), 3) := by decide +kernel
theorem dX8_linesInAll_41 : decode cX8_linesInAll 41 = .ok (.iload_n 1, 1) := by decide +kernel
theorem dX8_linesInAll_42 : decode cX8_linesInAll 42 = .ok (.ireturn, 1) := by decide +kernel
theorem dX8_weightOfSort_0 : decode cX8_weightOfSort 0 = .ok (.lconst 0, 1) := by decide +kernel
theorem dX8_weightOfSort_1 : decode cX8_weightOfSort 1 = .ok (.lstore_n 2, 1) := by decide +kernel
theorem dX8_weightOfSort_2 : decode cX8_weightOfSort 2 = .ok (.iconst 0, 1) := by decide +kernel
theorem dX8_weightOfSort_3 : decode cX8_weightOfSort 3 = .ok (.istore 4, 2) := by decide +kernel
theorem dX8_weightOfSort_5 : decode cX8_weightOfSort 5 = .ok (.iload 4, 2) := by decide +kernel
theorem dX8_weightOfSort_7 : decode cX8_weightOfSort 7 = .ok (.aload_n 0, 1) := by decide +kernel
theorem dX8_weightOfSort_8 : decode cX8_weightOfSort 8 = .ok (.getfield 19, 3) := by decide +kernel
theorem dX8_weightOfSort_11 : decode cX8_weightOfSort 11 = .ok (.invokevirtual 81, 3) := by decide +kernel
theorem dX8_weightOfSort_14 : decode cX8_weightOfSort 14 = .ok (.if_icmp .ge 45, 3) := by decide +kernel
theorem dX8_weightOfSort_17 : decode cX8_weightOfSort 17 = .ok (.aload_n 0, 1) := by decide +kernel
theorem dX8_weightOfSort_18 : decode cX8_weightOfSort 18 = .ok (.getfield 19, 3) := by decide +kernel
theorem dX8_weightOfSort_21 : decode cX8_weightOfSort 21 = .ok (.iload 4, 2) := by decide +kernel
theorem dX8_weightOfSort_23 : decode cX8_weightOfSort 23 = .ok (.invokevirtual 85, 3) := by decide +kernel
theorem dX8_weightOfSort_26 : decode cX8_weightOfSort 26 = .ok (.checkcast 89, 3) := by decide +kernel
theorem dX8_weightOfSort_29 : decode cX8_weightOfSort 29 = .ok (.astore 5, 2) := by decide +kernel
theorem dX8_weightOfSort_31 : decode cX8_weightOfSort 31 = .ok (.lload_n 2, 1) := by decide +kernel
theorem dX8_weightOfSort_32 : decode cX8_weightOfSort 32 = .ok (.aload 5, 2) := by decide +kernel
theorem dX8_weightOfSort_34 : decode cX8_weightOfSort 34 = .ok (.iload_n 1, 1) := by decide +kernel
theorem dX8_weightOfSort_35 : decode cX8_weightOfSort 35 = .ok (.invokevirtual 241, 3) := by decide +kernel
theorem dX8_weightOfSort_38 : decode cX8_weightOfSort 38 = .ok (.ifCond .eq 12, 3) := by decide +kernel
theorem dX8_weightOfSort_41 : decode cX8_weightOfSort 41 = .ok (.aload 5, 2) := by decide +kernel
theorem dX8_weightOfSort_43 : decode cX8_weightOfSort 43 = .ok (.getfield 184, 3) := by decide +kernel
theorem dX8_weightOfSort_46 : decode cX8_weightOfSort 46 = .ok (.i2l, 1) := by decide +kernel
theorem dX8_weightOfSort_47 : decode cX8_weightOfSort 47 = .ok (.goto 4, 3) := by decide +kernel
theorem dX8_weightOfSort_50 : decode cX8_weightOfSort 50 = .ok (.lconst 0, 1) := by decide +kernel
theorem dX8_weightOfSort_51 : decode cX8_weightOfSort 51 = .ok (.ladd, 1) := by decide +kernel
theorem dX8_weightOfSort_52 : decode cX8_weightOfSort 52 = .ok (.lstore_n 2, 1) := by decide +kernel
theorem dX8_weightOfSort_53 : decode cX8_weightOfSort 53 = .ok (.iinc 4 1, 3) := by decide +kernel
theorem dX8_weightOfSort_56 : decode cX8_weightOfSort 56 = .ok (.goto (-51), 3) := by decide +kernel
theorem dX8_weightOfSort_59 : decode cX8_weightOfSort 59 = .ok (.lload_n 2, 1) := by decide +kernel
theorem dX8_weightOfSort_60 : decode cX8_weightOfSort 60 = .ok (.lreturn, 1) := by decide +kernel
theorem dX8_weighSort_0 : decode cX8_weighSort 0 = .ok (.aload_n 0, 1) := by decide +kernel
theorem dX8_weighSort_1 : decode cX8_weighSort 1 = .ok (.iload_n 1, 1) := by decide +kernel
theorem dX8_weighSort_2 : decode cX8_weighSort 2 = .ok (.invokevirtual 245, 3) := by decide +kernel
theorem dX8_weighSort_5 : decode cX8_weighSort 5 = .ok (.lstore_n 2, 1) := by decide +kernel
theorem dX8_weighSort_6 : decode cX8_weighSort 6 = .ok (.lload_n 2, 1) := by decide +kernel
theorem dX8_weighSort_7 : decode cX8_weighSort 7 = .ok (.lconst 0, 1) := by decide +kernel
theorem dX8_weighSort_8 : decode cX8_weighSort 8 = .ok (.lcmp, 1) := by decide +kernel
theorem dX8_weighSort_9 : decode cX8_weighSort 9 = .ok (.ifCond .eq 12, 3) := by decide +kernel
theorem dX8_weighSort_12 : decode cX8_weighSort 12 = .ok (.iload_n 1, 1) := by decide +kernel
theorem dX8_weighSort_13 : decode cX8_weighSort 13 = .ok (.iconst 0, 1) := by decide +kernel
theorem dX8_weighSort_14 : decode cX8_weighSort 14 = .ok (.iconst 4, 1) := by decide +kernel
theorem dX8_weighSort_15 : decode cX8_weighSort 15 = .ok (.invokestatic 69, 3) := by decide +kernel
theorem dX8_weighSort_18 : decode cX8_weighSort 18 = .ok (.ifCond .ne 4, 3) := by decide +kernel
theorem dX8_weighSort_21 : decode cX8_weighSort 21 = .ok (.return_, 1) := by decide +kernel
theorem dX8_weighSort_22 : decode cX8_weighSort 22 = .ok (.iconst 0, 1) := by decide +kernel
theorem dX8_weighSort_23 : decode cX8_weighSort 23 = .ok (.istore 4, 2) := by decide +kernel
theorem dX8_weighSort_25 : decode cX8_weighSort 25 = .ok (.iload 4, 2) := by decide +kernel
theorem dX8_weighSort_27 : decode cX8_weighSort 27 = .ok (.aload_n 0, 1) := by decide +kernel
theorem dX8_weighSort_28 : decode cX8_weighSort 28 = .ok (.getfield 19, 3) := by decide +kernel
theorem dX8_weighSort_31 : decode cX8_weighSort 31 = .ok (.invokevirtual 81, 3) := by decide +kernel
theorem dX8_weighSort_34 : decode cX8_weighSort 34 = .ok (.if_icmp .ge 58, 3) := by decide +kernel
theorem dX8_weighSort_37 : decode cX8_weighSort 37 = .ok (.aload_n 0, 1) := by decide +kernel
theorem dX8_weighSort_38 : decode cX8_weighSort 38 = .ok (.getfield 19, 3) := by decide +kernel
theorem dX8_weighSort_41 : decode cX8_weighSort 41 = .ok (.iload 4, 2) := by decide +kernel
theorem dX8_weighSort_43 : decode cX8_weighSort 43 = .ok (.invokevirtual 85, 3) := by decide +kernel
theorem dX8_weighSort_46 : decode cX8_weighSort 46 = .ok (.checkcast 89, 3) := by decide +kernel
theorem dX8_weighSort_49 : decode cX8_weighSort 49 = .ok (.astore 5, 2) := by decide +kernel
theorem dX8_weighSort_51 : decode cX8_weighSort 51 = .ok (.aload 5, 2) := by decide +kernel
theorem dX8_weighSort_53 : decode cX8_weighSort 53 = .ok (.iload_n 1, 1) := by decide +kernel
theorem dX8_weighSort_54 : decode cX8_weighSort 54 = .ok (.invokevirtual 241, 3) := by decide +kernel
theorem dX8_weighSort_57 : decode cX8_weighSort 57 = .ok (.ifCond .eq 29, 3) := by decide +kernel
theorem dX8_weighSort_60 : decode cX8_weighSort 60 = .ok (.aload 5, 2) := by decide +kernel
theorem dX8_weighSort_62 : decode cX8_weighSort 62 = .ok (.aload 5, 2) := by decide +kernel
theorem dX8_weighSort_64 : decode cX8_weighSort 64 = .ok (.getfield 184, 3) := by decide +kernel
theorem dX8_weighSort_67 : decode cX8_weighSort 67 = .ok (.i2l, 1) := by decide +kernel
theorem dX8_weighSort_68 : decode cX8_weighSort 68 = .ok (.aload_n 0, 1) := by decide +kernel
theorem dX8_weighSort_69 : decode cX8_weighSort 69 = .ok (.getfield 58, 3) := by decide +kernel
theorem dX8_weighSort_72 : decode cX8_weighSort 72 = .ok (.iload_n 1, 1) := by decide +kernel
theorem dX8_weighSort_73 : decode cX8_weighSort 73 = .ok (.iaload, 1) := by decide +kernel
theorem dX8_weighSort_74 : decode cX8_weighSort 74 = .ok (.i2l, 1) := by decide +kernel
theorem dX8_weighSort_75 : decode cX8_weighSort 75 = .ok (.lmul, 1) := by decide +kernel
theorem dX8_weighSort_76 : decode cX8_weighSort 76 = .ok (.ldc2_w 194, 3) := by decide +kernel
theorem dX8_weighSort_79 : decode cX8_weighSort 79 = .ok (.lmul, 1) := by decide +kernel
theorem dX8_weighSort_80 : decode cX8_weighSort 80 = .ok (.lload_n 2, 1) := by decide +kernel
theorem dX8_weighSort_81 : decode cX8_weighSort 81 = .ok (.ldiv, 1) := by decide +kernel
theorem dX8_weighSort_82 : decode cX8_weighSort 82 = .ok (.l2i, 1) := by decide +kernel
theorem dX8_weighSort_83 : decode cX8_weighSort 83 = .ok (.putfield 184, 3) := by decide +kernel
theorem dX8_weighSort_86 : decode cX8_weighSort 86 = .ok (.iinc 4 1, 3) := by decide +kernel
theorem dX8_weighSort_89 : decode cX8_weighSort 89 = .ok (.goto (-64), 3) := by decide +kernel
theorem dX8_weighSort_92 : decode cX8_weighSort 92 = .ok (.return_, 1) := by decide +kernel
theorem dX8_hasSort_0 : decode cX8_hasSort 0 = .ok (.iconst 0, 1) := by decide +kernel
theorem dX8_hasSort_1 : decode cX8_hasSort 1 = .ok (.istore_n 2, 1) := by decide +kernel
theorem dX8_hasSort_2 : decode cX8_hasSort 2 = .ok (.iload_n 2, 1) := by decide +kernel
theorem dX8_hasSort_3 : decode cX8_hasSort 3 = .ok (.aload_n 0, 1) := by decide +kernel
theorem dX8_hasSort_4 : decode cX8_hasSort 4 = .ok (.getfield 19, 3) := by decide +kernel
theorem dX8_hasSort_7 : decode cX8_hasSort 7 = .ok (.invokevirtual 81, 3) := by decide +kernel
theorem dX8_hasSort_10 : decode cX8_hasSort 10 = .ok (.if_icmp .ge 29, 3) := by decide +kernel
theorem dX8_hasSort_13 : decode cX8_hasSort 13 = .ok (.aload_n 0, 1) := by decide +kernel
theorem dX8_hasSort_14 : decode cX8_hasSort 14 = .ok (.getfield 19, 3) := by decide +kernel
theorem dX8_hasSort_17 : decode cX8_hasSort 17 = .ok (.iload_n 2, 1) := by decide +kernel
theorem dX8_hasSort_18 : decode cX8_hasSort 18 = .ok (.invokevirtual 85, 3) := by decide +kernel
theorem dX8_hasSort_21 : decode cX8_hasSort 21 = .ok (.checkcast 89, 3) := by decide +kernel
theorem dX8_hasSort_24 : decode cX8_hasSort 24 = .ok (.iload_n 1, 1) := by decide +kernel
theorem dX8_hasSort_25 : decode cX8_hasSort 25 = .ok (.invokevirtual 241, 3) := by decide +kernel
theorem dX8_hasSort_28 : decode cX8_hasSort 28 = .ok (.ifCond .eq 5, 3) := by decide +kernel
theorem dX8_hasSort_31 : decode cX8_hasSort 31 = .ok (.iconst 1, 1) := by decide +kernel
theorem dX8_hasSort_32 : decode cX8_hasSort 32 = .ok (.ireturn, 1) := by decide +kernel
theorem dX8_hasSort_33 : decode cX8_hasSort 33 = .ok (.iinc 2 1, 3) := by decide +kernel
theorem dX8_hasSort_36 : decode cX8_hasSort 36 = .ok (.goto (-34), 3) := by decide +kernel
theorem dX8_hasSort_39 : decode cX8_hasSort 39 = .ok (.iconst 0, 1) := by decide +kernel
theorem dX8_hasSort_40 : decode cX8_hasSort 40 = .ok (.ireturn, 1) := by decide +kernel
theorem dX8_greatestDifference_0 : decode cX8_greatestDifference 0 = .ok (.lconst 0, 1) := by decide +kernel
theorem dX8_greatestDifference_1 : decode cX8_greatestDifference 1 = .ok (.lstore_n 1, 1) := by decide +kernel
theorem dX8_greatestDifference_2 : decode cX8_greatestDifference 2 = .ok (.iconst 0, 1) := by decide +kernel
theorem dX8_greatestDifference_3 : decode cX8_greatestDifference 3 = .ok (.istore_n 3, 1) := by decide +kernel
theorem dX8_greatestDifference_4 : decode cX8_greatestDifference 4 = .ok (.iload_n 3, 1) := by decide +kernel
theorem dX8_greatestDifference_5 : decode cX8_greatestDifference 5 = .ok (.iconst 5, 1) := by decide +kernel
theorem dX8_greatestDifference_6 : decode cX8_greatestDifference 6 = .ok (.if_icmp .ge 46, 3) := by decide +kernel
theorem dX8_greatestDifference_9 : decode cX8_greatestDifference 9 = .ok (.aload_n 0, 1) := by decide +kernel
theorem dX8_greatestDifference_10 : decode cX8_greatestDifference 10 = .ok (.iload_n 3, 1) := by decide +kernel
theorem dX8_greatestDifference_11 : decode cX8_greatestDifference 11 = .ok (.invokevirtual 249, 3) := by decide +kernel
theorem dX8_greatestDifference_14 : decode cX8_greatestDifference 14 = .ok (.ifCond .eq 32, 3) := by decide +kernel
theorem dX8_greatestDifference_17 : decode cX8_greatestDifference 17 = .ok (.aload_n 0, 1) := by decide +kernel
theorem dX8_greatestDifference_18 : decode cX8_greatestDifference 18 = .ok (.iload_n 3, 1) := by decide +kernel
theorem dX8_greatestDifference_19 : decode cX8_greatestDifference 19 = .ok (.invokevirtual 245, 3) := by decide +kernel
theorem dX8_greatestDifference_22 : decode cX8_greatestDifference 22 = .ok (.ldc2_w 194, 3) := by decide +kernel
theorem dX8_greatestDifference_25 : decode cX8_greatestDifference 25 = .ok (.ldiv, 1) := by decide +kernel
theorem dX8_greatestDifference_26 : decode cX8_greatestDifference 26 = .ok (.aload_n 0, 1) := by decide +kernel
theorem dX8_greatestDifference_27 : decode cX8_greatestDifference 27 = .ok (.getfield 58, 3) := by decide +kernel
theorem dX8_greatestDifference_30 : decode cX8_greatestDifference 30 = .ok (.iload_n 3, 1) := by decide +kernel
theorem dX8_greatestDifference_31 : decode cX8_greatestDifference 31 = .ok (.iaload, 1) := by decide +kernel
theorem dX8_greatestDifference_32 : decode cX8_greatestDifference 32 = .ok (.i2l, 1) := by decide +kernel
theorem dX8_greatestDifference_33 : decode cX8_greatestDifference 33 = .ok (.lsub, 1) := by decide +kernel
theorem dX8_greatestDifference_34 : decode cX8_greatestDifference 34 = .ok (.invokestatic 252, 3) := by decide +kernel
theorem dX8_greatestDifference_37 : decode cX8_greatestDifference 37 = .ok (.lstore 4, 2) := by decide +kernel
theorem dX8_greatestDifference_39 : decode cX8_greatestDifference 39 = .ok (.lload_n 1, 1) := by decide +kernel
theorem dX8_greatestDifference_40 : decode cX8_greatestDifference 40 = .ok (.lload 4, 2) := by decide +kernel
theorem dX8_greatestDifference_42 : decode cX8_greatestDifference 42 = .ok (.invokestatic 258, 3) := by decide +kernel
theorem dX8_greatestDifference_45 : decode cX8_greatestDifference 45 = .ok (.lstore_n 1, 1) := by decide +kernel
theorem dX8_greatestDifference_46 : decode cX8_greatestDifference 46 = .ok (.iinc 3 1, 3) := by decide +kernel
theorem dX8_greatestDifference_49 : decode cX8_greatestDifference 49 = .ok (.goto (-45), 3) := by decide +kernel
theorem dX8_greatestDifference_52 : decode cX8_greatestDifference 52 = .ok (.lload_n 1, 1) := by decide +kernel
theorem dX8_greatestDifference_53 : decode cX8_greatestDifference 53 = .ok (.l2i, 1) := by decide +kernel
theorem dX8_greatestDifference_54 : decode cX8_greatestDifference 54 = .ok (.ireturn, 1) := by decide +kernel
theorem dX9_init_0 : decode cX9_init 0 = .ok (.aload_n 0, 1) := by decide +kernel
theorem dX9_init_1 : decode cX9_init 1 = .ok (.invokespecial 1, 3) := by decide +kernel
theorem dX9_init_4 : decode cX9_init 4 = .ok (.aload_n 0, 1) := by decide +kernel
theorem dX9_init_5 : decode cX9_init 5 = .ok (.sipush 800, 3) := by decide +kernel
theorem dX9_init_8 : decode cX9_init 8 = .ok (.newarray .int, 2) := by decide +kernel
theorem dX9_init_10 : decode cX9_init 10 = .ok (.putfield 7, 3) := by decide +kernel
theorem dX9_init_13 : decode cX9_init 13 = .ok (.aload_n 0, 1) := by decide +kernel
theorem dX9_init_14 : decode cX9_init 14 = .ok (.sipush 802, 3) := by decide +kernel
theorem dX9_init_17 : decode cX9_init 17 = .ok (.newarray .int, 2) := by decide +kernel
theorem dX9_init_19 : decode cX9_init 19 = .ok (.putfield 13, 3) := by decide +kernel
theorem dX9_init_22 : decode cX9_init 22 = .ok (.aload_n 0, 1) := by decide +kernel
theorem dX9_init_23 : decode cX9_init 23 = .ok (.sipush 802, 3) := by decide +kernel
theorem dX9_init_26 : decode cX9_init 26 = .ok (.newarray .int, 2) := by decide +kernel
theorem dX9_init_28 : decode cX9_init 28 = .ok (.putfield 16, 3) := by decide +kernel
theorem dX9_init_31 : decode cX9_init 31 = .ok (.aload_n 0, 1) := by decide +kernel
theorem dX9_init_32 : decode cX9_init 32 = .ok (.sipush 802, 3) := by decide +kernel
theorem dX9_init_35 : decode cX9_init 35 = .ok (.newarray .long, 2) := by decide +kernel
theorem dX9_init_37 : decode cX9_init 37 = .ok (.putfield 19, 3) := by decide +kernel
theorem dX9_init_40 : decode cX9_init 40 = .ok (.aload_n 0, 1) := by decide +kernel
theorem dX9_init_41 : decode cX9_init 41 = .ok (.bipush 14, 2) := by decide +kernel
theorem dX9_init_43 : decode cX9_init 43 = .ok (.newarray .long, 2) := by decide +kernel
theorem dX9_init_45 : decode cX9_init 45 = .ok (.dup, 1) := by decide +kernel
theorem dX9_init_46 : decode cX9_init 46 = .ok (.iconst 0, 1) := by decide +kernel
theorem dX9_init_47 : decode cX9_init 47 = .ok (.ldc2_w 23, 3) := by decide +kernel
theorem dX9_init_50 : decode cX9_init 50 = .ok (.lastore, 1) := by decide +kernel
theorem dX9_init_51 : decode cX9_init 51 = .ok (.dup, 1) := by decide +kernel
theorem dX9_init_52 : decode cX9_init 52 = .ok (.iconst 1, 1) := by decide +kernel
theorem dX9_init_53 : decode cX9_init 53 = .ok (.ldc2_w 25, 3) := by decide +kernel
theorem dX9_init_56 : decode cX9_init 56 = .ok (.lastore, 1) := by decide +kernel
theorem dX9_init_57 : decode cX9_init 57 = .ok (.dup, 1) := by decide +kernel
theorem dX9_init_58 : decode cX9_init 58 = .ok (.iconst 2, 1) := by decide +kernel
theorem dX9_init_59 : decode cX9_init 59 = .ok (.ldc2_w 27, 3) := by decide +kernel
theorem dX9_init_62 : decode cX9_init 62 = .ok (.lastore, 1) := by decide +kernel
theorem dX9_init_63 : decode cX9_init 63 = .ok (.dup, 1) := by decide +kernel
theorem dX9_init_64 : decode cX9_init 64 = .ok (.iconst 3, 1) := by decide +kernel
theorem dX9_init_65 : decode cX9_init 65 = .ok (.ldc2_w 29, 3) := by decide +kernel
theorem dX9_init_68 : decode cX9_init 68 = .ok (.lastore, 1) := by decide +kernel
theorem dX9_init_69 : decode cX9_init 69 = .ok (.dup, 1) := by decide +kernel
theorem dX9_init_70 : decode cX9_init 70 = .ok (.iconst 4, 1) := by decide +kernel
theorem dX9_init_71 : decode cX9_init 71 = .ok (.ldc2_w 31, 3) := by decide +kernel
theorem dX9_init_74 : decode cX9_init 74 = .ok (.lastore, 1) := by decide +kernel
theorem dX9_init_75 : decode cX9_init 75 = .ok (.dup, 1) := by decide +kernel
theorem dX9_init_76 : decode cX9_init 76 = .ok (.iconst 5, 1) := by decide +kernel
theorem dX9_init_77 : decode cX9_init 77 = .ok (.ldc2_w 33, 3) := by decide +kernel
theorem dX9_init_80 : decode cX9_init 80 = .ok (.lastore, 1) := by decide +kernel
theorem dX9_init_81 : decode cX9_init 81 = .ok (.dup, 1) := by decide +kernel
theorem dX9_init_82 : decode cX9_init 82 = .ok (.bipush 6, 2) := by decide +kernel
theorem dX9_init_84 : decode cX9_init 84 = .ok (.ldc2_w 35, 3) := by decide +kernel
theorem dX9_init_87 : decode cX9_init 87 = .ok (.lastore, 1) := by decide +kernel
theorem dX9_init_88 : decode cX9_init 88 = .ok (.dup, 1) := by decide +kernel
theorem dX9_init_89 : decode cX9_init 89 = .ok (.bipush 7, 2) := by decide +kernel
theorem dX9_init_91 : decode cX9_init 91 = .ok (.ldc2_w 37, 3) := by decide +kernel
theorem dX9_init_94 : decode cX9_init 94 = .ok (.lastore, 1) := by decide +kernel
theorem dX9_init_95 : decode cX9_init 95 = .ok (.dup, 1) := by decide +kernel
theorem dX9_init_96 : decode cX9_init 96 = .ok (.bipush 8, 2) := by decide +kernel
theorem dX9_init_98 : decode cX9_init 98 = .ok (.ldc2_w 39, 3) := by decide +kernel
theorem dX9_init_101 : decode cX9_init 101 = .ok (.lastore, 1) := by decide +kernel
theorem dX9_init_102 : decode cX9_init 102 = .ok (.dup, 1) := by decide +kernel
theorem dX9_init_103 : decode cX9_init 103 = .ok (.bipush 9, 2) := by decide +kernel
theorem dX9_init_105 : decode cX9_init 105 = .ok (.ldc2_w 41, 3) := by decide +kernel
theorem dX9_init_108 : decode cX9_init 108 = .ok (.lastore, 1) := by decide +kernel
theorem dX9_init_109 : decode cX9_init 109 = .ok (.dup, 1) := by decide +kernel
theorem dX9_init_110 : decode cX9_init 110 = .ok (.bipush 10, 2) := by decide +kernel
theorem dX9_init_112 : decode cX9_init 112 = .ok (.ldc2_w 43, 3) := by decide +kernel
theorem dX9_init_115 : decode cX9_init 115 = .ok (.lastore, 1) := by decide +kernel
theorem dX9_init_116 : decode cX9_init 116 = .ok (.dup, 1) := by decide +kernel
theorem dX9_init_117 : decode cX9_init 117 = .ok (.bipush 11, 2) := by decide +kernel
theorem dX9_init_119 : decode cX9_init 119 = .ok (.ldc2_w 45, 3) := by decide +kernel
theorem dX9_init_122 : decode cX9_init 122 = .ok (.lastore, 1) := by decide +kernel
theorem dX9_init_123 : decode cX9_init 123 = .ok (.dup, 1) := by decide +kernel
theorem dX9_init_124 : decode cX9_init 124 = .ok (.bipush 12, 2) := by decide +kernel
theorem dX9_init_126 : decode cX9_init 126 = .ok (.ldc2_w 47, 3) := by decide +kernel
theorem dX9_init_129 : decode cX9_init 129 = .ok (.lastore, 1) := by decide +kernel
theorem dX9_init_130 : decode cX9_init 130 = .ok (.dup, 1) := by decide +kernel
theorem dX9_init_131 : decode cX9_init 131 = .ok (.bipush 13, 2) := by decide +kernel
theorem dX9_init_133 : decode cX9_init 133 = .ok (.ldc2_w 49, 3) := by decide +kernel
theorem dX9_init_136 : decode cX9_init 136 = .ok (.lastore, 1) := by decide +kernel
theorem dX9_init_137 : decode cX9_init 137 = .ok (.putfield 51, 3) := by decide +kernel
theorem dX9_init_140 : decode cX9_init 140 = .ok (.aload_n 0, 1) := by decide +kernel
theorem dX9_init_141 : decode cX9_init 141 = .ok (.iconst (-1), 1) := by decide +kernel
theorem dX9_init_142 : decode cX9_init 142 = .ok (.putfield 54, 3) := by decide +kernel
theorem dX9_init_145 : decode cX9_init 145 = .ok (.aload_n 0, 1) := by decide +kernel
theorem dX9_init_146 : decode cX9_init 146 = .ok (.bipush 9, 2) := by decide +kernel
theorem dX9_init_148 : decode cX9_init 148 = .ok (.newarray .int, 2) := by decide +kernel
theorem dX9_init_150 : decode cX9_init 150 = .ok (.putfield 58, 3) := by decide +kernel
theorem dX9_init_153 : decode cX9_init 153 = .ok (.aload_n 0, 1) := by decide +kernel
theorem dX9_init_154 : decode cX9_init 154 = .ok (.bipush 9, 2) := by decide +kernel
theorem dX9_init_156 : decode cX9_init 156 = .ok (.newarray .int, 2) := by decide +kernel
theorem dX9_init_158 : decode cX9_init 158 = .ok (.putfield 61, 3) := by decide +kernel
theorem dX9_init_161 : decode cX9_init 161 = .ok (.aload_n 0, 1) := by decide +kernel
theorem dX9_init_162 : decode cX9_init 162 = .ok (.sipush 216, 3) := by decide +kernel
theorem dX9_init_165 : decode cX9_init 165 = .ok (.newarray .int, 2) := by decide +kernel
theorem dX9_init_167 : decode cX9_init 167 = .ok (.putfield 64, 3) := by decide +kernel
theorem dX9_init_170 : decode cX9_init 170 = .ok (.aload_n 0, 1) := by decide +kernel
theorem dX9_init_171 : decode cX9_init 171 = .ok (.sipush 216, 3) := by decide +kernel
theorem dX9_init_174 : decode cX9_init 174 = .ok (.newarray .int, 2) := by decide +kernel
theorem dX9_init_176 : decode cX9_init 176 = .ok (.putfield 67, 3) := by decide +kernel
theorem dX9_init_179 : decode cX9_init 179 = .ok (.aload_n 0, 1) := by decide +kernel
theorem dX9_init_180 : decode cX9_init 180 = .ok (.sipush 7920, 3) := by decide +kernel
theorem dX9_init_183 : decode cX9_init 183 = .ok (.newarray .int, 2) := by decide +kernel
theorem dX9_init_185 : decode cX9_init 185 = .ok (.putfield 70, 3) := by decide +kernel
theorem dX9_init_188 : decode cX9_init 188 = .ok (.aload_n 0, 1) := by decide +kernel
theorem dX9_init_189 : decode cX9_init 189 = .ok (.sipush 7920, 3) := by decide +kernel
theorem dX9_init_192 : decode cX9_init 192 = .ok (.newarray .int, 2) := by decide +kernel
theorem dX9_init_194 : decode cX9_init 194 = .ok (.putfield 73, 3) := by decide +kernel
theorem dX9_init_197 : decode cX9_init 197 = .ok (.aload_n 0, 1) := by decide +kernel
theorem dX9_init_198 : decode cX9_init 198 = .ok (.bipush 7, 2) := by decide +kernel
theorem dX9_init_200 : decode cX9_init 200 = .ok (.newarray .int, 2) := by decide +kernel
theorem dX9_init_202 : decode cX9_init 202 = .ok (.putfield 76, 3) := by decide +kernel
theorem dX9_init_205 : decode cX9_init 205 = .ok (.aload_n 0, 1) := by decide +kernel
theorem dX9_init_206 : decode cX9_init 206 = .ok (.bipush 7, 2) := by decide +kernel
theorem dX9_init_208 : decode cX9_init 208 = .ok (.newarray .int, 2) := by decide +kernel
theorem dX9_init_210 : decode cX9_init 210 = .ok (.putfield 79, 3) := by decide +kernel
theorem dX9_init_213 : decode cX9_init 213 = .ok (.aload_n 0, 1) := by decide +kernel
theorem dX9_init_214 : decode cX9_init 214 = .ok (.bipush 7, 2) := by decide +kernel
theorem dX9_init_216 : decode cX9_init 216 = .ok (.newarray .int, 2) := by decide +kernel
theorem dX9_init_218 : decode cX9_init 218 = .ok (.putfield 82, 3) := by decide +kernel
theorem dX9_init_221 : decode cX9_init 221 = .ok (.aload_n 0, 1) := by decide +kernel
theorem dX9_init_222 : decode cX9_init 222 = .ok (.bipush 7, 2) := by decide +kernel
theorem dX9_init_224 : decode cX9_init 224 = .ok (.newarray .int, 2) := by decide +kernel
theorem dX9_init_226 : decode cX9_init 226 = .ok (.putfield 85, 3) := by decide +kernel
theorem dX9_init_229 : decode cX9_init 229 = .ok (.aload_n 0, 1) := by decide +kernel
theorem dX9_init_230 : decode cX9_init 230 = .ok (.iconst 3, 1) := by decide +kernel
theorem dX9_init_231 : decode cX9_init 231 = .ok (.newarray .int, 2) := by decide +kernel
theorem dX9_init_233 : decode cX9_init 233 = .ok (.putfield 88, 3) := by decide +kernel
theorem dX9_init_236 : decode cX9_init 236 = .ok (.aload_n 0, 1) := by decide +kernel
theorem dX9_init_237 : decode cX9_init 237 = .ok (.sipush 880, 3) := by decide +kernel
theorem dX9_init_240 : decode cX9_init 240 = .ok (.newarray .int, 2) := by decide +kernel
theorem dX9_init_242 : decode cX9_init 242 = .ok (.putfield 91, 3) := by decide +kernel
theorem dX9_init_245 : decode cX9_init 245 = .ok (.aload_n 0, 1) := by decide +kernel
theorem dX9_init_246 : decode cX9_init 246 = .ok (.sipush 201, 3) := by decide +kernel
theorem dX9_init_249 : decode cX9_init 249 = .ok (.newarray .int, 2) := by decide +kernel
theorem dX9_init_251 : decode cX9_init 251 = .ok (.putfield 94, 3) := by decide +kernel
theorem dX9_init_254 : decode cX9_init 254 = .ok (.aload_n 0, 1) := by decide +kernel
theorem dX9_init_255 : decode cX9_init 255 = .ok (.bipush 40, 2) := by decide +kernel
theorem dX9_init_257 : decode cX9_init 257 = .ok (.newarray .int, 2) := by decide +kernel
theorem dX9_init_259 : decode cX9_init 259 = .ok (.putfield 97, 3) := by decide +kernel
theorem dX9_init_262 : decode cX9_init 262 = .ok (.aload_n 0, 1) := by decide +kernel
theorem dX9_init_263 : decode cX9_init 263 = .ok (.bipush 40, 2) := by decide +kernel
theorem dX9_init_265 : decode cX9_init 265 = .ok (.newarray .int, 2) := by decide +kernel
theorem dX9_init_267 : decode cX9_init 267 = .ok (.putfield 100, 3) := by decide +kernel
theorem dX9_init_270 : decode cX9_init 270 = .ok (.aload_n 0, 1) := by decide +kernel
theorem dX9_init_271 : decode cX9_init 271 = .ok (.bipush 40, 2) := by decide +kernel
theorem dX9_init_273 : decode cX9_init 273 = .ok (.newarray .int, 2) := by decide +kernel
theorem dX9_init_275 : decode cX9_init 275 = .ok (.putfield 103, 3) := by decide +kernel
theorem dX9_init_278 : decode cX9_init 278 = .ok (.aload_n 0, 1) := by decide +kernel
theorem dX9_init_279 : decode cX9_init 279 = .ok (.bipush 40, 2) := by decide +kernel
theorem dX9_init_281 : decode cX9_init 281 = .ok (.newarray .int, 2) := by decide +kernel
theorem dX9_init_283 : decode cX9_init 283 = .ok (.putfield 106, 3) := by decide +kernel
theorem dX9_init_286 : decode cX9_init 286 = .ok (.aload_n 0, 1) := by decide +kernel
theorem dX9_init_287 : decode cX9_init 287 = .ok (.bipush 40, 2) := by decide +kernel
theorem dX9_init_289 : decode cX9_init 289 = .ok (.newarray .int, 2) := by decide +kernel
theorem dX9_init_291 : decode cX9_init 291 = .ok (.putfield 109, 3) := by decide +kernel
theorem dX9_init_294 : decode cX9_init 294 = .ok (.aload_n 0, 1) := by decide +kernel
theorem dX9_init_295 : decode cX9_init 295 = .ok (.bipush 40, 2) := by decide +kernel
theorem dX9_init_297 : decode cX9_init 297 = .ok (.newarray .int, 2) := by decide +kernel
theorem dX9_init_299 : decode cX9_init 299 = .ok (.putfield 112, 3) := by decide +kernel
theorem dX9_init_302 : decode cX9_init 302 = .ok (.aload_n 0, 1) := by decide +kernel
theorem dX9_init_303 : decode cX9_init 303 = .ok (.sipush 5760, 3) := by decide +kernel
theorem dX9_init_306 : decode cX9_init 306 = .ok (.newarray .int, 2) := by decide +kernel
theorem dX9_init_308 : decode cX9_init 308 = .ok (.putfield 115, 3) := by decide +kernel
theorem dX9_init_311 : decode cX9_init 311 = .ok (.aload_n 0, 1) := by decide +kernel
theorem dX9_init_312 : decode cX9_init 312 = .ok (.bipush 24, 2) := by decide +kernel
theorem dX9_init_314 : decode cX9_init 314 = .ok (.newarray .int, 2) := by decide +kernel
theorem dX9_init_316 : decode cX9_init 316 = .ok (.putfield 118, 3) := by decide +kernel
theorem dX9_init_319 : decode cX9_init 319 = .ok (.aload_n 0, 1) := by decide +kernel
theorem dX9_init_320 : decode cX9_init 320 = .ok (.bipush 24, 2) := by decide +kernel
theorem dX9_init_322 : decode cX9_init 322 = .ok (.newarray .int, 2) := by decide +kernel
theorem dX9_init_324 : decode cX9_init 324 = .ok (.putfield 121, 3) := by decide +kernel
theorem dX9_init_327 : decode cX9_init 327 = .ok (.aload_n 0, 1) := by decide +kernel
theorem dX9_init_328 : decode cX9_init 328 = .ok (.bipush 24, 2) := by decide +kernel
theorem dX9_init_330 : decode cX9_init 330 = .ok (.newarray .boolean, 2) := by decide +kernel
theorem dX9_init_332 : decode cX9_init 332 = .ok (.putfield 124, 3) := by decide +kernel
theorem dX9_init_335 : decode cX9_init 335 = .ok (.aload_n 0, 1) := by decide +kernel
theorem dX9_init_336 : decode cX9_init 336 = .ok (.iconst 5, 1) := by decide +kernel
theorem dX9_init_337 : decode cX9_init 337 = .ok (.newarray .int, 2) := by decide +kernel
theorem dX9_init_339 : decode cX9_init 339 = .ok (.dup, 1) := by decide +kernel
theorem dX9_init_340 : decode cX9_init 340 = .ok (.iconst 0, 1) := by decide +kernel
theorem dX9_init_341 : decode cX9_init 341 = .ok (.iconst 1, 1) := by decide +kernel
theorem dX9_init_342 : decode cX9_init 342 = .ok (.iastore, 1) := by decide +kernel
theorem dX9_init_343 : decode cX9_init 343 = .ok (.dup, 1) := by decide +kernel
theorem dX9_init_344 : decode cX9_init 344 = .ok (.iconst 1, 1) := by decide +kernel
theorem dX9_init_345 : decode cX9_init 345 = .ok (.iconst 1, 1) := by decide +kernel
theorem dX9_init_346 : decode cX9_init 346 = .ok (.iastore, 1) := by decide +kernel
theorem dX9_init_347 : decode cX9_init 347 = .ok (.dup, 1) := by decide +kernel
theorem dX9_init_348 : decode cX9_init 348 = .ok (.iconst 2, 1) := by decide +kernel
theorem dX9_init_349 : decode cX9_init 349 = .ok (.iconst 1, 1) := by decide +kernel
theorem dX9_init_350 : decode cX9_init 350 = .ok (.iastore, 1) := by decide +kernel
theorem dX9_init_351 : decode cX9_init 351 = .ok (.dup, 1) := by decide +kernel
theorem dX9_init_352 : decode cX9_init 352 = .ok (.iconst 3, 1) := by decide +kernel
theorem dX9_init_353 : decode cX9_init 353 = .ok (.iconst 1, 1) := by decide +kernel
theorem dX9_init_354 : decode cX9_init 354 = .ok (.iastore, 1) := by decide +kernel
theorem dX9_init_355 : decode cX9_init 355 = .ok (.dup, 1) := by decide +kernel
theorem dX9_init_356 : decode cX9_init 356 = .ok (.iconst 4, 1) := by decide +kernel
theorem dX9_init_357 : decode cX9_init 357 = .ok (.iconst 1, 1) := by decide +kernel
theorem dX9_init_358 : decode cX9_init 358 = .ok (.iastore, 1) := by decide +kernel
theorem dX9_init_359 : decode cX9_init 359 = .ok (.putfield 128, 3) := by decide +kernel
theorem dX9_init_362 : decode cX9_init 362 = .ok (.return_, 1) := by decide +kernel
theorem dX9_thrown_0 : decode cX9_thrown 0 = .ok (.aload_n 0, 1) := by decide +kernel
theorem dX9_thrown_1 : decode cX9_thrown 1 = .ok (.getfield 131, 3) := by decide +kernel
theorem dX9_thrown_4 : decode cX9_thrown 4 = .ok (.ireturn, 1) := by decide +kernel
theorem dX9_feed_0 : decode cX9_feed 0 = .ok (.aload_n 0, 1) := by decide +kernel
theorem dX9_feed_1 : decode cX9_feed 1 = .ok (.iconst 0, 1) := by decide +kernel
theorem dX9_feed_2 : decode cX9_feed 2 = .ok (.putfield 131, 3) := by decide +kernel
theorem dX9_feed_5 : decode cX9_feed 5 = .ok (.aload_n 0, 1) := by decide +kernel
theorem dX9_feed_6 : decode cX9_feed 6 = .ok (.lload_n 1, 1) := by decide +kernel
theorem dX9_feed_7 : decode cX9_feed 7 = .ok (.invokevirtual 134, 3) := by decide +kernel
theorem dX9_feed_10 : decode cX9_feed 10 = .ok (.aload_n 0, 1) := by decide +kernel
theorem dX9_feed_11 : decode cX9_feed 11 = .ok (.lload_n 3, 1) := by decide +kernel
theorem dX9_feed_12 : decode cX9_feed 12 = .ok (.invokevirtual 134, 3) := by decide +kernel
theorem dX9_feed_15 : decode cX9_feed 15 = .ok (.aload_n 0, 1) := by decide +kernel
theorem dX9_feed_16 : decode cX9_feed 16 = .ok (.lload 5, 2) := by decide +kernel
theorem dX9_feed_18 : decode cX9_feed 18 = .ok (.invokevirtual 134, 3) := by decide +kernel
theorem dX9_feed_21 : decode cX9_feed 21 = .ok (.aload_n 0, 1) := by decide +kernel
theorem dX9_feed_22 : decode cX9_feed 22 = .ok (.getfield 138, 3) := by decide +kernel
theorem dX9_feed_25 : decode cX9_feed 25 = .ok (.ireturn, 1) := by decide +kernel
theorem dX9_lay_0 : decode cX9_lay 0 = .ok (.bipush 56, 2) := by decide +kernel
theorem dX9_lay_2 : decode cX9_lay 2 = .ok (.istore_n 3, 1) := by decide +kernel
theorem dX9_lay_3 : decode cX9_lay 3 = .ok (.iload_n 3, 1) := by decide +kernel
theorem dX9_lay_4 : decode cX9_lay 4 = .ok (.ifCond .lt 71, 3) := by decide +kernel
theorem dX9_lay_7 : decode cX9_lay 7 = .ok (.lload_n 1, 1) := by decide +kernel
theorem dX9_lay_8 : decode cX9_lay 8 = .ok (.iload_n 3, 1) := by decide +kernel
theorem dX9_lay_9 : decode cX9_lay 9 = .ok (.lshr, 1) := by decide +kernel
theorem dX9_lay_10 : decode cX9_lay 10 = .ok (.l2i, 1) := by decide +kernel
theorem dX9_lay_11 : decode cX9_lay 11 = .ok (.sipush 255, 3) := by decide +kernel
theorem dX9_lay_14 : decode cX9_lay 14 = .ok (.iand, 1) := by decide +kernel
theorem dX9_lay_15 : decode cX9_lay 15 = .ok (.istore 4, 2) := by decide +kernel
theorem dX9_lay_17 : decode cX9_lay 17 = .ok (.iload 4, 2) := by decide +kernel
theorem dX9_lay_19 : decode cX9_lay 19 = .ok (.bipush 10, 2) := by decide +kernel
theorem dX9_lay_21 : decode cX9_lay 21 = .ok (.if_icmp .eq 17, 3) := by decide +kernel
theorem dX9_lay_24 : decode cX9_lay 24 = .ok (.iload 4, 2) := by decide +kernel
theorem dX9_lay_26 : decode cX9_lay 26 = .ok (.bipush 32, 2) := by decide +kernel
theorem dX9_lay_28 : decode cX9_lay 28 = .ok (.if_icmp .lt 41, 3) := by decide +kernel
theorem dX9_lay_31 : decode cX9_lay 31 = .ok (.iload 4, 2) := by decide +kernel
theorem dX9_lay_33 : decode cX9_lay 33 = .ok (.bipush 126, 2) := by decide +kernel
theorem dX9_lay_35 : decode cX9_lay 35 = .ok (.if_icmp .gt 34, 3) := by decide +kernel
theorem dX9_lay_38 : decode cX9_lay 38 = .ok (.aload_n 0, 1) := by decide +kernel
theorem dX9_lay_39 : decode cX9_lay 39 = .ok (.getfield 138, 3) := by decide +kernel
theorem dX9_lay_42 : decode cX9_lay 42 = .ok (.sipush 800, 3) := by decide +kernel
theorem dX9_lay_45 : decode cX9_lay 45 = .ok (.if_icmp .ge 24, 3) := by decide +kernel
theorem dX9_lay_48 : decode cX9_lay 48 = .ok (.aload_n 0, 1) := by decide +kernel
theorem dX9_lay_49 : decode cX9_lay 49 = .ok (.getfield 7, 3) := by decide +kernel
theorem dX9_lay_52 : decode cX9_lay 52 = .ok (.aload_n 0, 1) := by decide +kernel
theorem dX9_lay_53 : decode cX9_lay 53 = .ok (.getfield 138, 3) := by decide +kernel
theorem dX9_lay_56 : decode cX9_lay 56 = .ok (.iload 4, 2) := by decide +kernel
theorem dX9_lay_58 : decode cX9_lay 58 = .ok (.iastore, 1) := by decide +kernel
theorem dX9_lay_59 : decode cX9_lay 59 = .ok (.aload_n 0, 1) := by decide +kernel
theorem dX9_lay_60 : decode cX9_lay 60 = .ok (.dup, 1) := by decide +kernel
theorem dX9_lay_61 : decode cX9_lay 61 = .ok (.getfield 138, 3) := by decide +kernel
theorem dX9_lay_64 : decode cX9_lay 64 = .ok (.iconst 1, 1) := by decide +kernel
theorem dX9_lay_65 : decode cX9_lay 65 = .ok (.iadd, 1) := by decide +kernel
theorem dX9_lay_66 : decode cX9_lay 66 = .ok (.putfield 138, 3) := by decide +kernel
theorem dX9_lay_69 : decode cX9_lay 69 = .ok (.iinc 3 (-8), 3) := by decide +kernel
theorem dX9_lay_72 : decode cX9_lay 72 = .ok (.goto (-69), 3) := by decide +kernel
theorem dX9_lay_75 : decode cX9_lay 75 = .ok (.return_, 1) := by decide +kernel
theorem dX9_isLetter_0 : decode cX9_isLetter 0 = .ok (.iload_n 0, 1) := by decide +kernel
theorem dX9_isLetter_1 : decode cX9_isLetter 1 = .ok (.bipush 97, 2) := by decide +kernel
theorem dX9_isLetter_3 : decode cX9_isLetter 3 = .ok (.if_icmp .lt 13, 3) := by decide +kernel
theorem dX9_isLetter_6 : decode cX9_isLetter 6 = .ok (.iload_n 0, 1) := by decide +kernel
theorem dX9_isLetter_7 : decode cX9_isLetter 7 = .ok (.bipush 122, 2) := by decide +kernel
theorem dX9_isLetter_9 : decode cX9_isLetter 9 = .ok (.if_icmp .gt 7, 3) := by decide +kernel
theorem dX9_isLetter_12 : decode cX9_isLetter 12 = .ok (.iconst 1, 1) := by decide +kernel
theorem dX9_isLetter_13 : decode cX9_isLetter 13 = .ok (.goto 4, 3) := by decide +kernel
theorem dX9_isLetter_16 : decode cX9_isLetter 16 = .ok (.iconst 0, 1) := by decide +kernel
theorem dX9_isLetter_17 : decode cX9_isLetter 17 = .ok (.ireturn, 1) := by decide +kernel
theorem dX9_isDigit_0 : decode cX9_isDigit 0 = .ok (.iload_n 0, 1) := by decide +kernel
theorem dX9_isDigit_1 : decode cX9_isDigit 1 = .ok (.bipush 48, 2) := by decide +kernel
theorem dX9_isDigit_3 : decode cX9_isDigit 3 = .ok (.if_icmp .lt 13, 3) := by decide +kernel
theorem dX9_isDigit_6 : decode cX9_isDigit 6 = .ok (.iload_n 0, 1) := by decide +kernel
theorem dX9_isDigit_7 : decode cX9_isDigit 7 = .ok (.bipush 57, 2) := by decide +kernel
theorem dX9_isDigit_9 : decode cX9_isDigit 9 = .ok (.if_icmp .gt 7, 3) := by decide +kernel
theorem dX9_isDigit_12 : decode cX9_isDigit 12 = .ok (.iconst 1, 1) := by decide +kernel
theorem dX9_isDigit_13 : decode cX9_isDigit 13 = .ok (.goto 4, 3) := by decide +kernel
theorem dX9_isDigit_16 : decode cX9_isDigit 16 = .ok (.iconst 0, 1) := by decide +kernel
theorem dX9_isDigit_17 : decode cX9_isDigit 17 = .ok (.ireturn, 1) := by decide +kernel
theorem dX9_rank_0 : decode cX9_rank 0 = .ok (.iload_n 0, 1) := by decide +kernel
theorem dX9_rank_1 : decode cX9_rank 1 = .ok (.invokestatic 141, 3) := by decide +kernel
theorem dX9_rank_4 : decode cX9_rank 4 = .ok (.ifCond .eq 10, 3) := by decide +kernel
theorem dX9_rank_7 : decode cX9_rank 7 = .ok (.iload_n 0, 1) := by decide +kernel
theorem dX9_rank_8 : decode cX9_rank 8 = .ok (.bipush 96, 2) := by decide +kernel
theorem dX9_rank_10 : decode cX9_rank 10 = .ok (.isub, 1) := by decide +kernel
theorem dX9_rank_11 : decode cX9_rank 11 = .ok (.goto 7, 3) := by decide +kernel
theorem dX9_rank_14 : decode cX9_rank 14 = .ok (.iload_n 0, 1) := by decide +kernel
theorem dX9_rank_15 : decode cX9_rank 15 = .ok (.bipush 21, 2) := by decide +kernel
theorem dX9_rank_17 : decode cX9_rank 17 = .ok (.isub, 1) := by decide +kernel
theorem dX9_rank_18 : decode cX9_rank 18 = .ok (.ireturn, 1) := by decide +kernel
theorem dX9_isSignOf_0 : decode cX9_isSignOf 0 = .ok (.iload_n 0, 1) := by decide +kernel
theorem dX9_isSignOf_1 : decode cX9_isSignOf 1 = .ok (.bipush 40, 2) := by decide +kernel
theorem dX9_isSignOf_3 : decode cX9_isSignOf 3 = .ok (.if_icmp .eq 39, 3) := by decide +kernel
theorem dX9_isSignOf_6 : decode cX9_isSignOf 6 = .ok (.iload_n 0, 1) := by decide +kernel
theorem dX9_isSignOf_7 : decode cX9_isSignOf 7 = .ok (.bipush 41, 2) := by decide +kernel
theorem dX9_isSignOf_9 : decode cX9_isSignOf 9 = .ok (.if_icmp .eq 33, 3) := by decide +kernel
theorem dX9_isSignOf_12 : decode cX9_isSignOf 12 = .ok (.iload_n 0, 1) := by decide +kernel
theorem dX9_isSignOf_13 : decode cX9_isSignOf 13 = .ok (.bipush 59, 2) := by decide +kernel
theorem dX9_isSignOf_15 : decode cX9_isSignOf 15 = .ok (.if_icmp .eq 27, 3) := by decide +kernel
theorem dX9_isSignOf_18 : decode cX9_isSignOf 18 = .ok (.iload_n 0, 1) := by decide +kernel
theorem dX9_isSignOf_19 : decode cX9_isSignOf 19 = .ok (.bipush 61, 2) := by decide +kernel
theorem dX9_isSignOf_21 : decode cX9_isSignOf 21 = .ok (.if_icmp .eq 21, 3) := by decide +kernel
theorem dX9_isSignOf_24 : decode cX9_isSignOf 24 = .ok (.iload_n 0, 1) := by decide +kernel
theorem dX9_isSignOf_25 : decode cX9_isSignOf 25 = .ok (.bipush 60, 2) := by decide +kernel
theorem dX9_isSignOf_27 : decode cX9_isSignOf 27 = .ok (.if_icmp .eq 15, 3) := by decide +kernel
theorem dX9_isSignOf_30 : decode cX9_isSignOf 30 = .ok (.iload_n 0, 1) := by decide +kernel
theorem dX9_isSignOf_31 : decode cX9_isSignOf 31 = .ok (.bipush 43, 2) := by decide +kernel
theorem dX9_isSignOf_33 : decode cX9_isSignOf 33 = .ok (.if_icmp .eq 9, 3) := by decide +kernel
theorem dX9_isSignOf_36 : decode cX9_isSignOf 36 = .ok (.iload_n 0, 1) := by decide +kernel
theorem dX9_isSignOf_37 : decode cX9_isSignOf 37 = .ok (.bipush 45, 2) := by decide +kernel
theorem dX9_isSignOf_39 : decode cX9_isSignOf 39 = .ok (.if_icmp .ne 7, 3) := by decide +kernel
theorem dX9_isSignOf_42 : decode cX9_isSignOf 42 = .ok (.iconst 1, 1) := by decide +kernel
theorem dX9_isSignOf_43 : decode cX9_isSignOf 43 = .ok (.goto 4, 3) := by decide +kernel
theorem dX9_isSignOf_46 : decode cX9_isSignOf 46 = .ok (.iconst 0, 1) := by decide +kernel
theorem dX9_isSignOf_47 : decode cX9_isSignOf 47 = .ok (.ireturn, 1) := by decide +kernel
theorem dX9_cutAll_0 : decode cX9_cutAll 0 = .ok (.aload_n 0, 1) := by decide +kernel
theorem dX9_cutAll_1 : decode cX9_cutAll 1 = .ok (.aload_n 0, 1) := by decide +kernel
theorem dX9_cutAll_2 : decode cX9_cutAll 2 = .ok (.getfield 138, 3) := by decide +kernel
theorem dX9_cutAll_5 : decode cX9_cutAll 5 = .ok (.putfield 145, 3) := by decide +kernel
theorem dX9_cutAll_8 : decode cX9_cutAll 8 = .ok (.aload_n 0, 1) := by decide +kernel
theorem dX9_cutAll_9 : decode cX9_cutAll 9 = .ok (.iconst 0, 1) := by decide +kernel
theorem dX9_cutAll_10 : decode cX9_cutAll 10 = .ok (.putfield 138, 3) := by decide +kernel
theorem dX9_cutAll_13 : decode cX9_cutAll 13 = .ok (.iconst 0, 1) := by decide +kernel
theorem dX9_cutAll_14 : decode cX9_cutAll 14 = .ok (.istore_n 1, 1) := by decide +kernel
theorem dX9_cutAll_15 : decode cX9_cutAll 15 = .ok (.iconst 0, 1) := by decide +kernel
theorem dX9_cutAll_16 : decode cX9_cutAll 16 = .ok (.istore_n 2, 1) := by decide +kernel
theorem dX9_cutAll_17 : decode cX9_cutAll 17 = .ok (.iload_n 2, 1) := by decide +kernel
theorem dX9_cutAll_18 : decode cX9_cutAll 18 = .ok (.aload_n 0, 1) := by decide +kernel
theorem dX9_cutAll_19 : decode cX9_cutAll 19 = .ok (.getfield 145, 3) := by decide +kernel
theorem dX9_cutAll_22 : decode cX9_cutAll 22 = .ok (.if_icmp .ge 257, 3) := by decide +kernel
theorem dX9_cutAll_25 : decode cX9_cutAll 25 = .ok (.aload_n 0, 1) := by decide +kernel
theorem dX9_cutAll_26 : decode cX9_cutAll 26 = .ok (.getfield 7, 3) := by decide +kernel
theorem dX9_cutAll_29 : decode cX9_cutAll 29 = .ok (.iload_n 2, 1) := by decide +kernel
theorem dX9_cutAll_30 : decode cX9_cutAll 30 = .ok (.iaload, 1) := by decide +kernel
theorem dX9_cutAll_31 : decode cX9_cutAll 31 = .ok (.istore_n 3, 1) := by decide +kernel
theorem dX9_cutAll_32 : decode cX9_cutAll 32 = .ok (.iload_n 3, 1) := by decide +kernel
theorem dX9_cutAll_33 : decode cX9_cutAll 33 = .ok (.bipush 10, 2) := by decide +kernel
theorem dX9_cutAll_35 : decode cX9_cutAll 35 = .ok (.if_icmp .eq 9, 3) := by decide +kernel
theorem dX9_cutAll_38 : decode cX9_cutAll 38 = .ok (.iload_n 3, 1) := by decide +kernel
theorem dX9_cutAll_39 : decode cX9_cutAll 39 = .ok (.bipush 32, 2) := by decide +kernel
theorem dX9_cutAll_41 : decode cX9_cutAll 41 = .ok (.if_icmp .ne 9, 3) := by decide +kernel
theorem dX9_cutAll_44 : decode cX9_cutAll 44 = .ok (.iinc 2 1, 3) := by decide +kernel
theorem dX9_cutAll_47 : decode cX9_cutAll 47 = .ok (.goto (-30), 3) := by decide +kernel
theorem dX9_cutAll_50 : decode cX9_cutAll 50 = .ok (.iload_n 2, 1) := by decide +kernel
theorem dX9_cutAll_51 : decode cX9_cutAll 51 = .ok (.istore 4, 2) := by decide +kernel
theorem dX9_cutAll_53 : decode cX9_cutAll 53 = .ok (.lconst 0, 1) := by decide +kernel
theorem dX9_cutAll_54 : decode cX9_cutAll 54 = .ok (.lstore 5, 2) := by decide +kernel
theorem dX9_cutAll_56 : decode cX9_cutAll 56 = .ok (.aload_n 0, 1) := by decide +kernel
theorem dX9_cutAll_57 : decode cX9_cutAll 57 = .ok (.getfield 16, 3) := by decide +kernel
theorem dX9_cutAll_60 : decode cX9_cutAll 60 = .ok (.iload_n 1, 1) := by decide +kernel
theorem dX9_cutAll_61 : decode cX9_cutAll 61 = .ok (.iload_n 2, 1) := by decide +kernel
theorem dX9_cutAll_62 : decode cX9_cutAll 62 = .ok (.iastore, 1) := by decide +kernel
theorem dX9_cutAll_63 : decode cX9_cutAll 63 = .ok (.iload_n 3, 1) := by decide +kernel
theorem dX9_cutAll_64 : decode cX9_cutAll 64 = .ok (.invokestatic 141, 3) := by decide +kernel
theorem dX9_cutAll_67 : decode cX9_cutAll 67 = .ok (.ifCond .eq 85, 3) := by decide +kernel
theorem dX9_cutAll_70 : decode cX9_cutAll 70 = .ok (.iload_n 2, 1) := by decide +kernel
theorem dX9_cutAll_71 : decode cX9_cutAll 71 = .ok (.aload_n 0, 1) := by decide +kernel
theorem dX9_cutAll_72 : decode cX9_cutAll 72 = .ok (.getfield 145, 3) := by decide +kernel
theorem dX9_cutAll_75 : decode cX9_cutAll 75 = .ok (.if_icmp .ge 54, 3) := by decide +kernel
theorem dX9_cutAll_78 : decode cX9_cutAll 78 = .ok (.aload_n 0, 1) := by decide +kernel
theorem dX9_cutAll_79 : decode cX9_cutAll 79 = .ok (.getfield 7, 3) := by decide +kernel
theorem dX9_cutAll_82 : decode cX9_cutAll 82 = .ok (.iload_n 2, 1) := by decide +kernel
theorem dX9_cutAll_83 : decode cX9_cutAll 83 = .ok (.iaload, 1) := by decide +kernel
theorem dX9_cutAll_84 : decode cX9_cutAll 84 = .ok (.invokestatic 141, 3) := by decide +kernel
theorem dX9_cutAll_87 : decode cX9_cutAll 87 = .ok (.ifCond .eq 42, 3) := by decide +kernel
theorem dX9_cutAll_90 : decode cX9_cutAll 90 = .ok (.iload_n 2, 1) := by decide +kernel
theorem dX9_cutAll_91 : decode cX9_cutAll 91 = .ok (.iload 4, 2) := by decide +kernel
theorem dX9_cutAll_93 : decode cX9_cutAll 93 = .ok (.isub, 1) := by decide +kernel
theorem dX9_cutAll_94 : decode cX9_cutAll 94 = .ok (.bipush 8, 2) := by decide +kernel
theorem dX9_cutAll_96 : decode cX9_cutAll 96 = .ok (.if_icmp .ge 23, 3) := by decide +kernel
theorem dX9_cutAll_99 : decode cX9_cutAll 99 = .ok (.ldc2_w 148, 3) := by decide +kernel
theorem dX9_cutAll_102 : decode cX9_cutAll 102 = .ok (.lload 5, 2) := by decide +kernel
theorem dX9_cutAll_104 : decode cX9_cutAll 104 = .ok (.lmul, 1) := by decide +kernel
theorem dX9_cutAll_105 : decode cX9_cutAll 105 = .ok (.aload_n 0, 1) := by decide +kernel
theorem dX9_cutAll_106 : decode cX9_cutAll 106 = .ok (.getfield 7, 3) := by decide +kernel
theorem dX9_cutAll_109 : decode cX9_cutAll 109 = .ok (.iload_n 2, 1) := by decide +kernel
theorem dX9_cutAll_110 : decode cX9_cutAll 110 = .ok (.iaload, 1) := by decide +kernel
theorem dX9_cutAll_111 : decode cX9_cutAll 111 = .ok (.invokestatic 150, 3) := by decide +kernel
theorem dX9_cutAll_114 : decode cX9_cutAll 114 = .ok (.i2l, 1) := by decide +kernel
theorem dX9_cutAll_115 : decode cX9_cutAll 115 = .ok (.ladd, 1) := by decide +kernel
theorem dX9_cutAll_116 : decode cX9_cutAll 116 = .ok (.goto 5, 3) := by decide +kernel
theorem dX9_cutAll_119 : decode cX9_cutAll 119 = .ok (.lload 5, 2) := by decide +kernel
theorem dX9_cutAll_121 : decode cX9_cutAll 121 = .ok (.lstore 5, 2) := by decide +kernel
theorem dX9_cutAll_123 : decode cX9_cutAll 123 = .ok (.iinc 2 1, 3) := by decide +kernel
theorem dX9_cutAll_126 : decode cX9_cutAll 126 = .ok (.goto (-56), 3) := by decide +kernel
theorem dX9_cutAll_129 : decode cX9_cutAll 129 = .ok (.aload_n 0, 1) := by decide +kernel
theorem dX9_cutAll_130 : decode cX9_cutAll 130 = .ok (.getfield 13, 3) := by decide +kernel
theorem dX9_cutAll_133 : decode cX9_cutAll 133 = .ok (.iload_n 1, 1) := by decide +kernel
theorem dX9_cutAll_134 : decode cX9_cutAll 134 = .ok (.iload_n 2, 1) := by decide +kernel
theorem dX9_cutAll_135 : decode cX9_cutAll 135 = .ok (.iload 4, 2) := by decide +kernel
theorem dX9_cutAll_137 : decode cX9_cutAll 137 = .ok (.isub, 1) := by decide +kernel
theorem dX9_cutAll_138 : decode cX9_cutAll 138 = .ok (.bipush 8, 2) := by decide +kernel
theorem dX9_cutAll_140 : decode cX9_cutAll 140 = .ok (.if_icmp .le 7, 3) := by decide +kernel
theorem dX9_cutAll_143 : decode cX9_cutAll 143 = .ok (.iconst 4, 1) := by decide +kernel
theorem dX9_cutAll_144 : decode cX9_cutAll 144 = .ok (.goto 4, 3) := by decide +kernel
theorem dX9_cutAll_147 : decode cX9_cutAll 147 = .ok (.iconst 1, 1) := by decide +kernel
theorem dX9_cutAll_148 : decode cX9_cutAll 148 = .ok (.iastore, 1) := by decide +kernel
theorem dX9_cutAll_149 : decode cX9_cutAll 149 = .ok (.goto 116, 3) := by decide +kernel
theorem dX9_cutAll_152 : decode cX9_cutAll 152 = .ok (.iload_n 3, 1) := by decide +kernel
theorem dX9_cutAll_153 : decode cX9_cutAll 153 = .ok (.invokestatic 154, 3) := by decide +kernel
theorem dX9_cutAll_156 : decode cX9_cutAll 156 = .ok (.ifCond .eq 84, 3) := by decide +kernel
theorem dX9_cutAll_159 : decode cX9_cutAll 159 = .ok (.iload_n 2, 1) := by decide +kernel
theorem dX9_cutAll_160 : decode cX9_cutAll 160 = .ok (.aload_n 0, 1) := by decide +kernel
theorem dX9_cutAll_161 : decode cX9_cutAll 161 = .ok (.getfield 145, 3) := by decide +kernel
theorem dX9_cutAll_164 : decode cX9_cutAll 164 = .ok (.if_icmp .ge 54, 3) := by decide +kernel
theorem dX9_cutAll_167 : decode cX9_cutAll 167 = .ok (.aload_n 0, 1) := by decide +kernel
theorem dX9_cutAll_168 : decode cX9_cutAll 168 = .ok (.getfield 7, 3) := by decide +kernel
theorem dX9_cutAll_171 : decode cX9_cutAll 171 = .ok (.iload_n 2, 1) := by decide +kernel
theorem dX9_cutAll_172 : decode cX9_cutAll 172 = .ok (.iaload, 1) := by decide +kernel
theorem dX9_cutAll_173 : decode cX9_cutAll 173 = .ok (.invokestatic 154, 3) := by decide +kernel
theorem dX9_cutAll_176 : decode cX9_cutAll 176 = .ok (.ifCond .eq 42, 3) := by decide +kernel
theorem dX9_cutAll_179 : decode cX9_cutAll 179 = .ok (.iload_n 2, 1) := by decide +kernel
theorem dX9_cutAll_180 : decode cX9_cutAll 180 = .ok (.iload 4, 2) := by decide +kernel
theorem dX9_cutAll_182 : decode cX9_cutAll 182 = .ok (.isub, 1) := by decide +kernel
theorem dX9_cutAll_183 : decode cX9_cutAll 183 = .ok (.iconst 4, 1) := by decide +kernel
theorem dX9_cutAll_184 : decode cX9_cutAll 184 = .ok (.if_icmp .ge 24, 3) := by decide +kernel
theorem dX9_cutAll_187 : decode cX9_cutAll 187 = .ok (.ldc2_w 157, 3) := by decide +kernel
theorem dX9_cutAll_190 : decode cX9_cutAll 190 = .ok (.lload 5, 2) := by decide +kernel
theorem dX9_cutAll_192 : decode cX9_cutAll 192 = .ok (.lmul, 1) := by decide +kernel
theorem dX9_cutAll_193 : decode cX9_cutAll 193 = .ok (.aload_n 0, 1) := by decide +kernel
theorem dX9_cutAll_194 : decode cX9_cutAll 194 = .ok (.getfield 7, 3) := by decide +kernel
theorem dX9_cutAll_197 : decode cX9_cutAll 197 = .ok (.iload_n 2, 1) := by decide +kernel
theorem dX9_cutAll_198 : decode cX9_cutAll 198 = .ok (.iaload, 1) := by decide +kernel
theorem dX9_cutAll_199 : decode cX9_cutAll 199 = .ok (.i2l, 1) := by decide +kernel
theorem dX9_cutAll_200 : decode cX9_cutAll 200 = .ok (.ladd, 1) := by decide +kernel
theorem dX9_cutAll_201 : decode cX9_cutAll 201 = .ok (.ldc2_w 159, 3) := by decide +kernel
theorem dX9_cutAll_204 : decode cX9_cutAll 204 = .ok (.lsub, 1) := by decide +kernel
theorem dX9_cutAll_205 : decode cX9_cutAll 205 = .ok (.goto 5, 3) := by decide +kernel
theorem dX9_cutAll_208 : decode cX9_cutAll 208 = .ok (.lload 5, 2) := by decide +kernel
theorem dX9_cutAll_210 : decode cX9_cutAll 210 = .ok (.lstore 5, 2) := by decide +kernel
theorem dX9_cutAll_212 : decode cX9_cutAll 212 = .ok (.iinc 2 1, 3) := by decide +kernel
theorem dX9_cutAll_215 : decode cX9_cutAll 215 = .ok (.goto (-56), 3) := by decide +kernel
theorem dX9_cutAll_218 : decode cX9_cutAll 218 = .ok (.aload_n 0, 1) := by decide +kernel
theorem dX9_cutAll_219 : decode cX9_cutAll 219 = .ok (.getfield 13, 3) := by decide +kernel
theorem dX9_cutAll_222 : decode cX9_cutAll 222 = .ok (.iload_n 1, 1) := by decide +kernel
theorem dX9_cutAll_223 : decode cX9_cutAll 223 = .ok (.iload_n 2, 1) := by decide +kernel
theorem dX9_cutAll_224 : decode cX9_cutAll 224 = .ok (.iload 4, 2) := by decide +kernel
theorem dX9_cutAll_226 : decode cX9_cutAll 226 = .ok (.isub, 1) := by decide +kernel
theorem dX9_cutAll_227 : decode cX9_cutAll 227 = .ok (.iconst 4, 1) := by decide +kernel
theorem dX9_cutAll_228 : decode cX9_cutAll 228 = .ok (.if_icmp .le 7, 3) := by decide +kernel
theorem dX9_cutAll_231 : decode cX9_cutAll 231 = .ok (.iconst 4, 1) := by decide +kernel
theorem dX9_cutAll_232 : decode cX9_cutAll 232 = .ok (.goto 4, 3) := by decide +kernel
theorem dX9_cutAll_235 : decode cX9_cutAll 235 = .ok (.iconst 2, 1) := by decide +kernel
theorem dX9_cutAll_236 : decode cX9_cutAll 236 = .ok (.iastore, 1) := by decide +kernel
theorem dX9_cutAll_237 : decode cX9_cutAll 237 = .ok (.goto 28, 3) := by decide +kernel
theorem dX9_cutAll_240 : decode cX9_cutAll 240 = .ok (.iload_n 3, 1) := by decide +kernel
theorem dX9_cutAll_241 : decode cX9_cutAll 241 = .ok (.i2l, 1) := by decide +kernel
theorem dX9_cutAll_242 : decode cX9_cutAll 242 = .ok (.lstore 5, 2) := by decide +kernel
theorem dX9_cutAll_244 : decode cX9_cutAll 244 = .ok (.aload_n 0, 1) := by decide +kernel
theorem dX9_cutAll_245 : decode cX9_cutAll 245 = .ok (.getfield 13, 3) := by decide +kernel
theorem dX9_cutAll_248 : decode cX9_cutAll 248 = .ok (.iload_n 1, 1) := by decide +kernel
theorem dX9_cutAll_249 : decode cX9_cutAll 249 = .ok (.iload_n 3, 1) := by decide +kernel
theorem dX9_cutAll_250 : decode cX9_cutAll 250 = .ok (.invokestatic 161, 3) := by decide +kernel
theorem dX9_cutAll_253 : decode cX9_cutAll 253 = .ok (.ifCond .eq 7, 3) := by decide +kernel
theorem dX9_cutAll_256 : decode cX9_cutAll 256 = .ok (.iconst 3, 1) := by decide +kernel
theorem dX9_cutAll_257 : decode cX9_cutAll 257 = .ok (.goto 4, 3) := by decide +kernel
theorem dX9_cutAll_260 : decode cX9_cutAll 260 = .ok (.iconst 4, 1) := by decide +kernel
theorem dX9_cutAll_261 : decode cX9_cutAll 261 = .ok (.iastore, 1) := by decide +kernel
theorem dX9_cutAll_262 : decode cX9_cutAll 262 = .ok (.iinc 2 1, 3) := by decide +kernel
theorem dX9_cutAll_265 : decode cX9_cutAll 265 = .ok (.aload_n 0, 1) := by decide +kernel
theorem dX9_cutAll_266 : decode cX9_cutAll 266 = .ok (.getfield 19, 3) := by decide +kernel
theorem dX9_cutAll_269 : decode cX9_cutAll 269 = .ok (.iload_n 1, 1) := by decide +kernel
theorem dX9_cutAll_270 : decode cX9_cutAll 270 = .ok (.lload 5, 2) := by decide +kernel
theorem dX9_cutAll_272 : decode cX9_cutAll 272 = .ok (.lastore, 1) := by decide +kernel
theorem dX9_cutAll_273 : decode cX9_cutAll 273 = .ok (.iinc 1 1, 3) := by decide +kernel
theorem dX9_cutAll_276 : decode cX9_cutAll 276 = .ok (.goto (-259), 3) := by decide +kernel
theorem dX9_cutAll_279 : decode cX9_cutAll 279 = .ok (.aload_n 0, 1) := by decide +kernel
theorem dX9_cutAll_280 : decode cX9_cutAll 280 = .ok (.getfield 13, 3) := by decide +kernel
theorem dX9_cutAll_283 : decode cX9_cutAll 283 = .ok (.iload_n 1, 1) := by decide +kernel
theorem dX9_cutAll_284 : decode cX9_cutAll 284 = .ok (.iconst 0, 1) := by decide +kernel
theorem dX9_cutAll_285 : decode cX9_cutAll 285 = .ok (.iastore, 1) := by decide +kernel
theorem dX9_cutAll_286 : decode cX9_cutAll 286 = .ok (.aload_n 0, 1) := by decide +kernel
theorem dX9_cutAll_287 : decode cX9_cutAll 287 = .ok (.getfield 16, 3) := by decide +kernel
theorem dX9_cutAll_290 : decode cX9_cutAll 290 = .ok (.iload_n 1, 1) := by decide +kernel
theorem dX9_cutAll_291 : decode cX9_cutAll 291 = .ok (.aload_n 0, 1) := by decide +kernel
theorem dX9_cutAll_292 : decode cX9_cutAll 292 = .ok (.getfield 145, 3) := by decide +kernel
theorem dX9_cutAll_295 : decode cX9_cutAll 295 = .ok (.iastore, 1) := by decide +kernel
theorem dX9_cutAll_296 : decode cX9_cutAll 296 = .ok (.aload_n 0, 1) := by decide +kernel
theorem dX9_cutAll_297 : decode cX9_cutAll 297 = .ok (.iconst 0, 1) := by decide +kernel
theorem dX9_cutAll_298 : decode cX9_cutAll 298 = .ok (.putfield 164, 3) := by decide +kernel
theorem dX9_cutAll_301 : decode cX9_cutAll 301 = .ok (.aload_n 0, 1) := by decide +kernel
theorem dX9_cutAll_302 : decode cX9_cutAll 302 = .ok (.iconst 0, 1) := by decide +kernel
theorem dX9_cutAll_303 : decode cX9_cutAll 303 = .ok (.putfield 167, 3) := by decide +kernel
theorem dX9_cutAll_306 : decode cX9_cutAll 306 = .ok (.return_, 1) := by decide +kernel
theorem dX9_wrong_0 : decode cX9_wrong 0 = .ok (.aload_n 0, 1) := by decide +kernel
theorem dX9_wrong_1 : decode cX9_wrong 1 = .ok (.getfield 167, 3) := by decide +kernel
theorem dX9_wrong_4 : decode cX9_wrong 4 = .ok (.ifCond .ne 21, 3) := by decide +kernel
theorem dX9_wrong_7 : decode cX9_wrong 7 = .ok (.aload_n 0, 1) := by decide +kernel
theorem dX9_wrong_8 : decode cX9_wrong 8 = .ok (.iload_n 1, 1) := by decide +kernel
theorem dX9_wrong_9 : decode cX9_wrong 9 = .ok (.bipush 16, 2) := by decide +kernel
theorem dX9_wrong_11 : decode cX9_wrong 11 = .ok (.aload_n 0, 1) := by decide +kernel
theorem dX9_wrong_12 : decode cX9_wrong 12 = .ok (.getfield 16, 3) := by decide +kernel
theorem dX9_wrong_15 : decode cX9_wrong 15 = .ok (.aload_n 0, 1) := by decide +kernel
theorem dX9_wrong_16 : decode cX9_wrong 16 = .ok (.getfield 164, 3) := by decide +kernel
theorem dX9_wrong_19 : decode cX9_wrong 19 = .ok (.iaload, 1) := by decide +kernel
theorem dX9_wrong_20 : decode cX9_wrong 20 = .ok (.imul, 1) := by decide +kernel
theorem dX9_wrong_21 : decode cX9_wrong 21 = .ok (.iadd, 1) := by decide +kernel
theorem dX9_wrong_22 : decode cX9_wrong 22 = .ok (.putfield 167, 3) := by decide +kernel
theorem dX9_wrong_25 : decode cX9_wrong 25 = .ok (.return_, 1) := by decide +kernel
theorem dX9_isSign_0 : decode cX9_isSign 0 = .ok (.aload_n 0, 1) := by decide +kernel
theorem dX9_isSign_1 : decode cX9_isSign 1 = .ok (.getfield 167, 3) := by decide +kernel
theorem dX9_isSign_4 : decode cX9_isSign 4 = .ok (.ifCond .ne 35, 3) := by decide +kernel
theorem dX9_isSign_7 : decode cX9_isSign 7 = .ok (.aload_n 0, 1) := by decide +kernel
theorem dX9_isSign_8 : decode cX9_isSign 8 = .ok (.getfield 13, 3) := by decide +kernel
theorem dX9_isSign_11 : decode cX9_isSign 11 = .ok (.aload_n 0, 1) := by decide +kernel
theorem dX9_isSign_12 : decode cX9_isSign 12 = .ok (.getfield 164, 3) := by decide +kernel
theorem dX9_isSign_15 : decode cX9_isSign 15 = .ok (.iaload, 1) := by decide +kernel
theorem dX9_isSign_16 : decode cX9_isSign 16 = .ok (.iconst 3, 1) := by decide +kernel
theorem dX9_isSign_17 : decode cX9_isSign 17 = .ok (.if_icmp .ne 22, 3) := by decide +kernel
theorem dX9_isSign_20 : decode cX9_isSign 20 = .ok (.aload_n 0, 1) := by decide +kernel
theorem dX9_isSign_21 : decode cX9_isSign 21 = .ok (.getfield 19, 3) := by decide +kernel
theorem dX9_isSign_24 : decode cX9_isSign 24 = .ok (.aload_n 0, 1) := by decide +kernel
theorem dX9_isSign_25 : decode cX9_isSign 25 = .ok (.getfield 164, 3) := by decide +kernel
theorem dX9_isSign_28 : decode cX9_isSign 28 = .ok (.laload, 1) := by decide +kernel
theorem dX9_isSign_29 : decode cX9_isSign 29 = .ok (.iload_n 1, 1) := by decide +kernel
theorem dX9_isSign_30 : decode cX9_isSign 30 = .ok (.i2l, 1) := by decide +kernel
theorem dX9_isSign_31 : decode cX9_isSign 31 = .ok (.lcmp, 1) := by decide +kernel
theorem dX9_isSign_32 : decode cX9_isSign 32 = .ok (.ifCond .ne 7, 3) := by decide +kernel
theorem dX9_isSign_35 : decode cX9_isSign 35 = .ok (.iconst 1, 1) := by decide +kernel
theorem dX9_isSign_36 : decode cX9_isSign 36 = .ok (.goto 4, 3) := by decide +kernel
theorem dX9_isSign_39 : decode cX9_isSign 39 = .ok (.iconst 0, 1) := by decide +kernel
theorem dX9_isSign_40 : decode cX9_isSign 40 = .ok (.ireturn, 1) := by decide +kernel
theorem dX9_isWord_0 : decode cX9_isWord 0 = .ok (.aload_n 0, 1) := by decide +kernel
theorem dX9_isWord_1 : decode cX9_isWord 1 = .ok (.getfield 167, 3) := by decide +kernel
theorem dX9_isWord_4 : decode cX9_isWord 4 = .ok (.ifCond .ne 39, 3) := by decide +kernel
theorem dX9_isWord_7 : decode cX9_isWord 7 = .ok (.aload_n 0, 1) := by decide +kernel
theorem dX9_isWord_8 : decode cX9_isWord 8 = .ok (.getfield 13, 3) := by decide +kernel
theorem dX9_isWord_11 : decode cX9_isWord 11 = .ok (.aload_n 0, 1) := by decide +kernel
theorem dX9_isWord_12 : decode cX9_isWord 12 = .ok (.getfield 164, 3) := by decide +kernel
theorem dX9_isWord_15 : decode cX9_isWord 15 = .ok (.iaload, 1) := by decide +kernel
theorem dX9_isWord_16 : decode cX9_isWord 16 = .ok (.iconst 1, 1) := by decide +kernel
theorem dX9_isWord_17 : decode cX9_isWord 17 = .ok (.if_icmp .ne 26, 3) := by decide +kernel
theorem dX9_isWord_20 : decode cX9_isWord 20 = .ok (.aload_n 0, 1) := by decide +kernel
theorem dX9_isWord_21 : decode cX9_isWord 21 = .ok (.getfield 19, 3) := by decide +kernel
theorem dX9_isWord_24 : decode cX9_isWord 24 = .ok (.aload_n 0, 1) := by decide +kernel
theorem dX9_isWord_25 : decode cX9_isWord 25 = .ok (.getfield 164, 3) := by decide +kernel
theorem dX9_isWord_28 : decode cX9_isWord 28 = .ok (.laload, 1) := by decide +kernel
theorem dX9_isWord_29 : decode cX9_isWord 29 = .ok (.aload_n 0, 1) := by decide +kernel
theorem dX9_isWord_30 : decode cX9_isWord 30 = .ok (.getfield 51, 3) := by decide +kernel
theorem dX9_isWord_33 : decode cX9_isWord 33 = .ok (.iload_n 1, 1) := by decide +kernel
theorem dX9_isWord_34 : decode cX9_isWord 34 = .ok (.laload, 1) := by decide +kernel
theorem dX9_isWord_35 : decode cX9_isWord 35 = .ok (.lcmp, 1) := by decide +kernel
theorem dX9_isWord_36 : decode cX9_isWord 36 = .ok (.ifCond .ne 7, 3) := by decide +kernel
theorem dX9_isWord_39 : decode cX9_isWord 39 = .ok (.iconst 1, 1) := by decide +kernel
theorem dX9_isWord_40 : decode cX9_isWord 40 = .ok (.goto 4, 3) := by decide +kernel
theorem dX9_isWord_43 : decode cX9_isWord 43 = .ok (.iconst 0, 1) := by decide +kernel
theorem dX9_isWord_44 : decode cX9_isWord 44 = .ok (.ireturn, 1) := by decide +kernel
theorem dX9_takeSign_0 : decode cX9_takeSign 0 = .ok (.aload_n 0, 1) := by decide +kernel
theorem dX9_takeSign_1 : decode cX9_takeSign 1 = .ok (.iload_n 1, 1) := by decide +kernel
theorem dX9_takeSign_2 : decode cX9_takeSign 2 = .ok (.invokevirtual 170, 3) := by decide +kernel
theorem dX9_takeSign_5 : decode cX9_takeSign 5 = .ok (.ifCond .eq 16, 3) := by decide +kernel
theorem dX9_takeSign_8 : decode cX9_takeSign 8 = .ok (.aload_n 0, 1) := by decide +kernel
theorem dX9_takeSign_9 : decode cX9_takeSign 9 = .ok (.dup, 1) := by decide +kernel
theorem dX9_takeSign_10 : decode cX9_takeSign 10 = .ok (.getfield 164, 3) := by decide +kernel
theorem dX9_takeSign_13 : decode cX9_takeSign 13 = .ok (.iconst 1, 1) := by decide +kernel
theorem dX9_takeSign_14 : decode cX9_takeSign 14 = .ok (.iadd, 1) := by decide +kernel
theorem dX9_takeSign_15 : decode cX9_takeSign 15 = .ok (.putfield 164, 3) := by decide +kernel
theorem dX9_takeSign_18 : decode cX9_takeSign 18 = .ok (.goto 8, 3) := by decide +kernel
theorem dX9_takeSign_21 : decode cX9_takeSign 21 = .ok (.aload_n 0, 1) := by decide +kernel
theorem dX9_takeSign_22 : decode cX9_takeSign 22 = .ok (.iconst 1, 1) := by decide +kernel
theorem dX9_takeSign_23 : decode cX9_takeSign 23 = .ok (.invokevirtual 173, 3) := by decide +kernel
theorem dX9_takeSign_26 : decode cX9_takeSign 26 = .ok (.return_, 1) := by decide +kernel
theorem dX9_hasSign_0 : decode cX9_hasSign 0 = .ok (.aload_n 0, 1) := by decide +kernel
theorem dX9_hasSign_1 : decode cX9_hasSign 1 = .ok (.iload_n 1, 1) := by decide +kernel
theorem dX9_hasSign_2 : decode cX9_hasSign 2 = .ok (.invokevirtual 170, 3) := by decide +kernel
theorem dX9_hasSign_5 : decode cX9_hasSign 5 = .ok (.istore_n 2, 1) := by decide +kernel
theorem dX9_hasSign_6 : decode cX9_hasSign 6 = .ok (.aload_n 0, 1) := by decide +kernel
theorem dX9_hasSign_7 : decode cX9_hasSign 7 = .ok (.dup, 1) := by decide +kernel
theorem dX9_hasSign_8 : decode cX9_hasSign 8 = .ok (.getfield 164, 3) := by decide +kernel
theorem dX9_hasSign_11 : decode cX9_hasSign 11 = .ok (.iload_n 2, 1) := by decide +kernel
theorem dX9_hasSign_12 : decode cX9_hasSign 12 = .ok (.ifCond .eq 7, 3) := by decide +kernel
theorem dX9_hasSign_15 : decode cX9_hasSign 15 = .ok (.iconst 1, 1) := by decide +kernel
theorem dX9_hasSign_16 : decode cX9_hasSign 16 = .ok (.goto 4, 3) := by decide +kernel
theorem dX9_hasSign_19 : decode cX9_hasSign 19 = .ok (.iconst 0, 1) := by decide +kernel
theorem dX9_hasSign_20 : decode cX9_hasSign 20 = .ok (.iadd, 1) := by decide +kernel
theorem dX9_hasSign_21 : decode cX9_hasSign 21 = .ok (.putfield 164, 3) := by decide +kernel
theorem dX9_hasSign_24 : decode cX9_hasSign 24 = .ok (.iload_n 2, 1) := by decide +kernel
theorem dX9_hasSign_25 : decode cX9_hasSign 25 = .ok (.ireturn, 1) := by decide +kernel
theorem dX9_hasWord_0 : decode cX9_hasWord 0 = .ok (.aload_n 0, 1) := by decide +kernel
theorem dX9_hasWord_1 : decode cX9_hasWord 1 = .ok (.iload_n 1, 1) := by decide +kernel
theorem dX9_hasWord_2 : decode cX9_hasWord 2 = .ok (.invokevirtual 177, 3) := by decide +kernel
theorem dX9_hasWord_5 : decode cX9_hasWord 5 = .ok (.istore_n 2, 1) := by decide +kernel
theorem dX9_hasWord_6 : decode cX9_hasWord 6 = .ok (.aload_n 0, 1) := by decide +kernel
theorem dX9_hasWord_7 : decode cX9_hasWord 7 = .ok (.dup, 1) := by decide +kernel
theorem dX9_hasWord_8 : decode cX9_hasWord 8 = .ok (.getfield 164, 3) := by decide +kernel
theorem dX9_hasWord_11 : decode cX9_hasWord 11 = .ok (.iload_n 2, 1) := by decide +kernel
theorem dX9_hasWord_12 : decode cX9_hasWord 12 = .ok (.ifCond .eq 7, 3) := by decide +kernel
theorem dX9_hasWord_15 : decode cX9_hasWord 15 = .ok (.iconst 1, 1) := by decide +kernel
theorem dX9_hasWord_16 : decode cX9_hasWord 16 = .ok (.goto 4, 3) := by decide +kernel
theorem dX9_hasWord_19 : decode cX9_hasWord 19 = .ok (.iconst 0, 1) := by decide +kernel
theorem dX9_hasWord_20 : decode cX9_hasWord 20 = .ok (.iadd, 1) := by decide +kernel
theorem dX9_hasWord_21 : decode cX9_hasWord 21 = .ok (.putfield 164, 3) := by decide +kernel
theorem dX9_hasWord_24 : decode cX9_hasWord 24 = .ok (.iload_n 2, 1) := by decide +kernel
theorem dX9_hasWord_25 : decode cX9_hasWord 25 = .ok (.ireturn, 1) := by decide +kernel
theorem dX9_takeWord_0 : decode cX9_takeWord 0 = .ok (.aload_n 0, 1) := by decide +kernel
theorem dX9_takeWord_1 : decode cX9_takeWord 1 = .ok (.iload_n 1, 1) := by decide +kernel
theorem dX9_takeWord_2 : decode cX9_takeWord 2 = .ok (.invokevirtual 180, 3) := by decide +kernel
theorem dX9_takeWord_5 : decode cX9_takeWord 5 = .ok (.ifCond .ne 8, 3) := by decide +kernel
theorem dX9_takeWord_8 : decode cX9_takeWord 8 = .ok (.aload_n 0, 1) := by decide +kernel
theorem dX9_takeWord_9 : decode cX9_takeWord 9 = .ok (.iconst 1, 1) := by decide +kernel
theorem dX9_takeWord_10 : decode cX9_takeWord 10 = .ok (.invokevirtual 173, 3) := by decide +kernel
theorem dX9_takeWord_13 : decode cX9_takeWord 13 = .ok (.return_, 1) := by decide +kernel
theorem dX9_takeNumber_0 : decode cX9_takeNumber 0 = .ok (.aload_n 0, 1) := by decide +kernel
theorem dX9_takeNumber_1 : decode cX9_takeNumber 1 = .ok (.getfield 167, 3) := by decide +kernel
theorem dX9_takeNumber_4 : decode cX9_takeNumber 4 = .ok (.ifCond .ne 24, 3) := by decide +kernel
theorem dX9_takeNumber_7 : decode cX9_takeNumber 7 = .ok (.aload_n 0, 1) := by decide +kernel
theorem dX9_takeNumber_8 : decode cX9_takeNumber 8 = .ok (.getfield 13, 3) := by decide +kernel
theorem dX9_takeNumber_11 : decode cX9_takeNumber 11 = .ok (.aload_n 0, 1) := by decide +kernel
theorem dX9_takeNumber_12 : decode cX9_takeNumber 12 = .ok (.getfield 164, 3) := by decide +kernel
theorem dX9_takeNumber_15 : decode cX9_takeNumber 15 = .ok (.iaload, 1) := by decide +kernel
theorem dX9_takeNumber_16 : decode cX9_takeNumber 16 = .ok (.iconst 2, 1) := by decide +kernel
theorem dX9_takeNumber_17 : decode cX9_takeNumber 17 = .ok (.if_icmp .eq 11, 3) := by decide +kernel
theorem dX9_takeNumber_20 : decode cX9_takeNumber 20 = .ok (.aload_n 0, 1) := by decide +kernel
theorem dX9_takeNumber_21 : decode cX9_takeNumber 21 = .ok (.iconst 1, 1) := by decide +kernel
theorem dX9_takeNumber_22 : decode cX9_takeNumber 22 = .ok (.invokevirtual 173, 3) := by decide +kernel
theorem dX9_takeNumber_25 : decode cX9_takeNumber 25 = .ok (.goto 45, 3) := by decide +kernel
theorem dX9_takeNumber_28 : decode cX9_takeNumber 28 = .ok (.aload_n 0, 1) := by decide +kernel
theorem dX9_takeNumber_29 : decode cX9_takeNumber 29 = .ok (.getfield 167, 3) := by decide +kernel
theorem dX9_takeNumber_32 : decode cX9_takeNumber 32 = .ok (.ifCond .ne 38, 3) := by decide +kernel
theorem dX9_takeNumber_35 : decode cX9_takeNumber 35 = .ok (.aload_n 0, 1) := by decide +kernel
theorem dX9_takeNumber_36 : decode cX9_takeNumber 36 = .ok (.getfield 19, 3) := by decide +kernel
theorem dX9_takeNumber_39 : decode cX9_takeNumber 39 = .ok (.aload_n 0, 1) := by decide +kernel
theorem dX9_takeNumber_40 : decode cX9_takeNumber 40 = .ok (.getfield 164, 3) := by decide +kernel
theorem dX9_takeNumber_43 : decode cX9_takeNumber 43 = .ok (.laload, 1) := by decide +kernel
theorem dX9_takeNumber_44 : decode cX9_takeNumber 44 = .ok (.iload_n 1, 1) := by decide +kernel
theorem dX9_takeNumber_45 : decode cX9_takeNumber 45 = .ok (.i2l, 1) := by decide +kernel
theorem dX9_takeNumber_46 : decode cX9_takeNumber 46 = .ok (.lcmp, 1) := by decide +kernel
theorem dX9_takeNumber_47 : decode cX9_takeNumber 47 = .ok (.ifCond .lt 18, 3) := by decide +kernel
theorem dX9_takeNumber_50 : decode cX9_takeNumber 50 = .ok (.aload_n 0, 1) := by decide +kernel
theorem dX9_takeNumber_51 : decode cX9_takeNumber 51 = .ok (.getfield 19, 3) := by decide +kernel
theorem dX9_takeNumber_54 : decode cX9_takeNumber 54 = .ok (.aload_n 0, 1) := by decide +kernel
theorem dX9_takeNumber_55 : decode cX9_takeNumber 55 = .ok (.getfield 164, 3) := by decide +kernel
theorem dX9_takeNumber_58 : decode cX9_takeNumber 58 = .ok (.laload, 1) := by decide +kernel
theorem dX9_takeNumber_59 : decode cX9_takeNumber 59 = .ok (.iload_n 2, 1) := by decide +kernel
theorem dX9_takeNumber_60 : decode cX9_takeNumber 60 = .ok (.i2l, 1) := by decide +kernel
theorem dX9_takeNumber_61 : decode cX9_takeNumber 61 = .ok (.lcmp, 1) := by decide +kernel
theorem dX9_takeNumber_62 : decode cX9_takeNumber 62 = .ok (.ifCond .le 8, 3) := by decide +kernel
theorem dX9_takeNumber_65 : decode cX9_takeNumber 65 = .ok (.aload_n 0, 1) := by decide +kernel
theorem dX9_takeNumber_66 : decode cX9_takeNumber 66 = .ok (.iconst 4, 1) := by decide +kernel
theorem dX9_takeNumber_67 : decode cX9_takeNumber 67 = .ok (.invokevirtual 173, 3) := by decide +kernel
theorem dX9_takeNumber_70 : decode cX9_takeNumber 70 = .ok (.aload_n 0, 1) := by decide +kernel
theorem dX9_takeNumber_71 : decode cX9_takeNumber 71 = .ok (.dup, 1) := by decide +kernel
theorem dX9_takeNumber_72 : decode cX9_takeNumber 72 = .ok (.getfield 164, 3) := by decide +kernel
theorem dX9_takeNumber_75 : decode cX9_takeNumber 75 = .ok (.iconst 1, 1) := by decide +kernel
theorem dX9_takeNumber_76 : decode cX9_takeNumber 76 = .ok (.iadd, 1) := by decide +kernel
theorem dX9_takeNumber_77 : decode cX9_takeNumber 77 = .ok (.putfield 164, 3) := by decide +kernel
theorem dX9_takeNumber_80 : decode cX9_takeNumber 80 = .ok (.aload_n 0, 1) := by decide +kernel
theorem dX9_takeNumber_81 : decode cX9_takeNumber 81 = .ok (.getfield 167, 3) := by decide +kernel
theorem dX9_takeNumber_84 : decode cX9_takeNumber 84 = .ok (.ifCond .le 7, 3) := by decide +kernel
theorem dX9_takeNumber_87 : decode cX9_takeNumber 87 = .ok (.iconst 0, 1) := by decide +kernel
theorem dX9_takeNumber_88 : decode cX9_takeNumber 88 = .ok (.goto 15, 3) := by decide +kernel
theorem dX9_takeNumber_91 : decode cX9_takeNumber 91 = .ok (.aload_n 0, 1) := by decide +kernel
theorem dX9_takeNumber_92 : decode cX9_takeNumber 92 = .ok (.getfield 19, 3) := by decide +kernel
theorem dX9_takeNumber_95 : decode cX9_takeNumber 95 = .ok (.aload_n 0, 1) := by decide +kernel
theorem dX9_takeNumber_96 : decode cX9_takeNumber 96 = .ok (.getfield 164, 3) := by decide +kernel
theorem dX9_takeNumber_99 : decode cX9_takeNumber 99 = .ok (.iconst 1, 1) := by decide +kernel
theorem dX9_takeNumber_100 : decode cX9_takeNumber 100 = .ok (.isub, 1) := by decide +kernel
theorem dX9_takeNumber_101 : decode cX9_takeNumber 101 = .ok (.laload, 1) := by decide +kernel
theorem dX9_takeNumber_102 : decode cX9_takeNumber 102 = .ok (.l2i, 1) := by decide +kernel
theorem dX9_takeNumber_103 : decode cX9_takeNumber 103 = .ok (.ireturn, 1) := by decide +kernel
theorem dX9_emit_0 : decode cX9_emit 0 = .ok (.aload_n 0, 1) := by decide +kernel
theorem dX9_emit_1 : decode cX9_emit 1 = .ok (.getfield 70, 3) := by decide +kernel
theorem dX9_emit_4 : decode cX9_emit 4 = .ok (.sipush 7040, 3) := by decide +kernel
theorem dX9_emit_7 : decode cX9_emit 7 = .ok (.aload_n 0, 1) := by decide +kernel
theorem dX9_emit_8 : decode cX9_emit 8 = .ok (.getfield 183, 3) := by decide +kernel
theorem dX9_emit_11 : decode cX9_emit 11 = .ok (.iadd, 1) := by decide +kernel
theorem dX9_emit_12 : decode cX9_emit 12 = .ok (.iload_n 1, 1) := by decide +kernel
theorem dX9_emit_13 : decode cX9_emit 13 = .ok (.iastore, 1) := by decide +kernel
theorem dX9_emit_14 : decode cX9_emit 14 = .ok (.aload_n 0, 1) := by decide +kernel
theorem dX9_emit_15 : decode cX9_emit 15 = .ok (.getfield 73, 3) := by decide +kernel
theorem dX9_emit_18 : decode cX9_emit 18 = .ok (.sipush 7040, 3) := by decide +kernel
theorem dX9_emit_21 : decode cX9_emit 21 = .ok (.aload_n 0, 1) := by decide +kernel
theorem dX9_emit_22 : decode cX9_emit 22 = .ok (.getfield 183, 3) := by decide +kernel
theorem dX9_emit_25 : decode cX9_emit 25 = .ok (.iadd, 1) := by decide +kernel
theorem dX9_emit_26 : decode cX9_emit 26 = .ok (.iload_n 2, 1) := by decide +kernel
theorem dX9_emit_27 : decode cX9_emit 27 = .ok (.iastore, 1) := by decide +kernel
theorem dX9_emit_28 : decode cX9_emit 28 = .ok (.aload_n 0, 1) := by decide +kernel
theorem dX9_emit_29 : decode cX9_emit 29 = .ok (.dup, 1) := by decide +kernel
theorem dX9_emit_30 : decode cX9_emit 30 = .ok (.getfield 183, 3) := by decide +kernel
theorem dX9_emit_33 : decode cX9_emit 33 = .ok (.iconst 1, 1) := by decide +kernel
theorem dX9_emit_34 : decode cX9_emit 34 = .ok (.iadd, 1) := by decide +kernel
theorem dX9_emit_35 : decode cX9_emit 35 = .ok (.putfield 183, 3) := by decide +kernel
theorem dX9_emit_38 : decode cX9_emit 38 = .ok (.return_, 1) := by decide +kernel
theorem dX9_text_0 : decode cX9_text 0 = .ok (.aload_n 0, 1) := by decide +kernel
theorem dX9_text_1 : decode cX9_text 1 = .ok (.iconst 0, 1) := by decide +kernel
theorem dX9_text_2 : decode cX9_text 2 = .ok (.putfield 131, 3) := by decide +kernel
theorem dX9_text_5 : decode cX9_text 5 = .ok (.aload_n 0, 1) := by decide +kernel
theorem dX9_text_6 : decode cX9_text 6 = .ok (.getfield 186, 3) := by decide +kernel
theorem dX9_text_9 : decode cX9_text 9 = .ok (.bipush 8, 2) := by decide +kernel
theorem dX9_text_11 : decode cX9_text 11 = .ok (.if_icmp .ne 10, 3) := by decide +kernel
theorem dX9_text_14 : decode cX9_text 14 = .ok (.aload_n 0, 1) := by decide +kernel
theorem dX9_text_15 : decode cX9_text 15 = .ok (.iconst 0, 1) := by decide +kernel
theorem dX9_text_16 : decode cX9_text 16 = .ok (.putfield 138, 3) := by decide +kernel
theorem dX9_text_19 : decode cX9_text 19 = .ok (.iconst (-1), 1) := by decide +kernel
theorem dX9_text_20 : decode cX9_text 20 = .ok (.ireturn, 1) := by decide +kernel
theorem dX9_text_21 : decode cX9_text 21 = .ok (.aload_n 0, 1) := by decide +kernel
theorem dX9_text_22 : decode cX9_text 22 = .ok (.invokevirtual 189, 3) := by decide +kernel
theorem dX9_text_25 : decode cX9_text 25 = .ok (.aload_n 0, 1) := by decide +kernel
theorem dX9_text_26 : decode cX9_text 26 = .ok (.getfield 58, 3) := by decide +kernel
theorem dX9_text_29 : decode cX9_text 29 = .ok (.bipush 8, 2) := by decide +kernel
theorem dX9_text_31 : decode cX9_text 31 = .ok (.iconst 0, 1) := by decide +kernel
theorem dX9_text_32 : decode cX9_text 32 = .ok (.iastore, 1) := by decide +kernel
theorem dX9_text_33 : decode cX9_text 33 = .ok (.aload_n 0, 1) := by decide +kernel
theorem dX9_text_34 : decode cX9_text 34 = .ok (.getfield 61, 3) := by decide +kernel
