theorem dX0_init_0 : decode cX0_init 0 = .ok (.aload_n 0, 1) := by decide +kernel
theorem dX0_init_1 : decode cX0_init 1 = .ok (.invokespecial 3, 3) := by decide +kernel
theorem dX0_init_4 : decode cX0_init 4 = .ok (.aload_n 0, 1) := by decide +kernel
theorem dX0_init_5 : decode cX0_init 5 = .ok (.bipush 16, 2) := by decide +kernel
theorem dX0_init_7 : decode cX0_init 7 = .ok (.newarray .int, 2) := by decide +kernel
theorem dX0_init_9 : decode cX0_init 9 = .ok (.putfield 9, 3) := by decide +kernel
theorem dX0_init_12 : decode cX0_init 12 = .ok (.aload_n 0, 1) := by decide +kernel
theorem dX0_init_13 : decode cX0_init 13 = .ok (.iconst 0, 1) := by decide +kernel
theorem dX0_init_14 : decode cX0_init 14 = .ok (.putfield 15, 3) := by decide +kernel
theorem dX0_init_17 : decode cX0_init 17 = .ok (.aload_n 0, 1) := by decide +kernel
theorem dX0_init_18 : decode cX0_init 18 = .ok (.iconst 0, 1) := by decide +kernel
theorem dX0_init_19 : decode cX0_init 19 = .ok (.putfield 19, 3) := by decide +kernel
theorem dX0_init_22 : decode cX0_init 22 = .ok (.aload_n 0, 1) := by decide +kernel
theorem dX0_init_23 : decode cX0_init 23 = .ok (.iconst 0, 1) := by decide +kernel
theorem dX0_init_24 : decode cX0_init 24 = .ok (.putfield 22, 3) := by decide +kernel
theorem dX0_init_27 : decode cX0_init 27 = .ok (.aload_n 0, 1) := by decide +kernel
theorem dX0_init_28 : decode cX0_init 28 = .ok (.iconst 0, 1) := by decide +kernel
theorem dX0_init_29 : decode cX0_init 29 = .ok (.putfield 25, 3) := by decide +kernel
theorem dX0_init_32 : decode cX0_init 32 = .ok (.aload_n 0, 1) := by decide +kernel
theorem dX0_init_33 : decode cX0_init 33 = .ok (.iconst (-1), 1) := by decide +kernel
theorem dX0_init_34 : decode cX0_init 34 = .ok (.putfield 28, 3) := by decide +kernel
theorem dX0_init_37 : decode cX0_init 37 = .ok (.aload_n 0, 1) := by decide +kernel
theorem dX0_init_38 : decode cX0_init 38 = .ok (.aload_n 1, 1) := by decide +kernel
theorem dX0_init_39 : decode cX0_init 39 = .ok (.putfield 31, 3) := by decide +kernel
theorem dX0_init_42 : decode cX0_init 42 = .ok (.return_, 1) := by decide +kernel
theorem dX0_refresh_0 : decode cX0_refresh 0 = .ok (.aload_n 1, 1) := by decide +kernel
theorem dX0_refresh_1 : decode cX0_refresh 1 = .ok (.getfield 35, 3) := by decide +kernel
theorem dX0_refresh_4 : decode cX0_refresh 4 = .ok (.iload_n 3, 1) := by decide +kernel
theorem dX0_refresh_5 : decode cX0_refresh 5 = .ok (.if_icmp .ne 4, 3) := by decide +kernel
theorem dX0_refresh_8 : decode cX0_refresh 8 = .ok (.return_, 1) := by decide +kernel
theorem dX0_refresh_9 : decode cX0_refresh 9 = .ok (.aload_n 1, 1) := by decide +kernel
theorem dX0_refresh_10 : decode cX0_refresh 10 = .ok (.iload_n 3, 1) := by decide +kernel
theorem dX0_refresh_11 : decode cX0_refresh 11 = .ok (.putfield 35, 3) := by decide +kernel
theorem dX0_refresh_14 : decode cX0_refresh 14 = .ok (.aload_n 0, 1) := by decide +kernel
theorem dX0_refresh_15 : decode cX0_refresh 15 = .ok (.iconst (-1), 1) := by decide +kernel
theorem dX0_refresh_16 : decode cX0_refresh 16 = .ok (.putfield 28, 3) := by decide +kernel
theorem dX0_refresh_19 : decode cX0_refresh 19 = .ok (.iconst (-1), 1) := by decide +kernel
theorem dX0_refresh_20 : decode cX0_refresh 20 = .ok (.istore 4, 2) := by decide +kernel
theorem dX0_refresh_22 : decode cX0_refresh 22 = .ok (.iconst 0, 1) := by decide +kernel
theorem dX0_refresh_23 : decode cX0_refresh 23 = .ok (.istore 5, 2) := by decide +kernel
theorem dX0_refresh_25 : decode cX0_refresh 25 = .ok (.iload 5, 2) := by decide +kernel
theorem dX0_refresh_27 : decode cX0_refresh 27 = .ok (.aload_n 1, 1) := by decide +kernel
theorem dX0_refresh_28 : decode cX0_refresh 28 = .ok (.getfield 40, 3) := by decide +kernel
theorem dX0_refresh_31 : decode cX0_refresh 31 = .ok (.invokevirtual 44, 3) := by decide +kernel
theorem dX0_refresh_34 : decode cX0_refresh 34 = .ok (.if_icmp .ge 197, 3) := by decide +kernel
theorem dX0_refresh_37 : decode cX0_refresh 37 = .ok (.aload_n 1, 1) := by decide +kernel
theorem dX0_refresh_38 : decode cX0_refresh 38 = .ok (.getfield 40, 3) := by decide +kernel
theorem dX0_refresh_41 : decode cX0_refresh 41 = .ok (.iload 5, 2) := by decide +kernel
theorem dX0_refresh_43 : decode cX0_refresh 43 = .ok (.invokevirtual 50, 3) := by decide +kernel
theorem dX0_refresh_46 : decode cX0_refresh 46 = .ok (.checkcast 54, 3) := by decide +kernel
theorem dX0_refresh_49 : decode cX0_refresh 49 = .ok (.astore 6, 2) := by decide +kernel
theorem dX0_refresh_51 : decode cX0_refresh 51 = .ok (.aload_n 0, 1) := by decide +kernel
theorem dX0_refresh_52 : decode cX0_refresh 52 = .ok (.iload 5, 2) := by decide +kernel
theorem dX0_refresh_54 : decode cX0_refresh 54 = .ok (.iconst 1, 1) := by decide +kernel
theorem dX0_refresh_55 : decode cX0_refresh 55 = .ok (.iadd, 1) := by decide +kernel
theorem dX0_refresh_56 : decode cX0_refresh 56 = .ok (.aload_n 1, 1) := by decide +kernel
theorem dX0_refresh_57 : decode cX0_refresh 57 = .ok (.getfield 40, 3) := by decide +kernel
theorem dX0_refresh_60 : decode cX0_refresh 60 = .ok (.invokevirtual 44, 3) := by decide +kernel
theorem dX0_refresh_63 : decode cX0_refresh 63 = .ok (.if_icmp .ge 23, 3) := by decide +kernel
theorem dX0_refresh_66 : decode cX0_refresh 66 = .ok (.aload_n 1, 1) := by decide +kernel
theorem dX0_refresh_67 : decode cX0_refresh 67 = .ok (.getfield 40, 3) := by decide +kernel
theorem dX0_refresh_70 : decode cX0_refresh 70 = .ok (.iload 5, 2) := by decide +kernel
theorem dX0_refresh_72 : decode cX0_refresh 72 = .ok (.iconst 1, 1) := by decide +kernel
theorem dX0_refresh_73 : decode cX0_refresh 73 = .ok (.iadd, 1) := by decide +kernel
theorem dX0_refresh_74 : decode cX0_refresh 74 = .ok (.invokevirtual 50, 3) := by decide +kernel
theorem dX0_refresh_77 : decode cX0_refresh 77 = .ok (.checkcast 54, 3) := by decide +kernel
theorem dX0_refresh_80 : decode cX0_refresh 80 = .ok (.getfield 56, 3) := by decide +kernel
theorem dX0_refresh_83 : decode cX0_refresh 83 = .ok (.goto 4, 3) := by decide +kernel
theorem dX0_refresh_86 : decode cX0_refresh 86 = .ok (.iconst 0, 1) := by decide +kernel
theorem dX0_refresh_87 : decode cX0_refresh 87 = .ok (.putfield 25, 3) := by decide +kernel
theorem dX0_refresh_90 : decode cX0_refresh 90 = .ok (.aload 6, 2) := by decide +kernel
theorem dX0_refresh_92 : decode cX0_refresh 92 = .ok (.aload_n 0, 1) := by decide +kernel
theorem dX0_refresh_93 : decode cX0_refresh 93 = .ok (.aload 6, 2) := by decide +kernel
theorem dX0_refresh_95 : decode cX0_refresh 95 = .ok (.getfield 56, 3) := by decide +kernel
theorem dX0_refresh_98 : decode cX0_refresh 98 = .ok (.aload 6, 2) := by decide +kernel
theorem dX0_refresh_100 : decode cX0_refresh 100 = .ok (.getfield 57, 3) := by decide +kernel
theorem dX0_refresh_103 : decode cX0_refresh 103 = .ok (.aload 6, 2) := by decide +kernel
theorem dX0_refresh_105 : decode cX0_refresh 105 = .ok (.aload_n 1, 1) := by decide +kernel
theorem dX0_refresh_106 : decode cX0_refresh 106 = .ok (.aload_n 2, 1) := by decide +kernel
theorem dX0_refresh_107 : decode cX0_refresh 107 = .ok (.invokevirtual 58, 3) := by decide +kernel
theorem dX0_refresh_110 : decode cX0_refresh 110 = .ok (.putfield 62, 3) := by decide +kernel
theorem dX0_refresh_113 : decode cX0_refresh 113 = .ok (.aload 6, 2) := by decide +kernel
theorem dX0_refresh_115 : decode cX0_refresh 115 = .ok (.aload 6, 2) := by decide +kernel
theorem dX0_refresh_117 : decode cX0_refresh 117 = .ok (.getfield 57, 3) := by decide +kernel
theorem dX0_refresh_120 : decode cX0_refresh 120 = .ok (.ifCond .ne 7, 3) := by decide +kernel
theorem dX0_refresh_123 : decode cX0_refresh 123 = .ok (.iconst (-1), 1) := by decide +kernel
theorem dX0_refresh_124 : decode cX0_refresh 124 = .ok (.goto 17, 3) := by decide +kernel
theorem dX0_refresh_127 : decode cX0_refresh 127 = .ok (.aload_n 0, 1) := by decide +kernel
theorem dX0_refresh_128 : decode cX0_refresh 128 = .ok (.aload 6, 2) := by decide +kernel
theorem dX0_refresh_130 : decode cX0_refresh 130 = .ok (.getfield 57, 3) := by decide +kernel
theorem dX0_refresh_133 : decode cX0_refresh 133 = .ok (.iconst 0, 1) := by decide +kernel
theorem dX0_refresh_134 : decode cX0_refresh 134 = .ok (.aload 6, 2) := by decide +kernel
theorem dX0_refresh_136 : decode cX0_refresh 136 = .ok (.aload_n 1, 1) := by decide +kernel
theorem dX0_refresh_137 : decode cX0_refresh 137 = .ok (.aload_n 2, 1) := by decide +kernel
theorem dX0_refresh_138 : decode cX0_refresh 138 = .ok (.invokevirtual 58, 3) := by decide +kernel
theorem dX0_refresh_141 : decode cX0_refresh 141 = .ok (.putfield 65, 3) := by decide +kernel
theorem dX0_refresh_144 : decode cX0_refresh 144 = .ok (.aload 6, 2) := by decide +kernel
theorem dX0_refresh_146 : decode cX0_refresh 146 = .ok (.getfield 68, 3) := by decide +kernel
theorem dX0_refresh_149 : decode cX0_refresh 149 = .ok (.iload 4, 2) := by decide +kernel
theorem dX0_refresh_151 : decode cX0_refresh 151 = .ok (.isub, 1) := by decide +kernel
theorem dX0_refresh_152 : decode cX0_refresh 152 = .ok (.iconst 1, 1) := by decide +kernel
theorem dX0_refresh_153 : decode cX0_refresh 153 = .ok (.isub, 1) := by decide +kernel
theorem dX0_refresh_154 : decode cX0_refresh 154 = .ok (.istore 7, 2) := by decide +kernel
theorem dX0_refresh_156 : decode cX0_refresh 156 = .ok (.aload 6, 2) := by decide +kernel
theorem dX0_refresh_158 : decode cX0_refresh 158 = .ok (.getfield 62, 3) := by decide +kernel
theorem dX0_refresh_161 : decode cX0_refresh 161 = .ok (.iconst (-1), 1) := by decide +kernel
theorem dX0_refresh_162 : decode cX0_refresh 162 = .ok (.if_icmp .eq 28, 3) := by decide +kernel
theorem dX0_refresh_165 : decode cX0_refresh 165 = .ok (.aload 6, 2) := by decide +kernel
theorem dX0_refresh_167 : decode cX0_refresh 167 = .ok (.getfield 62, 3) := by decide +kernel
theorem dX0_refresh_170 : decode cX0_refresh 170 = .ok (.aload_n 0, 1) := by decide +kernel
theorem dX0_refresh_171 : decode cX0_refresh 171 = .ok (.getfield 28, 3) := by decide +kernel
theorem dX0_refresh_174 : decode cX0_refresh 174 = .ok (.if_icmp .ne 16, 3) := by decide +kernel
theorem dX0_refresh_177 : decode cX0_refresh 177 = .ok (.iload 7, 2) := by decide +kernel
theorem dX0_refresh_179 : decode cX0_refresh 179 = .ok (.aload_n 2, 1) := by decide +kernel
theorem dX0_refresh_180 : decode cX0_refresh 180 = .ok (.getfield 71, 3) := by decide +kernel
theorem dX0_refresh_183 : decode cX0_refresh 183 = .ok (.if_icmp .gt 7, 3) := by decide +kernel
theorem dX0_refresh_186 : decode cX0_refresh 186 = .ok (.iconst 1, 1) := by decide +kernel
theorem dX0_refresh_187 : decode cX0_refresh 187 = .ok (.goto 4, 3) := by decide +kernel
theorem dX0_refresh_190 : decode cX0_refresh 190 = .ok (.iconst 0, 1) := by decide +kernel
theorem dX0_refresh_191 : decode cX0_refresh 191 = .ok (.istore 8, 2) := by decide +kernel
theorem dX0_refresh_193 : decode cX0_refresh 193 = .ok (.aload 6, 2) := by decide +kernel
theorem dX0_refresh_195 : decode cX0_refresh 195 = .ok (.iload 8, 2) := by decide +kernel
theorem dX0_refresh_197 : decode cX0_refresh 197 = .ok (.ifCond .eq 8, 3) := by decide +kernel
theorem dX0_refresh_200 : decode cX0_refresh 200 = .ok (.iload 7, 2) := by decide +kernel
theorem dX0_refresh_202 : decode cX0_refresh 202 = .ok (.goto 4, 3) := by decide +kernel
theorem dX0_refresh_205 : decode cX0_refresh 205 = .ok (.iconst 0, 1) := by decide +kernel
theorem dX0_refresh_206 : decode cX0_refresh 206 = .ok (.putfield 76, 3) := by decide +kernel
theorem dX0_refresh_209 : decode cX0_refresh 209 = .ok (.aload_n 0, 1) := by decide +kernel
theorem dX0_refresh_210 : decode cX0_refresh 210 = .ok (.aload 6, 2) := by decide +kernel
theorem dX0_refresh_212 : decode cX0_refresh 212 = .ok (.getfield 62, 3) := by decide +kernel
theorem dX0_refresh_215 : decode cX0_refresh 215 = .ok (.putfield 28, 3) := by decide +kernel
theorem dX0_refresh_218 : decode cX0_refresh 218 = .ok (.aload 6, 2) := by decide +kernel
theorem dX0_refresh_220 : decode cX0_refresh 220 = .ok (.getfield 79, 3) := by decide +kernel
theorem dX0_refresh_223 : decode cX0_refresh 223 = .ok (.istore 4, 2) := by decide +kernel
theorem dX0_refresh_225 : decode cX0_refresh 225 = .ok (.iinc 5 1, 3) := by decide +kernel
theorem dX0_refresh_228 : decode cX0_refresh 228 = .ok (.goto (-203), 3) := by decide +kernel
theorem dX0_refresh_231 : decode cX0_refresh 231 = .ok (.return_, 1) := by decide +kernel
theorem dX0_codeAs_0 : decode cX0_codeAs 0 = .ok (.aload_n 0, 1) := by decide +kernel
theorem dX0_codeAs_1 : decode cX0_codeAs 1 = .ok (.iload_n 1, 1) := by decide +kernel
theorem dX0_codeAs_2 : decode cX0_codeAs 2 = .ok (.putfield 19, 3) := by decide +kernel
theorem dX0_codeAs_5 : decode cX0_codeAs 5 = .ok (.aload_n 0, 1) := by decide +kernel
theorem dX0_codeAs_6 : decode cX0_codeAs 6 = .ok (.iload_n 2, 1) := by decide +kernel
theorem dX0_codeAs_7 : decode cX0_codeAs 7 = .ok (.putfield 22, 3) := by decide +kernel
theorem dX0_codeAs_10 : decode cX0_codeAs 10 = .ok (.iconst 0, 1) := by decide +kernel
theorem dX0_codeAs_11 : decode cX0_codeAs 11 = .ok (.istore 6, 2) := by decide +kernel
theorem dX0_codeAs_13 : decode cX0_codeAs 13 = .ok (.iconst 0, 1) := by decide +kernel
theorem dX0_codeAs_14 : decode cX0_codeAs 14 = .ok (.istore 7, 2) := by decide +kernel
theorem dX0_codeAs_16 : decode cX0_codeAs 16 = .ok (.iload 7, 2) := by decide +kernel
theorem dX0_codeAs_18 : decode cX0_codeAs 18 = .ok (.aload 5, 2) := by decide +kernel
theorem dX0_codeAs_20 : decode cX0_codeAs 20 = .ok (.getfield 82, 3) := by decide +kernel
theorem dX0_codeAs_23 : decode cX0_codeAs 23 = .ok (.arraylength, 1) := by decide +kernel
theorem dX0_codeAs_24 : decode cX0_codeAs 24 = .ok (.if_icmp .ge 61, 3) := by decide +kernel
theorem dX0_codeAs_27 : decode cX0_codeAs 27 = .ok (.iload 7, 2) := by decide +kernel
theorem dX0_codeAs_29 : decode cX0_codeAs 29 = .ok (.aload 5, 2) := by decide +kernel
theorem dX0_codeAs_31 : decode cX0_codeAs 31 = .ok (.getfield 85, 3) := by decide +kernel
theorem dX0_codeAs_34 : decode cX0_codeAs 34 = .ok (.arraylength, 1) := by decide +kernel
theorem dX0_codeAs_35 : decode cX0_codeAs 35 = .ok (.if_icmp .ge 50, 3) := by decide +kernel
theorem dX0_codeAs_38 : decode cX0_codeAs 38 = .ok (.aload_n 0, 1) := by decide +kernel
theorem dX0_codeAs_39 : decode cX0_codeAs 39 = .ok (.aload 5, 2) := by decide +kernel
theorem dX0_codeAs_41 : decode cX0_codeAs 41 = .ok (.iload 6, 2) := by decide +kernel
theorem dX0_codeAs_43 : decode cX0_codeAs 43 = .ok (.aload 5, 2) := by decide +kernel
theorem dX0_codeAs_45 : decode cX0_codeAs 45 = .ok (.getfield 85, 3) := by decide +kernel
theorem dX0_codeAs_48 : decode cX0_codeAs 48 = .ok (.iload 7, 2) := by decide +kernel
theorem dX0_codeAs_50 : decode cX0_codeAs 50 = .ok (.iaload, 1) := by decide +kernel
theorem dX0_codeAs_51 : decode cX0_codeAs 51 = .ok (.aload_n 3, 1) := by decide +kernel
theorem dX0_codeAs_52 : decode cX0_codeAs 52 = .ok (.aload 4, 2) := by decide +kernel
theorem dX0_codeAs_54 : decode cX0_codeAs 54 = .ok (.invokevirtual 88, 3) := by decide +kernel
theorem dX0_codeAs_57 : decode cX0_codeAs 57 = .ok (.ifCond .eq 12, 3) := by decide +kernel
theorem dX0_codeAs_60 : decode cX0_codeAs 60 = .ok (.aload 5, 2) := by decide +kernel
theorem dX0_codeAs_62 : decode cX0_codeAs 62 = .ok (.getfield 82, 3) := by decide +kernel
theorem dX0_codeAs_65 : decode cX0_codeAs 65 = .ok (.iload 7, 2) := by decide +kernel
theorem dX0_codeAs_67 : decode cX0_codeAs 67 = .ok (.iaload, 1) := by decide +kernel
theorem dX0_codeAs_68 : decode cX0_codeAs 68 = .ok (.ireturn, 1) := by decide +kernel
theorem dX0_codeAs_69 : decode cX0_codeAs 69 = .ok (.aload 5, 2) := by decide +kernel
theorem dX0_codeAs_71 : decode cX0_codeAs 71 = .ok (.getfield 85, 3) := by decide +kernel
theorem dX0_codeAs_74 : decode cX0_codeAs 74 = .ok (.iload 7, 2) := by decide +kernel
theorem dX0_codeAs_76 : decode cX0_codeAs 76 = .ok (.iaload, 1) := by decide +kernel
theorem dX0_codeAs_77 : decode cX0_codeAs 77 = .ok (.istore 6, 2) := by decide +kernel
theorem dX0_codeAs_79 : decode cX0_codeAs 79 = .ok (.iinc 7 1, 3) := by decide +kernel
theorem dX0_codeAs_82 : decode cX0_codeAs 82 = .ok (.goto (-66), 3) := by decide +kernel
theorem dX0_codeAs_85 : decode cX0_codeAs 85 = .ok (.iconst (-1), 1) := by decide +kernel
theorem dX0_codeAs_86 : decode cX0_codeAs 86 = .ok (.ireturn, 1) := by decide +kernel
theorem dX0_valueOf_0 : decode cX0_valueOf 0 = .ok (.aload_n 0, 1) := by decide +kernel
theorem dX0_valueOf_1 : decode cX0_valueOf 1 = .ok (.iconst 0, 1) := by decide +kernel
theorem dX0_valueOf_2 : decode cX0_valueOf 2 = .ok (.putfield 15, 3) := by decide +kernel
theorem dX0_valueOf_5 : decode cX0_valueOf 5 = .ok (.iload_n 3, 1) := by decide +kernel
theorem dX0_valueOf_6 : decode cX0_valueOf 6 = .ok (.aload_n 1, 1) := by decide +kernel
theorem dX0_valueOf_7 : decode cX0_valueOf 7 = .ok (.getfield 92, 3) := by decide +kernel
theorem dX0_valueOf_10 : decode cX0_valueOf 10 = .ok (.arraylength, 1) := by decide +kernel
theorem dX0_valueOf_11 : decode cX0_valueOf 11 = .ok (.aload_n 1, 1) := by decide +kernel
theorem dX0_valueOf_12 : decode cX0_valueOf 12 = .ok (.getfield 95, 3) := by decide +kernel
theorem dX0_valueOf_15 : decode cX0_valueOf 15 = .ok (.arraylength, 1) := by decide +kernel
theorem dX0_valueOf_16 : decode cX0_valueOf 16 = .ok (.invokestatic 98, 3) := by decide +kernel
theorem dX0_valueOf_19 : decode cX0_valueOf 19 = .ok (.invokestatic 98, 3) := by decide +kernel
theorem dX0_valueOf_22 : decode cX0_valueOf 22 = .ok (.istore 6, 2) := by decide +kernel
theorem dX0_valueOf_24 : decode cX0_valueOf 24 = .ok (.iconst 0, 1) := by decide +kernel
theorem dX0_valueOf_25 : decode cX0_valueOf 25 = .ok (.iload_n 2, 1) := by decide +kernel
theorem dX0_valueOf_26 : decode cX0_valueOf 26 = .ok (.invokestatic 104, 3) := by decide +kernel
theorem dX0_valueOf_29 : decode cX0_valueOf 29 = .ok (.istore 7, 2) := by decide +kernel
theorem dX0_valueOf_31 : decode cX0_valueOf 31 = .ok (.iload 7, 2) := by decide +kernel
theorem dX0_valueOf_33 : decode cX0_valueOf 33 = .ok (.iload 6, 2) := by decide +kernel
theorem dX0_valueOf_35 : decode cX0_valueOf 35 = .ok (.if_icmp .ge 60, 3) := by decide +kernel
theorem dX0_valueOf_38 : decode cX0_valueOf 38 = .ok (.aload_n 1, 1) := by decide +kernel
theorem dX0_valueOf_39 : decode cX0_valueOf 39 = .ok (.getfield 92, 3) := by decide +kernel
theorem dX0_valueOf_42 : decode cX0_valueOf 42 = .ok (.iload 7, 2) := by decide +kernel
theorem dX0_valueOf_44 : decode cX0_valueOf 44 = .ok (.iaload, 1) := by decide +kernel
theorem dX0_valueOf_45 : decode cX0_valueOf 45 = .ok (.istore 8, 2) := by decide +kernel
theorem dX0_valueOf_47 : decode cX0_valueOf 47 = .ok (.iload 8, 2) := by decide +kernel
theorem dX0_valueOf_49 : decode cX0_valueOf 49 = .ok (.bipush 6, 2) := by decide +kernel
theorem dX0_valueOf_51 : decode cX0_valueOf 51 = .ok (.bipush 10, 2) := by decide +kernel
theorem dX0_valueOf_53 : decode cX0_valueOf 53 = .ok (.invokestatic 107, 3) := by decide +kernel
theorem dX0_valueOf_56 : decode cX0_valueOf 56 = .ok (.ifCond .eq 12, 3) := by decide +kernel
theorem dX0_valueOf_59 : decode cX0_valueOf 59 = .ok (.aload_n 0, 1) := by decide +kernel
theorem dX0_valueOf_60 : decode cX0_valueOf 60 = .ok (.iload 8, 2) := by decide +kernel
theorem dX0_valueOf_62 : decode cX0_valueOf 62 = .ok (.invokevirtual 111, 3) := by decide +kernel
theorem dX0_valueOf_65 : decode cX0_valueOf 65 = .ok (.goto 24, 3) := by decide +kernel
theorem dX0_valueOf_68 : decode cX0_valueOf 68 = .ok (.aload_n 0, 1) := by decide +kernel
theorem dX0_valueOf_69 : decode cX0_valueOf 69 = .ok (.aload_n 0, 1) := by decide +kernel
theorem dX0_valueOf_70 : decode cX0_valueOf 70 = .ok (.iload 8, 2) := by decide +kernel
theorem dX0_valueOf_72 : decode cX0_valueOf 72 = .ok (.aload_n 1, 1) := by decide +kernel
theorem dX0_valueOf_73 : decode cX0_valueOf 73 = .ok (.getfield 95, 3) := by decide +kernel
theorem dX0_valueOf_76 : decode cX0_valueOf 76 = .ok (.iload 7, 2) := by decide +kernel
theorem dX0_valueOf_78 : decode cX0_valueOf 78 = .ok (.iaload, 1) := by decide +kernel
theorem dX0_valueOf_79 : decode cX0_valueOf 79 = .ok (.aload 4, 2) := by decide +kernel
theorem dX0_valueOf_81 : decode cX0_valueOf 81 = .ok (.aload 5, 2) := by decide +kernel
theorem dX0_valueOf_83 : decode cX0_valueOf 83 = .ok (.invokevirtual 115, 3) := by decide +kernel
theorem dX0_valueOf_86 : decode cX0_valueOf 86 = .ok (.invokevirtual 119, 3) := by decide +kernel
theorem dX0_valueOf_89 : decode cX0_valueOf 89 = .ok (.iinc 7 1, 3) := by decide +kernel
theorem dX0_valueOf_92 : decode cX0_valueOf 92 = .ok (.goto (-61), 3) := by decide +kernel
theorem dX0_valueOf_95 : decode cX0_valueOf 95 = .ok (.aload_n 0, 1) := by decide +kernel
theorem dX0_valueOf_96 : decode cX0_valueOf 96 = .ok (.getfield 15, 3) := by decide +kernel
theorem dX0_valueOf_99 : decode cX0_valueOf 99 = .ok (.iconst 1, 1) := by decide +kernel
theorem dX0_valueOf_100 : decode cX0_valueOf 100 = .ok (.if_icmp .ne 12, 3) := by decide +kernel
theorem dX0_valueOf_103 : decode cX0_valueOf 103 = .ok (.aload_n 0, 1) := by decide +kernel
theorem dX0_valueOf_104 : decode cX0_valueOf 104 = .ok (.getfield 9, 3) := by decide +kernel
theorem dX0_valueOf_107 : decode cX0_valueOf 107 = .ok (.iconst 0, 1) := by decide +kernel
theorem dX0_valueOf_108 : decode cX0_valueOf 108 = .ok (.iaload, 1) := by decide +kernel
theorem dX0_valueOf_109 : decode cX0_valueOf 109 = .ok (.goto 4, 3) := by decide +kernel
theorem dX0_valueOf_112 : decode cX0_valueOf 112 = .ok (.iconst 0, 1) := by decide +kernel
theorem dX0_valueOf_113 : decode cX0_valueOf 113 = .ok (.ireturn, 1) := by decide +kernel
theorem dX0_push_0 : decode cX0_push 0 = .ok (.aload_n 0, 1) := by decide +kernel
theorem dX0_push_1 : decode cX0_push 1 = .ok (.getfield 15, 3) := by decide +kernel
theorem dX0_push_4 : decode cX0_push 4 = .ok (.bipush 16, 2) := by decide +kernel
theorem dX0_push_6 : decode cX0_push 6 = .ok (.if_icmp .ge 23, 3) := by decide +kernel
theorem dX0_push_9 : decode cX0_push 9 = .ok (.aload_n 0, 1) := by decide +kernel
theorem dX0_push_10 : decode cX0_push 10 = .ok (.getfield 9, 3) := by decide +kernel
theorem dX0_push_13 : decode cX0_push 13 = .ok (.aload_n 0, 1) := by decide +kernel
theorem dX0_push_14 : decode cX0_push 14 = .ok (.getfield 15, 3) := by decide +kernel
theorem dX0_push_17 : decode cX0_push 17 = .ok (.iload_n 1, 1) := by decide +kernel
theorem dX0_push_18 : decode cX0_push 18 = .ok (.iastore, 1) := by decide +kernel
theorem dX0_push_19 : decode cX0_push 19 = .ok (.aload_n 0, 1) := by decide +kernel
theorem dX0_push_20 : decode cX0_push 20 = .ok (.dup, 1) := by decide +kernel
theorem dX0_push_21 : decode cX0_push 21 = .ok (.getfield 15, 3) := by decide +kernel
theorem dX0_push_24 : decode cX0_push 24 = .ok (.iconst 1, 1) := by decide +kernel
theorem dX0_push_25 : decode cX0_push 25 = .ok (.iadd, 1) := by decide +kernel
theorem dX0_push_26 : decode cX0_push 26 = .ok (.putfield 15, 3) := by decide +kernel
theorem dX0_push_29 : decode cX0_push 29 = .ok (.return_, 1) := by decide +kernel
theorem dX0_joinTop_0 : decode cX0_joinTop 0 = .ok (.aload_n 0, 1) := by decide +kernel
theorem dX0_joinTop_1 : decode cX0_joinTop 1 = .ok (.getfield 15, 3) := by decide +kernel
theorem dX0_joinTop_4 : decode cX0_joinTop 4 = .ok (.iconst 2, 1) := by decide +kernel
theorem dX0_joinTop_5 : decode cX0_joinTop 5 = .ok (.if_icmp .lt 57, 3) := by decide +kernel
theorem dX0_joinTop_8 : decode cX0_joinTop 8 = .ok (.aload_n 0, 1) := by decide +kernel
theorem dX0_joinTop_9 : decode cX0_joinTop 9 = .ok (.getfield 15, 3) := by decide +kernel
theorem dX0_joinTop_12 : decode cX0_joinTop 12 = .ok (.bipush 16, 2) := by decide +kernel
theorem dX0_joinTop_14 : decode cX0_joinTop 14 = .ok (.if_icmp .gt 48, 3) := by decide +kernel
theorem dX0_joinTop_17 : decode cX0_joinTop 17 = .ok (.aload_n 0, 1) := by decide +kernel
theorem dX0_joinTop_18 : decode cX0_joinTop 18 = .ok (.dup, 1) := by decide +kernel
theorem dX0_joinTop_19 : decode cX0_joinTop 19 = .ok (.getfield 15, 3) := by decide +kernel
theorem dX0_joinTop_22 : decode cX0_joinTop 22 = .ok (.iconst 1, 1) := by decide +kernel
theorem dX0_joinTop_23 : decode cX0_joinTop 23 = .ok (.isub, 1) := by decide +kernel
theorem dX0_joinTop_24 : decode cX0_joinTop 24 = .ok (.putfield 15, 3) := by decide +kernel
theorem dX0_joinTop_27 : decode cX0_joinTop 27 = .ok (.aload_n 0, 1) := by decide +kernel
theorem dX0_joinTop_28 : decode cX0_joinTop 28 = .ok (.getfield 9, 3) := by decide +kernel
theorem dX0_joinTop_31 : decode cX0_joinTop 31 = .ok (.aload_n 0, 1) := by decide +kernel
theorem dX0_joinTop_32 : decode cX0_joinTop 32 = .ok (.getfield 15, 3) := by decide +kernel
theorem dX0_joinTop_35 : decode cX0_joinTop 35 = .ok (.iconst 1, 1) := by decide +kernel
theorem dX0_joinTop_36 : decode cX0_joinTop 36 = .ok (.isub, 1) := by decide +kernel
theorem dX0_joinTop_37 : decode cX0_joinTop 37 = .ok (.iload_n 1, 1) := by decide +kernel
theorem dX0_joinTop_38 : decode cX0_joinTop 38 = .ok (.aload_n 0, 1) := by decide +kernel
theorem dX0_joinTop_39 : decode cX0_joinTop 39 = .ok (.getfield 9, 3) := by decide +kernel
theorem dX0_joinTop_42 : decode cX0_joinTop 42 = .ok (.aload_n 0, 1) := by decide +kernel
theorem dX0_joinTop_43 : decode cX0_joinTop 43 = .ok (.getfield 15, 3) := by decide +kernel
theorem dX0_joinTop_46 : decode cX0_joinTop 46 = .ok (.iconst 1, 1) := by decide +kernel
theorem dX0_joinTop_47 : decode cX0_joinTop 47 = .ok (.isub, 1) := by decide +kernel
theorem dX0_joinTop_48 : decode cX0_joinTop 48 = .ok (.iaload, 1) := by decide +kernel
theorem dX0_joinTop_49 : decode cX0_joinTop 49 = .ok (.aload_n 0, 1) := by decide +kernel
theorem dX0_joinTop_50 : decode cX0_joinTop 50 = .ok (.getfield 9, 3) := by decide +kernel
theorem dX0_joinTop_53 : decode cX0_joinTop 53 = .ok (.aload_n 0, 1) := by decide +kernel
theorem dX0_joinTop_54 : decode cX0_joinTop 54 = .ok (.getfield 15, 3) := by decide +kernel
theorem dX0_joinTop_57 : decode cX0_joinTop 57 = .ok (.iaload, 1) := by decide +kernel
theorem dX0_joinTop_58 : decode cX0_joinTop 58 = .ok (.invokestatic 122, 3) := by decide +kernel
theorem dX0_joinTop_61 : decode cX0_joinTop 61 = .ok (.iastore, 1) := by decide +kernel
theorem dX0_joinTop_62 : decode cX0_joinTop 62 = .ok (.return_, 1) := by decide +kernel
theorem dX0_joined_0 : decode cX0_joined 0 = .ok (.iload_n 0, 1) := by decide +kernel
theorem dX0_joined_1 : decode cX0_joined 1 = .ok (.tableswitch 67 6 9 #[31, 45, 59, 63], 31) := by decide +kernel
theorem dX0_joined_32 : decode cX0_joined 32 = .ok (.iload_n 1, 1) := by decide +kernel
theorem dX0_joined_33 : decode cX0_joined 33 = .ok (.iload_n 2, 1) := by decide +kernel
theorem dX0_joined_34 : decode cX0_joined 34 = .ok (.if_icmp .ge 7, 3) := by decide +kernel
theorem dX0_joined_37 : decode cX0_joined 37 = .ok (.iconst 1, 1) := by decide +kernel
theorem dX0_joined_38 : decode cX0_joined 38 = .ok (.goto 4, 3) := by decide +kernel
theorem dX0_joined_41 : decode cX0_joined 41 = .ok (.iconst 0, 1) := by decide +kernel
theorem dX0_joined_42 : decode cX0_joined 42 = .ok (.invokestatic 126, 3) := by decide +kernel
theorem dX0_joined_45 : decode cX0_joined 45 = .ok (.ireturn, 1) := by decide +kernel
theorem dX0_joined_46 : decode cX0_joined 46 = .ok (.iload_n 1, 1) := by decide +kernel
theorem dX0_joined_47 : decode cX0_joined 47 = .ok (.iload_n 2, 1) := by decide +kernel
theorem dX0_joined_48 : decode cX0_joined 48 = .ok (.if_icmp .ne 7, 3) := by decide +kernel
theorem dX0_joined_51 : decode cX0_joined 51 = .ok (.iconst 1, 1) := by decide +kernel
theorem dX0_joined_52 : decode cX0_joined 52 = .ok (.goto 4, 3) := by decide +kernel
theorem dX0_joined_55 : decode cX0_joined 55 = .ok (.iconst 0, 1) := by decide +kernel
theorem dX0_joined_56 : decode cX0_joined 56 = .ok (.invokestatic 126, 3) := by decide +kernel
theorem dX0_joined_59 : decode cX0_joined 59 = .ok (.ireturn, 1) := by decide +kernel
theorem dX0_joined_60 : decode cX0_joined 60 = .ok (.iload_n 1, 1) := by decide +kernel
theorem dX0_joined_61 : decode cX0_joined 61 = .ok (.iload_n 2, 1) := by decide +kernel
theorem dX0_joined_62 : decode cX0_joined 62 = .ok (.iadd, 1) := by decide +kernel
theorem dX0_joined_63 : decode cX0_joined 63 = .ok (.ireturn, 1) := by decide +kernel
theorem dX0_joined_64 : decode cX0_joined 64 = .ok (.iload_n 1, 1) := by decide +kernel
theorem dX0_joined_65 : decode cX0_joined 65 = .ok (.iload_n 2, 1) := by decide +kernel
theorem dX0_joined_66 : decode cX0_joined 66 = .ok (.isub, 1) := by decide +kernel
theorem dX0_joined_67 : decode cX0_joined 67 = .ok (.ireturn, 1) := by decide +kernel
theorem dX0_joined_68 : decode cX0_joined 68 = .ok (.iload_n 1, 1) := by decide +kernel
theorem dX0_joined_69 : decode cX0_joined 69 = .ok (.ifCond .eq 11, 3) := by decide +kernel
theorem dX0_joined_72 : decode cX0_joined 72 = .ok (.iload_n 2, 1) := by decide +kernel
theorem dX0_joined_73 : decode cX0_joined 73 = .ok (.ifCond .eq 7, 3) := by decide +kernel
theorem dX0_joined_76 : decode cX0_joined 76 = .ok (.iconst 1, 1) := by decide +kernel
theorem dX0_joined_77 : decode cX0_joined 77 = .ok (.goto 4, 3) := by decide +kernel
theorem dX0_joined_80 : decode cX0_joined 80 = .ok (.iconst 0, 1) := by decide +kernel
theorem dX0_joined_81 : decode cX0_joined 81 = .ok (.invokestatic 126, 3) := by decide +kernel
theorem dX0_joined_84 : decode cX0_joined 84 = .ok (.ireturn, 1) := by decide +kernel
theorem dX0_partOf_0 : decode cX0_partOf 0 = .ok (.iload_n 1, 1) := by decide +kernel
theorem dX0_partOf_1 : decode cX0_partOf 1 = .ok (.tableswitch 143 14 23 #[55, 71, 87, 103, 108, 116, 121, 126, 131, 137], 55) := by decide +kernel
theorem dX0_partOf_56 : decode cX0_partOf 56 = .ok (.aload_n 0, 1) := by decide +kernel
theorem dX0_partOf_57 : decode cX0_partOf 57 = .ok (.getfield 31, 3) := by decide +kernel
theorem dX0_partOf_60 : decode cX0_partOf 60 = .ok (.aload_n 0, 1) := by decide +kernel
theorem dX0_partOf_61 : decode cX0_partOf 61 = .ok (.getfield 19, 3) := by decide +kernel
theorem dX0_partOf_64 : decode cX0_partOf 64 = .ok (.iload_n 2, 1) := by decide +kernel
theorem dX0_partOf_65 : decode cX0_partOf 65 = .ok (.invokevirtual 130, 3) := by decide +kernel
theorem dX0_partOf_68 : decode cX0_partOf 68 = .ok (.invokestatic 126, 3) := by decide +kernel
theorem dX0_partOf_71 : decode cX0_partOf 71 = .ok (.ireturn, 1) := by decide +kernel
theorem dX0_partOf_72 : decode cX0_partOf 72 = .ok (.aload_n 0, 1) := by decide +kernel
theorem dX0_partOf_73 : decode cX0_partOf 73 = .ok (.getfield 31, 3) := by decide +kernel
theorem dX0_partOf_76 : decode cX0_partOf 76 = .ok (.aload_n 0, 1) := by decide +kernel
theorem dX0_partOf_77 : decode cX0_partOf 77 = .ok (.getfield 22, 3) := by decide +kernel
theorem dX0_partOf_80 : decode cX0_partOf 80 = .ok (.iload_n 2, 1) := by decide +kernel
theorem dX0_partOf_81 : decode cX0_partOf 81 = .ok (.invokevirtual 130, 3) := by decide +kernel
theorem dX0_partOf_84 : decode cX0_partOf 84 = .ok (.invokestatic 126, 3) := by decide +kernel
theorem dX0_partOf_87 : decode cX0_partOf 87 = .ok (.ireturn, 1) := by decide +kernel
theorem dX0_partOf_88 : decode cX0_partOf 88 = .ok (.aload_n 0, 1) := by decide +kernel
theorem dX0_partOf_89 : decode cX0_partOf 89 = .ok (.getfield 31, 3) := by decide +kernel
theorem dX0_partOf_92 : decode cX0_partOf 92 = .ok (.aload_n 0, 1) := by decide +kernel
theorem dX0_partOf_93 : decode cX0_partOf 93 = .ok (.getfield 25, 3) := by decide +kernel
theorem dX0_partOf_96 : decode cX0_partOf 96 = .ok (.iload_n 2, 1) := by decide +kernel
theorem dX0_partOf_97 : decode cX0_partOf 97 = .ok (.invokevirtual 130, 3) := by decide +kernel
theorem dX0_partOf_100 : decode cX0_partOf 100 = .ok (.invokestatic 126, 3) := by decide +kernel
theorem dX0_partOf_103 : decode cX0_partOf 103 = .ok (.ireturn, 1) := by decide +kernel
theorem dX0_partOf_104 : decode cX0_partOf 104 = .ok (.aload_n 3, 1) := by decide +kernel
theorem dX0_partOf_105 : decode cX0_partOf 105 = .ok (.getfield 136, 3) := by decide +kernel
theorem dX0_partOf_108 : decode cX0_partOf 108 = .ok (.ireturn, 1) := by decide +kernel
theorem dX0_partOf_109 : decode cX0_partOf 109 = .ok (.aload_n 3, 1) := by decide +kernel
theorem dX0_partOf_110 : decode cX0_partOf 110 = .ok (.getfield 139, 3) := by decide +kernel
theorem dX0_partOf_113 : decode cX0_partOf 113 = .ok (.invokestatic 142, 3) := by decide +kernel
theorem dX0_partOf_116 : decode cX0_partOf 116 = .ok (.ireturn, 1) := by decide +kernel
theorem dX0_partOf_117 : decode cX0_partOf 117 = .ok (.aload_n 3, 1) := by decide +kernel
theorem dX0_partOf_118 : decode cX0_partOf 118 = .ok (.getfield 68, 3) := by decide +kernel
theorem dX0_partOf_121 : decode cX0_partOf 121 = .ok (.ireturn, 1) := by decide +kernel
theorem dX0_partOf_122 : decode cX0_partOf 122 = .ok (.aload_n 3, 1) := by decide +kernel
theorem dX0_partOf_123 : decode cX0_partOf 123 = .ok (.invokevirtual 148, 3) := by decide +kernel
theorem dX0_partOf_126 : decode cX0_partOf 126 = .ok (.ireturn, 1) := by decide +kernel
theorem dX0_partOf_127 : decode cX0_partOf 127 = .ok (.aload_n 0, 1) := by decide +kernel
theorem dX0_partOf_128 : decode cX0_partOf 128 = .ok (.getfield 28, 3) := by decide +kernel
theorem dX0_partOf_131 : decode cX0_partOf 131 = .ok (.ireturn, 1) := by decide +kernel
theorem dX0_partOf_132 : decode cX0_partOf 132 = .ok (.aload 4, 2) := by decide +kernel
theorem dX0_partOf_134 : decode cX0_partOf 134 = .ok (.getfield 151, 3) := by decide +kernel
theorem dX0_partOf_137 : decode cX0_partOf 137 = .ok (.ireturn, 1) := by decide +kernel
theorem dX0_partOf_138 : decode cX0_partOf 138 = .ok (.aload 4, 2) := by decide +kernel
theorem dX0_partOf_140 : decode cX0_partOf 140 = .ok (.getfield 154, 3) := by decide +kernel
theorem dX0_partOf_143 : decode cX0_partOf 143 = .ok (.ireturn, 1) := by decide +kernel
theorem dX0_partOf_144 : decode cX0_partOf 144 = .ok (.iload_n 2, 1) := by decide +kernel
theorem dX0_partOf_145 : decode cX0_partOf 145 = .ok (.ireturn, 1) := by decide +kernel
theorem dX0_oneIf_0 : decode cX0_oneIf 0 = .ok (.iload_n 0, 1) := by decide +kernel
theorem dX0_oneIf_1 : decode cX0_oneIf 1 = .ok (.ifCond .eq 7, 3) := by decide +kernel
theorem dX0_oneIf_4 : decode cX0_oneIf 4 = .ok (.iconst 1, 1) := by decide +kernel
theorem dX0_oneIf_5 : decode cX0_oneIf 5 = .ok (.goto 4, 3) := by decide +kernel
theorem dX0_oneIf_8 : decode cX0_oneIf 8 = .ok (.iconst 0, 1) := by decide +kernel
theorem dX0_oneIf_9 : decode cX0_oneIf 9 = .ok (.ireturn, 1) := by decide +kernel
theorem dX1_init_0 : decode cX1_init 0 = .ok (.aload_n 0, 1) := by decide +kernel
theorem dX1_init_1 : decode cX1_init 1 = .ok (.invokespecial 3, 3) := by decide +kernel
theorem dX1_init_4 : decode cX1_init 4 = .ok (.aload_n 0, 1) := by decide +kernel
theorem dX1_init_5 : decode cX1_init 5 = .ok (.new 9, 3) := by decide +kernel
theorem dX1_init_8 : decode cX1_init 8 = .ok (.dup, 1) := by decide +kernel
theorem dX1_init_9 : decode cX1_init 9 = .ok (.invokespecial 11, 3) := by decide +kernel
theorem dX1_init_12 : decode cX1_init 12 = .ok (.putfield 12, 3) := by decide +kernel
theorem dX1_init_15 : decode cX1_init 15 = .ok (.aload_n 0, 1) := by decide +kernel
theorem dX1_init_16 : decode cX1_init 16 = .ok (.ldc 18, 2) := by decide +kernel
theorem dX1_init_18 : decode cX1_init 18 = .ok (.putfield 19, 3) := by decide +kernel
theorem dX1_init_21 : decode cX1_init 21 = .ok (.aload_n 0, 1) := by decide +kernel
theorem dX1_init_22 : decode cX1_init 22 = .ok (.iconst (-1), 1) := by decide +kernel
theorem dX1_init_23 : decode cX1_init 23 = .ok (.putfield 23, 3) := by decide +kernel
theorem dX1_init_26 : decode cX1_init 26 = .ok (.aload_n 0, 1) := by decide +kernel
theorem dX1_init_27 : decode cX1_init 27 = .ok (.iload_n 1, 1) := by decide +kernel
theorem dX1_init_28 : decode cX1_init 28 = .ok (.putfield 26, 3) := by decide +kernel
theorem dX1_init_31 : decode cX1_init 31 = .ok (.aload_n 0, 1) := by decide +kernel
theorem dX1_init_32 : decode cX1_init 32 = .ok (.iload_n 2, 1) := by decide +kernel
theorem dX1_init_33 : decode cX1_init 33 = .ok (.putfield 29, 3) := by decide +kernel
theorem dX1_init_36 : decode cX1_init 36 = .ok (.aload_n 0, 1) := by decide +kernel
theorem dX1_init_37 : decode cX1_init 37 = .ok (.iload_n 3, 1) := by decide +kernel
theorem dX1_init_38 : decode cX1_init 38 = .ok (.putfield 32, 3) := by decide +kernel
theorem dX1_init_41 : decode cX1_init 41 = .ok (.aload_n 0, 1) := by decide +kernel
theorem dX1_init_42 : decode cX1_init 42 = .ok (.iload 4, 2) := by decide +kernel
theorem dX1_init_44 : decode cX1_init 44 = .ok (.putfield 35, 3) := by decide +kernel
theorem dX1_init_47 : decode cX1_init 47 = .ok (.return_, 1) := by decide +kernel
theorem dX1_isOf_0 : decode cX1_isOf 0 = .ok (.aload_n 0, 1) := by decide +kernel
theorem dX1_isOf_1 : decode cX1_isOf 1 = .ok (.getfield 26, 3) := by decide +kernel
theorem dX1_isOf_4 : decode cX1_isOf 4 = .ok (.iload_n 1, 1) := by decide +kernel
theorem dX1_isOf_5 : decode cX1_isOf 5 = .ok (.if_icmp .ne 15, 3) := by decide +kernel
theorem dX1_isOf_8 : decode cX1_isOf 8 = .ok (.aload_n 0, 1) := by decide +kernel
theorem dX1_isOf_9 : decode cX1_isOf 9 = .ok (.getfield 32, 3) := by decide +kernel
theorem dX1_isOf_12 : decode cX1_isOf 12 = .ok (.iload_n 2, 1) := by decide +kernel
theorem dX1_isOf_13 : decode cX1_isOf 13 = .ok (.if_icmp .ne 7, 3) := by decide +kernel
theorem dX1_isOf_16 : decode cX1_isOf 16 = .ok (.iconst 1, 1) := by decide +kernel
theorem dX1_isOf_17 : decode cX1_isOf 17 = .ok (.goto 4, 3) := by decide +kernel
theorem dX1_isOf_20 : decode cX1_isOf 20 = .ok (.iconst 0, 1) := by decide +kernel
theorem dX1_isOf_21 : decode cX1_isOf 21 = .ok (.ireturn, 1) := by decide +kernel
theorem dX1_isOfSort_0 : decode cX1_isOfSort 0 = .ok (.iload_n 1, 1) := by decide +kernel
theorem dX1_isOfSort_1 : decode cX1_isOfSort 1 = .ok (.lookupswitch 55 #[(0, 27), (1, 41)], 27) := by decide +kernel
theorem dX1_isOfSort_28 : decode cX1_isOfSort 28 = .ok (.aload_n 0, 1) := by decide +kernel
theorem dX1_isOfSort_29 : decode cX1_isOfSort 29 = .ok (.getfield 32, 3) := by decide +kernel
theorem dX1_isOfSort_32 : decode cX1_isOfSort 32 = .ok (.iconst 4, 1) := by decide +kernel
theorem dX1_isOfSort_33 : decode cX1_isOfSort 33 = .ok (.if_icmp .gt 7, 3) := by decide +kernel
theorem dX1_isOfSort_36 : decode cX1_isOfSort 36 = .ok (.iconst 1, 1) := by decide +kernel
theorem dX1_isOfSort_37 : decode cX1_isOfSort 37 = .ok (.goto 4, 3) := by decide +kernel
theorem dX1_isOfSort_40 : decode cX1_isOfSort 40 = .ok (.iconst 0, 1) := by decide +kernel
theorem dX1_isOfSort_41 : decode cX1_isOfSort 41 = .ok (.ireturn, 1) := by decide +kernel
theorem dX1_isOfSort_42 : decode cX1_isOfSort 42 = .ok (.aload_n 0, 1) := by decide +kernel
theorem dX1_isOfSort_43 : decode cX1_isOfSort 43 = .ok (.getfield 32, 3) := by decide +kernel
theorem dX1_isOfSort_46 : decode cX1_isOfSort 46 = .ok (.iconst 4, 1) := by decide +kernel
theorem dX1_isOfSort_47 : decode cX1_isOfSort 47 = .ok (.if_icmp .le 7, 3) := by decide +kernel
theorem dX1_isOfSort_50 : decode cX1_isOfSort 50 = .ok (.iconst 1, 1) := by decide +kernel
theorem dX1_isOfSort_51 : decode cX1_isOfSort 51 = .ok (.goto 4, 3) := by decide +kernel
theorem dX1_isOfSort_54 : decode cX1_isOfSort 54 = .ok (.iconst 0, 1) := by decide +kernel
theorem dX1_isOfSort_55 : decode cX1_isOfSort 55 = .ok (.ireturn, 1) := by decide +kernel
theorem dX1_isOfSort_56 : decode cX1_isOfSort 56 = .ok (.aload_n 0, 1) := by decide +kernel
theorem dX1_isOfSort_57 : decode cX1_isOfSort 57 = .ok (.getfield 35, 3) := by decide +kernel
theorem dX1_isOfSort_60 : decode cX1_isOfSort 60 = .ok (.iload_n 1, 1) := by decide +kernel
theorem dX1_isOfSort_61 : decode cX1_isOfSort 61 = .ok (.iconst 2, 1) := by decide +kernel
theorem dX1_isOfSort_62 : decode cX1_isOfSort 62 = .ok (.isub, 1) := by decide +kernel
theorem dX1_isOfSort_63 : decode cX1_isOfSort 63 = .ok (.if_icmp .ne 7, 3) := by decide +kernel
theorem dX1_isOfSort_66 : decode cX1_isOfSort 66 = .ok (.iconst 1, 1) := by decide +kernel
theorem dX1_isOfSort_67 : decode cX1_isOfSort 67 = .ok (.goto 4, 3) := by decide +kernel
theorem dX1_isOfSort_70 : decode cX1_isOfSort 70 = .ok (.iconst 0, 1) := by decide +kernel
theorem dX1_isOfSort_71 : decode cX1_isOfSort 71 = .ok (.ireturn, 1) := by decide +kernel
theorem dX1_insert_0 : decode cX1_insert 0 = .ok (.iconst 0, 1) := by decide +kernel
theorem dX1_insert_1 : decode cX1_insert 1 = .ok (.istore_n 2, 1) := by decide +kernel
theorem dX1_insert_2 : decode cX1_insert 2 = .ok (.iconst 0, 1) := by decide +kernel
theorem dX1_insert_3 : decode cX1_insert 3 = .ok (.istore_n 3, 1) := by decide +kernel
theorem dX1_insert_4 : decode cX1_insert 4 = .ok (.iload_n 3, 1) := by decide +kernel
theorem dX1_insert_5 : decode cX1_insert 5 = .ok (.aload_n 0, 1) := by decide +kernel
theorem dX1_insert_6 : decode cX1_insert 6 = .ok (.getfield 12, 3) := by decide +kernel
theorem dX1_insert_9 : decode cX1_insert 9 = .ok (.invokevirtual 38, 3) := by decide +kernel
theorem dX1_insert_12 : decode cX1_insert 12 = .ok (.if_icmp .ge 53, 3) := by decide +kernel
theorem dX1_insert_15 : decode cX1_insert 15 = .ok (.aload_n 0, 1) := by decide +kernel
theorem dX1_insert_16 : decode cX1_insert 16 = .ok (.getfield 12, 3) := by decide +kernel
theorem dX1_insert_19 : decode cX1_insert 19 = .ok (.iload_n 3, 1) := by decide +kernel
theorem dX1_insert_20 : decode cX1_insert 20 = .ok (.invokevirtual 42, 3) := by decide +kernel
theorem dX1_insert_23 : decode cX1_insert 23 = .ok (.checkcast 46, 3) := by decide +kernel
theorem dX1_insert_26 : decode cX1_insert 26 = .ok (.astore 4, 2) := by decide +kernel
theorem dX1_insert_28 : decode cX1_insert 28 = .ok (.aload 4, 2) := by decide +kernel
theorem dX1_insert_30 : decode cX1_insert 30 = .ok (.aload_n 1, 1) := by decide +kernel
theorem dX1_insert_31 : decode cX1_insert 31 = .ok (.invokevirtual 48, 3) := by decide +kernel
theorem dX1_insert_34 : decode cX1_insert 34 = .ok (.ifCond .le 5, 3) := by decide +kernel
theorem dX1_insert_37 : decode cX1_insert 37 = .ok (.iconst 0, 1) := by decide +kernel
theorem dX1_insert_38 : decode cX1_insert 38 = .ok (.ireturn, 1) := by decide +kernel
theorem dX1_insert_39 : decode cX1_insert 39 = .ok (.iload_n 2, 1) := by decide +kernel
theorem dX1_insert_40 : decode cX1_insert 40 = .ok (.aload 4, 2) := by decide +kernel
theorem dX1_insert_42 : decode cX1_insert 42 = .ok (.getfield 52, 3) := by decide +kernel
theorem dX1_insert_45 : decode cX1_insert 45 = .ok (.aload_n 1, 1) := by decide +kernel
theorem dX1_insert_46 : decode cX1_insert 46 = .ok (.getfield 55, 3) := by decide +kernel
theorem dX1_insert_49 : decode cX1_insert 49 = .ok (.if_icmp .ge 7, 3) := by decide +kernel
theorem dX1_insert_52 : decode cX1_insert 52 = .ok (.iconst 1, 1) := by decide +kernel
theorem dX1_insert_53 : decode cX1_insert 53 = .ok (.goto 4, 3) := by decide +kernel
theorem dX1_insert_56 : decode cX1_insert 56 = .ok (.iconst 0, 1) := by decide +kernel
theorem dX1_insert_57 : decode cX1_insert 57 = .ok (.iadd, 1) := by decide +kernel
theorem dX1_insert_58 : decode cX1_insert 58 = .ok (.istore_n 2, 1) := by decide +kernel
theorem dX1_insert_59 : decode cX1_insert 59 = .ok (.iinc 3 1, 3) := by decide +kernel
theorem dX1_insert_62 : decode cX1_insert 62 = .ok (.goto (-58), 3) := by decide +kernel
theorem dX1_insert_65 : decode cX1_insert 65 = .ok (.aload_n 0, 1) := by decide +kernel
theorem dX1_insert_66 : decode cX1_insert 66 = .ok (.getfield 12, 3) := by decide +kernel
theorem dX1_insert_69 : decode cX1_insert 69 = .ok (.iload_n 2, 1) := by decide +kernel
theorem dX1_insert_70 : decode cX1_insert 70 = .ok (.aload_n 1, 1) := by decide +kernel
theorem dX1_insert_71 : decode cX1_insert 71 = .ok (.invokevirtual 58, 3) := by decide +kernel
theorem dX1_insert_74 : decode cX1_insert 74 = .ok (.aload_n 0, 1) := by decide +kernel
theorem dX1_insert_75 : decode cX1_insert 75 = .ok (.iconst (-1), 1) := by decide +kernel
theorem dX1_insert_76 : decode cX1_insert 76 = .ok (.putfield 23, 3) := by decide +kernel
theorem dX1_insert_79 : decode cX1_insert 79 = .ok (.iconst 1, 1) := by decide +kernel
theorem dX1_insert_80 : decode cX1_insert 80 = .ok (.ireturn, 1) := by decide +kernel
theorem dX1_tensInCell_0 : decode cX1_tensInCell 0 = .ok (.iconst 0, 1) := by decide +kernel
theorem dX1_tensInCell_1 : decode cX1_tensInCell 1 = .ok (.istore_n 3, 1) := by decide +kernel
theorem dX1_tensInCell_2 : decode cX1_tensInCell 2 = .ok (.iconst 0, 1) := by decide +kernel
theorem dX1_tensInCell_3 : decode cX1_tensInCell 3 = .ok (.istore 4, 2) := by decide +kernel
theorem dX1_tensInCell_5 : decode cX1_tensInCell 5 = .ok (.iload 4, 2) := by decide +kernel
theorem dX1_tensInCell_7 : decode cX1_tensInCell 7 = .ok (.aload_n 0, 1) := by decide +kernel
theorem dX1_tensInCell_8 : decode cX1_tensInCell 8 = .ok (.getfield 12, 3) := by decide +kernel
theorem dX1_tensInCell_11 : decode cX1_tensInCell 11 = .ok (.invokevirtual 38, 3) := by decide +kernel
theorem dX1_tensInCell_14 : decode cX1_tensInCell 14 = .ok (.if_icmp .ge 70, 3) := by decide +kernel
theorem dX1_tensInCell_17 : decode cX1_tensInCell 17 = .ok (.aload_n 0, 1) := by decide +kernel
theorem dX1_tensInCell_18 : decode cX1_tensInCell 18 = .ok (.getfield 12, 3) := by decide +kernel
theorem dX1_tensInCell_21 : decode cX1_tensInCell 21 = .ok (.iload 4, 2) := by decide +kernel
theorem dX1_tensInCell_23 : decode cX1_tensInCell 23 = .ok (.invokevirtual 42, 3) := by decide +kernel
theorem dX1_tensInCell_26 : decode cX1_tensInCell 26 = .ok (.checkcast 46, 3) := by decide +kernel
theorem dX1_tensInCell_29 : decode cX1_tensInCell 29 = .ok (.astore 5, 2) := by decide +kernel
theorem dX1_tensInCell_31 : decode cX1_tensInCell 31 = .ok (.iload_n 2, 1) := by decide +kernel
theorem dX1_tensInCell_32 : decode cX1_tensInCell 32 = .ok (.iconst 3, 1) := by decide +kernel
theorem dX1_tensInCell_33 : decode cX1_tensInCell 33 = .ok (.if_icmp .ne 27, 3) := by decide +kernel
theorem dX1_tensInCell_36 : decode cX1_tensInCell 36 = .ok (.iload_n 3, 1) := by decide +kernel
theorem dX1_tensInCell_37 : decode cX1_tensInCell 37 = .ok (.aload 5, 2) := by decide +kernel
theorem dX1_tensInCell_39 : decode cX1_tensInCell 39 = .ok (.getfield 62, 3) := by decide +kernel
theorem dX1_tensInCell_42 : decode cX1_tensInCell 42 = .ok (.iload_n 1, 1) := by decide +kernel
theorem dX1_tensInCell_43 : decode cX1_tensInCell 43 = .ok (.if_icmp .ne 11, 3) := by decide +kernel
theorem dX1_tensInCell_46 : decode cX1_tensInCell 46 = .ok (.aload 5, 2) := by decide +kernel
theorem dX1_tensInCell_48 : decode cX1_tensInCell 48 = .ok (.getfield 65, 3) := by decide +kernel
theorem dX1_tensInCell_51 : decode cX1_tensInCell 51 = .ok (.goto 4, 3) := by decide +kernel
theorem dX1_tensInCell_54 : decode cX1_tensInCell 54 = .ok (.iconst 0, 1) := by decide +kernel
theorem dX1_tensInCell_55 : decode cX1_tensInCell 55 = .ok (.iadd, 1) := by decide +kernel
theorem dX1_tensInCell_56 : decode cX1_tensInCell 56 = .ok (.istore_n 3, 1) := by decide +kernel
theorem dX1_tensInCell_57 : decode cX1_tensInCell 57 = .ok (.goto 21, 3) := by decide +kernel
theorem dX1_tensInCell_60 : decode cX1_tensInCell 60 = .ok (.aload 5, 2) := by decide +kernel
theorem dX1_tensInCell_62 : decode cX1_tensInCell 62 = .ok (.iload_n 1, 1) := by decide +kernel
theorem dX1_tensInCell_63 : decode cX1_tensInCell 63 = .ok (.iload_n 2, 1) := by decide +kernel
theorem dX1_tensInCell_64 : decode cX1_tensInCell 64 = .ok (.invokevirtual 68, 3) := by decide +kernel
theorem dX1_tensInCell_67 : decode cX1_tensInCell 67 = .ok (.ifCond .eq 11, 3) := by decide +kernel
theorem dX1_tensInCell_70 : decode cX1_tensInCell 70 = .ok (.iload_n 3, 1) := by decide +kernel
theorem dX1_tensInCell_71 : decode cX1_tensInCell 71 = .ok (.aload 5, 2) := by decide +kernel
theorem dX1_tensInCell_73 : decode cX1_tensInCell 73 = .ok (.invokevirtual 72, 3) := by decide +kernel
theorem dX1_tensInCell_76 : decode cX1_tensInCell 76 = .ok (.iadd, 1) := by decide +kernel
theorem dX1_tensInCell_77 : decode cX1_tensInCell 77 = .ok (.istore_n 3, 1) := by decide +kernel
theorem dX1_tensInCell_78 : decode cX1_tensInCell 78 = .ok (.iinc 4 1, 3) := by decide +kernel
theorem dX1_tensInCell_81 : decode cX1_tensInCell 81 = .ok (.goto (-76), 3) := by decide +kernel
theorem dX1_tensInCell_84 : decode cX1_tensInCell 84 = .ok (.iload_n 3, 1) := by decide +kernel
theorem dX1_tensInCell_85 : decode cX1_tensInCell 85 = .ok (.ireturn, 1) := by decide +kernel
theorem dX1_followers_0 : decode cX1_followers 0 = .ok (.iconst 0, 1) := by decide +kernel
theorem dX1_followers_1 : decode cX1_followers 1 = .ok (.istore_n 3, 1) := by decide +kernel
theorem dX1_followers_2 : decode cX1_followers 2 = .ok (.iconst 1, 1) := by decide +kernel
theorem dX1_followers_3 : decode cX1_followers 3 = .ok (.istore 4, 2) := by decide +kernel
theorem dX1_followers_5 : decode cX1_followers 5 = .ok (.iload 4, 2) := by decide +kernel
theorem dX1_followers_7 : decode cX1_followers 7 = .ok (.aload_n 0, 1) := by decide +kernel
theorem dX1_followers_8 : decode cX1_followers 8 = .ok (.getfield 12, 3) := by decide +kernel
theorem dX1_followers_11 : decode cX1_followers 11 = .ok (.invokevirtual 38, 3) := by decide +kernel
theorem dX1_followers_14 : decode cX1_followers 14 = .ok (.if_icmp .ge 100, 3) := by decide +kernel
theorem dX1_followers_17 : decode cX1_followers 17 = .ok (.aload_n 0, 1) := by decide +kernel
theorem dX1_followers_18 : decode cX1_followers 18 = .ok (.getfield 12, 3) := by decide +kernel
theorem dX1_followers_21 : decode cX1_followers 21 = .ok (.iload 4, 2) := by decide +kernel
theorem dX1_followers_23 : decode cX1_followers 23 = .ok (.iconst 1, 1) := by decide +kernel
theorem dX1_followers_24 : decode cX1_followers 24 = .ok (.isub, 1) := by decide +kernel
theorem dX1_followers_25 : decode cX1_followers 25 = .ok (.invokevirtual 42, 3) := by decide +kernel
theorem dX1_followers_28 : decode cX1_followers 28 = .ok (.checkcast 46, 3) := by decide +kernel
theorem dX1_followers_31 : decode cX1_followers 31 = .ok (.astore 5, 2) := by decide +kernel
theorem dX1_followers_33 : decode cX1_followers 33 = .ok (.aload_n 0, 1) := by decide +kernel
theorem dX1_followers_34 : decode cX1_followers 34 = .ok (.getfield 12, 3) := by decide +kernel
theorem dX1_followers_37 : decode cX1_followers 37 = .ok (.iload 4, 2) := by decide +kernel
theorem dX1_followers_39 : decode cX1_followers 39 = .ok (.invokevirtual 42, 3) := by decide +kernel
theorem dX1_followers_42 : decode cX1_followers 42 = .ok (.checkcast 46, 3) := by decide +kernel
theorem dX1_followers_45 : decode cX1_followers 45 = .ok (.astore 6, 2) := by decide +kernel
theorem dX1_followers_47 : decode cX1_followers 47 = .ok (.aload 5, 2) := by decide +kernel
theorem dX1_followers_49 : decode cX1_followers 49 = .ok (.getfield 52, 3) := by decide +kernel
theorem dX1_followers_52 : decode cX1_followers 52 = .ok (.iconst 1, 1) := by decide +kernel
theorem dX1_followers_53 : decode cX1_followers 53 = .ok (.iadd, 1) := by decide +kernel
theorem dX1_followers_54 : decode cX1_followers 54 = .ok (.aload 6, 2) := by decide +kernel
theorem dX1_followers_56 : decode cX1_followers 56 = .ok (.getfield 55, 3) := by decide +kernel
theorem dX1_followers_59 : decode cX1_followers 59 = .ok (.if_icmp .eq 11, 3) := by decide +kernel
theorem dX1_followers_62 : decode cX1_followers 62 = .ok (.aload 6, 2) := by decide +kernel
theorem dX1_followers_64 : decode cX1_followers 64 = .ok (.getfield 65, 3) := by decide +kernel
theorem dX1_followers_67 : decode cX1_followers 67 = .ok (.ifCond .le 7, 3) := by decide +kernel
theorem dX1_followers_70 : decode cX1_followers 70 = .ok (.iconst 1, 1) := by decide +kernel
theorem dX1_followers_71 : decode cX1_followers 71 = .ok (.goto 4, 3) := by decide +kernel
theorem dX1_followers_74 : decode cX1_followers 74 = .ok (.iconst 0, 1) := by decide +kernel
theorem dX1_followers_75 : decode cX1_followers 75 = .ok (.istore 7, 2) := by decide +kernel
theorem dX1_followers_77 : decode cX1_followers 77 = .ok (.iload_n 3, 1) := by decide +kernel
theorem dX1_followers_78 : decode cX1_followers 78 = .ok (.iload 7, 2) := by decide +kernel
theorem dX1_followers_80 : decode cX1_followers 80 = .ok (.ifCond .eq 25, 3) := by decide +kernel
theorem dX1_followers_83 : decode cX1_followers 83 = .ok (.aload 5, 2) := by decide +kernel
theorem dX1_followers_85 : decode cX1_followers 85 = .ok (.getfield 62, 3) := by decide +kernel
theorem dX1_followers_88 : decode cX1_followers 88 = .ok (.iload_n 1, 1) := by decide +kernel
theorem dX1_followers_89 : decode cX1_followers 89 = .ok (.if_icmp .ne 16, 3) := by decide +kernel
theorem dX1_followers_92 : decode cX1_followers 92 = .ok (.aload 6, 2) := by decide +kernel
theorem dX1_followers_94 : decode cX1_followers 94 = .ok (.getfield 62, 3) := by decide +kernel
theorem dX1_followers_97 : decode cX1_followers 97 = .ok (.iload_n 2, 1) := by decide +kernel
theorem dX1_followers_98 : decode cX1_followers 98 = .ok (.if_icmp .ne 7, 3) := by decide +kernel
theorem dX1_followers_101 : decode cX1_followers 101 = .ok (.iconst 1, 1) := by decide +kernel
theorem dX1_followers_102 : decode cX1_followers 102 = .ok (.goto 4, 3) := by decide +kernel
theorem dX1_followers_105 : decode cX1_followers 105 = .ok (.iconst 0, 1) := by decide +kernel
theorem dX1_followers_106 : decode cX1_followers 106 = .ok (.iadd, 1) := by decide +kernel
theorem dX1_followers_107 : decode cX1_followers 107 = .ok (.istore_n 3, 1) := by decide +kernel
theorem dX1_followers_108 : decode cX1_followers 108 = .ok (.iinc 4 1, 3) := by decide +kernel
theorem dX1_followers_111 : decode cX1_followers 111 = .ok (.goto (-106), 3) := by decide +kernel
theorem dX1_followers_114 : decode cX1_followers 114 = .ok (.iload_n 3, 1) := by decide +kernel
theorem dX1_followers_115 : decode cX1_followers 115 = .ok (.ireturn, 1) := by decide +kernel
theorem dX1_tensDeniedBy_0 : decode cX1_tensDeniedBy 0 = .ok (.iconst 0, 1) := by decide +kernel
theorem dX1_tensDeniedBy_1 : decode cX1_tensDeniedBy 1 = .ok (.istore_n 2, 1) := by decide +kernel
theorem dX1_tensDeniedBy_2 : decode cX1_tensDeniedBy 2 = .ok (.iconst 0, 1) := by decide +kernel
theorem dX1_tensDeniedBy_3 : decode cX1_tensDeniedBy 3 = .ok (.istore_n 3, 1) := by decide +kernel
theorem dX1_tensDeniedBy_4 : decode cX1_tensDeniedBy 4 = .ok (.iload_n 3, 1) := by decide +kernel
theorem dX1_tensDeniedBy_5 : decode cX1_tensDeniedBy 5 = .ok (.aload_n 0, 1) := by decide +kernel
theorem dX1_tensDeniedBy_6 : decode cX1_tensDeniedBy 6 = .ok (.getfield 12, 3) := by decide +kernel
theorem dX1_tensDeniedBy_9 : decode cX1_tensDeniedBy 9 = .ok (.invokevirtual 38, 3) := by decide +kernel
theorem dX1_tensDeniedBy_12 : decode cX1_tensDeniedBy 12 = .ok (.if_icmp .ge 50, 3) := by decide +kernel
theorem dX1_tensDeniedBy_15 : decode cX1_tensDeniedBy 15 = .ok (.aload_n 0, 1) := by decide +kernel
theorem dX1_tensDeniedBy_16 : decode cX1_tensDeniedBy 16 = .ok (.getfield 12, 3) := by decide +kernel
theorem dX1_tensDeniedBy_19 : decode cX1_tensDeniedBy 19 = .ok (.iload_n 3, 1) := by decide +kernel
theorem dX1_tensDeniedBy_20 : decode cX1_tensDeniedBy 20 = .ok (.invokevirtual 42, 3) := by decide +kernel
theorem dX1_tensDeniedBy_23 : decode cX1_tensDeniedBy 23 = .ok (.checkcast 46, 3) := by decide +kernel
theorem dX1_tensDeniedBy_26 : decode cX1_tensDeniedBy 26 = .ok (.astore 4, 2) := by decide +kernel
theorem dX1_tensDeniedBy_28 : decode cX1_tensDeniedBy 28 = .ok (.aload 4, 2) := by decide +kernel
theorem dX1_tensDeniedBy_30 : decode cX1_tensDeniedBy 30 = .ok (.getfield 75, 3) := by decide +kernel
theorem dX1_tensDeniedBy_33 : decode cX1_tensDeniedBy 33 = .ok (.aload_n 1, 1) := by decide +kernel
theorem dX1_tensDeniedBy_34 : decode cX1_tensDeniedBy 34 = .ok (.getfield 29, 3) := by decide +kernel
theorem dX1_tensDeniedBy_37 : decode cX1_tensDeniedBy 37 = .ok (.invokestatic 78, 3) := by decide +kernel
theorem dX1_tensDeniedBy_40 : decode cX1_tensDeniedBy 40 = .ok (.ifCond .eq 16, 3) := by decide +kernel
theorem dX1_tensDeniedBy_43 : decode cX1_tensDeniedBy 43 = .ok (.iload_n 2, 1) := by decide +kernel
theorem dX1_tensDeniedBy_44 : decode cX1_tensDeniedBy 44 = .ok (.aload_n 1, 1) := by decide +kernel
theorem dX1_tensDeniedBy_45 : decode cX1_tensDeniedBy 45 = .ok (.aload_n 0, 1) := by decide +kernel
theorem dX1_tensDeniedBy_46 : decode cX1_tensDeniedBy 46 = .ok (.getfield 29, 3) := by decide +kernel
theorem dX1_tensDeniedBy_49 : decode cX1_tensDeniedBy 49 = .ok (.aload 4, 2) := by decide +kernel
theorem dX1_tensDeniedBy_51 : decode cX1_tensDeniedBy 51 = .ok (.invokevirtual 81, 3) := by decide +kernel
theorem dX1_tensDeniedBy_54 : decode cX1_tensDeniedBy 54 = .ok (.iadd, 1) := by decide +kernel
theorem dX1_tensDeniedBy_55 : decode cX1_tensDeniedBy 55 = .ok (.istore_n 2, 1) := by decide +kernel
theorem dX1_tensDeniedBy_56 : decode cX1_tensDeniedBy 56 = .ok (.iinc 3 1, 3) := by decide +kernel
theorem dX1_tensDeniedBy_59 : decode cX1_tensDeniedBy 59 = .ok (.goto (-55), 3) := by decide +kernel
theorem dX1_tensDeniedBy_62 : decode cX1_tensDeniedBy 62 = .ok (.iload_n 2, 1) := by decide +kernel
theorem dX1_tensDeniedBy_63 : decode cX1_tensDeniedBy 63 = .ok (.ireturn, 1) := by decide +kernel
theorem dX1_tensWithout_0 : decode cX1_tensWithout 0 = .ok (.iconst 0, 1) := by decide +kernel
theorem dX1_tensWithout_1 : decode cX1_tensWithout 1 = .ok (.istore_n 3, 1) := by decide +kernel
theorem dX1_tensWithout_2 : decode cX1_tensWithout 2 = .ok (.iconst 0, 1) := by decide +kernel
theorem dX1_tensWithout_3 : decode cX1_tensWithout 3 = .ok (.istore 4, 2) := by decide +kernel
theorem dX1_tensWithout_5 : decode cX1_tensWithout 5 = .ok (.iload 4, 2) := by decide +kernel
theorem dX1_tensWithout_7 : decode cX1_tensWithout 7 = .ok (.aload_n 0, 1) := by decide +kernel
theorem dX1_tensWithout_8 : decode cX1_tensWithout 8 = .ok (.getfield 12, 3) := by decide +kernel
theorem dX1_tensWithout_11 : decode cX1_tensWithout 11 = .ok (.invokevirtual 38, 3) := by decide +kernel
theorem dX1_tensWithout_14 : decode cX1_tensWithout 14 = .ok (.if_icmp .ge 48, 3) := by decide +kernel
theorem dX1_tensWithout_17 : decode cX1_tensWithout 17 = .ok (.aload_n 0, 1) := by decide +kernel
theorem dX1_tensWithout_18 : decode cX1_tensWithout 18 = .ok (.getfield 12, 3) := by decide +kernel
theorem dX1_tensWithout_21 : decode cX1_tensWithout 21 = .ok (.iload 4, 2) := by decide +kernel
theorem dX1_tensWithout_23 : decode cX1_tensWithout 23 = .ok (.invokevirtual 42, 3) := by decide +kernel
theorem dX1_tensWithout_26 : decode cX1_tensWithout 26 = .ok (.checkcast 46, 3) := by decide +kernel
theorem dX1_tensWithout_29 : decode cX1_tensWithout 29 = .ok (.astore 5, 2) := by decide +kernel
theorem dX1_tensWithout_31 : decode cX1_tensWithout 31 = .ok (.iload_n 3, 1) := by decide +kernel
theorem dX1_tensWithout_32 : decode cX1_tensWithout 32 = .ok (.aload 5, 2) := by decide +kernel
theorem dX1_tensWithout_34 : decode cX1_tensWithout 34 = .ok (.getfield 75, 3) := by decide +kernel
theorem dX1_tensWithout_37 : decode cX1_tensWithout 37 = .ok (.iload_n 1, 1) := by decide +kernel
theorem dX1_tensWithout_38 : decode cX1_tensWithout 38 = .ok (.invokestatic 78, 3) := by decide +kernel
theorem dX1_tensWithout_41 : decode cX1_tensWithout 41 = .ok (.ifCond .eq 7, 3) := by decide +kernel
theorem dX1_tensWithout_44 : decode cX1_tensWithout 44 = .ok (.iconst 0, 1) := by decide +kernel
theorem dX1_tensWithout_45 : decode cX1_tensWithout 45 = .ok (.goto 9, 3) := by decide +kernel
theorem dX1_tensWithout_48 : decode cX1_tensWithout 48 = .ok (.aload 5, 2) := by decide +kernel
theorem dX1_tensWithout_50 : decode cX1_tensWithout 50 = .ok (.aload_n 2, 1) := by decide +kernel
theorem dX1_tensWithout_51 : decode cX1_tensWithout 51 = .ok (.invokevirtual 48, 3) := by decide +kernel
theorem dX1_tensWithout_54 : decode cX1_tensWithout 54 = .ok (.iadd, 1) := by decide +kernel
theorem dX1_tensWithout_55 : decode cX1_tensWithout 55 = .ok (.istore_n 3, 1) := by decide +kernel
theorem dX1_tensWithout_56 : decode cX1_tensWithout 56 = .ok (.iinc 4 1, 3) := by decide +kernel
theorem dX1_tensWithout_59 : decode cX1_tensWithout 59 = .ok (.goto (-54), 3) := by decide +kernel
theorem dX1_tensWithout_62 : decode cX1_tensWithout 62 = .ok (.iload_n 3, 1) := by decide +kernel
theorem dX1_tensWithout_63 : decode cX1_tensWithout 63 = .ok (.ireturn, 1) := by decide +kernel
theorem dX1_tensWithoutLine_0 : decode cX1_tensWithoutLine 0 = .ok (.sipush 144, 3) := by decide +kernel
theorem dX1_tensWithoutLine_3 : decode cX1_tensWithoutLine 3 = .ok (.istore_n 1, 1) := by decide +kernel
theorem dX1_tensWithoutLine_4 : decode cX1_tensWithoutLine 4 = .ok (.iconst 0, 1) := by decide +kernel
theorem dX1_tensWithoutLine_5 : decode cX1_tensWithoutLine 5 = .ok (.istore_n 2, 1) := by decide +kernel
theorem dX1_tensWithoutLine_6 : decode cX1_tensWithoutLine 6 = .ok (.iload_n 2, 1) := by decide +kernel
theorem dX1_tensWithoutLine_7 : decode cX1_tensWithoutLine 7 = .ok (.aload_n 0, 1) := by decide +kernel
theorem dX1_tensWithoutLine_8 : decode cX1_tensWithoutLine 8 = .ok (.getfield 12, 3) := by decide +kernel
theorem dX1_tensWithoutLine_11 : decode cX1_tensWithoutLine 11 = .ok (.invokevirtual 38, 3) := by decide +kernel
theorem dX1_tensWithoutLine_14 : decode cX1_tensWithoutLine 14 = .ok (.if_icmp .ge 26, 3) := by decide +kernel
theorem dX1_tensWithoutLine_17 : decode cX1_tensWithoutLine 17 = .ok (.iload_n 1, 1) := by decide +kernel
theorem dX1_tensWithoutLine_18 : decode cX1_tensWithoutLine 18 = .ok (.aload_n 0, 1) := by decide +kernel
theorem dX1_tensWithoutLine_19 : decode cX1_tensWithoutLine 19 = .ok (.getfield 12, 3) := by decide +kernel
theorem dX1_tensWithoutLine_22 : decode cX1_tensWithoutLine 22 = .ok (.iload_n 2, 1) := by decide +kernel
theorem dX1_tensWithoutLine_23 : decode cX1_tensWithoutLine 23 = .ok (.invokevirtual 42, 3) := by decide +kernel
theorem dX1_tensWithoutLine_26 : decode cX1_tensWithoutLine 26 = .ok (.checkcast 46, 3) := by decide +kernel
theorem dX1_tensWithoutLine_29 : decode cX1_tensWithoutLine 29 = .ok (.invokevirtual 72, 3) := by decide +kernel
theorem dX1_tensWithoutLine_32 : decode cX1_tensWithoutLine 32 = .ok (.isub, 1) := by decide +kernel
theorem dX1_tensWithoutLine_33 : decode cX1_tensWithoutLine 33 = .ok (.istore_n 1, 1) := by decide +kernel
theorem dX1_tensWithoutLine_34 : decode cX1_tensWithoutLine 34 = .ok (.iinc 2 1, 3) := by decide +kernel
theorem dX1_tensWithoutLine_37 : decode cX1_tensWithoutLine 37 = .ok (.goto (-31), 3) := by decide +kernel
theorem dX1_tensWithoutLine_40 : decode cX1_tensWithoutLine 40 = .ok (.iload_n 1, 1) := by decide +kernel
theorem dX1_tensWithoutLine_41 : decode cX1_tensWithoutLine 41 = .ok (.ireturn, 1) := by decide +kernel
theorem dX1_tensMended_0 : decode cX1_tensMended 0 = .ok (.iconst 0, 1) := by decide +kernel
theorem dX1_tensMended_1 : decode cX1_tensMended 1 = .ok (.istore_n 1, 1) := by decide +kernel
theorem dX1_tensMended_2 : decode cX1_tensMended 2 = .ok (.iconst 0, 1) := by decide +kernel
theorem dX1_tensMended_3 : decode cX1_tensMended 3 = .ok (.istore_n 2, 1) := by decide +kernel
theorem dX1_tensMended_4 : decode cX1_tensMended 4 = .ok (.iload_n 2, 1) := by decide +kernel
theorem dX1_tensMended_5 : decode cX1_tensMended 5 = .ok (.aload_n 0, 1) := by decide +kernel
theorem dX1_tensMended_6 : decode cX1_tensMended 6 = .ok (.getfield 12, 3) := by decide +kernel
theorem dX1_tensMended_9 : decode cX1_tensMended 9 = .ok (.invokevirtual 38, 3) := by decide +kernel
theorem dX1_tensMended_12 : decode cX1_tensMended 12 = .ok (.if_icmp .ge 26, 3) := by decide +kernel
theorem dX1_tensMended_15 : decode cX1_tensMended 15 = .ok (.iload_n 1, 1) := by decide +kernel
theorem dX1_tensMended_16 : decode cX1_tensMended 16 = .ok (.aload_n 0, 1) := by decide +kernel
theorem dX1_tensMended_17 : decode cX1_tensMended 17 = .ok (.getfield 12, 3) := by decide +kernel
theorem dX1_tensMended_20 : decode cX1_tensMended 20 = .ok (.iload_n 2, 1) := by decide +kernel
theorem dX1_tensMended_21 : decode cX1_tensMended 21 = .ok (.invokevirtual 42, 3) := by decide +kernel
theorem dX1_tensMended_24 : decode cX1_tensMended 24 = .ok (.checkcast 46, 3) := by decide +kernel
theorem dX1_tensMended_27 : decode cX1_tensMended 27 = .ok (.getfield 65, 3) := by decide +kernel
theorem dX1_tensMended_30 : decode cX1_tensMended 30 = .ok (.iadd, 1) := by decide +kernel
theorem dX1_tensMended_31 : decode cX1_tensMended 31 = .ok (.istore_n 1, 1) := by decide +kernel
theorem dX1_tensMended_32 : decode cX1_tensMended 32 = .ok (.iinc 2 1, 3) := by decide +kernel
theorem dX1_tensMended_35 : decode cX1_tensMended 35 = .ok (.goto (-31), 3) := by decide +kernel
theorem dX1_tensMended_38 : decode cX1_tensMended 38 = .ok (.iload_n 1, 1) := by decide +kernel
theorem dX1_tensMended_39 : decode cX1_tensMended 39 = .ok (.ireturn, 1) := by decide +kernel
theorem dX1_linesWithoutCode_0 : decode cX1_linesWithoutCode 0 = .ok (.iconst 0, 1) := by decide +kernel
theorem dX1_linesWithoutCode_1 : decode cX1_linesWithoutCode 1 = .ok (.istore_n 1, 1) := by decide +kernel
theorem dX1_linesWithoutCode_2 : decode cX1_linesWithoutCode 2 = .ok (.iconst 0, 1) := by decide +kernel
theorem dX1_linesWithoutCode_3 : decode cX1_linesWithoutCode 3 = .ok (.istore_n 2, 1) := by decide +kernel
theorem dX1_linesWithoutCode_4 : decode cX1_linesWithoutCode 4 = .ok (.iload_n 2, 1) := by decide +kernel
theorem dX1_linesWithoutCode_5 : decode cX1_linesWithoutCode 5 = .ok (.aload_n 0, 1) := by decide +kernel
theorem dX1_linesWithoutCode_6 : decode cX1_linesWithoutCode 6 = .ok (.getfield 12, 3) := by decide +kernel
theorem dX1_linesWithoutCode_9 : decode cX1_linesWithoutCode 9 = .ok (.invokevirtual 38, 3) := by decide +kernel
theorem dX1_linesWithoutCode_12 : decode cX1_linesWithoutCode 12 = .ok (.if_icmp .ge 35, 3) := by decide +kernel
theorem dX1_linesWithoutCode_15 : decode cX1_linesWithoutCode 15 = .ok (.iload_n 1, 1) := by decide +kernel
theorem dX1_linesWithoutCode_16 : decode cX1_linesWithoutCode 16 = .ok (.aload_n 0, 1) := by decide +kernel
theorem dX1_linesWithoutCode_17 : decode cX1_linesWithoutCode 17 = .ok (.getfield 12, 3) := by decide +kernel
theorem dX1_linesWithoutCode_20 : decode cX1_linesWithoutCode 20 = .ok (.iload_n 2, 1) := by decide +kernel
theorem dX1_linesWithoutCode_21 : decode cX1_linesWithoutCode 21 = .ok (.invokevirtual 42, 3) := by decide +kernel
theorem dX1_linesWithoutCode_24 : decode cX1_linesWithoutCode 24 = .ok (.checkcast 46, 3) := by decide +kernel
theorem dX1_linesWithoutCode_27 : decode cX1_linesWithoutCode 27 = .ok (.getfield 62, 3) := by decide +kernel
theorem dX1_linesWithoutCode_30 : decode cX1_linesWithoutCode 30 = .ok (.iconst (-1), 1) := by decide +kernel
theorem dX1_linesWithoutCode_31 : decode cX1_linesWithoutCode 31 = .ok (.if_icmp .ne 7, 3) := by decide +kernel
theorem dX1_linesWithoutCode_34 : decode cX1_linesWithoutCode 34 = .ok (.iconst 1, 1) := by decide +kernel
theorem dX1_linesWithoutCode_35 : decode cX1_linesWithoutCode 35 = .ok (.goto 4, 3) := by decide +kernel
theorem dX1_linesWithoutCode_38 : decode cX1_linesWithoutCode 38 = .ok (.iconst 0, 1) := by decide +kernel
theorem dX1_linesWithoutCode_39 : decode cX1_linesWithoutCode 39 = .ok (.iadd, 1) := by decide +kernel
theorem dX1_linesWithoutCode_40 : decode cX1_linesWithoutCode 40 = .ok (.istore_n 1, 1) := by decide +kernel
theorem dX1_linesWithoutCode_41 : decode cX1_linesWithoutCode 41 = .ok (.iinc 2 1, 3) := by decide +kernel
theorem dX1_linesWithoutCode_44 : decode cX1_linesWithoutCode 44 = .ok (.goto (-40), 3) := by decide +kernel
theorem dX1_linesWithoutCode_47 : decode cX1_linesWithoutCode 47 = .ok (.iload_n 1, 1) := by decide +kernel
theorem dX1_linesWithoutCode_48 : decode cX1_linesWithoutCode 48 = .ok (.ireturn, 1) := by decide +kernel
theorem dX2_init_0 : decode cX2_init 0 = .ok (.aload_n 0, 1) := by decide +kernel
theorem dX2_init_1 : decode cX2_init 1 = .ok (.invokespecial 3, 3) := by decide +kernel
theorem dX2_init_4 : decode cX2_init 4 = .ok (.aload_n 0, 1) := by decide +kernel
theorem dX2_init_5 : decode cX2_init 5 = .ok (.iconst (-1), 1) := by decide +kernel
theorem dX2_init_6 : decode cX2_init 6 = .ok (.putfield 9, 3) := by decide +kernel
theorem dX2_init_9 : decode cX2_init 9 = .ok (.aload_n 0, 1) := by decide +kernel
theorem dX2_init_10 : decode cX2_init 10 = .ok (.iconst (-1), 1) := by decide +kernel
theorem dX2_init_11 : decode cX2_init 11 = .ok (.putfield 15, 3) := by decide +kernel
theorem dX2_init_14 : decode cX2_init 14 = .ok (.aload_n 0, 1) := by decide +kernel
theorem dX2_init_15 : decode cX2_init 15 = .ok (.iconst 0, 1) := by decide +kernel
theorem dX2_init_16 : decode cX2_init 16 = .ok (.putfield 18, 3) := by decide +kernel
theorem dX2_init_19 : decode cX2_init 19 = .ok (.aload_n 0, 1) := by decide +kernel
theorem dX2_init_20 : decode cX2_init 20 = .ok (.iload_n 1, 1) := by decide +kernel
theorem dX2_init_21 : decode cX2_init 21 = .ok (.putfield 21, 3) := by decide +kernel
theorem dX2_init_24 : decode cX2_init 24 = .ok (.aload_n 0, 1) := by decide +kernel
theorem dX2_init_25 : decode cX2_init 25 = .ok (.iload_n 2, 1) := by decide +kernel
theorem dX2_init_26 : decode cX2_init 26 = .ok (.putfield 24, 3) := by decide +kernel
theorem dX2_init_29 : decode cX2_init 29 = .ok (.aload_n 0, 1) := by decide +kernel
theorem dX2_init_30 : decode cX2_init 30 = .ok (.iload_n 3, 1) := by decide +kernel
theorem dX2_init_31 : decode cX2_init 31 = .ok (.putfield 27, 3) := by decide +kernel
theorem dX2_init_34 : decode cX2_init 34 = .ok (.aload_n 0, 1) := by decide +kernel
theorem dX2_init_35 : decode cX2_init 35 = .ok (.iload 4, 2) := by decide +kernel
theorem dX2_init_37 : decode cX2_init 37 = .ok (.putfield 30, 3) := by decide +kernel
theorem dX2_init_40 : decode cX2_init 40 = .ok (.aload_n 0, 1) := by decide +kernel
theorem dX2_init_41 : decode cX2_init 41 = .ok (.iload 5, 2) := by decide +kernel
theorem dX2_init_43 : decode cX2_init 43 = .ok (.putfield 33, 3) := by decide +kernel
theorem dX2_init_46 : decode cX2_init 46 = .ok (.aload_n 0, 1) := by decide +kernel
theorem dX2_init_47 : decode cX2_init 47 = .ok (.iload 6, 2) := by decide +kernel
theorem dX2_init_49 : decode cX2_init 49 = .ok (.putfield 36, 3) := by decide +kernel
theorem dX2_init_52 : decode cX2_init 52 = .ok (.return_, 1) := by decide +kernel
theorem dX2_length_0 : decode cX2_length 0 = .ok (.aload_n 0, 1) := by decide +kernel
theorem dX2_length_1 : decode cX2_length 1 = .ok (.getfield 24, 3) := by decide +kernel
theorem dX2_length_4 : decode cX2_length 4 = .ok (.aload_n 0, 1) := by decide +kernel
theorem dX2_length_5 : decode cX2_length 5 = .ok (.getfield 21, 3) := by decide +kernel
theorem dX2_length_8 : decode cX2_length 8 = .ok (.isub, 1) := by decide +kernel
theorem dX2_length_9 : decode cX2_length 9 = .ok (.iconst 1, 1) := by decide +kernel
theorem dX2_length_10 : decode cX2_length 10 = .ok (.iadd, 1) := by decide +kernel
theorem dX2_length_11 : decode cX2_length 11 = .ok (.ireturn, 1) := by decide +kernel
theorem dX2_isInCell_0 : decode cX2_isInCell 0 = .ok (.iload_n 2, 1) := by decide +kernel
theorem dX2_isInCell_1 : decode cX2_isInCell 1 = .ok (.iconst 1, 1) := by decide +kernel
theorem dX2_isInCell_2 : decode cX2_isInCell 2 = .ok (.if_icmp .eq 15, 3) := by decide +kernel
theorem dX2_isInCell_5 : decode cX2_isInCell 5 = .ok (.aload_n 0, 1) := by decide +kernel
theorem dX2_isInCell_6 : decode cX2_isInCell 6 = .ok (.getfield 9, 3) := by decide +kernel
theorem dX2_isInCell_9 : decode cX2_isInCell 9 = .ok (.iload_n 1, 1) := by decide +kernel
theorem dX2_isInCell_10 : decode cX2_isInCell 10 = .ok (.if_icmp .ne 7, 3) := by decide +kernel
theorem dX2_isInCell_13 : decode cX2_isInCell 13 = .ok (.iconst 1, 1) := by decide +kernel
theorem dX2_isInCell_14 : decode cX2_isInCell 14 = .ok (.goto 4, 3) := by decide +kernel
theorem dX2_isInCell_17 : decode cX2_isInCell 17 = .ok (.iconst 0, 1) := by decide +kernel
theorem dX2_isInCell_18 : decode cX2_isInCell 18 = .ok (.istore_n 3, 1) := by decide +kernel
theorem dX2_isInCell_19 : decode cX2_isInCell 19 = .ok (.iload_n 2, 1) := by decide +kernel
theorem dX2_isInCell_20 : decode cX2_isInCell 20 = .ok (.ifCond .eq 15, 3) := by decide +kernel
theorem dX2_isInCell_23 : decode cX2_isInCell 23 = .ok (.aload_n 0, 1) := by decide +kernel
theorem dX2_isInCell_24 : decode cX2_isInCell 24 = .ok (.getfield 15, 3) := by decide +kernel
theorem dX2_isInCell_27 : decode cX2_isInCell 27 = .ok (.iload_n 1, 1) := by decide +kernel
theorem dX2_isInCell_28 : decode cX2_isInCell 28 = .ok (.if_icmp .ne 7, 3) := by decide +kernel
theorem dX2_isInCell_31 : decode cX2_isInCell 31 = .ok (.iconst 1, 1) := by decide +kernel
theorem dX2_isInCell_32 : decode cX2_isInCell 32 = .ok (.goto 4, 3) := by decide +kernel
theorem dX2_isInCell_35 : decode cX2_isInCell 35 = .ok (.iconst 0, 1) := by decide +kernel
theorem dX2_isInCell_36 : decode cX2_isInCell 36 = .ok (.istore 4, 2) := by decide +kernel
theorem dX2_isInCell_38 : decode cX2_isInCell 38 = .ok (.iload_n 3, 1) := by decide +kernel
theorem dX2_isInCell_39 : decode cX2_isInCell 39 = .ok (.ifCond .ne 8, 3) := by decide +kernel
theorem dX2_isInCell_42 : decode cX2_isInCell 42 = .ok (.iload 4, 2) := by decide +kernel
theorem dX2_isInCell_44 : decode cX2_isInCell 44 = .ok (.ifCond .eq 7, 3) := by decide +kernel
theorem dX2_isInCell_47 : decode cX2_isInCell 47 = .ok (.iconst 1, 1) := by decide +kernel
theorem dX2_isInCell_48 : decode cX2_isInCell 48 = .ok (.goto 4, 3) := by decide +kernel
theorem dX2_isInCell_51 : decode cX2_isInCell 51 = .ok (.iconst 0, 1) := by decide +kernel
theorem dX2_isInCell_52 : decode cX2_isInCell 52 = .ok (.ireturn, 1) := by decide +kernel
theorem dX2_tensInCommon_0 : decode cX2_tensInCommon 0 = .ok (.iconst 0, 1) := by decide +kernel
theorem dX2_tensInCommon_1 : decode cX2_tensInCommon 1 = .ok (.aload_n 0, 1) := by decide +kernel
theorem dX2_tensInCommon_2 : decode cX2_tensInCommon 2 = .ok (.getfield 24, 3) := by decide +kernel
theorem dX2_tensInCommon_5 : decode cX2_tensInCommon 5 = .ok (.aload_n 1, 1) := by decide +kernel
theorem dX2_tensInCommon_6 : decode cX2_tensInCommon 6 = .ok (.getfield 24, 3) := by decide +kernel
theorem dX2_tensInCommon_9 : decode cX2_tensInCommon 9 = .ok (.invokestatic 39, 3) := by decide +kernel
theorem dX2_tensInCommon_12 : decode cX2_tensInCommon 12 = .ok (.aload_n 0, 1) := by decide +kernel
theorem dX2_tensInCommon_13 : decode cX2_tensInCommon 13 = .ok (.getfield 21, 3) := by decide +kernel
theorem dX2_tensInCommon_16 : decode cX2_tensInCommon 16 = .ok (.aload_n 1, 1) := by decide +kernel
theorem dX2_tensInCommon_17 : decode cX2_tensInCommon 17 = .ok (.getfield 21, 3) := by decide +kernel
theorem dX2_tensInCommon_20 : decode cX2_tensInCommon 20 = .ok (.invokestatic 45, 3) := by decide +kernel
theorem dX2_tensInCommon_23 : decode cX2_tensInCommon 23 = .ok (.isub, 1) := by decide +kernel
theorem dX2_tensInCommon_24 : decode cX2_tensInCommon 24 = .ok (.iconst 1, 1) := by decide +kernel
theorem dX2_tensInCommon_25 : decode cX2_tensInCommon 25 = .ok (.iadd, 1) := by decide +kernel
theorem dX2_tensInCommon_26 : decode cX2_tensInCommon 26 = .ok (.invokestatic 45, 3) := by decide +kernel
theorem dX2_tensInCommon_29 : decode cX2_tensInCommon 29 = .ok (.ireturn, 1) := by decide +kernel
theorem dX3_init_0 : decode cX3_init 0 = .ok (.aload_n 0, 1) := by decide +kernel
theorem dX3_init_1 : decode cX3_init 1 = .ok (.invokespecial 3, 3) := by decide +kernel
theorem dX3_init_4 : decode cX3_init 4 = .ok (.aload_n 0, 1) := by decide +kernel
theorem dX3_init_5 : decode cX3_init 5 = .ok (.new 9, 3) := by decide +kernel
theorem dX3_init_8 : decode cX3_init 8 = .ok (.dup, 1) := by decide +kernel
theorem dX3_init_9 : decode cX3_init 9 = .ok (.invokespecial 11, 3) := by decide +kernel
theorem dX3_init_12 : decode cX3_init 12 = .ok (.putfield 12, 3) := by decide +kernel
theorem dX3_init_15 : decode cX3_init 15 = .ok (.aload_n 0, 1) := by decide +kernel
theorem dX3_init_16 : decode cX3_init 16 = .ok (.bipush 24, 2) := by decide +kernel
theorem dX3_init_18 : decode cX3_init 18 = .ok (.newarray .int, 2) := by decide +kernel
theorem dX3_init_20 : decode cX3_init 20 = .ok (.putfield 18, 3) := by decide +kernel
theorem dX3_init_23 : decode cX3_init 23 = .ok (.aload_n 0, 1) := by decide +kernel
theorem dX3_init_24 : decode cX3_init 24 = .ok (.bipush 24, 2) := by decide +kernel
theorem dX3_init_26 : decode cX3_init 26 = .ok (.newarray .int, 2) := by decide +kernel
theorem dX3_init_28 : decode cX3_init 28 = .ok (.putfield 22, 3) := by decide +kernel
theorem dX3_init_31 : decode cX3_init 31 = .ok (.aload_n 0, 1) := by decide +kernel
theorem dX3_init_32 : decode cX3_init 32 = .ok (.sipush 800, 3) := by decide +kernel
theorem dX3_init_35 : decode cX3_init 35 = .ok (.newarray .int, 2) := by decide +kernel
theorem dX3_init_37 : decode cX3_init 37 = .ok (.putfield 25, 3) := by decide +kernel
theorem dX3_init_40 : decode cX3_init 40 = .ok (.aload_n 0, 1) := by decide +kernel
theorem dX3_init_41 : decode cX3_init 41 = .ok (.sipush 800, 3) := by decide +kernel
theorem dX3_init_44 : decode cX3_init 44 = .ok (.newarray .int, 2) := by decide +kernel
theorem dX3_init_46 : decode cX3_init 46 = .ok (.putfield 28, 3) := by decide +kernel
theorem dX3_init_49 : decode cX3_init 49 = .ok (.aload_n 0, 1) := by decide +kernel
theorem dX3_init_50 : decode cX3_init 50 = .ok (.iconst 0, 1) := by decide +kernel
theorem dX3_init_51 : decode cX3_init 51 = .ok (.putfield 31, 3) := by decide +kernel
theorem dX3_init_54 : decode cX3_init 54 = .ok (.aload_n 0, 1) := by decide +kernel
theorem dX3_init_55 : decode cX3_init 55 = .ok (.iconst 0, 1) := by decide +kernel
theorem dX3_init_56 : decode cX3_init 56 = .ok (.putfield 35, 3) := by decide +kernel
theorem dX3_init_59 : decode cX3_init 59 = .ok (.aload_n 0, 1) := by decide +kernel
theorem dX3_init_60 : decode cX3_init 60 = .ok (.iconst 0, 1) := by decide +kernel
theorem dX3_init_61 : decode cX3_init 61 = .ok (.putfield 38, 3) := by decide +kernel
theorem dX3_init_64 : decode cX3_init 64 = .ok (.aload_n 0, 1) := by decide +kernel
theorem dX3_init_65 : decode cX3_init 65 = .ok (.iconst 0, 1) := by decide +kernel
theorem dX3_init_66 : decode cX3_init 66 = .ok (.putfield 41, 3) := by decide +kernel
theorem dX3_init_69 : decode cX3_init 69 = .ok (.aload_n 0, 1) := by decide +kernel
theorem dX3_init_70 : decode cX3_init 70 = .ok (.iconst 0, 1) := by decide +kernel
theorem dX3_init_71 : decode cX3_init 71 = .ok (.putfield 44, 3) := by decide +kernel
theorem dX3_init_74 : decode cX3_init 74 = .ok (.aload_n 0, 1) := by decide +kernel
theorem dX3_init_75 : decode cX3_init 75 = .ok (.iconst 0, 1) := by decide +kernel
theorem dX3_init_76 : decode cX3_init 76 = .ok (.putfield 47, 3) := by decide +kernel
theorem dX3_init_79 : decode cX3_init 79 = .ok (.return_, 1) := by decide +kernel
theorem dX3_read_0 : decode cX3_read 0 = .ok (.aload_n 0, 1) := by decide +kernel
theorem dX3_read_1 : decode cX3_read 1 = .ok (.getfield 12, 3) := by decide +kernel
theorem dX3_read_4 : decode cX3_read 4 = .ok (.aload_n 1, 1) := by decide +kernel
theorem dX3_read_5 : decode cX3_read 5 = .ok (.invokevirtual 50, 3) := by decide +kernel
theorem dX3_read_8 : decode cX3_read 8 = .ok (.aload_n 0, 1) := by decide +kernel
theorem dX3_read_9 : decode cX3_read 9 = .ok (.iconst 0, 1) := by decide +kernel
theorem dX3_read_10 : decode cX3_read 10 = .ok (.putfield 31, 3) := by decide +kernel
theorem dX3_read_13 : decode cX3_read 13 = .ok (.aload_n 0, 1) := by decide +kernel
theorem dX3_read_14 : decode cX3_read 14 = .ok (.iconst 0, 1) := by decide +kernel
theorem dX3_read_15 : decode cX3_read 15 = .ok (.putfield 35, 3) := by decide +kernel
theorem dX3_read_18 : decode cX3_read 18 = .ok (.aload_n 0, 1) := by decide +kernel
theorem dX3_read_19 : decode cX3_read 19 = .ok (.iconst 0, 1) := by decide +kernel
theorem dX3_read_20 : decode cX3_read 20 = .ok (.putfield 38, 3) := by decide +kernel
theorem dX3_read_23 : decode cX3_read 23 = .ok (.aload_n 0, 1) := by decide +kernel
theorem dX3_read_24 : decode cX3_read 24 = .ok (.iconst 0, 1) := by decide +kernel
theorem dX3_read_25 : decode cX3_read 25 = .ok (.putfield 41, 3) := by decide +kernel
theorem dX3_read_28 : decode cX3_read 28 = .ok (.aload_n 0, 1) := by decide +kernel
theorem dX3_read_29 : decode cX3_read 29 = .ok (.iconst 0, 1) := by decide +kernel
theorem dX3_read_30 : decode cX3_read 30 = .ok (.invokevirtual 54, 3) := by decide +kernel
theorem dX3_read_33 : decode cX3_read 33 = .ok (.iconst 0, 1) := by decide +kernel
theorem dX3_read_34 : decode cX3_read 34 = .ok (.istore_n 2, 1) := by decide +kernel
theorem dX3_read_35 : decode cX3_read 35 = .ok (.iload_n 2, 1) := by decide +kernel
theorem dX3_read_36 : decode cX3_read 36 = .ok (.bipush 24, 2) := by decide +kernel
theorem dX3_read_38 : decode cX3_read 38 = .ok (.if_icmp .gt 70, 3) := by decide +kernel
theorem dX3_read_41 : decode cX3_read 41 = .ok (.aload_n 0, 1) := by decide +kernel
theorem dX3_read_42 : decode cX3_read 42 = .ok (.getfield 47, 3) := by decide +kernel
theorem dX3_read_45 : decode cX3_read 45 = .ok (.bipush 11, 2) := by decide +kernel
theorem dX3_read_47 : decode cX3_read 47 = .ok (.if_icmp .ne 61, 3) := by decide +kernel
theorem dX3_read_50 : decode cX3_read 50 = .ok (.aload_n 0, 1) := by decide +kernel
theorem dX3_read_51 : decode cX3_read 51 = .ok (.getfield 31, 3) := by decide +kernel
theorem dX3_read_54 : decode cX3_read 54 = .ok (.bipush 24, 2) := by decide +kernel
theorem dX3_read_56 : decode cX3_read 56 = .ok (.if_icmp .lt 11, 3) := by decide +kernel
theorem dX3_read_59 : decode cX3_read 59 = .ok (.aload_n 0, 1) := by decide +kernel
theorem dX3_read_60 : decode cX3_read 60 = .ok (.iconst 5, 1) := by decide +kernel
theorem dX3_read_61 : decode cX3_read 61 = .ok (.invokevirtual 58, 3) := by decide +kernel
theorem dX3_read_64 : decode cX3_read 64 = .ok (.goto 44, 3) := by decide +kernel
theorem dX3_read_67 : decode cX3_read 67 = .ok (.aload_n 0, 1) := by decide +kernel
theorem dX3_read_68 : decode cX3_read 68 = .ok (.bipush 11, 2) := by decide +kernel
theorem dX3_read_70 : decode cX3_read 70 = .ok (.invokevirtual 61, 3) := by decide +kernel
theorem dX3_read_73 : decode cX3_read 73 = .ok (.aload_n 0, 1) := by decide +kernel
theorem dX3_read_74 : decode cX3_read 74 = .ok (.iconst 0, 1) := by decide +kernel
theorem dX3_read_75 : decode cX3_read 75 = .ok (.bipush 49, 2) := by decide +kernel
theorem dX3_read_77 : decode cX3_read 77 = .ok (.invokevirtual 64, 3) := by decide +kernel
theorem dX3_read_80 : decode cX3_read 80 = .ok (.istore_n 3, 1) := by decide +kernel
theorem dX3_read_81 : decode cX3_read 81 = .ok (.aload_n 0, 1) := by decide +kernel
theorem dX3_read_82 : decode cX3_read 82 = .ok (.bipush 12, 2) := by decide +kernel
theorem dX3_read_84 : decode cX3_read 84 = .ok (.invokevirtual 61, 3) := by decide +kernel
theorem dX3_read_87 : decode cX3_read 87 = .ok (.aload_n 0, 1) := by decide +kernel
theorem dX3_read_88 : decode cX3_read 88 = .ok (.iconst 0, 1) := by decide +kernel
theorem dX3_read_89 : decode cX3_read 89 = .ok (.invokevirtual 68, 3) := by decide +kernel
theorem dX3_read_92 : decode cX3_read 92 = .ok (.aload_n 0, 1) := by decide +kernel
theorem dX3_read_93 : decode cX3_read 93 = .ok (.iconst 5, 1) := by decide +kernel
theorem dX3_read_94 : decode cX3_read 94 = .ok (.invokevirtual 61, 3) := by decide +kernel
theorem dX3_read_97 : decode cX3_read 97 = .ok (.aload_n 0, 1) := by decide +kernel
theorem dX3_read_98 : decode cX3_read 98 = .ok (.iload_n 3, 1) := by decide +kernel
theorem dX3_read_99 : decode cX3_read 99 = .ok (.invokevirtual 71, 3) := by decide +kernel
theorem dX3_read_102 : decode cX3_read 102 = .ok (.iinc 2 1, 3) := by decide +kernel
theorem dX3_read_105 : decode cX3_read 105 = .ok (.goto (-70), 3) := by decide +kernel
theorem dX3_read_108 : decode cX3_read 108 = .ok (.aload_n 0, 1) := by decide +kernel
theorem dX3_read_109 : decode cX3_read 109 = .ok (.getfield 47, 3) := by decide +kernel
theorem dX3_read_112 : decode cX3_read 112 = .ok (.bipush 13, 2) := by decide +kernel
theorem dX3_read_114 : decode cX3_read 114 = .ok (.if_icmp .ne 26, 3) := by decide +kernel
theorem dX3_read_117 : decode cX3_read 117 = .ok (.aload_n 0, 1) := by decide +kernel
theorem dX3_read_118 : decode cX3_read 118 = .ok (.bipush 13, 2) := by decide +kernel
theorem dX3_read_120 : decode cX3_read 120 = .ok (.invokevirtual 61, 3) := by decide +kernel
theorem dX3_read_123 : decode cX3_read 123 = .ok (.aload_n 0, 1) := by decide +kernel
theorem dX3_read_124 : decode cX3_read 124 = .ok (.aload_n 0, 1) := by decide +kernel
theorem dX3_read_125 : decode cX3_read 125 = .ok (.iconst 1, 1) := by decide +kernel
theorem dX3_read_126 : decode cX3_read 126 = .ok (.sipush 143, 3) := by decide +kernel
theorem dX3_read_129 : decode cX3_read 129 = .ok (.invokevirtual 64, 3) := by decide +kernel
theorem dX3_read_132 : decode cX3_read 132 = .ok (.putfield 38, 3) := by decide +kernel
theorem dX3_read_135 : decode cX3_read 135 = .ok (.aload_n 0, 1) := by decide +kernel
theorem dX3_read_136 : decode cX3_read 136 = .ok (.iconst 5, 1) := by decide +kernel
theorem dX3_read_137 : decode cX3_read 137 = .ok (.invokevirtual 61, 3) := by decide +kernel
theorem dX3_read_140 : decode cX3_read 140 = .ok (.aload_n 0, 1) := by decide +kernel
theorem dX3_read_141 : decode cX3_read 141 = .ok (.getfield 47, 3) := by decide +kernel
theorem dX3_read_144 : decode cX3_read 144 = .ok (.iconst 1, 1) := by decide +kernel
theorem dX3_read_145 : decode cX3_read 145 = .ok (.if_icmp .eq 8, 3) := by decide +kernel
theorem dX3_read_148 : decode cX3_read 148 = .ok (.aload_n 0, 1) := by decide +kernel
theorem dX3_read_149 : decode cX3_read 149 = .ok (.iconst 1, 1) := by decide +kernel
theorem dX3_read_150 : decode cX3_read 150 = .ok (.invokevirtual 58, 3) := by decide +kernel
theorem dX3_read_153 : decode cX3_read 153 = .ok (.aload_n 0, 1) := by decide +kernel
theorem dX3_read_154 : decode cX3_read 154 = .ok (.getfield 41, 3) := by decide +kernel
theorem dX3_read_157 : decode cX3_read 157 = .ok (.ireturn, 1) := by decide +kernel
theorem dX3_makeText_0 : decode cX3_makeText 0 = .ok (.new 74, 3) := by decide +kernel
theorem dX3_makeText_3 : decode cX3_makeText 3 = .ok (.dup, 1) := by decide +kernel
theorem dX3_makeText_4 : decode cX3_makeText 4 = .ok (.aload_n 0, 1) := by decide +kernel
theorem dX3_makeText_5 : decode cX3_makeText 5 = .ok (.getfield 18, 3) := by decide +kernel
theorem dX3_makeText_8 : decode cX3_makeText 8 = .ok (.aload_n 0, 1) := by decide +kernel
theorem dX3_makeText_9 : decode cX3_makeText 9 = .ok (.getfield 31, 3) := by decide +kernel
theorem dX3_makeText_12 : decode cX3_makeText 12 = .ok (.invokestatic 76, 3) := by decide +kernel
theorem dX3_makeText_15 : decode cX3_makeText 15 = .ok (.aload_n 0, 1) := by decide +kernel
theorem dX3_makeText_16 : decode cX3_makeText 16 = .ok (.getfield 22, 3) := by decide +kernel
theorem dX3_makeText_19 : decode cX3_makeText 19 = .ok (.aload_n 0, 1) := by decide +kernel
theorem dX3_makeText_20 : decode cX3_makeText 20 = .ok (.getfield 31, 3) := by decide +kernel
theorem dX3_makeText_23 : decode cX3_makeText 23 = .ok (.invokestatic 76, 3) := by decide +kernel
theorem dX3_makeText_26 : decode cX3_makeText 26 = .ok (.aload_n 0, 1) := by decide +kernel
theorem dX3_makeText_27 : decode cX3_makeText 27 = .ok (.getfield 25, 3) := by decide +kernel
theorem dX3_makeText_30 : decode cX3_makeText 30 = .ok (.aload_n 0, 1) := by decide +kernel
theorem dX3_makeText_31 : decode cX3_makeText 31 = .ok (.getfield 35, 3) := by decide +kernel
theorem dX3_makeText_34 : decode cX3_makeText 34 = .ok (.invokestatic 76, 3) := by decide +kernel
theorem dX3_makeText_37 : decode cX3_makeText 37 = .ok (.aload_n 0, 1) := by decide +kernel
theorem dX3_makeText_38 : decode cX3_makeText 38 = .ok (.getfield 28, 3) := by decide +kernel
theorem dX3_makeText_41 : decode cX3_makeText 41 = .ok (.aload_n 0, 1) := by decide +kernel
theorem dX3_makeText_42 : decode cX3_makeText 42 = .ok (.getfield 35, 3) := by decide +kernel
theorem dX3_makeText_45 : decode cX3_makeText 45 = .ok (.invokestatic 76, 3) := by decide +kernel
theorem dX3_makeText_48 : decode cX3_makeText 48 = .ok (.aload_n 0, 1) := by decide +kernel
theorem dX3_makeText_49 : decode cX3_makeText 49 = .ok (.getfield 38, 3) := by decide +kernel
theorem dX3_makeText_52 : decode cX3_makeText 52 = .ok (.invokespecial 82, 3) := by decide +kernel
theorem dX3_makeText_55 : decode cX3_makeText 55 = .ok (.areturn, 1) := by decide +kernel
theorem dX3_endRule_0 : decode cX3_endRule 0 = .ok (.aload_n 0, 1) := by decide +kernel
theorem dX3_endRule_1 : decode cX3_endRule 1 = .ok (.getfield 31, 3) := by decide +kernel
theorem dX3_endRule_4 : decode cX3_endRule 4 = .ok (.bipush 24, 2) := by decide +kernel
theorem dX3_endRule_6 : decode cX3_endRule 6 = .ok (.if_icmp .ge 36, 3) := by decide +kernel
theorem dX3_endRule_9 : decode cX3_endRule 9 = .ok (.aload_n 0, 1) := by decide +kernel
theorem dX3_endRule_10 : decode cX3_endRule 10 = .ok (.getfield 18, 3) := by decide +kernel
theorem dX3_endRule_13 : decode cX3_endRule 13 = .ok (.aload_n 0, 1) := by decide +kernel
theorem dX3_endRule_14 : decode cX3_endRule 14 = .ok (.getfield 31, 3) := by decide +kernel
theorem dX3_endRule_17 : decode cX3_endRule 17 = .ok (.iload_n 1, 1) := by decide +kernel
theorem dX3_endRule_18 : decode cX3_endRule 18 = .ok (.iastore, 1) := by decide +kernel
theorem dX3_endRule_19 : decode cX3_endRule 19 = .ok (.aload_n 0, 1) := by decide +kernel
theorem dX3_endRule_20 : decode cX3_endRule 20 = .ok (.getfield 22, 3) := by decide +kernel
theorem dX3_endRule_23 : decode cX3_endRule 23 = .ok (.aload_n 0, 1) := by decide +kernel
theorem dX3_endRule_24 : decode cX3_endRule 24 = .ok (.getfield 31, 3) := by decide +kernel
theorem dX3_endRule_27 : decode cX3_endRule 27 = .ok (.aload_n 0, 1) := by decide +kernel
theorem dX3_endRule_28 : decode cX3_endRule 28 = .ok (.getfield 35, 3) := by decide +kernel
theorem dX3_endRule_31 : decode cX3_endRule 31 = .ok (.iastore, 1) := by decide +kernel
theorem dX3_endRule_32 : decode cX3_endRule 32 = .ok (.aload_n 0, 1) := by decide +kernel
theorem dX3_endRule_33 : decode cX3_endRule 33 = .ok (.dup, 1) := by decide +kernel
theorem dX3_endRule_34 : decode cX3_endRule 34 = .ok (.getfield 31, 3) := by decide +kernel
theorem dX3_endRule_37 : decode cX3_endRule 37 = .ok (.iconst 1, 1) := by decide +kernel
theorem dX3_endRule_38 : decode cX3_endRule 38 = .ok (.iadd, 1) := by decide +kernel
theorem dX3_endRule_39 : decode cX3_endRule 39 = .ok (.putfield 31, 3) := by decide +kernel
theorem dX3_endRule_42 : decode cX3_endRule 42 = .ok (.return_, 1) := by decide +kernel
theorem dX3_expression_0 : decode cX3_expression 0 = .ok (.aload_n 0, 1) := by decide +kernel
theorem dX3_expression_1 : decode cX3_expression 1 = .ok (.iload_n 1, 1) := by decide +kernel
theorem dX3_expression_2 : decode cX3_expression 2 = .ok (.invokevirtual 85, 3) := by decide +kernel
theorem dX3_expression_5 : decode cX3_expression 5 = .ok (.iconst 0, 1) := by decide +kernel
theorem dX3_expression_6 : decode cX3_expression 6 = .ok (.istore_n 2, 1) := by decide +kernel
theorem dX3_expression_7 : decode cX3_expression 7 = .ok (.iload_n 2, 1) := by decide +kernel
theorem dX3_expression_8 : decode cX3_expression 8 = .ok (.sipush 800, 3) := by decide +kernel
theorem dX3_expression_11 : decode cX3_expression 11 = .ok (.if_icmp .ge 36, 3) := by decide +kernel
theorem dX3_expression_14 : decode cX3_expression 14 = .ok (.aload_n 0, 1) := by decide +kernel
theorem dX3_expression_15 : decode cX3_expression 15 = .ok (.getfield 47, 3) := by decide +kernel
theorem dX3_expression_18 : decode cX3_expression 18 = .ok (.bipush 10, 2) := by decide +kernel
theorem dX3_expression_20 : decode cX3_expression 20 = .ok (.if_icmp .ne 27, 3) := by decide +kernel
theorem dX3_expression_23 : decode cX3_expression 23 = .ok (.aload_n 0, 1) := by decide +kernel
theorem dX3_expression_24 : decode cX3_expression 24 = .ok (.bipush 10, 2) := by decide +kernel
theorem dX3_expression_26 : decode cX3_expression 26 = .ok (.invokevirtual 61, 3) := by decide +kernel
theorem dX3_expression_29 : decode cX3_expression 29 = .ok (.aload_n 0, 1) := by decide +kernel
theorem dX3_expression_30 : decode cX3_expression 30 = .ok (.iload_n 1, 1) := by decide +kernel
theorem dX3_expression_31 : decode cX3_expression 31 = .ok (.invokevirtual 85, 3) := by decide +kernel
theorem dX3_expression_34 : decode cX3_expression 34 = .ok (.aload_n 0, 1) := by decide +kernel
theorem dX3_expression_35 : decode cX3_expression 35 = .ok (.bipush 10, 2) := by decide +kernel
theorem dX3_expression_37 : decode cX3_expression 37 = .ok (.iconst 0, 1) := by decide +kernel
theorem dX3_expression_38 : decode cX3_expression 38 = .ok (.invokevirtual 88, 3) := by decide +kernel
theorem dX3_expression_41 : decode cX3_expression 41 = .ok (.iinc 2 1, 3) := by decide +kernel
theorem dX3_expression_44 : decode cX3_expression 44 = .ok (.goto (-37), 3) := by decide +kernel
theorem dX3_expression_47 : decode cX3_expression 47 = .ok (.return_, 1) := by decide +kernel
theorem dX3_test_0 : decode cX3_test 0 = .ok (.aload_n 0, 1) := by decide +kernel
theorem dX3_test_1 : decode cX3_test 1 = .ok (.iload_n 1, 1) := by decide +kernel
theorem dX3_test_2 : decode cX3_test 2 = .ok (.invokevirtual 92, 3) := by decide +kernel
theorem dX3_test_5 : decode cX3_test 5 = .ok (.aload_n 0, 1) := by decide +kernel
theorem dX3_test_6 : decode cX3_test 6 = .ok (.getfield 47, 3) := by decide +kernel
theorem dX3_test_9 : decode cX3_test 9 = .ok (.istore_n 2, 1) := by decide +kernel
theorem dX3_test_10 : decode cX3_test 10 = .ok (.iload_n 2, 1) := by decide +kernel
theorem dX3_test_11 : decode cX3_test 11 = .ok (.bipush 6, 2) := by decide +kernel
theorem dX3_test_13 : decode cX3_test 13 = .ok (.if_icmp .eq 9, 3) := by decide +kernel
theorem dX3_test_16 : decode cX3_test 16 = .ok (.iload_n 2, 1) := by decide +kernel
theorem dX3_test_17 : decode cX3_test 17 = .ok (.bipush 7, 2) := by decide +kernel
theorem dX3_test_19 : decode cX3_test 19 = .ok (.if_icmp .ne 19, 3) := by decide +kernel
theorem dX3_test_22 : decode cX3_test 22 = .ok (.aload_n 0, 1) := by decide +kernel
theorem dX3_test_23 : decode cX3_test 23 = .ok (.iload_n 2, 1) := by decide +kernel
theorem dX3_test_24 : decode cX3_test 24 = .ok (.invokevirtual 61, 3) := by decide +kernel
theorem dX3_test_27 : decode cX3_test 27 = .ok (.aload_n 0, 1) := by decide +kernel
theorem dX3_test_28 : decode cX3_test 28 = .ok (.iload_n 1, 1) := by decide +kernel
theorem dX3_test_29 : decode cX3_test 29 = .ok (.invokevirtual 92, 3) := by decide +kernel
theorem dX3_test_32 : decode cX3_test 32 = .ok (.aload_n 0, 1) := by decide +kernel
theorem dX3_test_33 : decode cX3_test 33 = .ok (.iload_n 2, 1) := by decide +kernel
theorem dX3_test_34 : decode cX3_test 34 = .ok (.iconst 0, 1) := by decide +kernel
theorem dX3_test_35 : decode cX3_test 35 = .ok (.invokevirtual 88, 3) := by decide +kernel
theorem dX3_test_38 : decode cX3_test 38 = .ok (.return_, 1) := by decide +kernel
theorem dX3_sum_0 : decode cX3_sum 0 = .ok (.aload_n 0, 1) := by decide +kernel
theorem dX3_sum_1 : decode cX3_sum 1 = .ok (.iload_n 1, 1) := by decide +kernel
theorem dX3_sum_2 : decode cX3_sum 2 = .ok (.invokevirtual 95, 3) := by decide +kernel
theorem dX3_sum_5 : decode cX3_sum 5 = .ok (.iconst 0, 1) := by decide +kernel
theorem dX3_sum_6 : decode cX3_sum 6 = .ok (.istore_n 2, 1) := by decide +kernel
theorem dX3_sum_7 : decode cX3_sum 7 = .ok (.iload_n 2, 1) := by decide +kernel
theorem dX3_sum_8 : decode cX3_sum 8 = .ok (.sipush 800, 3) := by decide +kernel
theorem dX3_sum_11 : decode cX3_sum 11 = .ok (.if_icmp .ge 48, 3) := by decide +kernel
theorem dX3_sum_14 : decode cX3_sum 14 = .ok (.aload_n 0, 1) := by decide +kernel
theorem dX3_sum_15 : decode cX3_sum 15 = .ok (.getfield 47, 3) := by decide +kernel
theorem dX3_sum_18 : decode cX3_sum 18 = .ok (.bipush 8, 2) := by decide +kernel
theorem dX3_sum_20 : decode cX3_sum 20 = .ok (.if_icmp .eq 12, 3) := by decide +kernel
theorem dX3_sum_23 : decode cX3_sum 23 = .ok (.aload_n 0, 1) := by decide +kernel
theorem dX3_sum_24 : decode cX3_sum 24 = .ok (.getfield 47, 3) := by decide +kernel
theorem dX3_sum_27 : decode cX3_sum 27 = .ok (.bipush 9, 2) := by decide +kernel
theorem dX3_sum_29 : decode cX3_sum 29 = .ok (.if_icmp .ne 30, 3) := by decide +kernel
theorem dX3_sum_32 : decode cX3_sum 32 = .ok (.aload_n 0, 1) := by decide +kernel
theorem dX3_sum_33 : decode cX3_sum 33 = .ok (.getfield 47, 3) := by decide +kernel
theorem dX3_sum_36 : decode cX3_sum 36 = .ok (.istore_n 3, 1) := by decide +kernel
theorem dX3_sum_37 : decode cX3_sum 37 = .ok (.aload_n 0, 1) := by decide +kernel
theorem dX3_sum_38 : decode cX3_sum 38 = .ok (.iload_n 3, 1) := by decide +kernel
theorem dX3_sum_39 : decode cX3_sum 39 = .ok (.invokevirtual 61, 3) := by decide +kernel
theorem dX3_sum_42 : decode cX3_sum 42 = .ok (.aload_n 0, 1) := by decide +kernel
theorem dX3_sum_43 : decode cX3_sum 43 = .ok (.iload_n 1, 1) := by decide +kernel
theorem dX3_sum_44 : decode cX3_sum 44 = .ok (.invokevirtual 95, 3) := by decide +kernel
theorem dX3_sum_47 : decode cX3_sum 47 = .ok (.aload_n 0, 1) := by decide +kernel
theorem dX3_sum_48 : decode cX3_sum 48 = .ok (.iload_n 3, 1) := by decide +kernel
theorem dX3_sum_49 : decode cX3_sum 49 = .ok (.iconst 0, 1) := by decide +kernel
theorem dX3_sum_50 : decode cX3_sum 50 = .ok (.invokevirtual 88, 3) := by decide +kernel
theorem dX3_sum_53 : decode cX3_sum 53 = .ok (.iinc 2 1, 3) := by decide +kernel
theorem dX3_sum_56 : decode cX3_sum 56 = .ok (.goto (-49), 3) := by decide +kernel
theorem dX3_sum_59 : decode cX3_sum 59 = .ok (.return_, 1) := by decide +kernel
theorem dX3_part_0 : decode cX3_part 0 = .ok (.aload_n 0, 1) := by decide +kernel
theorem dX3_part_1 : decode cX3_part 1 = .ok (.getfield 47, 3) := by decide +kernel
theorem dX3_part_4 : decode cX3_part 4 = .ok (.istore_n 2, 1) := by decide +kernel
theorem dX3_part_5 : decode cX3_part 5 = .ok (.iload_n 2, 1) := by decide +kernel
theorem dX3_part_6 : decode cX3_part 6 = .ok (.iconst 2, 1) := by decide +kernel
theorem dX3_part_7 : decode cX3_part 7 = .ok (.if_icmp .eq 19, 3) := by decide +kernel
theorem dX3_part_10 : decode cX3_part 10 = .ok (.iload_n 2, 1) := by decide +kernel
theorem dX3_part_11 : decode cX3_part 11 = .ok (.iconst 3, 1) := by decide +kernel
theorem dX3_part_12 : decode cX3_part 12 = .ok (.if_icmp .eq 14, 3) := by decide +kernel
theorem dX3_part_15 : decode cX3_part 15 = .ok (.iload_n 2, 1) := by decide +kernel
theorem dX3_part_16 : decode cX3_part 16 = .ok (.bipush 14, 2) := by decide +kernel
theorem dX3_part_18 : decode cX3_part 18 = .ok (.bipush 23, 2) := by decide +kernel
theorem dX3_part_20 : decode cX3_part 20 = .ok (.invokestatic 98, 3) := by decide +kernel
theorem dX3_part_23 : decode cX3_part 23 = .ok (.ifCond .eq 7, 3) := by decide +kernel
theorem dX3_part_26 : decode cX3_part 26 = .ok (.iconst 1, 1) := by decide +kernel
theorem dX3_part_27 : decode cX3_part 27 = .ok (.goto 4, 3) := by decide +kernel
theorem dX3_part_30 : decode cX3_part 30 = .ok (.iconst 0, 1) := by decide +kernel
theorem dX3_part_31 : decode cX3_part 31 = .ok (.istore_n 3, 1) := by decide +kernel
theorem dX3_part_32 : decode cX3_part 32 = .ok (.iload_n 3, 1) := by decide +kernel
theorem dX3_part_33 : decode cX3_part 33 = .ok (.ifCond .ne 11, 3) := by decide +kernel
theorem dX3_part_36 : decode cX3_part 36 = .ok (.aload_n 0, 1) := by decide +kernel
theorem dX3_part_37 : decode cX3_part 37 = .ok (.iconst 1, 1) := by decide +kernel
theorem dX3_part_38 : decode cX3_part 38 = .ok (.invokevirtual 58, 3) := by decide +kernel
theorem dX3_part_41 : decode cX3_part 41 = .ok (.goto 98, 3) := by decide +kernel
theorem dX3_part_44 : decode cX3_part 44 = .ok (.iload_n 1, 1) := by decide +kernel
theorem dX3_part_45 : decode cX3_part 45 = .ok (.iconst 5, 1) := by decide +kernel
theorem dX3_part_46 : decode cX3_part 46 = .ok (.if_icmp .lt 11, 3) := by decide +kernel
theorem dX3_part_49 : decode cX3_part 49 = .ok (.aload_n 0, 1) := by decide +kernel
theorem dX3_part_50 : decode cX3_part 50 = .ok (.iconst 5, 1) := by decide +kernel
theorem dX3_part_51 : decode cX3_part 51 = .ok (.invokevirtual 58, 3) := by decide +kernel
theorem dX3_part_54 : decode cX3_part 54 = .ok (.goto 85, 3) := by decide +kernel
theorem dX3_part_57 : decode cX3_part 57 = .ok (.iload_n 2, 1) := by decide +kernel
theorem dX3_part_58 : decode cX3_part 58 = .ok (.iconst 3, 1) := by decide +kernel
theorem dX3_part_59 : decode cX3_part 59 = .ok (.if_icmp .ne 23, 3) := by decide +kernel
theorem dX3_part_62 : decode cX3_part 62 = .ok (.aload_n 0, 1) := by decide +kernel
theorem dX3_part_63 : decode cX3_part 63 = .ok (.iconst 3, 1) := by decide +kernel
theorem dX3_part_64 : decode cX3_part 64 = .ok (.invokevirtual 61, 3) := by decide +kernel
theorem dX3_part_67 : decode cX3_part 67 = .ok (.aload_n 0, 1) := by decide +kernel
theorem dX3_part_68 : decode cX3_part 68 = .ok (.iload_n 1, 1) := by decide +kernel
theorem dX3_part_69 : decode cX3_part 69 = .ok (.iconst 1, 1) := by decide +kernel
theorem dX3_part_70 : decode cX3_part 70 = .ok (.iadd, 1) := by decide +kernel
theorem dX3_part_71 : decode cX3_part 71 = .ok (.invokevirtual 68, 3) := by decide +kernel
theorem dX3_part_74 : decode cX3_part 74 = .ok (.aload_n 0, 1) := by decide +kernel
theorem dX3_part_75 : decode cX3_part 75 = .ok (.iconst 4, 1) := by decide +kernel
theorem dX3_part_76 : decode cX3_part 76 = .ok (.invokevirtual 61, 3) := by decide +kernel
theorem dX3_part_79 : decode cX3_part 79 = .ok (.goto 60, 3) := by decide +kernel
theorem dX3_part_82 : decode cX3_part 82 = .ok (.iload_n 2, 1) := by decide +kernel
theorem dX3_part_83 : decode cX3_part 83 = .ok (.iconst 2, 1) := by decide +kernel
theorem dX3_part_84 : decode cX3_part 84 = .ok (.if_icmp .ne 18, 3) := by decide +kernel
theorem dX3_part_87 : decode cX3_part 87 = .ok (.aload_n 0, 1) := by decide +kernel
theorem dX3_part_88 : decode cX3_part 88 = .ok (.iconst 2, 1) := by decide +kernel
theorem dX3_part_89 : decode cX3_part 89 = .ok (.aload_n 0, 1) := by decide +kernel
theorem dX3_part_90 : decode cX3_part 90 = .ok (.iconst 0, 1) := by decide +kernel
theorem dX3_part_91 : decode cX3_part 91 = .ok (.ldc 104, 2) := by decide +kernel
theorem dX3_part_93 : decode cX3_part 93 = .ok (.invokevirtual 64, 3) := by decide +kernel
theorem dX3_part_96 : decode cX3_part 96 = .ok (.invokevirtual 88, 3) := by decide +kernel
theorem dX3_part_99 : decode cX3_part 99 = .ok (.goto 40, 3) := by decide +kernel
theorem dX3_part_102 : decode cX3_part 102 = .ok (.aload_n 0, 1) := by decide +kernel
theorem dX3_part_103 : decode cX3_part 103 = .ok (.iload_n 2, 1) := by decide +kernel
theorem dX3_part_104 : decode cX3_part 104 = .ok (.invokevirtual 61, 3) := by decide +kernel
theorem dX3_part_107 : decode cX3_part 107 = .ok (.iload_n 2, 1) := by decide +kernel
theorem dX3_part_108 : decode cX3_part 108 = .ok (.bipush 14, 2) := by decide +kernel
theorem dX3_part_110 : decode cX3_part 110 = .ok (.bipush 16, 2) := by decide +kernel
theorem dX3_part_112 : decode cX3_part 112 = .ok (.invokestatic 98, 3) := by decide +kernel
theorem dX3_part_115 : decode cX3_part 115 = .ok (.istore 4, 2) := by decide +kernel
theorem dX3_part_117 : decode cX3_part 117 = .ok (.aload_n 0, 1) := by decide +kernel
theorem dX3_part_118 : decode cX3_part 118 = .ok (.iload_n 2, 1) := by decide +kernel
theorem dX3_part_119 : decode cX3_part 119 = .ok (.iload 4, 2) := by decide +kernel
theorem dX3_part_121 : decode cX3_part 121 = .ok (.ifCond .eq 14, 3) := by decide +kernel
theorem dX3_part_124 : decode cX3_part 124 = .ok (.aload_n 0, 1) := by decide +kernel
theorem dX3_part_125 : decode cX3_part 125 = .ok (.iconst 1, 1) := by decide +kernel
theorem dX3_part_126 : decode cX3_part 126 = .ok (.sipush 200, 3) := by decide +kernel
theorem dX3_part_129 : decode cX3_part 129 = .ok (.invokevirtual 64, 3) := by decide +kernel
theorem dX3_part_132 : decode cX3_part 132 = .ok (.goto 4, 3) := by decide +kernel
theorem dX3_part_135 : decode cX3_part 135 = .ok (.iconst 0, 1) := by decide +kernel
theorem dX3_part_136 : decode cX3_part 136 = .ok (.invokevirtual 88, 3) := by decide +kernel
theorem dX3_part_139 : decode cX3_part 139 = .ok (.return_, 1) := by decide +kernel
theorem dX3_take_0 : decode cX3_take 0 = .ok (.aload_n 0, 1) := by decide +kernel
theorem dX3_take_1 : decode cX3_take 1 = .ok (.getfield 47, 3) := by decide +kernel
theorem dX3_take_4 : decode cX3_take 4 = .ok (.iload_n 1, 1) := by decide +kernel
theorem dX3_take_5 : decode cX3_take 5 = .ok (.if_icmp .ne 16, 3) := by decide +kernel
theorem dX3_take_8 : decode cX3_take 8 = .ok (.aload_n 0, 1) := by decide +kernel
