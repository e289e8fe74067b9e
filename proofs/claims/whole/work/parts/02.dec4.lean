theorem dX9_text_37 : decode cX9_text 37 = .ok (.bipush 8, 2) := by decide +kernel
theorem dX9_text_39 : decode cX9_text 39 = .ok (.iconst 0, 1) := by decide +kernel
theorem dX9_text_40 : decode cX9_text 40 = .ok (.iastore, 1) := by decide +kernel
theorem dX9_text_41 : decode cX9_text 41 = .ok (.aload_n 0, 1) := by decide +kernel
theorem dX9_text_42 : decode cX9_text 42 = .ok (.iconst 0, 1) := by decide +kernel
theorem dX9_text_43 : decode cX9_text 43 = .ok (.putfield 183, 3) := by decide +kernel
theorem dX9_text_46 : decode cX9_text 46 = .ok (.aload_n 0, 1) := by decide +kernel
theorem dX9_text_47 : decode cX9_text 47 = .ok (.getfield 167, 3) := by decide +kernel
theorem dX9_text_50 : decode cX9_text 50 = .ok (.ifCond .ne 30, 3) := by decide +kernel
theorem dX9_text_53 : decode cX9_text 53 = .ok (.aload_n 0, 1) := by decide +kernel
theorem dX9_text_54 : decode cX9_text 54 = .ok (.getfield 13, 3) := by decide +kernel
theorem dX9_text_57 : decode cX9_text 57 = .ok (.aload_n 0, 1) := by decide +kernel
theorem dX9_text_58 : decode cX9_text 58 = .ok (.getfield 164, 3) := by decide +kernel
theorem dX9_text_61 : decode cX9_text 61 = .ok (.iaload, 1) := by decide +kernel
theorem dX9_text_62 : decode cX9_text 62 = .ok (.ifCond .eq 18, 3) := by decide +kernel
theorem dX9_text_65 : decode cX9_text 65 = .ok (.aload_n 0, 1) := by decide +kernel
theorem dX9_text_66 : decode cX9_text 66 = .ok (.iconst 1, 1) := by decide +kernel
theorem dX9_text_67 : decode cX9_text 67 = .ok (.invokevirtual 177, 3) := by decide +kernel
theorem dX9_text_70 : decode cX9_text 70 = .ok (.ifCond .ne 10, 3) := by decide +kernel
theorem dX9_text_73 : decode cX9_text 73 = .ok (.aload_n 0, 1) := by decide +kernel
theorem dX9_text_74 : decode cX9_text 74 = .ok (.invokevirtual 192, 3) := by decide +kernel
theorem dX9_text_77 : decode cX9_text 77 = .ok (.goto (-31), 3) := by decide +kernel
theorem dX9_text_80 : decode cX9_text 80 = .ok (.aload_n 0, 1) := by decide +kernel
theorem dX9_text_81 : decode cX9_text 81 = .ok (.iconst 1, 1) := by decide +kernel
theorem dX9_text_82 : decode cX9_text 82 = .ok (.invokevirtual 180, 3) := by decide +kernel
theorem dX9_text_85 : decode cX9_text 85 = .ok (.ifCond .eq 48, 3) := by decide +kernel
theorem dX9_text_88 : decode cX9_text 88 = .ok (.aload_n 0, 1) := by decide +kernel
theorem dX9_text_89 : decode cX9_text 89 = .ok (.getfield 61, 3) := by decide +kernel
theorem dX9_text_92 : decode cX9_text 92 = .ok (.bipush 8, 2) := by decide +kernel
theorem dX9_text_94 : decode cX9_text 94 = .ok (.aload_n 0, 1) := by decide +kernel
theorem dX9_text_95 : decode cX9_text 95 = .ok (.iconst 1, 1) := by decide +kernel
theorem dX9_text_96 : decode cX9_text 96 = .ok (.sipush 143, 3) := by decide +kernel
theorem dX9_text_99 : decode cX9_text 99 = .ok (.invokevirtual 195, 3) := by decide +kernel
theorem dX9_text_102 : decode cX9_text 102 = .ok (.iastore, 1) := by decide +kernel
theorem dX9_text_103 : decode cX9_text 103 = .ok (.aload_n 0, 1) := by decide +kernel
theorem dX9_text_104 : decode cX9_text 104 = .ok (.bipush 59, 2) := by decide +kernel
theorem dX9_text_106 : decode cX9_text 106 = .ok (.invokevirtual 199, 3) := by decide +kernel
theorem dX9_text_109 : decode cX9_text 109 = .ok (.aload_n 0, 1) := by decide +kernel
theorem dX9_text_110 : decode cX9_text 110 = .ok (.getfield 167, 3) := by decide +kernel
theorem dX9_text_113 : decode cX9_text 113 = .ok (.ifCond .ne 20, 3) := by decide +kernel
theorem dX9_text_116 : decode cX9_text 116 = .ok (.aload_n 0, 1) := by decide +kernel
theorem dX9_text_117 : decode cX9_text 117 = .ok (.getfield 13, 3) := by decide +kernel
theorem dX9_text_120 : decode cX9_text 120 = .ok (.aload_n 0, 1) := by decide +kernel
theorem dX9_text_121 : decode cX9_text 121 = .ok (.getfield 164, 3) := by decide +kernel
theorem dX9_text_124 : decode cX9_text 124 = .ok (.iaload, 1) := by decide +kernel
theorem dX9_text_125 : decode cX9_text 125 = .ok (.ifCond .eq 8, 3) := by decide +kernel
theorem dX9_text_128 : decode cX9_text 128 = .ok (.aload_n 0, 1) := by decide +kernel
theorem dX9_text_129 : decode cX9_text 129 = .ok (.iconst 1, 1) := by decide +kernel
theorem dX9_text_130 : decode cX9_text 130 = .ok (.invokevirtual 173, 3) := by decide +kernel
theorem dX9_text_133 : decode cX9_text 133 = .ok (.aload_n 0, 1) := by decide +kernel
theorem dX9_text_134 : decode cX9_text 134 = .ok (.getfield 167, 3) := by decide +kernel
theorem dX9_text_137 : decode cX9_text 137 = .ok (.ifCond .ne 7, 3) := by decide +kernel
theorem dX9_text_140 : decode cX9_text 140 = .ok (.aload_n 0, 1) := by decide +kernel
theorem dX9_text_141 : decode cX9_text 141 = .ok (.invokevirtual 202, 3) := by decide +kernel
theorem dX9_text_144 : decode cX9_text 144 = .ok (.aload_n 0, 1) := by decide +kernel
theorem dX9_text_145 : decode cX9_text 145 = .ok (.getfield 167, 3) := by decide +kernel
theorem dX9_text_148 : decode cX9_text 148 = .ok (.ireturn, 1) := by decide +kernel
theorem dX9_keeps_0 : decode cX9_keeps 0 = .ok (.aload_n 0, 1) := by decide +kernel
theorem dX9_keeps_1 : decode cX9_keeps 1 = .ok (.getfield 58, 3) := by decide +kernel
theorem dX9_keeps_4 : decode cX9_keeps 4 = .ok (.aload_n 0, 1) := by decide +kernel
theorem dX9_keeps_5 : decode cX9_keeps 5 = .ok (.getfield 186, 3) := by decide +kernel
theorem dX9_keeps_8 : decode cX9_keeps 8 = .ok (.aload_n 0, 1) := by decide +kernel
theorem dX9_keeps_9 : decode cX9_keeps 9 = .ok (.getfield 58, 3) := by decide +kernel
theorem dX9_keeps_12 : decode cX9_keeps 12 = .ok (.bipush 8, 2) := by decide +kernel
theorem dX9_keeps_14 : decode cX9_keeps 14 = .ok (.iaload, 1) := by decide +kernel
theorem dX9_keeps_15 : decode cX9_keeps 15 = .ok (.iastore, 1) := by decide +kernel
theorem dX9_keeps_16 : decode cX9_keeps 16 = .ok (.aload_n 0, 1) := by decide +kernel
theorem dX9_keeps_17 : decode cX9_keeps 17 = .ok (.getfield 61, 3) := by decide +kernel
theorem dX9_keeps_20 : decode cX9_keeps 20 = .ok (.aload_n 0, 1) := by decide +kernel
theorem dX9_keeps_21 : decode cX9_keeps 21 = .ok (.getfield 186, 3) := by decide +kernel
theorem dX9_keeps_24 : decode cX9_keeps 24 = .ok (.aload_n 0, 1) := by decide +kernel
theorem dX9_keeps_25 : decode cX9_keeps 25 = .ok (.getfield 61, 3) := by decide +kernel
theorem dX9_keeps_28 : decode cX9_keeps 28 = .ok (.bipush 8, 2) := by decide +kernel
theorem dX9_keeps_30 : decode cX9_keeps 30 = .ok (.iaload, 1) := by decide +kernel
theorem dX9_keeps_31 : decode cX9_keeps 31 = .ok (.iastore, 1) := by decide +kernel
theorem dX9_keeps_32 : decode cX9_keeps 32 = .ok (.iconst 0, 1) := by decide +kernel
theorem dX9_keeps_33 : decode cX9_keeps 33 = .ok (.istore_n 1, 1) := by decide +kernel
theorem dX9_keeps_34 : decode cX9_keeps 34 = .ok (.iload_n 1, 1) := by decide +kernel
theorem dX9_keeps_35 : decode cX9_keeps 35 = .ok (.bipush 24, 2) := by decide +kernel
theorem dX9_keeps_37 : decode cX9_keeps 37 = .ok (.if_icmp .ge 57, 3) := by decide +kernel
theorem dX9_keeps_40 : decode cX9_keeps 40 = .ok (.aload_n 0, 1) := by decide +kernel
theorem dX9_keeps_41 : decode cX9_keeps 41 = .ok (.getfield 64, 3) := by decide +kernel
theorem dX9_keeps_44 : decode cX9_keeps 44 = .ok (.bipush 24, 2) := by decide +kernel
theorem dX9_keeps_46 : decode cX9_keeps 46 = .ok (.aload_n 0, 1) := by decide +kernel
theorem dX9_keeps_47 : decode cX9_keeps 47 = .ok (.getfield 186, 3) := by decide +kernel
theorem dX9_keeps_50 : decode cX9_keeps 50 = .ok (.imul, 1) := by decide +kernel
theorem dX9_keeps_51 : decode cX9_keeps 51 = .ok (.iload_n 1, 1) := by decide +kernel
theorem dX9_keeps_52 : decode cX9_keeps 52 = .ok (.iadd, 1) := by decide +kernel
theorem dX9_keeps_53 : decode cX9_keeps 53 = .ok (.aload_n 0, 1) := by decide +kernel
theorem dX9_keeps_54 : decode cX9_keeps 54 = .ok (.getfield 64, 3) := by decide +kernel
theorem dX9_keeps_57 : decode cX9_keeps 57 = .ok (.sipush 192, 3) := by decide +kernel
theorem dX9_keeps_60 : decode cX9_keeps 60 = .ok (.iload_n 1, 1) := by decide +kernel
theorem dX9_keeps_61 : decode cX9_keeps 61 = .ok (.iadd, 1) := by decide +kernel
theorem dX9_keeps_62 : decode cX9_keeps 62 = .ok (.iaload, 1) := by decide +kernel
theorem dX9_keeps_63 : decode cX9_keeps 63 = .ok (.iastore, 1) := by decide +kernel
theorem dX9_keeps_64 : decode cX9_keeps 64 = .ok (.aload_n 0, 1) := by decide +kernel
theorem dX9_keeps_65 : decode cX9_keeps 65 = .ok (.getfield 67, 3) := by decide +kernel
theorem dX9_keeps_68 : decode cX9_keeps 68 = .ok (.bipush 24, 2) := by decide +kernel
theorem dX9_keeps_70 : decode cX9_keeps 70 = .ok (.aload_n 0, 1) := by decide +kernel
theorem dX9_keeps_71 : decode cX9_keeps 71 = .ok (.getfield 186, 3) := by decide +kernel
theorem dX9_keeps_74 : decode cX9_keeps 74 = .ok (.imul, 1) := by decide +kernel
theorem dX9_keeps_75 : decode cX9_keeps 75 = .ok (.iload_n 1, 1) := by decide +kernel
theorem dX9_keeps_76 : decode cX9_keeps 76 = .ok (.iadd, 1) := by decide +kernel
theorem dX9_keeps_77 : decode cX9_keeps 77 = .ok (.aload_n 0, 1) := by decide +kernel
theorem dX9_keeps_78 : decode cX9_keeps 78 = .ok (.getfield 67, 3) := by decide +kernel
theorem dX9_keeps_81 : decode cX9_keeps 81 = .ok (.sipush 192, 3) := by decide +kernel
theorem dX9_keeps_84 : decode cX9_keeps 84 = .ok (.iload_n 1, 1) := by decide +kernel
theorem dX9_keeps_85 : decode cX9_keeps 85 = .ok (.iadd, 1) := by decide +kernel
theorem dX9_keeps_86 : decode cX9_keeps 86 = .ok (.iaload, 1) := by decide +kernel
theorem dX9_keeps_87 : decode cX9_keeps 87 = .ok (.iastore, 1) := by decide +kernel
theorem dX9_keeps_88 : decode cX9_keeps 88 = .ok (.iinc 1 1, 3) := by decide +kernel
theorem dX9_keeps_91 : decode cX9_keeps 91 = .ok (.goto (-57), 3) := by decide +kernel
theorem dX9_keeps_94 : decode cX9_keeps 94 = .ok (.iconst 0, 1) := by decide +kernel
theorem dX9_keeps_95 : decode cX9_keeps 95 = .ok (.istore_n 1, 1) := by decide +kernel
theorem dX9_keeps_96 : decode cX9_keeps 96 = .ok (.iload_n 1, 1) := by decide +kernel
theorem dX9_keeps_97 : decode cX9_keeps 97 = .ok (.aload_n 0, 1) := by decide +kernel
theorem dX9_keeps_98 : decode cX9_keeps 98 = .ok (.getfield 183, 3) := by decide +kernel
theorem dX9_keeps_101 : decode cX9_keeps 101 = .ok (.if_icmp .ge 59, 3) := by decide +kernel
theorem dX9_keeps_104 : decode cX9_keeps 104 = .ok (.aload_n 0, 1) := by decide +kernel
theorem dX9_keeps_105 : decode cX9_keeps 105 = .ok (.getfield 70, 3) := by decide +kernel
theorem dX9_keeps_108 : decode cX9_keeps 108 = .ok (.sipush 880, 3) := by decide +kernel
theorem dX9_keeps_111 : decode cX9_keeps 111 = .ok (.aload_n 0, 1) := by decide +kernel
theorem dX9_keeps_112 : decode cX9_keeps 112 = .ok (.getfield 186, 3) := by decide +kernel
theorem dX9_keeps_115 : decode cX9_keeps 115 = .ok (.imul, 1) := by decide +kernel
theorem dX9_keeps_116 : decode cX9_keeps 116 = .ok (.iload_n 1, 1) := by decide +kernel
theorem dX9_keeps_117 : decode cX9_keeps 117 = .ok (.iadd, 1) := by decide +kernel
theorem dX9_keeps_118 : decode cX9_keeps 118 = .ok (.aload_n 0, 1) := by decide +kernel
theorem dX9_keeps_119 : decode cX9_keeps 119 = .ok (.getfield 70, 3) := by decide +kernel
theorem dX9_keeps_122 : decode cX9_keeps 122 = .ok (.sipush 7040, 3) := by decide +kernel
theorem dX9_keeps_125 : decode cX9_keeps 125 = .ok (.iload_n 1, 1) := by decide +kernel
theorem dX9_keeps_126 : decode cX9_keeps 126 = .ok (.iadd, 1) := by decide +kernel
theorem dX9_keeps_127 : decode cX9_keeps 127 = .ok (.iaload, 1) := by decide +kernel
theorem dX9_keeps_128 : decode cX9_keeps 128 = .ok (.iastore, 1) := by decide +kernel
theorem dX9_keeps_129 : decode cX9_keeps 129 = .ok (.aload_n 0, 1) := by decide +kernel
theorem dX9_keeps_130 : decode cX9_keeps 130 = .ok (.getfield 73, 3) := by decide +kernel
theorem dX9_keeps_133 : decode cX9_keeps 133 = .ok (.sipush 880, 3) := by decide +kernel
theorem dX9_keeps_136 : decode cX9_keeps 136 = .ok (.aload_n 0, 1) := by decide +kernel
theorem dX9_keeps_137 : decode cX9_keeps 137 = .ok (.getfield 186, 3) := by decide +kernel
theorem dX9_keeps_140 : decode cX9_keeps 140 = .ok (.imul, 1) := by decide +kernel
theorem dX9_keeps_141 : decode cX9_keeps 141 = .ok (.iload_n 1, 1) := by decide +kernel
theorem dX9_keeps_142 : decode cX9_keeps 142 = .ok (.iadd, 1) := by decide +kernel
theorem dX9_keeps_143 : decode cX9_keeps 143 = .ok (.aload_n 0, 1) := by decide +kernel
theorem dX9_keeps_144 : decode cX9_keeps 144 = .ok (.getfield 73, 3) := by decide +kernel
theorem dX9_keeps_147 : decode cX9_keeps 147 = .ok (.sipush 7040, 3) := by decide +kernel
theorem dX9_keeps_150 : decode cX9_keeps 150 = .ok (.iload_n 1, 1) := by decide +kernel
theorem dX9_keeps_151 : decode cX9_keeps 151 = .ok (.iadd, 1) := by decide +kernel
theorem dX9_keeps_152 : decode cX9_keeps 152 = .ok (.iaload, 1) := by decide +kernel
theorem dX9_keeps_153 : decode cX9_keeps 153 = .ok (.iastore, 1) := by decide +kernel
theorem dX9_keeps_154 : decode cX9_keeps 154 = .ok (.iinc 1 1, 3) := by decide +kernel
theorem dX9_keeps_157 : decode cX9_keeps 157 = .ok (.goto (-61), 3) := by decide +kernel
theorem dX9_keeps_160 : decode cX9_keeps 160 = .ok (.aload_n 0, 1) := by decide +kernel
theorem dX9_keeps_161 : decode cX9_keeps 161 = .ok (.aload_n 0, 1) := by decide +kernel
theorem dX9_keeps_162 : decode cX9_keeps 162 = .ok (.getfield 186, 3) := by decide +kernel
theorem dX9_keeps_165 : decode cX9_keeps 165 = .ok (.putfield 54, 3) := by decide +kernel
theorem dX9_keeps_168 : decode cX9_keeps 168 = .ok (.aload_n 0, 1) := by decide +kernel
theorem dX9_keeps_169 : decode cX9_keeps 169 = .ok (.dup, 1) := by decide +kernel
theorem dX9_keeps_170 : decode cX9_keeps 170 = .ok (.getfield 186, 3) := by decide +kernel
theorem dX9_keeps_173 : decode cX9_keeps 173 = .ok (.iconst 1, 1) := by decide +kernel
theorem dX9_keeps_174 : decode cX9_keeps 174 = .ok (.iadd, 1) := by decide +kernel
theorem dX9_keeps_175 : decode cX9_keeps 175 = .ok (.putfield 186, 3) := by decide +kernel
theorem dX9_keeps_178 : decode cX9_keeps 178 = .ok (.return_, 1) := by decide +kernel
theorem dX9_rule_0 : decode cX9_rule 0 = .ok (.aload_n 0, 1) := by decide +kernel
theorem dX9_rule_1 : decode cX9_rule 1 = .ok (.iconst 0, 1) := by decide +kernel
theorem dX9_rule_2 : decode cX9_rule 2 = .ok (.invokevirtual 177, 3) := by decide +kernel
theorem dX9_rule_5 : decode cX9_rule 5 = .ok (.ifCond .ne 11, 3) := by decide +kernel
theorem dX9_rule_8 : decode cX9_rule 8 = .ok (.aload_n 0, 1) := by decide +kernel
theorem dX9_rule_9 : decode cX9_rule 9 = .ok (.iconst 1, 1) := by decide +kernel
theorem dX9_rule_10 : decode cX9_rule 10 = .ok (.invokevirtual 173, 3) := by decide +kernel
theorem dX9_rule_13 : decode cX9_rule 13 = .ok (.goto 20, 3) := by decide +kernel
theorem dX9_rule_16 : decode cX9_rule 16 = .ok (.aload_n 0, 1) := by decide +kernel
theorem dX9_rule_17 : decode cX9_rule 17 = .ok (.getfield 58, 3) := by decide +kernel
theorem dX9_rule_20 : decode cX9_rule 20 = .ok (.bipush 8, 2) := by decide +kernel
theorem dX9_rule_22 : decode cX9_rule 22 = .ok (.iaload, 1) := by decide +kernel
theorem dX9_rule_23 : decode cX9_rule 23 = .ok (.bipush 24, 2) := by decide +kernel
theorem dX9_rule_25 : decode cX9_rule 25 = .ok (.if_icmp .ne 8, 3) := by decide +kernel
theorem dX9_rule_28 : decode cX9_rule 28 = .ok (.aload_n 0, 1) := by decide +kernel
theorem dX9_rule_29 : decode cX9_rule 29 = .ok (.iconst 5, 1) := by decide +kernel
theorem dX9_rule_30 : decode cX9_rule 30 = .ok (.invokevirtual 173, 3) := by decide +kernel
theorem dX9_rule_33 : decode cX9_rule 33 = .ok (.aload_n 0, 1) := by decide +kernel
theorem dX9_rule_34 : decode cX9_rule 34 = .ok (.getfield 167, 3) := by decide +kernel
theorem dX9_rule_37 : decode cX9_rule 37 = .ok (.ifCond .le 4, 3) := by decide +kernel
theorem dX9_rule_40 : decode cX9_rule 40 = .ok (.return_, 1) := by decide +kernel
theorem dX9_rule_41 : decode cX9_rule 41 = .ok (.aload_n 0, 1) := by decide +kernel
theorem dX9_rule_42 : decode cX9_rule 42 = .ok (.dup, 1) := by decide +kernel
theorem dX9_rule_43 : decode cX9_rule 43 = .ok (.getfield 164, 3) := by decide +kernel
theorem dX9_rule_46 : decode cX9_rule 46 = .ok (.iconst 1, 1) := by decide +kernel
theorem dX9_rule_47 : decode cX9_rule 47 = .ok (.iadd, 1) := by decide +kernel
theorem dX9_rule_48 : decode cX9_rule 48 = .ok (.putfield 164, 3) := by decide +kernel
theorem dX9_rule_51 : decode cX9_rule 51 = .ok (.sipush 192, 3) := by decide +kernel
theorem dX9_rule_54 : decode cX9_rule 54 = .ok (.aload_n 0, 1) := by decide +kernel
theorem dX9_rule_55 : decode cX9_rule 55 = .ok (.getfield 58, 3) := by decide +kernel
theorem dX9_rule_58 : decode cX9_rule 58 = .ok (.bipush 8, 2) := by decide +kernel
theorem dX9_rule_60 : decode cX9_rule 60 = .ok (.iaload, 1) := by decide +kernel
theorem dX9_rule_61 : decode cX9_rule 61 = .ok (.iadd, 1) := by decide +kernel
theorem dX9_rule_62 : decode cX9_rule 62 = .ok (.istore_n 1, 1) := by decide +kernel
theorem dX9_rule_63 : decode cX9_rule 63 = .ok (.aload_n 0, 1) := by decide +kernel
theorem dX9_rule_64 : decode cX9_rule 64 = .ok (.getfield 64, 3) := by decide +kernel
theorem dX9_rule_67 : decode cX9_rule 67 = .ok (.iload_n 1, 1) := by decide +kernel
theorem dX9_rule_68 : decode cX9_rule 68 = .ok (.aload_n 0, 1) := by decide +kernel
theorem dX9_rule_69 : decode cX9_rule 69 = .ok (.iconst 0, 1) := by decide +kernel
theorem dX9_rule_70 : decode cX9_rule 70 = .ok (.bipush 49, 2) := by decide +kernel
theorem dX9_rule_72 : decode cX9_rule 72 = .ok (.invokevirtual 195, 3) := by decide +kernel
theorem dX9_rule_75 : decode cX9_rule 75 = .ok (.iastore, 1) := by decide +kernel
theorem dX9_rule_76 : decode cX9_rule 76 = .ok (.aload_n 0, 1) := by decide +kernel
theorem dX9_rule_77 : decode cX9_rule 77 = .ok (.iconst 2, 1) := by decide +kernel
theorem dX9_rule_78 : decode cX9_rule 78 = .ok (.invokevirtual 205, 3) := by decide +kernel
theorem dX9_rule_81 : decode cX9_rule 81 = .ok (.aload_n 0, 1) := by decide +kernel
theorem dX9_rule_82 : decode cX9_rule 82 = .ok (.getfield 67, 3) := by decide +kernel
theorem dX9_rule_85 : decode cX9_rule 85 = .ok (.iload_n 1, 1) := by decide +kernel
theorem dX9_rule_86 : decode cX9_rule 86 = .ok (.aload_n 0, 1) := by decide +kernel
theorem dX9_rule_87 : decode cX9_rule 87 = .ok (.getfield 183, 3) := by decide +kernel
theorem dX9_rule_90 : decode cX9_rule 90 = .ok (.iastore, 1) := by decide +kernel
theorem dX9_rule_91 : decode cX9_rule 91 = .ok (.aload_n 0, 1) := by decide +kernel
theorem dX9_rule_92 : decode cX9_rule 92 = .ok (.iconst 0, 1) := by decide +kernel
theorem dX9_rule_93 : decode cX9_rule 93 = .ok (.putfield 208, 3) := by decide +kernel
theorem dX9_rule_96 : decode cX9_rule 96 = .ok (.aload_n 0, 1) := by decide +kernel
theorem dX9_rule_97 : decode cX9_rule 97 = .ok (.invokevirtual 211, 3) := by decide +kernel
theorem dX9_rule_100 : decode cX9_rule 100 = .ok (.iconst 1, 1) := by decide +kernel
theorem dX9_rule_101 : decode cX9_rule 101 = .ok (.istore_n 2, 1) := by decide +kernel
theorem dX9_rule_102 : decode cX9_rule 102 = .ok (.iload_n 2, 1) := by decide +kernel
theorem dX9_rule_103 : decode cX9_rule 103 = .ok (.ifCond .eq 33, 3) := by decide +kernel
theorem dX9_rule_106 : decode cX9_rule 106 = .ok (.aload_n 0, 1) := by decide +kernel
theorem dX9_rule_107 : decode cX9_rule 107 = .ok (.getfield 167, 3) := by decide +kernel
theorem dX9_rule_110 : decode cX9_rule 110 = .ok (.ifCond .ne 26, 3) := by decide +kernel
theorem dX9_rule_113 : decode cX9_rule 113 = .ok (.aload_n 0, 1) := by decide +kernel
theorem dX9_rule_114 : decode cX9_rule 114 = .ok (.invokevirtual 214, 3) := by decide +kernel
theorem dX9_rule_117 : decode cX9_rule 117 = .ok (.ifCond .ne 10, 3) := by decide +kernel
theorem dX9_rule_120 : decode cX9_rule 120 = .ok (.aload_n 0, 1) := by decide +kernel
theorem dX9_rule_121 : decode cX9_rule 121 = .ok (.invokevirtual 218, 3) := by decide +kernel
theorem dX9_rule_124 : decode cX9_rule 124 = .ok (.ifCond .eq 7, 3) := by decide +kernel
theorem dX9_rule_127 : decode cX9_rule 127 = .ok (.iconst 1, 1) := by decide +kernel
theorem dX9_rule_128 : decode cX9_rule 128 = .ok (.goto 4, 3) := by decide +kernel
theorem dX9_rule_131 : decode cX9_rule 131 = .ok (.iconst 0, 1) := by decide +kernel
theorem dX9_rule_132 : decode cX9_rule 132 = .ok (.istore_n 2, 1) := by decide +kernel
theorem dX9_rule_133 : decode cX9_rule 133 = .ok (.goto (-31), 3) := by decide +kernel
theorem dX9_rule_136 : decode cX9_rule 136 = .ok (.aload_n 0, 1) := by decide +kernel
theorem dX9_rule_137 : decode cX9_rule 137 = .ok (.iconst 0, 1) := by decide +kernel
theorem dX9_rule_138 : decode cX9_rule 138 = .ok (.iconst 0, 1) := by decide +kernel
theorem dX9_rule_139 : decode cX9_rule 139 = .ok (.invokevirtual 221, 3) := by decide +kernel
theorem dX9_rule_142 : decode cX9_rule 142 = .ok (.aload_n 0, 1) := by decide +kernel
theorem dX9_rule_143 : decode cX9_rule 143 = .ok (.bipush 59, 2) := by decide +kernel
theorem dX9_rule_145 : decode cX9_rule 145 = .ok (.invokevirtual 199, 3) := by decide +kernel
theorem dX9_rule_148 : decode cX9_rule 148 = .ok (.aload_n 0, 1) := by decide +kernel
theorem dX9_rule_149 : decode cX9_rule 149 = .ok (.getfield 58, 3) := by decide +kernel
theorem dX9_rule_152 : decode cX9_rule 152 = .ok (.bipush 8, 2) := by decide +kernel
theorem dX9_rule_154 : decode cX9_rule 154 = .ok (.dup2, 1) := by decide +kernel
theorem dX9_rule_155 : decode cX9_rule 155 = .ok (.iaload, 1) := by decide +kernel
theorem dX9_rule_156 : decode cX9_rule 156 = .ok (.iconst 1, 1) := by decide +kernel
theorem dX9_rule_157 : decode cX9_rule 157 = .ok (.iadd, 1) := by decide +kernel
theorem dX9_rule_158 : decode cX9_rule 158 = .ok (.iastore, 1) := by decide +kernel
theorem dX9_rule_159 : decode cX9_rule 159 = .ok (.return_, 1) := by decide +kernel
theorem dX9_opens_0 : decode cX9_opens 0 = .ok (.aload_n 0, 1) := by decide +kernel
theorem dX9_opens_1 : decode cX9_opens 1 = .ok (.getfield 76, 3) := by decide +kernel
theorem dX9_opens_4 : decode cX9_opens 4 = .ok (.aload_n 0, 1) := by decide +kernel
theorem dX9_opens_5 : decode cX9_opens 5 = .ok (.getfield 208, 3) := by decide +kernel
theorem dX9_opens_8 : decode cX9_opens 8 = .ok (.iconst 0, 1) := by decide +kernel
theorem dX9_opens_9 : decode cX9_opens 9 = .ok (.iastore, 1) := by decide +kernel
theorem dX9_opens_10 : decode cX9_opens 10 = .ok (.aload_n 0, 1) := by decide +kernel
theorem dX9_opens_11 : decode cX9_opens 11 = .ok (.getfield 79, 3) := by decide +kernel
theorem dX9_opens_14 : decode cX9_opens 14 = .ok (.aload_n 0, 1) := by decide +kernel
theorem dX9_opens_15 : decode cX9_opens 15 = .ok (.getfield 208, 3) := by decide +kernel
theorem dX9_opens_18 : decode cX9_opens 18 = .ok (.iconst 0, 1) := by decide +kernel
theorem dX9_opens_19 : decode cX9_opens 19 = .ok (.iastore, 1) := by decide +kernel
theorem dX9_opens_20 : decode cX9_opens 20 = .ok (.aload_n 0, 1) := by decide +kernel
theorem dX9_opens_21 : decode cX9_opens 21 = .ok (.getfield 82, 3) := by decide +kernel
theorem dX9_opens_24 : decode cX9_opens 24 = .ok (.aload_n 0, 1) := by decide +kernel
theorem dX9_opens_25 : decode cX9_opens 25 = .ok (.getfield 208, 3) := by decide +kernel
theorem dX9_opens_28 : decode cX9_opens 28 = .ok (.iconst 0, 1) := by decide +kernel
theorem dX9_opens_29 : decode cX9_opens 29 = .ok (.iastore, 1) := by decide +kernel
theorem dX9_opens_30 : decode cX9_opens 30 = .ok (.return_, 1) := by decide +kernel
theorem dX9_partWord_0 : decode cX9_partWord 0 = .ok (.iconst 0, 1) := by decide +kernel
theorem dX9_partWord_1 : decode cX9_partWord 1 = .ok (.istore_n 1, 1) := by decide +kernel
theorem dX9_partWord_2 : decode cX9_partWord 2 = .ok (.iload_n 1, 1) := by decide +kernel
theorem dX9_partWord_3 : decode cX9_partWord 3 = .ok (.bipush 10, 2) := by decide +kernel
theorem dX9_partWord_5 : decode cX9_partWord 5 = .ok (.if_icmp .ge 21, 3) := by decide +kernel
theorem dX9_partWord_8 : decode cX9_partWord 8 = .ok (.aload_n 0, 1) := by decide +kernel
theorem dX9_partWord_9 : decode cX9_partWord 9 = .ok (.iconst 4, 1) := by decide +kernel
theorem dX9_partWord_10 : decode cX9_partWord 10 = .ok (.iload_n 1, 1) := by decide +kernel
theorem dX9_partWord_11 : decode cX9_partWord 11 = .ok (.iadd, 1) := by decide +kernel
theorem dX9_partWord_12 : decode cX9_partWord 12 = .ok (.invokevirtual 177, 3) := by decide +kernel
theorem dX9_partWord_15 : decode cX9_partWord 15 = .ok (.ifCond .eq 5, 3) := by decide +kernel
theorem dX9_partWord_18 : decode cX9_partWord 18 = .ok (.iload_n 1, 1) := by decide +kernel
theorem dX9_partWord_19 : decode cX9_partWord 19 = .ok (.ireturn, 1) := by decide +kernel
theorem dX9_partWord_20 : decode cX9_partWord 20 = .ok (.iinc 1 1, 3) := by decide +kernel
theorem dX9_partWord_23 : decode cX9_partWord 23 = .ok (.goto (-21), 3) := by decide +kernel
theorem dX9_partWord_26 : decode cX9_partWord 26 = .ok (.iconst (-1), 1) := by decide +kernel
theorem dX9_partWord_27 : decode cX9_partWord 27 = .ok (.ireturn, 1) := by decide +kernel
theorem dX9_part_0 : decode cX9_part 0 = .ok (.aload_n 0, 1) := by decide +kernel
theorem dX9_part_1 : decode cX9_part 1 = .ok (.invokevirtual 225, 3) := by decide +kernel
theorem dX9_part_4 : decode cX9_part 4 = .ok (.istore_n 1, 1) := by decide +kernel
theorem dX9_part_5 : decode cX9_part 5 = .ok (.aload_n 0, 1) := by decide +kernel
theorem dX9_part_6 : decode cX9_part 6 = .ok (.getfield 167, 3) := by decide +kernel
theorem dX9_part_9 : decode cX9_part 9 = .ok (.ifCond .ne 37, 3) := by decide +kernel
theorem dX9_part_12 : decode cX9_part 12 = .ok (.aload_n 0, 1) := by decide +kernel
theorem dX9_part_13 : decode cX9_part 13 = .ok (.getfield 13, 3) := by decide +kernel
theorem dX9_part_16 : decode cX9_part 16 = .ok (.aload_n 0, 1) := by decide +kernel
theorem dX9_part_17 : decode cX9_part 17 = .ok (.getfield 164, 3) := by decide +kernel
theorem dX9_part_20 : decode cX9_part 20 = .ok (.iaload, 1) := by decide +kernel
theorem dX9_part_21 : decode cX9_part 21 = .ok (.iconst 2, 1) := by decide +kernel
theorem dX9_part_22 : decode cX9_part 22 = .ok (.if_icmp .eq 24, 3) := by decide +kernel
theorem dX9_part_25 : decode cX9_part 25 = .ok (.aload_n 0, 1) := by decide +kernel
theorem dX9_part_26 : decode cX9_part 26 = .ok (.bipush 40, 2) := by decide +kernel
theorem dX9_part_28 : decode cX9_part 28 = .ok (.invokevirtual 170, 3) := by decide +kernel
theorem dX9_part_31 : decode cX9_part 31 = .ok (.ifCond .ne 15, 3) := by decide +kernel
theorem dX9_part_34 : decode cX9_part 34 = .ok (.iload_n 1, 1) := by decide +kernel
theorem dX9_part_35 : decode cX9_part 35 = .ok (.ifCond .ge 11, 3) := by decide +kernel
theorem dX9_part_38 : decode cX9_part 38 = .ok (.aload_n 0, 1) := by decide +kernel
theorem dX9_part_39 : decode cX9_part 39 = .ok (.iconst 1, 1) := by decide +kernel
theorem dX9_part_40 : decode cX9_part 40 = .ok (.invokevirtual 173, 3) := by decide +kernel
theorem dX9_part_43 : decode cX9_part 43 = .ok (.goto 16, 3) := by decide +kernel
theorem dX9_part_46 : decode cX9_part 46 = .ok (.aload_n 0, 1) := by decide +kernel
theorem dX9_part_47 : decode cX9_part 47 = .ok (.getfield 208, 3) := by decide +kernel
theorem dX9_part_50 : decode cX9_part 50 = .ok (.iconst 5, 1) := by decide +kernel
theorem dX9_part_51 : decode cX9_part 51 = .ok (.if_icmp .ne 8, 3) := by decide +kernel
theorem dX9_part_54 : decode cX9_part 54 = .ok (.aload_n 0, 1) := by decide +kernel
theorem dX9_part_55 : decode cX9_part 55 = .ok (.iconst 5, 1) := by decide +kernel
theorem dX9_part_56 : decode cX9_part 56 = .ok (.invokevirtual 173, 3) := by decide +kernel
theorem dX9_part_59 : decode cX9_part 59 = .ok (.aload_n 0, 1) := by decide +kernel
theorem dX9_part_60 : decode cX9_part 60 = .ok (.getfield 167, 3) := by decide +kernel
theorem dX9_part_63 : decode cX9_part 63 = .ok (.ifCond .le 5, 3) := by decide +kernel
theorem dX9_part_66 : decode cX9_part 66 = .ok (.iconst 0, 1) := by decide +kernel
theorem dX9_part_67 : decode cX9_part 67 = .ok (.ireturn, 1) := by decide +kernel
theorem dX9_part_68 : decode cX9_part 68 = .ok (.aload_n 0, 1) := by decide +kernel
theorem dX9_part_69 : decode cX9_part 69 = .ok (.bipush 40, 2) := by decide +kernel
theorem dX9_part_71 : decode cX9_part 71 = .ok (.invokevirtual 229, 3) := by decide +kernel
theorem dX9_part_74 : decode cX9_part 74 = .ok (.ifCond .eq 19, 3) := by decide +kernel
theorem dX9_part_77 : decode cX9_part 77 = .ok (.aload_n 0, 1) := by decide +kernel
theorem dX9_part_78 : decode cX9_part 78 = .ok (.dup, 1) := by decide +kernel
theorem dX9_part_79 : decode cX9_part 79 = .ok (.getfield 208, 3) := by decide +kernel
theorem dX9_part_82 : decode cX9_part 82 = .ok (.iconst 1, 1) := by decide +kernel
theorem dX9_part_83 : decode cX9_part 83 = .ok (.iadd, 1) := by decide +kernel
theorem dX9_part_84 : decode cX9_part 84 = .ok (.putfield 208, 3) := by decide +kernel
theorem dX9_part_87 : decode cX9_part 87 = .ok (.aload_n 0, 1) := by decide +kernel
theorem dX9_part_88 : decode cX9_part 88 = .ok (.invokevirtual 211, 3) := by decide +kernel
theorem dX9_part_91 : decode cX9_part 91 = .ok (.iconst 1, 1) := by decide +kernel
theorem dX9_part_92 : decode cX9_part 92 = .ok (.ireturn, 1) := by decide +kernel
theorem dX9_part_93 : decode cX9_part 93 = .ok (.iload_n 1, 1) := by decide +kernel
theorem dX9_part_94 : decode cX9_part 94 = .ok (.ifCond .lt 40, 3) := by decide +kernel
theorem dX9_part_97 : decode cX9_part 97 = .ok (.iload_n 1, 1) := by decide +kernel
theorem dX9_part_98 : decode cX9_part 98 = .ok (.iconst 3, 1) := by decide +kernel
theorem dX9_part_99 : decode cX9_part 99 = .ok (.if_icmp .ge 35, 3) := by decide +kernel
theorem dX9_part_102 : decode cX9_part 102 = .ok (.aload_n 0, 1) := by decide +kernel
theorem dX9_part_103 : decode cX9_part 103 = .ok (.dup, 1) := by decide +kernel
theorem dX9_part_104 : decode cX9_part 104 = .ok (.getfield 164, 3) := by decide +kernel
theorem dX9_part_107 : decode cX9_part 107 = .ok (.iconst 1, 1) := by decide +kernel
theorem dX9_part_108 : decode cX9_part 108 = .ok (.iadd, 1) := by decide +kernel
theorem dX9_part_109 : decode cX9_part 109 = .ok (.putfield 164, 3) := by decide +kernel
theorem dX9_part_112 : decode cX9_part 112 = .ok (.aload_n 0, 1) := by decide +kernel
theorem dX9_part_113 : decode cX9_part 113 = .ok (.bipush 8, 2) := by decide +kernel
theorem dX9_part_115 : decode cX9_part 115 = .ok (.sipush 256, 3) := by decide +kernel
theorem dX9_part_118 : decode cX9_part 118 = .ok (.iload_n 1, 1) := by decide +kernel
theorem dX9_part_119 : decode cX9_part 119 = .ok (.imul, 1) := by decide +kernel
theorem dX9_part_120 : decode cX9_part 120 = .ok (.aload_n 0, 1) := by decide +kernel
theorem dX9_part_121 : decode cX9_part 121 = .ok (.iconst 1, 1) := by decide +kernel
theorem dX9_part_122 : decode cX9_part 122 = .ok (.sipush 200, 3) := by decide +kernel
theorem dX9_part_125 : decode cX9_part 125 = .ok (.invokevirtual 195, 3) := by decide +kernel
theorem dX9_part_128 : decode cX9_part 128 = .ok (.iadd, 1) := by decide +kernel
theorem dX9_part_129 : decode cX9_part 129 = .ok (.invokevirtual 221, 3) := by decide +kernel
theorem dX9_part_132 : decode cX9_part 132 = .ok (.iconst 0, 1) := by decide +kernel
theorem dX9_part_133 : decode cX9_part 133 = .ok (.ireturn, 1) := by decide +kernel
theorem dX9_part_134 : decode cX9_part 134 = .ok (.aload_n 0, 1) := by decide +kernel
theorem dX9_part_135 : decode cX9_part 135 = .ok (.iload_n 1, 1) := by decide +kernel
theorem dX9_part_136 : decode cX9_part 136 = .ok (.ifCond .ge 7, 3) := by decide +kernel
theorem dX9_part_139 : decode cX9_part 139 = .ok (.iconst 1, 1) := by decide +kernel
theorem dX9_part_140 : decode cX9_part 140 = .ok (.goto 4, 3) := by decide +kernel
theorem dX9_part_143 : decode cX9_part 143 = .ok (.iconst 2, 1) := by decide +kernel
theorem dX9_part_144 : decode cX9_part 144 = .ok (.iload_n 1, 1) := by decide +kernel
theorem dX9_part_145 : decode cX9_part 145 = .ok (.ifCond .ge 16, 3) := by decide +kernel
theorem dX9_part_148 : decode cX9_part 148 = .ok (.aload_n 0, 1) := by decide +kernel
theorem dX9_part_149 : decode cX9_part 149 = .ok (.getfield 19, 3) := by decide +kernel
theorem dX9_part_152 : decode cX9_part 152 = .ok (.aload_n 0, 1) := by decide +kernel
theorem dX9_part_153 : decode cX9_part 153 = .ok (.getfield 164, 3) := by decide +kernel
theorem dX9_part_156 : decode cX9_part 156 = .ok (.laload, 1) := by decide +kernel
theorem dX9_part_157 : decode cX9_part 157 = .ok (.l2i, 1) := by decide +kernel
theorem dX9_part_158 : decode cX9_part 158 = .ok (.goto 6, 3) := by decide +kernel
theorem dX9_part_161 : decode cX9_part 161 = .ok (.iload_n 1, 1) := by decide +kernel
theorem dX9_part_162 : decode cX9_part 162 = .ok (.iconst 3, 1) := by decide +kernel
theorem dX9_part_163 : decode cX9_part 163 = .ok (.isub, 1) := by decide +kernel
theorem dX9_part_164 : decode cX9_part 164 = .ok (.invokevirtual 221, 3) := by decide +kernel
theorem dX9_part_167 : decode cX9_part 167 = .ok (.aload_n 0, 1) := by decide +kernel
theorem dX9_part_168 : decode cX9_part 168 = .ok (.dup, 1) := by decide +kernel
theorem dX9_part_169 : decode cX9_part 169 = .ok (.getfield 164, 3) := by decide +kernel
theorem dX9_part_172 : decode cX9_part 172 = .ok (.iconst 1, 1) := by decide +kernel
theorem dX9_part_173 : decode cX9_part 173 = .ok (.iadd, 1) := by decide +kernel
theorem dX9_part_174 : decode cX9_part 174 = .ok (.putfield 164, 3) := by decide +kernel
theorem dX9_part_177 : decode cX9_part 177 = .ok (.iconst 0, 1) := by decide +kernel
theorem dX9_part_178 : decode cX9_part 178 = .ok (.ireturn, 1) := by decide +kernel
theorem dX9_goesOnBehind_0 : decode cX9_goesOnBehind 0 = .ok (.aload_n 0, 1) := by decide +kernel
theorem dX9_goesOnBehind_1 : decode cX9_goesOnBehind 1 = .ok (.getfield 167, 3) := by decide +kernel
theorem dX9_goesOnBehind_4 : decode cX9_goesOnBehind 4 = .ok (.ifCond .ne 273, 3) := by decide +kernel
theorem dX9_goesOnBehind_7 : decode cX9_goesOnBehind 7 = .ok (.aload_n 0, 1) := by decide +kernel
theorem dX9_goesOnBehind_8 : decode cX9_goesOnBehind 8 = .ok (.getfield 76, 3) := by decide +kernel
theorem dX9_goesOnBehind_11 : decode cX9_goesOnBehind 11 = .ok (.aload_n 0, 1) := by decide +kernel
theorem dX9_goesOnBehind_12 : decode cX9_goesOnBehind 12 = .ok (.getfield 208, 3) := by decide +kernel
theorem dX9_goesOnBehind_15 : decode cX9_goesOnBehind 15 = .ok (.iaload, 1) := by decide +kernel
theorem dX9_goesOnBehind_16 : decode cX9_goesOnBehind 16 = .ok (.ifCond .eq 27, 3) := by decide +kernel
theorem dX9_goesOnBehind_19 : decode cX9_goesOnBehind 19 = .ok (.aload_n 0, 1) := by decide +kernel
theorem dX9_goesOnBehind_20 : decode cX9_goesOnBehind 20 = .ok (.aload_n 0, 1) := by decide +kernel
theorem dX9_goesOnBehind_21 : decode cX9_goesOnBehind 21 = .ok (.getfield 76, 3) := by decide +kernel
theorem dX9_goesOnBehind_24 : decode cX9_goesOnBehind 24 = .ok (.aload_n 0, 1) := by decide +kernel
theorem dX9_goesOnBehind_25 : decode cX9_goesOnBehind 25 = .ok (.getfield 208, 3) := by decide +kernel
theorem dX9_goesOnBehind_28 : decode cX9_goesOnBehind 28 = .ok (.iaload, 1) := by decide +kernel
theorem dX9_goesOnBehind_29 : decode cX9_goesOnBehind 29 = .ok (.iconst 0, 1) := by decide +kernel
theorem dX9_goesOnBehind_30 : decode cX9_goesOnBehind 30 = .ok (.invokevirtual 221, 3) := by decide +kernel
theorem dX9_goesOnBehind_33 : decode cX9_goesOnBehind 33 = .ok (.aload_n 0, 1) := by decide +kernel
theorem dX9_goesOnBehind_34 : decode cX9_goesOnBehind 34 = .ok (.getfield 76, 3) := by decide +kernel
theorem dX9_goesOnBehind_37 : decode cX9_goesOnBehind 37 = .ok (.aload_n 0, 1) := by decide +kernel
theorem dX9_goesOnBehind_38 : decode cX9_goesOnBehind 38 = .ok (.getfield 208, 3) := by decide +kernel
theorem dX9_goesOnBehind_41 : decode cX9_goesOnBehind 41 = .ok (.iconst 0, 1) := by decide +kernel
theorem dX9_goesOnBehind_42 : decode cX9_goesOnBehind 42 = .ok (.iastore, 1) := by decide +kernel
theorem dX9_goesOnBehind_43 : decode cX9_goesOnBehind 43 = .ok (.aload_n 0, 1) := by decide +kernel
theorem dX9_goesOnBehind_44 : decode cX9_goesOnBehind 44 = .ok (.bipush 43, 2) := by decide +kernel
theorem dX9_goesOnBehind_46 : decode cX9_goesOnBehind 46 = .ok (.invokevirtual 170, 3) := by decide +kernel
theorem dX9_goesOnBehind_49 : decode cX9_goesOnBehind 49 = .ok (.ifCond .ne 12, 3) := by decide +kernel
theorem dX9_goesOnBehind_52 : decode cX9_goesOnBehind 52 = .ok (.aload_n 0, 1) := by decide +kernel
theorem dX9_goesOnBehind_53 : decode cX9_goesOnBehind 53 = .ok (.bipush 45, 2) := by decide +kernel
theorem dX9_goesOnBehind_55 : decode cX9_goesOnBehind 55 = .ok (.invokevirtual 170, 3) := by decide +kernel
theorem dX9_goesOnBehind_58 : decode cX9_goesOnBehind 58 = .ok (.ifCond .eq 38, 3) := by decide +kernel
theorem dX9_goesOnBehind_61 : decode cX9_goesOnBehind 61 = .ok (.aload_n 0, 1) := by decide +kernel
theorem dX9_goesOnBehind_62 : decode cX9_goesOnBehind 62 = .ok (.getfield 76, 3) := by decide +kernel
theorem dX9_goesOnBehind_65 : decode cX9_goesOnBehind 65 = .ok (.aload_n 0, 1) := by decide +kernel
theorem dX9_goesOnBehind_66 : decode cX9_goesOnBehind 66 = .ok (.getfield 208, 3) := by decide +kernel
theorem dX9_goesOnBehind_69 : decode cX9_goesOnBehind 69 = .ok (.aload_n 0, 1) := by decide +kernel
theorem dX9_goesOnBehind_70 : decode cX9_goesOnBehind 70 = .ok (.bipush 43, 2) := by decide +kernel
theorem dX9_goesOnBehind_72 : decode cX9_goesOnBehind 72 = .ok (.invokevirtual 170, 3) := by decide +kernel
theorem dX9_goesOnBehind_75 : decode cX9_goesOnBehind 75 = .ok (.ifCond .eq 7, 3) := by decide +kernel
theorem dX9_goesOnBehind_78 : decode cX9_goesOnBehind 78 = .ok (.iconst 3, 1) := by decide +kernel
theorem dX9_goesOnBehind_79 : decode cX9_goesOnBehind 79 = .ok (.goto 4, 3) := by decide +kernel
theorem dX9_goesOnBehind_82 : decode cX9_goesOnBehind 82 = .ok (.iconst 4, 1) := by decide +kernel
theorem dX9_goesOnBehind_83 : decode cX9_goesOnBehind 83 = .ok (.iastore, 1) := by decide +kernel
theorem dX9_goesOnBehind_84 : decode cX9_goesOnBehind 84 = .ok (.aload_n 0, 1) := by decide +kernel
theorem dX9_goesOnBehind_85 : decode cX9_goesOnBehind 85 = .ok (.dup, 1) := by decide +kernel
theorem dX9_goesOnBehind_86 : decode cX9_goesOnBehind 86 = .ok (.getfield 164, 3) := by decide +kernel
theorem dX9_goesOnBehind_89 : decode cX9_goesOnBehind 89 = .ok (.iconst 1, 1) := by decide +kernel
theorem dX9_goesOnBehind_90 : decode cX9_goesOnBehind 90 = .ok (.iadd, 1) := by decide +kernel
theorem dX9_goesOnBehind_91 : decode cX9_goesOnBehind 91 = .ok (.putfield 164, 3) := by decide +kernel
theorem dX9_goesOnBehind_94 : decode cX9_goesOnBehind 94 = .ok (.iconst 1, 1) := by decide +kernel
theorem dX9_goesOnBehind_95 : decode cX9_goesOnBehind 95 = .ok (.ireturn, 1) := by decide +kernel
theorem dX9_goesOnBehind_96 : decode cX9_goesOnBehind 96 = .ok (.aload_n 0, 1) := by decide +kernel
theorem dX9_goesOnBehind_97 : decode cX9_goesOnBehind 97 = .ok (.getfield 79, 3) := by decide +kernel
theorem dX9_goesOnBehind_100 : decode cX9_goesOnBehind 100 = .ok (.aload_n 0, 1) := by decide +kernel
theorem dX9_goesOnBehind_101 : decode cX9_goesOnBehind 101 = .ok (.getfield 208, 3) := by decide +kernel
theorem dX9_goesOnBehind_104 : decode cX9_goesOnBehind 104 = .ok (.iaload, 1) := by decide +kernel
theorem dX9_goesOnBehind_105 : decode cX9_goesOnBehind 105 = .ok (.ifCond .eq 30, 3) := by decide +kernel
theorem dX9_goesOnBehind_108 : decode cX9_goesOnBehind 108 = .ok (.aload_n 0, 1) := by decide +kernel
theorem dX9_goesOnBehind_109 : decode cX9_goesOnBehind 109 = .ok (.aload_n 0, 1) := by decide +kernel
theorem dX9_goesOnBehind_110 : decode cX9_goesOnBehind 110 = .ok (.getfield 79, 3) := by decide +kernel
theorem dX9_goesOnBehind_113 : decode cX9_goesOnBehind 113 = .ok (.aload_n 0, 1) := by decide +kernel
theorem dX9_goesOnBehind_114 : decode cX9_goesOnBehind 114 = .ok (.getfield 208, 3) := by decide +kernel
theorem dX9_goesOnBehind_117 : decode cX9_goesOnBehind 117 = .ok (.iaload, 1) := by decide +kernel
theorem dX9_goesOnBehind_118 : decode cX9_goesOnBehind 118 = .ok (.iconst 0, 1) := by decide +kernel
theorem dX9_goesOnBehind_119 : decode cX9_goesOnBehind 119 = .ok (.invokevirtual 221, 3) := by decide +kernel
theorem dX9_goesOnBehind_122 : decode cX9_goesOnBehind 122 = .ok (.aload_n 0, 1) := by decide +kernel
theorem dX9_goesOnBehind_123 : decode cX9_goesOnBehind 123 = .ok (.getfield 79, 3) := by decide +kernel
theorem dX9_goesOnBehind_126 : decode cX9_goesOnBehind 126 = .ok (.aload_n 0, 1) := by decide +kernel
theorem dX9_goesOnBehind_127 : decode cX9_goesOnBehind 127 = .ok (.getfield 208, 3) := by decide +kernel
theorem dX9_goesOnBehind_130 : decode cX9_goesOnBehind 130 = .ok (.iconst 0, 1) := by decide +kernel
theorem dX9_goesOnBehind_131 : decode cX9_goesOnBehind 131 = .ok (.iastore, 1) := by decide +kernel
theorem dX9_goesOnBehind_132 : decode cX9_goesOnBehind 132 = .ok (.goto 57, 3) := by decide +kernel
theorem dX9_goesOnBehind_135 : decode cX9_goesOnBehind 135 = .ok (.aload_n 0, 1) := by decide +kernel
theorem dX9_goesOnBehind_136 : decode cX9_goesOnBehind 136 = .ok (.bipush 60, 2) := by decide +kernel
theorem dX9_goesOnBehind_138 : decode cX9_goesOnBehind 138 = .ok (.invokevirtual 170, 3) := by decide +kernel
theorem dX9_goesOnBehind_141 : decode cX9_goesOnBehind 141 = .ok (.ifCond .ne 12, 3) := by decide +kernel
theorem dX9_goesOnBehind_144 : decode cX9_goesOnBehind 144 = .ok (.aload_n 0, 1) := by decide +kernel
theorem dX9_goesOnBehind_145 : decode cX9_goesOnBehind 145 = .ok (.bipush 61, 2) := by decide +kernel
theorem dX9_goesOnBehind_147 : decode cX9_goesOnBehind 147 = .ok (.invokevirtual 170, 3) := by decide +kernel
theorem dX9_goesOnBehind_150 : decode cX9_goesOnBehind 150 = .ok (.ifCond .eq 39, 3) := by decide +kernel
theorem dX9_goesOnBehind_153 : decode cX9_goesOnBehind 153 = .ok (.aload_n 0, 1) := by decide +kernel
theorem dX9_goesOnBehind_154 : decode cX9_goesOnBehind 154 = .ok (.getfield 79, 3) := by decide +kernel
theorem dX9_goesOnBehind_157 : decode cX9_goesOnBehind 157 = .ok (.aload_n 0, 1) := by decide +kernel
theorem dX9_goesOnBehind_158 : decode cX9_goesOnBehind 158 = .ok (.getfield 208, 3) := by decide +kernel
theorem dX9_goesOnBehind_161 : decode cX9_goesOnBehind 161 = .ok (.aload_n 0, 1) := by decide +kernel
theorem dX9_goesOnBehind_162 : decode cX9_goesOnBehind 162 = .ok (.bipush 60, 2) := by decide +kernel
theorem dX9_goesOnBehind_164 : decode cX9_goesOnBehind 164 = .ok (.invokevirtual 170, 3) := by decide +kernel
theorem dX9_goesOnBehind_167 : decode cX9_goesOnBehind 167 = .ok (.ifCond .eq 7, 3) := by decide +kernel
theorem dX9_goesOnBehind_170 : decode cX9_goesOnBehind 170 = .ok (.iconst 5, 1) := by decide +kernel
theorem dX9_goesOnBehind_171 : decode cX9_goesOnBehind 171 = .ok (.goto 5, 3) := by decide +kernel
theorem dX9_goesOnBehind_174 : decode cX9_goesOnBehind 174 = .ok (.bipush 6, 2) := by decide +kernel
theorem dX9_goesOnBehind_176 : decode cX9_goesOnBehind 176 = .ok (.iastore, 1) := by decide +kernel
theorem dX9_goesOnBehind_177 : decode cX9_goesOnBehind 177 = .ok (.aload_n 0, 1) := by decide +kernel
theorem dX9_goesOnBehind_178 : decode cX9_goesOnBehind 178 = .ok (.dup, 1) := by decide +kernel
theorem dX9_goesOnBehind_179 : decode cX9_goesOnBehind 179 = .ok (.getfield 164, 3) := by decide +kernel
theorem dX9_goesOnBehind_182 : decode cX9_goesOnBehind 182 = .ok (.iconst 1, 1) := by decide +kernel
theorem dX9_goesOnBehind_183 : decode cX9_goesOnBehind 183 = .ok (.iadd, 1) := by decide +kernel
theorem dX9_goesOnBehind_184 : decode cX9_goesOnBehind 184 = .ok (.putfield 164, 3) := by decide +kernel
theorem dX9_goesOnBehind_187 : decode cX9_goesOnBehind 187 = .ok (.iconst 1, 1) := by decide +kernel
theorem dX9_goesOnBehind_188 : decode cX9_goesOnBehind 188 = .ok (.ireturn, 1) := by decide +kernel
theorem dX9_goesOnBehind_189 : decode cX9_goesOnBehind 189 = .ok (.aload_n 0, 1) := by decide +kernel
theorem dX9_goesOnBehind_190 : decode cX9_goesOnBehind 190 = .ok (.getfield 82, 3) := by decide +kernel
theorem dX9_goesOnBehind_193 : decode cX9_goesOnBehind 193 = .ok (.aload_n 0, 1) := by decide +kernel
theorem dX9_goesOnBehind_194 : decode cX9_goesOnBehind 194 = .ok (.getfield 208, 3) := by decide +kernel
theorem dX9_goesOnBehind_197 : decode cX9_goesOnBehind 197 = .ok (.iaload, 1) := by decide +kernel
theorem dX9_goesOnBehind_198 : decode cX9_goesOnBehind 198 = .ok (.ifCond .eq 20, 3) := by decide +kernel
theorem dX9_goesOnBehind_201 : decode cX9_goesOnBehind 201 = .ok (.aload_n 0, 1) := by decide +kernel
theorem dX9_goesOnBehind_202 : decode cX9_goesOnBehind 202 = .ok (.bipush 7, 2) := by decide +kernel
theorem dX9_goesOnBehind_204 : decode cX9_goesOnBehind 204 = .ok (.iconst 0, 1) := by decide +kernel
theorem dX9_goesOnBehind_205 : decode cX9_goesOnBehind 205 = .ok (.invokevirtual 221, 3) := by decide +kernel
theorem dX9_goesOnBehind_208 : decode cX9_goesOnBehind 208 = .ok (.aload_n 0, 1) := by decide +kernel
theorem dX9_goesOnBehind_209 : decode cX9_goesOnBehind 209 = .ok (.getfield 82, 3) := by decide +kernel
theorem dX9_goesOnBehind_212 : decode cX9_goesOnBehind 212 = .ok (.aload_n 0, 1) := by decide +kernel
theorem dX9_goesOnBehind_213 : decode cX9_goesOnBehind 213 = .ok (.getfield 208, 3) := by decide +kernel
theorem dX9_goesOnBehind_216 : decode cX9_goesOnBehind 216 = .ok (.iconst 0, 1) := by decide +kernel
theorem dX9_goesOnBehind_217 : decode cX9_goesOnBehind 217 = .ok (.iastore, 1) := by decide +kernel
theorem dX9_goesOnBehind_218 : decode cX9_goesOnBehind 218 = .ok (.aload_n 0, 1) := by decide +kernel
theorem dX9_goesOnBehind_219 : decode cX9_goesOnBehind 219 = .ok (.iconst 3, 1) := by decide +kernel
theorem dX9_goesOnBehind_220 : decode cX9_goesOnBehind 220 = .ok (.invokevirtual 177, 3) := by decide +kernel
theorem dX9_goesOnBehind_223 : decode cX9_goesOnBehind 223 = .ok (.ifCond .eq 26, 3) := by decide +kernel
theorem dX9_goesOnBehind_226 : decode cX9_goesOnBehind 226 = .ok (.aload_n 0, 1) := by decide +kernel
theorem dX9_goesOnBehind_227 : decode cX9_goesOnBehind 227 = .ok (.getfield 82, 3) := by decide +kernel
theorem dX9_goesOnBehind_230 : decode cX9_goesOnBehind 230 = .ok (.aload_n 0, 1) := by decide +kernel
theorem dX9_goesOnBehind_231 : decode cX9_goesOnBehind 231 = .ok (.getfield 208, 3) := by decide +kernel
theorem dX9_goesOnBehind_234 : decode cX9_goesOnBehind 234 = .ok (.bipush 7, 2) := by decide +kernel
theorem dX9_goesOnBehind_236 : decode cX9_goesOnBehind 236 = .ok (.iastore, 1) := by decide +kernel
theorem dX9_goesOnBehind_237 : decode cX9_goesOnBehind 237 = .ok (.aload_n 0, 1) := by decide +kernel
theorem dX9_goesOnBehind_238 : decode cX9_goesOnBehind 238 = .ok (.dup, 1) := by decide +kernel
theorem dX9_goesOnBehind_239 : decode cX9_goesOnBehind 239 = .ok (.getfield 164, 3) := by decide +kernel
theorem dX9_goesOnBehind_242 : decode cX9_goesOnBehind 242 = .ok (.iconst 1, 1) := by decide +kernel
theorem dX9_goesOnBehind_243 : decode cX9_goesOnBehind 243 = .ok (.iadd, 1) := by decide +kernel
theorem dX9_goesOnBehind_244 : decode cX9_goesOnBehind 244 = .ok (.putfield 164, 3) := by decide +kernel
theorem dX9_goesOnBehind_247 : decode cX9_goesOnBehind 247 = .ok (.iconst 1, 1) := by decide +kernel
theorem dX9_goesOnBehind_248 : decode cX9_goesOnBehind 248 = .ok (.ireturn, 1) := by decide +kernel
theorem dX9_goesOnBehind_249 : decode cX9_goesOnBehind 249 = .ok (.aload_n 0, 1) := by decide +kernel
theorem dX9_goesOnBehind_250 : decode cX9_goesOnBehind 250 = .ok (.getfield 208, 3) := by decide +kernel
theorem dX9_goesOnBehind_253 : decode cX9_goesOnBehind 253 = .ok (.ifCond .ne 5, 3) := by decide +kernel
theorem dX9_goesOnBehind_256 : decode cX9_goesOnBehind 256 = .ok (.iconst 0, 1) := by decide +kernel
theorem dX9_goesOnBehind_257 : decode cX9_goesOnBehind 257 = .ok (.ireturn, 1) := by decide +kernel
theorem dX9_goesOnBehind_258 : decode cX9_goesOnBehind 258 = .ok (.aload_n 0, 1) := by decide +kernel
theorem dX9_goesOnBehind_259 : decode cX9_goesOnBehind 259 = .ok (.bipush 41, 2) := by decide +kernel
theorem dX9_goesOnBehind_261 : decode cX9_goesOnBehind 261 = .ok (.invokevirtual 199, 3) := by decide +kernel
theorem dX9_goesOnBehind_264 : decode cX9_goesOnBehind 264 = .ok (.aload_n 0, 1) := by decide +kernel
theorem dX9_goesOnBehind_265 : decode cX9_goesOnBehind 265 = .ok (.dup, 1) := by decide +kernel
theorem dX9_goesOnBehind_266 : decode cX9_goesOnBehind 266 = .ok (.getfield 208, 3) := by decide +kernel
theorem dX9_goesOnBehind_269 : decode cX9_goesOnBehind 269 = .ok (.iconst 1, 1) := by decide +kernel
theorem dX9_goesOnBehind_270 : decode cX9_goesOnBehind 270 = .ok (.isub, 1) := by decide +kernel
theorem dX9_goesOnBehind_271 : decode cX9_goesOnBehind 271 = .ok (.putfield 208, 3) := by decide +kernel
theorem dX9_goesOnBehind_274 : decode cX9_goesOnBehind 274 = .ok (.goto (-274), 3) := by decide +kernel
theorem dX9_goesOnBehind_277 : decode cX9_goesOnBehind 277 = .ok (.iconst 0, 1) := by decide +kernel
theorem dX9_goesOnBehind_278 : decode cX9_goesOnBehind 278 = .ok (.ireturn, 1) := by decide +kernel
theorem dX9_worth_0 : decode cX9_worth 0 = .ok (.iload_n 1, 1) := by decide +kernel
theorem dX9_worth_1 : decode cX9_worth 1 = .ok (.istore_n 2, 1) := by decide +kernel
theorem dX9_worth_2 : decode cX9_worth 2 = .ok (.iconst 0, 1) := by decide +kernel
theorem dX9_worth_3 : decode cX9_worth 3 = .ok (.istore_n 3, 1) := by decide +kernel
theorem dX9_worth_4 : decode cX9_worth 4 = .ok (.aload_n 0, 1) := by decide +kernel
theorem dX9_worth_5 : decode cX9_worth 5 = .ok (.getfield 70, 3) := by decide +kernel
theorem dX9_worth_8 : decode cX9_worth 8 = .ok (.iload_n 2, 1) := by decide +kernel
theorem dX9_worth_9 : decode cX9_worth 9 = .ok (.iaload, 1) := by decide +kernel
theorem dX9_worth_10 : decode cX9_worth 10 = .ok (.ifCond .eq 235, 3) := by decide +kernel
theorem dX9_worth_13 : decode cX9_worth 13 = .ok (.aload_n 0, 1) := by decide +kernel
theorem dX9_worth_14 : decode cX9_worth 14 = .ok (.getfield 70, 3) := by decide +kernel
theorem dX9_worth_17 : decode cX9_worth 17 = .ok (.iload_n 2, 1) := by decide +kernel
theorem dX9_worth_18 : decode cX9_worth 18 = .ok (.iaload, 1) := by decide +kernel
theorem dX9_worth_19 : decode cX9_worth 19 = .ok (.istore 4, 2) := by decide +kernel
theorem dX9_worth_21 : decode cX9_worth 21 = .ok (.iload 4, 2) := by decide +kernel
theorem dX9_worth_23 : decode cX9_worth 23 = .ok (.iconst 1, 1) := by decide +kernel
theorem dX9_worth_24 : decode cX9_worth 24 = .ok (.if_icmp .eq 16, 3) := by decide +kernel
theorem dX9_worth_27 : decode cX9_worth 27 = .ok (.iload 4, 2) := by decide +kernel
theorem dX9_worth_29 : decode cX9_worth 29 = .ok (.iconst 2, 1) := by decide +kernel
theorem dX9_worth_30 : decode cX9_worth 30 = .ok (.if_icmp .eq 10, 3) := by decide +kernel
theorem dX9_worth_33 : decode cX9_worth 33 = .ok (.iload 4, 2) := by decide +kernel
theorem dX9_worth_35 : decode cX9_worth 35 = .ok (.bipush 8, 2) := by decide +kernel
theorem dX9_worth_37 : decode cX9_worth 37 = .ok (.if_icmp .ne 87, 3) := by decide +kernel
theorem dX9_worth_40 : decode cX9_worth 40 = .ok (.aload_n 0, 1) := by decide +kernel
theorem dX9_worth_41 : decode cX9_worth 41 = .ok (.getfield 91, 3) := by decide +kernel
theorem dX9_worth_44 : decode cX9_worth 44 = .ok (.iload_n 3, 1) := by decide +kernel
theorem dX9_worth_45 : decode cX9_worth 45 = .ok (.iload 4, 2) := by decide +kernel
theorem dX9_worth_47 : decode cX9_worth 47 = .ok (.iconst 1, 1) := by decide +kernel
theorem dX9_worth_48 : decode cX9_worth 48 = .ok (.if_icmp .ne 12, 3) := by decide +kernel
theorem dX9_worth_51 : decode cX9_worth 51 = .ok (.aload_n 0, 1) := by decide +kernel
theorem dX9_worth_52 : decode cX9_worth 52 = .ok (.getfield 73, 3) := by decide +kernel
theorem dX9_worth_55 : decode cX9_worth 55 = .ok (.iload_n 2, 1) := by decide +kernel
theorem dX9_worth_56 : decode cX9_worth 56 = .ok (.iaload, 1) := by decide +kernel
theorem dX9_worth_57 : decode cX9_worth 57 = .ok (.goto 60, 3) := by decide +kernel
theorem dX9_worth_60 : decode cX9_worth 60 = .ok (.iload 4, 2) := by decide +kernel
theorem dX9_worth_62 : decode cX9_worth 62 = .ok (.iconst 2, 1) := by decide +kernel
theorem dX9_worth_63 : decode cX9_worth 63 = .ok (.if_icmp .ne 17, 3) := by decide +kernel
theorem dX9_worth_66 : decode cX9_worth 66 = .ok (.aload_n 0, 1) := by decide +kernel
theorem dX9_worth_67 : decode cX9_worth 67 = .ok (.getfield 85, 3) := by decide +kernel
theorem dX9_worth_70 : decode cX9_worth 70 = .ok (.aload_n 0, 1) := by decide +kernel
theorem dX9_worth_71 : decode cX9_worth 71 = .ok (.getfield 73, 3) := by decide +kernel
theorem dX9_worth_74 : decode cX9_worth 74 = .ok (.iload_n 2, 1) := by decide +kernel
theorem dX9_worth_75 : decode cX9_worth 75 = .ok (.iaload, 1) := by decide +kernel
theorem dX9_worth_76 : decode cX9_worth 76 = .ok (.iaload, 1) := by decide +kernel
theorem dX9_worth_77 : decode cX9_worth 77 = .ok (.goto 40, 3) := by decide +kernel
theorem dX9_worth_80 : decode cX9_worth 80 = .ok (.aload_n 0, 1) := by decide +kernel
theorem dX9_worth_81 : decode cX9_worth 81 = .ok (.aload_n 0, 1) := by decide +kernel
theorem dX9_worth_82 : decode cX9_worth 82 = .ok (.getfield 88, 3) := by decide +kernel
theorem dX9_worth_85 : decode cX9_worth 85 = .ok (.aload_n 0, 1) := by decide +kernel
theorem dX9_worth_86 : decode cX9_worth 86 = .ok (.getfield 73, 3) := by decide +kernel
theorem dX9_worth_89 : decode cX9_worth 89 = .ok (.iload_n 2, 1) := by decide +kernel
theorem dX9_worth_90 : decode cX9_worth 90 = .ok (.iaload, 1) := by decide +kernel
theorem dX9_worth_91 : decode cX9_worth 91 = .ok (.sipush 256, 3) := by decide +kernel
theorem dX9_worth_94 : decode cX9_worth 94 = .ok (.idiv, 1) := by decide +kernel
theorem dX9_worth_95 : decode cX9_worth 95 = .ok (.iaload, 1) := by decide +kernel
theorem dX9_worth_96 : decode cX9_worth 96 = .ok (.aload_n 0, 1) := by decide +kernel
theorem dX9_worth_97 : decode cX9_worth 97 = .ok (.getfield 73, 3) := by decide +kernel
theorem dX9_worth_100 : decode cX9_worth 100 = .ok (.iload_n 2, 1) := by decide +kernel
theorem dX9_worth_101 : decode cX9_worth 101 = .ok (.iaload, 1) := by decide +kernel
theorem dX9_worth_102 : decode cX9_worth 102 = .ok (.sipush 256, 3) := by decide +kernel
theorem dX9_worth_105 : decode cX9_worth 105 = .ok (.irem, 1) := by decide +kernel
theorem dX9_worth_106 : decode cX9_worth 106 = .ok (.invokevirtual 232, 3) := by decide +kernel
theorem dX9_worth_109 : decode cX9_worth 109 = .ok (.ifCond .eq 7, 3) := by decide +kernel
theorem dX9_worth_112 : decode cX9_worth 112 = .ok (.iconst 1, 1) := by decide +kernel
theorem dX9_worth_113 : decode cX9_worth 113 = .ok (.goto 4, 3) := by decide +kernel
theorem dX9_worth_116 : decode cX9_worth 116 = .ok (.iconst 0, 1) := by decide +kernel
theorem dX9_worth_117 : decode cX9_worth 117 = .ok (.iastore, 1) := by decide +kernel
theorem dX9_worth_118 : decode cX9_worth 118 = .ok (.iinc 3 1, 3) := by decide +kernel
theorem dX9_worth_121 : decode cX9_worth 121 = .ok (.goto 118, 3) := by decide +kernel
theorem dX9_worth_124 : decode cX9_worth 124 = .ok (.iinc 3 (-1), 3) := by decide +kernel
theorem dX9_worth_127 : decode cX9_worth 127 = .ok (.aload_n 0, 1) := by decide +kernel
theorem dX9_worth_128 : decode cX9_worth 128 = .ok (.getfield 91, 3) := by decide +kernel
theorem dX9_worth_131 : decode cX9_worth 131 = .ok (.iload_n 3, 1) := by decide +kernel
theorem dX9_worth_132 : decode cX9_worth 132 = .ok (.iaload, 1) := by decide +kernel
theorem dX9_worth_133 : decode cX9_worth 133 = .ok (.istore 5, 2) := by decide +kernel
theorem dX9_worth_135 : decode cX9_worth 135 = .ok (.aload_n 0, 1) := by decide +kernel
theorem dX9_worth_136 : decode cX9_worth 136 = .ok (.getfield 91, 3) := by decide +kernel
theorem dX9_worth_139 : decode cX9_worth 139 = .ok (.iload_n 3, 1) := by decide +kernel
theorem dX9_worth_140 : decode cX9_worth 140 = .ok (.iconst 1, 1) := by decide +kernel
theorem dX9_worth_141 : decode cX9_worth 141 = .ok (.isub, 1) := by decide +kernel
theorem dX9_worth_142 : decode cX9_worth 142 = .ok (.iaload, 1) := by decide +kernel
theorem dX9_worth_143 : decode cX9_worth 143 = .ok (.istore 6, 2) := by decide +kernel
theorem dX9_worth_145 : decode cX9_worth 145 = .ok (.aload_n 0, 1) := by decide +kernel
theorem dX9_worth_146 : decode cX9_worth 146 = .ok (.getfield 91, 3) := by decide +kernel
theorem dX9_worth_149 : decode cX9_worth 149 = .ok (.iload_n 3, 1) := by decide +kernel
theorem dX9_worth_150 : decode cX9_worth 150 = .ok (.iconst 1, 1) := by decide +kernel
theorem dX9_worth_151 : decode cX9_worth 151 = .ok (.isub, 1) := by decide +kernel
theorem dX9_worth_152 : decode cX9_worth 152 = .ok (.iload 4, 2) := by decide +kernel
theorem dX9_worth_154 : decode cX9_worth 154 = .ok (.iconst 3, 1) := by decide +kernel
theorem dX9_worth_155 : decode cX9_worth 155 = .ok (.if_icmp .ne 11, 3) := by decide +kernel
theorem dX9_worth_158 : decode cX9_worth 158 = .ok (.iload 6, 2) := by decide +kernel
theorem dX9_worth_160 : decode cX9_worth 160 = .ok (.iload 5, 2) := by decide +kernel
theorem dX9_worth_162 : decode cX9_worth 162 = .ok (.iadd, 1) := by decide +kernel
theorem dX9_worth_163 : decode cX9_worth 163 = .ok (.goto 75, 3) := by decide +kernel
theorem dX9_worth_166 : decode cX9_worth 166 = .ok (.iload 4, 2) := by decide +kernel
theorem dX9_worth_168 : decode cX9_worth 168 = .ok (.iconst 4, 1) := by decide +kernel
theorem dX9_worth_169 : decode cX9_worth 169 = .ok (.if_icmp .ne 11, 3) := by decide +kernel
theorem dX9_worth_172 : decode cX9_worth 172 = .ok (.iload 6, 2) := by decide +kernel
theorem dX9_worth_174 : decode cX9_worth 174 = .ok (.iload 5, 2) := by decide +kernel
theorem dX9_worth_176 : decode cX9_worth 176 = .ok (.isub, 1) := by decide +kernel
theorem dX9_worth_177 : decode cX9_worth 177 = .ok (.goto 61, 3) := by decide +kernel
theorem dX9_worth_180 : decode cX9_worth 180 = .ok (.iload 4, 2) := by decide +kernel
theorem dX9_worth_182 : decode cX9_worth 182 = .ok (.iconst 5, 1) := by decide +kernel
theorem dX9_worth_183 : decode cX9_worth 183 = .ok (.if_icmp .ne 18, 3) := by decide +kernel
theorem dX9_worth_186 : decode cX9_worth 186 = .ok (.iload 6, 2) := by decide +kernel
theorem dX9_worth_188 : decode cX9_worth 188 = .ok (.iload 5, 2) := by decide +kernel
theorem dX9_worth_190 : decode cX9_worth 190 = .ok (.if_icmp .ge 7, 3) := by decide +kernel
theorem dX9_worth_193 : decode cX9_worth 193 = .ok (.iconst 1, 1) := by decide +kernel
theorem dX9_worth_194 : decode cX9_worth 194 = .ok (.goto 44, 3) := by decide +kernel
theorem dX9_worth_197 : decode cX9_worth 197 = .ok (.iconst 0, 1) := by decide +kernel
theorem dX9_worth_198 : decode cX9_worth 198 = .ok (.goto 40, 3) := by decide +kernel
theorem dX9_worth_201 : decode cX9_worth 201 = .ok (.iload 4, 2) := by decide +kernel
theorem dX9_worth_203 : decode cX9_worth 203 = .ok (.bipush 6, 2) := by decide +kernel
theorem dX9_worth_205 : decode cX9_worth 205 = .ok (.if_icmp .ne 18, 3) := by decide +kernel
theorem dX9_worth_208 : decode cX9_worth 208 = .ok (.iload 6, 2) := by decide +kernel
theorem dX9_worth_210 : decode cX9_worth 210 = .ok (.iload 5, 2) := by decide +kernel
theorem dX9_worth_212 : decode cX9_worth 212 = .ok (.if_icmp .ne 7, 3) := by decide +kernel
theorem dX9_worth_215 : decode cX9_worth 215 = .ok (.iconst 1, 1) := by decide +kernel
theorem dX9_worth_216 : decode cX9_worth 216 = .ok (.goto 22, 3) := by decide +kernel
theorem dX9_worth_219 : decode cX9_worth 219 = .ok (.iconst 0, 1) := by decide +kernel
theorem dX9_worth_220 : decode cX9_worth 220 = .ok (.goto 18, 3) := by decide +kernel
theorem dX9_worth_223 : decode cX9_worth 223 = .ok (.iload 6, 2) := by decide +kernel
theorem dX9_worth_225 : decode cX9_worth 225 = .ok (.ifCond .eq 12, 3) := by decide +kernel
theorem dX9_worth_228 : decode cX9_worth 228 = .ok (.iload 5, 2) := by decide +kernel
theorem dX9_worth_230 : decode cX9_worth 230 = .ok (.ifCond .eq 7, 3) := by decide +kernel
theorem dX9_worth_233 : decode cX9_worth 233 = .ok (.iconst 1, 1) := by decide +kernel
theorem dX9_worth_234 : decode cX9_worth 234 = .ok (.goto 4, 3) := by decide +kernel
theorem dX9_worth_237 : decode cX9_worth 237 = .ok (.iconst 0, 1) := by decide +kernel
theorem dX9_worth_238 : decode cX9_worth 238 = .ok (.iastore, 1) := by decide +kernel
theorem dX9_worth_239 : decode cX9_worth 239 = .ok (.iinc 2 1, 3) := by decide +kernel
theorem dX9_worth_242 : decode cX9_worth 242 = .ok (.goto (-238), 3) := by decide +kernel
theorem dX9_worth_245 : decode cX9_worth 245 = .ok (.aload_n 0, 1) := by decide +kernel
theorem dX9_worth_246 : decode cX9_worth 246 = .ok (.getfield 91, 3) := by decide +kernel
theorem dX9_worth_249 : decode cX9_worth 249 = .ok (.iconst 0, 1) := by decide +kernel
theorem dX9_worth_250 : decode cX9_worth 250 = .ok (.iaload, 1) := by decide +kernel
theorem dX9_worth_251 : decode cX9_worth 251 = .ok (.ireturn, 1) := by decide +kernel
theorem dX9_choose_0 : decode cX9_choose 0 = .ok (.aload_n 0, 1) := by decide +kernel
theorem dX9_choose_1 : decode cX9_choose 1 = .ok (.iconst 0, 1) := by decide +kernel
theorem dX9_choose_2 : decode cX9_choose 2 = .ok (.putfield 131, 3) := by decide +kernel
theorem dX9_choose_5 : decode cX9_choose 5 = .ok (.iload_n 1, 1) := by decide +kernel
theorem dX9_choose_6 : decode cX9_choose 6 = .ok (.iconst (-1), 1) := by decide +kernel
theorem dX9_choose_7 : decode cX9_choose 7 = .ok (.if_icmp .lt 11, 3) := by decide +kernel
theorem dX9_choose_10 : decode cX9_choose 10 = .ok (.iload_n 1, 1) := by decide +kernel
theorem dX9_choose_11 : decode cX9_choose 11 = .ok (.aload_n 0, 1) := by decide +kernel
theorem dX9_choose_12 : decode cX9_choose 12 = .ok (.getfield 186, 3) := by decide +kernel
theorem dX9_choose_15 : decode cX9_choose 15 = .ok (.if_icmp .lt 5, 3) := by decide +kernel
theorem dX9_choose_18 : decode cX9_choose 18 = .ok (.iconst 0, 1) := by decide +kernel
theorem dX9_choose_19 : decode cX9_choose 19 = .ok (.ireturn, 1) := by decide +kernel
theorem dX9_choose_20 : decode cX9_choose 20 = .ok (.aload_n 0, 1) := by decide +kernel
theorem dX9_choose_21 : decode cX9_choose 21 = .ok (.iload_n 1, 1) := by decide +kernel
theorem dX9_choose_22 : decode cX9_choose 22 = .ok (.putfield 54, 3) := by decide +kernel
theorem dX9_choose_25 : decode cX9_choose 25 = .ok (.iconst 1, 1) := by decide +kernel
theorem dX9_choose_26 : decode cX9_choose 26 = .ok (.ireturn, 1) := by decide +kernel
theorem dX9_below_0 : decode cX9_below 0 = .ok (.aload_n 0, 1) := by decide +kernel
theorem dX9_below_1 : decode cX9_below 1 = .ok (.iconst 0, 1) := by decide +kernel
theorem dX9_below_2 : decode cX9_below 2 = .ok (.putfield 131, 3) := by decide +kernel
theorem dX9_below_5 : decode cX9_below 5 = .ok (.iload_n 1, 1) := by decide +kernel
theorem dX9_below_6 : decode cX9_below 6 = .ok (.iconst 1, 1) := by decide +kernel
theorem dX9_below_7 : decode cX9_below 7 = .ok (.if_icmp .lt 20, 3) := by decide +kernel
theorem dX9_below_10 : decode cX9_below 10 = .ok (.iload_n 1, 1) := by decide +kernel
theorem dX9_below_11 : decode cX9_below 11 = .ok (.sipush 200, 3) := by decide +kernel
theorem dX9_below_14 : decode cX9_below 14 = .ok (.if_icmp .gt 13, 3) := by decide +kernel
theorem dX9_below_17 : decode cX9_below 17 = .ok (.iload_n 2, 1) := by decide +kernel
theorem dX9_below_18 : decode cX9_below 18 = .ok (.iconst 1, 1) := by decide +kernel
theorem dX9_below_19 : decode cX9_below 19 = .ok (.if_icmp .lt 8, 3) := by decide +kernel
theorem dX9_below_22 : decode cX9_below 22 = .ok (.iload_n 2, 1) := by decide +kernel
theorem dX9_below_23 : decode cX9_below 23 = .ok (.iload_n 1, 1) := by decide +kernel
theorem dX9_below_24 : decode cX9_below 24 = .ok (.if_icmp .lt 5, 3) := by decide +kernel
theorem dX9_below_27 : decode cX9_below 27 = .ok (.iconst 0, 1) := by decide +kernel
theorem dX9_below_28 : decode cX9_below 28 = .ok (.ireturn, 1) := by decide +kernel
theorem dX9_below_29 : decode cX9_below 29 = .ok (.aload_n 0, 1) := by decide +kernel
theorem dX9_below_30 : decode cX9_below 30 = .ok (.getfield 94, 3) := by decide +kernel
theorem dX9_below_33 : decode cX9_below 33 = .ok (.iload_n 1, 1) := by decide +kernel
theorem dX9_below_34 : decode cX9_below 34 = .ok (.iload_n 2, 1) := by decide +kernel
theorem dX9_below_35 : decode cX9_below 35 = .ok (.iastore, 1) := by decide +kernel
theorem dX9_below_36 : decode cX9_below 36 = .ok (.iconst 1, 1) := by decide +kernel
theorem dX9_below_37 : decode cX9_below 37 = .ok (.ireturn, 1) := by decide +kernel
theorem dX9_isUnder_0 : decode cX9_isUnder 0 = .ok (.iload_n 1, 1) := by decide +kernel
theorem dX9_isUnder_1 : decode cX9_isUnder 1 = .ok (.istore_n 3, 1) := by decide +kernel
theorem dX9_isUnder_2 : decode cX9_isUnder 2 = .ok (.iload_n 3, 1) := by decide +kernel
theorem dX9_isUnder_3 : decode cX9_isUnder 3 = .ok (.ifCond .le 18, 3) := by decide +kernel
theorem dX9_isUnder_6 : decode cX9_isUnder 6 = .ok (.iload_n 3, 1) := by decide +kernel
theorem dX9_isUnder_7 : decode cX9_isUnder 7 = .ok (.iload_n 2, 1) := by decide +kernel
theorem dX9_isUnder_8 : decode cX9_isUnder 8 = .ok (.if_icmp .eq 13, 3) := by decide +kernel
theorem dX9_isUnder_11 : decode cX9_isUnder 11 = .ok (.aload_n 0, 1) := by decide +kernel
theorem dX9_isUnder_12 : decode cX9_isUnder 12 = .ok (.getfield 94, 3) := by decide +kernel
theorem dX9_isUnder_15 : decode cX9_isUnder 15 = .ok (.iload_n 3, 1) := by decide +kernel
theorem dX9_isUnder_16 : decode cX9_isUnder 16 = .ok (.iaload, 1) := by decide +kernel
theorem dX9_isUnder_17 : decode cX9_isUnder 17 = .ok (.istore_n 3, 1) := by decide +kernel
theorem dX9_isUnder_18 : decode cX9_isUnder 18 = .ok (.goto (-16), 3) := by decide +kernel
theorem dX9_isUnder_21 : decode cX9_isUnder 21 = .ok (.iload_n 3, 1) := by decide +kernel
theorem dX9_isUnder_22 : decode cX9_isUnder 22 = .ok (.ifCond .le 7, 3) := by decide +kernel
theorem dX9_isUnder_25 : decode cX9_isUnder 25 = .ok (.iconst 1, 1) := by decide +kernel
theorem dX9_isUnder_26 : decode cX9_isUnder 26 = .ok (.goto 4, 3) := by decide +kernel
theorem dX9_isUnder_29 : decode cX9_isUnder 29 = .ok (.iconst 0, 1) := by decide +kernel
theorem dX9_isUnder_30 : decode cX9_isUnder 30 = .ok (.ireturn, 1) := by decide +kernel
theorem dX9_isDiary_0 : decode cX9_isDiary 0 = .ok (.iload_n 1, 1) := by decide +kernel
theorem dX9_isDiary_1 : decode cX9_isDiary 1 = .ok (.ifCond .lt 15, 3) := by decide +kernel
theorem dX9_isDiary_4 : decode cX9_isDiary 4 = .ok (.iload_n 1, 1) := by decide +kernel
theorem dX9_isDiary_5 : decode cX9_isDiary 5 = .ok (.aload_n 0, 1) := by decide +kernel
theorem dX9_isDiary_6 : decode cX9_isDiary 6 = .ok (.getfield 236, 3) := by decide +kernel
theorem dX9_isDiary_9 : decode cX9_isDiary 9 = .ok (.if_icmp .ge 7, 3) := by decide +kernel
theorem dX9_isDiary_12 : decode cX9_isDiary 12 = .ok (.iconst 1, 1) := by decide +kernel
theorem dX9_isDiary_13 : decode cX9_isDiary 13 = .ok (.goto 4, 3) := by decide +kernel
theorem dX9_isDiary_16 : decode cX9_isDiary 16 = .ok (.iconst 0, 1) := by decide +kernel
theorem dX9_isDiary_17 : decode cX9_isDiary 17 = .ok (.ireturn, 1) := by decide +kernel
theorem dX9_diaryOf_0 : decode cX9_diaryOf 0 = .ok (.iconst (-1), 1) := by decide +kernel
theorem dX9_diaryOf_1 : decode cX9_diaryOf 1 = .ok (.istore 4, 2) := by decide +kernel
theorem dX9_diaryOf_3 : decode cX9_diaryOf 3 = .ok (.iconst 0, 1) := by decide +kernel
theorem dX9_diaryOf_4 : decode cX9_diaryOf 4 = .ok (.istore 5, 2) := by decide +kernel
theorem dX9_diaryOf_6 : decode cX9_diaryOf 6 = .ok (.iload 5, 2) := by decide +kernel
theorem dX9_diaryOf_8 : decode cX9_diaryOf 8 = .ok (.aload_n 0, 1) := by decide +kernel
theorem dX9_diaryOf_9 : decode cX9_diaryOf 9 = .ok (.getfield 236, 3) := by decide +kernel
theorem dX9_diaryOf_12 : decode cX9_diaryOf 12 = .ok (.if_icmp .ge 51, 3) := by decide +kernel
theorem dX9_diaryOf_15 : decode cX9_diaryOf 15 = .ok (.aload_n 0, 1) := by decide +kernel
theorem dX9_diaryOf_16 : decode cX9_diaryOf 16 = .ok (.getfield 97, 3) := by decide +kernel
theorem dX9_diaryOf_19 : decode cX9_diaryOf 19 = .ok (.iload 5, 2) := by decide +kernel
theorem dX9_diaryOf_21 : decode cX9_diaryOf 21 = .ok (.iaload, 1) := by decide +kernel
theorem dX9_diaryOf_22 : decode cX9_diaryOf 22 = .ok (.iload_n 1, 1) := by decide +kernel
theorem dX9_diaryOf_23 : decode cX9_diaryOf 23 = .ok (.if_icmp .ne 30, 3) := by decide +kernel
theorem dX9_diaryOf_26 : decode cX9_diaryOf 26 = .ok (.aload_n 0, 1) := by decide +kernel
theorem dX9_diaryOf_27 : decode cX9_diaryOf 27 = .ok (.getfield 100, 3) := by decide +kernel
theorem dX9_diaryOf_30 : decode cX9_diaryOf 30 = .ok (.iload 5, 2) := by decide +kernel
theorem dX9_diaryOf_32 : decode cX9_diaryOf 32 = .ok (.iaload, 1) := by decide +kernel
theorem dX9_diaryOf_33 : decode cX9_diaryOf 33 = .ok (.iload_n 2, 1) := by decide +kernel
theorem dX9_diaryOf_34 : decode cX9_diaryOf 34 = .ok (.if_icmp .ne 19, 3) := by decide +kernel
theorem dX9_diaryOf_37 : decode cX9_diaryOf 37 = .ok (.aload_n 0, 1) := by decide +kernel
theorem dX9_diaryOf_38 : decode cX9_diaryOf 38 = .ok (.getfield 103, 3) := by decide +kernel
theorem dX9_diaryOf_41 : decode cX9_diaryOf 41 = .ok (.iload 5, 2) := by decide +kernel
theorem dX9_diaryOf_43 : decode cX9_diaryOf 43 = .ok (.iaload, 1) := by decide +kernel
theorem dX9_diaryOf_44 : decode cX9_diaryOf 44 = .ok (.iload_n 3, 1) := by decide +kernel
theorem dX9_diaryOf_45 : decode cX9_diaryOf 45 = .ok (.if_icmp .ne 8, 3) := by decide +kernel
theorem dX9_diaryOf_48 : decode cX9_diaryOf 48 = .ok (.iload 5, 2) := by decide +kernel
theorem dX9_diaryOf_50 : decode cX9_diaryOf 50 = .ok (.goto 5, 3) := by decide +kernel
theorem dX9_diaryOf_53 : decode cX9_diaryOf 53 = .ok (.iload 4, 2) := by decide +kernel
theorem dX9_diaryOf_55 : decode cX9_diaryOf 55 = .ok (.istore 4, 2) := by decide +kernel
theorem dX9_diaryOf_57 : decode cX9_diaryOf 57 = .ok (.iinc 5 1, 3) := by decide +kernel
theorem dX9_diaryOf_60 : decode cX9_diaryOf 60 = .ok (.goto (-54), 3) := by decide +kernel
theorem dX9_diaryOf_63 : decode cX9_diaryOf 63 = .ok (.iload 4, 2) := by decide +kernel
theorem dX9_diaryOf_65 : decode cX9_diaryOf 65 = .ok (.ireturn, 1) := by decide +kernel
theorem dX9_diary_0 : decode cX9_diary 0 = .ok (.aload_n 0, 1) := by decide +kernel
theorem dX9_diary_1 : decode cX9_diary 1 = .ok (.iconst 0, 1) := by decide +kernel
theorem dX9_diary_2 : decode cX9_diary 2 = .ok (.putfield 131, 3) := by decide +kernel
theorem dX9_diary_5 : decode cX9_diary 5 = .ok (.iload_n 1, 1) := by decide +kernel
theorem dX9_diary_6 : decode cX9_diary 6 = .ok (.ifCond .lt 59, 3) := by decide +kernel
theorem dX9_diary_9 : decode cX9_diary 9 = .ok (.iload_n 1, 1) := by decide +kernel
theorem dX9_diary_10 : decode cX9_diary 10 = .ok (.bipush 9, 2) := by decide +kernel
theorem dX9_diary_12 : decode cX9_diary 12 = .ok (.if_icmp .gt 53, 3) := by decide +kernel
theorem dX9_diary_15 : decode cX9_diary 15 = .ok (.iload_n 2, 1) := by decide +kernel
theorem dX9_diary_16 : decode cX9_diary 16 = .ok (.ifCond .lt 49, 3) := by decide +kernel
theorem dX9_diary_19 : decode cX9_diary 19 = .ok (.iload_n 2, 1) := by decide +kernel
theorem dX9_diary_20 : decode cX9_diary 20 = .ok (.bipush 7, 2) := by decide +kernel
theorem dX9_diary_22 : decode cX9_diary 22 = .ok (.if_icmp .gt 43, 3) := by decide +kernel
theorem dX9_diary_25 : decode cX9_diary 25 = .ok (.iload_n 3, 1) := by decide +kernel
theorem dX9_diary_26 : decode cX9_diary 26 = .ok (.ifCond .lt 39, 3) := by decide +kernel
theorem dX9_diary_29 : decode cX9_diary 29 = .ok (.iload_n 3, 1) := by decide +kernel
theorem dX9_diary_30 : decode cX9_diary 30 = .ok (.bipush 6, 2) := by decide +kernel
theorem dX9_diary_32 : decode cX9_diary 32 = .ok (.if_icmp .gt 33, 3) := by decide +kernel
theorem dX9_diary_35 : decode cX9_diary 35 = .ok (.iload 4, 2) := by decide +kernel
theorem dX9_diary_37 : decode cX9_diary 37 = .ok (.ifCond .lt 28, 3) := by decide +kernel
theorem dX9_diary_40 : decode cX9_diary 40 = .ok (.iload 4, 2) := by decide +kernel
theorem dX9_diary_42 : decode cX9_diary 42 = .ok (.iconst 2, 1) := by decide +kernel
theorem dX9_diary_43 : decode cX9_diary 43 = .ok (.if_icmp .gt 22, 3) := by decide +kernel
theorem dX9_diary_46 : decode cX9_diary 46 = .ok (.aload_n 0, 1) := by decide +kernel
theorem dX9_diary_47 : decode cX9_diary 47 = .ok (.getfield 236, 3) := by decide +kernel
theorem dX9_diary_50 : decode cX9_diary 50 = .ok (.bipush 40, 2) := by decide +kernel
theorem dX9_diary_52 : decode cX9_diary 52 = .ok (.if_icmp .eq 13, 3) := by decide +kernel
theorem dX9_diary_55 : decode cX9_diary 55 = .ok (.aload_n 0, 1) := by decide +kernel
theorem dX9_diary_56 : decode cX9_diary 56 = .ok (.iload_n 1, 1) := by decide +kernel
theorem dX9_diary_57 : decode cX9_diary 57 = .ok (.iload_n 2, 1) := by decide +kernel
theorem dX9_diary_58 : decode cX9_diary 58 = .ok (.iload_n 3, 1) := by decide +kernel
theorem dX9_diary_59 : decode cX9_diary 59 = .ok (.invokevirtual 239, 3) := by decide +kernel
theorem dX9_diary_62 : decode cX9_diary 62 = .ok (.ifCond .lt 5, 3) := by decide +kernel
theorem dX9_diary_65 : decode cX9_diary 65 = .ok (.iconst (-1), 1) := by decide +kernel
theorem dX9_diary_66 : decode cX9_diary 66 = .ok (.ireturn, 1) := by decide +kernel
theorem dX9_diary_67 : decode cX9_diary 67 = .ok (.aload_n 0, 1) := by decide +kernel
theorem dX9_diary_68 : decode cX9_diary 68 = .ok (.getfield 97, 3) := by decide +kernel
theorem dX9_diary_71 : decode cX9_diary 71 = .ok (.aload_n 0, 1) := by decide +kernel
theorem dX9_diary_72 : decode cX9_diary 72 = .ok (.getfield 236, 3) := by decide +kernel
theorem dX9_diary_75 : decode cX9_diary 75 = .ok (.iload_n 1, 1) := by decide +kernel
theorem dX9_diary_76 : decode cX9_diary 76 = .ok (.iastore, 1) := by decide +kernel
theorem dX9_diary_77 : decode cX9_diary 77 = .ok (.aload_n 0, 1) := by decide +kernel
theorem dX9_diary_78 : decode cX9_diary 78 = .ok (.getfield 100, 3) := by decide +kernel
theorem dX9_diary_81 : decode cX9_diary 81 = .ok (.aload_n 0, 1) := by decide +kernel
theorem dX9_diary_82 : decode cX9_diary 82 = .ok (.getfield 236, 3) := by decide +kernel
theorem dX9_diary_85 : decode cX9_diary 85 = .ok (.iload_n 2, 1) := by decide +kernel
theorem dX9_diary_86 : decode cX9_diary 86 = .ok (.iastore, 1) := by decide +kernel
theorem dX9_diary_87 : decode cX9_diary 87 = .ok (.aload_n 0, 1) := by decide +kernel
theorem dX9_diary_88 : decode cX9_diary 88 = .ok (.getfield 103, 3) := by decide +kernel
theorem dX9_diary_91 : decode cX9_diary 91 = .ok (.aload_n 0, 1) := by decide +kernel
theorem dX9_diary_92 : decode cX9_diary 92 = .ok (.getfield 236, 3) := by decide +kernel
theorem dX9_diary_95 : decode cX9_diary 95 = .ok (.iload_n 3, 1) := by decide +kernel
theorem dX9_diary_96 : decode cX9_diary 96 = .ok (.iastore, 1) := by decide +kernel
theorem dX9_diary_97 : decode cX9_diary 97 = .ok (.aload_n 0, 1) := by decide +kernel
theorem dX9_diary_98 : decode cX9_diary 98 = .ok (.getfield 106, 3) := by decide +kernel
theorem dX9_diary_101 : decode cX9_diary 101 = .ok (.aload_n 0, 1) := by decide +kernel
theorem dX9_diary_102 : decode cX9_diary 102 = .ok (.getfield 236, 3) := by decide +kernel
theorem dX9_diary_105 : decode cX9_diary 105 = .ok (.iload 4, 2) := by decide +kernel
theorem dX9_diary_107 : decode cX9_diary 107 = .ok (.iastore, 1) := by decide +kernel
theorem dX9_diary_108 : decode cX9_diary 108 = .ok (.aload_n 0, 1) := by decide +kernel
theorem dX9_diary_109 : decode cX9_diary 109 = .ok (.getfield 109, 3) := by decide +kernel
theorem dX9_diary_112 : decode cX9_diary 112 = .ok (.aload_n 0, 1) := by decide +kernel
theorem dX9_diary_113 : decode cX9_diary 113 = .ok (.getfield 236, 3) := by decide +kernel
theorem dX9_diary_116 : decode cX9_diary 116 = .ok (.ldc 243, 2) := by decide +kernel
theorem dX9_diary_118 : decode cX9_diary 118 = .ok (.iastore, 1) := by decide +kernel
theorem dX9_diary_119 : decode cX9_diary 119 = .ok (.aload_n 0, 1) := by decide +kernel
theorem dX9_diary_120 : decode cX9_diary 120 = .ok (.dup, 1) := by decide +kernel
theorem dX9_diary_121 : decode cX9_diary 121 = .ok (.getfield 236, 3) := by decide +kernel
theorem dX9_diary_124 : decode cX9_diary 124 = .ok (.iconst 1, 1) := by decide +kernel
theorem dX9_diary_125 : decode cX9_diary 125 = .ok (.iadd, 1) := by decide +kernel
theorem dX9_diary_126 : decode cX9_diary 126 = .ok (.putfield 236, 3) := by decide +kernel
theorem dX9_diary_129 : decode cX9_diary 129 = .ok (.aload_n 0, 1) := by decide +kernel
theorem dX9_diary_130 : decode cX9_diary 130 = .ok (.getfield 236, 3) := by decide +kernel
theorem dX9_diary_133 : decode cX9_diary 133 = .ok (.iconst 1, 1) := by decide +kernel
theorem dX9_diary_134 : decode cX9_diary 134 = .ok (.isub, 1) := by decide +kernel
theorem dX9_diary_135 : decode cX9_diary 135 = .ok (.ireturn, 1) := by decide +kernel
theorem dX9_of_0 : decode cX9_of 0 = .ok (.aload_n 0, 1) := by decide +kernel
theorem dX9_of_1 : decode cX9_of 1 = .ok (.getfield 115, 3) := by decide +kernel
theorem dX9_of_4 : decode cX9_of 4 = .ok (.bipush 6, 2) := by decide +kernel
theorem dX9_of_6 : decode cX9_of 6 = .ok (.bipush 24, 2) := by decide +kernel
theorem dX9_of_8 : decode cX9_of 8 = .ok (.iload_n 1, 1) := by decide +kernel
theorem dX9_of_9 : decode cX9_of 9 = .ok (.imul, 1) := by decide +kernel
theorem dX9_of_10 : decode cX9_of 10 = .ok (.iload_n 2, 1) := by decide +kernel
theorem dX9_of_11 : decode cX9_of 11 = .ok (.iadd, 1) := by decide +kernel
theorem dX9_of_12 : decode cX9_of 12 = .ok (.imul, 1) := by decide +kernel
theorem dX9_of_13 : decode cX9_of 13 = .ok (.iload_n 3, 1) := by decide +kernel
theorem dX9_of_14 : decode cX9_of 14 = .ok (.iadd, 1) := by decide +kernel
theorem dX9_of_15 : decode cX9_of 15 = .ok (.iaload, 1) := by decide +kernel
theorem dX9_of_16 : decode cX9_of 16 = .ok (.ireturn, 1) := by decide +kernel
theorem dX9_lineAt_0 : decode cX9_lineAt 0 = .ok (.iconst (-1), 1) := by decide +kernel
theorem dX9_lineAt_1 : decode cX9_lineAt 1 = .ok (.istore_n 3, 1) := by decide +kernel
theorem dX9_lineAt_2 : decode cX9_lineAt 2 = .ok (.iconst 0, 1) := by decide +kernel
theorem dX9_lineAt_3 : decode cX9_lineAt 3 = .ok (.istore 4, 2) := by decide +kernel
theorem dX9_lineAt_5 : decode cX9_lineAt 5 = .ok (.iload 4, 2) := by decide +kernel
theorem dX9_lineAt_7 : decode cX9_lineAt 7 = .ok (.aload_n 0, 1) := by decide +kernel
theorem dX9_lineAt_8 : decode cX9_lineAt 8 = .ok (.getfield 112, 3) := by decide +kernel
theorem dX9_lineAt_11 : decode cX9_lineAt 11 = .ok (.iload_n 1, 1) := by decide +kernel
theorem dX9_lineAt_12 : decode cX9_lineAt 12 = .ok (.iaload, 1) := by decide +kernel
theorem dX9_lineAt_13 : decode cX9_lineAt 13 = .ok (.if_icmp .ge 40, 3) := by decide +kernel
theorem dX9_lineAt_16 : decode cX9_lineAt 16 = .ok (.aload_n 0, 1) := by decide +kernel
theorem dX9_lineAt_17 : decode cX9_lineAt 17 = .ok (.iload_n 1, 1) := by decide +kernel
theorem dX9_lineAt_18 : decode cX9_lineAt 18 = .ok (.iload 4, 2) := by decide +kernel
theorem dX9_lineAt_20 : decode cX9_lineAt 20 = .ok (.iconst 0, 1) := by decide +kernel
theorem dX9_lineAt_21 : decode cX9_lineAt 21 = .ok (.invokevirtual 244, 3) := by decide +kernel
theorem dX9_lineAt_24 : decode cX9_lineAt 24 = .ok (.iload_n 2, 1) := by decide +kernel
theorem dX9_lineAt_25 : decode cX9_lineAt 25 = .ok (.if_icmp .gt 20, 3) := by decide +kernel
theorem dX9_lineAt_28 : decode cX9_lineAt 28 = .ok (.aload_n 0, 1) := by decide +kernel
theorem dX9_lineAt_29 : decode cX9_lineAt 29 = .ok (.iload_n 1, 1) := by decide +kernel
theorem dX9_lineAt_30 : decode cX9_lineAt 30 = .ok (.iload 4, 2) := by decide +kernel
theorem dX9_lineAt_32 : decode cX9_lineAt 32 = .ok (.iconst 1, 1) := by decide +kernel
theorem dX9_lineAt_33 : decode cX9_lineAt 33 = .ok (.invokevirtual 244, 3) := by decide +kernel
theorem dX9_lineAt_36 : decode cX9_lineAt 36 = .ok (.iload_n 2, 1) := by decide +kernel
theorem dX9_lineAt_37 : decode cX9_lineAt 37 = .ok (.if_icmp .lt 8, 3) := by decide +kernel
theorem dX9_lineAt_40 : decode cX9_lineAt 40 = .ok (.iload 4, 2) := by decide +kernel
theorem dX9_lineAt_42 : decode cX9_lineAt 42 = .ok (.goto 4, 3) := by decide +kernel
theorem dX9_lineAt_45 : decode cX9_lineAt 45 = .ok (.iload_n 3, 1) := by decide +kernel
theorem dX9_lineAt_46 : decode cX9_lineAt 46 = .ok (.istore_n 3, 1) := by decide +kernel
theorem dX9_lineAt_47 : decode cX9_lineAt 47 = .ok (.iinc 4 1, 3) := by decide +kernel
theorem dX9_lineAt_50 : decode cX9_lineAt 50 = .ok (.goto (-45), 3) := by decide +kernel
theorem dX9_lineAt_53 : decode cX9_lineAt 53 = .ok (.iload_n 3, 1) := by decide +kernel
theorem dX9_lineAt_54 : decode cX9_lineAt 54 = .ok (.ireturn, 1) := by decide +kernel
theorem dX9_line_0 : decode cX9_line 0 = .ok (.aload_n 0, 1) := by decide +kernel
theorem dX9_line_1 : decode cX9_line 1 = .ok (.iconst 0, 1) := by decide +kernel
theorem dX9_line_2 : decode cX9_line 2 = .ok (.putfield 131, 3) := by decide +kernel
theorem dX9_line_5 : decode cX9_line 5 = .ok (.aload_n 0, 1) := by decide +kernel
theorem dX9_line_6 : decode cX9_line 6 = .ok (.iload_n 1, 1) := by decide +kernel
theorem dX9_line_7 : decode cX9_line 7 = .ok (.invokevirtual 247, 3) := by decide +kernel
theorem dX9_line_10 : decode cX9_line 10 = .ok (.ifCond .eq 97, 3) := by decide +kernel
theorem dX9_line_13 : decode cX9_line 13 = .ok (.iload_n 2, 1) := by decide +kernel
theorem dX9_line_14 : decode cX9_line 14 = .ok (.ifCond .lt 93, 3) := by decide +kernel
theorem dX9_line_17 : decode cX9_line 17 = .ok (.iload_n 3, 1) := by decide +kernel
theorem dX9_line_18 : decode cX9_line 18 = .ok (.iload_n 2, 1) := by decide +kernel
theorem dX9_line_19 : decode cX9_line 19 = .ok (.if_icmp .lt 88, 3) := by decide +kernel
theorem dX9_line_22 : decode cX9_line 22 = .ok (.iload_n 3, 1) := by decide +kernel
theorem dX9_line_23 : decode cX9_line 23 = .ok (.sipush 144, 3) := by decide +kernel
theorem dX9_line_26 : decode cX9_line 26 = .ok (.if_icmp .ge 81, 3) := by decide +kernel
theorem dX9_line_29 : decode cX9_line 29 = .ok (.iload 4, 2) := by decide +kernel
theorem dX9_line_31 : decode cX9_line 31 = .ok (.iconst 1, 1) := by decide +kernel
theorem dX9_line_32 : decode cX9_line 32 = .ok (.if_icmp .lt 75, 3) := by decide +kernel
theorem dX9_line_35 : decode cX9_line 35 = .ok (.iload 4, 2) := by decide +kernel
theorem dX9_line_37 : decode cX9_line 37 = .ok (.sipush 200, 3) := by decide +kernel
theorem dX9_line_40 : decode cX9_line 40 = .ok (.if_icmp .gt 67, 3) := by decide +kernel
theorem dX9_line_43 : decode cX9_line 43 = .ok (.iload 5, 2) := by decide +kernel
theorem dX9_line_45 : decode cX9_line 45 = .ok (.ifCond .lt 62, 3) := by decide +kernel
theorem dX9_line_48 : decode cX9_line 48 = .ok (.iload 5, 2) := by decide +kernel
theorem dX9_line_50 : decode cX9_line 50 = .ok (.sipush 200, 3) := by decide +kernel
theorem dX9_line_53 : decode cX9_line 53 = .ok (.if_icmp .gt 54, 3) := by decide +kernel
theorem dX9_line_56 : decode cX9_line 56 = .ok (.iload 6, 2) := by decide +kernel
theorem dX9_line_58 : decode cX9_line 58 = .ok (.ifCond .lt 49, 3) := by decide +kernel
theorem dX9_line_61 : decode cX9_line 61 = .ok (.iload 6, 2) := by decide +kernel
theorem dX9_line_63 : decode cX9_line 63 = .ok (.bipush 9, 2) := by decide +kernel
theorem dX9_line_65 : decode cX9_line 65 = .ok (.if_icmp .gt 42, 3) := by decide +kernel
theorem dX9_line_68 : decode cX9_line 68 = .ok (.iload 7, 2) := by decide +kernel
theorem dX9_line_70 : decode cX9_line 70 = .ok (.ifCond .lt 37, 3) := by decide +kernel
theorem dX9_line_73 : decode cX9_line 73 = .ok (.iload 7, 2) := by decide +kernel
theorem dX9_line_75 : decode cX9_line 75 = .ok (.sipush 255, 3) := by decide +kernel
theorem dX9_line_78 : decode cX9_line 78 = .ok (.if_icmp .gt 29, 3) := by decide +kernel
theorem dX9_line_81 : decode cX9_line 81 = .ok (.iload 7, 2) := by decide +kernel
theorem dX9_line_83 : decode cX9_line 83 = .ok (.aload_n 0, 1) := by decide +kernel
theorem dX9_line_84 : decode cX9_line 84 = .ok (.getfield 100, 3) := by decide +kernel
theorem dX9_line_87 : decode cX9_line 87 = .ok (.iload_n 1, 1) := by decide +kernel
theorem dX9_line_88 : decode cX9_line 88 = .ok (.iaload, 1) := by decide +kernel
theorem dX9_line_89 : decode cX9_line 89 = .ok (.ishr, 1) := by decide +kernel
theorem dX9_line_90 : decode cX9_line 90 = .ok (.iconst 1, 1) := by decide +kernel
theorem dX9_line_91 : decode cX9_line 91 = .ok (.iand, 1) := by decide +kernel
theorem dX9_line_92 : decode cX9_line 92 = .ok (.iconst 1, 1) := by decide +kernel
theorem dX9_line_93 : decode cX9_line 93 = .ok (.if_icmp .eq 14, 3) := by decide +kernel
theorem dX9_line_96 : decode cX9_line 96 = .ok (.aload_n 0, 1) := by decide +kernel
theorem dX9_line_97 : decode cX9_line 97 = .ok (.getfield 112, 3) := by decide +kernel
theorem dX9_line_100 : decode cX9_line 100 = .ok (.iload_n 1, 1) := by decide +kernel
theorem dX9_line_101 : decode cX9_line 101 = .ok (.iaload, 1) := by decide +kernel
theorem dX9_line_102 : decode cX9_line 102 = .ok (.bipush 24, 2) := by decide +kernel
theorem dX9_line_104 : decode cX9_line 104 = .ok (.if_icmp .ne 5, 3) := by decide +kernel
theorem dX9_line_107 : decode cX9_line 107 = .ok (.iconst (-1), 1) := by decide +kernel
theorem dX9_line_108 : decode cX9_line 108 = .ok (.ireturn, 1) := by decide +kernel
theorem dX9_line_109 : decode cX9_line 109 = .ok (.iload_n 2, 1) := by decide +kernel
theorem dX9_line_110 : decode cX9_line 110 = .ok (.istore 8, 2) := by decide +kernel
theorem dX9_line_112 : decode cX9_line 112 = .ok (.iload 8, 2) := by decide +kernel
theorem dX9_line_114 : decode cX9_line 114 = .ok (.iload_n 3, 1) := by decide +kernel
theorem dX9_line_115 : decode cX9_line 115 = .ok (.if_icmp .gt 21, 3) := by decide +kernel
theorem dX9_line_118 : decode cX9_line 118 = .ok (.aload_n 0, 1) := by decide +kernel
theorem dX9_line_119 : decode cX9_line 119 = .ok (.iload_n 1, 1) := by decide +kernel
theorem dX9_line_120 : decode cX9_line 120 = .ok (.iload 8, 2) := by decide +kernel
theorem dX9_line_122 : decode cX9_line 122 = .ok (.invokevirtual 250, 3) := by decide +kernel
theorem dX9_line_125 : decode cX9_line 125 = .ok (.ifCond .lt 5, 3) := by decide +kernel
theorem dX9_line_128 : decode cX9_line 128 = .ok (.iconst (-1), 1) := by decide +kernel
theorem dX9_line_129 : decode cX9_line 129 = .ok (.ireturn, 1) := by decide +kernel
theorem dX9_line_130 : decode cX9_line 130 = .ok (.iinc 8 1, 3) := by decide +kernel
theorem dX9_line_133 : decode cX9_line 133 = .ok (.goto (-21), 3) := by decide +kernel
theorem dX9_line_136 : decode cX9_line 136 = .ok (.aload_n 0, 1) := by decide +kernel
theorem dX9_line_137 : decode cX9_line 137 = .ok (.getfield 112, 3) := by decide +kernel
theorem dX9_line_140 : decode cX9_line 140 = .ok (.iload_n 1, 1) := by decide +kernel
theorem dX9_line_141 : decode cX9_line 141 = .ok (.iaload, 1) := by decide +kernel
theorem dX9_line_142 : decode cX9_line 142 = .ok (.istore 8, 2) := by decide +kernel
theorem dX9_line_144 : decode cX9_line 144 = .ok (.iload 8, 2) := by decide +kernel
theorem dX9_line_146 : decode cX9_line 146 = .ok (.ifCond .le 68, 3) := by decide +kernel
theorem dX9_line_149 : decode cX9_line 149 = .ok (.aload_n 0, 1) := by decide +kernel
theorem dX9_line_150 : decode cX9_line 150 = .ok (.iload_n 1, 1) := by decide +kernel
theorem dX9_line_151 : decode cX9_line 151 = .ok (.iload 8, 2) := by decide +kernel
theorem dX9_line_153 : decode cX9_line 153 = .ok (.iconst 1, 1) := by decide +kernel
theorem dX9_line_154 : decode cX9_line 154 = .ok (.isub, 1) := by decide +kernel
theorem dX9_line_155 : decode cX9_line 155 = .ok (.iconst 0, 1) := by decide +kernel
theorem dX9_line_156 : decode cX9_line 156 = .ok (.invokevirtual 244, 3) := by decide +kernel
theorem dX9_line_159 : decode cX9_line 159 = .ok (.iload_n 2, 1) := by decide +kernel
theorem dX9_line_160 : decode cX9_line 160 = .ok (.if_icmp .le 54, 3) := by decide +kernel
theorem dX9_line_163 : decode cX9_line 163 = .ok (.iconst 0, 1) := by decide +kernel
theorem dX9_line_164 : decode cX9_line 164 = .ok (.istore 9, 2) := by decide +kernel
theorem dX9_line_166 : decode cX9_line 166 = .ok (.iload 9, 2) := by decide +kernel
theorem dX9_line_168 : decode cX9_line 168 = .ok (.bipush 6, 2) := by decide +kernel
theorem dX9_line_170 : decode cX9_line 170 = .ok (.if_icmp .ge 38, 3) := by decide +kernel
theorem dX9_line_173 : decode cX9_line 173 = .ok (.aload_n 0, 1) := by decide +kernel
theorem dX9_line_174 : decode cX9_line 174 = .ok (.getfield 115, 3) := by decide +kernel
theorem dX9_line_177 : decode cX9_line 177 = .ok (.bipush 6, 2) := by decide +kernel
theorem dX9_line_179 : decode cX9_line 179 = .ok (.bipush 24, 2) := by decide +kernel
theorem dX9_line_181 : decode cX9_line 181 = .ok (.iload_n 1, 1) := by decide +kernel
theorem dX9_line_182 : decode cX9_line 182 = .ok (.imul, 1) := by decide +kernel
theorem dX9_line_183 : decode cX9_line 183 = .ok (.iload 8, 2) := by decide +kernel
theorem dX9_line_185 : decode cX9_line 185 = .ok (.iadd, 1) := by decide +kernel
theorem dX9_line_186 : decode cX9_line 186 = .ok (.imul, 1) := by decide +kernel
theorem dX9_line_187 : decode cX9_line 187 = .ok (.iload 9, 2) := by decide +kernel
theorem dX9_line_189 : decode cX9_line 189 = .ok (.iadd, 1) := by decide +kernel
theorem dX9_line_190 : decode cX9_line 190 = .ok (.aload_n 0, 1) := by decide +kernel
theorem dX9_line_191 : decode cX9_line 191 = .ok (.iload_n 1, 1) := by decide +kernel
theorem dX9_line_192 : decode cX9_line 192 = .ok (.iload 8, 2) := by decide +kernel
theorem dX9_line_194 : decode cX9_line 194 = .ok (.iconst 1, 1) := by decide +kernel
theorem dX9_line_195 : decode cX9_line 195 = .ok (.isub, 1) := by decide +kernel
theorem dX9_line_196 : decode cX9_line 196 = .ok (.iload 9, 2) := by decide +kernel
theorem dX9_line_198 : decode cX9_line 198 = .ok (.invokevirtual 244, 3) := by decide +kernel
theorem dX9_line_201 : decode cX9_line 201 = .ok (.iastore, 1) := by decide +kernel
theorem dX9_line_202 : decode cX9_line 202 = .ok (.iinc 9 1, 3) := by decide +kernel
theorem dX9_line_205 : decode cX9_line 205 = .ok (.goto (-39), 3) := by decide +kernel
theorem dX9_line_208 : decode cX9_line 208 = .ok (.iinc 8 (-1), 3) := by decide +kernel
theorem dX9_line_211 : decode cX9_line 211 = .ok (.goto (-67), 3) := by decide +kernel
theorem dX9_line_214 : decode cX9_line 214 = .ok (.bipush 6, 2) := by decide +kernel
theorem dX9_line_216 : decode cX9_line 216 = .ok (.bipush 24, 2) := by decide +kernel
theorem dX9_line_218 : decode cX9_line 218 = .ok (.iload_n 1, 1) := by decide +kernel
theorem dX9_line_219 : decode cX9_line 219 = .ok (.imul, 1) := by decide +kernel
theorem dX9_line_220 : decode cX9_line 220 = .ok (.iload 8, 2) := by decide +kernel
theorem dX9_line_222 : decode cX9_line 222 = .ok (.iadd, 1) := by decide +kernel
theorem dX9_line_223 : decode cX9_line 223 = .ok (.imul, 1) := by decide +kernel
theorem dX9_line_224 : decode cX9_line 224 = .ok (.istore 9, 2) := by decide +kernel
theorem dX9_line_226 : decode cX9_line 226 = .ok (.aload_n 0, 1) := by decide +kernel
theorem dX9_line_227 : decode cX9_line 227 = .ok (.getfield 115, 3) := by decide +kernel
theorem dX9_line_230 : decode cX9_line 230 = .ok (.iload 9, 2) := by decide +kernel
theorem dX9_line_232 : decode cX9_line 232 = .ok (.iconst 0, 1) := by decide +kernel
theorem dX9_line_233 : decode cX9_line 233 = .ok (.iadd, 1) := by decide +kernel
theorem dX9_line_234 : decode cX9_line 234 = .ok (.iload_n 2, 1) := by decide +kernel
theorem dX9_line_235 : decode cX9_line 235 = .ok (.iastore, 1) := by decide +kernel
theorem dX9_line_236 : decode cX9_line 236 = .ok (.aload_n 0, 1) := by decide +kernel
theorem dX9_line_237 : decode cX9_line 237 = .ok (.getfield 115, 3) := by decide +kernel
theorem dX9_line_240 : decode cX9_line 240 = .ok (.iload 9, 2) := by decide +kernel
theorem dX9_line_242 : decode cX9_line 242 = .ok (.iconst 1, 1) := by decide +kernel
theorem dX9_line_243 : decode cX9_line 243 = .ok (.iadd, 1) := by decide +kernel
theorem dX9_line_244 : decode cX9_line 244 = .ok (.iload_n 3, 1) := by decide +kernel
theorem dX9_line_245 : decode cX9_line 245 = .ok (.iastore, 1) := by decide +kernel
theorem dX9_line_246 : decode cX9_line 246 = .ok (.aload_n 0, 1) := by decide +kernel
theorem dX9_line_247 : decode cX9_line 247 = .ok (.getfield 115, 3) := by decide +kernel
theorem dX9_line_250 : decode cX9_line 250 = .ok (.iload 9, 2) := by decide +kernel
theorem dX9_line_252 : decode cX9_line 252 = .ok (.iconst 2, 1) := by decide +kernel
theorem dX9_line_253 : decode cX9_line 253 = .ok (.iadd, 1) := by decide +kernel
theorem dX9_line_254 : decode cX9_line 254 = .ok (.iload 4, 2) := by decide +kernel
theorem dX9_line_256 : decode cX9_line 256 = .ok (.iastore, 1) := by decide +kernel
theorem dX9_line_257 : decode cX9_line 257 = .ok (.aload_n 0, 1) := by decide +kernel
theorem dX9_line_258 : decode cX9_line 258 = .ok (.getfield 115, 3) := by decide +kernel
theorem dX9_line_261 : decode cX9_line 261 = .ok (.iload 9, 2) := by decide +kernel
theorem dX9_line_263 : decode cX9_line 263 = .ok (.iconst 3, 1) := by decide +kernel
theorem dX9_line_264 : decode cX9_line 264 = .ok (.iadd, 1) := by decide +kernel
theorem dX9_line_265 : decode cX9_line 265 = .ok (.iload 5, 2) := by decide +kernel
theorem dX9_line_267 : decode cX9_line 267 = .ok (.iastore, 1) := by decide +kernel
theorem dX9_line_268 : decode cX9_line 268 = .ok (.aload_n 0, 1) := by decide +kernel
theorem dX9_line_269 : decode cX9_line 269 = .ok (.getfield 115, 3) := by decide +kernel
theorem dX9_line_272 : decode cX9_line 272 = .ok (.iload 9, 2) := by decide +kernel
theorem dX9_line_274 : decode cX9_line 274 = .ok (.iconst 4, 1) := by decide +kernel
theorem dX9_line_275 : decode cX9_line 275 = .ok (.iadd, 1) := by decide +kernel
theorem dX9_line_276 : decode cX9_line 276 = .ok (.iload 6, 2) := by decide +kernel
theorem dX9_line_278 : decode cX9_line 278 = .ok (.iastore, 1) := by decide +kernel
theorem dX9_line_279 : decode cX9_line 279 = .ok (.aload_n 0, 1) := by decide +kernel
theorem dX9_line_280 : decode cX9_line 280 = .ok (.getfield 115, 3) := by decide +kernel
theorem dX9_line_283 : decode cX9_line 283 = .ok (.iload 9, 2) := by decide +kernel
theorem dX9_line_285 : decode cX9_line 285 = .ok (.iconst 5, 1) := by decide +kernel
theorem dX9_line_286 : decode cX9_line 286 = .ok (.iadd, 1) := by decide +kernel
theorem dX9_line_287 : decode cX9_line 287 = .ok (.iload 7, 2) := by decide +kernel
theorem dX9_line_289 : decode cX9_line 289 = .ok (.iastore, 1) := by decide +kernel
theorem dX9_line_290 : decode cX9_line 290 = .ok (.aload_n 0, 1) := by decide +kernel
theorem dX9_line_291 : decode cX9_line 291 = .ok (.getfield 112, 3) := by decide +kernel
theorem dX9_line_294 : decode cX9_line 294 = .ok (.iload_n 1, 1) := by decide +kernel
theorem dX9_line_295 : decode cX9_line 295 = .ok (.dup2, 1) := by decide +kernel
theorem dX9_line_296 : decode cX9_line 296 = .ok (.iaload, 1) := by decide +kernel
theorem dX9_line_297 : decode cX9_line 297 = .ok (.iconst 1, 1) := by decide +kernel
theorem dX9_line_298 : decode cX9_line 298 = .ok (.iadd, 1) := by decide +kernel
theorem dX9_line_299 : decode cX9_line 299 = .ok (.iastore, 1) := by decide +kernel
theorem dX9_line_300 : decode cX9_line 300 = .ok (.aload_n 0, 1) := by decide +kernel
theorem dX9_line_301 : decode cX9_line 301 = .ok (.getfield 112, 3) := by decide +kernel
theorem dX9_line_304 : decode cX9_line 304 = .ok (.iload_n 1, 1) := by decide +kernel
theorem dX9_line_305 : decode cX9_line 305 = .ok (.iaload, 1) := by decide +kernel
theorem dX9_line_306 : decode cX9_line 306 = .ok (.ireturn, 1) := by decide +kernel
theorem dX9_codeBy_0 : decode cX9_codeBy 0 = .ok (.aload_n 0, 1) := by decide +kernel
theorem dX9_codeBy_1 : decode cX9_codeBy 1 = .ok (.getfield 54, 3) := by decide +kernel
theorem dX9_codeBy_4 : decode cX9_codeBy 4 = .ok (.ifCond .ge 5, 3) := by decide +kernel
theorem dX9_codeBy_7 : decode cX9_codeBy 7 = .ok (.iconst (-1), 1) := by decide +kernel
theorem dX9_codeBy_8 : decode cX9_codeBy 8 = .ok (.ireturn, 1) := by decide +kernel
theorem dX9_codeBy_9 : decode cX9_codeBy 9 = .ok (.aload_n 0, 1) := by decide +kernel
theorem dX9_codeBy_10 : decode cX9_codeBy 10 = .ok (.iload_n 1, 1) := by decide +kernel
theorem dX9_codeBy_11 : decode cX9_codeBy 11 = .ok (.iload_n 2, 1) := by decide +kernel
theorem dX9_codeBy_12 : decode cX9_codeBy 12 = .ok (.iconst 5, 1) := by decide +kernel
theorem dX9_codeBy_13 : decode cX9_codeBy 13 = .ok (.invokevirtual 244, 3) := by decide +kernel
theorem dX9_codeBy_16 : decode cX9_codeBy 16 = .ok (.istore 4, 2) := by decide +kernel
theorem dX9_codeBy_18 : decode cX9_codeBy 18 = .ok (.iconst 0, 1) := by decide +kernel
theorem dX9_codeBy_19 : decode cX9_codeBy 19 = .ok (.istore 5, 2) := by decide +kernel
theorem dX9_codeBy_21 : decode cX9_codeBy 21 = .ok (.iconst 0, 1) := by decide +kernel
theorem dX9_codeBy_22 : decode cX9_codeBy 22 = .ok (.istore 6, 2) := by decide +kernel
theorem dX9_codeBy_24 : decode cX9_codeBy 24 = .ok (.iload 6, 2) := by decide +kernel
theorem dX9_codeBy_26 : decode cX9_codeBy 26 = .ok (.bipush 8, 2) := by decide +kernel
theorem dX9_codeBy_28 : decode cX9_codeBy 28 = .ok (.if_icmp .ge 21, 3) := by decide +kernel
theorem dX9_codeBy_31 : decode cX9_codeBy 31 = .ok (.iload 5, 2) := by decide +kernel
theorem dX9_codeBy_33 : decode cX9_codeBy 33 = .ok (.iload 4, 2) := by decide +kernel
theorem dX9_codeBy_35 : decode cX9_codeBy 35 = .ok (.iload 6, 2) := by decide +kernel
theorem dX9_codeBy_37 : decode cX9_codeBy 37 = .ok (.ishr, 1) := by decide +kernel
theorem dX9_codeBy_38 : decode cX9_codeBy 38 = .ok (.iconst 1, 1) := by decide +kernel
theorem dX9_codeBy_39 : decode cX9_codeBy 39 = .ok (.iand, 1) := by decide +kernel
theorem dX9_codeBy_40 : decode cX9_codeBy 40 = .ok (.iadd, 1) := by decide +kernel
theorem dX9_codeBy_41 : decode cX9_codeBy 41 = .ok (.istore 5, 2) := by decide +kernel
theorem dX9_codeBy_43 : decode cX9_codeBy 43 = .ok (.iinc 6 1, 3) := by decide +kernel
theorem dX9_codeBy_46 : decode cX9_codeBy 46 = .ok (.goto (-22), 3) := by decide +kernel
theorem dX9_codeBy_49 : decode cX9_codeBy 49 = .ok (.aload_n 0, 1) := by decide +kernel
theorem dX9_codeBy_50 : decode cX9_codeBy 50 = .ok (.getfield 88, 3) := by decide +kernel
theorem dX9_codeBy_53 : decode cX9_codeBy 53 = .ok (.iconst 0, 1) := by decide +kernel
theorem dX9_codeBy_54 : decode cX9_codeBy 54 = .ok (.iload_n 3, 1) := by decide +kernel
theorem dX9_codeBy_55 : decode cX9_codeBy 55 = .ok (.ifCond .eq 13, 3) := by decide +kernel
theorem dX9_codeBy_58 : decode cX9_codeBy 58 = .ok (.aload_n 0, 1) := by decide +kernel
theorem dX9_codeBy_59 : decode cX9_codeBy 59 = .ok (.iload_n 1, 1) := by decide +kernel
theorem dX9_codeBy_60 : decode cX9_codeBy 60 = .ok (.iload_n 2, 1) := by decide +kernel
theorem dX9_codeBy_61 : decode cX9_codeBy 61 = .ok (.iconst 3, 1) := by decide +kernel
theorem dX9_codeBy_62 : decode cX9_codeBy 62 = .ok (.invokevirtual 244, 3) := by decide +kernel
theorem dX9_codeBy_65 : decode cX9_codeBy 65 = .ok (.goto 10, 3) := by decide +kernel
theorem dX9_codeBy_68 : decode cX9_codeBy 68 = .ok (.aload_n 0, 1) := by decide +kernel
theorem dX9_codeBy_69 : decode cX9_codeBy 69 = .ok (.iload_n 1, 1) := by decide +kernel
theorem dX9_codeBy_70 : decode cX9_codeBy 70 = .ok (.iload_n 2, 1) := by decide +kernel
theorem dX9_codeBy_71 : decode cX9_codeBy 71 = .ok (.iconst 2, 1) := by decide +kernel
theorem dX9_codeBy_72 : decode cX9_codeBy 72 = .ok (.invokevirtual 244, 3) := by decide +kernel
theorem dX9_codeBy_75 : decode cX9_codeBy 75 = .ok (.iastore, 1) := by decide +kernel
theorem dX9_codeBy_76 : decode cX9_codeBy 76 = .ok (.aload_n 0, 1) := by decide +kernel
theorem dX9_codeBy_77 : decode cX9_codeBy 77 = .ok (.getfield 88, 3) := by decide +kernel
theorem dX9_codeBy_80 : decode cX9_codeBy 80 = .ok (.iconst 1, 1) := by decide +kernel
theorem dX9_codeBy_81 : decode cX9_codeBy 81 = .ok (.iload_n 3, 1) := by decide +kernel
theorem dX9_codeBy_82 : decode cX9_codeBy 82 = .ok (.ifCond .eq 7, 3) := by decide +kernel
theorem dX9_codeBy_85 : decode cX9_codeBy 85 = .ok (.iconst 0, 1) := by decide +kernel
theorem dX9_codeBy_86 : decode cX9_codeBy 86 = .ok (.goto 10, 3) := by decide +kernel
theorem dX9_codeBy_89 : decode cX9_codeBy 89 = .ok (.aload_n 0, 1) := by decide +kernel
theorem dX9_codeBy_90 : decode cX9_codeBy 90 = .ok (.iload_n 1, 1) := by decide +kernel
theorem dX9_codeBy_91 : decode cX9_codeBy 91 = .ok (.iload_n 2, 1) := by decide +kernel
theorem dX9_codeBy_92 : decode cX9_codeBy 92 = .ok (.iconst 3, 1) := by decide +kernel
theorem dX9_codeBy_93 : decode cX9_codeBy 93 = .ok (.invokevirtual 244, 3) := by decide +kernel
theorem dX9_codeBy_96 : decode cX9_codeBy 96 = .ok (.iastore, 1) := by decide +kernel
theorem dX9_codeBy_97 : decode cX9_codeBy 97 = .ok (.aload_n 0, 1) := by decide +kernel
theorem dX9_codeBy_98 : decode cX9_codeBy 98 = .ok (.getfield 88, 3) := by decide +kernel
theorem dX9_codeBy_101 : decode cX9_codeBy 101 = .ok (.iconst 2, 1) := by decide +kernel
theorem dX9_codeBy_102 : decode cX9_codeBy 102 = .ok (.iload_n 2, 1) := by decide +kernel
theorem dX9_codeBy_103 : decode cX9_codeBy 103 = .ok (.iconst 1, 1) := by decide +kernel
theorem dX9_codeBy_104 : decode cX9_codeBy 104 = .ok (.iadd, 1) := by decide +kernel
theorem dX9_codeBy_105 : decode cX9_codeBy 105 = .ok (.aload_n 0, 1) := by decide +kernel
theorem dX9_codeBy_106 : decode cX9_codeBy 106 = .ok (.getfield 112, 3) := by decide +kernel
theorem dX9_codeBy_109 : decode cX9_codeBy 109 = .ok (.iload_n 1, 1) := by decide +kernel
theorem dX9_codeBy_110 : decode cX9_codeBy 110 = .ok (.iaload, 1) := by decide +kernel
theorem dX9_codeBy_111 : decode cX9_codeBy 111 = .ok (.if_icmp .ge 15, 3) := by decide +kernel
theorem dX9_codeBy_114 : decode cX9_codeBy 114 = .ok (.aload_n 0, 1) := by decide +kernel
theorem dX9_codeBy_115 : decode cX9_codeBy 115 = .ok (.iload_n 1, 1) := by decide +kernel
theorem dX9_codeBy_116 : decode cX9_codeBy 116 = .ok (.iload_n 2, 1) := by decide +kernel
theorem dX9_codeBy_117 : decode cX9_codeBy 117 = .ok (.iconst 1, 1) := by decide +kernel
theorem dX9_codeBy_118 : decode cX9_codeBy 118 = .ok (.iadd, 1) := by decide +kernel
theorem dX9_codeBy_119 : decode cX9_codeBy 119 = .ok (.iconst 2, 1) := by decide +kernel
theorem dX9_codeBy_120 : decode cX9_codeBy 120 = .ok (.invokevirtual 244, 3) := by decide +kernel
theorem dX9_codeBy_123 : decode cX9_codeBy 123 = .ok (.goto 4, 3) := by decide +kernel
theorem dX9_codeBy_126 : decode cX9_codeBy 126 = .ok (.iconst 0, 1) := by decide +kernel
