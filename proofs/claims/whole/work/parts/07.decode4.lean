theorem dX8_wakes_20 : decode cX8_wakes 20 = .ok (.iastore, 1) := by decide +kernel
theorem dX8_wakes_21 : decode cX8_wakes 21 = .ok (.iinc 1 1, 3) := by decide +kernel
theorem dX8_wakes_24 : decode cX8_wakes 24 = .ok (.goto (-22), 3) := by decide +kernel
theorem dX8_wakes_27 : decode cX8_wakes 27 = .ok (.return_, 1) := by decide +kernel
theorem dX8_wetOfTables_0 : decode cX8_wetOfTables 0 = .ok (.iconst 0, 1) := by decide +kernel
theorem dX8_wetOfTables_1 : decode cX8_wetOfTables 1 = .ok (.istore_n 1, 1) := by decide +kernel
theorem dX8_wetOfTables_2 : decode cX8_wetOfTables 2 = .ok (.iconst 0, 1) := by decide +kernel
theorem dX8_wetOfTables_3 : decode cX8_wetOfTables 3 = .ok (.istore_n 2, 1) := by decide +kernel
theorem dX8_wetOfTables_4 : decode cX8_wetOfTables 4 = .ok (.iload_n 2, 1) := by decide +kernel
theorem dX8_wetOfTables_5 : decode cX8_wetOfTables 5 = .ok (.aload_n 0, 1) := by decide +kernel
theorem dX8_wetOfTables_6 : decode cX8_wetOfTables 6 = .ok (.getfield 13, 3) := by decide +kernel
theorem dX8_wetOfTables_9 : decode cX8_wetOfTables 9 = .ok (.bipush 11, 2) := by decide +kernel
theorem dX8_wetOfTables_11 : decode cX8_wetOfTables 11 = .ok (.iaload, 1) := by decide +kernel
theorem dX8_wetOfTables_12 : decode cX8_wetOfTables 12 = .ok (.if_icmp .ge 17, 3) := by decide +kernel
theorem dX8_wetOfTables_15 : decode cX8_wetOfTables 15 = .ok (.iload_n 1, 1) := by decide +kernel
theorem dX8_wetOfTables_16 : decode cX8_wetOfTables 16 = .ok (.aload_n 0, 1) := by decide +kernel
theorem dX8_wetOfTables_17 : decode cX8_wetOfTables 17 = .ok (.iload_n 2, 1) := by decide +kernel
theorem dX8_wetOfTables_18 : decode cX8_wetOfTables 18 = .ok (.invokevirtual 307, 3) := by decide +kernel
theorem dX8_wetOfTables_21 : decode cX8_wetOfTables 21 = .ok (.iadd, 1) := by decide +kernel
theorem dX8_wetOfTables_22 : decode cX8_wetOfTables 22 = .ok (.istore_n 1, 1) := by decide +kernel
theorem dX8_wetOfTables_23 : decode cX8_wetOfTables 23 = .ok (.iinc 2 1, 3) := by decide +kernel
theorem dX8_wetOfTables_26 : decode cX8_wetOfTables 26 = .ok (.goto (-22), 3) := by decide +kernel
theorem dX8_wetOfTables_29 : decode cX8_wetOfTables 29 = .ok (.iload_n 1, 1) := by decide +kernel
theorem dX8_wetOfTables_30 : decode cX8_wetOfTables 30 = .ok (.ireturn, 1) := by decide +kernel
theorem dX8_goesDown_0 : decode cX8_goesDown 0 = .ok (.aload_n 0, 1) := by decide +kernel
theorem dX8_goesDown_1 : decode cX8_goesDown 1 = .ok (.getfield 13, 3) := by decide +kernel
theorem dX8_goesDown_4 : decode cX8_goesDown 4 = .ok (.bipush 16, 2) := by decide +kernel
theorem dX8_goesDown_6 : decode cX8_goesDown 6 = .ok (.iaload, 1) := by decide +kernel
theorem dX8_goesDown_7 : decode cX8_goesDown 7 = .ok (.istore_n 2, 1) := by decide +kernel
theorem dX8_goesDown_8 : decode cX8_goesDown 8 = .ok (.aload_n 0, 1) := by decide +kernel
theorem dX8_goesDown_9 : decode cX8_goesDown 9 = .ok (.getfield 13, 3) := by decide +kernel
theorem dX8_goesDown_12 : decode cX8_goesDown 12 = .ok (.bipush 19, 2) := by decide +kernel
theorem dX8_goesDown_14 : decode cX8_goesDown 14 = .ok (.iaload, 1) := by decide +kernel
theorem dX8_goesDown_15 : decode cX8_goesDown 15 = .ok (.istore_n 3, 1) := by decide +kernel
theorem dX8_goesDown_16 : decode cX8_goesDown 16 = .ok (.aload_n 0, 1) := by decide +kernel
theorem dX8_goesDown_17 : decode cX8_goesDown 17 = .ok (.getfield 13, 3) := by decide +kernel
theorem dX8_goesDown_20 : decode cX8_goesDown 20 = .ok (.bipush 20, 2) := by decide +kernel
theorem dX8_goesDown_22 : decode cX8_goesDown 22 = .ok (.iaload, 1) := by decide +kernel
theorem dX8_goesDown_23 : decode cX8_goesDown 23 = .ok (.istore 4, 2) := by decide +kernel
theorem dX8_goesDown_25 : decode cX8_goesDown 25 = .ok (.aload_n 0, 1) := by decide +kernel
theorem dX8_goesDown_26 : decode cX8_goesDown 26 = .ok (.invokevirtual 366, 3) := by decide +kernel
theorem dX8_goesDown_29 : decode cX8_goesDown 29 = .ok (.istore 5, 2) := by decide +kernel
theorem dX8_goesDown_31 : decode cX8_goesDown 31 = .ok (.aload_n 0, 1) := by decide +kernel
theorem dX8_goesDown_32 : decode cX8_goesDown 32 = .ok (.getfield 13, 3) := by decide +kernel
theorem dX8_goesDown_35 : decode cX8_goesDown 35 = .ok (.bipush 18, 2) := by decide +kernel
theorem dX8_goesDown_37 : decode cX8_goesDown 37 = .ok (.iaload, 1) := by decide +kernel
theorem dX8_goesDown_38 : decode cX8_goesDown 38 = .ok (.istore 6, 2) := by decide +kernel
theorem dX8_goesDown_40 : decode cX8_goesDown 40 = .ok (.iconst 0, 1) := by decide +kernel
theorem dX8_goesDown_41 : decode cX8_goesDown 41 = .ok (.istore 7, 2) := by decide +kernel
theorem dX8_goesDown_43 : decode cX8_goesDown 43 = .ok (.iconst 0, 1) := by decide +kernel
theorem dX8_goesDown_44 : decode cX8_goesDown 44 = .ok (.istore 8, 2) := by decide +kernel
theorem dX8_goesDown_46 : decode cX8_goesDown 46 = .ok (.iload 8, 2) := by decide +kernel
theorem dX8_goesDown_48 : decode cX8_goesDown 48 = .ok (.aload_n 0, 1) := by decide +kernel
theorem dX8_goesDown_49 : decode cX8_goesDown 49 = .ok (.getfield 13, 3) := by decide +kernel
theorem dX8_goesDown_52 : decode cX8_goesDown 52 = .ok (.bipush 24, 2) := by decide +kernel
theorem dX8_goesDown_54 : decode cX8_goesDown 54 = .ok (.iaload, 1) := by decide +kernel
theorem dX8_goesDown_55 : decode cX8_goesDown 55 = .ok (.if_icmp .ge 19, 3) := by decide +kernel
theorem dX8_goesDown_58 : decode cX8_goesDown 58 = .ok (.iload 7, 2) := by decide +kernel
theorem dX8_goesDown_60 : decode cX8_goesDown 60 = .ok (.aload_n 0, 1) := by decide +kernel
theorem dX8_goesDown_61 : decode cX8_goesDown 61 = .ok (.iload_n 1, 1) := by decide +kernel
theorem dX8_goesDown_62 : decode cX8_goesDown 62 = .ok (.invokevirtual 299, 3) := by decide +kernel
theorem dX8_goesDown_65 : decode cX8_goesDown 65 = .ok (.iadd, 1) := by decide +kernel
theorem dX8_goesDown_66 : decode cX8_goesDown 66 = .ok (.istore 7, 2) := by decide +kernel
theorem dX8_goesDown_68 : decode cX8_goesDown 68 = .ok (.iinc 8 1, 3) := by decide +kernel
theorem dX8_goesDown_71 : decode cX8_goesDown 71 = .ok (.goto (-25), 3) := by decide +kernel
theorem dX8_goesDown_74 : decode cX8_goesDown 74 = .ok (.aload_n 0, 1) := by decide +kernel
theorem dX8_goesDown_75 : decode cX8_goesDown 75 = .ok (.getfield 13, 3) := by decide +kernel
theorem dX8_goesDown_78 : decode cX8_goesDown 78 = .ok (.bipush 23, 2) := by decide +kernel
theorem dX8_goesDown_80 : decode cX8_goesDown 80 = .ok (.iconst 1, 1) := by decide +kernel
theorem dX8_goesDown_81 : decode cX8_goesDown 81 = .ok (.iastore, 1) := by decide +kernel
theorem dX8_goesDown_82 : decode cX8_goesDown 82 = .ok (.aload_n 0, 1) := by decide +kernel
theorem dX8_goesDown_83 : decode cX8_goesDown 83 = .ok (.invokevirtual 313, 3) := by decide +kernel
theorem dX8_goesDown_86 : decode cX8_goesDown 86 = .ok (.ifCond .le 16, 3) := by decide +kernel
theorem dX8_goesDown_89 : decode cX8_goesDown 89 = .ok (.iload 7, 2) := by decide +kernel
theorem dX8_goesDown_91 : decode cX8_goesDown 91 = .ok (.aload_n 0, 1) := by decide +kernel
theorem dX8_goesDown_92 : decode cX8_goesDown 92 = .ok (.iconst 0, 1) := by decide +kernel
theorem dX8_goesDown_93 : decode cX8_goesDown 93 = .ok (.invokevirtual 285, 3) := by decide +kernel
theorem dX8_goesDown_96 : decode cX8_goesDown 96 = .ok (.iadd, 1) := by decide +kernel
theorem dX8_goesDown_97 : decode cX8_goesDown 97 = .ok (.istore 7, 2) := by decide +kernel
theorem dX8_goesDown_99 : decode cX8_goesDown 99 = .ok (.goto (-17), 3) := by decide +kernel
theorem dX8_goesDown_102 : decode cX8_goesDown 102 = .ok (.aload_n 0, 1) := by decide +kernel
theorem dX8_goesDown_103 : decode cX8_goesDown 103 = .ok (.getfield 40, 3) := by decide +kernel
theorem dX8_goesDown_106 : decode cX8_goesDown 106 = .ok (.iconst 0, 1) := by decide +kernel
theorem dX8_goesDown_107 : decode cX8_goesDown 107 = .ok (.aload_n 0, 1) := by decide +kernel
theorem dX8_goesDown_108 : decode cX8_goesDown 108 = .ok (.getfield 13, 3) := by decide +kernel
theorem dX8_goesDown_111 : decode cX8_goesDown 111 = .ok (.bipush 16, 2) := by decide +kernel
theorem dX8_goesDown_113 : decode cX8_goesDown 113 = .ok (.iaload, 1) := by decide +kernel
theorem dX8_goesDown_114 : decode cX8_goesDown 114 = .ok (.iload_n 2, 1) := by decide +kernel
theorem dX8_goesDown_115 : decode cX8_goesDown 115 = .ok (.isub, 1) := by decide +kernel
theorem dX8_goesDown_116 : decode cX8_goesDown 116 = .ok (.iastore, 1) := by decide +kernel
theorem dX8_goesDown_117 : decode cX8_goesDown 117 = .ok (.aload_n 0, 1) := by decide +kernel
theorem dX8_goesDown_118 : decode cX8_goesDown 118 = .ok (.getfield 40, 3) := by decide +kernel
theorem dX8_goesDown_121 : decode cX8_goesDown 121 = .ok (.iconst 1, 1) := by decide +kernel
theorem dX8_goesDown_122 : decode cX8_goesDown 122 = .ok (.aload_n 0, 1) := by decide +kernel
theorem dX8_goesDown_123 : decode cX8_goesDown 123 = .ok (.getfield 13, 3) := by decide +kernel
theorem dX8_goesDown_126 : decode cX8_goesDown 126 = .ok (.bipush 19, 2) := by decide +kernel
theorem dX8_goesDown_128 : decode cX8_goesDown 128 = .ok (.iaload, 1) := by decide +kernel
theorem dX8_goesDown_129 : decode cX8_goesDown 129 = .ok (.iload_n 3, 1) := by decide +kernel
theorem dX8_goesDown_130 : decode cX8_goesDown 130 = .ok (.isub, 1) := by decide +kernel
theorem dX8_goesDown_131 : decode cX8_goesDown 131 = .ok (.iastore, 1) := by decide +kernel
theorem dX8_goesDown_132 : decode cX8_goesDown 132 = .ok (.aload_n 0, 1) := by decide +kernel
theorem dX8_goesDown_133 : decode cX8_goesDown 133 = .ok (.getfield 40, 3) := by decide +kernel
theorem dX8_goesDown_136 : decode cX8_goesDown 136 = .ok (.iconst 2, 1) := by decide +kernel
theorem dX8_goesDown_137 : decode cX8_goesDown 137 = .ok (.aload_n 0, 1) := by decide +kernel
theorem dX8_goesDown_138 : decode cX8_goesDown 138 = .ok (.getfield 13, 3) := by decide +kernel
theorem dX8_goesDown_141 : decode cX8_goesDown 141 = .ok (.bipush 20, 2) := by decide +kernel
theorem dX8_goesDown_143 : decode cX8_goesDown 143 = .ok (.iaload, 1) := by decide +kernel
theorem dX8_goesDown_144 : decode cX8_goesDown 144 = .ok (.iload 4, 2) := by decide +kernel
theorem dX8_goesDown_146 : decode cX8_goesDown 146 = .ok (.isub, 1) := by decide +kernel
theorem dX8_goesDown_147 : decode cX8_goesDown 147 = .ok (.iastore, 1) := by decide +kernel
theorem dX8_goesDown_148 : decode cX8_goesDown 148 = .ok (.aload_n 0, 1) := by decide +kernel
theorem dX8_goesDown_149 : decode cX8_goesDown 149 = .ok (.getfield 40, 3) := by decide +kernel
theorem dX8_goesDown_152 : decode cX8_goesDown 152 = .ok (.iconst 3, 1) := by decide +kernel
theorem dX8_goesDown_153 : decode cX8_goesDown 153 = .ok (.aload_n 0, 1) := by decide +kernel
theorem dX8_goesDown_154 : decode cX8_goesDown 154 = .ok (.invokevirtual 310, 3) := by decide +kernel
theorem dX8_goesDown_157 : decode cX8_goesDown 157 = .ok (.iastore, 1) := by decide +kernel
theorem dX8_goesDown_158 : decode cX8_goesDown 158 = .ok (.aload_n 0, 1) := by decide +kernel
theorem dX8_goesDown_159 : decode cX8_goesDown 159 = .ok (.getfield 40, 3) := by decide +kernel
theorem dX8_goesDown_162 : decode cX8_goesDown 162 = .ok (.iconst 4, 1) := by decide +kernel
theorem dX8_goesDown_163 : decode cX8_goesDown 163 = .ok (.aload_n 0, 1) := by decide +kernel
theorem dX8_goesDown_164 : decode cX8_goesDown 164 = .ok (.invokevirtual 366, 3) := by decide +kernel
theorem dX8_goesDown_167 : decode cX8_goesDown 167 = .ok (.iload 5, 2) := by decide +kernel
theorem dX8_goesDown_169 : decode cX8_goesDown 169 = .ok (.isub, 1) := by decide +kernel
theorem dX8_goesDown_170 : decode cX8_goesDown 170 = .ok (.iastore, 1) := by decide +kernel
theorem dX8_goesDown_171 : decode cX8_goesDown 171 = .ok (.aload_n 0, 1) := by decide +kernel
theorem dX8_goesDown_172 : decode cX8_goesDown 172 = .ok (.getfield 40, 3) := by decide +kernel
theorem dX8_goesDown_175 : decode cX8_goesDown 175 = .ok (.iconst 5, 1) := by decide +kernel
theorem dX8_goesDown_176 : decode cX8_goesDown 176 = .ok (.aload_n 0, 1) := by decide +kernel
theorem dX8_goesDown_177 : decode cX8_goesDown 177 = .ok (.getfield 13, 3) := by decide +kernel
theorem dX8_goesDown_180 : decode cX8_goesDown 180 = .ok (.bipush 18, 2) := by decide +kernel
theorem dX8_goesDown_182 : decode cX8_goesDown 182 = .ok (.iaload, 1) := by decide +kernel
theorem dX8_goesDown_183 : decode cX8_goesDown 183 = .ok (.iload 6, 2) := by decide +kernel
theorem dX8_goesDown_185 : decode cX8_goesDown 185 = .ok (.isub, 1) := by decide +kernel
theorem dX8_goesDown_186 : decode cX8_goesDown 186 = .ok (.iastore, 1) := by decide +kernel
theorem dX8_goesDown_187 : decode cX8_goesDown 187 = .ok (.iload 7, 2) := by decide +kernel
theorem dX8_goesDown_189 : decode cX8_goesDown 189 = .ok (.ifCond .ge 12, 3) := by decide +kernel
theorem dX8_goesDown_192 : decode cX8_goesDown 192 = .ok (.aload_n 0, 1) := by decide +kernel
theorem dX8_goesDown_193 : decode cX8_goesDown 193 = .ok (.getfield 40, 3) := by decide +kernel
theorem dX8_goesDown_196 : decode cX8_goesDown 196 = .ok (.iconst 0, 1) := by decide +kernel
theorem dX8_goesDown_197 : decode cX8_goesDown 197 = .ok (.ldc_w 369, 3) := by decide +kernel
theorem dX8_goesDown_200 : decode cX8_goesDown 200 = .ok (.iastore, 1) := by decide +kernel
theorem dX8_goesDown_201 : decode cX8_goesDown 201 = .ok (.return_, 1) := by decide +kernel
theorem dX8_thinksBy_0 : decode cX8_thinksBy 0 = .ok (.aload_n 0, 1) := by decide +kernel
theorem dX8_thinksBy_1 : decode cX8_thinksBy 1 = .ok (.invokevirtual 370, 3) := by decide +kernel
theorem dX8_thinksBy_4 : decode cX8_thinksBy 4 = .ok (.aload_n 0, 1) := by decide +kernel
theorem dX8_thinksBy_5 : decode cX8_thinksBy 5 = .ok (.getfield 13, 3) := by decide +kernel
theorem dX8_thinksBy_8 : decode cX8_thinksBy 8 = .ok (.iload_n 2, 1) := by decide +kernel
theorem dX8_thinksBy_9 : decode cX8_thinksBy 9 = .ok (.iload_n 3, 1) := by decide +kernel
theorem dX8_thinksBy_10 : decode cX8_thinksBy 10 = .ok (.iastore, 1) := by decide +kernel
theorem dX8_thinksBy_11 : decode cX8_thinksBy 11 = .ok (.aload_n 0, 1) := by decide +kernel
theorem dX8_thinksBy_12 : decode cX8_thinksBy 12 = .ok (.iload_n 1, 1) := by decide +kernel
theorem dX8_thinksBy_13 : decode cX8_thinksBy 13 = .ok (.invokevirtual 373, 3) := by decide +kernel
theorem dX8_thinksBy_16 : decode cX8_thinksBy 16 = .ok (.aload_n 0, 1) := by decide +kernel
theorem dX8_thinksBy_17 : decode cX8_thinksBy 17 = .ok (.invokevirtual 376, 3) := by decide +kernel
theorem dX8_thinksBy_20 : decode cX8_thinksBy 20 = .ok (.return_, 1) := by decide +kernel
theorem dX8_isThought_0 : decode cX8_isThought 0 = .ok (.aload_n 0, 1) := by decide +kernel
theorem dX8_isThought_1 : decode cX8_isThought 1 = .ok (.iload_n 1, 1) := by decide +kernel
theorem dX8_isThought_2 : decode cX8_isThought 2 = .ok (.invokevirtual 296, 3) := by decide +kernel
theorem dX8_isThought_5 : decode cX8_isThought 5 = .ok (.ifCond .ne 19, 3) := by decide +kernel
theorem dX8_isThought_8 : decode cX8_isThought 8 = .ok (.iload_n 2, 1) := by decide +kernel
theorem dX8_isThought_9 : decode cX8_isThought 9 = .ok (.i2l, 1) := by decide +kernel
theorem dX8_isThought_10 : decode cX8_isThought 10 = .ok (.lconst 0, 1) := by decide +kernel
theorem dX8_isThought_11 : decode cX8_isThought 11 = .ok (.ldc2_w 379, 3) := by decide +kernel
theorem dX8_isThought_14 : decode cX8_isThought 14 = .ok (.invokestatic 68, 3) := by decide +kernel
theorem dX8_isThought_17 : decode cX8_isThought 17 = .ok (.ifCond .eq 7, 3) := by decide +kernel
theorem dX8_isThought_20 : decode cX8_isThought 20 = .ok (.iconst 1, 1) := by decide +kernel
theorem dX8_isThought_21 : decode cX8_isThought 21 = .ok (.goto 4, 3) := by decide +kernel
theorem dX8_isThought_24 : decode cX8_isThought 24 = .ok (.iconst 0, 1) := by decide +kernel
theorem dX8_isThought_25 : decode cX8_isThought 25 = .ok (.ireturn, 1) := by decide +kernel
theorem dX8_thought_0 : decode cX8_thought 0 = .ok (.aload_n 0, 1) := by decide +kernel
theorem dX8_thought_1 : decode cX8_thought 1 = .ok (.iload_n 1, 1) := by decide +kernel
theorem dX8_thought_2 : decode cX8_thought 2 = .ok (.iload_n 2, 1) := by decide +kernel
theorem dX8_thought_3 : decode cX8_thought 3 = .ok (.invokevirtual 381, 3) := by decide +kernel
theorem dX8_thought_6 : decode cX8_thought 6 = .ok (.ifCond .ne 7, 3) := by decide +kernel
theorem dX8_thought_9 : decode cX8_thought 9 = .ok (.ldc_w 369, 3) := by decide +kernel
theorem dX8_thought_12 : decode cX8_thought 12 = .ok (.ireturn, 1) := by decide +kernel
theorem dX8_thought_13 : decode cX8_thought 13 = .ok (.aload_n 0, 1) := by decide +kernel
theorem dX8_thought_14 : decode cX8_thought 14 = .ok (.iload_n 1, 1) := by decide +kernel
theorem dX8_thought_15 : decode cX8_thought 15 = .ok (.bipush 8, 2) := by decide +kernel
theorem dX8_thought_17 : decode cX8_thought 17 = .ok (.aload_n 0, 1) := by decide +kernel
theorem dX8_thought_18 : decode cX8_thought 18 = .ok (.getfield 13, 3) := by decide +kernel
theorem dX8_thought_21 : decode cX8_thought 21 = .ok (.bipush 8, 2) := by decide +kernel
theorem dX8_thought_23 : decode cX8_thought 23 = .ok (.iaload, 1) := by decide +kernel
theorem dX8_thought_24 : decode cX8_thought 24 = .ok (.invokevirtual 384, 3) := by decide +kernel
theorem dX8_thought_27 : decode cX8_thought 27 = .ok (.aload_n 0, 1) := by decide +kernel
theorem dX8_thought_28 : decode cX8_thought 28 = .ok (.getfield 40, 3) := by decide +kernel
theorem dX8_thought_31 : decode cX8_thought 31 = .ok (.iload_n 2, 1) := by decide +kernel
theorem dX8_thought_32 : decode cX8_thought 32 = .ok (.iaload, 1) := by decide +kernel
theorem dX8_thought_33 : decode cX8_thought 33 = .ok (.ireturn, 1) := by decide +kernel
theorem dX8_lagged_0 : decode cX8_lagged 0 = .ok (.aload_n 0, 1) := by decide +kernel
theorem dX8_lagged_1 : decode cX8_lagged 1 = .ok (.iload_n 1, 1) := by decide +kernel
theorem dX8_lagged_2 : decode cX8_lagged 2 = .ok (.iload_n 3, 1) := by decide +kernel
theorem dX8_lagged_3 : decode cX8_lagged 3 = .ok (.invokevirtual 381, 3) := by decide +kernel
theorem dX8_lagged_6 : decode cX8_lagged 6 = .ok (.ifCond .eq 15, 3) := by decide +kernel
theorem dX8_lagged_9 : decode cX8_lagged 9 = .ok (.iload_n 2, 1) := by decide +kernel
theorem dX8_lagged_10 : decode cX8_lagged 10 = .ok (.i2l, 1) := by decide +kernel
theorem dX8_lagged_11 : decode cX8_lagged 11 = .ok (.lconst 0, 1) := by decide +kernel
theorem dX8_lagged_12 : decode cX8_lagged 12 = .ok (.ldc2_w 388, 3) := by decide +kernel
theorem dX8_lagged_15 : decode cX8_lagged 15 = .ok (.invokestatic 68, 3) := by decide +kernel
theorem dX8_lagged_18 : decode cX8_lagged 18 = .ok (.ifCond .ne 7, 3) := by decide +kernel
theorem dX8_lagged_21 : decode cX8_lagged 21 = .ok (.ldc_w 369, 3) := by decide +kernel
theorem dX8_lagged_24 : decode cX8_lagged 24 = .ok (.ireturn, 1) := by decide +kernel
theorem dX8_lagged_25 : decode cX8_lagged 25 = .ok (.aload_n 0, 1) := by decide +kernel
theorem dX8_lagged_26 : decode cX8_lagged 26 = .ok (.iload_n 1, 1) := by decide +kernel
theorem dX8_lagged_27 : decode cX8_lagged 27 = .ok (.bipush 8, 2) := by decide +kernel
theorem dX8_lagged_29 : decode cX8_lagged 29 = .ok (.iload_n 2, 1) := by decide +kernel
theorem dX8_lagged_30 : decode cX8_lagged 30 = .ok (.invokevirtual 384, 3) := by decide +kernel
theorem dX8_lagged_33 : decode cX8_lagged 33 = .ok (.aload_n 0, 1) := by decide +kernel
theorem dX8_lagged_34 : decode cX8_lagged 34 = .ok (.getfield 40, 3) := by decide +kernel
theorem dX8_lagged_37 : decode cX8_lagged 37 = .ok (.iload_n 3, 1) := by decide +kernel
theorem dX8_lagged_38 : decode cX8_lagged 38 = .ok (.iaload, 1) := by decide +kernel
theorem dX8_lagged_39 : decode cX8_lagged 39 = .ok (.ireturn, 1) := by decide +kernel
theorem dX8_worth_0 : decode cX8_worth 0 = .ok (.aload_n 0, 1) := by decide +kernel
theorem dX8_worth_1 : decode cX8_worth 1 = .ok (.iload_n 1, 1) := by decide +kernel
theorem dX8_worth_2 : decode cX8_worth 2 = .ok (.invokevirtual 296, 3) := by decide +kernel
theorem dX8_worth_5 : decode cX8_worth 5 = .ok (.ifCond .eq 7, 3) := by decide +kernel
theorem dX8_worth_8 : decode cX8_worth 8 = .ok (.ldc_w 369, 3) := by decide +kernel
theorem dX8_worth_11 : decode cX8_worth 11 = .ok (.ireturn, 1) := by decide +kernel
theorem dX8_worth_12 : decode cX8_worth 12 = .ok (.aload_n 0, 1) := by decide +kernel
theorem dX8_worth_13 : decode cX8_worth 13 = .ok (.iload_n 1, 1) := by decide +kernel
theorem dX8_worth_14 : decode cX8_worth 14 = .ok (.bipush 8, 2) := by decide +kernel
theorem dX8_worth_16 : decode cX8_worth 16 = .ok (.iconst 0, 1) := by decide +kernel
theorem dX8_worth_17 : decode cX8_worth 17 = .ok (.invokevirtual 384, 3) := by decide +kernel
theorem dX8_worth_20 : decode cX8_worth 20 = .ok (.aload_n 0, 1) := by decide +kernel
theorem dX8_worth_21 : decode cX8_worth 21 = .ok (.getfield 40, 3) := by decide +kernel
theorem dX8_worth_24 : decode cX8_worth 24 = .ok (.iconst 0, 1) := by decide +kernel
theorem dX8_worth_25 : decode cX8_worth 25 = .ok (.iaload, 1) := by decide +kernel
theorem dX8_worth_26 : decode cX8_worth 26 = .ok (.aload_n 0, 1) := by decide +kernel
theorem dX8_worth_27 : decode cX8_worth 27 = .ok (.getfield 40, 3) := by decide +kernel
theorem dX8_worth_30 : decode cX8_worth 30 = .ok (.iconst 4, 1) := by decide +kernel
theorem dX8_worth_31 : decode cX8_worth 31 = .ok (.iaload, 1) := by decide +kernel
theorem dX8_worth_32 : decode cX8_worth 32 = .ok (.isub, 1) := by decide +kernel
theorem dX8_worth_33 : decode cX8_worth 33 = .ok (.istore_n 2, 1) := by decide +kernel
theorem dX8_worth_34 : decode cX8_worth 34 = .ok (.aload_n 0, 1) := by decide +kernel
theorem dX8_worth_35 : decode cX8_worth 35 = .ok (.iload_n 1, 1) := by decide +kernel
theorem dX8_worth_36 : decode cX8_worth 36 = .ok (.bipush 8, 2) := by decide +kernel
theorem dX8_worth_38 : decode cX8_worth 38 = .ok (.aload_n 0, 1) := by decide +kernel
theorem dX8_worth_39 : decode cX8_worth 39 = .ok (.getfield 13, 3) := by decide +kernel
theorem dX8_worth_42 : decode cX8_worth 42 = .ok (.bipush 8, 2) := by decide +kernel
theorem dX8_worth_44 : decode cX8_worth 44 = .ok (.iaload, 1) := by decide +kernel
theorem dX8_worth_45 : decode cX8_worth 45 = .ok (.invokevirtual 384, 3) := by decide +kernel
theorem dX8_worth_48 : decode cX8_worth 48 = .ok (.iload_n 2, 1) := by decide +kernel
theorem dX8_worth_49 : decode cX8_worth 49 = .ok (.aload_n 0, 1) := by decide +kernel
theorem dX8_worth_50 : decode cX8_worth 50 = .ok (.getfield 40, 3) := by decide +kernel
theorem dX8_worth_53 : decode cX8_worth 53 = .ok (.iconst 0, 1) := by decide +kernel
theorem dX8_worth_54 : decode cX8_worth 54 = .ok (.iaload, 1) := by decide +kernel
theorem dX8_worth_55 : decode cX8_worth 55 = .ok (.aload_n 0, 1) := by decide +kernel
theorem dX8_worth_56 : decode cX8_worth 56 = .ok (.getfield 40, 3) := by decide +kernel
theorem dX8_worth_59 : decode cX8_worth 59 = .ok (.iconst 4, 1) := by decide +kernel
theorem dX8_worth_60 : decode cX8_worth 60 = .ok (.iaload, 1) := by decide +kernel
theorem dX8_worth_61 : decode cX8_worth 61 = .ok (.isub, 1) := by decide +kernel
theorem dX8_worth_62 : decode cX8_worth 62 = .ok (.isub, 1) := by decide +kernel
theorem dX8_worth_63 : decode cX8_worth 63 = .ok (.ireturn, 1) := by decide +kernel
theorem dX8_two_0 : decode cX8_two 0 = .ok (.aload_n 0, 1) := by decide +kernel
theorem dX8_two_1 : decode cX8_two 1 = .ok (.iload_n 1, 1) := by decide +kernel
theorem dX8_two_2 : decode cX8_two 2 = .ok (.iload_n 3, 1) := by decide +kernel
theorem dX8_two_3 : decode cX8_two 3 = .ok (.invokevirtual 381, 3) := by decide +kernel
theorem dX8_two_6 : decode cX8_two 6 = .ok (.ifCond .eq 15, 3) := by decide +kernel
theorem dX8_two_9 : decode cX8_two 9 = .ok (.iload_n 2, 1) := by decide +kernel
theorem dX8_two_10 : decode cX8_two 10 = .ok (.i2l, 1) := by decide +kernel
theorem dX8_two_11 : decode cX8_two 11 = .ok (.lconst 0, 1) := by decide +kernel
theorem dX8_two_12 : decode cX8_two 12 = .ok (.ldc2_w 388, 3) := by decide +kernel
theorem dX8_two_15 : decode cX8_two 15 = .ok (.invokestatic 68, 3) := by decide +kernel
theorem dX8_two_18 : decode cX8_two 18 = .ok (.ifCond .ne 7, 3) := by decide +kernel
theorem dX8_two_21 : decode cX8_two 21 = .ok (.ldc_w 369, 3) := by decide +kernel
theorem dX8_two_24 : decode cX8_two 24 = .ok (.ireturn, 1) := by decide +kernel
theorem dX8_two_25 : decode cX8_two 25 = .ok (.aload_n 0, 1) := by decide +kernel
theorem dX8_two_26 : decode cX8_two 26 = .ok (.iload_n 1, 1) := by decide +kernel
theorem dX8_two_27 : decode cX8_two 27 = .ok (.bipush 22, 2) := by decide +kernel
theorem dX8_two_29 : decode cX8_two 29 = .ok (.iload_n 2, 1) := by decide +kernel
theorem dX8_two_30 : decode cX8_two 30 = .ok (.invokevirtual 384, 3) := by decide +kernel
theorem dX8_two_33 : decode cX8_two 33 = .ok (.aload_n 0, 1) := by decide +kernel
theorem dX8_two_34 : decode cX8_two 34 = .ok (.getfield 40, 3) := by decide +kernel
theorem dX8_two_37 : decode cX8_two 37 = .ok (.iload_n 3, 1) := by decide +kernel
theorem dX8_two_38 : decode cX8_two 38 = .ok (.iaload, 1) := by decide +kernel
theorem dX8_two_39 : decode cX8_two 39 = .ok (.ireturn, 1) := by decide +kernel
theorem dX8_climbs_0 : decode cX8_climbs 0 = .ok (.aload_n 0, 1) := by decide +kernel
theorem dX8_climbs_1 : decode cX8_climbs 1 = .ok (.iload_n 1, 1) := by decide +kernel
theorem dX8_climbs_2 : decode cX8_climbs 2 = .ok (.iload_n 3, 1) := by decide +kernel
theorem dX8_climbs_3 : decode cX8_climbs 3 = .ok (.invokevirtual 381, 3) := by decide +kernel
theorem dX8_climbs_6 : decode cX8_climbs 6 = .ok (.ifCond .eq 15, 3) := by decide +kernel
theorem dX8_climbs_9 : decode cX8_climbs 9 = .ok (.iload_n 2, 1) := by decide +kernel
theorem dX8_climbs_10 : decode cX8_climbs 10 = .ok (.i2l, 1) := by decide +kernel
theorem dX8_climbs_11 : decode cX8_climbs 11 = .ok (.lconst 1, 1) := by decide +kernel
theorem dX8_climbs_12 : decode cX8_climbs 12 = .ok (.ldc2_w 214, 3) := by decide +kernel
theorem dX8_climbs_15 : decode cX8_climbs 15 = .ok (.invokestatic 68, 3) := by decide +kernel
theorem dX8_climbs_18 : decode cX8_climbs 18 = .ok (.ifCond .ne 7, 3) := by decide +kernel
theorem dX8_climbs_21 : decode cX8_climbs 21 = .ok (.ldc_w 369, 3) := by decide +kernel
theorem dX8_climbs_24 : decode cX8_climbs 24 = .ok (.ireturn, 1) := by decide +kernel
theorem dX8_climbs_25 : decode cX8_climbs 25 = .ok (.aload_n 0, 1) := by decide +kernel
theorem dX8_climbs_26 : decode cX8_climbs 26 = .ok (.iload_n 1, 1) := by decide +kernel
theorem dX8_climbs_27 : decode cX8_climbs 27 = .ok (.bipush 9, 2) := by decide +kernel
theorem dX8_climbs_29 : decode cX8_climbs 29 = .ok (.iload_n 2, 1) := by decide +kernel
theorem dX8_climbs_30 : decode cX8_climbs 30 = .ok (.invokevirtual 384, 3) := by decide +kernel
theorem dX8_climbs_33 : decode cX8_climbs 33 = .ok (.aload_n 0, 1) := by decide +kernel
theorem dX8_climbs_34 : decode cX8_climbs 34 = .ok (.getfield 40, 3) := by decide +kernel
theorem dX8_climbs_37 : decode cX8_climbs 37 = .ok (.iload_n 3, 1) := by decide +kernel
theorem dX8_climbs_38 : decode cX8_climbs 38 = .ok (.iaload, 1) := by decide +kernel
theorem dX8_climbs_39 : decode cX8_climbs 39 = .ok (.ireturn, 1) := by decide +kernel
theorem dX8_most_0 : decode cX8_most 0 = .ok (.aload_n 0, 1) := by decide +kernel
theorem dX8_most_1 : decode cX8_most 1 = .ok (.iload_n 2, 1) := by decide +kernel
theorem dX8_most_2 : decode cX8_most 2 = .ok (.invokevirtual 302, 3) := by decide +kernel
theorem dX8_most_5 : decode cX8_most 5 = .ok (.ifCond .ne 6, 3) := by decide +kernel
theorem dX8_most_8 : decode cX8_most 8 = .ok (.bipush (-2), 2) := by decide +kernel
theorem dX8_most_10 : decode cX8_most 10 = .ok (.ireturn, 1) := by decide +kernel
theorem dX8_most_11 : decode cX8_most 11 = .ok (.aload_n 0, 1) := by decide +kernel
theorem dX8_most_12 : decode cX8_most 12 = .ok (.iload_n 1, 1) := by decide +kernel
theorem dX8_most_13 : decode cX8_most 13 = .ok (.invokevirtual 296, 3) := by decide +kernel
theorem dX8_most_16 : decode cX8_most 16 = .ok (.istore_n 3, 1) := by decide +kernel
theorem dX8_most_17 : decode cX8_most 17 = .ok (.iload_n 3, 1) := by decide +kernel
theorem dX8_most_18 : decode cX8_most 18 = .ok (.ifCond .ge 5, 3) := by decide +kernel
theorem dX8_most_21 : decode cX8_most 21 = .ok (.iload_n 3, 1) := by decide +kernel
theorem dX8_most_22 : decode cX8_most 22 = .ok (.ireturn, 1) := by decide +kernel
theorem dX8_most_23 : decode cX8_most 23 = .ok (.aload_n 0, 1) := by decide +kernel
theorem dX8_most_24 : decode cX8_most 24 = .ok (.iload_n 2, 1) := by decide +kernel
theorem dX8_most_25 : decode cX8_most 25 = .ok (.invokevirtual 307, 3) := by decide +kernel
theorem dX8_most_28 : decode cX8_most 28 = .ok (.istore 4, 2) := by decide +kernel
theorem dX8_most_30 : decode cX8_most 30 = .ok (.bipush 60, 2) := by decide +kernel
theorem dX8_most_32 : decode cX8_most 32 = .ok (.istore 5, 2) := by decide +kernel
theorem dX8_most_34 : decode cX8_most 34 = .ok (.iload 5, 2) := by decide +kernel
theorem dX8_most_36 : decode cX8_most 36 = .ok (.ifCond .lt 59, 3) := by decide +kernel
theorem dX8_most_39 : decode cX8_most 39 = .ok (.aload_n 0, 1) := by decide +kernel
theorem dX8_most_40 : decode cX8_most 40 = .ok (.invokevirtual 370, 3) := by decide +kernel
theorem dX8_most_43 : decode cX8_most 43 = .ok (.aload_n 0, 1) := by decide +kernel
theorem dX8_most_44 : decode cX8_most 44 = .ok (.getfield 13, 3) := by decide +kernel
theorem dX8_most_47 : decode cX8_most 47 = .ok (.bipush 6, 2) := by decide +kernel
theorem dX8_most_49 : decode cX8_most 49 = .ok (.iload 5, 2) := by decide +kernel
theorem dX8_most_51 : decode cX8_most 51 = .ok (.iastore, 1) := by decide +kernel
theorem dX8_most_52 : decode cX8_most 52 = .ok (.aload_n 0, 1) := by decide +kernel
theorem dX8_most_53 : decode cX8_most 53 = .ok (.iload_n 1, 1) := by decide +kernel
theorem dX8_most_54 : decode cX8_most 54 = .ok (.invokevirtual 373, 3) := by decide +kernel
theorem dX8_most_57 : decode cX8_most 57 = .ok (.aload_n 0, 1) := by decide +kernel
theorem dX8_most_58 : decode cX8_most 58 = .ok (.iload_n 2, 1) := by decide +kernel
theorem dX8_most_59 : decode cX8_most 59 = .ok (.invokevirtual 307, 3) := by decide +kernel
theorem dX8_most_62 : decode cX8_most 62 = .ok (.istore 6, 2) := by decide +kernel
theorem dX8_most_64 : decode cX8_most 64 = .ok (.aload_n 0, 1) := by decide +kernel
theorem dX8_most_65 : decode cX8_most 65 = .ok (.invokevirtual 376, 3) := by decide +kernel
theorem dX8_most_68 : decode cX8_most 68 = .ok (.iload 6, 2) := by decide +kernel
theorem dX8_most_70 : decode cX8_most 70 = .ok (.aload_n 0, 1) := by decide +kernel
theorem dX8_most_71 : decode cX8_most 71 = .ok (.iload_n 2, 1) := by decide +kernel
theorem dX8_most_72 : decode cX8_most 72 = .ok (.iconst 2, 1) := by decide +kernel
theorem dX8_most_73 : decode cX8_most 73 = .ok (.invokevirtual 72, 3) := by decide +kernel
theorem dX8_most_76 : decode cX8_most 76 = .ok (.if_icmp .le 10, 3) := by decide +kernel
theorem dX8_most_79 : decode cX8_most 79 = .ok (.iload 6, 2) := by decide +kernel
theorem dX8_most_81 : decode cX8_most 81 = .ok (.iload 4, 2) := by decide +kernel
theorem dX8_most_83 : decode cX8_most 83 = .ok (.if_icmp .ne 6, 3) := by decide +kernel
theorem dX8_most_86 : decode cX8_most 86 = .ok (.iload 5, 2) := by decide +kernel
theorem dX8_most_88 : decode cX8_most 88 = .ok (.ireturn, 1) := by decide +kernel
theorem dX8_most_89 : decode cX8_most 89 = .ok (.iinc 5 (-1), 3) := by decide +kernel
theorem dX8_most_92 : decode cX8_most 92 = .ok (.goto (-58), 3) := by decide +kernel
theorem dX8_most_95 : decode cX8_most 95 = .ok (.iconst (-1), 1) := by decide +kernel
theorem dX8_most_96 : decode cX8_most 96 = .ok (.ireturn, 1) := by decide +kernel
theorem dX8_rule_0 : decode cX8_rule 0 = .ok (.aload_n 0, 1) := by decide +kernel
theorem dX8_rule_1 : decode cX8_rule 1 = .ok (.iload_n 1, 1) := by decide +kernel
theorem dX8_rule_2 : decode cX8_rule 2 = .ok (.invokevirtual 296, 3) := by decide +kernel
theorem dX8_rule_5 : decode cX8_rule 5 = .ok (.istore_n 2, 1) := by decide +kernel
theorem dX8_rule_6 : decode cX8_rule 6 = .ok (.iload_n 2, 1) := by decide +kernel
theorem dX8_rule_7 : decode cX8_rule 7 = .ok (.ifCond .ge 5, 3) := by decide +kernel
theorem dX8_rule_10 : decode cX8_rule 10 = .ok (.iload_n 2, 1) := by decide +kernel
theorem dX8_rule_11 : decode cX8_rule 11 = .ok (.ireturn, 1) := by decide +kernel
theorem dX8_rule_12 : decode cX8_rule 12 = .ok (.iconst (-1), 1) := by decide +kernel
theorem dX8_rule_13 : decode cX8_rule 13 = .ok (.istore_n 3, 1) := by decide +kernel
theorem dX8_rule_14 : decode cX8_rule 14 = .ok (.iconst 0, 1) := by decide +kernel
theorem dX8_rule_15 : decode cX8_rule 15 = .ok (.istore 4, 2) := by decide +kernel
theorem dX8_rule_17 : decode cX8_rule 17 = .ok (.iconst 0, 1) := by decide +kernel
theorem dX8_rule_18 : decode cX8_rule 18 = .ok (.istore 5, 2) := by decide +kernel
theorem dX8_rule_20 : decode cX8_rule 20 = .ok (.iload 5, 2) := by decide +kernel
theorem dX8_rule_22 : decode cX8_rule 22 = .ok (.bipush 10, 2) := by decide +kernel
theorem dX8_rule_24 : decode cX8_rule 24 = .ok (.if_icmp .ge 109, 3) := by decide +kernel
theorem dX8_rule_27 : decode cX8_rule 27 = .ok (.iconst 0, 1) := by decide +kernel
theorem dX8_rule_28 : decode cX8_rule 28 = .ok (.istore 6, 2) := by decide +kernel
theorem dX8_rule_30 : decode cX8_rule 30 = .ok (.iload 6, 2) := by decide +kernel
theorem dX8_rule_32 : decode cX8_rule 32 = .ok (.bipush 60, 2) := by decide +kernel
theorem dX8_rule_34 : decode cX8_rule 34 = .ok (.if_icmp .gt 93, 3) := by decide +kernel
theorem dX8_rule_37 : decode cX8_rule 37 = .ok (.aload_n 0, 1) := by decide +kernel
theorem dX8_rule_38 : decode cX8_rule 38 = .ok (.invokevirtual 370, 3) := by decide +kernel
theorem dX8_rule_41 : decode cX8_rule 41 = .ok (.aload_n 0, 1) := by decide +kernel
theorem dX8_rule_42 : decode cX8_rule 42 = .ok (.getfield 13, 3) := by decide +kernel
theorem dX8_rule_45 : decode cX8_rule 45 = .ok (.bipush 12, 2) := by decide +kernel
theorem dX8_rule_47 : decode cX8_rule 47 = .ok (.iconst 1, 1) := by decide +kernel
theorem dX8_rule_48 : decode cX8_rule 48 = .ok (.iastore, 1) := by decide +kernel
theorem dX8_rule_49 : decode cX8_rule 49 = .ok (.aload_n 0, 1) := by decide +kernel
theorem dX8_rule_50 : decode cX8_rule 50 = .ok (.getfield 13, 3) := by decide +kernel
theorem dX8_rule_53 : decode cX8_rule 53 = .ok (.bipush 59, 2) := by decide +kernel
theorem dX8_rule_55 : decode cX8_rule 55 = .ok (.iload 5, 2) := by decide +kernel
theorem dX8_rule_57 : decode cX8_rule 57 = .ok (.iastore, 1) := by decide +kernel
theorem dX8_rule_58 : decode cX8_rule 58 = .ok (.aload_n 0, 1) := by decide +kernel
theorem dX8_rule_59 : decode cX8_rule 59 = .ok (.getfield 13, 3) := by decide +kernel
theorem dX8_rule_62 : decode cX8_rule 62 = .ok (.bipush 60, 2) := by decide +kernel
theorem dX8_rule_64 : decode cX8_rule 64 = .ok (.iload 6, 2) := by decide +kernel
theorem dX8_rule_66 : decode cX8_rule 66 = .ok (.iastore, 1) := by decide +kernel
theorem dX8_rule_67 : decode cX8_rule 67 = .ok (.aload_n 0, 1) := by decide +kernel
theorem dX8_rule_68 : decode cX8_rule 68 = .ok (.iload_n 1, 1) := by decide +kernel
theorem dX8_rule_69 : decode cX8_rule 69 = .ok (.invokevirtual 373, 3) := by decide +kernel
theorem dX8_rule_72 : decode cX8_rule 72 = .ok (.aload_n 0, 1) := by decide +kernel
theorem dX8_rule_73 : decode cX8_rule 73 = .ok (.invokevirtual 376, 3) := by decide +kernel
theorem dX8_rule_76 : decode cX8_rule 76 = .ok (.aload_n 0, 1) := by decide +kernel
theorem dX8_rule_77 : decode cX8_rule 77 = .ok (.getfield 40, 3) := by decide +kernel
theorem dX8_rule_80 : decode cX8_rule 80 = .ok (.iconst 3, 1) := by decide +kernel
theorem dX8_rule_81 : decode cX8_rule 81 = .ok (.iaload, 1) := by decide +kernel
theorem dX8_rule_82 : decode cX8_rule 82 = .ok (.ifCond .ne 39, 3) := by decide +kernel
theorem dX8_rule_85 : decode cX8_rule 85 = .ok (.iload_n 3, 1) := by decide +kernel
theorem dX8_rule_86 : decode cX8_rule 86 = .ok (.iconst (-1), 1) := by decide +kernel
theorem dX8_rule_87 : decode cX8_rule 87 = .ok (.if_icmp .eq 17, 3) := by decide +kernel
theorem dX8_rule_90 : decode cX8_rule 90 = .ok (.aload_n 0, 1) := by decide +kernel
theorem dX8_rule_91 : decode cX8_rule 91 = .ok (.getfield 40, 3) := by decide +kernel
theorem dX8_rule_94 : decode cX8_rule 94 = .ok (.iconst 0, 1) := by decide +kernel
theorem dX8_rule_95 : decode cX8_rule 95 = .ok (.iaload, 1) := by decide +kernel
theorem dX8_rule_96 : decode cX8_rule 96 = .ok (.iload 4, 2) := by decide +kernel
theorem dX8_rule_98 : decode cX8_rule 98 = .ok (.if_icmp .gt 6, 3) := by decide +kernel
theorem dX8_rule_101 : decode cX8_rule 101 = .ok (.goto 20, 3) := by decide +kernel
theorem dX8_rule_104 : decode cX8_rule 104 = .ok (.bipush 100, 2) := by decide +kernel
theorem dX8_rule_106 : decode cX8_rule 106 = .ok (.iload 5, 2) := by decide +kernel
theorem dX8_rule_108 : decode cX8_rule 108 = .ok (.imul, 1) := by decide +kernel
theorem dX8_rule_109 : decode cX8_rule 109 = .ok (.iload 6, 2) := by decide +kernel
theorem dX8_rule_111 : decode cX8_rule 111 = .ok (.iadd, 1) := by decide +kernel
theorem dX8_rule_112 : decode cX8_rule 112 = .ok (.istore_n 3, 1) := by decide +kernel
theorem dX8_rule_113 : decode cX8_rule 113 = .ok (.aload_n 0, 1) := by decide +kernel
theorem dX8_rule_114 : decode cX8_rule 114 = .ok (.getfield 40, 3) := by decide +kernel
theorem dX8_rule_117 : decode cX8_rule 117 = .ok (.iconst 0, 1) := by decide +kernel
theorem dX8_rule_118 : decode cX8_rule 118 = .ok (.iaload, 1) := by decide +kernel
theorem dX8_rule_119 : decode cX8_rule 119 = .ok (.istore 4, 2) := by decide +kernel
theorem dX8_rule_121 : decode cX8_rule 121 = .ok (.iinc 6 10, 3) := by decide +kernel
theorem dX8_rule_124 : decode cX8_rule 124 = .ok (.goto (-94), 3) := by decide +kernel
theorem dX8_rule_127 : decode cX8_rule 127 = .ok (.iinc 5 1, 3) := by decide +kernel
theorem dX8_rule_130 : decode cX8_rule 130 = .ok (.goto (-110), 3) := by decide +kernel
theorem dX8_rule_133 : decode cX8_rule 133 = .ok (.iload_n 3, 1) := by decide +kernel
theorem dX8_rule_134 : decode cX8_rule 134 = .ok (.ireturn, 1) := by decide +kernel
theorem dX8_half_0 : decode cX8_half 0 = .ok (.iload_n 2, 1) := by decide +kernel
theorem dX8_half_1 : decode cX8_half 1 = .ok (.i2l, 1) := by decide +kernel
theorem dX8_half_2 : decode cX8_half 2 = .ok (.lconst 0, 1) := by decide +kernel
theorem dX8_half_3 : decode cX8_half 3 = .ok (.ldc2_w 390, 3) := by decide +kernel
theorem dX8_half_6 : decode cX8_half 6 = .ok (.invokestatic 68, 3) := by decide +kernel
theorem dX8_half_9 : decode cX8_half 9 = .ok (.ifCond .ne 6, 3) := by decide +kernel
theorem dX8_half_12 : decode cX8_half 12 = .ok (.bipush (-2), 2) := by decide +kernel
theorem dX8_half_14 : decode cX8_half 14 = .ok (.ireturn, 1) := by decide +kernel
theorem dX8_half_15 : decode cX8_half 15 = .ok (.aload_n 0, 1) := by decide +kernel
theorem dX8_half_16 : decode cX8_half 16 = .ok (.iload_n 1, 1) := by decide +kernel
theorem dX8_half_17 : decode cX8_half 17 = .ok (.invokevirtual 296, 3) := by decide +kernel
theorem dX8_half_20 : decode cX8_half 20 = .ok (.istore_n 3, 1) := by decide +kernel
theorem dX8_half_21 : decode cX8_half 21 = .ok (.iload_n 3, 1) := by decide +kernel
theorem dX8_half_22 : decode cX8_half 22 = .ok (.ifCond .ge 5, 3) := by decide +kernel
theorem dX8_half_25 : decode cX8_half 25 = .ok (.iload_n 3, 1) := by decide +kernel
theorem dX8_half_26 : decode cX8_half 26 = .ok (.ireturn, 1) := by decide +kernel
theorem dX8_half_27 : decode cX8_half 27 = .ok (.iconst 0, 1) := by decide +kernel
theorem dX8_half_28 : decode cX8_half 28 = .ok (.istore 4, 2) := by decide +kernel
theorem dX8_half_30 : decode cX8_half 30 = .ok (.iload 4, 2) := by decide +kernel
theorem dX8_half_32 : decode cX8_half 32 = .ok (.bipush 10, 2) := by decide +kernel
theorem dX8_half_34 : decode cX8_half 34 = .ok (.if_icmp .ge 37, 3) := by decide +kernel
theorem dX8_half_37 : decode cX8_half 37 = .ok (.aload_n 0, 1) := by decide +kernel
theorem dX8_half_38 : decode cX8_half 38 = .ok (.iload_n 1, 1) := by decide +kernel
theorem dX8_half_39 : decode cX8_half 39 = .ok (.iconst 5, 1) := by decide +kernel
theorem dX8_half_40 : decode cX8_half 40 = .ok (.iload 4, 2) := by decide +kernel
theorem dX8_half_42 : decode cX8_half 42 = .ok (.invokevirtual 384, 3) := by decide +kernel
theorem dX8_half_45 : decode cX8_half 45 = .ok (.aload_n 0, 1) := by decide +kernel
theorem dX8_half_46 : decode cX8_half 46 = .ok (.getfield 40, 3) := by decide +kernel
theorem dX8_half_49 : decode cX8_half 49 = .ok (.iconst 1, 1) := by decide +kernel
theorem dX8_half_50 : decode cX8_half 50 = .ok (.iaload, 1) := by decide +kernel
theorem dX8_half_51 : decode cX8_half 51 = .ok (.aload_n 0, 1) := by decide +kernel
theorem dX8_half_52 : decode cX8_half 52 = .ok (.getfield 40, 3) := by decide +kernel
theorem dX8_half_55 : decode cX8_half 55 = .ok (.iconst 2, 1) := by decide +kernel
theorem dX8_half_56 : decode cX8_half 56 = .ok (.iaload, 1) := by decide +kernel
theorem dX8_half_57 : decode cX8_half 57 = .ok (.iadd, 1) := by decide +kernel
theorem dX8_half_58 : decode cX8_half 58 = .ok (.iload_n 2, 1) := by decide +kernel
theorem dX8_half_59 : decode cX8_half 59 = .ok (.if_icmp .gt 6, 3) := by decide +kernel
theorem dX8_half_62 : decode cX8_half 62 = .ok (.iload 4, 2) := by decide +kernel
theorem dX8_half_64 : decode cX8_half 64 = .ok (.ireturn, 1) := by decide +kernel
theorem dX8_half_65 : decode cX8_half 65 = .ok (.iinc 4 1, 3) := by decide +kernel
theorem dX8_half_68 : decode cX8_half 68 = .ok (.goto (-38), 3) := by decide +kernel
theorem dX8_half_71 : decode cX8_half 71 = .ok (.iconst (-1), 1) := by decide +kernel
theorem dX8_half_72 : decode cX8_half 72 = .ok (.ireturn, 1) := by decide +kernel
theorem dX8_wear_0 : decode cX8_wear 0 = .ok (.aload_n 0, 1) := by decide +kernel
theorem dX8_wear_1 : decode cX8_wear 1 = .ok (.iload_n 1, 1) := by decide +kernel
theorem dX8_wear_2 : decode cX8_wear 2 = .ok (.invokevirtual 296, 3) := by decide +kernel
theorem dX8_wear_5 : decode cX8_wear 5 = .ok (.istore_n 2, 1) := by decide +kernel
theorem dX8_wear_6 : decode cX8_wear 6 = .ok (.iload_n 2, 1) := by decide +kernel
theorem dX8_wear_7 : decode cX8_wear 7 = .ok (.ifCond .ge 5, 3) := by decide +kernel
theorem dX8_wear_10 : decode cX8_wear 10 = .ok (.iload_n 2, 1) := by decide +kernel
theorem dX8_wear_11 : decode cX8_wear 11 = .ok (.ireturn, 1) := by decide +kernel
theorem dX8_wear_12 : decode cX8_wear 12 = .ok (.aload_n 0, 1) := by decide +kernel
theorem dX8_wear_13 : decode cX8_wear 13 = .ok (.invokevirtual 370, 3) := by decide +kernel
theorem dX8_wear_16 : decode cX8_wear 16 = .ok (.iconst 0, 1) := by decide +kernel
theorem dX8_wear_17 : decode cX8_wear 17 = .ok (.istore_n 3, 1) := by decide +kernel
theorem dX8_wear_18 : decode cX8_wear 18 = .ok (.iconst 0, 1) := by decide +kernel
theorem dX8_wear_19 : decode cX8_wear 19 = .ok (.istore 4, 2) := by decide +kernel
theorem dX8_wear_21 : decode cX8_wear 21 = .ok (.iload 4, 2) := by decide +kernel
theorem dX8_wear_23 : decode cX8_wear 23 = .ok (.aload_n 0, 1) := by decide +kernel
theorem dX8_wear_24 : decode cX8_wear 24 = .ok (.getfield 49, 3) := by decide +kernel
theorem dX8_wear_27 : decode cX8_wear 27 = .ok (.iload_n 1, 1) := by decide +kernel
theorem dX8_wear_28 : decode cX8_wear 28 = .ok (.iaload, 1) := by decide +kernel
theorem dX8_wear_29 : decode cX8_wear 29 = .ok (.if_icmp .ge 56, 3) := by decide +kernel
theorem dX8_wear_32 : decode cX8_wear 32 = .ok (.aload_n 0, 1) := by decide +kernel
theorem dX8_wear_33 : decode cX8_wear 33 = .ok (.getfield 13, 3) := by decide +kernel
theorem dX8_wear_36 : decode cX8_wear 36 = .ok (.bipush 15, 2) := by decide +kernel
theorem dX8_wear_38 : decode cX8_wear 38 = .ok (.iaload, 1) := by decide +kernel
theorem dX8_wear_39 : decode cX8_wear 39 = .ok (.istore 5, 2) := by decide +kernel
theorem dX8_wear_41 : decode cX8_wear 41 = .ok (.aload_n 0, 1) := by decide +kernel
theorem dX8_wear_42 : decode cX8_wear 42 = .ok (.aload_n 0, 1) := by decide +kernel
theorem dX8_wear_43 : decode cX8_wear 43 = .ok (.iload_n 1, 1) := by decide +kernel
theorem dX8_wear_44 : decode cX8_wear 44 = .ok (.iload 4, 2) := by decide +kernel
theorem dX8_wear_46 : decode cX8_wear 46 = .ok (.invokevirtual 293, 3) := by decide +kernel
theorem dX8_wear_49 : decode cX8_wear 49 = .ok (.invokevirtual 285, 3) := by decide +kernel
theorem dX8_wear_52 : decode cX8_wear 52 = .ok (.istore 6, 2) := by decide +kernel
theorem dX8_wear_54 : decode cX8_wear 54 = .ok (.iload_n 3, 1) := by decide +kernel
theorem dX8_wear_55 : decode cX8_wear 55 = .ok (.iload 6, 2) := by decide +kernel
theorem dX8_wear_57 : decode cX8_wear 57 = .ok (.ifCond .ge 7, 3) := by decide +kernel
theorem dX8_wear_60 : decode cX8_wear 60 = .ok (.iconst 0, 1) := by decide +kernel
theorem dX8_wear_61 : decode cX8_wear 61 = .ok (.goto 16, 3) := by decide +kernel
theorem dX8_wear_64 : decode cX8_wear 64 = .ok (.aload_n 0, 1) := by decide +kernel
theorem dX8_wear_65 : decode cX8_wear 65 = .ok (.getfield 13, 3) := by decide +kernel
theorem dX8_wear_68 : decode cX8_wear 68 = .ok (.bipush 15, 2) := by decide +kernel
theorem dX8_wear_70 : decode cX8_wear 70 = .ok (.iaload, 1) := by decide +kernel
theorem dX8_wear_71 : decode cX8_wear 71 = .ok (.iload 5, 2) := by decide +kernel
theorem dX8_wear_73 : decode cX8_wear 73 = .ok (.isub, 1) := by decide +kernel
theorem dX8_wear_74 : decode cX8_wear 74 = .ok (.invokestatic 223, 3) := by decide +kernel
theorem dX8_wear_77 : decode cX8_wear 77 = .ok (.iadd, 1) := by decide +kernel
theorem dX8_wear_78 : decode cX8_wear 78 = .ok (.istore_n 3, 1) := by decide +kernel
theorem dX8_wear_79 : decode cX8_wear 79 = .ok (.iinc 4 1, 3) := by decide +kernel
theorem dX8_wear_82 : decode cX8_wear 82 = .ok (.goto (-61), 3) := by decide +kernel
theorem dX8_wear_85 : decode cX8_wear 85 = .ok (.aload_n 0, 1) := by decide +kernel
theorem dX8_wear_86 : decode cX8_wear 86 = .ok (.invokevirtual 376, 3) := by decide +kernel
theorem dX8_wear_89 : decode cX8_wear 89 = .ok (.iload_n 3, 1) := by decide +kernel
theorem dX8_wear_90 : decode cX8_wear 90 = .ok (.ireturn, 1) := by decide +kernel
theorem dX8_idle_0 : decode cX8_idle 0 = .ok (.aload_n 0, 1) := by decide +kernel
theorem dX8_idle_1 : decode cX8_idle 1 = .ok (.iload_n 1, 1) := by decide +kernel
theorem dX8_idle_2 : decode cX8_idle 2 = .ok (.invokevirtual 296, 3) := by decide +kernel
theorem dX8_idle_5 : decode cX8_idle 5 = .ok (.istore_n 2, 1) := by decide +kernel
theorem dX8_idle_6 : decode cX8_idle 6 = .ok (.iload_n 2, 1) := by decide +kernel
theorem dX8_idle_7 : decode cX8_idle 7 = .ok (.ifCond .ge 5, 3) := by decide +kernel
theorem dX8_idle_10 : decode cX8_idle 10 = .ok (.iload_n 2, 1) := by decide +kernel
theorem dX8_idle_11 : decode cX8_idle 11 = .ok (.ireturn, 1) := by decide +kernel
theorem dX8_idle_12 : decode cX8_idle 12 = .ok (.aload_n 0, 1) := by decide +kernel
theorem dX8_idle_13 : decode cX8_idle 13 = .ok (.invokevirtual 370, 3) := by decide +kernel
theorem dX8_idle_16 : decode cX8_idle 16 = .ok (.iconst 0, 1) := by decide +kernel
theorem dX8_idle_17 : decode cX8_idle 17 = .ok (.istore_n 3, 1) := by decide +kernel
theorem dX8_idle_18 : decode cX8_idle 18 = .ok (.iconst 0, 1) := by decide +kernel
theorem dX8_idle_19 : decode cX8_idle 19 = .ok (.istore 4, 2) := by decide +kernel
theorem dX8_idle_21 : decode cX8_idle 21 = .ok (.iload 4, 2) := by decide +kernel
theorem dX8_idle_23 : decode cX8_idle 23 = .ok (.aload_n 0, 1) := by decide +kernel
theorem dX8_idle_24 : decode cX8_idle 24 = .ok (.getfield 49, 3) := by decide +kernel
theorem dX8_idle_27 : decode cX8_idle 27 = .ok (.iload_n 1, 1) := by decide +kernel
theorem dX8_idle_28 : decode cX8_idle 28 = .ok (.iaload, 1) := by decide +kernel
theorem dX8_idle_29 : decode cX8_idle 29 = .ok (.if_icmp .ge 41, 3) := by decide +kernel
theorem dX8_idle_32 : decode cX8_idle 32 = .ok (.iload_n 3, 1) := by decide +kernel
theorem dX8_idle_33 : decode cX8_idle 33 = .ok (.aload_n 0, 1) := by decide +kernel
theorem dX8_idle_34 : decode cX8_idle 34 = .ok (.aload_n 0, 1) := by decide +kernel
theorem dX8_idle_35 : decode cX8_idle 35 = .ok (.iload_n 1, 1) := by decide +kernel
theorem dX8_idle_36 : decode cX8_idle 36 = .ok (.iload 4, 2) := by decide +kernel
theorem dX8_idle_38 : decode cX8_idle 38 = .ok (.invokevirtual 293, 3) := by decide +kernel
theorem dX8_idle_41 : decode cX8_idle 41 = .ok (.invokevirtual 285, 3) := by decide +kernel
theorem dX8_idle_44 : decode cX8_idle 44 = .ok (.ifCond .lt 17, 3) := by decide +kernel
theorem dX8_idle_47 : decode cX8_idle 47 = .ok (.aload_n 0, 1) := by decide +kernel
theorem dX8_idle_48 : decode cX8_idle 48 = .ok (.getfield 13, 3) := by decide +kernel
theorem dX8_idle_51 : decode cX8_idle 51 = .ok (.bipush 15, 2) := by decide +kernel
theorem dX8_idle_53 : decode cX8_idle 53 = .ok (.iaload, 1) := by decide +kernel
theorem dX8_idle_54 : decode cX8_idle 54 = .ok (.ifCond .ne 7, 3) := by decide +kernel
theorem dX8_idle_57 : decode cX8_idle 57 = .ok (.iconst 1, 1) := by decide +kernel
theorem dX8_idle_58 : decode cX8_idle 58 = .ok (.goto 4, 3) := by decide +kernel
theorem dX8_idle_61 : decode cX8_idle 61 = .ok (.iconst 0, 1) := by decide +kernel
theorem dX8_idle_62 : decode cX8_idle 62 = .ok (.iadd, 1) := by decide +kernel
theorem dX8_idle_63 : decode cX8_idle 63 = .ok (.istore_n 3, 1) := by decide +kernel
theorem dX8_idle_64 : decode cX8_idle 64 = .ok (.iinc 4 1, 3) := by decide +kernel
theorem dX8_idle_67 : decode cX8_idle 67 = .ok (.goto (-46), 3) := by decide +kernel
theorem dX8_idle_70 : decode cX8_idle 70 = .ok (.aload_n 0, 1) := by decide +kernel
theorem dX8_idle_71 : decode cX8_idle 71 = .ok (.invokevirtual 376, 3) := by decide +kernel
theorem dX8_idle_74 : decode cX8_idle 74 = .ok (.iload_n 3, 1) := by decide +kernel
theorem dX8_idle_75 : decode cX8_idle 75 = .ok (.ireturn, 1) := by decide +kernel
theorem dX8_first_0 : decode cX8_first 0 = .ok (.aload_n 0, 1) := by decide +kernel
theorem dX8_first_1 : decode cX8_first 1 = .ok (.iload_n 2, 1) := by decide +kernel
theorem dX8_first_2 : decode cX8_first 2 = .ok (.invokevirtual 302, 3) := by decide +kernel
theorem dX8_first_5 : decode cX8_first 5 = .ok (.ifCond .ne 6, 3) := by decide +kernel
theorem dX8_first_8 : decode cX8_first 8 = .ok (.bipush (-2), 2) := by decide +kernel
theorem dX8_first_10 : decode cX8_first 10 = .ok (.ireturn, 1) := by decide +kernel
theorem dX8_first_11 : decode cX8_first 11 = .ok (.aload_n 0, 1) := by decide +kernel
theorem dX8_first_12 : decode cX8_first 12 = .ok (.iload_n 1, 1) := by decide +kernel
theorem dX8_first_13 : decode cX8_first 13 = .ok (.invokevirtual 296, 3) := by decide +kernel
theorem dX8_first_16 : decode cX8_first 16 = .ok (.istore_n 3, 1) := by decide +kernel
theorem dX8_first_17 : decode cX8_first 17 = .ok (.iload_n 3, 1) := by decide +kernel
theorem dX8_first_18 : decode cX8_first 18 = .ok (.ifCond .ge 5, 3) := by decide +kernel
theorem dX8_first_21 : decode cX8_first 21 = .ok (.iload_n 3, 1) := by decide +kernel
theorem dX8_first_22 : decode cX8_first 22 = .ok (.ireturn, 1) := by decide +kernel
theorem dX8_first_23 : decode cX8_first 23 = .ok (.aload_n 0, 1) := by decide +kernel
theorem dX8_first_24 : decode cX8_first 24 = .ok (.invokevirtual 370, 3) := by decide +kernel
theorem dX8_first_27 : decode cX8_first 27 = .ok (.aload_n 0, 1) := by decide +kernel
theorem dX8_first_28 : decode cX8_first 28 = .ok (.iload_n 2, 1) := by decide +kernel
theorem dX8_first_29 : decode cX8_first 29 = .ok (.invokevirtual 307, 3) := by decide +kernel
theorem dX8_first_32 : decode cX8_first 32 = .ok (.istore 4, 2) := by decide +kernel
theorem dX8_first_34 : decode cX8_first 34 = .ok (.iconst (-1), 1) := by decide +kernel
theorem dX8_first_35 : decode cX8_first 35 = .ok (.istore 5, 2) := by decide +kernel
theorem dX8_first_37 : decode cX8_first 37 = .ok (.iconst 0, 1) := by decide +kernel
theorem dX8_first_38 : decode cX8_first 38 = .ok (.istore 6, 2) := by decide +kernel
theorem dX8_first_40 : decode cX8_first 40 = .ok (.iload 6, 2) := by decide +kernel
theorem dX8_first_42 : decode cX8_first 42 = .ok (.aload_n 0, 1) := by decide +kernel
theorem dX8_first_43 : decode cX8_first 43 = .ok (.getfield 49, 3) := by decide +kernel
theorem dX8_first_46 : decode cX8_first 46 = .ok (.iload_n 1, 1) := by decide +kernel
theorem dX8_first_47 : decode cX8_first 47 = .ok (.iaload, 1) := by decide +kernel
theorem dX8_first_48 : decode cX8_first 48 = .ok (.if_icmp .ge 49, 3) := by decide +kernel
theorem dX8_first_51 : decode cX8_first 51 = .ok (.iload 5, 2) := by decide +kernel
theorem dX8_first_53 : decode cX8_first 53 = .ok (.iconst (-1), 1) := by decide +kernel
theorem dX8_first_54 : decode cX8_first 54 = .ok (.if_icmp .ne 43, 3) := by decide +kernel
theorem dX8_first_57 : decode cX8_first 57 = .ok (.aload_n 0, 1) := by decide +kernel
theorem dX8_first_58 : decode cX8_first 58 = .ok (.aload_n 0, 1) := by decide +kernel
theorem dX8_first_59 : decode cX8_first 59 = .ok (.iload_n 1, 1) := by decide +kernel
theorem dX8_first_60 : decode cX8_first 60 = .ok (.iload 6, 2) := by decide +kernel
theorem dX8_first_62 : decode cX8_first 62 = .ok (.invokevirtual 293, 3) := by decide +kernel
theorem dX8_first_65 : decode cX8_first 65 = .ok (.invokevirtual 285, 3) := by decide +kernel
theorem dX8_first_68 : decode cX8_first 68 = .ok (.ifCond .lt 20, 3) := by decide +kernel
theorem dX8_first_71 : decode cX8_first 71 = .ok (.aload_n 0, 1) := by decide +kernel
theorem dX8_first_72 : decode cX8_first 72 = .ok (.iload_n 2, 1) := by decide +kernel
theorem dX8_first_73 : decode cX8_first 73 = .ok (.invokevirtual 307, 3) := by decide +kernel
theorem dX8_first_76 : decode cX8_first 76 = .ok (.iload 4, 2) := by decide +kernel
theorem dX8_first_78 : decode cX8_first 78 = .ok (.if_icmp .le 10, 3) := by decide +kernel
theorem dX8_first_81 : decode cX8_first 81 = .ok (.iload 6, 2) := by decide +kernel
theorem dX8_first_83 : decode cX8_first 83 = .ok (.iconst 1, 1) := by decide +kernel
theorem dX8_first_84 : decode cX8_first 84 = .ok (.iadd, 1) := by decide +kernel
theorem dX8_first_85 : decode cX8_first 85 = .ok (.goto 4, 3) := by decide +kernel
theorem dX8_first_88 : decode cX8_first 88 = .ok (.iconst (-1), 1) := by decide +kernel
theorem dX8_first_89 : decode cX8_first 89 = .ok (.istore 5, 2) := by decide +kernel
theorem dX8_first_91 : decode cX8_first 91 = .ok (.iinc 6 1, 3) := by decide +kernel
theorem dX8_first_94 : decode cX8_first 94 = .ok (.goto (-54), 3) := by decide +kernel
theorem dX8_first_97 : decode cX8_first 97 = .ok (.aload_n 0, 1) := by decide +kernel
theorem dX8_first_98 : decode cX8_first 98 = .ok (.invokevirtual 376, 3) := by decide +kernel
theorem dX8_first_101 : decode cX8_first 101 = .ok (.iload 5, 2) := by decide +kernel
theorem dX8_first_103 : decode cX8_first 103 = .ok (.ireturn, 1) := by decide +kernel
theorem dX8_best_0 : decode cX8_best 0 = .ok (.aload_n 0, 1) := by decide +kernel
theorem dX8_best_1 : decode cX8_best 1 = .ok (.iload_n 1, 1) := by decide +kernel
theorem dX8_best_2 : decode cX8_best 2 = .ok (.invokevirtual 296, 3) := by decide +kernel
theorem dX8_best_5 : decode cX8_best 5 = .ok (.istore_n 2, 1) := by decide +kernel
theorem dX8_best_6 : decode cX8_best 6 = .ok (.iload_n 2, 1) := by decide +kernel
theorem dX8_best_7 : decode cX8_best 7 = .ok (.ifCond .ge 5, 3) := by decide +kernel
theorem dX8_best_10 : decode cX8_best 10 = .ok (.iload_n 2, 1) := by decide +kernel
theorem dX8_best_11 : decode cX8_best 11 = .ok (.ireturn, 1) := by decide +kernel
theorem dX8_best_12 : decode cX8_best 12 = .ok (.iconst 0, 1) := by decide +kernel
theorem dX8_best_13 : decode cX8_best 13 = .ok (.istore_n 3, 1) := by decide +kernel
theorem dX8_best_14 : decode cX8_best 14 = .ok (.iconst 0, 1) := by decide +kernel
theorem dX8_best_15 : decode cX8_best 15 = .ok (.istore 4, 2) := by decide +kernel
theorem dX8_best_17 : decode cX8_best 17 = .ok (.iconst 0, 1) := by decide +kernel
theorem dX8_best_18 : decode cX8_best 18 = .ok (.istore 5, 2) := by decide +kernel
theorem dX8_best_20 : decode cX8_best 20 = .ok (.iload 5, 2) := by decide +kernel
theorem dX8_best_22 : decode cX8_best 22 = .ok (.bipush 20, 2) := by decide +kernel
theorem dX8_best_24 : decode cX8_best 24 = .ok (.if_icmp .gt 62, 3) := by decide +kernel
theorem dX8_best_27 : decode cX8_best 27 = .ok (.aload_n 0, 1) := by decide +kernel
theorem dX8_best_28 : decode cX8_best 28 = .ok (.iload_n 1, 1) := by decide +kernel
theorem dX8_best_29 : decode cX8_best 29 = .ok (.bipush 8, 2) := by decide +kernel
theorem dX8_best_31 : decode cX8_best 31 = .ok (.iload 5, 2) := by decide +kernel
theorem dX8_best_33 : decode cX8_best 33 = .ok (.invokevirtual 384, 3) := by decide +kernel
theorem dX8_best_36 : decode cX8_best 36 = .ok (.iload 5, 2) := by decide +kernel
theorem dX8_best_38 : decode cX8_best 38 = .ok (.ifCond .le 24, 3) := by decide +kernel
theorem dX8_best_41 : decode cX8_best 41 = .ok (.aload_n 0, 1) := by decide +kernel
theorem dX8_best_42 : decode cX8_best 42 = .ok (.getfield 40, 3) := by decide +kernel
theorem dX8_best_45 : decode cX8_best 45 = .ok (.iconst 0, 1) := by decide +kernel
theorem dX8_best_46 : decode cX8_best 46 = .ok (.iaload, 1) := by decide +kernel
theorem dX8_best_47 : decode cX8_best 47 = .ok (.aload_n 0, 1) := by decide +kernel
theorem dX8_best_48 : decode cX8_best 48 = .ok (.getfield 40, 3) := by decide +kernel
theorem dX8_best_51 : decode cX8_best 51 = .ok (.iconst 4, 1) := by decide +kernel
theorem dX8_best_52 : decode cX8_best 52 = .ok (.iaload, 1) := by decide +kernel
theorem dX8_best_53 : decode cX8_best 53 = .ok (.isub, 1) := by decide +kernel
theorem dX8_best_54 : decode cX8_best 54 = .ok (.iload 4, 2) := by decide +kernel
theorem dX8_best_56 : decode cX8_best 56 = .ok (.if_icmp .gt 6, 3) := by decide +kernel
theorem dX8_best_59 : decode cX8_best 59 = .ok (.goto 21, 3) := by decide +kernel
theorem dX8_best_62 : decode cX8_best 62 = .ok (.iload 5, 2) := by decide +kernel
theorem dX8_best_64 : decode cX8_best 64 = .ok (.istore_n 3, 1) := by decide +kernel
theorem dX8_best_65 : decode cX8_best 65 = .ok (.aload_n 0, 1) := by decide +kernel
theorem dX8_best_66 : decode cX8_best 66 = .ok (.getfield 40, 3) := by decide +kernel
theorem dX8_best_69 : decode cX8_best 69 = .ok (.iconst 0, 1) := by decide +kernel
theorem dX8_best_70 : decode cX8_best 70 = .ok (.iaload, 1) := by decide +kernel
theorem dX8_best_71 : decode cX8_best 71 = .ok (.aload_n 0, 1) := by decide +kernel
theorem dX8_best_72 : decode cX8_best 72 = .ok (.getfield 40, 3) := by decide +kernel
theorem dX8_best_75 : decode cX8_best 75 = .ok (.iconst 4, 1) := by decide +kernel
theorem dX8_best_76 : decode cX8_best 76 = .ok (.iaload, 1) := by decide +kernel
theorem dX8_best_77 : decode cX8_best 77 = .ok (.isub, 1) := by decide +kernel
theorem dX8_best_78 : decode cX8_best 78 = .ok (.istore 4, 2) := by decide +kernel
theorem dX8_best_80 : decode cX8_best 80 = .ok (.iinc 5 1, 3) := by decide +kernel
theorem dX8_best_83 : decode cX8_best 83 = .ok (.goto (-63), 3) := by decide +kernel
theorem dX8_best_86 : decode cX8_best 86 = .ok (.iload_n 3, 1) := by decide +kernel
theorem dX8_best_87 : decode cX8_best 87 = .ok (.ireturn, 1) := by decide +kernel
theorem dX8_stand_0 : decode cX8_stand 0 = .ok (.iload_n 2, 1) := by decide +kernel
theorem dX8_stand_1 : decode cX8_stand 1 = .ok (.i2l, 1) := by decide +kernel
theorem dX8_stand_2 : decode cX8_stand 2 = .ok (.lconst 0, 1) := by decide +kernel
theorem dX8_stand_3 : decode cX8_stand 3 = .ok (.ldc2_w 305, 3) := by decide +kernel
theorem dX8_stand_6 : decode cX8_stand 6 = .ok (.invokestatic 68, 3) := by decide +kernel
theorem dX8_stand_9 : decode cX8_stand 9 = .ok (.ifCond .ne 6, 3) := by decide +kernel
theorem dX8_stand_12 : decode cX8_stand 12 = .ok (.bipush (-2), 2) := by decide +kernel
theorem dX8_stand_14 : decode cX8_stand 14 = .ok (.ireturn, 1) := by decide +kernel
theorem dX8_stand_15 : decode cX8_stand 15 = .ok (.aload_n 0, 1) := by decide +kernel
theorem dX8_stand_16 : decode cX8_stand 16 = .ok (.iload_n 1, 1) := by decide +kernel
theorem dX8_stand_17 : decode cX8_stand 17 = .ok (.invokevirtual 296, 3) := by decide +kernel
theorem dX8_stand_20 : decode cX8_stand 20 = .ok (.istore_n 3, 1) := by decide +kernel
theorem dX8_stand_21 : decode cX8_stand 21 = .ok (.iload_n 3, 1) := by decide +kernel
theorem dX8_stand_22 : decode cX8_stand 22 = .ok (.ifCond .ge 5, 3) := by decide +kernel
theorem dX8_stand_25 : decode cX8_stand 25 = .ok (.iload_n 3, 1) := by decide +kernel
theorem dX8_stand_26 : decode cX8_stand 26 = .ok (.ireturn, 1) := by decide +kernel
theorem dX8_stand_27 : decode cX8_stand 27 = .ok (.iconst (-1), 1) := by decide +kernel
theorem dX8_stand_28 : decode cX8_stand 28 = .ok (.istore 4, 2) := by decide +kernel
theorem dX8_stand_30 : decode cX8_stand 30 = .ok (.iconst 0, 1) := by decide +kernel
theorem dX8_stand_31 : decode cX8_stand 31 = .ok (.istore 5, 2) := by decide +kernel
theorem dX8_stand_33 : decode cX8_stand 33 = .ok (.aload_n 0, 1) := by decide +kernel
theorem dX8_stand_34 : decode cX8_stand 34 = .ok (.getfield 13, 3) := by decide +kernel
theorem dX8_stand_37 : decode cX8_stand 37 = .ok (.iconst 3, 1) := by decide +kernel
theorem dX8_stand_38 : decode cX8_stand 38 = .ok (.iaload, 1) := by decide +kernel
theorem dX8_stand_39 : decode cX8_stand 39 = .ok (.istore 6, 2) := by decide +kernel
theorem dX8_stand_41 : decode cX8_stand 41 = .ok (.aload_n 0, 1) := by decide +kernel
theorem dX8_stand_42 : decode cX8_stand 42 = .ok (.getfield 13, 3) := by decide +kernel
theorem dX8_stand_45 : decode cX8_stand 45 = .ok (.iconst 4, 1) := by decide +kernel
theorem dX8_stand_46 : decode cX8_stand 46 = .ok (.iaload, 1) := by decide +kernel
theorem dX8_stand_47 : decode cX8_stand 47 = .ok (.istore 7, 2) := by decide +kernel
theorem dX8_stand_49 : decode cX8_stand 49 = .ok (.iload 7, 2) := by decide +kernel
theorem dX8_stand_51 : decode cX8_stand 51 = .ok (.iload_n 2, 1) := by decide +kernel
theorem dX8_stand_52 : decode cX8_stand 52 = .ok (.isub, 1) := by decide +kernel
theorem dX8_stand_53 : decode cX8_stand 53 = .ok (.istore 8, 2) := by decide +kernel
theorem dX8_stand_55 : decode cX8_stand 55 = .ok (.iload 8, 2) := by decide +kernel
theorem dX8_stand_57 : decode cX8_stand 57 = .ok (.iload 7, 2) := by decide +kernel
theorem dX8_stand_59 : decode cX8_stand 59 = .ok (.iload_n 2, 1) := by decide +kernel
theorem dX8_stand_60 : decode cX8_stand 60 = .ok (.iadd, 1) := by decide +kernel
theorem dX8_stand_61 : decode cX8_stand 61 = .ok (.if_icmp .gt 111, 3) := by decide +kernel
theorem dX8_stand_64 : decode cX8_stand 64 = .ok (.iload 6, 2) := by decide +kernel
theorem dX8_stand_66 : decode cX8_stand 66 = .ok (.iload_n 2, 1) := by decide +kernel
theorem dX8_stand_67 : decode cX8_stand 67 = .ok (.isub, 1) := by decide +kernel
theorem dX8_stand_68 : decode cX8_stand 68 = .ok (.istore 9, 2) := by decide +kernel
theorem dX8_stand_70 : decode cX8_stand 70 = .ok (.iload 9, 2) := by decide +kernel
theorem dX8_stand_72 : decode cX8_stand 72 = .ok (.iload 6, 2) := by decide +kernel
theorem dX8_stand_74 : decode cX8_stand 74 = .ok (.iload_n 2, 1) := by decide +kernel
theorem dX8_stand_75 : decode cX8_stand 75 = .ok (.iadd, 1) := by decide +kernel
theorem dX8_stand_76 : decode cX8_stand 76 = .ok (.if_icmp .gt 90, 3) := by decide +kernel
theorem dX8_stand_79 : decode cX8_stand 79 = .ok (.aload_n 0, 1) := by decide +kernel
theorem dX8_stand_80 : decode cX8_stand 80 = .ok (.iload 9, 2) := by decide +kernel
theorem dX8_stand_82 : decode cX8_stand 82 = .ok (.iload 8, 2) := by decide +kernel
theorem dX8_stand_84 : decode cX8_stand 84 = .ok (.invokevirtual 248, 3) := by decide +kernel
theorem dX8_stand_87 : decode cX8_stand 87 = .ok (.ifCond .ne 6, 3) := by decide +kernel
theorem dX8_stand_90 : decode cX8_stand 90 = .ok (.goto 70, 3) := by decide +kernel
theorem dX8_stand_93 : decode cX8_stand 93 = .ok (.aload_n 0, 1) := by decide +kernel
theorem dX8_stand_94 : decode cX8_stand 94 = .ok (.invokevirtual 370, 3) := by decide +kernel
theorem dX8_stand_97 : decode cX8_stand 97 = .ok (.aload_n 0, 1) := by decide +kernel
theorem dX8_stand_98 : decode cX8_stand 98 = .ok (.getfield 13, 3) := by decide +kernel
theorem dX8_stand_101 : decode cX8_stand 101 = .ok (.iconst 3, 1) := by decide +kernel
theorem dX8_stand_102 : decode cX8_stand 102 = .ok (.iload 9, 2) := by decide +kernel
theorem dX8_stand_104 : decode cX8_stand 104 = .ok (.iastore, 1) := by decide +kernel
theorem dX8_stand_105 : decode cX8_stand 105 = .ok (.aload_n 0, 1) := by decide +kernel
theorem dX8_stand_106 : decode cX8_stand 106 = .ok (.getfield 13, 3) := by decide +kernel
theorem dX8_stand_109 : decode cX8_stand 109 = .ok (.iconst 4, 1) := by decide +kernel
theorem dX8_stand_110 : decode cX8_stand 110 = .ok (.iload 8, 2) := by decide +kernel
theorem dX8_stand_112 : decode cX8_stand 112 = .ok (.iastore, 1) := by decide +kernel
theorem dX8_stand_113 : decode cX8_stand 113 = .ok (.aload_n 0, 1) := by decide +kernel
theorem dX8_stand_114 : decode cX8_stand 114 = .ok (.iload_n 1, 1) := by decide +kernel
theorem dX8_stand_115 : decode cX8_stand 115 = .ok (.invokevirtual 373, 3) := by decide +kernel
theorem dX8_stand_118 : decode cX8_stand 118 = .ok (.aload_n 0, 1) := by decide +kernel
theorem dX8_stand_119 : decode cX8_stand 119 = .ok (.invokevirtual 376, 3) := by decide +kernel
theorem dX8_stand_122 : decode cX8_stand 122 = .ok (.iload 4, 2) := by decide +kernel
theorem dX8_stand_124 : decode cX8_stand 124 = .ok (.iconst (-1), 1) := by decide +kernel
theorem dX8_stand_125 : decode cX8_stand 125 = .ok (.if_icmp .eq 17, 3) := by decide +kernel
theorem dX8_stand_128 : decode cX8_stand 128 = .ok (.aload_n 0, 1) := by decide +kernel
theorem dX8_stand_129 : decode cX8_stand 129 = .ok (.getfield 40, 3) := by decide +kernel
theorem dX8_stand_132 : decode cX8_stand 132 = .ok (.iconst 4, 1) := by decide +kernel
theorem dX8_stand_133 : decode cX8_stand 133 = .ok (.iaload, 1) := by decide +kernel
theorem dX8_stand_134 : decode cX8_stand 134 = .ok (.iload 5, 2) := by decide +kernel
theorem dX8_stand_136 : decode cX8_stand 136 = .ok (.if_icmp .lt 6, 3) := by decide +kernel
theorem dX8_stand_139 : decode cX8_stand 139 = .ok (.goto 21, 3) := by decide +kernel
theorem dX8_stand_142 : decode cX8_stand 142 = .ok (.iload 9, 2) := by decide +kernel
theorem dX8_stand_144 : decode cX8_stand 144 = .ok (.bipush 100, 2) := by decide +kernel
theorem dX8_stand_146 : decode cX8_stand 146 = .ok (.iload 8, 2) := by decide +kernel
theorem dX8_stand_148 : decode cX8_stand 148 = .ok (.imul, 1) := by decide +kernel
theorem dX8_stand_149 : decode cX8_stand 149 = .ok (.iadd, 1) := by decide +kernel
theorem dX8_stand_150 : decode cX8_stand 150 = .ok (.istore 4, 2) := by decide +kernel
theorem dX8_stand_152 : decode cX8_stand 152 = .ok (.aload_n 0, 1) := by decide +kernel
theorem dX8_stand_153 : decode cX8_stand 153 = .ok (.getfield 40, 3) := by decide +kernel
theorem dX8_stand_156 : decode cX8_stand 156 = .ok (.iconst 4, 1) := by decide +kernel
theorem dX8_stand_157 : decode cX8_stand 157 = .ok (.iaload, 1) := by decide +kernel
theorem dX8_stand_158 : decode cX8_stand 158 = .ok (.istore 5, 2) := by decide +kernel
theorem dX8_stand_160 : decode cX8_stand 160 = .ok (.iinc 9 1, 3) := by decide +kernel
theorem dX8_stand_163 : decode cX8_stand 163 = .ok (.goto (-93), 3) := by decide +kernel
theorem dX8_stand_166 : decode cX8_stand 166 = .ok (.iinc 8 1, 3) := by decide +kernel
theorem dX8_stand_169 : decode cX8_stand 169 = .ok (.goto (-114), 3) := by decide +kernel
theorem dX8_stand_172 : decode cX8_stand 172 = .ok (.iload 4, 2) := by decide +kernel
theorem dX8_stand_174 : decode cX8_stand 174 = .ok (.ireturn, 1) := by decide +kernel
theorem dX8_tall_0 : decode cX8_tall 0 = .ok (.iload_n 2, 1) := by decide +kernel
theorem dX8_tall_1 : decode cX8_tall 1 = .ok (.i2l, 1) := by decide +kernel
theorem dX8_tall_2 : decode cX8_tall 2 = .ok (.lconst 0, 1) := by decide +kernel
theorem dX8_tall_3 : decode cX8_tall 3 = .ok (.ldc2_w 390, 3) := by decide +kernel
theorem dX8_tall_6 : decode cX8_tall 6 = .ok (.invokestatic 68, 3) := by decide +kernel
theorem dX8_tall_9 : decode cX8_tall 9 = .ok (.ifCond .ne 6, 3) := by decide +kernel
theorem dX8_tall_12 : decode cX8_tall 12 = .ok (.bipush (-2), 2) := by decide +kernel
theorem dX8_tall_14 : decode cX8_tall 14 = .ok (.ireturn, 1) := by decide +kernel
theorem dX8_tall_15 : decode cX8_tall 15 = .ok (.aload_n 0, 1) := by decide +kernel
theorem dX8_tall_16 : decode cX8_tall 16 = .ok (.iload_n 1, 1) := by decide +kernel
theorem dX8_tall_17 : decode cX8_tall 17 = .ok (.invokevirtual 296, 3) := by decide +kernel
theorem dX8_tall_20 : decode cX8_tall 20 = .ok (.istore_n 3, 1) := by decide +kernel
theorem dX8_tall_21 : decode cX8_tall 21 = .ok (.iload_n 3, 1) := by decide +kernel
theorem dX8_tall_22 : decode cX8_tall 22 = .ok (.ifCond .ge 5, 3) := by decide +kernel
theorem dX8_tall_25 : decode cX8_tall 25 = .ok (.iload_n 3, 1) := by decide +kernel
theorem dX8_tall_26 : decode cX8_tall 26 = .ok (.ireturn, 1) := by decide +kernel
theorem dX8_tall_27 : decode cX8_tall 27 = .ok (.iconst (-1), 1) := by decide +kernel
theorem dX8_tall_28 : decode cX8_tall 28 = .ok (.istore 4, 2) := by decide +kernel
theorem dX8_tall_30 : decode cX8_tall 30 = .ok (.iconst 0, 1) := by decide +kernel
theorem dX8_tall_31 : decode cX8_tall 31 = .ok (.istore 5, 2) := by decide +kernel
theorem dX8_tall_33 : decode cX8_tall 33 = .ok (.iconst 0, 1) := by decide +kernel
theorem dX8_tall_34 : decode cX8_tall 34 = .ok (.istore 6, 2) := by decide +kernel
theorem dX8_tall_36 : decode cX8_tall 36 = .ok (.iload 6, 2) := by decide +kernel
theorem dX8_tall_38 : decode cX8_tall 38 = .ok (.bipush 60, 2) := by decide +kernel
theorem dX8_tall_40 : decode cX8_tall 40 = .ok (.if_icmp .gt 67, 3) := by decide +kernel
theorem dX8_tall_43 : decode cX8_tall 43 = .ok (.aload_n 0, 1) := by decide +kernel
theorem dX8_tall_44 : decode cX8_tall 44 = .ok (.iload_n 1, 1) := by decide +kernel
theorem dX8_tall_45 : decode cX8_tall 45 = .ok (.bipush 6, 2) := by decide +kernel
theorem dX8_tall_47 : decode cX8_tall 47 = .ok (.iload 6, 2) := by decide +kernel
theorem dX8_tall_49 : decode cX8_tall 49 = .ok (.invokevirtual 384, 3) := by decide +kernel
theorem dX8_tall_52 : decode cX8_tall 52 = .ok (.aload_n 0, 1) := by decide +kernel
theorem dX8_tall_53 : decode cX8_tall 53 = .ok (.getfield 40, 3) := by decide +kernel
theorem dX8_tall_56 : decode cX8_tall 56 = .ok (.iconst 1, 1) := by decide +kernel
theorem dX8_tall_57 : decode cX8_tall 57 = .ok (.iaload, 1) := by decide +kernel
theorem dX8_tall_58 : decode cX8_tall 58 = .ok (.aload_n 0, 1) := by decide +kernel
theorem dX8_tall_59 : decode cX8_tall 59 = .ok (.getfield 40, 3) := by decide +kernel
theorem dX8_tall_62 : decode cX8_tall 62 = .ok (.iconst 2, 1) := by decide +kernel
theorem dX8_tall_63 : decode cX8_tall 63 = .ok (.iaload, 1) := by decide +kernel
theorem dX8_tall_64 : decode cX8_tall 64 = .ok (.iadd, 1) := by decide +kernel
theorem dX8_tall_65 : decode cX8_tall 65 = .ok (.iload_n 2, 1) := by decide +kernel
theorem dX8_tall_66 : decode cX8_tall 66 = .ok (.if_icmp .gt 35, 3) := by decide +kernel
theorem dX8_tall_69 : decode cX8_tall 69 = .ok (.iload 4, 2) := by decide +kernel
theorem dX8_tall_71 : decode cX8_tall 71 = .ok (.iconst (-1), 1) := by decide +kernel
theorem dX8_tall_72 : decode cX8_tall 72 = .ok (.if_icmp .eq 17, 3) := by decide +kernel
theorem dX8_tall_75 : decode cX8_tall 75 = .ok (.aload_n 0, 1) := by decide +kernel
theorem dX8_tall_76 : decode cX8_tall 76 = .ok (.getfield 40, 3) := by decide +kernel
theorem dX8_tall_79 : decode cX8_tall 79 = .ok (.iconst 0, 1) := by decide +kernel
theorem dX8_tall_80 : decode cX8_tall 80 = .ok (.iaload, 1) := by decide +kernel
theorem dX8_tall_81 : decode cX8_tall 81 = .ok (.iload 5, 2) := by decide +kernel
theorem dX8_tall_83 : decode cX8_tall 83 = .ok (.if_icmp .gt 6, 3) := by decide +kernel
theorem dX8_tall_86 : decode cX8_tall 86 = .ok (.goto 15, 3) := by decide +kernel
theorem dX8_tall_89 : decode cX8_tall 89 = .ok (.iload 6, 2) := by decide +kernel
theorem dX8_tall_91 : decode cX8_tall 91 = .ok (.istore 4, 2) := by decide +kernel
theorem dX8_tall_93 : decode cX8_tall 93 = .ok (.aload_n 0, 1) := by decide +kernel
theorem dX8_tall_94 : decode cX8_tall 94 = .ok (.getfield 40, 3) := by decide +kernel
theorem dX8_tall_97 : decode cX8_tall 97 = .ok (.iconst 0, 1) := by decide +kernel
theorem dX8_tall_98 : decode cX8_tall 98 = .ok (.iaload, 1) := by decide +kernel
theorem dX8_tall_99 : decode cX8_tall 99 = .ok (.istore 5, 2) := by decide +kernel
theorem dX8_tall_101 : decode cX8_tall 101 = .ok (.iinc 6 1, 3) := by decide +kernel
theorem dX8_tall_104 : decode cX8_tall 104 = .ok (.goto (-68), 3) := by decide +kernel
theorem dX8_tall_107 : decode cX8_tall 107 = .ok (.iload 4, 2) := by decide +kernel
theorem dX8_tall_109 : decode cX8_tall 109 = .ok (.ireturn, 1) := by decide +kernel
theorem dX8_pays_0 : decode cX8_pays 0 = .ok (.iload_n 2, 1) := by decide +kernel
theorem dX8_pays_1 : decode cX8_pays 1 = .ok (.i2l, 1) := by decide +kernel
theorem dX8_pays_2 : decode cX8_pays 2 = .ok (.lconst 0, 1) := by decide +kernel
theorem dX8_pays_3 : decode cX8_pays 3 = .ok (.ldc2_w 349, 3) := by decide +kernel
theorem dX8_pays_6 : decode cX8_pays 6 = .ok (.invokestatic 68, 3) := by decide +kernel
theorem dX8_pays_9 : decode cX8_pays 9 = .ok (.ifCond .ne 6, 3) := by decide +kernel
theorem dX8_pays_12 : decode cX8_pays 12 = .ok (.bipush (-2), 2) := by decide +kernel
theorem dX8_pays_14 : decode cX8_pays 14 = .ok (.ireturn, 1) := by decide +kernel
theorem dX8_pays_15 : decode cX8_pays 15 = .ok (.aload_n 0, 1) := by decide +kernel
theorem dX8_pays_16 : decode cX8_pays 16 = .ok (.iload_n 1, 1) := by decide +kernel
theorem dX8_pays_17 : decode cX8_pays 17 = .ok (.invokevirtual 296, 3) := by decide +kernel
theorem dX8_pays_20 : decode cX8_pays 20 = .ok (.istore_n 3, 1) := by decide +kernel
theorem dX8_pays_21 : decode cX8_pays 21 = .ok (.iload_n 3, 1) := by decide +kernel
theorem dX8_pays_22 : decode cX8_pays 22 = .ok (.ifCond .ge 5, 3) := by decide +kernel
theorem dX8_pays_25 : decode cX8_pays 25 = .ok (.iload_n 3, 1) := by decide +kernel
theorem dX8_pays_26 : decode cX8_pays 26 = .ok (.ireturn, 1) := by decide +kernel
theorem dX8_pays_27 : decode cX8_pays 27 = .ok (.iconst (-1), 1) := by decide +kernel
theorem dX8_pays_28 : decode cX8_pays 28 = .ok (.istore 4, 2) := by decide +kernel
theorem dX8_pays_30 : decode cX8_pays 30 = .ok (.iconst 0, 1) := by decide +kernel
theorem dX8_pays_31 : decode cX8_pays 31 = .ok (.istore 5, 2) := by decide +kernel
theorem dX8_pays_33 : decode cX8_pays 33 = .ok (.iconst 0, 1) := by decide +kernel
theorem dX8_pays_34 : decode cX8_pays 34 = .ok (.istore 6, 2) := by decide +kernel
theorem dX8_pays_36 : decode cX8_pays 36 = .ok (.iload 6, 2) := by decide +kernel
theorem dX8_pays_38 : decode cX8_pays 38 = .ok (.bipush 60, 2) := by decide +kernel
theorem dX8_pays_40 : decode cX8_pays 40 = .ok (.if_icmp .gt 59, 3) := by decide +kernel
theorem dX8_pays_43 : decode cX8_pays 43 = .ok (.aload_n 0, 1) := by decide +kernel
theorem dX8_pays_44 : decode cX8_pays 44 = .ok (.iload_n 1, 1) := by decide +kernel
theorem dX8_pays_45 : decode cX8_pays 45 = .ok (.bipush 6, 2) := by decide +kernel
theorem dX8_pays_47 : decode cX8_pays 47 = .ok (.iload 6, 2) := by decide +kernel
theorem dX8_pays_49 : decode cX8_pays 49 = .ok (.invokevirtual 384, 3) := by decide +kernel
theorem dX8_pays_52 : decode cX8_pays 52 = .ok (.aload_n 0, 1) := by decide +kernel
theorem dX8_pays_53 : decode cX8_pays 53 = .ok (.getfield 40, 3) := by decide +kernel
theorem dX8_pays_56 : decode cX8_pays 56 = .ok (.iconst 0, 1) := by decide +kernel
theorem dX8_pays_57 : decode cX8_pays 57 = .ok (.iaload, 1) := by decide +kernel
theorem dX8_pays_58 : decode cX8_pays 58 = .ok (.iload_n 2, 1) := by decide +kernel
theorem dX8_pays_59 : decode cX8_pays 59 = .ok (.aload_n 0, 1) := by decide +kernel
theorem dX8_pays_60 : decode cX8_pays 60 = .ok (.getfield 40, 3) := by decide +kernel
theorem dX8_pays_63 : decode cX8_pays 63 = .ok (.iconst 1, 1) := by decide +kernel
theorem dX8_pays_64 : decode cX8_pays 64 = .ok (.iaload, 1) := by decide +kernel
theorem dX8_pays_65 : decode cX8_pays 65 = .ok (.imul, 1) := by decide +kernel
theorem dX8_pays_66 : decode cX8_pays 66 = .ok (.isub, 1) := by decide +kernel
theorem dX8_pays_67 : decode cX8_pays 67 = .ok (.istore 7, 2) := by decide +kernel
theorem dX8_pays_69 : decode cX8_pays 69 = .ok (.iload 4, 2) := by decide +kernel
theorem dX8_pays_71 : decode cX8_pays 71 = .ok (.iconst (-1), 1) := by decide +kernel
theorem dX8_pays_72 : decode cX8_pays 72 = .ok (.if_icmp .eq 13, 3) := by decide +kernel
theorem dX8_pays_75 : decode cX8_pays 75 = .ok (.iload 7, 2) := by decide +kernel
theorem dX8_pays_77 : decode cX8_pays 77 = .ok (.iload 5, 2) := by decide +kernel
theorem dX8_pays_79 : decode cX8_pays 79 = .ok (.if_icmp .gt 6, 3) := by decide +kernel
theorem dX8_pays_82 : decode cX8_pays 82 = .ok (.goto 11, 3) := by decide +kernel
theorem dX8_pays_85 : decode cX8_pays 85 = .ok (.iload 6, 2) := by decide +kernel
theorem dX8_pays_87 : decode cX8_pays 87 = .ok (.istore 4, 2) := by decide +kernel
theorem dX8_pays_89 : decode cX8_pays 89 = .ok (.iload 7, 2) := by decide +kernel
theorem dX8_pays_91 : decode cX8_pays 91 = .ok (.istore 5, 2) := by decide +kernel
theorem dX8_pays_93 : decode cX8_pays 93 = .ok (.iinc 6 1, 3) := by decide +kernel
theorem dX8_pays_96 : decode cX8_pays 96 = .ok (.goto (-60), 3) := by decide +kernel
theorem dX8_pays_99 : decode cX8_pays 99 = .ok (.iload 4, 2) := by decide +kernel
theorem dX8_pays_101 : decode cX8_pays 101 = .ok (.ireturn, 1) := by decide +kernel
theorem dX8_dry_0 : decode cX8_dry 0 = .ok (.aload_n 0, 1) := by decide +kernel
theorem dX8_dry_1 : decode cX8_dry 1 = .ok (.iload_n 1, 1) := by decide +kernel
theorem dX8_dry_2 : decode cX8_dry 2 = .ok (.invokevirtual 296, 3) := by decide +kernel
theorem dX8_dry_5 : decode cX8_dry 5 = .ok (.istore_n 2, 1) := by decide +kernel
theorem dX8_dry_6 : decode cX8_dry 6 = .ok (.iload_n 2, 1) := by decide +kernel
theorem dX8_dry_7 : decode cX8_dry 7 = .ok (.ifCond .ge 5, 3) := by decide +kernel
theorem dX8_dry_10 : decode cX8_dry 10 = .ok (.iload_n 2, 1) := by decide +kernel
theorem dX8_dry_11 : decode cX8_dry 11 = .ok (.ireturn, 1) := by decide +kernel
theorem dX8_dry_12 : decode cX8_dry 12 = .ok (.aload_n 0, 1) := by decide +kernel
theorem dX8_dry_13 : decode cX8_dry 13 = .ok (.invokevirtual 370, 3) := by decide +kernel
theorem dX8_dry_16 : decode cX8_dry 16 = .ok (.aload_n 0, 1) := by decide +kernel
theorem dX8_dry_17 : decode cX8_dry 17 = .ok (.iload_n 1, 1) := by decide +kernel
theorem dX8_dry_18 : decode cX8_dry 18 = .ok (.invokevirtual 373, 3) := by decide +kernel
theorem dX8_dry_21 : decode cX8_dry 21 = .ok (.iconst 0, 1) := by decide +kernel
theorem dX8_dry_22 : decode cX8_dry 22 = .ok (.istore_n 3, 1) := by decide +kernel
theorem dX8_dry_23 : decode cX8_dry 23 = .ok (.iconst 0, 1) := by decide +kernel
theorem dX8_dry_24 : decode cX8_dry 24 = .ok (.istore 4, 2) := by decide +kernel
theorem dX8_dry_26 : decode cX8_dry 26 = .ok (.iload 4, 2) := by decide +kernel
theorem dX8_dry_28 : decode cX8_dry 28 = .ok (.aload_n 0, 1) := by decide +kernel
theorem dX8_dry_29 : decode cX8_dry 29 = .ok (.getfield 13, 3) := by decide +kernel
theorem dX8_dry_32 : decode cX8_dry 32 = .ok (.bipush 11, 2) := by decide +kernel
theorem dX8_dry_34 : decode cX8_dry 34 = .ok (.iaload, 1) := by decide +kernel
theorem dX8_dry_35 : decode cX8_dry 35 = .ok (.if_icmp .ge 56, 3) := by decide +kernel
theorem dX8_dry_38 : decode cX8_dry 38 = .ok (.iload_n 3, 1) := by decide +kernel
theorem dX8_dry_39 : decode cX8_dry 39 = .ok (.aload_n 0, 1) := by decide +kernel
theorem dX8_dry_40 : decode cX8_dry 40 = .ok (.iload 4, 2) := by decide +kernel
theorem dX8_dry_42 : decode cX8_dry 42 = .ok (.invokevirtual 307, 3) := by decide +kernel
theorem dX8_dry_45 : decode cX8_dry 45 = .ok (.aload_n 0, 1) := by decide +kernel
theorem dX8_dry_46 : decode cX8_dry 46 = .ok (.getfield 37, 3) := by decide +kernel
theorem dX8_dry_49 : decode cX8_dry 49 = .ok (.sipush 519, 3) := by decide +kernel
theorem dX8_dry_52 : decode cX8_dry 52 = .ok (.bipush 30, 2) := by decide +kernel
theorem dX8_dry_54 : decode cX8_dry 54 = .ok (.aload_n 0, 1) := by decide +kernel
theorem dX8_dry_55 : decode cX8_dry 55 = .ok (.iload 4, 2) := by decide +kernel
theorem dX8_dry_57 : decode cX8_dry 57 = .ok (.iconst 1, 1) := by decide +kernel
theorem dX8_dry_58 : decode cX8_dry 58 = .ok (.invokevirtual 72, 3) := by decide +kernel
theorem dX8_dry_61 : decode cX8_dry 61 = .ok (.imul, 1) := by decide +kernel
theorem dX8_dry_62 : decode cX8_dry 62 = .ok (.iadd, 1) := by decide +kernel
theorem dX8_dry_63 : decode cX8_dry 63 = .ok (.aload_n 0, 1) := by decide +kernel
theorem dX8_dry_64 : decode cX8_dry 64 = .ok (.iload 4, 2) := by decide +kernel
theorem dX8_dry_66 : decode cX8_dry 66 = .ok (.iconst 0, 1) := by decide +kernel
theorem dX8_dry_67 : decode cX8_dry 67 = .ok (.invokevirtual 72, 3) := by decide +kernel
theorem dX8_dry_70 : decode cX8_dry 70 = .ok (.iadd, 1) := by decide +kernel
theorem dX8_dry_71 : decode cX8_dry 71 = .ok (.iaload, 1) := by decide +kernel
theorem dX8_dry_72 : decode cX8_dry 72 = .ok (.if_icmp .gt 10, 3) := by decide +kernel
theorem dX8_dry_75 : decode cX8_dry 75 = .ok (.iconst 1, 1) := by decide +kernel
theorem dX8_dry_76 : decode cX8_dry 76 = .ok (.iload 4, 2) := by decide +kernel
theorem dX8_dry_78 : decode cX8_dry 78 = .ok (.ishl, 1) := by decide +kernel
theorem dX8_dry_79 : decode cX8_dry 79 = .ok (.goto 4, 3) := by decide +kernel
theorem dX8_dry_82 : decode cX8_dry 82 = .ok (.iconst 0, 1) := by decide +kernel
theorem dX8_dry_83 : decode cX8_dry 83 = .ok (.ior, 1) := by decide +kernel
theorem dX8_dry_84 : decode cX8_dry 84 = .ok (.istore_n 3, 1) := by decide +kernel
theorem dX8_dry_85 : decode cX8_dry 85 = .ok (.iinc 4 1, 3) := by decide +kernel
theorem dX8_dry_88 : decode cX8_dry 88 = .ok (.goto (-62), 3) := by decide +kernel
theorem dX8_dry_91 : decode cX8_dry 91 = .ok (.aload_n 0, 1) := by decide +kernel
theorem dX8_dry_92 : decode cX8_dry 92 = .ok (.invokevirtual 376, 3) := by decide +kernel
theorem dX8_dry_95 : decode cX8_dry 95 = .ok (.iload_n 3, 1) := by decide +kernel
theorem dX8_dry_96 : decode cX8_dry 96 = .ok (.ireturn, 1) := by decide +kernel
theorem dX8_week_0 : decode cX8_week 0 = .ok (.aload_n 0, 1) := by decide +kernel
theorem dX8_week_1 : decode cX8_week 1 = .ok (.iload_n 1, 1) := by decide +kernel
theorem dX8_week_2 : decode cX8_week 2 = .ok (.iload_n 3, 1) := by decide +kernel
theorem dX8_week_3 : decode cX8_week 3 = .ok (.invokevirtual 381, 3) := by decide +kernel
theorem dX8_week_6 : decode cX8_week 6 = .ok (.ifCond .eq 15, 3) := by decide +kernel
theorem dX8_week_9 : decode cX8_week 9 = .ok (.iload_n 2, 1) := by decide +kernel
theorem dX8_week_10 : decode cX8_week 10 = .ok (.i2l, 1) := by decide +kernel
theorem dX8_week_11 : decode cX8_week 11 = .ok (.lconst 1, 1) := by decide +kernel
theorem dX8_week_12 : decode cX8_week 12 = .ok (.ldc2_w 392, 3) := by decide +kernel
theorem dX8_week_15 : decode cX8_week 15 = .ok (.invokestatic 68, 3) := by decide +kernel
theorem dX8_week_18 : decode cX8_week 18 = .ok (.ifCond .ne 7, 3) := by decide +kernel
theorem dX8_week_21 : decode cX8_week 21 = .ok (.ldc_w 369, 3) := by decide +kernel
theorem dX8_week_24 : decode cX8_week 24 = .ok (.ireturn, 1) := by decide +kernel
theorem dX8_week_25 : decode cX8_week 25 = .ok (.aload_n 0, 1) := by decide +kernel
theorem dX8_week_26 : decode cX8_week 26 = .ok (.iload_n 1, 1) := by decide +kernel
theorem dX8_week_27 : decode cX8_week 27 = .ok (.bipush 24, 2) := by decide +kernel
theorem dX8_week_29 : decode cX8_week 29 = .ok (.iload_n 2, 1) := by decide +kernel
theorem dX8_week_30 : decode cX8_week 30 = .ok (.invokevirtual 384, 3) := by decide +kernel
theorem dX8_week_33 : decode cX8_week 33 = .ok (.aload_n 0, 1) := by decide +kernel
theorem dX8_week_34 : decode cX8_week 34 = .ok (.getfield 40, 3) := by decide +kernel
theorem dX8_week_37 : decode cX8_week 37 = .ok (.iload_n 3, 1) := by decide +kernel
theorem dX8_week_38 : decode cX8_week 38 = .ok (.iaload, 1) := by decide +kernel
theorem dX8_week_39 : decode cX8_week 39 = .ok (.ireturn, 1) := by decide +kernel
theorem dX8_throughOf_0 : decode cX8_throughOf 0 = .ok (.aload_n 0, 1) := by decide +kernel
theorem dX8_throughOf_1 : decode cX8_throughOf 1 = .ok (.iload_n 1, 1) := by decide +kernel
theorem dX8_throughOf_2 : decode cX8_throughOf 2 = .ok (.iload_n 2, 1) := by decide +kernel
theorem dX8_throughOf_3 : decode cX8_throughOf 3 = .ok (.invokevirtual 248, 3) := by decide +kernel
theorem dX8_throughOf_6 : decode cX8_throughOf 6 = .ok (.ifCond .eq 26, 3) := by decide +kernel
theorem dX8_throughOf_9 : decode cX8_throughOf 9 = .ok (.aload_n 0, 1) := by decide +kernel
theorem dX8_throughOf_10 : decode cX8_throughOf 10 = .ok (.iload_n 1, 1) := by decide +kernel
theorem dX8_throughOf_11 : decode cX8_throughOf 11 = .ok (.iload_n 2, 1) := by decide +kernel
theorem dX8_throughOf_12 : decode cX8_throughOf 12 = .ok (.invokevirtual 232, 3) := by decide +kernel
theorem dX8_throughOf_15 : decode cX8_throughOf 15 = .ok (.ifCond .ne 17, 3) := by decide +kernel
theorem dX8_throughOf_18 : decode cX8_throughOf 18 = .ok (.aload_n 0, 1) := by decide +kernel
theorem dX8_throughOf_19 : decode cX8_throughOf 19 = .ok (.getfield 43, 3) := by decide +kernel
theorem dX8_throughOf_22 : decode cX8_throughOf 22 = .ok (.bipush 30, 2) := by decide +kernel
theorem dX8_throughOf_24 : decode cX8_throughOf 24 = .ok (.iload_n 2, 1) := by decide +kernel
theorem dX8_throughOf_25 : decode cX8_throughOf 25 = .ok (.imul, 1) := by decide +kernel
theorem dX8_throughOf_26 : decode cX8_throughOf 26 = .ok (.iload_n 1, 1) := by decide +kernel
theorem dX8_throughOf_27 : decode cX8_throughOf 27 = .ok (.iadd, 1) := by decide +kernel
theorem dX8_throughOf_28 : decode cX8_throughOf 28 = .ok (.iaload, 1) := by decide +kernel
theorem dX8_throughOf_29 : decode cX8_throughOf 29 = .ok (.goto 6, 3) := by decide +kernel
theorem dX8_throughOf_32 : decode cX8_throughOf 32 = .ok (.ldc_w 394, 3) := by decide +kernel
theorem dX8_throughOf_35 : decode cX8_throughOf 35 = .ok (.ireturn, 1) := by decide +kernel
theorem dX8_spreads_0 : decode cX8_spreads 0 = .ok (.iconst 0, 1) := by decide +kernel
theorem dX8_spreads_1 : decode cX8_spreads 1 = .ok (.istore_n 1, 1) := by decide +kernel
theorem dX8_spreads_2 : decode cX8_spreads 2 = .ok (.iconst 0, 1) := by decide +kernel
theorem dX8_spreads_3 : decode cX8_spreads 3 = .ok (.istore_n 2, 1) := by decide +kernel
theorem dX8_spreads_4 : decode cX8_spreads 4 = .ok (.iload_n 2, 1) := by decide +kernel
theorem dX8_spreads_5 : decode cX8_spreads 5 = .ok (.aload_n 0, 1) := by decide +kernel
theorem dX8_spreads_6 : decode cX8_spreads 6 = .ok (.getfield 13, 3) := by decide +kernel
theorem dX8_spreads_9 : decode cX8_spreads 9 = .ok (.iconst 2, 1) := by decide +kernel
theorem dX8_spreads_10 : decode cX8_spreads 10 = .ok (.iaload, 1) := by decide +kernel
theorem dX8_spreads_11 : decode cX8_spreads 11 = .ok (.if_icmp .ge 123, 3) := by decide +kernel
theorem dX8_spreads_14 : decode cX8_spreads 14 = .ok (.iconst 0, 1) := by decide +kernel
theorem dX8_spreads_15 : decode cX8_spreads 15 = .ok (.istore_n 3, 1) := by decide +kernel
theorem dX8_spreads_16 : decode cX8_spreads 16 = .ok (.iload_n 3, 1) := by decide +kernel
theorem dX8_spreads_17 : decode cX8_spreads 17 = .ok (.aload_n 0, 1) := by decide +kernel
theorem dX8_spreads_18 : decode cX8_spreads 18 = .ok (.getfield 13, 3) := by decide +kernel
theorem dX8_spreads_21 : decode cX8_spreads 21 = .ok (.iconst 1, 1) := by decide +kernel
theorem dX8_spreads_22 : decode cX8_spreads 22 = .ok (.iaload, 1) := by decide +kernel
theorem dX8_spreads_23 : decode cX8_spreads 23 = .ok (.if_icmp .ge 105, 3) := by decide +kernel
theorem dX8_spreads_26 : decode cX8_spreads 26 = .ok (.aload_n 0, 1) := by decide +kernel
theorem dX8_spreads_27 : decode cX8_spreads 27 = .ok (.iload_n 3, 1) := by decide +kernel
theorem dX8_spreads_28 : decode cX8_spreads 28 = .ok (.iload_n 2, 1) := by decide +kernel
theorem dX8_spreads_29 : decode cX8_spreads 29 = .ok (.invokevirtual 232, 3) := by decide +kernel
theorem dX8_spreads_32 : decode cX8_spreads 32 = .ok (.ifCond .eq 6, 3) := by decide +kernel
theorem dX8_spreads_35 : decode cX8_spreads 35 = .ok (.goto 87, 3) := by decide +kernel
theorem dX8_spreads_38 : decode cX8_spreads 38 = .ok (.aload_n 0, 1) := by decide +kernel
theorem dX8_spreads_39 : decode cX8_spreads 39 = .ok (.iload_n 3, 1) := by decide +kernel
theorem dX8_spreads_40 : decode cX8_spreads 40 = .ok (.iconst 1, 1) := by decide +kernel
theorem dX8_spreads_41 : decode cX8_spreads 41 = .ok (.isub, 1) := by decide +kernel
theorem dX8_spreads_42 : decode cX8_spreads 42 = .ok (.iload_n 2, 1) := by decide +kernel
theorem dX8_spreads_43 : decode cX8_spreads 43 = .ok (.invokevirtual 395, 3) := by decide +kernel
theorem dX8_spreads_46 : decode cX8_spreads 46 = .ok (.aload_n 0, 1) := by decide +kernel
theorem dX8_spreads_47 : decode cX8_spreads 47 = .ok (.iload_n 3, 1) := by decide +kernel
theorem dX8_spreads_48 : decode cX8_spreads 48 = .ok (.iconst 1, 1) := by decide +kernel
theorem dX8_spreads_49 : decode cX8_spreads 49 = .ok (.iadd, 1) := by decide +kernel
theorem dX8_spreads_50 : decode cX8_spreads 50 = .ok (.iload_n 2, 1) := by decide +kernel
theorem dX8_spreads_51 : decode cX8_spreads 51 = .ok (.invokevirtual 395, 3) := by decide +kernel
theorem dX8_spreads_54 : decode cX8_spreads 54 = .ok (.invokestatic 110, 3) := by decide +kernel
theorem dX8_spreads_57 : decode cX8_spreads 57 = .ok (.aload_n 0, 1) := by decide +kernel
theorem dX8_spreads_58 : decode cX8_spreads 58 = .ok (.iload_n 3, 1) := by decide +kernel
theorem dX8_spreads_59 : decode cX8_spreads 59 = .ok (.iload_n 2, 1) := by decide +kernel
theorem dX8_spreads_60 : decode cX8_spreads 60 = .ok (.iconst 1, 1) := by decide +kernel
theorem dX8_spreads_61 : decode cX8_spreads 61 = .ok (.isub, 1) := by decide +kernel
theorem dX8_spreads_62 : decode cX8_spreads 62 = .ok (.invokevirtual 395, 3) := by decide +kernel
theorem dX8_spreads_65 : decode cX8_spreads 65 = .ok (.aload_n 0, 1) := by decide +kernel
theorem dX8_spreads_66 : decode cX8_spreads 66 = .ok (.iload_n 3, 1) := by decide +kernel
theorem dX8_spreads_67 : decode cX8_spreads 67 = .ok (.iload_n 2, 1) := by decide +kernel
theorem dX8_spreads_68 : decode cX8_spreads 68 = .ok (.iconst 1, 1) := by decide +kernel
theorem dX8_spreads_69 : decode cX8_spreads 69 = .ok (.iadd, 1) := by decide +kernel
theorem dX8_spreads_70 : decode cX8_spreads 70 = .ok (.invokevirtual 395, 3) := by decide +kernel
theorem dX8_spreads_73 : decode cX8_spreads 73 = .ok (.invokestatic 110, 3) := by decide +kernel
theorem dX8_spreads_76 : decode cX8_spreads 76 = .ok (.invokestatic 110, 3) := by decide +kernel
theorem dX8_spreads_79 : decode cX8_spreads 79 = .ok (.aload_n 0, 1) := by decide +kernel
theorem dX8_spreads_80 : decode cX8_spreads 80 = .ok (.iload_n 3, 1) := by decide +kernel
theorem dX8_spreads_81 : decode cX8_spreads 81 = .ok (.iload_n 2, 1) := by decide +kernel
theorem dX8_spreads_82 : decode cX8_spreads 82 = .ok (.invokevirtual 76, 3) := by decide +kernel
theorem dX8_spreads_85 : decode cX8_spreads 85 = .ok (.iadd, 1) := by decide +kernel
theorem dX8_spreads_86 : decode cX8_spreads 86 = .ok (.istore 4, 2) := by decide +kernel
theorem dX8_spreads_88 : decode cX8_spreads 88 = .ok (.iload 4, 2) := by decide +kernel
theorem dX8_spreads_90 : decode cX8_spreads 90 = .ok (.aload_n 0, 1) := by decide +kernel
theorem dX8_spreads_91 : decode cX8_spreads 91 = .ok (.getfield 43, 3) := by decide +kernel
theorem dX8_spreads_94 : decode cX8_spreads 94 = .ok (.bipush 30, 2) := by decide +kernel
theorem dX8_spreads_96 : decode cX8_spreads 96 = .ok (.iload_n 2, 1) := by decide +kernel
theorem dX8_spreads_97 : decode cX8_spreads 97 = .ok (.imul, 1) := by decide +kernel
theorem dX8_spreads_98 : decode cX8_spreads 98 = .ok (.iload_n 3, 1) := by decide +kernel
theorem dX8_spreads_99 : decode cX8_spreads 99 = .ok (.iadd, 1) := by decide +kernel
theorem dX8_spreads_100 : decode cX8_spreads 100 = .ok (.iaload, 1) := by decide +kernel
theorem dX8_spreads_101 : decode cX8_spreads 101 = .ok (.if_icmp .lt 6, 3) := by decide +kernel
theorem dX8_spreads_104 : decode cX8_spreads 104 = .ok (.goto 18, 3) := by decide +kernel
theorem dX8_spreads_107 : decode cX8_spreads 107 = .ok (.aload_n 0, 1) := by decide +kernel
theorem dX8_spreads_108 : decode cX8_spreads 108 = .ok (.getfield 43, 3) := by decide +kernel
theorem dX8_spreads_111 : decode cX8_spreads 111 = .ok (.bipush 30, 2) := by decide +kernel
theorem dX8_spreads_113 : decode cX8_spreads 113 = .ok (.iload_n 2, 1) := by decide +kernel
theorem dX8_spreads_114 : decode cX8_spreads 114 = .ok (.imul, 1) := by decide +kernel
theorem dX8_spreads_115 : decode cX8_spreads 115 = .ok (.iload_n 3, 1) := by decide +kernel
theorem dX8_spreads_116 : decode cX8_spreads 116 = .ok (.iadd, 1) := by decide +kernel
theorem dX8_spreads_117 : decode cX8_spreads 117 = .ok (.iload 4, 2) := by decide +kernel
theorem dX8_spreads_119 : decode cX8_spreads 119 = .ok (.iastore, 1) := by decide +kernel
theorem dX8_spreads_120 : decode cX8_spreads 120 = .ok (.iconst 1, 1) := by decide +kernel
theorem dX8_spreads_121 : decode cX8_spreads 121 = .ok (.istore_n 1, 1) := by decide +kernel
theorem dX8_spreads_122 : decode cX8_spreads 122 = .ok (.iinc 3 1, 3) := by decide +kernel
theorem dX8_spreads_125 : decode cX8_spreads 125 = .ok (.goto (-109), 3) := by decide +kernel
theorem dX8_spreads_128 : decode cX8_spreads 128 = .ok (.iinc 2 1, 3) := by decide +kernel
theorem dX8_spreads_131 : decode cX8_spreads 131 = .ok (.goto (-127), 3) := by decide +kernel
theorem dX8_spreads_134 : decode cX8_spreads 134 = .ok (.iload_n 1, 1) := by decide +kernel
theorem dX8_spreads_135 : decode cX8_spreads 135 = .ok (.ireturn, 1) := by decide +kernel
theorem dX8_way_0 : decode cX8_way 0 = .ok (.aload_n 0, 1) := by decide +kernel
theorem dX8_way_1 : decode cX8_way 1 = .ok (.iload_n 1, 1) := by decide +kernel
theorem dX8_way_2 : decode cX8_way 2 = .ok (.iload_n 2, 1) := by decide +kernel
theorem dX8_way_3 : decode cX8_way 3 = .ok (.invokevirtual 248, 3) := by decide +kernel
theorem dX8_way_6 : decode cX8_way 6 = .ok (.ifCond .eq 13, 3) := by decide +kernel
theorem dX8_way_9 : decode cX8_way 9 = .ok (.aload_n 0, 1) := by decide +kernel
theorem dX8_way_10 : decode cX8_way 10 = .ok (.iload_n 3, 1) := by decide +kernel
theorem dX8_way_11 : decode cX8_way 11 = .ok (.iload 4, 2) := by decide +kernel
theorem dX8_way_13 : decode cX8_way 13 = .ok (.invokevirtual 248, 3) := by decide +kernel
theorem dX8_way_16 : decode cX8_way 16 = .ok (.ifCond .ne 6, 3) := by decide +kernel
theorem dX8_way_19 : decode cX8_way 19 = .ok (.bipush (-2), 2) := by decide +kernel
theorem dX8_way_21 : decode cX8_way 21 = .ok (.ireturn, 1) := by decide +kernel
theorem dX8_way_22 : decode cX8_way 22 = .ok (.aload_n 0, 1) := by decide +kernel
theorem dX8_way_23 : decode cX8_way 23 = .ok (.iload_n 1, 1) := by decide +kernel
theorem dX8_way_24 : decode cX8_way 24 = .ok (.iload_n 2, 1) := by decide +kernel
theorem dX8_way_25 : decode cX8_way 25 = .ok (.invokevirtual 232, 3) := by decide +kernel
theorem dX8_way_28 : decode cX8_way 28 = .ok (.ifCond .ne 13, 3) := by decide +kernel
theorem dX8_way_31 : decode cX8_way 31 = .ok (.aload_n 0, 1) := by decide +kernel
theorem dX8_way_32 : decode cX8_way 32 = .ok (.iload_n 3, 1) := by decide +kernel
theorem dX8_way_33 : decode cX8_way 33 = .ok (.iload 4, 2) := by decide +kernel
theorem dX8_way_35 : decode cX8_way 35 = .ok (.invokevirtual 232, 3) := by decide +kernel
theorem dX8_way_38 : decode cX8_way 38 = .ok (.ifCond .eq 5, 3) := by decide +kernel
theorem dX8_way_41 : decode cX8_way 41 = .ok (.iconst (-1), 1) := by decide +kernel
theorem dX8_way_42 : decode cX8_way 42 = .ok (.ireturn, 1) := by decide +kernel
theorem dX8_way_43 : decode cX8_way 43 = .ok (.iconst 0, 1) := by decide +kernel
theorem dX8_way_44 : decode cX8_way 44 = .ok (.istore 5, 2) := by decide +kernel
theorem dX8_way_46 : decode cX8_way 46 = .ok (.iload 5, 2) := by decide +kernel
theorem dX8_way_48 : decode cX8_way 48 = .ok (.sipush 900, 3) := by decide +kernel
theorem dX8_way_51 : decode cX8_way 51 = .ok (.if_icmp .ge 19, 3) := by decide +kernel
theorem dX8_way_54 : decode cX8_way 54 = .ok (.aload_n 0, 1) := by decide +kernel
theorem dX8_way_55 : decode cX8_way 55 = .ok (.getfield 43, 3) := by decide +kernel
theorem dX8_way_58 : decode cX8_way 58 = .ok (.iload 5, 2) := by decide +kernel
theorem dX8_way_60 : decode cX8_way 60 = .ok (.ldc_w 394, 3) := by decide +kernel
theorem dX8_way_63 : decode cX8_way 63 = .ok (.iastore, 1) := by decide +kernel
theorem dX8_way_64 : decode cX8_way 64 = .ok (.iinc 5 1, 3) := by decide +kernel
theorem dX8_way_67 : decode cX8_way 67 = .ok (.goto (-21), 3) := by decide +kernel
theorem dX8_way_70 : decode cX8_way 70 = .ok (.aload_n 0, 1) := by decide +kernel
theorem dX8_way_71 : decode cX8_way 71 = .ok (.getfield 43, 3) := by decide +kernel
theorem dX8_way_74 : decode cX8_way 74 = .ok (.bipush 30, 2) := by decide +kernel
theorem dX8_way_76 : decode cX8_way 76 = .ok (.iload_n 2, 1) := by decide +kernel
theorem dX8_way_77 : decode cX8_way 77 = .ok (.imul, 1) := by decide +kernel
theorem dX8_way_78 : decode cX8_way 78 = .ok (.iload_n 1, 1) := by decide +kernel
theorem dX8_way_79 : decode cX8_way 79 = .ok (.iadd, 1) := by decide +kernel
theorem dX8_way_80 : decode cX8_way 80 = .ok (.aload_n 0, 1) := by decide +kernel
theorem dX8_way_81 : decode cX8_way 81 = .ok (.iload_n 1, 1) := by decide +kernel
theorem dX8_way_82 : decode cX8_way 82 = .ok (.iload_n 2, 1) := by decide +kernel
theorem dX8_way_83 : decode cX8_way 83 = .ok (.invokevirtual 76, 3) := by decide +kernel
theorem dX8_way_86 : decode cX8_way 86 = .ok (.iastore, 1) := by decide +kernel
theorem dX8_way_87 : decode cX8_way 87 = .ok (.iconst 1, 1) := by decide +kernel
theorem dX8_way_88 : decode cX8_way 88 = .ok (.istore 5, 2) := by decide +kernel
theorem dX8_way_90 : decode cX8_way 90 = .ok (.iload 5, 2) := by decide +kernel
theorem dX8_way_92 : decode cX8_way 92 = .ok (.ifCond .eq 12, 3) := by decide +kernel
theorem dX8_way_95 : decode cX8_way 95 = .ok (.aload_n 0, 1) := by decide +kernel
theorem dX8_way_96 : decode cX8_way 96 = .ok (.invokevirtual 398, 3) := by decide +kernel
theorem dX8_way_99 : decode cX8_way 99 = .ok (.istore 5, 2) := by decide +kernel
theorem dX8_way_101 : decode cX8_way 101 = .ok (.goto (-11), 3) := by decide +kernel
theorem dX8_way_104 : decode cX8_way 104 = .ok (.aload_n 0, 1) := by decide +kernel
theorem dX8_way_105 : decode cX8_way 105 = .ok (.getfield 43, 3) := by decide +kernel
theorem dX8_way_108 : decode cX8_way 108 = .ok (.bipush 30, 2) := by decide +kernel
theorem dX8_way_110 : decode cX8_way 110 = .ok (.iload 4, 2) := by decide +kernel
theorem dX8_way_112 : decode cX8_way 112 = .ok (.imul, 1) := by decide +kernel
theorem dX8_way_113 : decode cX8_way 113 = .ok (.iload_n 3, 1) := by decide +kernel
theorem dX8_way_114 : decode cX8_way 114 = .ok (.iadd, 1) := by decide +kernel
theorem dX8_way_115 : decode cX8_way 115 = .ok (.iaload, 1) := by decide +kernel
theorem dX8_way_116 : decode cX8_way 116 = .ok (.ldc_w 394, 3) := by decide +kernel
theorem dX8_way_119 : decode cX8_way 119 = .ok (.if_icmp .lt 7, 3) := by decide +kernel
theorem dX8_way_122 : decode cX8_way 122 = .ok (.iconst (-1), 1) := by decide +kernel
theorem dX8_way_123 : decode cX8_way 123 = .ok (.goto 15, 3) := by decide +kernel
theorem dX8_way_126 : decode cX8_way 126 = .ok (.aload_n 0, 1) := by decide +kernel
theorem dX8_way_127 : decode cX8_way 127 = .ok (.getfield 43, 3) := by decide +kernel
theorem dX8_way_130 : decode cX8_way 130 = .ok (.bipush 30, 2) := by decide +kernel
theorem dX8_way_132 : decode cX8_way 132 = .ok (.iload 4, 2) := by decide +kernel
theorem dX8_way_134 : decode cX8_way 134 = .ok (.imul, 1) := by decide +kernel
theorem dX8_way_135 : decode cX8_way 135 = .ok (.iload_n 3, 1) := by decide +kernel
theorem dX8_way_136 : decode cX8_way 136 = .ok (.iadd, 1) := by decide +kernel
theorem dX8_way_137 : decode cX8_way 137 = .ok (.iaload, 1) := by decide +kernel
theorem dX8_way_138 : decode cX8_way 138 = .ok (.ireturn, 1) := by decide +kernel
theorem dX8_nozzle_0 : decode cX8_nozzle 0 = .ok (.aload_n 0, 1) := by decide +kernel
theorem dX8_nozzle_1 : decode cX8_nozzle 1 = .ok (.iload_n 1, 1) := by decide +kernel
theorem dX8_nozzle_2 : decode cX8_nozzle 2 = .ok (.invokevirtual 325, 3) := by decide +kernel
theorem dX8_nozzle_5 : decode cX8_nozzle 5 = .ok (.ifCond .eq 15, 3) := by decide +kernel
theorem dX8_nozzle_8 : decode cX8_nozzle 8 = .ok (.iload_n 2, 1) := by decide +kernel
theorem dX8_nozzle_9 : decode cX8_nozzle 9 = .ok (.i2l, 1) := by decide +kernel
theorem dX8_nozzle_10 : decode cX8_nozzle 10 = .ok (.lconst 0, 1) := by decide +kernel
theorem dX8_nozzle_11 : decode cX8_nozzle 11 = .ok (.ldc2_w 349, 3) := by decide +kernel
theorem dX8_nozzle_14 : decode cX8_nozzle 14 = .ok (.invokestatic 68, 3) := by decide +kernel
theorem dX8_nozzle_17 : decode cX8_nozzle 17 = .ok (.ifCond .ne 6, 3) := by decide +kernel
theorem dX8_nozzle_20 : decode cX8_nozzle 20 = .ok (.bipush (-2), 2) := by decide +kernel
theorem dX8_nozzle_22 : decode cX8_nozzle 22 = .ok (.ireturn, 1) := by decide +kernel
theorem dX8_nozzle_23 : decode cX8_nozzle 23 = .ok (.aload_n 0, 1) := by decide +kernel
theorem dX8_nozzle_24 : decode cX8_nozzle 24 = .ok (.iload_n 1, 1) := by decide +kernel
theorem dX8_nozzle_25 : decode cX8_nozzle 25 = .ok (.invokevirtual 257, 3) := by decide +kernel
theorem dX8_nozzle_28 : decode cX8_nozzle 28 = .ok (.istore_n 3, 1) := by decide +kernel
theorem dX8_nozzle_29 : decode cX8_nozzle 29 = .ok (.aload_n 0, 1) := by decide +kernel
theorem dX8_nozzle_30 : decode cX8_nozzle 30 = .ok (.getfield 13, 3) := by decide +kernel
theorem dX8_nozzle_33 : decode cX8_nozzle 33 = .ok (.bipush 25, 2) := by decide +kernel
theorem dX8_nozzle_35 : decode cX8_nozzle 35 = .ok (.iconst 2, 1) := by decide +kernel
theorem dX8_nozzle_36 : decode cX8_nozzle 36 = .ok (.iload_n 1, 1) := by decide +kernel
theorem dX8_nozzle_37 : decode cX8_nozzle 37 = .ok (.imul, 1) := by decide +kernel
theorem dX8_nozzle_38 : decode cX8_nozzle 38 = .ok (.iadd, 1) := by decide +kernel
theorem dX8_nozzle_39 : decode cX8_nozzle 39 = .ok (.iload_n 2, 1) := by decide +kernel
theorem dX8_nozzle_40 : decode cX8_nozzle 40 = .ok (.iastore, 1) := by decide +kernel
theorem dX8_nozzle_41 : decode cX8_nozzle 41 = .ok (.iload_n 3, 1) := by decide +kernel
theorem dX8_nozzle_42 : decode cX8_nozzle 42 = .ok (.ireturn, 1) := by decide +kernel
theorem dX8_fine_0 : decode cX8_fine 0 = .ok (.aload_n 0, 1) := by decide +kernel
theorem dX8_fine_1 : decode cX8_fine 1 = .ok (.iload_n 1, 1) := by decide +kernel
theorem dX8_fine_2 : decode cX8_fine 2 = .ok (.invokevirtual 325, 3) := by decide +kernel
theorem dX8_fine_5 : decode cX8_fine 5 = .ok (.ifCond .eq 23, 3) := by decide +kernel
theorem dX8_fine_8 : decode cX8_fine 8 = .ok (.iload_n 2, 1) := by decide +kernel
theorem dX8_fine_9 : decode cX8_fine 9 = .ok (.i2l, 1) := by decide +kernel
theorem dX8_fine_10 : decode cX8_fine 10 = .ok (.lconst 1, 1) := by decide +kernel
theorem dX8_fine_11 : decode cX8_fine 11 = .ok (.ldc2_w 214, 3) := by decide +kernel
theorem dX8_fine_14 : decode cX8_fine 14 = .ok (.invokestatic 68, 3) := by decide +kernel
theorem dX8_fine_17 : decode cX8_fine 17 = .ok (.ifCond .eq 11, 3) := by decide +kernel
theorem dX8_fine_20 : decode cX8_fine 20 = .ok (.iload_n 3, 1) := by decide +kernel
theorem dX8_fine_21 : decode cX8_fine 21 = .ok (.i2l, 1) := by decide +kernel
theorem dX8_fine_22 : decode cX8_fine 22 = .ok (.invokestatic 281, 3) := by decide +kernel
theorem dX8_fine_25 : decode cX8_fine 25 = .ok (.ifCond .ne 6, 3) := by decide +kernel
theorem dX8_fine_28 : decode cX8_fine 28 = .ok (.bipush (-2), 2) := by decide +kernel
theorem dX8_fine_30 : decode cX8_fine 30 = .ok (.ireturn, 1) := by decide +kernel
theorem dX8_fine_31 : decode cX8_fine 31 = .ok (.bipush 99, 2) := by decide +kernel
theorem dX8_fine_33 : decode cX8_fine 33 = .ok (.istore 4, 2) := by decide +kernel
theorem dX8_fine_35 : decode cX8_fine 35 = .ok (.iload 4, 2) := by decide +kernel
theorem dX8_fine_37 : decode cX8_fine 37 = .ok (.ifCond .lt 20, 3) := by decide +kernel
theorem dX8_fine_40 : decode cX8_fine 40 = .ok (.aload_n 0, 1) := by decide +kernel
theorem dX8_fine_41 : decode cX8_fine 41 = .ok (.iload 4, 2) := by decide +kernel
theorem dX8_fine_43 : decode cX8_fine 43 = .ok (.iload_n 2, 1) := by decide +kernel
theorem dX8_fine_44 : decode cX8_fine 44 = .ok (.iload_n 3, 1) := by decide +kernel
theorem dX8_fine_45 : decode cX8_fine 45 = .ok (.invokevirtual 342, 3) := by decide +kernel
theorem dX8_fine_48 : decode cX8_fine 48 = .ok (.ifCond .ne 9, 3) := by decide +kernel
theorem dX8_fine_51 : decode cX8_fine 51 = .ok (.iinc 4 (-1), 3) := by decide +kernel
theorem dX8_fine_54 : decode cX8_fine 54 = .ok (.goto (-19), 3) := by decide +kernel
theorem dX8_fine_57 : decode cX8_fine 57 = .ok (.iload 4, 2) := by decide +kernel
theorem dX8_fine_59 : decode cX8_fine 59 = .ok (.ireturn, 1) := by decide +kernel
theorem dX8_iceOf_0 : decode cX8_iceOf 0 = .ok (.iconst 0, 1) := by decide +kernel
theorem dX8_iceOf_1 : decode cX8_iceOf 1 = .ok (.istore_n 1, 1) := by decide +kernel
theorem dX8_iceOf_2 : decode cX8_iceOf 2 = .ok (.iconst 0, 1) := by decide +kernel
theorem dX8_iceOf_3 : decode cX8_iceOf 3 = .ok (.istore_n 2, 1) := by decide +kernel
theorem dX8_iceOf_4 : decode cX8_iceOf 4 = .ok (.iload_n 2, 1) := by decide +kernel
theorem dX8_iceOf_5 : decode cX8_iceOf 5 = .ok (.aload_n 0, 1) := by decide +kernel
theorem dX8_iceOf_6 : decode cX8_iceOf 6 = .ok (.getfield 13, 3) := by decide +kernel
theorem dX8_iceOf_9 : decode cX8_iceOf 9 = .ok (.iconst 1, 1) := by decide +kernel
theorem dX8_iceOf_10 : decode cX8_iceOf 10 = .ok (.iaload, 1) := by decide +kernel
theorem dX8_iceOf_11 : decode cX8_iceOf 11 = .ok (.if_icmp .ge 24, 3) := by decide +kernel
theorem dX8_iceOf_14 : decode cX8_iceOf 14 = .ok (.iload_n 1, 1) := by decide +kernel
theorem dX8_iceOf_15 : decode cX8_iceOf 15 = .ok (.aload_n 0, 1) := by decide +kernel
theorem dX8_iceOf_16 : decode cX8_iceOf 16 = .ok (.iload_n 2, 1) := by decide +kernel
theorem dX8_iceOf_17 : decode cX8_iceOf 17 = .ok (.aload_n 0, 1) := by decide +kernel
theorem dX8_iceOf_18 : decode cX8_iceOf 18 = .ok (.getfield 13, 3) := by decide +kernel
theorem dX8_iceOf_21 : decode cX8_iceOf 21 = .ok (.bipush 7, 2) := by decide +kernel
theorem dX8_iceOf_23 : decode cX8_iceOf 23 = .ok (.iaload, 1) := by decide +kernel
theorem dX8_iceOf_24 : decode cX8_iceOf 24 = .ok (.invokevirtual 76, 3) := by decide +kernel
theorem dX8_iceOf_27 : decode cX8_iceOf 27 = .ok (.iadd, 1) := by decide +kernel
theorem dX8_iceOf_28 : decode cX8_iceOf 28 = .ok (.istore_n 1, 1) := by decide +kernel
theorem dX8_iceOf_29 : decode cX8_iceOf 29 = .ok (.iinc 2 1, 3) := by decide +kernel
theorem dX8_iceOf_32 : decode cX8_iceOf 32 = .ok (.goto (-28), 3) := by decide +kernel
theorem dX8_iceOf_35 : decode cX8_iceOf 35 = .ok (.iload_n 1, 1) := by decide +kernel
theorem dX8_iceOf_36 : decode cX8_iceOf 36 = .ok (.ireturn, 1) := by decide +kernel
theorem dX8_ice_0 : decode cX8_ice 0 = .ok (.aload_n 0, 1) := by decide +kernel
theorem dX8_ice_1 : decode cX8_ice 1 = .ok (.getfield 13, 3) := by decide +kernel
theorem dX8_ice_4 : decode cX8_ice 4 = .ok (.bipush 7, 2) := by decide +kernel
theorem dX8_ice_6 : decode cX8_ice 6 = .ok (.iaload, 1) := by decide +kernel
theorem dX8_ice_7 : decode cX8_ice 7 = .ok (.iconst (-1), 1) := by decide +kernel
theorem dX8_ice_8 : decode cX8_ice 8 = .ok (.if_icmp .ne 7, 3) := by decide +kernel
theorem dX8_ice_11 : decode cX8_ice 11 = .ok (.iconst (-1), 1) := by decide +kernel
theorem dX8_ice_12 : decode cX8_ice 12 = .ok (.goto 7, 3) := by decide +kernel
theorem dX8_ice_15 : decode cX8_ice 15 = .ok (.aload_n 0, 1) := by decide +kernel
theorem dX8_ice_16 : decode cX8_ice 16 = .ok (.invokevirtual 401, 3) := by decide +kernel
theorem dX8_ice_19 : decode cX8_ice 19 = .ok (.ireturn, 1) := by decide +kernel
theorem dX8_shut_0 : decode cX8_shut 0 = .ok (.iload_n 2, 1) := by decide +kernel
theorem dX8_shut_1 : decode cX8_shut 1 = .ok (.i2l, 1) := by decide +kernel
theorem dX8_shut_2 : decode cX8_shut 2 = .ok (.lconst 1, 1) := by decide +kernel
theorem dX8_shut_3 : decode cX8_shut 3 = .ok (.ldc2_w 390, 3) := by decide +kernel
theorem dX8_shut_6 : decode cX8_shut 6 = .ok (.invokestatic 68, 3) := by decide +kernel
theorem dX8_shut_9 : decode cX8_shut 9 = .ok (.ifCond .ne 6, 3) := by decide +kernel
theorem dX8_shut_12 : decode cX8_shut 12 = .ok (.bipush (-2), 2) := by decide +kernel
theorem dX8_shut_14 : decode cX8_shut 14 = .ok (.ireturn, 1) := by decide +kernel
theorem dX8_shut_15 : decode cX8_shut 15 = .ok (.aload_n 0, 1) := by decide +kernel
theorem dX8_shut_16 : decode cX8_shut 16 = .ok (.iload_n 1, 1) := by decide +kernel
theorem dX8_shut_17 : decode cX8_shut 17 = .ok (.invokevirtual 296, 3) := by decide +kernel
theorem dX8_shut_20 : decode cX8_shut 20 = .ok (.istore_n 3, 1) := by decide +kernel
theorem dX8_shut_21 : decode cX8_shut 21 = .ok (.iload_n 3, 1) := by decide +kernel
theorem dX8_shut_22 : decode cX8_shut 22 = .ok (.ifCond .ge 5, 3) := by decide +kernel
theorem dX8_shut_25 : decode cX8_shut 25 = .ok (.iload_n 3, 1) := by decide +kernel
theorem dX8_shut_26 : decode cX8_shut 26 = .ok (.ireturn, 1) := by decide +kernel
theorem dX8_shut_27 : decode cX8_shut 27 = .ok (.aload_n 0, 1) := by decide +kernel
theorem dX8_shut_28 : decode cX8_shut 28 = .ok (.getfield 13, 3) := by decide +kernel
theorem dX8_shut_31 : decode cX8_shut 31 = .ok (.bipush 7, 2) := by decide +kernel
theorem dX8_shut_33 : decode cX8_shut 33 = .ok (.iaload, 1) := by decide +kernel
theorem dX8_shut_34 : decode cX8_shut 34 = .ok (.iconst (-1), 1) := by decide +kernel
theorem dX8_shut_35 : decode cX8_shut 35 = .ok (.if_icmp .ne 5, 3) := by decide +kernel
theorem dX8_shut_38 : decode cX8_shut 38 = .ok (.iconst (-1), 1) := by decide +kernel
theorem dX8_shut_39 : decode cX8_shut 39 = .ok (.ireturn, 1) := by decide +kernel
theorem dX8_shut_40 : decode cX8_shut 40 = .ok (.aload_n 0, 1) := by decide +kernel
theorem dX8_shut_41 : decode cX8_shut 41 = .ok (.invokevirtual 370, 3) := by decide +kernel
theorem dX8_shut_44 : decode cX8_shut 44 = .ok (.aload_n 0, 1) := by decide +kernel
theorem dX8_shut_45 : decode cX8_shut 45 = .ok (.invokevirtual 401, 3) := by decide +kernel
theorem dX8_shut_48 : decode cX8_shut 48 = .ok (.iload_n 2, 1) := by decide +kernel
theorem dX8_shut_49 : decode cX8_shut 49 = .ok (.if_icmp .lt 7, 3) := by decide +kernel
theorem dX8_shut_52 : decode cX8_shut 52 = .ok (.iconst 0, 1) := by decide +kernel
theorem dX8_shut_53 : decode cX8_shut 53 = .ok (.goto 4, 3) := by decide +kernel
theorem dX8_shut_56 : decode cX8_shut 56 = .ok (.iconst (-1), 1) := by decide +kernel
theorem dX8_shut_57 : decode cX8_shut 57 = .ok (.istore 4, 2) := by decide +kernel
theorem dX8_shut_59 : decode cX8_shut 59 = .ok (.iconst 0, 1) := by decide +kernel
theorem dX8_shut_60 : decode cX8_shut 60 = .ok (.istore 5, 2) := by decide +kernel
theorem dX8_shut_62 : decode cX8_shut 62 = .ok (.iload 5, 2) := by decide +kernel
theorem dX8_shut_64 : decode cX8_shut 64 = .ok (.aload_n 0, 1) := by decide +kernel
theorem dX8_shut_65 : decode cX8_shut 65 = .ok (.getfield 49, 3) := by decide +kernel
theorem dX8_shut_68 : decode cX8_shut 68 = .ok (.iload_n 1, 1) := by decide +kernel
theorem dX8_shut_69 : decode cX8_shut 69 = .ok (.iaload, 1) := by decide +kernel
theorem dX8_shut_70 : decode cX8_shut 70 = .ok (.if_icmp .ge 47, 3) := by decide +kernel
theorem dX8_shut_73 : decode cX8_shut 73 = .ok (.iload 4, 2) := by decide +kernel
theorem dX8_shut_75 : decode cX8_shut 75 = .ok (.iconst (-1), 1) := by decide +kernel
theorem dX8_shut_76 : decode cX8_shut 76 = .ok (.if_icmp .ne 41, 3) := by decide +kernel
theorem dX8_shut_79 : decode cX8_shut 79 = .ok (.aload_n 0, 1) := by decide +kernel
theorem dX8_shut_80 : decode cX8_shut 80 = .ok (.aload_n 0, 1) := by decide +kernel
theorem dX8_shut_81 : decode cX8_shut 81 = .ok (.iload_n 1, 1) := by decide +kernel
theorem dX8_shut_82 : decode cX8_shut 82 = .ok (.iload 5, 2) := by decide +kernel
theorem dX8_shut_84 : decode cX8_shut 84 = .ok (.invokevirtual 293, 3) := by decide +kernel
theorem dX8_shut_87 : decode cX8_shut 87 = .ok (.invokevirtual 285, 3) := by decide +kernel
theorem dX8_shut_90 : decode cX8_shut 90 = .ok (.ifCond .lt 18, 3) := by decide +kernel
theorem dX8_shut_93 : decode cX8_shut 93 = .ok (.aload_n 0, 1) := by decide +kernel
theorem dX8_shut_94 : decode cX8_shut 94 = .ok (.invokevirtual 401, 3) := by decide +kernel
theorem dX8_shut_97 : decode cX8_shut 97 = .ok (.iload_n 2, 1) := by decide +kernel
theorem dX8_shut_98 : decode cX8_shut 98 = .ok (.if_icmp .lt 10, 3) := by decide +kernel
theorem dX8_shut_101 : decode cX8_shut 101 = .ok (.iload 5, 2) := by decide +kernel
theorem dX8_shut_103 : decode cX8_shut 103 = .ok (.iconst 1, 1) := by decide +kernel
theorem dX8_shut_104 : decode cX8_shut 104 = .ok (.iadd, 1) := by decide +kernel
theorem dX8_shut_105 : decode cX8_shut 105 = .ok (.goto 4, 3) := by decide +kernel
theorem dX8_shut_108 : decode cX8_shut 108 = .ok (.iconst (-1), 1) := by decide +kernel
theorem dX8_shut_109 : decode cX8_shut 109 = .ok (.istore 4, 2) := by decide +kernel
theorem dX8_shut_111 : decode cX8_shut 111 = .ok (.iinc 5 1, 3) := by decide +kernel
theorem dX8_shut_114 : decode cX8_shut 114 = .ok (.goto (-52), 3) := by decide +kernel
theorem dX8_shut_117 : decode cX8_shut 117 = .ok (.aload_n 0, 1) := by decide +kernel
theorem dX8_shut_118 : decode cX8_shut 118 = .ok (.invokevirtual 376, 3) := by decide +kernel
theorem dX8_shut_121 : decode cX8_shut 121 = .ok (.iload 4, 2) := by decide +kernel
theorem dX8_shut_123 : decode cX8_shut 123 = .ok (.ireturn, 1) := by decide +kernel
theorem dX8_fillMarks_0 : decode cX8_fillMarks 0 = .ok (.aload_n 0, 1) := by decide +kernel
theorem dX8_fillMarks_1 : decode cX8_fillMarks 1 = .ok (.iconst 0, 1) := by decide +kernel
theorem dX8_fillMarks_2 : decode cX8_fillMarks 2 = .ok (.putfield 404, 3) := by decide +kernel
theorem dX8_fillMarks_5 : decode cX8_fillMarks 5 = .ok (.aload_n 0, 1) := by decide +kernel
theorem dX8_fillMarks_6 : decode cX8_fillMarks 6 = .ok (.bipush 10, 2) := by decide +kernel
theorem dX8_fillMarks_8 : decode cX8_fillMarks 8 = .ok (.putfield 407, 3) := by decide +kernel
theorem dX8_fillMarks_11 : decode cX8_fillMarks 11 = .ok (.aload_n 0, 1) := by decide +kernel
theorem dX8_fillMarks_12 : decode cX8_fillMarks 12 = .ok (.iconst 0, 1) := by decide +kernel
theorem dX8_fillMarks_13 : decode cX8_fillMarks 13 = .ok (.putfield 410, 3) := by decide +kernel
theorem dX8_fillMarks_16 : decode cX8_fillMarks 16 = .ok (.aload_n 0, 1) := by decide +kernel
theorem dX8_fillMarks_17 : decode cX8_fillMarks 17 = .ok (.iconst 0, 1) := by decide +kernel
theorem dX8_fillMarks_18 : decode cX8_fillMarks 18 = .ok (.putfield 413, 3) := by decide +kernel
theorem dX8_fillMarks_21 : decode cX8_fillMarks 21 = .ok (.aload_n 0, 1) := by decide +kernel
theorem dX8_fillMarks_22 : decode cX8_fillMarks 22 = .ok (.iconst 0, 1) := by decide +kernel
theorem dX8_fillMarks_23 : decode cX8_fillMarks 23 = .ok (.putfield 416, 3) := by decide +kernel
theorem dX8_fillMarks_26 : decode cX8_fillMarks 26 = .ok (.iconst 0, 1) := by decide +kernel
theorem dX8_fillMarks_27 : decode cX8_fillMarks 27 = .ok (.istore 4, 2) := by decide +kernel
theorem dX8_fillMarks_29 : decode cX8_fillMarks 29 = .ok (.iload 4, 2) := by decide +kernel
theorem dX8_fillMarks_31 : decode cX8_fillMarks 31 = .ok (.bipush 40, 2) := by decide +kernel
theorem dX8_fillMarks_33 : decode cX8_fillMarks 33 = .ok (.if_icmp .ge 126, 3) := by decide +kernel
theorem dX8_fillMarks_36 : decode cX8_fillMarks 36 = .ok (.iconst 0, 1) := by decide +kernel
theorem dX8_fillMarks_37 : decode cX8_fillMarks 37 = .ok (.istore 5, 2) := by decide +kernel
theorem dX8_fillMarks_39 : decode cX8_fillMarks 39 = .ok (.iload 5, 2) := by decide +kernel
theorem dX8_fillMarks_41 : decode cX8_fillMarks 41 = .ok (.aload_n 0, 1) := by decide +kernel
theorem dX8_fillMarks_42 : decode cX8_fillMarks 42 = .ok (.getfield 13, 3) := by decide +kernel
theorem dX8_fillMarks_45 : decode cX8_fillMarks 45 = .ok (.bipush 10, 2) := by decide +kernel
theorem dX8_fillMarks_47 : decode cX8_fillMarks 47 = .ok (.iaload, 1) := by decide +kernel
theorem dX8_fillMarks_48 : decode cX8_fillMarks 48 = .ok (.if_icmp .ge 105, 3) := by decide +kernel
theorem dX8_fillMarks_51 : decode cX8_fillMarks 51 = .ok (.iload 4, 2) := by decide +kernel
theorem dX8_fillMarks_53 : decode cX8_fillMarks 53 = .ok (.bipush 10, 2) := by decide +kernel
theorem dX8_fillMarks_55 : decode cX8_fillMarks 55 = .ok (.irem, 1) := by decide +kernel
theorem dX8_fillMarks_56 : decode cX8_fillMarks 56 = .ok (.ifCond .le 97, 3) := by decide +kernel
theorem dX8_fillMarks_59 : decode cX8_fillMarks 59 = .ok (.aload_n 0, 1) := by decide +kernel
theorem dX8_fillMarks_60 : decode cX8_fillMarks 60 = .ok (.iload 5, 2) := by decide +kernel
theorem dX8_fillMarks_62 : decode cX8_fillMarks 62 = .ok (.iload_n 3, 1) := by decide +kernel
theorem dX8_fillMarks_63 : decode cX8_fillMarks 63 = .ok (.iload 4, 2) := by decide +kernel
theorem dX8_fillMarks_65 : decode cX8_fillMarks 65 = .ok (.iload_n 1, 1) := by decide +kernel
theorem dX8_fillMarks_66 : decode cX8_fillMarks 66 = .ok (.iload_n 2, 1) := by decide +kernel
theorem dX8_fillMarks_67 : decode cX8_fillMarks 67 = .ok (.invokevirtual 338, 3) := by decide +kernel
theorem dX8_fillMarks_70 : decode cX8_fillMarks 70 = .ok (.ifCond .ne 6, 3) := by decide +kernel
theorem dX8_fillMarks_73 : decode cX8_fillMarks 73 = .ok (.goto 74, 3) := by decide +kernel
theorem dX8_fillMarks_76 : decode cX8_fillMarks 76 = .ok (.aload_n 0, 1) := by decide +kernel
theorem dX8_fillMarks_77 : decode cX8_fillMarks 77 = .ok (.dup, 1) := by decide +kernel
theorem dX8_fillMarks_78 : decode cX8_fillMarks 78 = .ok (.getfield 404, 3) := by decide +kernel
theorem dX8_fillMarks_81 : decode cX8_fillMarks 81 = .ok (.iconst 1, 1) := by decide +kernel
theorem dX8_fillMarks_82 : decode cX8_fillMarks 82 = .ok (.iadd, 1) := by decide +kernel
theorem dX8_fillMarks_83 : decode cX8_fillMarks 83 = .ok (.putfield 404, 3) := by decide +kernel
theorem dX8_fillMarks_86 : decode cX8_fillMarks 86 = .ok (.aload_n 0, 1) := by decide +kernel
theorem dX8_fillMarks_87 : decode cX8_fillMarks 87 = .ok (.aload_n 0, 1) := by decide +kernel
theorem dX8_fillMarks_88 : decode cX8_fillMarks 88 = .ok (.getfield 407, 3) := by decide +kernel
theorem dX8_fillMarks_91 : decode cX8_fillMarks 91 = .ok (.iload 4, 2) := by decide +kernel
theorem dX8_fillMarks_93 : decode cX8_fillMarks 93 = .ok (.bipush 10, 2) := by decide +kernel
theorem dX8_fillMarks_95 : decode cX8_fillMarks 95 = .ok (.irem, 1) := by decide +kernel
theorem dX8_fillMarks_96 : decode cX8_fillMarks 96 = .ok (.invokestatic 110, 3) := by decide +kernel
theorem dX8_fillMarks_99 : decode cX8_fillMarks 99 = .ok (.putfield 407, 3) := by decide +kernel
theorem dX8_fillMarks_102 : decode cX8_fillMarks 102 = .ok (.aload_n 0, 1) := by decide +kernel
theorem dX8_fillMarks_103 : decode cX8_fillMarks 103 = .ok (.aload_n 0, 1) := by decide +kernel
theorem dX8_fillMarks_104 : decode cX8_fillMarks 104 = .ok (.getfield 410, 3) := by decide +kernel
theorem dX8_fillMarks_107 : decode cX8_fillMarks 107 = .ok (.iload 4, 2) := by decide +kernel
theorem dX8_fillMarks_109 : decode cX8_fillMarks 109 = .ok (.bipush 10, 2) := by decide +kernel
theorem dX8_fillMarks_111 : decode cX8_fillMarks 111 = .ok (.irem, 1) := by decide +kernel
theorem dX8_fillMarks_112 : decode cX8_fillMarks 112 = .ok (.invokestatic 242, 3) := by decide +kernel
theorem dX8_fillMarks_115 : decode cX8_fillMarks 115 = .ok (.putfield 410, 3) := by decide +kernel
theorem dX8_fillMarks_118 : decode cX8_fillMarks 118 = .ok (.aload_n 0, 1) := by decide +kernel
theorem dX8_fillMarks_119 : decode cX8_fillMarks 119 = .ok (.dup, 1) := by decide +kernel
theorem dX8_fillMarks_120 : decode cX8_fillMarks 120 = .ok (.getfield 413, 3) := by decide +kernel
theorem dX8_fillMarks_123 : decode cX8_fillMarks 123 = .ok (.iconst 1, 1) := by decide +kernel
theorem dX8_fillMarks_124 : decode cX8_fillMarks 124 = .ok (.iload 4, 2) := by decide +kernel
theorem dX8_fillMarks_126 : decode cX8_fillMarks 126 = .ok (.bipush 10, 2) := by decide +kernel
theorem dX8_fillMarks_128 : decode cX8_fillMarks 128 = .ok (.idiv, 1) := by decide +kernel
theorem dX8_fillMarks_129 : decode cX8_fillMarks 129 = .ok (.ishl, 1) := by decide +kernel
theorem dX8_fillMarks_130 : decode cX8_fillMarks 130 = .ok (.ior, 1) := by decide +kernel
theorem dX8_fillMarks_131 : decode cX8_fillMarks 131 = .ok (.putfield 413, 3) := by decide +kernel
theorem dX8_fillMarks_134 : decode cX8_fillMarks 134 = .ok (.aload_n 0, 1) := by decide +kernel
theorem dX8_fillMarks_135 : decode cX8_fillMarks 135 = .ok (.dup, 1) := by decide +kernel
theorem dX8_fillMarks_136 : decode cX8_fillMarks 136 = .ok (.getfield 416, 3) := by decide +kernel
theorem dX8_fillMarks_139 : decode cX8_fillMarks 139 = .ok (.iconst 1, 1) := by decide +kernel
theorem dX8_fillMarks_140 : decode cX8_fillMarks 140 = .ok (.iload 5, 2) := by decide +kernel
theorem dX8_fillMarks_142 : decode cX8_fillMarks 142 = .ok (.ishl, 1) := by decide +kernel
theorem dX8_fillMarks_143 : decode cX8_fillMarks 143 = .ok (.ior, 1) := by decide +kernel
theorem dX8_fillMarks_144 : decode cX8_fillMarks 144 = .ok (.putfield 416, 3) := by decide +kernel
theorem dX8_fillMarks_147 : decode cX8_fillMarks 147 = .ok (.iinc 5 1, 3) := by decide +kernel
theorem dX8_fillMarks_150 : decode cX8_fillMarks 150 = .ok (.goto (-111), 3) := by decide +kernel
theorem dX8_fillMarks_153 : decode cX8_fillMarks 153 = .ok (.iinc 4 1, 3) := by decide +kernel
theorem dX8_fillMarks_156 : decode cX8_fillMarks 156 = .ok (.goto (-127), 3) := by decide +kernel
theorem dX8_fillMarks_159 : decode cX8_fillMarks 159 = .ok (.return_, 1) := by decide +kernel
theorem dX8_marks_0 : decode cX8_marks 0 = .ok (.aload_n 0, 1) := by decide +kernel
theorem dX8_marks_1 : decode cX8_marks 1 = .ok (.iload_n 1, 1) := by decide +kernel
theorem dX8_marks_2 : decode cX8_marks 2 = .ok (.iload_n 2, 1) := by decide +kernel
theorem dX8_marks_3 : decode cX8_marks 3 = .ok (.invokevirtual 248, 3) := by decide +kernel
theorem dX8_marks_6 : decode cX8_marks 6 = .ok (.ifCond .eq 15, 3) := by decide +kernel
theorem dX8_marks_9 : decode cX8_marks 9 = .ok (.iload_n 3, 1) := by decide +kernel
theorem dX8_marks_10 : decode cX8_marks 10 = .ok (.i2l, 1) := by decide +kernel
theorem dX8_marks_11 : decode cX8_marks 11 = .ok (.lconst 1, 1) := by decide +kernel
theorem dX8_marks_12 : decode cX8_marks 12 = .ok (.ldc2_w 214, 3) := by decide +kernel
theorem dX8_marks_15 : decode cX8_marks 15 = .ok (.invokestatic 68, 3) := by decide +kernel
theorem dX8_marks_18 : decode cX8_marks 18 = .ok (.ifCond .ne 6, 3) := by decide +kernel
theorem dX8_marks_21 : decode cX8_marks 21 = .ok (.bipush (-2), 2) := by decide +kernel
theorem dX8_marks_23 : decode cX8_marks 23 = .ok (.ireturn, 1) := by decide +kernel
theorem dX8_marks_24 : decode cX8_marks 24 = .ok (.aload_n 0, 1) := by decide +kernel
theorem dX8_marks_25 : decode cX8_marks 25 = .ok (.iload_n 1, 1) := by decide +kernel
theorem dX8_marks_26 : decode cX8_marks 26 = .ok (.iload_n 2, 1) := by decide +kernel
theorem dX8_marks_27 : decode cX8_marks 27 = .ok (.iload_n 3, 1) := by decide +kernel
theorem dX8_marks_28 : decode cX8_marks 28 = .ok (.invokevirtual 419, 3) := by decide +kernel
theorem dX8_marks_31 : decode cX8_marks 31 = .ok (.aload_n 0, 1) := by decide +kernel
theorem dX8_marks_32 : decode cX8_marks 32 = .ok (.getfield 404, 3) := by decide +kernel
theorem dX8_marks_35 : decode cX8_marks 35 = .ok (.ireturn, 1) := by decide +kernel
theorem dX8_span_0 : decode cX8_span 0 = .ok (.aload_n 0, 1) := by decide +kernel
theorem dX8_span_1 : decode cX8_span 1 = .ok (.iload_n 1, 1) := by decide +kernel
theorem dX8_span_2 : decode cX8_span 2 = .ok (.iload_n 2, 1) := by decide +kernel
theorem dX8_span_3 : decode cX8_span 3 = .ok (.invokevirtual 248, 3) := by decide +kernel
theorem dX8_span_6 : decode cX8_span 6 = .ok (.ifCond .eq 28, 3) := by decide +kernel
theorem dX8_span_9 : decode cX8_span 9 = .ok (.iload_n 3, 1) := by decide +kernel
theorem dX8_span_10 : decode cX8_span 10 = .ok (.i2l, 1) := by decide +kernel
theorem dX8_span_11 : decode cX8_span 11 = .ok (.lconst 1, 1) := by decide +kernel
theorem dX8_span_12 : decode cX8_span 12 = .ok (.ldc2_w 214, 3) := by decide +kernel
theorem dX8_span_15 : decode cX8_span 15 = .ok (.invokestatic 68, 3) := by decide +kernel
theorem dX8_span_18 : decode cX8_span 18 = .ok (.ifCond .eq 16, 3) := by decide +kernel
theorem dX8_span_21 : decode cX8_span 21 = .ok (.iload 4, 2) := by decide +kernel
theorem dX8_span_23 : decode cX8_span 23 = .ok (.i2l, 1) := by decide +kernel
theorem dX8_span_24 : decode cX8_span 24 = .ok (.lconst 0, 1) := by decide +kernel
theorem dX8_span_25 : decode cX8_span 25 = .ok (.ldc2_w 305, 3) := by decide +kernel
theorem dX8_span_28 : decode cX8_span 28 = .ok (.invokestatic 68, 3) := by decide +kernel
theorem dX8_span_31 : decode cX8_span 31 = .ok (.ifCond .ne 6, 3) := by decide +kernel
theorem dX8_span_34 : decode cX8_span 34 = .ok (.bipush (-2), 2) := by decide +kernel
theorem dX8_span_36 : decode cX8_span 36 = .ok (.ireturn, 1) := by decide +kernel
theorem dX8_span_37 : decode cX8_span 37 = .ok (.aload_n 0, 1) := by decide +kernel
theorem dX8_span_38 : decode cX8_span 38 = .ok (.iload_n 1, 1) := by decide +kernel
theorem dX8_span_39 : decode cX8_span 39 = .ok (.iload_n 2, 1) := by decide +kernel
theorem dX8_span_40 : decode cX8_span 40 = .ok (.iload_n 3, 1) := by decide +kernel
theorem dX8_span_41 : decode cX8_span 41 = .ok (.invokevirtual 419, 3) := by decide +kernel
theorem dX8_span_44 : decode cX8_span 44 = .ok (.aload_n 0, 1) := by decide +kernel
theorem dX8_span_45 : decode cX8_span 45 = .ok (.getfield 404, 3) := by decide +kernel
theorem dX8_span_48 : decode cX8_span 48 = .ok (.ifCond .ne 5, 3) := by decide +kernel
theorem dX8_span_51 : decode cX8_span 51 = .ok (.iconst (-1), 1) := by decide +kernel
theorem dX8_span_52 : decode cX8_span 52 = .ok (.ireturn, 1) := by decide +kernel
theorem dX8_span_53 : decode cX8_span 53 = .ok (.iload 4, 2) := by decide +kernel
theorem dX8_span_55 : decode cX8_span 55 = .ok (.ifCond .ne 10, 3) := by decide +kernel
theorem dX8_span_58 : decode cX8_span 58 = .ok (.aload_n 0, 1) := by decide +kernel
theorem dX8_span_59 : decode cX8_span 59 = .ok (.getfield 407, 3) := by decide +kernel
theorem dX8_span_62 : decode cX8_span 62 = .ok (.goto 33, 3) := by decide +kernel
theorem dX8_span_65 : decode cX8_span 65 = .ok (.iload 4, 2) := by decide +kernel
theorem dX8_span_67 : decode cX8_span 67 = .ok (.iconst 1, 1) := by decide +kernel
theorem dX8_span_68 : decode cX8_span 68 = .ok (.if_icmp .ne 10, 3) := by decide +kernel
theorem dX8_span_71 : decode cX8_span 71 = .ok (.aload_n 0, 1) := by decide +kernel
theorem dX8_span_72 : decode cX8_span 72 = .ok (.getfield 410, 3) := by decide +kernel
theorem dX8_span_75 : decode cX8_span 75 = .ok (.goto 20, 3) := by decide +kernel
theorem dX8_span_78 : decode cX8_span 78 = .ok (.iload 4, 2) := by decide +kernel
theorem dX8_span_80 : decode cX8_span 80 = .ok (.iconst 2, 1) := by decide +kernel
theorem dX8_span_81 : decode cX8_span 81 = .ok (.if_icmp .ne 10, 3) := by decide +kernel
theorem dX8_span_84 : decode cX8_span 84 = .ok (.aload_n 0, 1) := by decide +kernel
theorem dX8_span_85 : decode cX8_span 85 = .ok (.getfield 413, 3) := by decide +kernel
theorem dX8_span_88 : decode cX8_span 88 = .ok (.goto 7, 3) := by decide +kernel
theorem dX8_span_91 : decode cX8_span 91 = .ok (.aload_n 0, 1) := by decide +kernel
theorem dX8_span_92 : decode cX8_span 92 = .ok (.getfield 416, 3) := by decide +kernel
theorem dX8_span_95 : decode cX8_span 95 = .ok (.ireturn, 1) := by decide +kernel
theorem dX8_makes_0 : decode cX8_makes 0 = .ok (.iconst 0, 1) := by decide +kernel
theorem dX8_makes_1 : decode cX8_makes 1 = .ok (.istore 4, 2) := by decide +kernel
theorem dX8_makes_3 : decode cX8_makes 3 = .ok (.iload 4, 2) := by decide +kernel
theorem dX8_makes_5 : decode cX8_makes 5 = .ok (.aload_n 0, 1) := by decide +kernel
theorem dX8_makes_6 : decode cX8_makes 6 = .ok (.getfield 49, 3) := by decide +kernel
theorem dX8_makes_9 : decode cX8_makes 9 = .ok (.iload_n 1, 1) := by decide +kernel
theorem dX8_makes_10 : decode cX8_makes 10 = .ok (.iaload, 1) := by decide +kernel
theorem dX8_makes_11 : decode cX8_makes 11 = .ok (.if_icmp .ge 77, 3) := by decide +kernel
theorem dX8_makes_14 : decode cX8_makes 14 = .ok (.aload_n 0, 1) := by decide +kernel
theorem dX8_makes_15 : decode cX8_makes 15 = .ok (.getfield 55, 3) := by decide +kernel
theorem dX8_makes_18 : decode cX8_makes 18 = .ok (.bipush 60, 2) := by decide +kernel
theorem dX8_makes_20 : decode cX8_makes 20 = .ok (.iload_n 1, 1) := by decide +kernel
theorem dX8_makes_21 : decode cX8_makes 21 = .ok (.imul, 1) := by decide +kernel
theorem dX8_makes_22 : decode cX8_makes 22 = .ok (.iload 4, 2) := by decide +kernel
theorem dX8_makes_24 : decode cX8_makes 24 = .ok (.iadd, 1) := by decide +kernel
theorem dX8_makes_25 : decode cX8_makes 25 = .ok (.laload, 1) := by decide +kernel
theorem dX8_makes_26 : decode cX8_makes 26 = .ok (.lstore 5, 2) := by decide +kernel
theorem dX8_makes_28 : decode cX8_makes 28 = .ok (.lload 5, 2) := by decide +kernel
theorem dX8_makes_30 : decode cX8_makes 30 = .ok (.lconst 0, 1) := by decide +kernel
theorem dX8_makes_31 : decode cX8_makes 31 = .ok (.ldc2_w 390, 3) := by decide +kernel
theorem dX8_makes_34 : decode cX8_makes 34 = .ok (.invokestatic 68, 3) := by decide +kernel
theorem dX8_makes_37 : decode cX8_makes 37 = .ok (.ifCond .eq 43, 3) := by decide +kernel
theorem dX8_makes_40 : decode cX8_makes 40 = .ok (.aload_n 0, 1) := by decide +kernel
theorem dX8_makes_41 : decode cX8_makes 41 = .ok (.lload 5, 2) := by decide +kernel
theorem dX8_makes_43 : decode cX8_makes 43 = .ok (.l2i, 1) := by decide +kernel
theorem dX8_makes_44 : decode cX8_makes 44 = .ok (.bipush 100, 2) := by decide +kernel
theorem dX8_makes_46 : decode cX8_makes 46 = .ok (.irem, 1) := by decide +kernel
theorem dX8_makes_47 : decode cX8_makes 47 = .ok (.lload 5, 2) := by decide +kernel
theorem dX8_makes_49 : decode cX8_makes 49 = .ok (.l2i, 1) := by decide +kernel
theorem dX8_makes_50 : decode cX8_makes 50 = .ok (.bipush 100, 2) := by decide +kernel
theorem dX8_makes_52 : decode cX8_makes 52 = .ok (.idiv, 1) := by decide +kernel
theorem dX8_makes_53 : decode cX8_makes 53 = .ok (.invokevirtual 248, 3) := by decide +kernel
theorem dX8_makes_56 : decode cX8_makes 56 = .ok (.ifCond .eq 24, 3) := by decide +kernel
theorem dX8_makes_59 : decode cX8_makes 59 = .ok (.aload_n 0, 1) := by decide +kernel
theorem dX8_makes_60 : decode cX8_makes 60 = .ok (.iload_n 2, 1) := by decide +kernel
theorem dX8_makes_61 : decode cX8_makes 61 = .ok (.iload_n 3, 1) := by decide +kernel
theorem dX8_makes_62 : decode cX8_makes 62 = .ok (.lload 5, 2) := by decide +kernel
theorem dX8_makes_64 : decode cX8_makes 64 = .ok (.l2i, 1) := by decide +kernel
theorem dX8_makes_65 : decode cX8_makes 65 = .ok (.bipush 100, 2) := by decide +kernel
theorem dX8_makes_67 : decode cX8_makes 67 = .ok (.irem, 1) := by decide +kernel
theorem dX8_makes_68 : decode cX8_makes 68 = .ok (.lload 5, 2) := by decide +kernel
theorem dX8_makes_70 : decode cX8_makes 70 = .ok (.l2i, 1) := by decide +kernel
theorem dX8_makes_71 : decode cX8_makes 71 = .ok (.bipush 100, 2) := by decide +kernel
theorem dX8_makes_73 : decode cX8_makes 73 = .ok (.idiv, 1) := by decide +kernel
theorem dX8_makes_74 : decode cX8_makes 74 = .ok (.invokevirtual 351, 3) := by decide +kernel
theorem dX8_makes_77 : decode cX8_makes 77 = .ok (.ifCond .ne 5, 3) := by decide +kernel
theorem dX8_makes_80 : decode cX8_makes 80 = .ok (.iconst 0, 1) := by decide +kernel
theorem dX8_makes_81 : decode cX8_makes 81 = .ok (.ireturn, 1) := by decide +kernel
theorem dX8_makes_82 : decode cX8_makes 82 = .ok (.iinc 4 1, 3) := by decide +kernel
theorem dX8_makes_85 : decode cX8_makes 85 = .ok (.goto (-82), 3) := by decide +kernel
theorem dX8_makes_88 : decode cX8_makes 88 = .ok (.iconst 1, 1) := by decide +kernel
theorem dX8_makes_89 : decode cX8_makes 89 = .ok (.ireturn, 1) := by decide +kernel
theorem dX8_winds_0 : decode cX8_winds 0 = .ok (.iload_n 1, 1) := by decide +kernel
theorem dX8_winds_1 : decode cX8_winds 1 = .ok (.invokestatic 290, 3) := by decide +kernel
theorem dX8_winds_4 : decode cX8_winds 4 = .ok (.ifCond .eq 32, 3) := by decide +kernel
theorem dX8_winds_7 : decode cX8_winds 7 = .ok (.aload_n 0, 1) := by decide +kernel
theorem dX8_winds_8 : decode cX8_winds 8 = .ok (.invokevirtual 278, 3) := by decide +kernel
theorem dX8_winds_11 : decode cX8_winds 11 = .ok (.ifCond .eq 25, 3) := by decide +kernel
theorem dX8_winds_14 : decode cX8_winds 14 = .ok (.iload_n 2, 1) := by decide +kernel
theorem dX8_winds_15 : decode cX8_winds 15 = .ok (.i2l, 1) := by decide +kernel
theorem dX8_winds_16 : decode cX8_winds 16 = .ok (.lconst 1, 1) := by decide +kernel
theorem dX8_winds_17 : decode cX8_winds 17 = .ok (.ldc2_w 214, 3) := by decide +kernel
theorem dX8_winds_20 : decode cX8_winds 20 = .ok (.invokestatic 68, 3) := by decide +kernel
theorem dX8_winds_23 : decode cX8_winds 23 = .ok (.ifCond .eq 13, 3) := by decide +kernel
theorem dX8_winds_26 : decode cX8_winds 26 = .ok (.iload_n 3, 1) := by decide +kernel
theorem dX8_winds_27 : decode cX8_winds 27 = .ok (.i2l, 1) := by decide +kernel
theorem dX8_winds_28 : decode cX8_winds 28 = .ok (.lconst 0, 1) := by decide +kernel
theorem dX8_winds_29 : decode cX8_winds 29 = .ok (.lconst 1, 1) := by decide +kernel
theorem dX8_winds_30 : decode cX8_winds 30 = .ok (.invokestatic 68, 3) := by decide +kernel
theorem dX8_winds_33 : decode cX8_winds 33 = .ok (.ifCond .ne 6, 3) := by decide +kernel
theorem dX8_winds_36 : decode cX8_winds 36 = .ok (.bipush (-2), 2) := by decide +kernel
theorem dX8_winds_38 : decode cX8_winds 38 = .ok (.ireturn, 1) := by decide +kernel
theorem dX8_winds_39 : decode cX8_winds 39 = .ok (.aload_n 0, 1) := by decide +kernel
theorem dX8_winds_40 : decode cX8_winds 40 = .ok (.getfield 49, 3) := by decide +kernel
theorem dX8_winds_43 : decode cX8_winds 43 = .ok (.iload_n 1, 1) := by decide +kernel
theorem dX8_winds_44 : decode cX8_winds 44 = .ok (.iaload, 1) := by decide +kernel
theorem dX8_winds_45 : decode cX8_winds 45 = .ok (.iconst (-1), 1) := by decide +kernel
theorem dX8_winds_46 : decode cX8_winds 46 = .ok (.if_icmp .ne 6, 3) := by decide +kernel
theorem dX8_winds_49 : decode cX8_winds 49 = .ok (.bipush (-6), 2) := by decide +kernel
theorem dX8_winds_51 : decode cX8_winds 51 = .ok (.ireturn, 1) := by decide +kernel
theorem dX8_winds_52 : decode cX8_winds 52 = .ok (.iconst 0, 1) := by decide +kernel
theorem dX8_winds_53 : decode cX8_winds 53 = .ok (.istore 4, 2) := by decide +kernel
theorem dX8_winds_55 : decode cX8_winds 55 = .ok (.iconst (-1), 1) := by decide +kernel
theorem dX8_winds_56 : decode cX8_winds 56 = .ok (.istore 5, 2) := by decide +kernel
theorem dX8_winds_58 : decode cX8_winds 58 = .ok (.iconst 0, 1) := by decide +kernel
theorem dX8_winds_59 : decode cX8_winds 59 = .ok (.istore 6, 2) := by decide +kernel
theorem dX8_winds_61 : decode cX8_winds 61 = .ok (.iload 6, 2) := by decide +kernel
theorem dX8_winds_63 : decode cX8_winds 63 = .ok (.bipush 40, 2) := by decide +kernel
theorem dX8_winds_65 : decode cX8_winds 65 = .ok (.if_icmp .ge 41, 3) := by decide +kernel
theorem dX8_winds_68 : decode cX8_winds 68 = .ok (.aload_n 0, 1) := by decide +kernel
theorem dX8_winds_69 : decode cX8_winds 69 = .ok (.iload_n 1, 1) := by decide +kernel
theorem dX8_winds_70 : decode cX8_winds 70 = .ok (.iload_n 2, 1) := by decide +kernel
theorem dX8_winds_71 : decode cX8_winds 71 = .ok (.iload 6, 2) := by decide +kernel
theorem dX8_winds_73 : decode cX8_winds 73 = .ok (.invokevirtual 422, 3) := by decide +kernel
theorem dX8_winds_76 : decode cX8_winds 76 = .ok (.ifCond .ne 6, 3) := by decide +kernel
theorem dX8_winds_79 : decode cX8_winds 79 = .ok (.goto 21, 3) := by decide +kernel
theorem dX8_winds_82 : decode cX8_winds 82 = .ok (.iinc 4 1, 3) := by decide +kernel
theorem dX8_winds_85 : decode cX8_winds 85 = .ok (.iload 5, 2) := by decide +kernel
theorem dX8_winds_87 : decode cX8_winds 87 = .ok (.iconst (-1), 1) := by decide +kernel
theorem dX8_winds_88 : decode cX8_winds 88 = .ok (.if_icmp .ne 8, 3) := by decide +kernel
theorem dX8_winds_91 : decode cX8_winds 91 = .ok (.iload 6, 2) := by decide +kernel
theorem dX8_winds_93 : decode cX8_winds 93 = .ok (.goto 5, 3) := by decide +kernel
theorem dX8_winds_96 : decode cX8_winds 96 = .ok (.iload 5, 2) := by decide +kernel
theorem dX8_winds_98 : decode cX8_winds 98 = .ok (.istore 5, 2) := by decide +kernel
theorem dX8_winds_100 : decode cX8_winds 100 = .ok (.iinc 6 1, 3) := by decide +kernel
theorem dX8_winds_103 : decode cX8_winds 103 = .ok (.goto (-42), 3) := by decide +kernel
theorem dX8_winds_106 : decode cX8_winds 106 = .ok (.iload_n 3, 1) := by decide +kernel
theorem dX8_winds_107 : decode cX8_winds 107 = .ok (.ifCond .ne 8, 3) := by decide +kernel
theorem dX8_winds_110 : decode cX8_winds 110 = .ok (.iload 4, 2) := by decide +kernel
theorem dX8_winds_112 : decode cX8_winds 112 = .ok (.goto 5, 3) := by decide +kernel
theorem dX8_winds_115 : decode cX8_winds 115 = .ok (.iload 5, 2) := by decide +kernel
theorem dX8_winds_117 : decode cX8_winds 117 = .ok (.ireturn, 1) := by decide +kernel
theorem dX8_isTaken_0 : decode cX8_isTaken 0 = .ok (.aload_n 0, 1) := by decide +kernel
theorem dX8_isTaken_1 : decode cX8_isTaken 1 = .ok (.iload_n 1, 1) := by decide +kernel
theorem dX8_isTaken_2 : decode cX8_isTaken 2 = .ok (.iload_n 2, 1) := by decide +kernel
theorem dX8_isTaken_3 : decode cX8_isTaken 3 = .ok (.invokevirtual 232, 3) := by decide +kernel
theorem dX8_isTaken_6 : decode cX8_isTaken 6 = .ok (.istore 4, 2) := by decide +kernel
theorem dX8_isTaken_8 : decode cX8_isTaken 8 = .ok (.iconst 0, 1) := by decide +kernel
theorem dX8_isTaken_9 : decode cX8_isTaken 9 = .ok (.istore 5, 2) := by decide +kernel
theorem dX8_isTaken_11 : decode cX8_isTaken 11 = .ok (.iload 5, 2) := by decide +kernel
theorem dX8_isTaken_13 : decode cX8_isTaken 13 = .ok (.aload_n 0, 1) := by decide +kernel
theorem dX8_isTaken_14 : decode cX8_isTaken 14 = .ok (.getfield 13, 3) := by decide +kernel
theorem dX8_isTaken_17 : decode cX8_isTaken 17 = .ok (.bipush 11, 2) := by decide +kernel
theorem dX8_isTaken_19 : decode cX8_isTaken 19 = .ok (.iaload, 1) := by decide +kernel
theorem dX8_isTaken_20 : decode cX8_isTaken 20 = .ok (.if_icmp .ge 49, 3) := by decide +kernel
theorem dX8_isTaken_23 : decode cX8_isTaken 23 = .ok (.iload 4, 2) := by decide +kernel
theorem dX8_isTaken_25 : decode cX8_isTaken 25 = .ok (.ifCond .ne 31, 3) := by decide +kernel
theorem dX8_isTaken_28 : decode cX8_isTaken 28 = .ok (.iload 5, 2) := by decide +kernel
theorem dX8_isTaken_30 : decode cX8_isTaken 30 = .ok (.iload_n 3, 1) := by decide +kernel
theorem dX8_isTaken_31 : decode cX8_isTaken 31 = .ok (.if_icmp .eq 29, 3) := by decide +kernel
theorem dX8_isTaken_34 : decode cX8_isTaken 34 = .ok (.aload_n 0, 1) := by decide +kernel
theorem dX8_isTaken_35 : decode cX8_isTaken 35 = .ok (.iload 5, 2) := by decide +kernel
theorem dX8_isTaken_37 : decode cX8_isTaken 37 = .ok (.iconst 0, 1) := by decide +kernel
theorem dX8_isTaken_38 : decode cX8_isTaken 38 = .ok (.invokevirtual 72, 3) := by decide +kernel
theorem dX8_isTaken_41 : decode cX8_isTaken 41 = .ok (.iload_n 1, 1) := by decide +kernel
theorem dX8_isTaken_42 : decode cX8_isTaken 42 = .ok (.if_icmp .ne 18, 3) := by decide +kernel
theorem dX8_isTaken_45 : decode cX8_isTaken 45 = .ok (.aload_n 0, 1) := by decide +kernel
theorem dX8_isTaken_46 : decode cX8_isTaken 46 = .ok (.iload 5, 2) := by decide +kernel
theorem dX8_isTaken_48 : decode cX8_isTaken 48 = .ok (.iconst 1, 1) := by decide +kernel
theorem dX8_isTaken_49 : decode cX8_isTaken 49 = .ok (.invokevirtual 72, 3) := by decide +kernel
theorem dX8_isTaken_52 : decode cX8_isTaken 52 = .ok (.iload_n 2, 1) := by decide +kernel
theorem dX8_isTaken_53 : decode cX8_isTaken 53 = .ok (.if_icmp .ne 7, 3) := by decide +kernel
theorem dX8_isTaken_56 : decode cX8_isTaken 56 = .ok (.iconst 1, 1) := by decide +kernel
theorem dX8_isTaken_57 : decode cX8_isTaken 57 = .ok (.goto 4, 3) := by decide +kernel
theorem dX8_isTaken_60 : decode cX8_isTaken 60 = .ok (.iconst 0, 1) := by decide +kernel
theorem dX8_isTaken_61 : decode cX8_isTaken 61 = .ok (.istore 4, 2) := by decide +kernel
theorem dX8_isTaken_63 : decode cX8_isTaken 63 = .ok (.iinc 5 1, 3) := by decide +kernel
theorem dX8_isTaken_66 : decode cX8_isTaken 66 = .ok (.goto (-55), 3) := by decide +kernel
theorem dX8_isTaken_69 : decode cX8_isTaken 69 = .ok (.iload 4, 2) := by decide +kernel
theorem dX8_isTaken_71 : decode cX8_isTaken 71 = .ok (.ireturn, 1) := by decide +kernel
theorem dX8_where_0 : decode cX8_where 0 = .ok (.aload_n 0, 1) := by decide +kernel
theorem dX8_where_1 : decode cX8_where 1 = .ok (.iload_n 1, 1) := by decide +kernel
theorem dX8_where_2 : decode cX8_where 2 = .ok (.invokevirtual 302, 3) := by decide +kernel
theorem dX8_where_5 : decode cX8_where 5 = .ok (.ifCond .eq 15, 3) := by decide +kernel
theorem dX8_where_8 : decode cX8_where 8 = .ok (.iload_n 2, 1) := by decide +kernel
theorem dX8_where_9 : decode cX8_where 9 = .ok (.i2l, 1) := by decide +kernel
theorem dX8_where_10 : decode cX8_where 10 = .ok (.lconst 0, 1) := by decide +kernel
theorem dX8_where_11 : decode cX8_where 11 = .ok (.ldc2_w 319, 3) := by decide +kernel
theorem dX8_where_14 : decode cX8_where 14 = .ok (.invokestatic 68, 3) := by decide +kernel
theorem dX8_where_17 : decode cX8_where 17 = .ok (.ifCond .ne 6, 3) := by decide +kernel
theorem dX8_where_20 : decode cX8_where 20 = .ok (.bipush (-2), 2) := by decide +kernel
theorem dX8_where_22 : decode cX8_where 22 = .ok (.ireturn, 1) := by decide +kernel
theorem dX8_where_23 : decode cX8_where 23 = .ok (.iconst (-1), 1) := by decide +kernel
theorem dX8_where_24 : decode cX8_where 24 = .ok (.istore_n 3, 1) := by decide +kernel
theorem dX8_where_25 : decode cX8_where 25 = .ok (.iconst 0, 1) := by decide +kernel
theorem dX8_where_26 : decode cX8_where 26 = .ok (.istore 4, 2) := by decide +kernel
theorem dX8_where_28 : decode cX8_where 28 = .ok (.aload_n 0, 1) := by decide +kernel
theorem dX8_where_29 : decode cX8_where 29 = .ok (.iload_n 1, 1) := by decide +kernel
theorem dX8_where_30 : decode cX8_where 30 = .ok (.iconst 1, 1) := by decide +kernel
theorem dX8_where_31 : decode cX8_where 31 = .ok (.invokevirtual 72, 3) := by decide +kernel
theorem dX8_where_34 : decode cX8_where 34 = .ok (.iload_n 2, 1) := by decide +kernel
theorem dX8_where_35 : decode cX8_where 35 = .ok (.isub, 1) := by decide +kernel
theorem dX8_where_36 : decode cX8_where 36 = .ok (.istore 5, 2) := by decide +kernel
theorem dX8_where_38 : decode cX8_where 38 = .ok (.iload 5, 2) := by decide +kernel
theorem dX8_where_40 : decode cX8_where 40 = .ok (.aload_n 0, 1) := by decide +kernel
theorem dX8_where_41 : decode cX8_where 41 = .ok (.iload_n 1, 1) := by decide +kernel
theorem dX8_where_42 : decode cX8_where 42 = .ok (.iconst 1, 1) := by decide +kernel
theorem dX8_where_43 : decode cX8_where 43 = .ok (.invokevirtual 72, 3) := by decide +kernel
theorem dX8_where_46 : decode cX8_where 46 = .ok (.iload_n 2, 1) := by decide +kernel
theorem dX8_where_47 : decode cX8_where 47 = .ok (.iadd, 1) := by decide +kernel
theorem dX8_where_48 : decode cX8_where 48 = .ok (.if_icmp .gt 101, 3) := by decide +kernel
theorem dX8_where_51 : decode cX8_where 51 = .ok (.aload_n 0, 1) := by decide +kernel
theorem dX8_where_52 : decode cX8_where 52 = .ok (.iload_n 1, 1) := by decide +kernel
theorem dX8_where_53 : decode cX8_where 53 = .ok (.iconst 0, 1) := by decide +kernel
theorem dX8_where_54 : decode cX8_where 54 = .ok (.invokevirtual 72, 3) := by decide +kernel
theorem dX8_where_57 : decode cX8_where 57 = .ok (.iload_n 2, 1) := by decide +kernel
theorem dX8_where_58 : decode cX8_where 58 = .ok (.isub, 1) := by decide +kernel
theorem dX8_where_59 : decode cX8_where 59 = .ok (.istore 6, 2) := by decide +kernel
theorem dX8_where_61 : decode cX8_where 61 = .ok (.iload 6, 2) := by decide +kernel
theorem dX8_where_63 : decode cX8_where 63 = .ok (.aload_n 0, 1) := by decide +kernel
theorem dX8_where_64 : decode cX8_where 64 = .ok (.iload_n 1, 1) := by decide +kernel
theorem dX8_where_65 : decode cX8_where 65 = .ok (.iconst 0, 1) := by decide +kernel
theorem dX8_where_66 : decode cX8_where 66 = .ok (.invokevirtual 72, 3) := by decide +kernel
theorem dX8_where_69 : decode cX8_where 69 = .ok (.iload_n 2, 1) := by decide +kernel
theorem dX8_where_70 : decode cX8_where 70 = .ok (.iadd, 1) := by decide +kernel
theorem dX8_where_71 : decode cX8_where 71 = .ok (.if_icmp .gt 72, 3) := by decide +kernel
theorem dX8_where_74 : decode cX8_where 74 = .ok (.aload_n 0, 1) := by decide +kernel
theorem dX8_where_75 : decode cX8_where 75 = .ok (.iload 6, 2) := by decide +kernel
theorem dX8_where_77 : decode cX8_where 77 = .ok (.iload 5, 2) := by decide +kernel
theorem dX8_where_79 : decode cX8_where 79 = .ok (.invokevirtual 248, 3) := by decide +kernel
theorem dX8_where_82 : decode cX8_where 82 = .ok (.ifCond .eq 55, 3) := by decide +kernel
theorem dX8_where_85 : decode cX8_where 85 = .ok (.aload_n 0, 1) := by decide +kernel
theorem dX8_where_86 : decode cX8_where 86 = .ok (.iload 6, 2) := by decide +kernel
theorem dX8_where_88 : decode cX8_where 88 = .ok (.iload 5, 2) := by decide +kernel
theorem dX8_where_90 : decode cX8_where 90 = .ok (.iload_n 1, 1) := by decide +kernel
theorem dX8_where_91 : decode cX8_where 91 = .ok (.invokevirtual 425, 3) := by decide +kernel
theorem dX8_where_94 : decode cX8_where 94 = .ok (.ifCond .ne 43, 3) := by decide +kernel
theorem dX8_where_97 : decode cX8_where 97 = .ok (.iload_n 3, 1) := by decide +kernel
theorem dX8_where_98 : decode cX8_where 98 = .ok (.iconst (-1), 1) := by decide +kernel
theorem dX8_where_99 : decode cX8_where 99 = .ok (.if_icmp .eq 19, 3) := by decide +kernel
theorem dX8_where_102 : decode cX8_where 102 = .ok (.aload_n 0, 1) := by decide +kernel
theorem dX8_where_103 : decode cX8_where 103 = .ok (.iload 6, 2) := by decide +kernel
theorem dX8_where_105 : decode cX8_where 105 = .ok (.iload 5, 2) := by decide +kernel
theorem dX8_where_107 : decode cX8_where 107 = .ok (.invokevirtual 76, 3) := by decide +kernel
theorem dX8_where_110 : decode cX8_where 110 = .ok (.iload 4, 2) := by decide +kernel
theorem dX8_where_112 : decode cX8_where 112 = .ok (.if_icmp .lt 6, 3) := by decide +kernel
theorem dX8_where_115 : decode cX8_where 115 = .ok (.goto 22, 3) := by decide +kernel
theorem dX8_where_118 : decode cX8_where 118 = .ok (.iload 6, 2) := by decide +kernel
theorem dX8_where_120 : decode cX8_where 120 = .ok (.bipush 100, 2) := by decide +kernel
theorem dX8_where_122 : decode cX8_where 122 = .ok (.iload 5, 2) := by decide +kernel
theorem dX8_where_124 : decode cX8_where 124 = .ok (.imul, 1) := by decide +kernel
theorem dX8_where_125 : decode cX8_where 125 = .ok (.iadd, 1) := by decide +kernel
theorem dX8_where_126 : decode cX8_where 126 = .ok (.istore_n 3, 1) := by decide +kernel
theorem dX8_where_127 : decode cX8_where 127 = .ok (.aload_n 0, 1) := by decide +kernel
theorem dX8_where_128 : decode cX8_where 128 = .ok (.iload 6, 2) := by decide +kernel
theorem dX8_where_130 : decode cX8_where 130 = .ok (.iload 5, 2) := by decide +kernel
theorem dX8_where_132 : decode cX8_where 132 = .ok (.invokevirtual 76, 3) := by decide +kernel
theorem dX8_where_135 : decode cX8_where 135 = .ok (.istore 4, 2) := by decide +kernel
theorem dX8_where_137 : decode cX8_where 137 = .ok (.iinc 6 1, 3) := by decide +kernel
theorem dX8_where_140 : decode cX8_where 140 = .ok (.goto (-79), 3) := by decide +kernel
theorem dX8_where_143 : decode cX8_where 143 = .ok (.iinc 5 1, 3) := by decide +kernel
theorem dX8_where_146 : decode cX8_where 146 = .ok (.goto (-108), 3) := by decide +kernel
theorem dX8_where_149 : decode cX8_where 149 = .ok (.iload_n 3, 1) := by decide +kernel
theorem dX8_where_150 : decode cX8_where 150 = .ok (.ireturn, 1) := by decide +kernel
theorem dX8_move_0 : decode cX8_move 0 = .ok (.aload_n 0, 1) := by decide +kernel
theorem dX8_move_1 : decode cX8_move 1 = .ok (.iload_n 1, 1) := by decide +kernel
theorem dX8_move_2 : decode cX8_move 2 = .ok (.invokevirtual 302, 3) := by decide +kernel
theorem dX8_move_5 : decode cX8_move 5 = .ok (.ifCond .eq 12, 3) := by decide +kernel
theorem dX8_move_8 : decode cX8_move 8 = .ok (.aload_n 0, 1) := by decide +kernel
theorem dX8_move_9 : decode cX8_move 9 = .ok (.iload_n 2, 1) := by decide +kernel
theorem dX8_move_10 : decode cX8_move 10 = .ok (.iload_n 3, 1) := by decide +kernel
theorem dX8_move_11 : decode cX8_move 11 = .ok (.invokevirtual 248, 3) := by decide +kernel
theorem dX8_move_14 : decode cX8_move 14 = .ok (.ifCond .ne 6, 3) := by decide +kernel
theorem dX8_move_17 : decode cX8_move 17 = .ok (.bipush (-2), 2) := by decide +kernel
theorem dX8_move_19 : decode cX8_move 19 = .ok (.ireturn, 1) := by decide +kernel
theorem dX8_move_20 : decode cX8_move 20 = .ok (.aload_n 0, 1) := by decide +kernel
theorem dX8_move_21 : decode cX8_move 21 = .ok (.iload_n 2, 1) := by decide +kernel
theorem dX8_move_22 : decode cX8_move 22 = .ok (.iload_n 3, 1) := by decide +kernel
theorem dX8_move_23 : decode cX8_move 23 = .ok (.iload_n 1, 1) := by decide +kernel
theorem dX8_move_24 : decode cX8_move 24 = .ok (.invokevirtual 425, 3) := by decide +kernel
theorem dX8_move_27 : decode cX8_move 27 = .ok (.ifCond .eq 6, 3) := by decide +kernel
theorem dX8_move_30 : decode cX8_move 30 = .ok (.bipush (-5), 2) := by decide +kernel
theorem dX8_move_32 : decode cX8_move 32 = .ok (.ireturn, 1) := by decide +kernel
theorem dX8_move_33 : decode cX8_move 33 = .ok (.bipush 100, 2) := by decide +kernel
theorem dX8_move_35 : decode cX8_move 35 = .ok (.aload_n 0, 1) := by decide +kernel
theorem dX8_move_36 : decode cX8_move 36 = .ok (.iload_n 1, 1) := by decide +kernel
theorem dX8_move_37 : decode cX8_move 37 = .ok (.iconst 1, 1) := by decide +kernel
theorem dX8_move_38 : decode cX8_move 38 = .ok (.invokevirtual 72, 3) := by decide +kernel
theorem dX8_move_41 : decode cX8_move 41 = .ok (.imul, 1) := by decide +kernel
theorem dX8_move_42 : decode cX8_move 42 = .ok (.aload_n 0, 1) := by decide +kernel
theorem dX8_move_43 : decode cX8_move 43 = .ok (.iload_n 1, 1) := by decide +kernel
theorem dX8_move_44 : decode cX8_move 44 = .ok (.iconst 0, 1) := by decide +kernel
theorem dX8_move_45 : decode cX8_move 45 = .ok (.invokevirtual 72, 3) := by decide +kernel
theorem dX8_move_48 : decode cX8_move 48 = .ok (.iadd, 1) := by decide +kernel
theorem dX8_move_49 : decode cX8_move 49 = .ok (.istore 4, 2) := by decide +kernel
theorem dX8_move_51 : decode cX8_move 51 = .ok (.aload_n 0, 1) := by decide +kernel
theorem dX8_move_52 : decode cX8_move 52 = .ok (.getfield 13, 3) := by decide +kernel
theorem dX8_move_55 : decode cX8_move 55 = .ok (.bipush 35, 2) := by decide +kernel
theorem dX8_move_57 : decode cX8_move 57 = .ok (.iconst 3, 1) := by decide +kernel
theorem dX8_move_58 : decode cX8_move 58 = .ok (.iload_n 1, 1) := by decide +kernel
theorem dX8_move_59 : decode cX8_move 59 = .ok (.imul, 1) := by decide +kernel
theorem dX8_move_60 : decode cX8_move 60 = .ok (.iadd, 1) := by decide +kernel
theorem dX8_move_61 : decode cX8_move 61 = .ok (.iload_n 2, 1) := by decide +kernel
theorem dX8_move_62 : decode cX8_move 62 = .ok (.iastore, 1) := by decide +kernel
theorem dX8_move_63 : decode cX8_move 63 = .ok (.aload_n 0, 1) := by decide +kernel
theorem dX8_move_64 : decode cX8_move 64 = .ok (.getfield 13, 3) := by decide +kernel
theorem dX8_move_67 : decode cX8_move 67 = .ok (.bipush 35, 2) := by decide +kernel
theorem dX8_move_69 : decode cX8_move 69 = .ok (.iconst 3, 1) := by decide +kernel
theorem dX8_move_70 : decode cX8_move 70 = .ok (.iload_n 1, 1) := by decide +kernel
theorem dX8_move_71 : decode cX8_move 71 = .ok (.imul, 1) := by decide +kernel
theorem dX8_move_72 : decode cX8_move 72 = .ok (.iadd, 1) := by decide +kernel
theorem dX8_move_73 : decode cX8_move 73 = .ok (.iconst 1, 1) := by decide +kernel
theorem dX8_move_74 : decode cX8_move 74 = .ok (.iadd, 1) := by decide +kernel
theorem dX8_move_75 : decode cX8_move 75 = .ok (.iload_n 3, 1) := by decide +kernel
theorem dX8_move_76 : decode cX8_move 76 = .ok (.iastore, 1) := by decide +kernel
theorem dX8_move_77 : decode cX8_move 77 = .ok (.iload 4, 2) := by decide +kernel
theorem dX8_move_79 : decode cX8_move 79 = .ok (.ireturn, 1) := by decide +kernel
theorem dX8_isBow_0 : decode cX8_isBow 0 = .ok (.aload_n 0, 1) := by decide +kernel
theorem dX8_isBow_1 : decode cX8_isBow 1 = .ok (.getfield 13, 3) := by decide +kernel
theorem dX8_isBow_4 : decode cX8_isBow 4 = .ok (.iconst 3, 1) := by decide +kernel
theorem dX8_isBow_5 : decode cX8_isBow 5 = .ok (.iaload, 1) := by decide +kernel
theorem dX8_isBow_6 : decode cX8_isBow 6 = .ok (.iload_n 1, 1) := by decide +kernel
theorem dX8_isBow_7 : decode cX8_isBow 7 = .ok (.isub, 1) := by decide +kernel
theorem dX8_isBow_8 : decode cX8_isBow 8 = .ok (.istore 4, 2) := by decide +kernel
theorem dX8_isBow_10 : decode cX8_isBow 10 = .ok (.aload_n 0, 1) := by decide +kernel
theorem dX8_isBow_11 : decode cX8_isBow 11 = .ok (.getfield 13, 3) := by decide +kernel
theorem dX8_isBow_14 : decode cX8_isBow 14 = .ok (.iconst 4, 1) := by decide +kernel
theorem dX8_isBow_15 : decode cX8_isBow 15 = .ok (.iaload, 1) := by decide +kernel
theorem dX8_isBow_16 : decode cX8_isBow 16 = .ok (.iload_n 2, 1) := by decide +kernel
theorem dX8_isBow_17 : decode cX8_isBow 17 = .ok (.isub, 1) := by decide +kernel
theorem dX8_isBow_18 : decode cX8_isBow 18 = .ok (.istore 5, 2) := by decide +kernel
theorem dX8_isBow_20 : decode cX8_isBow 20 = .ok (.iload_n 3, 1) := by decide +kernel
theorem dX8_isBow_21 : decode cX8_isBow 21 = .ok (.ifCond .ne 9, 3) := by decide +kernel
theorem dX8_isBow_24 : decode cX8_isBow 24 = .ok (.iload 5, 2) := by decide +kernel
theorem dX8_isBow_26 : decode cX8_isBow 26 = .ok (.ineg, 1) := by decide +kernel
theorem dX8_isBow_27 : decode cX8_isBow 27 = .ok (.goto 26, 3) := by decide +kernel
theorem dX8_isBow_30 : decode cX8_isBow 30 = .ok (.iload_n 3, 1) := by decide +kernel
theorem dX8_isBow_31 : decode cX8_isBow 31 = .ok (.iconst 1, 1) := by decide +kernel
theorem dX8_isBow_32 : decode cX8_isBow 32 = .ok (.if_icmp .ne 8, 3) := by decide +kernel
theorem dX8_isBow_35 : decode cX8_isBow 35 = .ok (.iload 4, 2) := by decide +kernel
theorem dX8_isBow_37 : decode cX8_isBow 37 = .ok (.goto 16, 3) := by decide +kernel
theorem dX8_isBow_40 : decode cX8_isBow 40 = .ok (.iload_n 3, 1) := by decide +kernel
theorem dX8_isBow_41 : decode cX8_isBow 41 = .ok (.iconst 2, 1) := by decide +kernel
theorem dX8_isBow_42 : decode cX8_isBow 42 = .ok (.if_icmp .ne 8, 3) := by decide +kernel
theorem dX8_isBow_45 : decode cX8_isBow 45 = .ok (.iload 5, 2) := by decide +kernel
theorem dX8_isBow_47 : decode cX8_isBow 47 = .ok (.goto 6, 3) := by decide +kernel
theorem dX8_isBow_50 : decode cX8_isBow 50 = .ok (.iload 4, 2) := by decide +kernel
theorem dX8_isBow_52 : decode cX8_isBow 52 = .ok (.ineg, 1) := by decide +kernel
theorem dX8_isBow_53 : decode cX8_isBow 53 = .ok (.istore 6, 2) := by decide +kernel
theorem dX8_isBow_55 : decode cX8_isBow 55 = .ok (.iload_n 3, 1) := by decide +kernel
theorem dX8_isBow_56 : decode cX8_isBow 56 = .ok (.iconst 2, 1) := by decide +kernel
theorem dX8_isBow_57 : decode cX8_isBow 57 = .ok (.irem, 1) := by decide +kernel
theorem dX8_isBow_58 : decode cX8_isBow 58 = .ok (.ifCond .ne 11, 3) := by decide +kernel
theorem dX8_isBow_61 : decode cX8_isBow 61 = .ok (.iload 4, 2) := by decide +kernel
theorem dX8_isBow_63 : decode cX8_isBow 63 = .ok (.invokestatic 223, 3) := by decide +kernel
theorem dX8_isBow_66 : decode cX8_isBow 66 = .ok (.goto 8, 3) := by decide +kernel
theorem dX8_isBow_69 : decode cX8_isBow 69 = .ok (.iload 5, 2) := by decide +kernel
theorem dX8_isBow_71 : decode cX8_isBow 71 = .ok (.invokestatic 223, 3) := by decide +kernel
theorem dX8_isBow_74 : decode cX8_isBow 74 = .ok (.istore 7, 2) := by decide +kernel
theorem dX8_isBow_76 : decode cX8_isBow 76 = .ok (.iload 6, 2) := by decide +kernel
theorem dX8_isBow_78 : decode cX8_isBow 78 = .ok (.ifCond .le 16, 3) := by decide +kernel
theorem dX8_isBow_81 : decode cX8_isBow 81 = .ok (.iload 7, 2) := by decide +kernel
theorem dX8_isBow_83 : decode cX8_isBow 83 = .ok (.iload 6, 2) := by decide +kernel
theorem dX8_isBow_85 : decode cX8_isBow 85 = .ok (.iconst 2, 1) := by decide +kernel
theorem dX8_isBow_86 : decode cX8_isBow 86 = .ok (.idiv, 1) := by decide +kernel
theorem dX8_isBow_87 : decode cX8_isBow 87 = .ok (.if_icmp .gt 7, 3) := by decide +kernel
theorem dX8_isBow_90 : decode cX8_isBow 90 = .ok (.iconst 1, 1) := by decide +kernel
theorem dX8_isBow_91 : decode cX8_isBow 91 = .ok (.goto 4, 3) := by decide +kernel
theorem dX8_isBow_94 : decode cX8_isBow 94 = .ok (.iconst 0, 1) := by decide +kernel
theorem dX8_isBow_95 : decode cX8_isBow 95 = .ok (.ireturn, 1) := by decide +kernel
theorem dX8_bow_0 : decode cX8_bow 0 = .ok (.aload_n 0, 1) := by decide +kernel
theorem dX8_bow_1 : decode cX8_bow 1 = .ok (.iload_n 1, 1) := by decide +kernel
theorem dX8_bow_2 : decode cX8_bow 2 = .ok (.iload_n 2, 1) := by decide +kernel
theorem dX8_bow_3 : decode cX8_bow 3 = .ok (.invokevirtual 248, 3) := by decide +kernel
theorem dX8_bow_6 : decode cX8_bow 6 = .ok (.ifCond .eq 33, 3) := by decide +kernel
theorem dX8_bow_9 : decode cX8_bow 9 = .ok (.iload_n 3, 1) := by decide +kernel
theorem dX8_bow_10 : decode cX8_bow 10 = .ok (.i2l, 1) := by decide +kernel
theorem dX8_bow_11 : decode cX8_bow 11 = .ok (.lconst 0, 1) := by decide +kernel
theorem dX8_bow_12 : decode cX8_bow 12 = .ok (.ldc2_w 305, 3) := by decide +kernel
theorem dX8_bow_15 : decode cX8_bow 15 = .ok (.invokestatic 68, 3) := by decide +kernel
theorem dX8_bow_18 : decode cX8_bow 18 = .ok (.ifCond .eq 21, 3) := by decide +kernel
theorem dX8_bow_21 : decode cX8_bow 21 = .ok (.aload_n 0, 1) := by decide +kernel
theorem dX8_bow_22 : decode cX8_bow 22 = .ok (.iload_n 1, 1) := by decide +kernel
theorem dX8_bow_23 : decode cX8_bow 23 = .ok (.iload_n 2, 1) := by decide +kernel
theorem dX8_bow_24 : decode cX8_bow 24 = .ok (.iload_n 3, 1) := by decide +kernel
theorem dX8_bow_25 : decode cX8_bow 25 = .ok (.invokevirtual 428, 3) := by decide +kernel
theorem dX8_bow_28 : decode cX8_bow 28 = .ok (.ifCond .eq 7, 3) := by decide +kernel
theorem dX8_bow_31 : decode cX8_bow 31 = .ok (.iconst 1, 1) := by decide +kernel
theorem dX8_bow_32 : decode cX8_bow 32 = .ok (.goto 9, 3) := by decide +kernel
theorem dX8_bow_35 : decode cX8_bow 35 = .ok (.iconst 0, 1) := by decide +kernel
theorem dX8_bow_36 : decode cX8_bow 36 = .ok (.goto 5, 3) := by decide +kernel
theorem dX8_bow_39 : decode cX8_bow 39 = .ok (.bipush (-2), 2) := by decide +kernel
theorem dX8_bow_41 : decode cX8_bow 41 = .ok (.ireturn, 1) := by decide +kernel
theorem dX8_bows_0 : decode cX8_bows 0 = .ok (.aload_n 0, 1) := by decide +kernel
theorem dX8_bows_1 : decode cX8_bows 1 = .ok (.invokevirtual 278, 3) := by decide +kernel
theorem dX8_bows_4 : decode cX8_bows 4 = .ok (.ifCond .eq 15, 3) := by decide +kernel
theorem dX8_bows_7 : decode cX8_bows 7 = .ok (.iload_n 1, 1) := by decide +kernel
theorem dX8_bows_8 : decode cX8_bows 8 = .ok (.i2l, 1) := by decide +kernel
theorem dX8_bows_9 : decode cX8_bows 9 = .ok (.lconst 0, 1) := by decide +kernel
theorem dX8_bows_10 : decode cX8_bows 10 = .ok (.ldc2_w 305, 3) := by decide +kernel
theorem dX8_bows_13 : decode cX8_bows 13 = .ok (.invokestatic 68, 3) := by decide +kernel
theorem dX8_bows_16 : decode cX8_bows 16 = .ok (.ifCond .ne 6, 3) := by decide +kernel
theorem dX8_bows_19 : decode cX8_bows 19 = .ok (.bipush (-2), 2) := by decide +kernel
theorem dX8_bows_21 : decode cX8_bows 21 = .ok (.ireturn, 1) := by decide +kernel
theorem dX8_bows_22 : decode cX8_bows 22 = .ok (.iconst 0, 1) := by decide +kernel
theorem dX8_bows_23 : decode cX8_bows 23 = .ok (.istore_n 2, 1) := by decide +kernel
theorem dX8_bows_24 : decode cX8_bows 24 = .ok (.iconst 0, 1) := by decide +kernel
theorem dX8_bows_25 : decode cX8_bows 25 = .ok (.istore_n 3, 1) := by decide +kernel
theorem dX8_bows_26 : decode cX8_bows 26 = .ok (.iload_n 3, 1) := by decide +kernel
theorem dX8_bows_27 : decode cX8_bows 27 = .ok (.aload_n 0, 1) := by decide +kernel
theorem dX8_bows_28 : decode cX8_bows 28 = .ok (.getfield 13, 3) := by decide +kernel
theorem dX8_bows_31 : decode cX8_bows 31 = .ok (.iconst 2, 1) := by decide +kernel
theorem dX8_bows_32 : decode cX8_bows 32 = .ok (.iaload, 1) := by decide +kernel
theorem dX8_bows_33 : decode cX8_bows 33 = .ok (.if_icmp .ge 58, 3) := by decide +kernel
theorem dX8_bows_36 : decode cX8_bows 36 = .ok (.iconst 0, 1) := by decide +kernel
theorem dX8_bows_37 : decode cX8_bows 37 = .ok (.istore 4, 2) := by decide +kernel
theorem dX8_bows_39 : decode cX8_bows 39 = .ok (.iload 4, 2) := by decide +kernel
theorem dX8_bows_41 : decode cX8_bows 41 = .ok (.aload_n 0, 1) := by decide +kernel
theorem dX8_bows_42 : decode cX8_bows 42 = .ok (.getfield 13, 3) := by decide +kernel
theorem dX8_bows_45 : decode cX8_bows 45 = .ok (.iconst 1, 1) := by decide +kernel
theorem dX8_bows_46 : decode cX8_bows 46 = .ok (.iaload, 1) := by decide +kernel
theorem dX8_bows_47 : decode cX8_bows 47 = .ok (.if_icmp .ge 38, 3) := by decide +kernel
theorem dX8_bows_50 : decode cX8_bows 50 = .ok (.iload_n 2, 1) := by decide +kernel
theorem dX8_bows_51 : decode cX8_bows 51 = .ok (.aload_n 0, 1) := by decide +kernel
theorem dX8_bows_52 : decode cX8_bows 52 = .ok (.iload 4, 2) := by decide +kernel
theorem dX8_bows_54 : decode cX8_bows 54 = .ok (.iload_n 3, 1) := by decide +kernel
theorem dX8_bows_55 : decode cX8_bows 55 = .ok (.invokevirtual 232, 3) := by decide +kernel
theorem dX8_bows_58 : decode cX8_bows 58 = .ok (.ifCond .ne 18, 3) := by decide +kernel
theorem dX8_bows_61 : decode cX8_bows 61 = .ok (.aload_n 0, 1) := by decide +kernel
theorem dX8_bows_62 : decode cX8_bows 62 = .ok (.iload 4, 2) := by decide +kernel
theorem dX8_bows_64 : decode cX8_bows 64 = .ok (.iload_n 3, 1) := by decide +kernel
theorem dX8_bows_65 : decode cX8_bows 65 = .ok (.iload_n 1, 1) := by decide +kernel
theorem dX8_bows_66 : decode cX8_bows 66 = .ok (.invokevirtual 428, 3) := by decide +kernel
theorem dX8_bows_69 : decode cX8_bows 69 = .ok (.ifCond .eq 7, 3) := by decide +kernel
theorem dX8_bows_72 : decode cX8_bows 72 = .ok (.iconst 1, 1) := by decide +kernel
theorem dX8_bows_73 : decode cX8_bows 73 = .ok (.goto 4, 3) := by decide +kernel
theorem dX8_bows_76 : decode cX8_bows 76 = .ok (.iconst 0, 1) := by decide +kernel
theorem dX8_bows_77 : decode cX8_bows 77 = .ok (.iadd, 1) := by decide +kernel
theorem dX8_bows_78 : decode cX8_bows 78 = .ok (.istore_n 2, 1) := by decide +kernel
theorem dX8_bows_79 : decode cX8_bows 79 = .ok (.iinc 4 1, 3) := by decide +kernel
theorem dX8_bows_82 : decode cX8_bows 82 = .ok (.goto (-43), 3) := by decide +kernel
theorem dX8_bows_85 : decode cX8_bows 85 = .ok (.iinc 3 1, 3) := by decide +kernel
theorem dX8_bows_88 : decode cX8_bows 88 = .ok (.goto (-62), 3) := by decide +kernel
theorem dX8_bows_91 : decode cX8_bows 91 = .ok (.iload_n 2, 1) := by decide +kernel
theorem dX8_bows_92 : decode cX8_bows 92 = .ok (.ireturn, 1) := by decide +kernel
theorem dX8_mist_0 : decode cX8_mist 0 = .ok (.aload_n 0, 1) := by decide +kernel
theorem dX8_mist_1 : decode cX8_mist 1 = .ok (.iload_n 1, 1) := by decide +kernel
theorem dX8_mist_2 : decode cX8_mist 2 = .ok (.invokevirtual 325, 3) := by decide +kernel
theorem dX8_mist_5 : decode cX8_mist 5 = .ok (.ifCond .eq 11, 3) := by decide +kernel
theorem dX8_mist_8 : decode cX8_mist 8 = .ok (.iload_n 2, 1) := by decide +kernel
theorem dX8_mist_9 : decode cX8_mist 9 = .ok (.i2l, 1) := by decide +kernel
theorem dX8_mist_10 : decode cX8_mist 10 = .ok (.invokestatic 281, 3) := by decide +kernel
theorem dX8_mist_13 : decode cX8_mist 13 = .ok (.ifCond .ne 6, 3) := by decide +kernel
theorem dX8_mist_16 : decode cX8_mist 16 = .ok (.bipush (-2), 2) := by decide +kernel
theorem dX8_mist_18 : decode cX8_mist 18 = .ok (.ireturn, 1) := by decide +kernel
theorem dX8_mist_19 : decode cX8_mist 19 = .ok (.iconst 0, 1) := by decide +kernel
theorem dX8_mist_20 : decode cX8_mist 20 = .ok (.istore_n 3, 1) := by decide +kernel
theorem dX8_mist_21 : decode cX8_mist 21 = .ok (.iload_n 3, 1) := by decide +kernel
theorem dX8_mist_22 : decode cX8_mist 22 = .ok (.sipush 900, 3) := by decide +kernel
theorem dX8_mist_25 : decode cX8_mist 25 = .ok (.if_icmp .ge 16, 3) := by decide +kernel
theorem dX8_mist_28 : decode cX8_mist 28 = .ok (.aload_n 0, 1) := by decide +kernel
theorem dX8_mist_29 : decode cX8_mist 29 = .ok (.getfield 46, 3) := by decide +kernel
theorem dX8_mist_32 : decode cX8_mist 32 = .ok (.iload_n 3, 1) := by decide +kernel
theorem dX8_mist_33 : decode cX8_mist 33 = .ok (.iconst 0, 1) := by decide +kernel
theorem dX8_mist_34 : decode cX8_mist 34 = .ok (.bastore, 1) := by decide +kernel
theorem dX8_mist_35 : decode cX8_mist 35 = .ok (.iinc 3 1, 3) := by decide +kernel
theorem dX8_mist_38 : decode cX8_mist 38 = .ok (.goto (-17), 3) := by decide +kernel
theorem dX8_mist_41 : decode cX8_mist 41 = .ok (.iconst 0, 1) := by decide +kernel
theorem dX8_mist_42 : decode cX8_mist 42 = .ok (.istore_n 3, 1) := by decide +kernel
theorem dX8_mist_43 : decode cX8_mist 43 = .ok (.iconst 1, 1) := by decide +kernel
theorem dX8_mist_44 : decode cX8_mist 44 = .ok (.istore 4, 2) := by decide +kernel
theorem dX8_mist_46 : decode cX8_mist 46 = .ok (.iload 4, 2) := by decide +kernel
theorem dX8_mist_48 : decode cX8_mist 48 = .ok (.bipush 60, 2) := by decide +kernel
theorem dX8_mist_50 : decode cX8_mist 50 = .ok (.if_icmp .gt 119, 3) := by decide +kernel
theorem dX8_mist_53 : decode cX8_mist 53 = .ok (.aload_n 0, 1) := by decide +kernel
theorem dX8_mist_54 : decode cX8_mist 54 = .ok (.aload_n 0, 1) := by decide +kernel
theorem dX8_mist_55 : decode cX8_mist 55 = .ok (.iload_n 1, 1) := by decide +kernel
theorem dX8_mist_56 : decode cX8_mist 56 = .ok (.invokevirtual 257, 3) := by decide +kernel
theorem dX8_mist_59 : decode cX8_mist 59 = .ok (.iload 4, 2) := by decide +kernel
theorem dX8_mist_61 : decode cX8_mist 61 = .ok (.iload_n 2, 1) := by decide +kernel
theorem dX8_mist_62 : decode cX8_mist 62 = .ok (.invokevirtual 328, 3) := by decide +kernel
theorem dX8_mist_65 : decode cX8_mist 65 = .ok (.istore 5, 2) := by decide +kernel
theorem dX8_mist_67 : decode cX8_mist 67 = .ok (.aload_n 0, 1) := by decide +kernel
theorem dX8_mist_68 : decode cX8_mist 68 = .ok (.aload_n 0, 1) := by decide +kernel
theorem dX8_mist_69 : decode cX8_mist 69 = .ok (.iload_n 1, 1) := by decide +kernel
theorem dX8_mist_70 : decode cX8_mist 70 = .ok (.invokevirtual 257, 3) := by decide +kernel
theorem dX8_mist_73 : decode cX8_mist 73 = .ok (.iload 4, 2) := by decide +kernel
theorem dX8_mist_75 : decode cX8_mist 75 = .ok (.iload_n 2, 1) := by decide +kernel
theorem dX8_mist_76 : decode cX8_mist 76 = .ok (.invokevirtual 331, 3) := by decide +kernel
theorem dX8_mist_79 : decode cX8_mist 79 = .ok (.istore 6, 2) := by decide +kernel
theorem dX8_mist_81 : decode cX8_mist 81 = .ok (.aload_n 0, 1) := by decide +kernel
theorem dX8_mist_82 : decode cX8_mist 82 = .ok (.iload 5, 2) := by decide +kernel
theorem dX8_mist_84 : decode cX8_mist 84 = .ok (.iload 6, 2) := by decide +kernel
theorem dX8_mist_86 : decode cX8_mist 86 = .ok (.invokevirtual 236, 3) := by decide +kernel
theorem dX8_mist_89 : decode cX8_mist 89 = .ok (.ifCond .ne 74, 3) := by decide +kernel
theorem dX8_mist_92 : decode cX8_mist 92 = .ok (.aload_n 0, 1) := by decide +kernel
theorem dX8_mist_93 : decode cX8_mist 93 = .ok (.aload_n 0, 1) := by decide +kernel
theorem dX8_mist_94 : decode cX8_mist 94 = .ok (.iload 5, 2) := by decide +kernel
theorem dX8_mist_96 : decode cX8_mist 96 = .ok (.invokevirtual 226, 3) := by decide +kernel
theorem dX8_mist_99 : decode cX8_mist 99 = .ok (.aload_n 0, 1) := by decide +kernel
theorem dX8_mist_100 : decode cX8_mist 100 = .ok (.iload 6, 2) := by decide +kernel
theorem dX8_mist_102 : decode cX8_mist 102 = .ok (.invokevirtual 229, 3) := by decide +kernel
theorem dX8_mist_105 : decode cX8_mist 105 = .ok (.invokevirtual 248, 3) := by decide +kernel
theorem dX8_mist_108 : decode cX8_mist 108 = .ok (.ifCond .eq 55, 3) := by decide +kernel
theorem dX8_mist_111 : decode cX8_mist 111 = .ok (.aload_n 0, 1) := by decide +kernel
theorem dX8_mist_112 : decode cX8_mist 112 = .ok (.getfield 46, 3) := by decide +kernel
theorem dX8_mist_115 : decode cX8_mist 115 = .ok (.bipush 30, 2) := by decide +kernel
theorem dX8_mist_117 : decode cX8_mist 117 = .ok (.aload_n 0, 1) := by decide +kernel
theorem dX8_mist_118 : decode cX8_mist 118 = .ok (.iload 6, 2) := by decide +kernel
theorem dX8_mist_120 : decode cX8_mist 120 = .ok (.invokevirtual 229, 3) := by decide +kernel
theorem dX8_mist_123 : decode cX8_mist 123 = .ok (.imul, 1) := by decide +kernel
theorem dX8_mist_124 : decode cX8_mist 124 = .ok (.aload_n 0, 1) := by decide +kernel
theorem dX8_mist_125 : decode cX8_mist 125 = .ok (.iload 5, 2) := by decide +kernel
theorem dX8_mist_127 : decode cX8_mist 127 = .ok (.invokevirtual 226, 3) := by decide +kernel
theorem dX8_mist_130 : decode cX8_mist 130 = .ok (.iadd, 1) := by decide +kernel
theorem dX8_mist_131 : decode cX8_mist 131 = .ok (.baload, 1) := by decide +kernel
theorem dX8_mist_132 : decode cX8_mist 132 = .ok (.ifCond .eq 6, 3) := by decide +kernel
theorem dX8_mist_135 : decode cX8_mist 135 = .ok (.goto 28, 3) := by decide +kernel
theorem dX8_mist_138 : decode cX8_mist 138 = .ok (.aload_n 0, 1) := by decide +kernel
theorem dX8_mist_139 : decode cX8_mist 139 = .ok (.getfield 46, 3) := by decide +kernel
theorem dX8_mist_142 : decode cX8_mist 142 = .ok (.bipush 30, 2) := by decide +kernel
theorem dX8_mist_144 : decode cX8_mist 144 = .ok (.aload_n 0, 1) := by decide +kernel
theorem dX8_mist_145 : decode cX8_mist 145 = .ok (.iload 6, 2) := by decide +kernel
theorem dX8_mist_147 : decode cX8_mist 147 = .ok (.invokevirtual 229, 3) := by decide +kernel
theorem dX8_mist_150 : decode cX8_mist 150 = .ok (.imul, 1) := by decide +kernel
theorem dX8_mist_151 : decode cX8_mist 151 = .ok (.aload_n 0, 1) := by decide +kernel
theorem dX8_mist_152 : decode cX8_mist 152 = .ok (.iload 5, 2) := by decide +kernel
theorem dX8_mist_154 : decode cX8_mist 154 = .ok (.invokevirtual 226, 3) := by decide +kernel
theorem dX8_mist_157 : decode cX8_mist 157 = .ok (.iadd, 1) := by decide +kernel
theorem dX8_mist_158 : decode cX8_mist 158 = .ok (.iconst 1, 1) := by decide +kernel
theorem dX8_mist_159 : decode cX8_mist 159 = .ok (.bastore, 1) := by decide +kernel
theorem dX8_mist_160 : decode cX8_mist 160 = .ok (.iinc 3 1, 3) := by decide +kernel
theorem dX8_mist_163 : decode cX8_mist 163 = .ok (.iinc 4 1, 3) := by decide +kernel
theorem dX8_mist_166 : decode cX8_mist 166 = .ok (.goto (-120), 3) := by decide +kernel
theorem dX8_mist_169 : decode cX8_mist 169 = .ok (.iload_n 3, 1) := by decide +kernel
theorem dX8_mist_170 : decode cX8_mist 170 = .ok (.ireturn, 1) := by decide +kernel
theorem dX8_sum_0 : decode cX8_sum 0 = .ok (.aload_n 0, 1) := by decide +kernel
theorem dX8_sum_1 : decode cX8_sum 1 = .ok (.iload_n 1, 1) := by decide +kernel
theorem dX8_sum_2 : decode cX8_sum 2 = .ok (.iload_n 2, 1) := by decide +kernel
theorem dX8_sum_3 : decode cX8_sum 3 = .ok (.invokevirtual 248, 3) := by decide +kernel
theorem dX8_sum_6 : decode cX8_sum 6 = .ok (.ifCond .eq 28, 3) := by decide +kernel
theorem dX8_sum_9 : decode cX8_sum 9 = .ok (.iload_n 3, 1) := by decide +kernel
theorem dX8_sum_10 : decode cX8_sum 10 = .ok (.i2l, 1) := by decide +kernel
theorem dX8_sum_11 : decode cX8_sum 11 = .ok (.lconst 1, 1) := by decide +kernel
theorem dX8_sum_12 : decode cX8_sum 12 = .ok (.ldc2_w 431, 3) := by decide +kernel
theorem dX8_sum_15 : decode cX8_sum 15 = .ok (.invokestatic 68, 3) := by decide +kernel
theorem dX8_sum_18 : decode cX8_sum 18 = .ok (.ifCond .eq 16, 3) := by decide +kernel
theorem dX8_sum_21 : decode cX8_sum 21 = .ok (.iload 4, 2) := by decide +kernel
theorem dX8_sum_23 : decode cX8_sum 23 = .ok (.i2l, 1) := by decide +kernel
theorem dX8_sum_24 : decode cX8_sum 24 = .ok (.lconst 1, 1) := by decide +kernel
theorem dX8_sum_25 : decode cX8_sum 25 = .ok (.ldc2_w 431, 3) := by decide +kernel
theorem dX8_sum_28 : decode cX8_sum 28 = .ok (.invokestatic 68, 3) := by decide +kernel
theorem dX8_sum_31 : decode cX8_sum 31 = .ok (.ifCond .ne 6, 3) := by decide +kernel
theorem dX8_sum_34 : decode cX8_sum 34 = .ok (.bipush (-2), 2) := by decide +kernel
theorem dX8_sum_36 : decode cX8_sum 36 = .ok (.ireturn, 1) := by decide +kernel
theorem dX8_sum_37 : decode cX8_sum 37 = .ok (.iconst 0, 1) := by decide +kernel
theorem dX8_sum_38 : decode cX8_sum 38 = .ok (.istore 5, 2) := by decide +kernel
theorem dX8_sum_40 : decode cX8_sum 40 = .ok (.iload_n 2, 1) := by decide +kernel
theorem dX8_sum_41 : decode cX8_sum 41 = .ok (.istore 6, 2) := by decide +kernel
theorem dX8_sum_43 : decode cX8_sum 43 = .ok (.iload 6, 2) := by decide +kernel
theorem dX8_sum_45 : decode cX8_sum 45 = .ok (.iload_n 2, 1) := by decide +kernel
theorem dX8_sum_46 : decode cX8_sum 46 = .ok (.iload 4, 2) := by decide +kernel
theorem dX8_sum_48 : decode cX8_sum 48 = .ok (.iadd, 1) := by decide +kernel
theorem dX8_sum_49 : decode cX8_sum 49 = .ok (.aload_n 0, 1) := by decide +kernel
theorem dX8_sum_50 : decode cX8_sum 50 = .ok (.getfield 13, 3) := by decide +kernel
theorem dX8_sum_53 : decode cX8_sum 53 = .ok (.iconst 2, 1) := by decide +kernel
theorem dX8_sum_54 : decode cX8_sum 54 = .ok (.iaload, 1) := by decide +kernel
theorem dX8_sum_55 : decode cX8_sum 55 = .ok (.invokestatic 110, 3) := by decide +kernel
theorem dX8_sum_58 : decode cX8_sum 58 = .ok (.if_icmp .ge 48, 3) := by decide +kernel
theorem dX8_sum_61 : decode cX8_sum 61 = .ok (.iload_n 1, 1) := by decide +kernel
theorem dX8_sum_62 : decode cX8_sum 62 = .ok (.istore 7, 2) := by decide +kernel
theorem dX8_sum_64 : decode cX8_sum 64 = .ok (.iload 7, 2) := by decide +kernel
theorem dX8_sum_66 : decode cX8_sum 66 = .ok (.iload_n 1, 1) := by decide +kernel
theorem dX8_sum_67 : decode cX8_sum 67 = .ok (.iload_n 3, 1) := by decide +kernel
theorem dX8_sum_68 : decode cX8_sum 68 = .ok (.iadd, 1) := by decide +kernel
theorem dX8_sum_69 : decode cX8_sum 69 = .ok (.aload_n 0, 1) := by decide +kernel
theorem dX8_sum_70 : decode cX8_sum 70 = .ok (.getfield 13, 3) := by decide +kernel
theorem dX8_sum_73 : decode cX8_sum 73 = .ok (.iconst 1, 1) := by decide +kernel
theorem dX8_sum_74 : decode cX8_sum 74 = .ok (.iaload, 1) := by decide +kernel
theorem dX8_sum_75 : decode cX8_sum 75 = .ok (.invokestatic 110, 3) := by decide +kernel
theorem dX8_sum_78 : decode cX8_sum 78 = .ok (.if_icmp .ge 22, 3) := by decide +kernel
theorem dX8_sum_81 : decode cX8_sum 81 = .ok (.iload 5, 2) := by decide +kernel
theorem dX8_sum_83 : decode cX8_sum 83 = .ok (.aload_n 0, 1) := by decide +kernel
theorem dX8_sum_84 : decode cX8_sum 84 = .ok (.iload 7, 2) := by decide +kernel
theorem dX8_sum_86 : decode cX8_sum 86 = .ok (.iload 6, 2) := by decide +kernel
theorem dX8_sum_88 : decode cX8_sum 88 = .ok (.invokevirtual 76, 3) := by decide +kernel
theorem dX8_sum_91 : decode cX8_sum 91 = .ok (.iadd, 1) := by decide +kernel
theorem dX8_sum_92 : decode cX8_sum 92 = .ok (.istore 5, 2) := by decide +kernel
theorem dX8_sum_94 : decode cX8_sum 94 = .ok (.iinc 7 1, 3) := by decide +kernel
theorem dX8_sum_97 : decode cX8_sum 97 = .ok (.goto (-33), 3) := by decide +kernel
theorem dX8_sum_100 : decode cX8_sum 100 = .ok (.iinc 6 1, 3) := by decide +kernel
theorem dX8_sum_103 : decode cX8_sum 103 = .ok (.goto (-60), 3) := by decide +kernel
theorem dX8_sum_106 : decode cX8_sum 106 = .ok (.iload 5, 2) := by decide +kernel
theorem dX8_sum_108 : decode cX8_sum 108 = .ok (.ireturn, 1) := by decide +kernel
theorem dX8_wettest_0 : decode cX8_wettest 0 = .ok (.aload_n 0, 1) := by decide +kernel
theorem dX8_wettest_1 : decode cX8_wettest 1 = .ok (.invokevirtual 278, 3) := by decide +kernel
theorem dX8_wettest_4 : decode cX8_wettest 4 = .ok (.ifCond .eq 13, 3) := by decide +kernel
theorem dX8_wettest_7 : decode cX8_wettest 7 = .ok (.iload_n 1, 1) := by decide +kernel
theorem dX8_wettest_8 : decode cX8_wettest 8 = .ok (.i2l, 1) := by decide +kernel
theorem dX8_wettest_9 : decode cX8_wettest 9 = .ok (.lconst 0, 1) := by decide +kernel
theorem dX8_wettest_10 : decode cX8_wettest 10 = .ok (.lconst 1, 1) := by decide +kernel
theorem dX8_wettest_11 : decode cX8_wettest 11 = .ok (.invokestatic 68, 3) := by decide +kernel
theorem dX8_wettest_14 : decode cX8_wettest 14 = .ok (.ifCond .ne 6, 3) := by decide +kernel
theorem dX8_wettest_17 : decode cX8_wettest 17 = .ok (.bipush (-2), 2) := by decide +kernel
theorem dX8_wettest_19 : decode cX8_wettest 19 = .ok (.ireturn, 1) := by decide +kernel
theorem dX8_wettest_20 : decode cX8_wettest 20 = .ok (.iconst (-1), 1) := by decide +kernel
theorem dX8_wettest_21 : decode cX8_wettest 21 = .ok (.istore_n 2, 1) := by decide +kernel
theorem dX8_wettest_22 : decode cX8_wettest 22 = .ok (.iconst 0, 1) := by decide +kernel
theorem dX8_wettest_23 : decode cX8_wettest 23 = .ok (.istore_n 3, 1) := by decide +kernel
theorem dX8_wettest_24 : decode cX8_wettest 24 = .ok (.iconst 0, 1) := by decide +kernel
theorem dX8_wettest_25 : decode cX8_wettest 25 = .ok (.istore 4, 2) := by decide +kernel
theorem dX8_wettest_27 : decode cX8_wettest 27 = .ok (.iload 4, 2) := by decide +kernel
theorem dX8_wettest_29 : decode cX8_wettest 29 = .ok (.aload_n 0, 1) := by decide +kernel
theorem dX8_wettest_30 : decode cX8_wettest 30 = .ok (.getfield 13, 3) := by decide +kernel
theorem dX8_wettest_33 : decode cX8_wettest 33 = .ok (.iconst 2, 1) := by decide +kernel
theorem dX8_wettest_34 : decode cX8_wettest 34 = .ok (.iaload, 1) := by decide +kernel
theorem dX8_wettest_35 : decode cX8_wettest 35 = .ok (.if_icmp .ge 62, 3) := by decide +kernel
theorem dX8_wettest_38 : decode cX8_wettest 38 = .ok (.iconst 0, 1) := by decide +kernel
theorem dX8_wettest_39 : decode cX8_wettest 39 = .ok (.istore 5, 2) := by decide +kernel
theorem dX8_wettest_41 : decode cX8_wettest 41 = .ok (.iload 5, 2) := by decide +kernel
theorem dX8_wettest_43 : decode cX8_wettest 43 = .ok (.aload_n 0, 1) := by decide +kernel
theorem dX8_wettest_44 : decode cX8_wettest 44 = .ok (.getfield 13, 3) := by decide +kernel
theorem dX8_wettest_47 : decode cX8_wettest 47 = .ok (.iconst 1, 1) := by decide +kernel
theorem dX8_wettest_48 : decode cX8_wettest 48 = .ok (.iaload, 1) := by decide +kernel
theorem dX8_wettest_49 : decode cX8_wettest 49 = .ok (.if_icmp .ge 42, 3) := by decide +kernel
theorem dX8_wettest_52 : decode cX8_wettest 52 = .ok (.aload_n 0, 1) := by decide +kernel
theorem dX8_wettest_53 : decode cX8_wettest 53 = .ok (.iload 5, 2) := by decide +kernel
theorem dX8_wettest_55 : decode cX8_wettest 55 = .ok (.iload 4, 2) := by decide +kernel
theorem dX8_wettest_57 : decode cX8_wettest 57 = .ok (.invokevirtual 76, 3) := by decide +kernel
theorem dX8_wettest_60 : decode cX8_wettest 60 = .ok (.iload_n 3, 1) := by decide +kernel
theorem dX8_wettest_61 : decode cX8_wettest 61 = .ok (.if_icmp .gt 6, 3) := by decide +kernel
theorem dX8_wettest_64 : decode cX8_wettest 64 = .ok (.goto 21, 3) := by decide +kernel
theorem dX8_wettest_67 : decode cX8_wettest 67 = .ok (.iload 5, 2) := by decide +kernel
theorem dX8_wettest_69 : decode cX8_wettest 69 = .ok (.bipush 100, 2) := by decide +kernel
theorem dX8_wettest_71 : decode cX8_wettest 71 = .ok (.iload 4, 2) := by decide +kernel
theorem dX8_wettest_73 : decode cX8_wettest 73 = .ok (.imul, 1) := by decide +kernel
theorem dX8_wettest_74 : decode cX8_wettest 74 = .ok (.iadd, 1) := by decide +kernel
theorem dX8_wettest_75 : decode cX8_wettest 75 = .ok (.istore_n 2, 1) := by decide +kernel
theorem dX8_wettest_76 : decode cX8_wettest 76 = .ok (.aload_n 0, 1) := by decide +kernel
theorem dX8_wettest_77 : decode cX8_wettest 77 = .ok (.iload 5, 2) := by decide +kernel
theorem dX8_wettest_79 : decode cX8_wettest 79 = .ok (.iload 4, 2) := by decide +kernel
theorem dX8_wettest_81 : decode cX8_wettest 81 = .ok (.invokevirtual 76, 3) := by decide +kernel
theorem dX8_wettest_84 : decode cX8_wettest 84 = .ok (.istore_n 3, 1) := by decide +kernel
theorem dX8_wettest_85 : decode cX8_wettest 85 = .ok (.iinc 5 1, 3) := by decide +kernel
theorem dX8_wettest_88 : decode cX8_wettest 88 = .ok (.goto (-47), 3) := by decide +kernel
theorem dX8_wettest_91 : decode cX8_wettest 91 = .ok (.iinc 4 1, 3) := by decide +kernel
theorem dX8_wettest_94 : decode cX8_wettest 94 = .ok (.goto (-67), 3) := by decide +kernel
theorem dX8_wettest_97 : decode cX8_wettest 97 = .ok (.iload_n 2, 1) := by decide +kernel
theorem dX8_wettest_98 : decode cX8_wettest 98 = .ok (.iconst (-1), 1) := by decide +kernel
theorem dX8_wettest_99 : decode cX8_wettest 99 = .ok (.if_icmp .ne 7, 3) := by decide +kernel
theorem dX8_wettest_102 : decode cX8_wettest 102 = .ok (.iconst (-1), 1) := by decide +kernel
theorem dX8_wettest_103 : decode cX8_wettest 103 = .ok (.goto 12, 3) := by decide +kernel
theorem dX8_wettest_106 : decode cX8_wettest 106 = .ok (.iload_n 1, 1) := by decide +kernel
theorem dX8_wettest_107 : decode cX8_wettest 107 = .ok (.ifCond .ne 7, 3) := by decide +kernel
theorem dX8_wettest_110 : decode cX8_wettest 110 = .ok (.iload_n 2, 1) := by decide +kernel
theorem dX8_wettest_111 : decode cX8_wettest 111 = .ok (.goto 4, 3) := by decide +kernel
theorem dX8_wettest_114 : decode cX8_wettest 114 = .ok (.iload_n 3, 1) := by decide +kernel
theorem dX8_wettest_115 : decode cX8_wettest 115 = .ok (.ireturn, 1) := by decide +kernel
theorem dX8_small_0 : decode cX8_small 0 = .ok (.aload_n 0, 1) := by decide +kernel
theorem dX8_small_1 : decode cX8_small 1 = .ok (.invokevirtual 278, 3) := by decide +kernel
theorem dX8_small_4 : decode cX8_small 4 = .ok (.ifCond .eq 43, 3) := by decide +kernel
theorem dX8_small_7 : decode cX8_small 7 = .ok (.iload_n 1, 1) := by decide +kernel
theorem dX8_small_8 : decode cX8_small 8 = .ok (.i2l, 1) := by decide +kernel
theorem dX8_small_9 : decode cX8_small 9 = .ok (.lconst 1, 1) := by decide +kernel
theorem dX8_small_10 : decode cX8_small 10 = .ok (.ldc2_w 433, 3) := by decide +kernel
theorem dX8_small_13 : decode cX8_small 13 = .ok (.invokestatic 68, 3) := by decide +kernel
theorem dX8_small_16 : decode cX8_small 16 = .ok (.ifCond .eq 31, 3) := by decide +kernel
theorem dX8_small_19 : decode cX8_small 19 = .ok (.iload_n 2, 1) := by decide +kernel
theorem dX8_small_20 : decode cX8_small 20 = .ok (.invokestatic 216, 3) := by decide +kernel
theorem dX8_small_23 : decode cX8_small 23 = .ok (.ifCond .eq 24, 3) := by decide +kernel
theorem dX8_small_26 : decode cX8_small 26 = .ok (.iload_n 3, 1) := by decide +kernel
theorem dX8_small_27 : decode cX8_small 27 = .ok (.i2l, 1) := by decide +kernel
theorem dX8_small_28 : decode cX8_small 28 = .ok (.invokestatic 281, 3) := by decide +kernel
theorem dX8_small_31 : decode cX8_small 31 = .ok (.ifCond .eq 16, 3) := by decide +kernel
theorem dX8_small_34 : decode cX8_small 34 = .ok (.iload_n 1, 1) := by decide +kernel
theorem dX8_small_35 : decode cX8_small 35 = .ok (.aload_n 0, 1) := by decide +kernel
theorem dX8_small_36 : decode cX8_small 36 = .ok (.iload_n 2, 1) := by decide +kernel
theorem dX8_small_37 : decode cX8_small 37 = .ok (.iload_n 1, 1) := by decide +kernel
theorem dX8_small_38 : decode cX8_small 38 = .ok (.idiv, 1) := by decide +kernel
theorem dX8_small_39 : decode cX8_small 39 = .ok (.iload_n 3, 1) := by decide +kernel
theorem dX8_small_40 : decode cX8_small 40 = .ok (.invokevirtual 346, 3) := by decide +kernel
theorem dX8_small_43 : decode cX8_small 43 = .ok (.imul, 1) := by decide +kernel
theorem dX8_small_44 : decode cX8_small 44 = .ok (.goto 5, 3) := by decide +kernel
theorem dX8_small_47 : decode cX8_small 47 = .ok (.bipush (-2), 2) := by decide +kernel
theorem dX8_small_49 : decode cX8_small 49 = .ok (.ireturn, 1) := by decide +kernel
theorem dX8_draw_0 : decode cX8_draw 0 = .ok (.aload_n 0, 1) := by decide +kernel
theorem dX8_draw_1 : decode cX8_draw 1 = .ok (.ldc2_w 435, 3) := by decide +kernel
theorem dX8_draw_4 : decode cX8_draw 4 = .ok (.aload_n 0, 1) := by decide +kernel
theorem dX8_draw_5 : decode cX8_draw 5 = .ok (.getfield 437, 3) := by decide +kernel
theorem dX8_draw_8 : decode cX8_draw 8 = .ok (.lmul, 1) := by decide +kernel
theorem dX8_draw_9 : decode cX8_draw 9 = .ok (.ldc2_w 441, 3) := by decide +kernel
theorem dX8_draw_12 : decode cX8_draw 12 = .ok (.ladd, 1) := by decide +kernel
theorem dX8_draw_13 : decode cX8_draw 13 = .ok (.ldc2_w 443, 3) := by decide +kernel
theorem dX8_draw_16 : decode cX8_draw 16 = .ok (.lrem, 1) := by decide +kernel
theorem dX8_draw_17 : decode cX8_draw 17 = .ok (.putfield 437, 3) := by decide +kernel
theorem dX8_draw_20 : decode cX8_draw 20 = .ok (.aload_n 0, 1) := by decide +kernel
theorem dX8_draw_21 : decode cX8_draw 21 = .ok (.getfield 437, 3) := by decide +kernel
theorem dX8_draw_24 : decode cX8_draw 24 = .ok (.ldc2_w 445, 3) := by decide +kernel
theorem dX8_draw_27 : decode cX8_draw 27 = .ok (.ldiv, 1) := by decide +kernel
theorem dX8_draw_28 : decode cX8_draw 28 = .ok (.ldc2_w 447, 3) := by decide +kernel
theorem dX8_draw_31 : decode cX8_draw 31 = .ok (.lrem, 1) := by decide +kernel
theorem dX8_draw_32 : decode cX8_draw 32 = .ok (.l2i, 1) := by decide +kernel
theorem dX8_draw_33 : decode cX8_draw 33 = .ok (.ireturn, 1) := by decide +kernel
theorem dX8_gustsBy_0 : decode cX8_gustsBy 0 = .ok (.aload_n 0, 1) := by decide +kernel
theorem dX8_gustsBy_1 : decode cX8_gustsBy 1 = .ok (.lload_n 1, 1) := by decide +kernel
theorem dX8_gustsBy_2 : decode cX8_gustsBy 2 = .ok (.putfield 437, 3) := by decide +kernel
theorem dX8_gustsBy_5 : decode cX8_gustsBy 5 = .ok (.iconst 0, 1) := by decide +kernel
theorem dX8_gustsBy_6 : decode cX8_gustsBy 6 = .ok (.istore 6, 2) := by decide +kernel
theorem dX8_gustsBy_8 : decode cX8_gustsBy 8 = .ok (.iconst 0, 1) := by decide +kernel
theorem dX8_gustsBy_9 : decode cX8_gustsBy 9 = .ok (.istore 7, 2) := by decide +kernel
theorem dX8_gustsBy_11 : decode cX8_gustsBy 11 = .ok (.iload 7, 2) := by decide +kernel
theorem dX8_gustsBy_13 : decode cX8_gustsBy 13 = .ok (.iload 4, 2) := by decide +kernel
theorem dX8_gustsBy_15 : decode cX8_gustsBy 15 = .ok (.if_icmp .ge 41, 3) := by decide +kernel
theorem dX8_gustsBy_18 : decode cX8_gustsBy 18 = .ok (.iload 6, 2) := by decide +kernel
theorem dX8_gustsBy_20 : decode cX8_gustsBy 20 = .ok (.aload_n 0, 1) := by decide +kernel
theorem dX8_gustsBy_21 : decode cX8_gustsBy 21 = .ok (.aload_n 0, 1) := by decide +kernel
theorem dX8_gustsBy_22 : decode cX8_gustsBy 22 = .ok (.invokevirtual 449, 3) := by decide +kernel
theorem dX8_gustsBy_25 : decode cX8_gustsBy 25 = .ok (.iload 5, 2) := by decide +kernel
theorem dX8_gustsBy_27 : decode cX8_gustsBy 27 = .ok (.if_icmp .ge 16, 3) := by decide +kernel
theorem dX8_gustsBy_30 : decode cX8_gustsBy 30 = .ok (.bipush 10, 2) := by decide +kernel
theorem dX8_gustsBy_32 : decode cX8_gustsBy 32 = .ok (.iload_n 3, 1) := by decide +kernel
theorem dX8_gustsBy_33 : decode cX8_gustsBy 33 = .ok (.bipush 10, 2) := by decide +kernel
theorem dX8_gustsBy_35 : decode cX8_gustsBy 35 = .ok (.idiv, 1) := by decide +kernel
theorem dX8_gustsBy_36 : decode cX8_gustsBy 36 = .ok (.imul, 1) := by decide +kernel
theorem dX8_gustsBy_37 : decode cX8_gustsBy 37 = .ok (.bipush 9, 2) := by decide +kernel
theorem dX8_gustsBy_39 : decode cX8_gustsBy 39 = .ok (.iadd, 1) := by decide +kernel
theorem dX8_gustsBy_40 : decode cX8_gustsBy 40 = .ok (.goto 4, 3) := by decide +kernel
theorem dX8_gustsBy_43 : decode cX8_gustsBy 43 = .ok (.iload_n 3, 1) := by decide +kernel
theorem dX8_gustsBy_44 : decode cX8_gustsBy 44 = .ok (.invokevirtual 285, 3) := by decide +kernel
theorem dX8_gustsBy_47 : decode cX8_gustsBy 47 = .ok (.iadd, 1) := by decide +kernel
theorem dX8_gustsBy_48 : decode cX8_gustsBy 48 = .ok (.istore 6, 2) := by decide +kernel
theorem dX8_gustsBy_50 : decode cX8_gustsBy 50 = .ok (.iinc 7 1, 3) := by decide +kernel
theorem dX8_gustsBy_53 : decode cX8_gustsBy 53 = .ok (.goto (-42), 3) := by decide +kernel
theorem dX8_gustsBy_56 : decode cX8_gustsBy 56 = .ok (.iload 6, 2) := by decide +kernel
theorem dX8_gustsBy_58 : decode cX8_gustsBy 58 = .ok (.ireturn, 1) := by decide +kernel
theorem dX8_isGusty_0 : decode cX8_isGusty 0 = .ok (.aload_n 0, 1) := by decide +kernel
theorem dX8_isGusty_1 : decode cX8_isGusty 1 = .ok (.invokevirtual 278, 3) := by decide +kernel
theorem dX8_isGusty_4 : decode cX8_isGusty 4 = .ok (.ifCond .eq 52, 3) := by decide +kernel
theorem dX8_isGusty_7 : decode cX8_isGusty 7 = .ok (.iload_n 1, 1) := by decide +kernel
theorem dX8_isGusty_8 : decode cX8_isGusty 8 = .ok (.i2l, 1) := by decide +kernel
theorem dX8_isGusty_9 : decode cX8_isGusty 9 = .ok (.lconst 0, 1) := by decide +kernel
theorem dX8_isGusty_10 : decode cX8_isGusty 10 = .ok (.ldc2_w 452, 3) := by decide +kernel
theorem dX8_isGusty_13 : decode cX8_isGusty 13 = .ok (.invokestatic 68, 3) := by decide +kernel
theorem dX8_isGusty_16 : decode cX8_isGusty 16 = .ok (.ifCond .eq 40, 3) := by decide +kernel
theorem dX8_isGusty_19 : decode cX8_isGusty 19 = .ok (.iload_n 2, 1) := by decide +kernel
theorem dX8_isGusty_20 : decode cX8_isGusty 20 = .ok (.i2l, 1) := by decide +kernel
theorem dX8_isGusty_21 : decode cX8_isGusty 21 = .ok (.invokestatic 281, 3) := by decide +kernel
theorem dX8_isGusty_24 : decode cX8_isGusty 24 = .ok (.ifCond .eq 32, 3) := by decide +kernel
theorem dX8_isGusty_27 : decode cX8_isGusty 27 = .ok (.iload_n 3, 1) := by decide +kernel
theorem dX8_isGusty_28 : decode cX8_isGusty 28 = .ok (.i2l, 1) := by decide +kernel
theorem dX8_isGusty_29 : decode cX8_isGusty 29 = .ok (.lconst 0, 1) := by decide +kernel
theorem dX8_isGusty_30 : decode cX8_isGusty 30 = .ok (.ldc2_w 288, 3) := by decide +kernel
theorem dX8_isGusty_33 : decode cX8_isGusty 33 = .ok (.invokestatic 68, 3) := by decide +kernel
theorem dX8_isGusty_36 : decode cX8_isGusty 36 = .ok (.ifCond .eq 20, 3) := by decide +kernel
theorem dX8_isGusty_39 : decode cX8_isGusty 39 = .ok (.iload 4, 2) := by decide +kernel
theorem dX8_isGusty_41 : decode cX8_isGusty 41 = .ok (.i2l, 1) := by decide +kernel
theorem dX8_isGusty_42 : decode cX8_isGusty 42 = .ok (.lconst 0, 1) := by decide +kernel
theorem dX8_isGusty_43 : decode cX8_isGusty 43 = .ok (.ldc2_w 447, 3) := by decide +kernel
theorem dX8_isGusty_46 : decode cX8_isGusty 46 = .ok (.invokestatic 68, 3) := by decide +kernel
theorem dX8_isGusty_49 : decode cX8_isGusty 49 = .ok (.ifCond .eq 7, 3) := by decide +kernel
theorem dX8_isGusty_52 : decode cX8_isGusty 52 = .ok (.iconst 1, 1) := by decide +kernel
theorem dX8_isGusty_53 : decode cX8_isGusty 53 = .ok (.goto 4, 3) := by decide +kernel
theorem dX8_isGusty_56 : decode cX8_isGusty 56 = .ok (.iconst 0, 1) := by decide +kernel
theorem dX8_isGusty_57 : decode cX8_isGusty 57 = .ok (.ireturn, 1) := by decide +kernel
theorem dX8_gusts_0 : decode cX8_gusts 0 = .ok (.aload_n 0, 1) := by decide +kernel
theorem dX8_gusts_1 : decode cX8_gusts 1 = .ok (.iload_n 1, 1) := by decide +kernel
theorem dX8_gusts_2 : decode cX8_gusts 2 = .ok (.iload_n 2, 1) := by decide +kernel
theorem dX8_gusts_3 : decode cX8_gusts 3 = .ok (.iload_n 3, 1) := by decide +kernel
theorem dX8_gusts_4 : decode cX8_gusts 4 = .ok (.iload 4, 2) := by decide +kernel
theorem dX8_gusts_6 : decode cX8_gusts 6 = .ok (.invokevirtual 454, 3) := by decide +kernel
theorem dX8_gusts_9 : decode cX8_gusts 9 = .ok (.ifCond .eq 16, 3) := by decide +kernel
theorem dX8_gusts_12 : decode cX8_gusts 12 = .ok (.aload_n 0, 1) := by decide +kernel
theorem dX8_gusts_13 : decode cX8_gusts 13 = .ok (.iload_n 1, 1) := by decide +kernel
theorem dX8_gusts_14 : decode cX8_gusts 14 = .ok (.i2l, 1) := by decide +kernel
theorem dX8_gusts_15 : decode cX8_gusts 15 = .ok (.iload_n 2, 1) := by decide +kernel
theorem dX8_gusts_16 : decode cX8_gusts 16 = .ok (.iload_n 3, 1) := by decide +kernel
theorem dX8_gusts_17 : decode cX8_gusts 17 = .ok (.iload 4, 2) := by decide +kernel
theorem dX8_gusts_19 : decode cX8_gusts 19 = .ok (.invokevirtual 457, 3) := by decide +kernel
theorem dX8_gusts_22 : decode cX8_gusts 22 = .ok (.goto 5, 3) := by decide +kernel
theorem dX8_gusts_25 : decode cX8_gusts 25 = .ok (.bipush (-2), 2) := by decide +kernel
theorem dX8_gusts_27 : decode cX8_gusts 27 = .ok (.ireturn, 1) := by decide +kernel
theorem dX8_often_0 : decode cX8_often 0 = .ok (.aload_n 0, 1) := by decide +kernel
theorem dX8_often_1 : decode cX8_often 1 = .ok (.iload_n 1, 1) := by decide +kernel
theorem dX8_often_2 : decode cX8_often 2 = .ok (.invokevirtual 302, 3) := by decide +kernel
theorem dX8_often_5 : decode cX8_often 5 = .ok (.ifCond .eq 29, 3) := by decide +kernel
theorem dX8_often_8 : decode cX8_often 8 = .ok (.iload_n 3, 1) := by decide +kernel
theorem dX8_often_9 : decode cX8_often 9 = .ok (.i2l, 1) := by decide +kernel
theorem dX8_often_10 : decode cX8_often 10 = .ok (.lconst 1, 1) := by decide +kernel
theorem dX8_often_11 : decode cX8_often 11 = .ok (.ldc2_w 388, 3) := by decide +kernel
theorem dX8_often_14 : decode cX8_often 14 = .ok (.invokestatic 68, 3) := by decide +kernel
theorem dX8_often_17 : decode cX8_often 17 = .ok (.ifCond .eq 17, 3) := by decide +kernel
theorem dX8_often_20 : decode cX8_often 20 = .ok (.aload_n 0, 1) := by decide +kernel
theorem dX8_often_21 : decode cX8_often 21 = .ok (.iload_n 2, 1) := by decide +kernel
theorem dX8_often_22 : decode cX8_often 22 = .ok (.iload 4, 2) := by decide +kernel
theorem dX8_often_24 : decode cX8_often 24 = .ok (.iload 5, 2) := by decide +kernel
theorem dX8_often_26 : decode cX8_often 26 = .ok (.iload 6, 2) := by decide +kernel
theorem dX8_often_28 : decode cX8_often 28 = .ok (.invokevirtual 454, 3) := by decide +kernel
theorem dX8_often_31 : decode cX8_often 31 = .ok (.ifCond .ne 6, 3) := by decide +kernel
theorem dX8_often_34 : decode cX8_often 34 = .ok (.bipush (-2), 2) := by decide +kernel
theorem dX8_often_36 : decode cX8_often 36 = .ok (.ireturn, 1) := by decide +kernel
theorem dX8_often_37 : decode cX8_often 37 = .ok (.iconst 0, 1) := by decide +kernel
theorem dX8_often_38 : decode cX8_often 38 = .ok (.istore 7, 2) := by decide +kernel
theorem dX8_often_40 : decode cX8_often 40 = .ok (.iconst 0, 1) := by decide +kernel
theorem dX8_often_41 : decode cX8_often 41 = .ok (.istore 8, 2) := by decide +kernel
theorem dX8_often_43 : decode cX8_often 43 = .ok (.iload 8, 2) := by decide +kernel
theorem dX8_often_45 : decode cX8_often 45 = .ok (.iload_n 3, 1) := by decide +kernel
theorem dX8_often_46 : decode cX8_often 46 = .ok (.if_icmp .ge 64, 3) := by decide +kernel
theorem dX8_often_49 : decode cX8_often 49 = .ok (.aload_n 0, 1) := by decide +kernel
theorem dX8_often_50 : decode cX8_often 50 = .ok (.invokevirtual 370, 3) := by decide +kernel
theorem dX8_often_53 : decode cX8_often 53 = .ok (.aload_n 0, 1) := by decide +kernel
theorem dX8_often_54 : decode cX8_often 54 = .ok (.iload_n 2, 1) := by decide +kernel
theorem dX8_often_55 : decode cX8_often 55 = .ok (.i2l, 1) := by decide +kernel
theorem dX8_often_56 : decode cX8_often 56 = .ok (.iload 8, 2) := by decide +kernel
theorem dX8_often_58 : decode cX8_often 58 = .ok (.i2l, 1) := by decide +kernel
theorem dX8_often_59 : decode cX8_often 59 = .ok (.ladd, 1) := by decide +kernel
theorem dX8_often_60 : decode cX8_often 60 = .ok (.iload 4, 2) := by decide +kernel
theorem dX8_often_62 : decode cX8_often 62 = .ok (.iload 5, 2) := by decide +kernel
theorem dX8_often_64 : decode cX8_often 64 = .ok (.iload 6, 2) := by decide +kernel
theorem dX8_often_66 : decode cX8_often 66 = .ok (.invokevirtual 457, 3) := by decide +kernel
theorem dX8_often_69 : decode cX8_often 69 = .ok (.istore 9, 2) := by decide +kernel
theorem dX8_often_71 : decode cX8_often 71 = .ok (.iload 7, 2) := by decide +kernel
theorem dX8_often_73 : decode cX8_often 73 = .ok (.iload 9, 2) := by decide +kernel
theorem dX8_often_75 : decode cX8_often 75 = .ok (.ifCond .lt 21, 3) := by decide +kernel
theorem dX8_often_78 : decode cX8_often 78 = .ok (.aload_n 0, 1) := by decide +kernel
theorem dX8_often_79 : decode cX8_often 79 = .ok (.iload_n 1, 1) := by decide +kernel
theorem dX8_often_80 : decode cX8_often 80 = .ok (.invokevirtual 307, 3) := by decide +kernel
theorem dX8_often_83 : decode cX8_often 83 = .ok (.aload_n 0, 1) := by decide +kernel
theorem dX8_often_84 : decode cX8_often 84 = .ok (.iload_n 1, 1) := by decide +kernel
theorem dX8_often_85 : decode cX8_often 85 = .ok (.iconst 2, 1) := by decide +kernel
theorem dX8_often_86 : decode cX8_often 86 = .ok (.invokevirtual 72, 3) := by decide +kernel
theorem dX8_often_89 : decode cX8_often 89 = .ok (.if_icmp .le 7, 3) := by decide +kernel
theorem dX8_often_92 : decode cX8_often 92 = .ok (.iconst 1, 1) := by decide +kernel
theorem dX8_often_93 : decode cX8_often 93 = .ok (.goto 4, 3) := by decide +kernel
theorem dX8_often_96 : decode cX8_often 96 = .ok (.iconst 0, 1) := by decide +kernel
theorem dX8_often_97 : decode cX8_often 97 = .ok (.iadd, 1) := by decide +kernel
theorem dX8_often_98 : decode cX8_often 98 = .ok (.istore 7, 2) := by decide +kernel
theorem dX8_often_100 : decode cX8_often 100 = .ok (.aload_n 0, 1) := by decide +kernel
theorem dX8_often_101 : decode cX8_often 101 = .ok (.invokevirtual 376, 3) := by decide +kernel
theorem dX8_often_104 : decode cX8_often 104 = .ok (.iinc 8 1, 3) := by decide +kernel
theorem dX8_often_107 : decode cX8_often 107 = .ok (.goto (-64), 3) := by decide +kernel
theorem dX8_often_110 : decode cX8_often 110 = .ok (.iload 7, 2) := by decide +kernel
theorem dX8_often_112 : decode cX8_often 112 = .ok (.ireturn, 1) := by decide +kernel
theorem dX8_count_0 : decode cX8_count 0 = .ok (.iconst 0, 1) := by decide +kernel
theorem dX8_count_1 : decode cX8_count 1 = .ok (.istore_n 2, 1) := by decide +kernel
theorem dX8_count_2 : decode cX8_count 2 = .ok (.iload_n 1, 1) := by decide +kernel
theorem dX8_count_3 : decode cX8_count 3 = .ok (.tableswitch 187 0 12 #[65, 72, 79, 87, 95, 103, 110, 115, 122, 130, 138, 146, 154], 65) := by decide +kernel
theorem dX8_count_68 : decode cX8_count 68 = .ok (.aload_n 0, 1) := by decide +kernel
theorem dX8_count_69 : decode cX8_count 69 = .ok (.getfield 13, 3) := by decide +kernel
theorem dX8_count_72 : decode cX8_count 72 = .ok (.iconst 1, 1) := by decide +kernel
theorem dX8_count_73 : decode cX8_count 73 = .ok (.iaload, 1) := by decide +kernel
theorem dX8_count_74 : decode cX8_count 74 = .ok (.ireturn, 1) := by decide +kernel
theorem dX8_count_75 : decode cX8_count 75 = .ok (.aload_n 0, 1) := by decide +kernel
theorem dX8_count_76 : decode cX8_count 76 = .ok (.getfield 13, 3) := by decide +kernel
theorem dX8_count_79 : decode cX8_count 79 = .ok (.iconst 2, 1) := by decide +kernel
theorem dX8_count_80 : decode cX8_count 80 = .ok (.iaload, 1) := by decide +kernel
theorem dX8_count_81 : decode cX8_count 81 = .ok (.ireturn, 1) := by decide +kernel
theorem dX8_count_82 : decode cX8_count 82 = .ok (.aload_n 0, 1) := by decide +kernel
theorem dX8_count_83 : decode cX8_count 83 = .ok (.getfield 13, 3) := by decide +kernel
theorem dX8_count_86 : decode cX8_count 86 = .ok (.bipush 10, 2) := by decide +kernel
theorem dX8_count_88 : decode cX8_count 88 = .ok (.iaload, 1) := by decide +kernel
theorem dX8_count_89 : decode cX8_count 89 = .ok (.ireturn, 1) := by decide +kernel
theorem dX8_count_90 : decode cX8_count 90 = .ok (.aload_n 0, 1) := by decide +kernel
theorem dX8_count_91 : decode cX8_count 91 = .ok (.getfield 13, 3) := by decide +kernel
theorem dX8_count_94 : decode cX8_count 94 = .ok (.bipush 11, 2) := by decide +kernel
theorem dX8_count_96 : decode cX8_count 96 = .ok (.iaload, 1) := by decide +kernel
theorem dX8_count_97 : decode cX8_count 97 = .ok (.ireturn, 1) := by decide +kernel
theorem dX8_count_98 : decode cX8_count 98 = .ok (.aload_n 0, 1) := by decide +kernel
theorem dX8_count_99 : decode cX8_count 99 = .ok (.getfield 13, 3) := by decide +kernel
theorem dX8_count_102 : decode cX8_count 102 = .ok (.bipush 12, 2) := by decide +kernel
theorem dX8_count_104 : decode cX8_count 104 = .ok (.iaload, 1) := by decide +kernel
theorem dX8_count_105 : decode cX8_count 105 = .ok (.ireturn, 1) := by decide +kernel
theorem dX8_count_106 : decode cX8_count 106 = .ok (.aload_n 0, 1) := by decide +kernel
theorem dX8_count_107 : decode cX8_count 107 = .ok (.getfield 13, 3) := by decide +kernel
theorem dX8_count_110 : decode cX8_count 110 = .ok (.iconst 0, 1) := by decide +kernel
theorem dX8_count_111 : decode cX8_count 111 = .ok (.iaload, 1) := by decide +kernel
theorem dX8_count_112 : decode cX8_count 112 = .ok (.ireturn, 1) := by decide +kernel
theorem dX8_count_113 : decode cX8_count 113 = .ok (.aload_n 0, 1) := by decide +kernel
theorem dX8_count_114 : decode cX8_count 114 = .ok (.getfield 79, 3) := by decide +kernel
theorem dX8_count_117 : decode cX8_count 117 = .ok (.ireturn, 1) := by decide +kernel
theorem dX8_count_118 : decode cX8_count 118 = .ok (.aload_n 0, 1) := by decide +kernel
theorem dX8_count_119 : decode cX8_count 119 = .ok (.getfield 13, 3) := by decide +kernel
theorem dX8_count_122 : decode cX8_count 122 = .ok (.iconst 5, 1) := by decide +kernel
theorem dX8_count_123 : decode cX8_count 123 = .ok (.iaload, 1) := by decide +kernel
theorem dX8_count_124 : decode cX8_count 124 = .ok (.ireturn, 1) := by decide +kernel
theorem dX8_count_125 : decode cX8_count 125 = .ok (.aload_n 0, 1) := by decide +kernel
theorem dX8_count_126 : decode cX8_count 126 = .ok (.getfield 13, 3) := by decide +kernel
theorem dX8_count_129 : decode cX8_count 129 = .ok (.bipush 6, 2) := by decide +kernel
theorem dX8_count_131 : decode cX8_count 131 = .ok (.iaload, 1) := by decide +kernel
theorem dX8_count_132 : decode cX8_count 132 = .ok (.ireturn, 1) := by decide +kernel
theorem dX8_count_133 : decode cX8_count 133 = .ok (.aload_n 0, 1) := by decide +kernel
theorem dX8_count_134 : decode cX8_count 134 = .ok (.getfield 13, 3) := by decide +kernel
theorem dX8_count_137 : decode cX8_count 137 = .ok (.bipush 8, 2) := by decide +kernel
theorem dX8_count_139 : decode cX8_count 139 = .ok (.iaload, 1) := by decide +kernel
theorem dX8_count_140 : decode cX8_count 140 = .ok (.ireturn, 1) := by decide +kernel
theorem dX8_count_141 : decode cX8_count 141 = .ok (.aload_n 0, 1) := by decide +kernel
theorem dX8_count_142 : decode cX8_count 142 = .ok (.getfield 13, 3) := by decide +kernel
theorem dX8_count_145 : decode cX8_count 145 = .ok (.bipush 9, 2) := by decide +kernel
theorem dX8_count_147 : decode cX8_count 147 = .ok (.iaload, 1) := by decide +kernel
theorem dX8_count_148 : decode cX8_count 148 = .ok (.ireturn, 1) := by decide +kernel
theorem dX8_count_149 : decode cX8_count 149 = .ok (.aload_n 0, 1) := by decide +kernel
theorem dX8_count_150 : decode cX8_count 150 = .ok (.getfield 13, 3) := by decide +kernel
theorem dX8_count_153 : decode cX8_count 153 = .ok (.bipush 7, 2) := by decide +kernel
theorem dX8_count_155 : decode cX8_count 155 = .ok (.iaload, 1) := by decide +kernel
theorem dX8_count_156 : decode cX8_count 156 = .ok (.ireturn, 1) := by decide +kernel
theorem dX8_count_157 : decode cX8_count 157 = .ok (.iconst 0, 1) := by decide +kernel
theorem dX8_count_158 : decode cX8_count 158 = .ok (.istore_n 3, 1) := by decide +kernel
theorem dX8_count_159 : decode cX8_count 159 = .ok (.iload_n 3, 1) := by decide +kernel
theorem dX8_count_160 : decode cX8_count 160 = .ok (.iconst 4, 1) := by decide +kernel
theorem dX8_count_161 : decode cX8_count 161 = .ok (.if_icmp .ge 27, 3) := by decide +kernel
theorem dX8_count_164 : decode cX8_count 164 = .ok (.iload_n 2, 1) := by decide +kernel
theorem dX8_count_165 : decode cX8_count 165 = .ok (.aload_n 0, 1) := by decide +kernel
theorem dX8_count_166 : decode cX8_count 166 = .ok (.getfield 49, 3) := by decide +kernel
theorem dX8_count_169 : decode cX8_count 169 = .ok (.iload_n 3, 1) := by decide +kernel
theorem dX8_count_170 : decode cX8_count 170 = .ok (.iaload, 1) := by decide +kernel
theorem dX8_count_171 : decode cX8_count 171 = .ok (.iconst (-1), 1) := by decide +kernel
theorem dX8_count_172 : decode cX8_count 172 = .ok (.if_icmp .ne 7, 3) := by decide +kernel
theorem dX8_count_175 : decode cX8_count 175 = .ok (.iconst 0, 1) := by decide +kernel
theorem dX8_count_176 : decode cX8_count 176 = .ok (.goto 4, 3) := by decide +kernel
theorem dX8_count_179 : decode cX8_count 179 = .ok (.iconst 1, 1) := by decide +kernel
theorem dX8_count_180 : decode cX8_count 180 = .ok (.iadd, 1) := by decide +kernel
theorem dX8_count_181 : decode cX8_count 181 = .ok (.istore_n 2, 1) := by decide +kernel
theorem dX8_count_182 : decode cX8_count 182 = .ok (.iinc 3 1, 3) := by decide +kernel
theorem dX8_count_185 : decode cX8_count 185 = .ok (.goto (-26), 3) := by decide +kernel
theorem dX8_count_188 : decode cX8_count 188 = .ok (.iload_n 2, 1) := by decide +kernel
theorem dX8_count_189 : decode cX8_count 189 = .ok (.ireturn, 1) := by decide +kernel
theorem dX8_count_190 : decode cX8_count 190 = .ok (.iconst (-1), 1) := by decide +kernel
theorem dX8_count_191 : decode cX8_count 191 = .ok (.ireturn, 1) := by decide +kernel
theorem dX8_isSlot_0 : decode cX8_isSlot 0 = .ok (.iload_n 0, 1) := by decide +kernel
theorem dX8_isSlot_1 : decode cX8_isSlot 1 = .ok (.i2l, 1) := by decide +kernel
theorem dX8_isSlot_2 : decode cX8_isSlot 2 = .ok (.lconst 0, 1) := by decide +kernel
theorem dX8_isSlot_3 : decode cX8_isSlot 3 = .ok (.ldc2_w 305, 3) := by decide +kernel
theorem dX8_isSlot_6 : decode cX8_isSlot 6 = .ok (.invokestatic 68, 3) := by decide +kernel
theorem dX8_isSlot_9 : decode cX8_isSlot 9 = .ok (.ireturn, 1) := by decide +kernel
theorem dX8_cut_0 : decode cX8_cut 0 = .ok (.bipush 64, 2) := by decide +kernel
theorem dX8_cut_2 : decode cX8_cut 2 = .ok (.bipush 8, 2) := by decide +kernel
theorem dX8_cut_4 : decode cX8_cut 4 = .ok (.iload_n 2, 1) := by decide +kernel
theorem dX8_cut_5 : decode cX8_cut 5 = .ok (.ishl, 1) := by decide +kernel
theorem dX8_cut_6 : decode cX8_cut 6 = .ok (.isub, 1) := by decide +kernel
theorem dX8_cut_7 : decode cX8_cut 7 = .ok (.istore_n 3, 1) := by decide +kernel
theorem dX8_cut_8 : decode cX8_cut 8 = .ok (.lload_n 0, 1) := by decide +kernel
theorem dX8_cut_9 : decode cX8_cut 9 = .ok (.iload_n 3, 1) := by decide +kernel
theorem dX8_cut_10 : decode cX8_cut 10 = .ok (.lshl, 1) := by decide +kernel
theorem dX8_cut_11 : decode cX8_cut 11 = .ok (.iload_n 3, 1) := by decide +kernel
theorem dX8_cut_12 : decode cX8_cut 12 = .ok (.lshr, 1) := by decide +kernel
theorem dX8_cut_13 : decode cX8_cut 13 = .ok (.lreturn, 1) := by decide +kernel
theorem dX8_row_0 : decode cX8_row 0 = .ok (.iload_n 1, 1) := by decide +kernel
theorem dX8_row_1 : decode cX8_row 1 = .ok (.invokestatic 290, 3) := by decide +kernel
theorem dX8_row_4 : decode cX8_row 4 = .ok (.ifCond .eq 21, 3) := by decide +kernel
theorem dX8_row_7 : decode cX8_row 7 = .ok (.iload_n 2, 1) := by decide +kernel
theorem dX8_row_8 : decode cX8_row 8 = .ok (.i2l, 1) := by decide +kernel
theorem dX8_row_9 : decode cX8_row 9 = .ok (.lconst 0, 1) := by decide +kernel
theorem dX8_row_10 : decode cX8_row 10 = .ok (.ldc2_w 305, 3) := by decide +kernel
theorem dX8_row_13 : decode cX8_row 13 = .ok (.invokestatic 68, 3) := by decide +kernel
theorem dX8_row_16 : decode cX8_row 16 = .ok (.ifCond .eq 9, 3) := by decide +kernel
theorem dX8_row_19 : decode cX8_row 19 = .ok (.iload_n 3, 1) := by decide +kernel
theorem dX8_row_20 : decode cX8_row 20 = .ok (.bipush 60, 2) := by decide +kernel
theorem dX8_row_22 : decode cX8_row 22 = .ok (.if_icmp .le 6, 3) := by decide +kernel
theorem dX8_row_25 : decode cX8_row 25 = .ok (.bipush (-2), 2) := by decide +kernel
theorem dX8_row_27 : decode cX8_row 27 = .ok (.ireturn, 1) := by decide +kernel
theorem dX8_row_28 : decode cX8_row 28 = .ok (.iload_n 3, 1) := by decide +kernel
theorem dX8_row_29 : decode cX8_row 29 = .ok (.ifCond .ge 6, 3) := by decide +kernel
theorem dX8_row_32 : decode cX8_row 32 = .ok (.bipush (-3), 2) := by decide +kernel
theorem dX8_row_34 : decode cX8_row 34 = .ok (.ireturn, 1) := by decide +kernel
theorem dX8_row_35 : decode cX8_row 35 = .ok (.aload_n 0, 1) := by decide +kernel
theorem dX8_row_36 : decode cX8_row 36 = .ok (.getfield 49, 3) := by decide +kernel
theorem dX8_row_39 : decode cX8_row 39 = .ok (.iload_n 1, 1) := by decide +kernel
theorem dX8_row_40 : decode cX8_row 40 = .ok (.iload_n 3, 1) := by decide +kernel
theorem dX8_row_41 : decode cX8_row 41 = .ok (.iastore, 1) := by decide +kernel
theorem dX8_row_42 : decode cX8_row 42 = .ok (.aload_n 0, 1) := by decide +kernel
theorem dX8_row_43 : decode cX8_row 43 = .ok (.getfield 52, 3) := by decide +kernel
theorem dX8_row_46 : decode cX8_row 46 = .ok (.iload_n 1, 1) := by decide +kernel
theorem dX8_row_47 : decode cX8_row 47 = .ok (.iload_n 2, 1) := by decide +kernel
theorem dX8_row_48 : decode cX8_row 48 = .ok (.iastore, 1) := by decide +kernel
theorem dX8_row_49 : decode cX8_row 49 = .ok (.iconst 0, 1) := by decide +kernel
theorem dX8_row_50 : decode cX8_row 50 = .ok (.istore 4, 2) := by decide +kernel
theorem dX8_row_52 : decode cX8_row 52 = .ok (.iload 4, 2) := by decide +kernel
theorem dX8_row_54 : decode cX8_row 54 = .ok (.bipush 60, 2) := by decide +kernel
theorem dX8_row_56 : decode cX8_row 56 = .ok (.if_icmp .ge 22, 3) := by decide +kernel
theorem dX8_row_59 : decode cX8_row 59 = .ok (.aload_n 0, 1) := by decide +kernel
theorem dX8_row_60 : decode cX8_row 60 = .ok (.getfield 55, 3) := by decide +kernel
theorem dX8_row_63 : decode cX8_row 63 = .ok (.bipush 60, 2) := by decide +kernel
theorem dX8_row_65 : decode cX8_row 65 = .ok (.iload_n 1, 1) := by decide +kernel
theorem dX8_row_66 : decode cX8_row 66 = .ok (.imul, 1) := by decide +kernel
theorem dX8_row_67 : decode cX8_row 67 = .ok (.iload 4, 2) := by decide +kernel
theorem dX8_row_69 : decode cX8_row 69 = .ok (.iadd, 1) := by decide +kernel
theorem dX8_row_70 : decode cX8_row 70 = .ok (.lconst 0, 1) := by decide +kernel
theorem dX8_row_71 : decode cX8_row 71 = .ok (.lastore, 1) := by decide +kernel
theorem dX8_row_72 : decode cX8_row 72 = .ok (.iinc 4 1, 3) := by decide +kernel
theorem dX8_row_75 : decode cX8_row 75 = .ok (.goto (-23), 3) := by decide +kernel
theorem dX8_row_78 : decode cX8_row 78 = .ok (.iconst 0, 1) := by decide +kernel
theorem dX8_row_79 : decode cX8_row 79 = .ok (.ireturn, 1) := by decide +kernel
theorem dX8_write_0 : decode cX8_write 0 = .ok (.iload_n 1, 1) := by decide +kernel
theorem dX8_write_1 : decode cX8_write 1 = .ok (.invokestatic 290, 3) := by decide +kernel
theorem dX8_write_4 : decode cX8_write 4 = .ok (.ifCond .ne 6, 3) := by decide +kernel
theorem dX8_write_7 : decode cX8_write 7 = .ok (.bipush (-2), 2) := by decide +kernel
theorem dX8_write_9 : decode cX8_write 9 = .ok (.ireturn, 1) := by decide +kernel
theorem dX8_write_10 : decode cX8_write 10 = .ok (.aload_n 0, 1) := by decide +kernel
theorem dX8_write_11 : decode cX8_write 11 = .ok (.getfield 49, 3) := by decide +kernel
theorem dX8_write_14 : decode cX8_write 14 = .ok (.iload_n 1, 1) := by decide +kernel
theorem dX8_write_15 : decode cX8_write 15 = .ok (.iaload, 1) := by decide +kernel
theorem dX8_write_16 : decode cX8_write 16 = .ok (.iconst (-1), 1) := by decide +kernel
theorem dX8_write_17 : decode cX8_write 17 = .ok (.if_icmp .ne 6, 3) := by decide +kernel
theorem dX8_write_20 : decode cX8_write 20 = .ok (.bipush (-6), 2) := by decide +kernel
theorem dX8_write_22 : decode cX8_write 22 = .ok (.ireturn, 1) := by decide +kernel
theorem dX8_write_23 : decode cX8_write 23 = .ok (.iload_n 2, 1) := by decide +kernel
theorem dX8_write_24 : decode cX8_write 24 = .ok (.i2l, 1) := by decide +kernel
theorem dX8_write_25 : decode cX8_write 25 = .ok (.lconst 0, 1) := by decide +kernel
theorem dX8_write_26 : decode cX8_write 26 = .ok (.aload_n 0, 1) := by decide +kernel
theorem dX8_write_27 : decode cX8_write 27 = .ok (.getfield 49, 3) := by decide +kernel
theorem dX8_write_30 : decode cX8_write 30 = .ok (.iload_n 1, 1) := by decide +kernel
theorem dX8_write_31 : decode cX8_write 31 = .ok (.iaload, 1) := by decide +kernel
theorem dX8_write_32 : decode cX8_write 32 = .ok (.iconst 1, 1) := by decide +kernel
theorem dX8_write_33 : decode cX8_write 33 = .ok (.isub, 1) := by decide +kernel
theorem dX8_write_34 : decode cX8_write 34 = .ok (.i2l, 1) := by decide +kernel
theorem dX8_write_35 : decode cX8_write 35 = .ok (.invokestatic 68, 3) := by decide +kernel
theorem dX8_write_38 : decode cX8_write 38 = .ok (.ifCond .ne 6, 3) := by decide +kernel
theorem dX8_write_41 : decode cX8_write 41 = .ok (.bipush (-7), 2) := by decide +kernel
theorem dX8_write_43 : decode cX8_write 43 = .ok (.ireturn, 1) := by decide +kernel
theorem dX8_write_44 : decode cX8_write 44 = .ok (.aload_n 0, 1) := by decide +kernel
theorem dX8_write_45 : decode cX8_write 45 = .ok (.getfield 55, 3) := by decide +kernel
theorem dX8_write_48 : decode cX8_write 48 = .ok (.bipush 60, 2) := by decide +kernel
theorem dX8_write_50 : decode cX8_write 50 = .ok (.iload_n 1, 1) := by decide +kernel
theorem dX8_write_51 : decode cX8_write 51 = .ok (.imul, 1) := by decide +kernel
theorem dX8_write_52 : decode cX8_write 52 = .ok (.iload_n 2, 1) := by decide +kernel
theorem dX8_write_53 : decode cX8_write 53 = .ok (.iadd, 1) := by decide +kernel
theorem dX8_write_54 : decode cX8_write 54 = .ok (.lload_n 3, 1) := by decide +kernel
theorem dX8_write_55 : decode cX8_write 55 = .ok (.aload_n 0, 1) := by decide +kernel
theorem dX8_write_56 : decode cX8_write 56 = .ok (.getfield 52, 3) := by decide +kernel
theorem dX8_write_59 : decode cX8_write 59 = .ok (.iload_n 1, 1) := by decide +kernel
theorem dX8_write_60 : decode cX8_write 60 = .ok (.iaload, 1) := by decide +kernel
theorem dX8_write_61 : decode cX8_write 61 = .ok (.invokestatic 461, 3) := by decide +kernel
theorem dX8_write_64 : decode cX8_write 64 = .ok (.lastore, 1) := by decide +kernel
theorem dX8_write_65 : decode cX8_write 65 = .ok (.iconst 0, 1) := by decide +kernel
theorem dX8_write_66 : decode cX8_write 66 = .ok (.ireturn, 1) := by decide +kernel
theorem dX8_paste_0 : decode cX8_paste 0 = .ok (.iload_n 1, 1) := by decide +kernel
theorem dX8_paste_1 : decode cX8_paste 1 = .ok (.invokestatic 290, 3) := by decide +kernel
theorem dX8_paste_4 : decode cX8_paste 4 = .ok (.ifCond .eq 10, 3) := by decide +kernel
theorem dX8_paste_7 : decode cX8_paste 7 = .ok (.iload_n 3, 1) := by decide +kernel
theorem dX8_paste_8 : decode cX8_paste 8 = .ok (.invokestatic 290, 3) := by decide +kernel
theorem dX8_paste_11 : decode cX8_paste 11 = .ok (.ifCond .ne 6, 3) := by decide +kernel
theorem dX8_paste_14 : decode cX8_paste 14 = .ok (.bipush (-2), 2) := by decide +kernel
theorem dX8_paste_16 : decode cX8_paste 16 = .ok (.ireturn, 1) := by decide +kernel
theorem dX8_paste_17 : decode cX8_paste 17 = .ok (.aload_n 0, 1) := by decide +kernel
theorem dX8_paste_18 : decode cX8_paste 18 = .ok (.getfield 49, 3) := by decide +kernel
theorem dX8_paste_21 : decode cX8_paste 21 = .ok (.iload_n 1, 1) := by decide +kernel
theorem dX8_paste_22 : decode cX8_paste 22 = .ok (.iaload, 1) := by decide +kernel
theorem dX8_paste_23 : decode cX8_paste 23 = .ok (.iconst (-1), 1) := by decide +kernel
theorem dX8_paste_24 : decode cX8_paste 24 = .ok (.if_icmp .eq 13, 3) := by decide +kernel
theorem dX8_paste_27 : decode cX8_paste 27 = .ok (.aload_n 0, 1) := by decide +kernel
theorem dX8_paste_28 : decode cX8_paste 28 = .ok (.getfield 49, 3) := by decide +kernel
theorem dX8_paste_31 : decode cX8_paste 31 = .ok (.iload_n 3, 1) := by decide +kernel
theorem dX8_paste_32 : decode cX8_paste 32 = .ok (.iaload, 1) := by decide +kernel
theorem dX8_paste_33 : decode cX8_paste 33 = .ok (.iconst (-1), 1) := by decide +kernel
theorem dX8_paste_34 : decode cX8_paste 34 = .ok (.if_icmp .ne 6, 3) := by decide +kernel
theorem dX8_paste_37 : decode cX8_paste 37 = .ok (.bipush (-6), 2) := by decide +kernel
theorem dX8_paste_39 : decode cX8_paste 39 = .ok (.ireturn, 1) := by decide +kernel
theorem dX8_paste_40 : decode cX8_paste 40 = .ok (.aload_n 0, 1) := by decide +kernel
theorem dX8_paste_41 : decode cX8_paste 41 = .ok (.getfield 52, 3) := by decide +kernel
theorem dX8_paste_44 : decode cX8_paste 44 = .ok (.iload_n 1, 1) := by decide +kernel
theorem dX8_paste_45 : decode cX8_paste 45 = .ok (.iaload, 1) := by decide +kernel
theorem dX8_paste_46 : decode cX8_paste 46 = .ok (.aload_n 0, 1) := by decide +kernel
theorem dX8_paste_47 : decode cX8_paste 47 = .ok (.getfield 52, 3) := by decide +kernel
theorem dX8_paste_50 : decode cX8_paste 50 = .ok (.iload_n 3, 1) := by decide +kernel
theorem dX8_paste_51 : decode cX8_paste 51 = .ok (.iaload, 1) := by decide +kernel
theorem dX8_paste_52 : decode cX8_paste 52 = .ok (.if_icmp .eq 6, 3) := by decide +kernel
theorem dX8_paste_55 : decode cX8_paste 55 = .ok (.bipush (-8), 2) := by decide +kernel
theorem dX8_paste_57 : decode cX8_paste 57 = .ok (.ireturn, 1) := by decide +kernel
theorem dX8_paste_58 : decode cX8_paste 58 = .ok (.iload_n 2, 1) := by decide +kernel
theorem dX8_paste_59 : decode cX8_paste 59 = .ok (.ifCond .lt 48, 3) := by decide +kernel
theorem dX8_paste_62 : decode cX8_paste 62 = .ok (.iload 4, 2) := by decide +kernel
theorem dX8_paste_64 : decode cX8_paste 64 = .ok (.ifCond .lt 43, 3) := by decide +kernel
theorem dX8_paste_67 : decode cX8_paste 67 = .ok (.iload 5, 2) := by decide +kernel
theorem dX8_paste_69 : decode cX8_paste 69 = .ok (.ifCond .lt 38, 3) := by decide +kernel
theorem dX8_paste_72 : decode cX8_paste 72 = .ok (.iload_n 2, 1) := by decide +kernel
theorem dX8_paste_73 : decode cX8_paste 73 = .ok (.i2l, 1) := by decide +kernel
theorem dX8_paste_74 : decode cX8_paste 74 = .ok (.iload 5, 2) := by decide +kernel
theorem dX8_paste_76 : decode cX8_paste 76 = .ok (.i2l, 1) := by decide +kernel
theorem dX8_paste_77 : decode cX8_paste 77 = .ok (.ladd, 1) := by decide +kernel
theorem dX8_paste_78 : decode cX8_paste 78 = .ok (.aload_n 0, 1) := by decide +kernel
theorem dX8_paste_79 : decode cX8_paste 79 = .ok (.getfield 49, 3) := by decide +kernel
theorem dX8_paste_82 : decode cX8_paste 82 = .ok (.iload_n 1, 1) := by decide +kernel
theorem dX8_paste_83 : decode cX8_paste 83 = .ok (.iaload, 1) := by decide +kernel
theorem dX8_paste_84 : decode cX8_paste 84 = .ok (.i2l, 1) := by decide +kernel
theorem dX8_paste_85 : decode cX8_paste 85 = .ok (.lcmp, 1) := by decide +kernel
theorem dX8_paste_86 : decode cX8_paste 86 = .ok (.ifCond .gt 21, 3) := by decide +kernel
theorem dX8_paste_89 : decode cX8_paste 89 = .ok (.iload 4, 2) := by decide +kernel
theorem dX8_paste_91 : decode cX8_paste 91 = .ok (.i2l, 1) := by decide +kernel
theorem dX8_paste_92 : decode cX8_paste 92 = .ok (.iload 5, 2) := by decide +kernel
theorem dX8_paste_94 : decode cX8_paste 94 = .ok (.i2l, 1) := by decide +kernel
theorem dX8_paste_95 : decode cX8_paste 95 = .ok (.ladd, 1) := by decide +kernel
theorem dX8_paste_96 : decode cX8_paste 96 = .ok (.aload_n 0, 1) := by decide +kernel
theorem dX8_paste_97 : decode cX8_paste 97 = .ok (.getfield 49, 3) := by decide +kernel
theorem dX8_paste_100 : decode cX8_paste 100 = .ok (.iload_n 3, 1) := by decide +kernel
theorem dX8_paste_101 : decode cX8_paste 101 = .ok (.iaload, 1) := by decide +kernel
theorem dX8_paste_102 : decode cX8_paste 102 = .ok (.i2l, 1) := by decide +kernel
theorem dX8_paste_103 : decode cX8_paste 103 = .ok (.lcmp, 1) := by decide +kernel
theorem dX8_paste_104 : decode cX8_paste 104 = .ok (.ifCond .le 6, 3) := by decide +kernel
theorem dX8_paste_107 : decode cX8_paste 107 = .ok (.bipush (-7), 2) := by decide +kernel
theorem dX8_paste_109 : decode cX8_paste 109 = .ok (.ireturn, 1) := by decide +kernel
theorem dX8_paste_110 : decode cX8_paste 110 = .ok (.iconst 0, 1) := by decide +kernel
theorem dX8_paste_111 : decode cX8_paste 111 = .ok (.istore 6, 2) := by decide +kernel
theorem dX8_paste_113 : decode cX8_paste 113 = .ok (.iload 6, 2) := by decide +kernel
theorem dX8_paste_115 : decode cX8_paste 115 = .ok (.iload 5, 2) := by decide +kernel
theorem dX8_paste_117 : decode cX8_paste 117 = .ok (.if_icmp .ge 30, 3) := by decide +kernel
theorem dX8_paste_120 : decode cX8_paste 120 = .ok (.aload_n 0, 1) := by decide +kernel
theorem dX8_paste_121 : decode cX8_paste 121 = .ok (.getfield 59, 3) := by decide +kernel
theorem dX8_paste_124 : decode cX8_paste 124 = .ok (.iload 6, 2) := by decide +kernel
theorem dX8_paste_126 : decode cX8_paste 126 = .ok (.aload_n 0, 1) := by decide +kernel
theorem dX8_paste_127 : decode cX8_paste 127 = .ok (.getfield 55, 3) := by decide +kernel
theorem dX8_paste_130 : decode cX8_paste 130 = .ok (.bipush 60, 2) := by decide +kernel
theorem dX8_paste_132 : decode cX8_paste 132 = .ok (.iload_n 1, 1) := by decide +kernel
theorem dX8_paste_133 : decode cX8_paste 133 = .ok (.imul, 1) := by decide +kernel
theorem dX8_paste_134 : decode cX8_paste 134 = .ok (.iload_n 2, 1) := by decide +kernel
theorem dX8_paste_135 : decode cX8_paste 135 = .ok (.iadd, 1) := by decide +kernel
theorem dX8_paste_136 : decode cX8_paste 136 = .ok (.iload 6, 2) := by decide +kernel
theorem dX8_paste_138 : decode cX8_paste 138 = .ok (.iadd, 1) := by decide +kernel
theorem dX8_paste_139 : decode cX8_paste 139 = .ok (.laload, 1) := by decide +kernel
theorem dX8_paste_140 : decode cX8_paste 140 = .ok (.lastore, 1) := by decide +kernel
theorem dX8_paste_141 : decode cX8_paste 141 = .ok (.iinc 6 1, 3) := by decide +kernel
theorem dX8_paste_144 : decode cX8_paste 144 = .ok (.goto (-31), 3) := by decide +kernel
theorem dX8_paste_147 : decode cX8_paste 147 = .ok (.iconst 0, 1) := by decide +kernel
theorem dX8_paste_148 : decode cX8_paste 148 = .ok (.istore 6, 2) := by decide +kernel
theorem dX8_paste_150 : decode cX8_paste 150 = .ok (.iload 6, 2) := by decide +kernel
theorem dX8_paste_152 : decode cX8_paste 152 = .ok (.iload 5, 2) := by decide +kernel
theorem dX8_paste_154 : decode cX8_paste 154 = .ok (.if_icmp .ge 31, 3) := by decide +kernel
theorem dX8_paste_157 : decode cX8_paste 157 = .ok (.aload_n 0, 1) := by decide +kernel
theorem dX8_paste_158 : decode cX8_paste 158 = .ok (.getfield 55, 3) := by decide +kernel
theorem dX8_paste_161 : decode cX8_paste 161 = .ok (.bipush 60, 2) := by decide +kernel
theorem dX8_paste_163 : decode cX8_paste 163 = .ok (.iload_n 3, 1) := by decide +kernel
theorem dX8_paste_164 : decode cX8_paste 164 = .ok (.imul, 1) := by decide +kernel
theorem dX8_paste_165 : decode cX8_paste 165 = .ok (.iload 4, 2) := by decide +kernel
theorem dX8_paste_167 : decode cX8_paste 167 = .ok (.iadd, 1) := by decide +kernel
theorem dX8_paste_168 : decode cX8_paste 168 = .ok (.iload 6, 2) := by decide +kernel
theorem dX8_paste_170 : decode cX8_paste 170 = .ok (.iadd, 1) := by decide +kernel
theorem dX8_paste_171 : decode cX8_paste 171 = .ok (.aload_n 0, 1) := by decide +kernel
theorem dX8_paste_172 : decode cX8_paste 172 = .ok (.getfield 59, 3) := by decide +kernel
theorem dX8_paste_175 : decode cX8_paste 175 = .ok (.iload 6, 2) := by decide +kernel
theorem dX8_paste_177 : decode cX8_paste 177 = .ok (.laload, 1) := by decide +kernel
theorem dX8_paste_178 : decode cX8_paste 178 = .ok (.lastore, 1) := by decide +kernel
theorem dX8_paste_179 : decode cX8_paste 179 = .ok (.iinc 6 1, 3) := by decide +kernel
theorem dX8_paste_182 : decode cX8_paste 182 = .ok (.goto (-32), 3) := by decide +kernel
theorem dX8_paste_185 : decode cX8_paste 185 = .ok (.iconst 0, 1) := by decide +kernel
theorem dX8_paste_186 : decode cX8_paste 186 = .ok (.ireturn, 1) := by decide +kernel
theorem dJ6_bitCount_0f7a4_0 : decode cJ6_bitCount_0f7a4 0 = .ok (.iload_n 0, 1) := by decide +kernel
theorem dJ6_bitCount_0f7a4_1 : decode cJ6_bitCount_0f7a4 1 = .ok (.iload_n 0, 1) := by decide +kernel
theorem dJ6_bitCount_0f7a4_2 : decode cJ6_bitCount_0f7a4 2 = .ok (.iconst 1, 1) := by decide +kernel
theorem dJ6_bitCount_0f7a4_3 : decode cJ6_bitCount_0f7a4 3 = .ok (.iushr, 1) := by decide +kernel
theorem dJ6_bitCount_0f7a4_4 : decode cJ6_bitCount_0f7a4 4 = .ok (.ldc_w 265, 3) := by decide +kernel
theorem dJ6_bitCount_0f7a4_7 : decode cJ6_bitCount_0f7a4 7 = .ok (.iand, 1) := by decide +kernel
theorem dJ6_bitCount_0f7a4_8 : decode cJ6_bitCount_0f7a4 8 = .ok (.isub, 1) := by decide +kernel
theorem dJ6_bitCount_0f7a4_9 : decode cJ6_bitCount_0f7a4 9 = .ok (.istore_n 0, 1) := by decide +kernel
theorem dJ6_bitCount_0f7a4_10 : decode cJ6_bitCount_0f7a4 10 = .ok (.iload_n 0, 1) := by decide +kernel
theorem dJ6_bitCount_0f7a4_11 : decode cJ6_bitCount_0f7a4 11 = .ok (.ldc_w 266, 3) := by decide +kernel
theorem dJ6_bitCount_0f7a4_14 : decode cJ6_bitCount_0f7a4 14 = .ok (.iand, 1) := by decide +kernel
theorem dJ6_bitCount_0f7a4_15 : decode cJ6_bitCount_0f7a4 15 = .ok (.iload_n 0, 1) := by decide +kernel
theorem dJ6_bitCount_0f7a4_16 : decode cJ6_bitCount_0f7a4 16 = .ok (.iconst 2, 1) := by decide +kernel
theorem dJ6_bitCount_0f7a4_17 : decode cJ6_bitCount_0f7a4 17 = .ok (.iushr, 1) := by decide +kernel
theorem dJ6_bitCount_0f7a4_18 : decode cJ6_bitCount_0f7a4 18 = .ok (.ldc_w 266, 3) := by decide +kernel
theorem dJ6_bitCount_0f7a4_21 : decode cJ6_bitCount_0f7a4 21 = .ok (.iand, 1) := by decide +kernel
theorem dJ6_bitCount_0f7a4_22 : decode cJ6_bitCount_0f7a4 22 = .ok (.iadd, 1) := by decide +kernel
theorem dJ6_bitCount_0f7a4_23 : decode cJ6_bitCount_0f7a4 23 = .ok (.istore_n 0, 1) := by decide +kernel
theorem dJ6_bitCount_0f7a4_24 : decode cJ6_bitCount_0f7a4 24 = .ok (.iload_n 0, 1) := by decide +kernel
theorem dJ6_bitCount_0f7a4_25 : decode cJ6_bitCount_0f7a4 25 = .ok (.iload_n 0, 1) := by decide +kernel
theorem dJ6_bitCount_0f7a4_26 : decode cJ6_bitCount_0f7a4 26 = .ok (.iconst 4, 1) := by decide +kernel
theorem dJ6_bitCount_0f7a4_27 : decode cJ6_bitCount_0f7a4 27 = .ok (.iushr, 1) := by decide +kernel
theorem dJ6_bitCount_0f7a4_28 : decode cJ6_bitCount_0f7a4 28 = .ok (.iadd, 1) := by decide +kernel
theorem dJ6_bitCount_0f7a4_29 : decode cJ6_bitCount_0f7a4 29 = .ok (.ldc_w 267, 3) := by decide +kernel
theorem dJ6_bitCount_0f7a4_32 : decode cJ6_bitCount_0f7a4 32 = .ok (.iand, 1) := by decide +kernel
theorem dJ6_bitCount_0f7a4_33 : decode cJ6_bitCount_0f7a4 33 = .ok (.istore_n 0, 1) := by decide +kernel
theorem dJ6_bitCount_0f7a4_34 : decode cJ6_bitCount_0f7a4 34 = .ok (.iload_n 0, 1) := by decide +kernel
theorem dJ6_bitCount_0f7a4_35 : decode cJ6_bitCount_0f7a4 35 = .ok (.iload_n 0, 1) := by decide +kernel
theorem dJ6_bitCount_0f7a4_36 : decode cJ6_bitCount_0f7a4 36 = .ok (.bipush 8, 2) := by decide +kernel
theorem dJ6_bitCount_0f7a4_38 : decode cJ6_bitCount_0f7a4 38 = .ok (.iushr, 1) := by decide +kernel
theorem dJ6_bitCount_0f7a4_39 : decode cJ6_bitCount_0f7a4 39 = .ok (.iadd, 1) := by decide +kernel
theorem dJ6_bitCount_0f7a4_40 : decode cJ6_bitCount_0f7a4 40 = .ok (.istore_n 0, 1) := by decide +kernel
theorem dJ6_bitCount_0f7a4_41 : decode cJ6_bitCount_0f7a4 41 = .ok (.iload_n 0, 1) := by decide +kernel
theorem dJ6_bitCount_0f7a4_42 : decode cJ6_bitCount_0f7a4 42 = .ok (.iload_n 0, 1) := by decide +kernel
theorem dJ6_bitCount_0f7a4_43 : decode cJ6_bitCount_0f7a4 43 = .ok (.bipush 16, 2) := by decide +kernel
theorem dJ6_bitCount_0f7a4_45 : decode cJ6_bitCount_0f7a4 45 = .ok (.iushr, 1) := by decide +kernel
theorem dJ6_bitCount_0f7a4_46 : decode cJ6_bitCount_0f7a4 46 = .ok (.iadd, 1) := by decide +kernel
theorem dJ6_bitCount_0f7a4_47 : decode cJ6_bitCount_0f7a4 47 = .ok (.istore_n 0, 1) := by decide +kernel
theorem dJ6_bitCount_0f7a4_48 : decode cJ6_bitCount_0f7a4 48 = .ok (.iload_n 0, 1) := by decide +kernel
theorem dJ6_bitCount_0f7a4_49 : decode cJ6_bitCount_0f7a4 49 = .ok (.bipush 63, 2) := by decide +kernel
theorem dJ6_bitCount_0f7a4_51 : decode cJ6_bitCount_0f7a4 51 = .ok (.iand, 1) := by decide +kernel
theorem dJ6_bitCount_0f7a4_52 : decode cJ6_bitCount_0f7a4 52 = .ok (.ireturn, 1) := by decide +kernel
theorem dJ9_abs_0f7a4_0 : decode cJ9_abs_0f7a4 0 = .ok (.iload_n 0, 1) := by decide +kernel
theorem dJ9_abs_0f7a4_1 : decode cJ9_abs_0f7a4 1 = .ok (.ifCond .ge 8, 3) := by decide +kernel
theorem dJ9_abs_0f7a4_4 : decode cJ9_abs_0f7a4 4 = .ok (.iload_n 0, 1) := by decide +kernel
theorem dJ9_abs_0f7a4_5 : decode cJ9_abs_0f7a4 5 = .ok (.ineg, 1) := by decide +kernel
theorem dJ9_abs_0f7a4_6 : decode cJ9_abs_0f7a4 6 = .ok (.goto 4, 3) := by decide +kernel
theorem dJ9_abs_0f7a4_9 : decode cJ9_abs_0f7a4 9 = .ok (.iload_n 0, 1) := by decide +kernel
theorem dJ9_abs_0f7a4_10 : decode cJ9_abs_0f7a4 10 = .ok (.ireturn, 1) := by decide +kernel
theorem dJ9_max_7cf53_0 : decode cJ9_max_7cf53 0 = .ok (.iload_n 0, 1) := by decide +kernel
theorem dJ9_max_7cf53_1 : decode cJ9_max_7cf53 1 = .ok (.iload_n 1, 1) := by decide +kernel
theorem dJ9_max_7cf53_2 : decode cJ9_max_7cf53 2 = .ok (.if_icmp .lt 7, 3) := by decide +kernel
theorem dJ9_max_7cf53_5 : decode cJ9_max_7cf53 5 = .ok (.iload_n 0, 1) := by decide +kernel
theorem dJ9_max_7cf53_6 : decode cJ9_max_7cf53 6 = .ok (.goto 4, 3) := by decide +kernel
theorem dJ9_max_7cf53_9 : decode cJ9_max_7cf53 9 = .ok (.iload_n 1, 1) := by decide +kernel
theorem dJ9_max_7cf53_10 : decode cJ9_max_7cf53 10 = .ok (.ireturn, 1) := by decide +kernel
theorem dJ9_min_7cf53_0 : decode cJ9_min_7cf53 0 = .ok (.iload_n 0, 1) := by decide +kernel
theorem dJ9_min_7cf53_1 : decode cJ9_min_7cf53 1 = .ok (.iload_n 1, 1) := by decide +kernel
theorem dJ9_min_7cf53_2 : decode cJ9_min_7cf53 2 = .ok (.if_icmp .gt 7, 3) := by decide +kernel
theorem dJ9_min_7cf53_5 : decode cJ9_min_7cf53 5 = .ok (.iload_n 0, 1) := by decide +kernel
theorem dJ9_min_7cf53_6 : decode cJ9_min_7cf53 6 = .ok (.goto 4, 3) := by decide +kernel
theorem dJ9_min_7cf53_9 : decode cJ9_min_7cf53 9 = .ok (.iload_n 1, 1) := by decide +kernel
theorem dJ9_min_7cf53_10 : decode cJ9_min_7cf53 10 = .ok (.ireturn, 1) := by decide +kernel
theorem dJ0_length_8abf5_0 : decode cJ0_length_8abf5 0 = .ok (.aload_n 0, 1) := by decide +kernel
theorem dJ0_length_8abf5_1 : decode cJ0_length_8abf5 1 = .ok (.getfield 9, 3) := by decide +kernel
theorem dJ0_length_8abf5_4 : decode cJ0_length_8abf5 4 = .ok (.arraylength, 1) := by decide +kernel
theorem dJ0_length_8abf5_5 : decode cJ0_length_8abf5 5 = .ok (.aload_n 0, 1) := by decide +kernel
theorem dJ0_length_8abf5_6 : decode cJ0_length_8abf5 6 = .ok (.invokevirtual 335, 3) := by decide +kernel
theorem dJ0_length_8abf5_9 : decode cJ0_length_8abf5 9 = .ok (.ishr, 1) := by decide +kernel
theorem dJ0_length_8abf5_10 : decode cJ0_length_8abf5 10 = .ok (.ireturn, 1) := by decide +kernel
theorem dJ0_charAt_5068e_0 : decode cJ0_charAt_5068e 0 = .ok (.aload_n 0, 1) := by decide +kernel
theorem dJ0_charAt_5068e_1 : decode cJ0_charAt_5068e 1 = .ok (.invokevirtual 492, 3) := by decide +kernel
theorem dJ0_charAt_5068e_4 : decode cJ0_charAt_5068e 4 = .ok (.ifCond .eq 12, 3) := by decide +kernel
theorem dJ0_charAt_5068e_7 : decode cJ0_charAt_5068e 7 = .ok (.aload_n 0, 1) := by decide +kernel
theorem dJ0_charAt_5068e_8 : decode cJ0_charAt_5068e 8 = .ok (.getfield 9, 3) := by decide +kernel
theorem dJ0_charAt_5068e_11 : decode cJ0_charAt_5068e 11 = .ok (.iload_n 1, 1) := by decide +kernel
theorem dJ0_charAt_5068e_12 : decode cJ0_charAt_5068e 12 = .ok (.invokestatic 495, 3) := by decide +kernel
theorem dJ0_charAt_5068e_15 : decode cJ0_charAt_5068e 15 = .ok (.ireturn, 1) := by decide +kernel
theorem dJ0_charAt_5068e_16 : decode cJ0_charAt_5068e 16 = .ok (.aload_n 0, 1) := by decide +kernel
theorem dJ0_charAt_5068e_17 : decode cJ0_charAt_5068e 17 = .ok (.getfield 9, 3) := by decide +kernel
theorem dJ0_charAt_5068e_20 : decode cJ0_charAt_5068e 20 = .ok (.iload_n 1, 1) := by decide +kernel
theorem dJ0_charAt_5068e_21 : decode cJ0_charAt_5068e 21 = .ok (.invokestatic 498, 3) := by decide +kernel
theorem dJ0_charAt_5068e_24 : decode cJ0_charAt_5068e 24 = .ok (.ireturn, 1) := by decide +kernel
theorem dJ0_coder_7d493_0 : decode cJ0_coder_7d493 0 = .ok (.getstatic 38, 3) := by decide +kernel
theorem dJ0_coder_7d493_3 : decode cJ0_coder_7d493 3 = .ok (.ifCond .eq 10, 3) := by decide +kernel
theorem dJ0_coder_7d493_6 : decode cJ0_coder_7d493 6 = .ok (.aload_n 0, 1) := by decide +kernel
theorem dJ0_coder_7d493_7 : decode cJ0_coder_7d493 7 = .ok (.getfield 15, 3) := by decide +kernel
theorem dJ0_coder_7d493_10 : decode cJ0_coder_7d493 10 = .ok (.goto 4, 3) := by decide +kernel
theorem dJ0_coder_7d493_13 : decode cJ0_coder_7d493 13 = .ok (.iconst 1, 1) := by decide +kernel
theorem dJ0_coder_7d493_14 : decode cJ0_coder_7d493 14 = .ok (.ireturn, 1) := by decide +kernel
theorem dJ0_isLatin1_aae02_0 : decode cJ0_isLatin1_aae02 0 = .ok (.getstatic 38, 3) := by decide +kernel
theorem dJ0_isLatin1_aae02_3 : decode cJ0_isLatin1_aae02 3 = .ok (.ifCond .eq 14, 3) := by decide +kernel
theorem dJ0_isLatin1_aae02_6 : decode cJ0_isLatin1_aae02 6 = .ok (.aload_n 0, 1) := by decide +kernel
theorem dJ0_isLatin1_aae02_7 : decode cJ0_isLatin1_aae02 7 = .ok (.getfield 15, 3) := by decide +kernel
theorem dJ0_isLatin1_aae02_10 : decode cJ0_isLatin1_aae02 10 = .ok (.ifCond .ne 7, 3) := by decide +kernel
theorem dJ0_isLatin1_aae02_13 : decode cJ0_isLatin1_aae02 13 = .ok (.iconst 1, 1) := by decide +kernel
theorem dJ0_isLatin1_aae02_14 : decode cJ0_isLatin1_aae02 14 = .ok (.goto 4, 3) := by decide +kernel
theorem dJ0_isLatin1_aae02_17 : decode cJ0_isLatin1_aae02 17 = .ok (.iconst 0, 1) := by decide +kernel
theorem dJ0_isLatin1_aae02_18 : decode cJ0_isLatin1_aae02 18 = .ok (.ireturn, 1) := by decide +kernel
theorem dJ0_checkIndex_df160_0 : decode cJ0_checkIndex_df160 0 = .ok (.iload_n 0, 1) := by decide +kernel
theorem dJ0_checkIndex_df160_1 : decode cJ0_checkIndex_df160 1 = .ok (.iload_n 1, 1) := by decide +kernel
theorem dJ0_checkIndex_df160_2 : decode cJ0_checkIndex_df160 2 = .ok (.getstatic 1053, 3) := by decide +kernel
theorem dJ0_checkIndex_df160_5 : decode cJ0_checkIndex_df160 5 = .ok (.invokestatic 1059, 3) := by decide +kernel
theorem dJ0_checkIndex_df160_8 : decode cJ0_checkIndex_df160 8 = .ok (.pop, 1) := by decide +kernel
theorem dJ0_checkIndex_df160_9 : decode cJ0_checkIndex_df160 9 = .ok (.return_, 1) := by decide +kernel
theorem dJ1_charAt_3b067_0 : decode cJ1_charAt_3b067 0 = .ok (.iload_n 1, 1) := by decide +kernel
theorem dJ1_charAt_3b067_1 : decode cJ1_charAt_3b067 1 = .ok (.aload_n 0, 1) := by decide +kernel
theorem dJ1_charAt_3b067_2 : decode cJ1_charAt_3b067 2 = .ok (.arraylength, 1) := by decide +kernel
theorem dJ1_charAt_3b067_3 : decode cJ1_charAt_3b067 3 = .ok (.invokestatic 9, 3) := by decide +kernel
theorem dJ1_charAt_3b067_6 : decode cJ1_charAt_3b067 6 = .ok (.aload_n 0, 1) := by decide +kernel
theorem dJ1_charAt_3b067_7 : decode cJ1_charAt_3b067 7 = .ok (.iload_n 1, 1) := by decide +kernel
theorem dJ1_charAt_3b067_8 : decode cJ1_charAt_3b067 8 = .ok (.baload, 1) := by decide +kernel
theorem dJ1_charAt_3b067_9 : decode cJ1_charAt_3b067 9 = .ok (.sipush 255, 3) := by decide +kernel
theorem dJ1_charAt_3b067_12 : decode cJ1_charAt_3b067 12 = .ok (.iand, 1) := by decide +kernel
theorem dJ1_charAt_3b067_13 : decode cJ1_charAt_3b067 13 = .ok (.i2c, 1) := by decide +kernel
