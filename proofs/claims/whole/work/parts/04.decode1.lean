theorem dX0_init_0 : decode cX0_init 0 = .ok (.aload_n 0, 1) := by decide +kernel
theorem dX0_init_1 : decode cX0_init 1 = .ok (.invokespecial 3, 3) := by decide +kernel
theorem dX0_init_4 : decode cX0_init 4 = .ok (.aload_n 0, 1) := by decide +kernel
theorem dX0_init_5 : decode cX0_init 5 = .ok (.iconst (-1), 1) := by decide +kernel
theorem dX0_init_6 : decode cX0_init 6 = .ok (.putfield 9, 3) := by decide +kernel
theorem dX0_init_9 : decode cX0_init 9 = .ok (.aload_n 0, 1) := by decide +kernel
theorem dX0_init_10 : decode cX0_init 10 = .ok (.bipush 32, 2) := by decide +kernel
theorem dX0_init_12 : decode cX0_init 12 = .ok (.newarray .int, 2) := by decide +kernel
theorem dX0_init_14 : decode cX0_init 14 = .ok (.putfield 15, 3) := by decide +kernel
theorem dX0_init_17 : decode cX0_init 17 = .ok (.aload_n 0, 1) := by decide +kernel
theorem dX0_init_18 : decode cX0_init 18 = .ok (.bipush 32, 2) := by decide +kernel
theorem dX0_init_20 : decode cX0_init 20 = .ok (.newarray .int, 2) := by decide +kernel
theorem dX0_init_22 : decode cX0_init 22 = .ok (.putfield 19, 3) := by decide +kernel
theorem dX0_init_25 : decode cX0_init 25 = .ok (.aload_n 0, 1) := by decide +kernel
theorem dX0_init_26 : decode cX0_init 26 = .ok (.bipush 32, 2) := by decide +kernel
theorem dX0_init_28 : decode cX0_init 28 = .ok (.newarray .int, 2) := by decide +kernel
theorem dX0_init_30 : decode cX0_init 30 = .ok (.putfield 22, 3) := by decide +kernel
theorem dX0_init_33 : decode cX0_init 33 = .ok (.aload_n 0, 1) := by decide +kernel
theorem dX0_init_34 : decode cX0_init 34 = .ok (.bipush 32, 2) := by decide +kernel
theorem dX0_init_36 : decode cX0_init 36 = .ok (.newarray .int, 2) := by decide +kernel
theorem dX0_init_38 : decode cX0_init 38 = .ok (.putfield 25, 3) := by decide +kernel
theorem dX0_init_41 : decode cX0_init 41 = .ok (.aload_n 0, 1) := by decide +kernel
theorem dX0_init_42 : decode cX0_init 42 = .ok (.iconst 5, 1) := by decide +kernel
theorem dX0_init_43 : decode cX0_init 43 = .ok (.newarray .int, 2) := by decide +kernel
theorem dX0_init_45 : decode cX0_init 45 = .ok (.putfield 28, 3) := by decide +kernel
theorem dX0_init_48 : decode cX0_init 48 = .ok (.aload_n 0, 1) := by decide +kernel
theorem dX0_init_49 : decode cX0_init 49 = .ok (.iconst 5, 1) := by decide +kernel
theorem dX0_init_50 : decode cX0_init 50 = .ok (.newarray .int, 2) := by decide +kernel
theorem dX0_init_52 : decode cX0_init 52 = .ok (.putfield 31, 3) := by decide +kernel
theorem dX0_init_55 : decode cX0_init 55 = .ok (.aload_n 0, 1) := by decide +kernel
theorem dX0_init_56 : decode cX0_init 56 = .ok (.sipush 160, 3) := by decide +kernel
theorem dX0_init_59 : decode cX0_init 59 = .ok (.newarray .int, 2) := by decide +kernel
theorem dX0_init_61 : decode cX0_init 61 = .ok (.putfield 34, 3) := by decide +kernel
theorem dX0_init_64 : decode cX0_init 64 = .ok (.aload_n 0, 1) := by decide +kernel
theorem dX0_init_65 : decode cX0_init 65 = .ok (.sipush 160, 3) := by decide +kernel
theorem dX0_init_68 : decode cX0_init 68 = .ok (.newarray .int, 2) := by decide +kernel
theorem dX0_init_70 : decode cX0_init 70 = .ok (.putfield 37, 3) := by decide +kernel
theorem dX0_init_73 : decode cX0_init 73 = .ok (.aload_n 0, 1) := by decide +kernel
theorem dX0_init_74 : decode cX0_init 74 = .ok (.sipush 900, 3) := by decide +kernel
theorem dX0_init_77 : decode cX0_init 77 = .ok (.newarray .int, 2) := by decide +kernel
theorem dX0_init_79 : decode cX0_init 79 = .ok (.putfield 40, 3) := by decide +kernel
theorem dX0_init_82 : decode cX0_init 82 = .ok (.return_, 1) := by decide +kernel
theorem dX0_clear_0 : decode cX0_clear 0 = .ok (.aload_n 0, 1) := by decide +kernel
theorem dX0_clear_1 : decode cX0_clear 1 = .ok (.iconst 0, 1) := by decide +kernel
theorem dX0_clear_2 : decode cX0_clear 2 = .ok (.putfield 43, 3) := by decide +kernel
theorem dX0_clear_5 : decode cX0_clear 5 = .ok (.aload_n 0, 1) := by decide +kernel
theorem dX0_clear_6 : decode cX0_clear 6 = .ok (.iconst 0, 1) := by decide +kernel
theorem dX0_clear_7 : decode cX0_clear 7 = .ok (.putfield 46, 3) := by decide +kernel
theorem dX0_clear_10 : decode cX0_clear 10 = .ok (.aload_n 0, 1) := by decide +kernel
theorem dX0_clear_11 : decode cX0_clear 11 = .ok (.iconst 0, 1) := by decide +kernel
theorem dX0_clear_12 : decode cX0_clear 12 = .ok (.putfield 49, 3) := by decide +kernel
theorem dX0_clear_15 : decode cX0_clear 15 = .ok (.aload_n 0, 1) := by decide +kernel
theorem dX0_clear_16 : decode cX0_clear 16 = .ok (.iconst (-1), 1) := by decide +kernel
theorem dX0_clear_17 : decode cX0_clear 17 = .ok (.putfield 9, 3) := by decide +kernel
theorem dX0_clear_20 : decode cX0_clear 20 = .ok (.aload_n 0, 1) := by decide +kernel
theorem dX0_clear_21 : decode cX0_clear 21 = .ok (.iconst 0, 1) := by decide +kernel
theorem dX0_clear_22 : decode cX0_clear 22 = .ok (.putfield 52, 3) := by decide +kernel
theorem dX0_clear_25 : decode cX0_clear 25 = .ok (.aload_n 0, 1) := by decide +kernel
theorem dX0_clear_26 : decode cX0_clear 26 = .ok (.iconst 0, 1) := by decide +kernel
theorem dX0_clear_27 : decode cX0_clear 27 = .ok (.putfield 55, 3) := by decide +kernel
theorem dX0_clear_30 : decode cX0_clear 30 = .ok (.aload_n 0, 1) := by decide +kernel
theorem dX0_clear_31 : decode cX0_clear 31 = .ok (.iconst 0, 1) := by decide +kernel
theorem dX0_clear_32 : decode cX0_clear 32 = .ok (.putfield 58, 3) := by decide +kernel
theorem dX0_clear_35 : decode cX0_clear 35 = .ok (.aload_n 0, 1) := by decide +kernel
theorem dX0_clear_36 : decode cX0_clear 36 = .ok (.iconst 0, 1) := by decide +kernel
theorem dX0_clear_37 : decode cX0_clear 37 = .ok (.putfield 61, 3) := by decide +kernel
theorem dX0_clear_40 : decode cX0_clear 40 = .ok (.aload_n 0, 1) := by decide +kernel
theorem dX0_clear_41 : decode cX0_clear 41 = .ok (.getfield 19, 3) := by decide +kernel
theorem dX0_clear_44 : decode cX0_clear 44 = .ok (.iconst 0, 1) := by decide +kernel
theorem dX0_clear_45 : decode cX0_clear 45 = .ok (.invokestatic 64, 3) := by decide +kernel
theorem dX0_clear_48 : decode cX0_clear 48 = .ok (.aload_n 0, 1) := by decide +kernel
theorem dX0_clear_49 : decode cX0_clear 49 = .ok (.getfield 28, 3) := by decide +kernel
theorem dX0_clear_52 : decode cX0_clear 52 = .ok (.iconst 0, 1) := by decide +kernel
theorem dX0_clear_53 : decode cX0_clear 53 = .ok (.invokestatic 64, 3) := by decide +kernel
theorem dX0_clear_56 : decode cX0_clear 56 = .ok (.aload_n 0, 1) := by decide +kernel
theorem dX0_clear_57 : decode cX0_clear 57 = .ok (.getfield 31, 3) := by decide +kernel
theorem dX0_clear_60 : decode cX0_clear 60 = .ok (.iconst 0, 1) := by decide +kernel
theorem dX0_clear_61 : decode cX0_clear 61 = .ok (.invokestatic 64, 3) := by decide +kernel
theorem dX0_clear_64 : decode cX0_clear 64 = .ok (.aload_n 0, 1) := by decide +kernel
theorem dX0_clear_65 : decode cX0_clear 65 = .ok (.getfield 40, 3) := by decide +kernel
theorem dX0_clear_68 : decode cX0_clear 68 = .ok (.iconst 0, 1) := by decide +kernel
theorem dX0_clear_69 : decode cX0_clear 69 = .ok (.invokestatic 64, 3) := by decide +kernel
theorem dX0_clear_72 : decode cX0_clear 72 = .ok (.return_, 1) := by decide +kernel
theorem dX0_copyFrom_0 : decode cX0_copyFrom 0 = .ok (.aload_n 0, 1) := by decide +kernel
theorem dX0_copyFrom_1 : decode cX0_copyFrom 1 = .ok (.aload_n 1, 1) := by decide +kernel
theorem dX0_copyFrom_2 : decode cX0_copyFrom 2 = .ok (.getfield 43, 3) := by decide +kernel
theorem dX0_copyFrom_5 : decode cX0_copyFrom 5 = .ok (.putfield 43, 3) := by decide +kernel
theorem dX0_copyFrom_8 : decode cX0_copyFrom 8 = .ok (.aload_n 0, 1) := by decide +kernel
theorem dX0_copyFrom_9 : decode cX0_copyFrom 9 = .ok (.aload_n 1, 1) := by decide +kernel
theorem dX0_copyFrom_10 : decode cX0_copyFrom 10 = .ok (.getfield 46, 3) := by decide +kernel
theorem dX0_copyFrom_13 : decode cX0_copyFrom 13 = .ok (.putfield 46, 3) := by decide +kernel
theorem dX0_copyFrom_16 : decode cX0_copyFrom 16 = .ok (.aload_n 0, 1) := by decide +kernel
theorem dX0_copyFrom_17 : decode cX0_copyFrom 17 = .ok (.aload_n 1, 1) := by decide +kernel
theorem dX0_copyFrom_18 : decode cX0_copyFrom 18 = .ok (.getfield 49, 3) := by decide +kernel
theorem dX0_copyFrom_21 : decode cX0_copyFrom 21 = .ok (.putfield 49, 3) := by decide +kernel
theorem dX0_copyFrom_24 : decode cX0_copyFrom 24 = .ok (.aload_n 0, 1) := by decide +kernel
theorem dX0_copyFrom_25 : decode cX0_copyFrom 25 = .ok (.aload_n 1, 1) := by decide +kernel
theorem dX0_copyFrom_26 : decode cX0_copyFrom 26 = .ok (.getfield 9, 3) := by decide +kernel
theorem dX0_copyFrom_29 : decode cX0_copyFrom 29 = .ok (.putfield 9, 3) := by decide +kernel
theorem dX0_copyFrom_32 : decode cX0_copyFrom 32 = .ok (.aload_n 0, 1) := by decide +kernel
theorem dX0_copyFrom_33 : decode cX0_copyFrom 33 = .ok (.aload_n 1, 1) := by decide +kernel
theorem dX0_copyFrom_34 : decode cX0_copyFrom 34 = .ok (.getfield 52, 3) := by decide +kernel
theorem dX0_copyFrom_37 : decode cX0_copyFrom 37 = .ok (.putfield 52, 3) := by decide +kernel
theorem dX0_copyFrom_40 : decode cX0_copyFrom 40 = .ok (.aload_n 0, 1) := by decide +kernel
theorem dX0_copyFrom_41 : decode cX0_copyFrom 41 = .ok (.aload_n 1, 1) := by decide +kernel
theorem dX0_copyFrom_42 : decode cX0_copyFrom 42 = .ok (.getfield 55, 3) := by decide +kernel
theorem dX0_copyFrom_45 : decode cX0_copyFrom 45 = .ok (.putfield 55, 3) := by decide +kernel
theorem dX0_copyFrom_48 : decode cX0_copyFrom 48 = .ok (.aload_n 0, 1) := by decide +kernel
theorem dX0_copyFrom_49 : decode cX0_copyFrom 49 = .ok (.aload_n 1, 1) := by decide +kernel
theorem dX0_copyFrom_50 : decode cX0_copyFrom 50 = .ok (.getfield 58, 3) := by decide +kernel
theorem dX0_copyFrom_53 : decode cX0_copyFrom 53 = .ok (.putfield 58, 3) := by decide +kernel
theorem dX0_copyFrom_56 : decode cX0_copyFrom 56 = .ok (.aload_n 0, 1) := by decide +kernel
theorem dX0_copyFrom_57 : decode cX0_copyFrom 57 = .ok (.aload_n 1, 1) := by decide +kernel
theorem dX0_copyFrom_58 : decode cX0_copyFrom 58 = .ok (.getfield 61, 3) := by decide +kernel
theorem dX0_copyFrom_61 : decode cX0_copyFrom 61 = .ok (.putfield 61, 3) := by decide +kernel
theorem dX0_copyFrom_64 : decode cX0_copyFrom 64 = .ok (.aload_n 1, 1) := by decide +kernel
theorem dX0_copyFrom_65 : decode cX0_copyFrom 65 = .ok (.getfield 15, 3) := by decide +kernel
theorem dX0_copyFrom_68 : decode cX0_copyFrom 68 = .ok (.iconst 0, 1) := by decide +kernel
theorem dX0_copyFrom_69 : decode cX0_copyFrom 69 = .ok (.aload_n 0, 1) := by decide +kernel
theorem dX0_copyFrom_70 : decode cX0_copyFrom 70 = .ok (.getfield 15, 3) := by decide +kernel
theorem dX0_copyFrom_73 : decode cX0_copyFrom 73 = .ok (.iconst 0, 1) := by decide +kernel
theorem dX0_copyFrom_74 : decode cX0_copyFrom 74 = .ok (.bipush 32, 2) := by decide +kernel
theorem dX0_copyFrom_76 : decode cX0_copyFrom 76 = .ok (.invokestatic 70, 3) := by decide +kernel
theorem dX0_copyFrom_79 : decode cX0_copyFrom 79 = .ok (.aload_n 1, 1) := by decide +kernel
theorem dX0_copyFrom_80 : decode cX0_copyFrom 80 = .ok (.getfield 19, 3) := by decide +kernel
theorem dX0_copyFrom_83 : decode cX0_copyFrom 83 = .ok (.iconst 0, 1) := by decide +kernel
theorem dX0_copyFrom_84 : decode cX0_copyFrom 84 = .ok (.aload_n 0, 1) := by decide +kernel
theorem dX0_copyFrom_85 : decode cX0_copyFrom 85 = .ok (.getfield 19, 3) := by decide +kernel
theorem dX0_copyFrom_88 : decode cX0_copyFrom 88 = .ok (.iconst 0, 1) := by decide +kernel
theorem dX0_copyFrom_89 : decode cX0_copyFrom 89 = .ok (.bipush 32, 2) := by decide +kernel
theorem dX0_copyFrom_91 : decode cX0_copyFrom 91 = .ok (.invokestatic 70, 3) := by decide +kernel
theorem dX0_copyFrom_94 : decode cX0_copyFrom 94 = .ok (.aload_n 1, 1) := by decide +kernel
theorem dX0_copyFrom_95 : decode cX0_copyFrom 95 = .ok (.getfield 22, 3) := by decide +kernel
theorem dX0_copyFrom_98 : decode cX0_copyFrom 98 = .ok (.iconst 0, 1) := by decide +kernel
theorem dX0_copyFrom_99 : decode cX0_copyFrom 99 = .ok (.aload_n 0, 1) := by decide +kernel
theorem dX0_copyFrom_100 : decode cX0_copyFrom 100 = .ok (.getfield 22, 3) := by decide +kernel
theorem dX0_copyFrom_103 : decode cX0_copyFrom 103 = .ok (.iconst 0, 1) := by decide +kernel
theorem dX0_copyFrom_104 : decode cX0_copyFrom 104 = .ok (.bipush 32, 2) := by decide +kernel
theorem dX0_copyFrom_106 : decode cX0_copyFrom 106 = .ok (.invokestatic 70, 3) := by decide +kernel
theorem dX0_copyFrom_109 : decode cX0_copyFrom 109 = .ok (.aload_n 1, 1) := by decide +kernel
theorem dX0_copyFrom_110 : decode cX0_copyFrom 110 = .ok (.getfield 25, 3) := by decide +kernel
theorem dX0_copyFrom_113 : decode cX0_copyFrom 113 = .ok (.iconst 0, 1) := by decide +kernel
theorem dX0_copyFrom_114 : decode cX0_copyFrom 114 = .ok (.aload_n 0, 1) := by decide +kernel
theorem dX0_copyFrom_115 : decode cX0_copyFrom 115 = .ok (.getfield 25, 3) := by decide +kernel
theorem dX0_copyFrom_118 : decode cX0_copyFrom 118 = .ok (.iconst 0, 1) := by decide +kernel
theorem dX0_copyFrom_119 : decode cX0_copyFrom 119 = .ok (.bipush 32, 2) := by decide +kernel
theorem dX0_copyFrom_121 : decode cX0_copyFrom 121 = .ok (.invokestatic 70, 3) := by decide +kernel
theorem dX0_copyFrom_124 : decode cX0_copyFrom 124 = .ok (.aload_n 1, 1) := by decide +kernel
theorem dX0_copyFrom_125 : decode cX0_copyFrom 125 = .ok (.getfield 28, 3) := by decide +kernel
theorem dX0_copyFrom_128 : decode cX0_copyFrom 128 = .ok (.iconst 0, 1) := by decide +kernel
theorem dX0_copyFrom_129 : decode cX0_copyFrom 129 = .ok (.aload_n 0, 1) := by decide +kernel
theorem dX0_copyFrom_130 : decode cX0_copyFrom 130 = .ok (.getfield 28, 3) := by decide +kernel
theorem dX0_copyFrom_133 : decode cX0_copyFrom 133 = .ok (.iconst 0, 1) := by decide +kernel
theorem dX0_copyFrom_134 : decode cX0_copyFrom 134 = .ok (.iconst 5, 1) := by decide +kernel
theorem dX0_copyFrom_135 : decode cX0_copyFrom 135 = .ok (.invokestatic 70, 3) := by decide +kernel
theorem dX0_copyFrom_138 : decode cX0_copyFrom 138 = .ok (.aload_n 1, 1) := by decide +kernel
theorem dX0_copyFrom_139 : decode cX0_copyFrom 139 = .ok (.getfield 31, 3) := by decide +kernel
theorem dX0_copyFrom_142 : decode cX0_copyFrom 142 = .ok (.iconst 0, 1) := by decide +kernel
theorem dX0_copyFrom_143 : decode cX0_copyFrom 143 = .ok (.aload_n 0, 1) := by decide +kernel
theorem dX0_copyFrom_144 : decode cX0_copyFrom 144 = .ok (.getfield 31, 3) := by decide +kernel
theorem dX0_copyFrom_147 : decode cX0_copyFrom 147 = .ok (.iconst 0, 1) := by decide +kernel
theorem dX0_copyFrom_148 : decode cX0_copyFrom 148 = .ok (.iconst 5, 1) := by decide +kernel
theorem dX0_copyFrom_149 : decode cX0_copyFrom 149 = .ok (.invokestatic 70, 3) := by decide +kernel
theorem dX0_copyFrom_152 : decode cX0_copyFrom 152 = .ok (.aload_n 1, 1) := by decide +kernel
theorem dX0_copyFrom_153 : decode cX0_copyFrom 153 = .ok (.getfield 34, 3) := by decide +kernel
theorem dX0_copyFrom_156 : decode cX0_copyFrom 156 = .ok (.iconst 0, 1) := by decide +kernel
theorem dX0_copyFrom_157 : decode cX0_copyFrom 157 = .ok (.aload_n 0, 1) := by decide +kernel
theorem dX0_copyFrom_158 : decode cX0_copyFrom 158 = .ok (.getfield 34, 3) := by decide +kernel
theorem dX0_copyFrom_161 : decode cX0_copyFrom 161 = .ok (.iconst 0, 1) := by decide +kernel
theorem dX0_copyFrom_162 : decode cX0_copyFrom 162 = .ok (.sipush 160, 3) := by decide +kernel
theorem dX0_copyFrom_165 : decode cX0_copyFrom 165 = .ok (.invokestatic 70, 3) := by decide +kernel
theorem dX0_copyFrom_168 : decode cX0_copyFrom 168 = .ok (.aload_n 1, 1) := by decide +kernel
theorem dX0_copyFrom_169 : decode cX0_copyFrom 169 = .ok (.getfield 37, 3) := by decide +kernel
theorem dX0_copyFrom_172 : decode cX0_copyFrom 172 = .ok (.iconst 0, 1) := by decide +kernel
theorem dX0_copyFrom_173 : decode cX0_copyFrom 173 = .ok (.aload_n 0, 1) := by decide +kernel
theorem dX0_copyFrom_174 : decode cX0_copyFrom 174 = .ok (.getfield 37, 3) := by decide +kernel
theorem dX0_copyFrom_177 : decode cX0_copyFrom 177 = .ok (.iconst 0, 1) := by decide +kernel
theorem dX0_copyFrom_178 : decode cX0_copyFrom 178 = .ok (.sipush 160, 3) := by decide +kernel
theorem dX0_copyFrom_181 : decode cX0_copyFrom 181 = .ok (.invokestatic 70, 3) := by decide +kernel
theorem dX0_copyFrom_184 : decode cX0_copyFrom 184 = .ok (.aload_n 1, 1) := by decide +kernel
theorem dX0_copyFrom_185 : decode cX0_copyFrom 185 = .ok (.getfield 40, 3) := by decide +kernel
theorem dX0_copyFrom_188 : decode cX0_copyFrom 188 = .ok (.iconst 0, 1) := by decide +kernel
theorem dX0_copyFrom_189 : decode cX0_copyFrom 189 = .ok (.aload_n 0, 1) := by decide +kernel
theorem dX0_copyFrom_190 : decode cX0_copyFrom 190 = .ok (.getfield 40, 3) := by decide +kernel
theorem dX0_copyFrom_193 : decode cX0_copyFrom 193 = .ok (.iconst 0, 1) := by decide +kernel
theorem dX0_copyFrom_194 : decode cX0_copyFrom 194 = .ok (.sipush 900, 3) := by decide +kernel
theorem dX0_copyFrom_197 : decode cX0_copyFrom 197 = .ok (.invokestatic 70, 3) := by decide +kernel
theorem dX0_copyFrom_200 : decode cX0_copyFrom 200 = .ok (.return_, 1) := by decide +kernel
theorem dX0_wetAt_0 : decode cX0_wetAt 0 = .ok (.aload_n 0, 1) := by decide +kernel
theorem dX0_wetAt_1 : decode cX0_wetAt 1 = .ok (.getfield 40, 3) := by decide +kernel
theorem dX0_wetAt_4 : decode cX0_wetAt 4 = .ok (.bipush 30, 2) := by decide +kernel
theorem dX0_wetAt_6 : decode cX0_wetAt 6 = .ok (.iload_n 2, 1) := by decide +kernel
theorem dX0_wetAt_7 : decode cX0_wetAt 7 = .ok (.imul, 1) := by decide +kernel
theorem dX0_wetAt_8 : decode cX0_wetAt 8 = .ok (.iload_n 1, 1) := by decide +kernel
theorem dX0_wetAt_9 : decode cX0_wetAt 9 = .ok (.iadd, 1) := by decide +kernel
theorem dX0_wetAt_10 : decode cX0_wetAt 10 = .ok (.iaload, 1) := by decide +kernel
theorem dX0_wetAt_11 : decode cX0_wetAt 11 = .ok (.ireturn, 1) := by decide +kernel
theorem dX0_dropsUp_0 : decode cX0_dropsUp 0 = .ok (.aload_n 0, 1) := by decide +kernel
theorem dX0_dropsUp_1 : decode cX0_dropsUp 1 = .ok (.getfield 61, 3) := by decide +kernel
theorem dX0_dropsUp_4 : decode cX0_dropsUp 4 = .ok (.aload_n 0, 1) := by decide +kernel
theorem dX0_dropsUp_5 : decode cX0_dropsUp 5 = .ok (.getfield 52, 3) := by decide +kernel
theorem dX0_dropsUp_8 : decode cX0_dropsUp 8 = .ok (.isub, 1) := by decide +kernel
theorem dX0_dropsUp_9 : decode cX0_dropsUp 9 = .ok (.aload_n 0, 1) := by decide +kernel
theorem dX0_dropsUp_10 : decode cX0_dropsUp 10 = .ok (.getfield 55, 3) := by decide +kernel
theorem dX0_dropsUp_13 : decode cX0_dropsUp 13 = .ok (.isub, 1) := by decide +kernel
theorem dX0_dropsUp_14 : decode cX0_dropsUp 14 = .ok (.aload_n 0, 1) := by decide +kernel
theorem dX0_dropsUp_15 : decode cX0_dropsUp 15 = .ok (.getfield 58, 3) := by decide +kernel
theorem dX0_dropsUp_18 : decode cX0_dropsUp 18 = .ok (.isub, 1) := by decide +kernel
theorem dX0_dropsUp_19 : decode cX0_dropsUp 19 = .ok (.ireturn, 1) := by decide +kernel
theorem dX0_lumpsUp_0 : decode cX0_lumpsUp 0 = .ok (.iconst 0, 1) := by decide +kernel
theorem dX0_lumpsUp_1 : decode cX0_lumpsUp 1 = .ok (.istore_n 1, 1) := by decide +kernel
theorem dX0_lumpsUp_2 : decode cX0_lumpsUp 2 = .ok (.iconst 0, 1) := by decide +kernel
theorem dX0_lumpsUp_3 : decode cX0_lumpsUp 3 = .ok (.istore_n 2, 1) := by decide +kernel
theorem dX0_lumpsUp_4 : decode cX0_lumpsUp 4 = .ok (.iload_n 2, 1) := by decide +kernel
theorem dX0_lumpsUp_5 : decode cX0_lumpsUp 5 = .ok (.bipush 32, 2) := by decide +kernel
theorem dX0_lumpsUp_7 : decode cX0_lumpsUp 7 = .ok (.if_icmp .ge 21, 3) := by decide +kernel
theorem dX0_lumpsUp_10 : decode cX0_lumpsUp 10 = .ok (.aload_n 0, 1) := by decide +kernel
theorem dX0_lumpsUp_11 : decode cX0_lumpsUp 11 = .ok (.getfield 19, 3) := by decide +kernel
theorem dX0_lumpsUp_14 : decode cX0_lumpsUp 14 = .ok (.iload_n 2, 1) := by decide +kernel
theorem dX0_lumpsUp_15 : decode cX0_lumpsUp 15 = .ok (.iaload, 1) := by decide +kernel
theorem dX0_lumpsUp_16 : decode cX0_lumpsUp 16 = .ok (.ifCond .le 6, 3) := by decide +kernel
theorem dX0_lumpsUp_19 : decode cX0_lumpsUp 19 = .ok (.iinc 1 1, 3) := by decide +kernel
theorem dX0_lumpsUp_22 : decode cX0_lumpsUp 22 = .ok (.iinc 2 1, 3) := by decide +kernel
theorem dX0_lumpsUp_25 : decode cX0_lumpsUp 25 = .ok (.goto (-21), 3) := by decide +kernel
theorem dX0_lumpsUp_28 : decode cX0_lumpsUp 28 = .ok (.iload_n 1, 1) := by decide +kernel
theorem dX0_lumpsUp_29 : decode cX0_lumpsUp 29 = .ok (.ireturn, 1) := by decide +kernel
theorem dX0_driftAll_0 : decode cX0_driftAll 0 = .ok (.iload_n 2, 1) := by decide +kernel
theorem dX0_driftAll_1 : decode cX0_driftAll 1 = .ok (.bipush 10, 2) := by decide +kernel
theorem dX0_driftAll_3 : decode cX0_driftAll 3 = .ok (.irem, 1) := by decide +kernel
theorem dX0_driftAll_4 : decode cX0_driftAll 4 = .ok (.istore_n 3, 1) := by decide +kernel
theorem dX0_driftAll_5 : decode cX0_driftAll 5 = .ok (.iload_n 3, 1) := by decide +kernel
theorem dX0_driftAll_6 : decode cX0_driftAll 6 = .ok (.getstatic 76, 3) := by decide +kernel
theorem dX0_driftAll_9 : decode cX0_driftAll 9 = .ok (.iload_n 2, 1) := by decide +kernel
theorem dX0_driftAll_10 : decode cX0_driftAll 10 = .ok (.bipush 10, 2) := by decide +kernel
theorem dX0_driftAll_12 : decode cX0_driftAll 12 = .ok (.idiv, 1) := by decide +kernel
theorem dX0_driftAll_13 : decode cX0_driftAll 13 = .ok (.iaload, 1) := by decide +kernel
theorem dX0_driftAll_14 : decode cX0_driftAll 14 = .ok (.imul, 1) := by decide +kernel
theorem dX0_driftAll_15 : decode cX0_driftAll 15 = .ok (.istore 4, 2) := by decide +kernel
theorem dX0_driftAll_17 : decode cX0_driftAll 17 = .ok (.iload_n 3, 1) := by decide +kernel
theorem dX0_driftAll_18 : decode cX0_driftAll 18 = .ok (.getstatic 79, 3) := by decide +kernel
theorem dX0_driftAll_21 : decode cX0_driftAll 21 = .ok (.iload_n 2, 1) := by decide +kernel
theorem dX0_driftAll_22 : decode cX0_driftAll 22 = .ok (.bipush 10, 2) := by decide +kernel
theorem dX0_driftAll_24 : decode cX0_driftAll 24 = .ok (.idiv, 1) := by decide +kernel
theorem dX0_driftAll_25 : decode cX0_driftAll 25 = .ok (.iaload, 1) := by decide +kernel
theorem dX0_driftAll_26 : decode cX0_driftAll 26 = .ok (.imul, 1) := by decide +kernel
theorem dX0_driftAll_27 : decode cX0_driftAll 27 = .ok (.istore 5, 2) := by decide +kernel
theorem dX0_driftAll_29 : decode cX0_driftAll 29 = .ok (.iconst 0, 1) := by decide +kernel
theorem dX0_driftAll_30 : decode cX0_driftAll 30 = .ok (.istore 6, 2) := by decide +kernel
theorem dX0_driftAll_32 : decode cX0_driftAll 32 = .ok (.iload 6, 2) := by decide +kernel
theorem dX0_driftAll_34 : decode cX0_driftAll 34 = .ok (.aload_n 1, 1) := by decide +kernel
theorem dX0_driftAll_35 : decode cX0_driftAll 35 = .ok (.getfield 82, 3) := by decide +kernel
theorem dX0_driftAll_38 : decode cX0_driftAll 38 = .ok (.if_icmp .ge 49, 3) := by decide +kernel
theorem dX0_driftAll_41 : decode cX0_driftAll 41 = .ok (.aload_n 0, 1) := by decide +kernel
theorem dX0_driftAll_42 : decode cX0_driftAll 42 = .ok (.getfield 28, 3) := by decide +kernel
theorem dX0_driftAll_45 : decode cX0_driftAll 45 = .ok (.iload 6, 2) := by decide +kernel
theorem dX0_driftAll_47 : decode cX0_driftAll 47 = .ok (.dup2, 1) := by decide +kernel
theorem dX0_driftAll_48 : decode cX0_driftAll 48 = .ok (.iaload, 1) := by decide +kernel
theorem dX0_driftAll_49 : decode cX0_driftAll 49 = .ok (.aload_n 1, 1) := by decide +kernel
theorem dX0_driftAll_50 : decode cX0_driftAll 50 = .ok (.getfield 87, 3) := by decide +kernel
theorem dX0_driftAll_53 : decode cX0_driftAll 53 = .ok (.iload 6, 2) := by decide +kernel
theorem dX0_driftAll_55 : decode cX0_driftAll 55 = .ok (.iaload, 1) := by decide +kernel
theorem dX0_driftAll_56 : decode cX0_driftAll 56 = .ok (.iload 4, 2) := by decide +kernel
theorem dX0_driftAll_58 : decode cX0_driftAll 58 = .ok (.imul, 1) := by decide +kernel
theorem dX0_driftAll_59 : decode cX0_driftAll 59 = .ok (.iadd, 1) := by decide +kernel
theorem dX0_driftAll_60 : decode cX0_driftAll 60 = .ok (.iastore, 1) := by decide +kernel
theorem dX0_driftAll_61 : decode cX0_driftAll 61 = .ok (.aload_n 0, 1) := by decide +kernel
theorem dX0_driftAll_62 : decode cX0_driftAll 62 = .ok (.getfield 31, 3) := by decide +kernel
theorem dX0_driftAll_65 : decode cX0_driftAll 65 = .ok (.iload 6, 2) := by decide +kernel
theorem dX0_driftAll_67 : decode cX0_driftAll 67 = .ok (.dup2, 1) := by decide +kernel
theorem dX0_driftAll_68 : decode cX0_driftAll 68 = .ok (.iaload, 1) := by decide +kernel
theorem dX0_driftAll_69 : decode cX0_driftAll 69 = .ok (.aload_n 1, 1) := by decide +kernel
theorem dX0_driftAll_70 : decode cX0_driftAll 70 = .ok (.getfield 87, 3) := by decide +kernel
theorem dX0_driftAll_73 : decode cX0_driftAll 73 = .ok (.iload 6, 2) := by decide +kernel
theorem dX0_driftAll_75 : decode cX0_driftAll 75 = .ok (.iaload, 1) := by decide +kernel
theorem dX0_driftAll_76 : decode cX0_driftAll 76 = .ok (.iload 5, 2) := by decide +kernel
theorem dX0_driftAll_78 : decode cX0_driftAll 78 = .ok (.imul, 1) := by decide +kernel
theorem dX0_driftAll_79 : decode cX0_driftAll 79 = .ok (.iadd, 1) := by decide +kernel
theorem dX0_driftAll_80 : decode cX0_driftAll 80 = .ok (.iastore, 1) := by decide +kernel
theorem dX0_driftAll_81 : decode cX0_driftAll 81 = .ok (.iinc 6 1, 3) := by decide +kernel
theorem dX0_driftAll_84 : decode cX0_driftAll 84 = .ok (.goto (-52), 3) := by decide +kernel
theorem dX0_driftAll_87 : decode cX0_driftAll 87 = .ok (.return_, 1) := by decide +kernel
theorem dX0_dropAll_0 : decode cX0_dropAll 0 = .ok (.iconst 0, 1) := by decide +kernel
theorem dX0_dropAll_1 : decode cX0_dropAll 1 = .ok (.istore_n 2, 1) := by decide +kernel
theorem dX0_dropAll_2 : decode cX0_dropAll 2 = .ok (.iload_n 2, 1) := by decide +kernel
theorem dX0_dropAll_3 : decode cX0_dropAll 3 = .ok (.bipush 32, 2) := by decide +kernel
theorem dX0_dropAll_5 : decode cX0_dropAll 5 = .ok (.if_icmp .ge 24, 3) := by decide +kernel
theorem dX0_dropAll_8 : decode cX0_dropAll 8 = .ok (.aload_n 0, 1) := by decide +kernel
theorem dX0_dropAll_9 : decode cX0_dropAll 9 = .ok (.getfield 19, 3) := by decide +kernel
theorem dX0_dropAll_12 : decode cX0_dropAll 12 = .ok (.iload_n 2, 1) := by decide +kernel
theorem dX0_dropAll_13 : decode cX0_dropAll 13 = .ok (.iaload, 1) := by decide +kernel
theorem dX0_dropAll_14 : decode cX0_dropAll 14 = .ok (.ifCond .le 9, 3) := by decide +kernel
theorem dX0_dropAll_17 : decode cX0_dropAll 17 = .ok (.aload_n 0, 1) := by decide +kernel
theorem dX0_dropAll_18 : decode cX0_dropAll 18 = .ok (.aload_n 1, 1) := by decide +kernel
theorem dX0_dropAll_19 : decode cX0_dropAll 19 = .ok (.iload_n 2, 1) := by decide +kernel
theorem dX0_dropAll_20 : decode cX0_dropAll 20 = .ok (.invokevirtual 90, 3) := by decide +kernel
theorem dX0_dropAll_23 : decode cX0_dropAll 23 = .ok (.iinc 2 1, 3) := by decide +kernel
theorem dX0_dropAll_26 : decode cX0_dropAll 26 = .ok (.goto (-24), 3) := by decide +kernel
theorem dX0_dropAll_29 : decode cX0_dropAll 29 = .ok (.return_, 1) := by decide +kernel
theorem dX0_dropLump_0 : decode cX0_dropLump 0 = .ok (.iconst 0, 1) := by decide +kernel
theorem dX0_dropLump_1 : decode cX0_dropLump 1 = .ok (.istore_n 3, 1) := by decide +kernel
theorem dX0_dropLump_2 : decode cX0_dropLump 2 = .ok (.iload_n 3, 1) := by decide +kernel
theorem dX0_dropLump_3 : decode cX0_dropLump 3 = .ok (.aload_n 1, 1) := by decide +kernel
theorem dX0_dropLump_4 : decode cX0_dropLump 4 = .ok (.getfield 82, 3) := by decide +kernel
theorem dX0_dropLump_7 : decode cX0_dropLump 7 = .ok (.if_icmp .ge 111, 3) := by decide +kernel
theorem dX0_dropLump_10 : decode cX0_dropLump 10 = .ok (.aload_n 0, 1) := by decide +kernel
theorem dX0_dropLump_11 : decode cX0_dropLump 11 = .ok (.aload_n 1, 1) := by decide +kernel
theorem dX0_dropLump_12 : decode cX0_dropLump 12 = .ok (.iload_n 2, 1) := by decide +kernel
theorem dX0_dropLump_13 : decode cX0_dropLump 13 = .ok (.iload_n 3, 1) := by decide +kernel
theorem dX0_dropLump_14 : decode cX0_dropLump 14 = .ok (.iconst 0, 1) := by decide +kernel
theorem dX0_dropLump_15 : decode cX0_dropLump 15 = .ok (.iconst 0, 1) := by decide +kernel
theorem dX0_dropLump_16 : decode cX0_dropLump 16 = .ok (.invokevirtual 94, 3) := by decide +kernel
theorem dX0_dropLump_19 : decode cX0_dropLump 19 = .ok (.istore 4, 2) := by decide +kernel
theorem dX0_dropLump_21 : decode cX0_dropLump 21 = .ok (.iload 4, 2) := by decide +kernel
theorem dX0_dropLump_23 : decode cX0_dropLump 23 = .ok (.bipush (-3), 2) := by decide +kernel
theorem dX0_dropLump_25 : decode cX0_dropLump 25 = .ok (.if_icmp .ne 21, 3) := by decide +kernel
theorem dX0_dropLump_28 : decode cX0_dropLump 28 = .ok (.aload_n 0, 1) := by decide +kernel
theorem dX0_dropLump_29 : decode cX0_dropLump 29 = .ok (.dup, 1) := by decide +kernel
theorem dX0_dropLump_30 : decode cX0_dropLump 30 = .ok (.getfield 52, 3) := by decide +kernel
theorem dX0_dropLump_33 : decode cX0_dropLump 33 = .ok (.aload_n 1, 1) := by decide +kernel
theorem dX0_dropLump_34 : decode cX0_dropLump 34 = .ok (.getfield 98, 3) := by decide +kernel
theorem dX0_dropLump_37 : decode cX0_dropLump 37 = .ok (.iload_n 3, 1) := by decide +kernel
theorem dX0_dropLump_38 : decode cX0_dropLump 38 = .ok (.iaload, 1) := by decide +kernel
theorem dX0_dropLump_39 : decode cX0_dropLump 39 = .ok (.iadd, 1) := by decide +kernel
theorem dX0_dropLump_40 : decode cX0_dropLump 40 = .ok (.putfield 52, 3) := by decide +kernel
theorem dX0_dropLump_43 : decode cX0_dropLump 43 = .ok (.goto 69, 3) := by decide +kernel
theorem dX0_dropLump_46 : decode cX0_dropLump 46 = .ok (.iload 4, 2) := by decide +kernel
theorem dX0_dropLump_48 : decode cX0_dropLump 48 = .ok (.iconst (-1), 1) := by decide +kernel
theorem dX0_dropLump_49 : decode cX0_dropLump 49 = .ok (.if_icmp .ne 21, 3) := by decide +kernel
theorem dX0_dropLump_52 : decode cX0_dropLump 52 = .ok (.aload_n 0, 1) := by decide +kernel
theorem dX0_dropLump_53 : decode cX0_dropLump 53 = .ok (.dup, 1) := by decide +kernel
theorem dX0_dropLump_54 : decode cX0_dropLump 54 = .ok (.getfield 55, 3) := by decide +kernel
theorem dX0_dropLump_57 : decode cX0_dropLump 57 = .ok (.aload_n 1, 1) := by decide +kernel
theorem dX0_dropLump_58 : decode cX0_dropLump 58 = .ok (.getfield 98, 3) := by decide +kernel
theorem dX0_dropLump_61 : decode cX0_dropLump 61 = .ok (.iload_n 3, 1) := by decide +kernel
theorem dX0_dropLump_62 : decode cX0_dropLump 62 = .ok (.iaload, 1) := by decide +kernel
theorem dX0_dropLump_63 : decode cX0_dropLump 63 = .ok (.iadd, 1) := by decide +kernel
theorem dX0_dropLump_64 : decode cX0_dropLump 64 = .ok (.putfield 55, 3) := by decide +kernel
theorem dX0_dropLump_67 : decode cX0_dropLump 67 = .ok (.goto 45, 3) := by decide +kernel
theorem dX0_dropLump_70 : decode cX0_dropLump 70 = .ok (.aload_n 0, 1) := by decide +kernel
theorem dX0_dropLump_71 : decode cX0_dropLump 71 = .ok (.dup, 1) := by decide +kernel
theorem dX0_dropLump_72 : decode cX0_dropLump 72 = .ok (.getfield 58, 3) := by decide +kernel
theorem dX0_dropLump_75 : decode cX0_dropLump 75 = .ok (.aload_n 1, 1) := by decide +kernel
theorem dX0_dropLump_76 : decode cX0_dropLump 76 = .ok (.getfield 98, 3) := by decide +kernel
theorem dX0_dropLump_79 : decode cX0_dropLump 79 = .ok (.iload_n 3, 1) := by decide +kernel
theorem dX0_dropLump_80 : decode cX0_dropLump 80 = .ok (.iaload, 1) := by decide +kernel
theorem dX0_dropLump_81 : decode cX0_dropLump 81 = .ok (.iadd, 1) := by decide +kernel
theorem dX0_dropLump_82 : decode cX0_dropLump 82 = .ok (.putfield 58, 3) := by decide +kernel
theorem dX0_dropLump_85 : decode cX0_dropLump 85 = .ok (.aload_n 0, 1) := by decide +kernel
theorem dX0_dropLump_86 : decode cX0_dropLump 86 = .ok (.getfield 40, 3) := by decide +kernel
theorem dX0_dropLump_89 : decode cX0_dropLump 89 = .ok (.iload 4, 2) := by decide +kernel
theorem dX0_dropLump_91 : decode cX0_dropLump 91 = .ok (.bipush 100, 2) := by decide +kernel
theorem dX0_dropLump_93 : decode cX0_dropLump 93 = .ok (.irem, 1) := by decide +kernel
theorem dX0_dropLump_94 : decode cX0_dropLump 94 = .ok (.iload 4, 2) := by decide +kernel
theorem dX0_dropLump_96 : decode cX0_dropLump 96 = .ok (.bipush 100, 2) := by decide +kernel
theorem dX0_dropLump_98 : decode cX0_dropLump 98 = .ok (.idiv, 1) := by decide +kernel
theorem dX0_dropLump_99 : decode cX0_dropLump 99 = .ok (.invokestatic 101, 3) := by decide +kernel
theorem dX0_dropLump_102 : decode cX0_dropLump 102 = .ok (.dup2, 1) := by decide +kernel
theorem dX0_dropLump_103 : decode cX0_dropLump 103 = .ok (.iaload, 1) := by decide +kernel
theorem dX0_dropLump_104 : decode cX0_dropLump 104 = .ok (.aload_n 1, 1) := by decide +kernel
theorem dX0_dropLump_105 : decode cX0_dropLump 105 = .ok (.getfield 98, 3) := by decide +kernel
theorem dX0_dropLump_108 : decode cX0_dropLump 108 = .ok (.iload_n 3, 1) := by decide +kernel
theorem dX0_dropLump_109 : decode cX0_dropLump 109 = .ok (.iaload, 1) := by decide +kernel
theorem dX0_dropLump_110 : decode cX0_dropLump 110 = .ok (.iadd, 1) := by decide +kernel
theorem dX0_dropLump_111 : decode cX0_dropLump 111 = .ok (.iastore, 1) := by decide +kernel
theorem dX0_dropLump_112 : decode cX0_dropLump 112 = .ok (.iinc 3 1, 3) := by decide +kernel
theorem dX0_dropLump_115 : decode cX0_dropLump 115 = .ok (.goto (-113), 3) := by decide +kernel
theorem dX0_dropLump_118 : decode cX0_dropLump 118 = .ok (.aload_n 0, 1) := by decide +kernel
theorem dX0_dropLump_119 : decode cX0_dropLump 119 = .ok (.getfield 19, 3) := by decide +kernel
theorem dX0_dropLump_122 : decode cX0_dropLump 122 = .ok (.iload_n 2, 1) := by decide +kernel
theorem dX0_dropLump_123 : decode cX0_dropLump 123 = .ok (.iconst 0, 1) := by decide +kernel
theorem dX0_dropLump_124 : decode cX0_dropLump 124 = .ok (.iastore, 1) := by decide +kernel
theorem dX0_dropLump_125 : decode cX0_dropLump 125 = .ok (.return_, 1) := by decide +kernel
theorem dX0_placeIn_0 : decode cX0_placeIn 0 = .ok (.iload_n 2, 1) := by decide +kernel
theorem dX0_placeIn_1 : decode cX0_placeIn 1 = .ok (.iconst 5, 1) := by decide +kernel
theorem dX0_placeIn_2 : decode cX0_placeIn 2 = .ok (.imul, 1) := by decide +kernel
theorem dX0_placeIn_3 : decode cX0_placeIn 3 = .ok (.iload_n 3, 1) := by decide +kernel
theorem dX0_placeIn_4 : decode cX0_placeIn 4 = .ok (.iadd, 1) := by decide +kernel
theorem dX0_placeIn_5 : decode cX0_placeIn 5 = .ok (.istore 6, 2) := by decide +kernel
theorem dX0_placeIn_7 : decode cX0_placeIn 7 = .ok (.aload_n 0, 1) := by decide +kernel
theorem dX0_placeIn_8 : decode cX0_placeIn 8 = .ok (.getfield 28, 3) := by decide +kernel
theorem dX0_placeIn_11 : decode cX0_placeIn 11 = .ok (.iload_n 3, 1) := by decide +kernel
theorem dX0_placeIn_12 : decode cX0_placeIn 12 = .ok (.iaload, 1) := by decide +kernel
theorem dX0_placeIn_13 : decode cX0_placeIn 13 = .ok (.aload_n 0, 1) := by decide +kernel
theorem dX0_placeIn_14 : decode cX0_placeIn 14 = .ok (.getfield 34, 3) := by decide +kernel
theorem dX0_placeIn_17 : decode cX0_placeIn 17 = .ok (.iload 6, 2) := by decide +kernel
theorem dX0_placeIn_19 : decode cX0_placeIn 19 = .ok (.iaload, 1) := by decide +kernel
theorem dX0_placeIn_20 : decode cX0_placeIn 20 = .ok (.isub, 1) := by decide +kernel
theorem dX0_placeIn_21 : decode cX0_placeIn 21 = .ok (.aload_n 1, 1) := by decide +kernel
theorem dX0_placeIn_22 : decode cX0_placeIn 22 = .ok (.getfield 87, 3) := by decide +kernel
theorem dX0_placeIn_25 : decode cX0_placeIn 25 = .ok (.iload_n 3, 1) := by decide +kernel
theorem dX0_placeIn_26 : decode cX0_placeIn 26 = .ok (.iaload, 1) := by decide +kernel
theorem dX0_placeIn_27 : decode cX0_placeIn 27 = .ok (.iload 4, 2) := by decide +kernel
theorem dX0_placeIn_29 : decode cX0_placeIn 29 = .ok (.imul, 1) := by decide +kernel
theorem dX0_placeIn_30 : decode cX0_placeIn 30 = .ok (.iadd, 1) := by decide +kernel
theorem dX0_placeIn_31 : decode cX0_placeIn 31 = .ok (.istore 7, 2) := by decide +kernel
theorem dX0_placeIn_33 : decode cX0_placeIn 33 = .ok (.aload_n 0, 1) := by decide +kernel
theorem dX0_placeIn_34 : decode cX0_placeIn 34 = .ok (.getfield 31, 3) := by decide +kernel
theorem dX0_placeIn_37 : decode cX0_placeIn 37 = .ok (.iload_n 3, 1) := by decide +kernel
theorem dX0_placeIn_38 : decode cX0_placeIn 38 = .ok (.iaload, 1) := by decide +kernel
theorem dX0_placeIn_39 : decode cX0_placeIn 39 = .ok (.aload_n 0, 1) := by decide +kernel
theorem dX0_placeIn_40 : decode cX0_placeIn 40 = .ok (.getfield 37, 3) := by decide +kernel
theorem dX0_placeIn_43 : decode cX0_placeIn 43 = .ok (.iload 6, 2) := by decide +kernel
theorem dX0_placeIn_45 : decode cX0_placeIn 45 = .ok (.iaload, 1) := by decide +kernel
theorem dX0_placeIn_46 : decode cX0_placeIn 46 = .ok (.isub, 1) := by decide +kernel
theorem dX0_placeIn_47 : decode cX0_placeIn 47 = .ok (.aload_n 1, 1) := by decide +kernel
theorem dX0_placeIn_48 : decode cX0_placeIn 48 = .ok (.getfield 87, 3) := by decide +kernel
theorem dX0_placeIn_51 : decode cX0_placeIn 51 = .ok (.iload_n 3, 1) := by decide +kernel
theorem dX0_placeIn_52 : decode cX0_placeIn 52 = .ok (.iaload, 1) := by decide +kernel
theorem dX0_placeIn_53 : decode cX0_placeIn 53 = .ok (.iload 5, 2) := by decide +kernel
theorem dX0_placeIn_55 : decode cX0_placeIn 55 = .ok (.imul, 1) := by decide +kernel
theorem dX0_placeIn_56 : decode cX0_placeIn 56 = .ok (.iadd, 1) := by decide +kernel
theorem dX0_placeIn_57 : decode cX0_placeIn 57 = .ok (.istore 8, 2) := by decide +kernel
theorem dX0_placeIn_59 : decode cX0_placeIn 59 = .ok (.aload_n 1, 1) := by decide +kernel
theorem dX0_placeIn_60 : decode cX0_placeIn 60 = .ok (.aload_n 0, 1) := by decide +kernel
theorem dX0_placeIn_61 : decode cX0_placeIn 61 = .ok (.getfield 22, 3) := by decide +kernel
theorem dX0_placeIn_64 : decode cX0_placeIn 64 = .ok (.iload_n 2, 1) := by decide +kernel
theorem dX0_placeIn_65 : decode cX0_placeIn 65 = .ok (.iaload, 1) := by decide +kernel
theorem dX0_placeIn_66 : decode cX0_placeIn 66 = .ok (.iload 7, 2) := by decide +kernel
theorem dX0_placeIn_68 : decode cX0_placeIn 68 = .ok (.bipush 100, 2) := by decide +kernel
theorem dX0_placeIn_70 : decode cX0_placeIn 70 = .ok (.idiv, 1) := by decide +kernel
theorem dX0_placeIn_71 : decode cX0_placeIn 71 = .ok (.iadd, 1) := by decide +kernel
theorem dX0_placeIn_72 : decode cX0_placeIn 72 = .ok (.aload_n 0, 1) := by decide +kernel
theorem dX0_placeIn_73 : decode cX0_placeIn 73 = .ok (.getfield 25, 3) := by decide +kernel
theorem dX0_placeIn_76 : decode cX0_placeIn 76 = .ok (.iload_n 2, 1) := by decide +kernel
theorem dX0_placeIn_77 : decode cX0_placeIn 77 = .ok (.iaload, 1) := by decide +kernel
theorem dX0_placeIn_78 : decode cX0_placeIn 78 = .ok (.iload 8, 2) := by decide +kernel
theorem dX0_placeIn_80 : decode cX0_placeIn 80 = .ok (.bipush 100, 2) := by decide +kernel
theorem dX0_placeIn_82 : decode cX0_placeIn 82 = .ok (.idiv, 1) := by decide +kernel
theorem dX0_placeIn_83 : decode cX0_placeIn 83 = .ok (.iadd, 1) := by decide +kernel
theorem dX0_placeIn_84 : decode cX0_placeIn 84 = .ok (.invokevirtual 105, 3) := by decide +kernel
theorem dX0_placeIn_87 : decode cX0_placeIn 87 = .ok (.ireturn, 1) := by decide +kernel
theorem dX0_beatsLeft_0 : decode cX0_beatsLeft 0 = .ok (.iconst 2, 1) := by decide +kernel
theorem dX0_beatsLeft_1 : decode cX0_beatsLeft 1 = .ok (.aload_n 0, 1) := by decide +kernel
theorem dX0_beatsLeft_2 : decode cX0_beatsLeft 2 = .ok (.getfield 19, 3) := by decide +kernel
theorem dX0_beatsLeft_5 : decode cX0_beatsLeft 5 = .ok (.iload_n 1, 1) := by decide +kernel
theorem dX0_beatsLeft_6 : decode cX0_beatsLeft 6 = .ok (.iaload, 1) := by decide +kernel
theorem dX0_beatsLeft_7 : decode cX0_beatsLeft 7 = .ok (.imul, 1) := by decide +kernel
theorem dX0_beatsLeft_8 : decode cX0_beatsLeft 8 = .ok (.aload_n 0, 1) := by decide +kernel
theorem dX0_beatsLeft_9 : decode cX0_beatsLeft 9 = .ok (.getfield 43, 3) := by decide +kernel
theorem dX0_beatsLeft_12 : decode cX0_beatsLeft 12 = .ok (.iconst 1, 1) := by decide +kernel
theorem dX0_beatsLeft_13 : decode cX0_beatsLeft 13 = .ok (.isub, 1) := by decide +kernel
theorem dX0_beatsLeft_14 : decode cX0_beatsLeft 14 = .ok (.iload_n 1, 1) := by decide +kernel
theorem dX0_beatsLeft_15 : decode cX0_beatsLeft 15 = .ok (.isub, 1) := by decide +kernel
theorem dX0_beatsLeft_16 : decode cX0_beatsLeft 16 = .ok (.bipush 31, 2) := by decide +kernel
theorem dX0_beatsLeft_18 : decode cX0_beatsLeft 18 = .ok (.iand, 1) := by decide +kernel
theorem dX0_beatsLeft_19 : decode cX0_beatsLeft 19 = .ok (.isub, 1) := by decide +kernel
theorem dX0_beatsLeft_20 : decode cX0_beatsLeft 20 = .ok (.ireturn, 1) := by decide +kernel
theorem dX0_throwLump_0 : decode cX0_throwLump 0 = .ok (.aload_n 0, 1) := by decide +kernel
theorem dX0_throwLump_1 : decode cX0_throwLump 1 = .ok (.getfield 43, 3) := by decide +kernel
theorem dX0_throwLump_4 : decode cX0_throwLump 4 = .ok (.bipush 31, 2) := by decide +kernel
theorem dX0_throwLump_6 : decode cX0_throwLump 6 = .ok (.iand, 1) := by decide +kernel
theorem dX0_throwLump_7 : decode cX0_throwLump 7 = .ok (.istore_n 3, 1) := by decide +kernel
theorem dX0_throwLump_8 : decode cX0_throwLump 8 = .ok (.aload_n 0, 1) := by decide +kernel
theorem dX0_throwLump_9 : decode cX0_throwLump 9 = .ok (.getfield 15, 3) := by decide +kernel
theorem dX0_throwLump_12 : decode cX0_throwLump 12 = .ok (.iload_n 3, 1) := by decide +kernel
theorem dX0_throwLump_13 : decode cX0_throwLump 13 = .ok (.iload_n 2, 1) := by decide +kernel
theorem dX0_throwLump_14 : decode cX0_throwLump 14 = .ok (.iastore, 1) := by decide +kernel
theorem dX0_throwLump_15 : decode cX0_throwLump 15 = .ok (.aload_n 0, 1) := by decide +kernel
theorem dX0_throwLump_16 : decode cX0_throwLump 16 = .ok (.aload_n 0, 1) := by decide +kernel
theorem dX0_throwLump_17 : decode cX0_throwLump 17 = .ok (.aload_n 1, 1) := by decide +kernel
theorem dX0_throwLump_18 : decode cX0_throwLump 18 = .ok (.getfield 108, 3) := by decide +kernel
theorem dX0_throwLump_21 : decode cX0_throwLump 21 = .ok (.invokevirtual 111, 3) := by decide +kernel
theorem dX0_throwLump_24 : decode cX0_throwLump 24 = .ok (.putfield 9, 3) := by decide +kernel
theorem dX0_throwLump_27 : decode cX0_throwLump 27 = .ok (.aload_n 0, 1) := by decide +kernel
theorem dX0_throwLump_28 : decode cX0_throwLump 28 = .ok (.getfield 9, 3) := by decide +kernel
theorem dX0_throwLump_31 : decode cX0_throwLump 31 = .ok (.bipush 10, 2) := by decide +kernel
theorem dX0_throwLump_33 : decode cX0_throwLump 33 = .ok (.irem, 1) := by decide +kernel
theorem dX0_throwLump_34 : decode cX0_throwLump 34 = .ok (.istore 4, 2) := by decide +kernel
theorem dX0_throwLump_36 : decode cX0_throwLump 36 = .ok (.aload_n 1, 1) := by decide +kernel
theorem dX0_throwLump_37 : decode cX0_throwLump 37 = .ok (.getfield 115, 3) := by decide +kernel
theorem dX0_throwLump_40 : decode cX0_throwLump 40 = .ok (.iconst (-1), 1) := by decide +kernel
theorem dX0_throwLump_41 : decode cX0_throwLump 41 = .ok (.if_icmp .eq 21, 3) := by decide +kernel
theorem dX0_throwLump_44 : decode cX0_throwLump 44 = .ok (.iload 4, 2) := by decide +kernel
theorem dX0_throwLump_46 : decode cX0_throwLump 46 = .ok (.aload_n 0, 1) := by decide +kernel
theorem dX0_throwLump_47 : decode cX0_throwLump 47 = .ok (.aload_n 1, 1) := by decide +kernel
theorem dX0_throwLump_48 : decode cX0_throwLump 48 = .ok (.getfield 115, 3) := by decide +kernel
theorem dX0_throwLump_51 : decode cX0_throwLump 51 = .ok (.invokevirtual 111, 3) := by decide +kernel
theorem dX0_throwLump_54 : decode cX0_throwLump 54 = .ok (.bipush 10, 2) := by decide +kernel
theorem dX0_throwLump_56 : decode cX0_throwLump 56 = .ok (.irem, 1) := by decide +kernel
theorem dX0_throwLump_57 : decode cX0_throwLump 57 = .ok (.invokestatic 118, 3) := by decide +kernel
theorem dX0_throwLump_60 : decode cX0_throwLump 60 = .ok (.istore 4, 2) := by decide +kernel
theorem dX0_throwLump_62 : decode cX0_throwLump 62 = .ok (.aload_n 0, 1) := by decide +kernel
theorem dX0_throwLump_63 : decode cX0_throwLump 63 = .ok (.aload_n 1, 1) := by decide +kernel
theorem dX0_throwLump_64 : decode cX0_throwLump 64 = .ok (.iload 4, 2) := by decide +kernel
theorem dX0_throwLump_66 : decode cX0_throwLump 66 = .ok (.invokevirtual 123, 3) := by decide +kernel
theorem dX0_throwLump_69 : decode cX0_throwLump 69 = .ok (.aload_n 0, 1) := by decide +kernel
theorem dX0_throwLump_70 : decode cX0_throwLump 70 = .ok (.getfield 46, 3) := by decide +kernel
theorem dX0_throwLump_73 : decode cX0_throwLump 73 = .ok (.aload_n 1, 1) := by decide +kernel
theorem dX0_throwLump_74 : decode cX0_throwLump 74 = .ok (.getfield 126, 3) := by decide +kernel
theorem dX0_throwLump_77 : decode cX0_throwLump 77 = .ok (.iadd, 1) := by decide +kernel
theorem dX0_throwLump_78 : decode cX0_throwLump 78 = .ok (.invokestatic 129, 3) := by decide +kernel
theorem dX0_throwLump_81 : decode cX0_throwLump 81 = .ok (.putfield 46, 3) := by decide +kernel
theorem dX0_throwLump_84 : decode cX0_throwLump 84 = .ok (.aload_n 0, 1) := by decide +kernel
theorem dX0_throwLump_85 : decode cX0_throwLump 85 = .ok (.dup, 1) := by decide +kernel
theorem dX0_throwLump_86 : decode cX0_throwLump 86 = .ok (.getfield 49, 3) := by decide +kernel
theorem dX0_throwLump_89 : decode cX0_throwLump 89 = .ok (.aload_n 0, 1) := by decide +kernel
theorem dX0_throwLump_90 : decode cX0_throwLump 90 = .ok (.getfield 46, 3) := by decide +kernel
theorem dX0_throwLump_93 : decode cX0_throwLump 93 = .ok (.iadd, 1) := by decide +kernel
theorem dX0_throwLump_94 : decode cX0_throwLump 94 = .ok (.putfield 49, 3) := by decide +kernel
theorem dX0_throwLump_97 : decode cX0_throwLump 97 = .ok (.aload_n 0, 1) := by decide +kernel
theorem dX0_throwLump_98 : decode cX0_throwLump 98 = .ok (.getfield 19, 3) := by decide +kernel
theorem dX0_throwLump_101 : decode cX0_throwLump 101 = .ok (.iload_n 3, 1) := by decide +kernel
theorem dX0_throwLump_102 : decode cX0_throwLump 102 = .ok (.aload_n 0, 1) := by decide +kernel
theorem dX0_throwLump_103 : decode cX0_throwLump 103 = .ok (.getfield 46, 3) := by decide +kernel
theorem dX0_throwLump_106 : decode cX0_throwLump 106 = .ok (.invokestatic 132, 3) := by decide +kernel
theorem dX0_throwLump_109 : decode cX0_throwLump 109 = .ok (.iastore, 1) := by decide +kernel
theorem dX0_throwLump_110 : decode cX0_throwLump 110 = .ok (.aload_n 0, 1) := by decide +kernel
theorem dX0_throwLump_111 : decode cX0_throwLump 111 = .ok (.getfield 22, 3) := by decide +kernel
theorem dX0_throwLump_114 : decode cX0_throwLump 114 = .ok (.iload_n 3, 1) := by decide +kernel
theorem dX0_throwLump_115 : decode cX0_throwLump 115 = .ok (.aload_n 1, 1) := by decide +kernel
theorem dX0_throwLump_116 : decode cX0_throwLump 116 = .ok (.getfield 135, 3) := by decide +kernel
theorem dX0_throwLump_119 : decode cX0_throwLump 119 = .ok (.iastore, 1) := by decide +kernel
theorem dX0_throwLump_120 : decode cX0_throwLump 120 = .ok (.aload_n 0, 1) := by decide +kernel
theorem dX0_throwLump_121 : decode cX0_throwLump 121 = .ok (.getfield 25, 3) := by decide +kernel
theorem dX0_throwLump_124 : decode cX0_throwLump 124 = .ok (.iload_n 3, 1) := by decide +kernel
theorem dX0_throwLump_125 : decode cX0_throwLump 125 = .ok (.aload_n 1, 1) := by decide +kernel
theorem dX0_throwLump_126 : decode cX0_throwLump 126 = .ok (.getfield 138, 3) := by decide +kernel
theorem dX0_throwLump_129 : decode cX0_throwLump 129 = .ok (.iastore, 1) := by decide +kernel
theorem dX0_throwLump_130 : decode cX0_throwLump 130 = .ok (.iconst 0, 1) := by decide +kernel
theorem dX0_throwLump_131 : decode cX0_throwLump 131 = .ok (.istore 5, 2) := by decide +kernel
theorem dX0_throwLump_133 : decode cX0_throwLump 133 = .ok (.iload 5, 2) := by decide +kernel
theorem dX0_throwLump_135 : decode cX0_throwLump 135 = .ok (.aload_n 1, 1) := by decide +kernel
theorem dX0_throwLump_136 : decode cX0_throwLump 136 = .ok (.getfield 82, 3) := by decide +kernel
theorem dX0_throwLump_139 : decode cX0_throwLump 139 = .ok (.if_icmp .ge 68, 3) := by decide +kernel
theorem dX0_throwLump_142 : decode cX0_throwLump 142 = .ok (.aload_n 0, 1) := by decide +kernel
theorem dX0_throwLump_143 : decode cX0_throwLump 143 = .ok (.getfield 46, 3) := by decide +kernel
theorem dX0_throwLump_146 : decode cX0_throwLump 146 = .ok (.ifCond .le 61, 3) := by decide +kernel
theorem dX0_throwLump_149 : decode cX0_throwLump 149 = .ok (.aload_n 0, 1) := by decide +kernel
theorem dX0_throwLump_150 : decode cX0_throwLump 150 = .ok (.getfield 34, 3) := by decide +kernel
theorem dX0_throwLump_153 : decode cX0_throwLump 153 = .ok (.iload_n 3, 1) := by decide +kernel
theorem dX0_throwLump_154 : decode cX0_throwLump 154 = .ok (.iconst 5, 1) := by decide +kernel
theorem dX0_throwLump_155 : decode cX0_throwLump 155 = .ok (.imul, 1) := by decide +kernel
theorem dX0_throwLump_156 : decode cX0_throwLump 156 = .ok (.iload 5, 2) := by decide +kernel
theorem dX0_throwLump_158 : decode cX0_throwLump 158 = .ok (.iadd, 1) := by decide +kernel
theorem dX0_throwLump_159 : decode cX0_throwLump 159 = .ok (.aload_n 0, 1) := by decide +kernel
theorem dX0_throwLump_160 : decode cX0_throwLump 160 = .ok (.getfield 28, 3) := by decide +kernel
theorem dX0_throwLump_163 : decode cX0_throwLump 163 = .ok (.iload 5, 2) := by decide +kernel
theorem dX0_throwLump_165 : decode cX0_throwLump 165 = .ok (.iaload, 1) := by decide +kernel
theorem dX0_throwLump_166 : decode cX0_throwLump 166 = .ok (.iastore, 1) := by decide +kernel
theorem dX0_throwLump_167 : decode cX0_throwLump 167 = .ok (.aload_n 0, 1) := by decide +kernel
theorem dX0_throwLump_168 : decode cX0_throwLump 168 = .ok (.getfield 37, 3) := by decide +kernel
theorem dX0_throwLump_171 : decode cX0_throwLump 171 = .ok (.iload_n 3, 1) := by decide +kernel
theorem dX0_throwLump_172 : decode cX0_throwLump 172 = .ok (.iconst 5, 1) := by decide +kernel
theorem dX0_throwLump_173 : decode cX0_throwLump 173 = .ok (.imul, 1) := by decide +kernel
theorem dX0_throwLump_174 : decode cX0_throwLump 174 = .ok (.iload 5, 2) := by decide +kernel
theorem dX0_throwLump_176 : decode cX0_throwLump 176 = .ok (.iadd, 1) := by decide +kernel
theorem dX0_throwLump_177 : decode cX0_throwLump 177 = .ok (.aload_n 0, 1) := by decide +kernel
theorem dX0_throwLump_178 : decode cX0_throwLump 178 = .ok (.getfield 31, 3) := by decide +kernel
theorem dX0_throwLump_181 : decode cX0_throwLump 181 = .ok (.iload 5, 2) := by decide +kernel
theorem dX0_throwLump_183 : decode cX0_throwLump 183 = .ok (.iaload, 1) := by decide +kernel
theorem dX0_throwLump_184 : decode cX0_throwLump 184 = .ok (.iastore, 1) := by decide +kernel
theorem dX0_throwLump_185 : decode cX0_throwLump 185 = .ok (.aload_n 0, 1) := by decide +kernel
theorem dX0_throwLump_186 : decode cX0_throwLump 186 = .ok (.dup, 1) := by decide +kernel
theorem dX0_throwLump_187 : decode cX0_throwLump 187 = .ok (.getfield 61, 3) := by decide +kernel
theorem dX0_throwLump_190 : decode cX0_throwLump 190 = .ok (.aload_n 1, 1) := by decide +kernel
theorem dX0_throwLump_191 : decode cX0_throwLump 191 = .ok (.getfield 98, 3) := by decide +kernel
theorem dX0_throwLump_194 : decode cX0_throwLump 194 = .ok (.iload 5, 2) := by decide +kernel
theorem dX0_throwLump_196 : decode cX0_throwLump 196 = .ok (.iaload, 1) := by decide +kernel
theorem dX0_throwLump_197 : decode cX0_throwLump 197 = .ok (.iadd, 1) := by decide +kernel
theorem dX0_throwLump_198 : decode cX0_throwLump 198 = .ok (.putfield 61, 3) := by decide +kernel
theorem dX0_throwLump_201 : decode cX0_throwLump 201 = .ok (.iinc 5 1, 3) := by decide +kernel
theorem dX0_throwLump_204 : decode cX0_throwLump 204 = .ok (.goto (-71), 3) := by decide +kernel
theorem dX0_throwLump_207 : decode cX0_throwLump 207 = .ok (.aload_n 0, 1) := by decide +kernel
theorem dX0_throwLump_208 : decode cX0_throwLump 208 = .ok (.dup, 1) := by decide +kernel
theorem dX0_throwLump_209 : decode cX0_throwLump 209 = .ok (.getfield 43, 3) := by decide +kernel
theorem dX0_throwLump_212 : decode cX0_throwLump 212 = .ok (.iconst 1, 1) := by decide +kernel
theorem dX0_throwLump_213 : decode cX0_throwLump 213 = .ok (.iadd, 1) := by decide +kernel
theorem dX0_throwLump_214 : decode cX0_throwLump 214 = .ok (.putfield 43, 3) := by decide +kernel
theorem dX0_throwLump_217 : decode cX0_throwLump 217 = .ok (.return_, 1) := by decide +kernel
theorem dX0_windAgo_0 : decode cX0_windAgo 0 = .ok (.iload_n 1, 1) := by decide +kernel
theorem dX0_windAgo_1 : decode cX0_windAgo 1 = .ok (.aload_n 0, 1) := by decide +kernel
theorem dX0_windAgo_2 : decode cX0_windAgo 2 = .ok (.getfield 43, 3) := by decide +kernel
theorem dX0_windAgo_5 : decode cX0_windAgo 5 = .ok (.if_icmp .le 7, 3) := by decide +kernel
theorem dX0_windAgo_8 : decode cX0_windAgo 8 = .ok (.iconst 0, 1) := by decide +kernel
theorem dX0_windAgo_9 : decode cX0_windAgo 9 = .ok (.goto 17, 3) := by decide +kernel
theorem dX0_windAgo_12 : decode cX0_windAgo 12 = .ok (.aload_n 0, 1) := by decide +kernel
theorem dX0_windAgo_13 : decode cX0_windAgo 13 = .ok (.getfield 15, 3) := by decide +kernel
theorem dX0_windAgo_16 : decode cX0_windAgo 16 = .ok (.aload_n 0, 1) := by decide +kernel
theorem dX0_windAgo_17 : decode cX0_windAgo 17 = .ok (.getfield 43, 3) := by decide +kernel
theorem dX0_windAgo_20 : decode cX0_windAgo 20 = .ok (.iload_n 1, 1) := by decide +kernel
theorem dX0_windAgo_21 : decode cX0_windAgo 21 = .ok (.isub, 1) := by decide +kernel
theorem dX0_windAgo_22 : decode cX0_windAgo 22 = .ok (.bipush 31, 2) := by decide +kernel
theorem dX0_windAgo_24 : decode cX0_windAgo 24 = .ok (.iand, 1) := by decide +kernel
theorem dX0_windAgo_25 : decode cX0_windAgo 25 = .ok (.iaload, 1) := by decide +kernel
theorem dX0_windAgo_26 : decode cX0_windAgo 26 = .ok (.ireturn, 1) := by decide +kernel
theorem dX1_init_0 : decode cX1_init 0 = .ok (.aload_n 0, 1) := by decide +kernel
theorem dX1_init_1 : decode cX1_init 1 = .ok (.invokespecial 3, 3) := by decide +kernel
theorem dX1_init_4 : decode cX1_init 4 = .ok (.aload_n 0, 1) := by decide +kernel
theorem dX1_init_5 : decode cX1_init 5 = .ok (.iconst 5, 1) := by decide +kernel
theorem dX1_init_6 : decode cX1_init 6 = .ok (.newarray .int, 2) := by decide +kernel
theorem dX1_init_8 : decode cX1_init 8 = .ok (.putfield 9, 3) := by decide +kernel
theorem dX1_init_11 : decode cX1_init 11 = .ok (.aload_n 0, 1) := by decide +kernel
theorem dX1_init_12 : decode cX1_init 12 = .ok (.iconst 5, 1) := by decide +kernel
theorem dX1_init_13 : decode cX1_init 13 = .ok (.newarray .int, 2) := by decide +kernel
theorem dX1_init_15 : decode cX1_init 15 = .ok (.putfield 15, 3) := by decide +kernel
theorem dX1_init_18 : decode cX1_init 18 = .ok (.aload_n 0, 1) := by decide +kernel
theorem dX1_init_19 : decode cX1_init 19 = .ok (.bipush 8, 2) := by decide +kernel
theorem dX1_init_21 : decode cX1_init 21 = .ok (.newarray .int, 2) := by decide +kernel
theorem dX1_init_23 : decode cX1_init 23 = .ok (.putfield 18, 3) := by decide +kernel
theorem dX1_init_26 : decode cX1_init 26 = .ok (.aload_n 0, 1) := by decide +kernel
theorem dX1_init_27 : decode cX1_init 27 = .ok (.bipush 8, 2) := by decide +kernel
theorem dX1_init_29 : decode cX1_init 29 = .ok (.newarray .int, 2) := by decide +kernel
theorem dX1_init_31 : decode cX1_init 31 = .ok (.putfield 21, 3) := by decide +kernel
theorem dX1_init_34 : decode cX1_init 34 = .ok (.aload_n 0, 1) := by decide +kernel
theorem dX1_init_35 : decode cX1_init 35 = .ok (.bipush 8, 2) := by decide +kernel
theorem dX1_init_37 : decode cX1_init 37 = .ok (.newarray .int, 2) := by decide +kernel
theorem dX1_init_39 : decode cX1_init 39 = .ok (.putfield 24, 3) := by decide +kernel
theorem dX1_init_42 : decode cX1_init 42 = .ok (.aload_n 0, 1) := by decide +kernel
theorem dX1_init_43 : decode cX1_init 43 = .ok (.bipush 10, 2) := by decide +kernel
theorem dX1_init_45 : decode cX1_init 45 = .ok (.newarray .int, 2) := by decide +kernel
theorem dX1_init_47 : decode cX1_init 47 = .ok (.putfield 27, 3) := by decide +kernel
theorem dX1_init_50 : decode cX1_init 50 = .ok (.aload_n 0, 1) := by decide +kernel
theorem dX1_init_51 : decode cX1_init 51 = .ok (.invokevirtual 30, 3) := by decide +kernel
theorem dX1_init_54 : decode cX1_init 54 = .ok (.return_, 1) := by decide +kernel
theorem dX1_clear_0 : decode cX1_clear 0 = .ok (.aload_n 0, 1) := by decide +kernel
theorem dX1_clear_1 : decode cX1_clear 1 = .ok (.iconst 0, 1) := by decide +kernel
theorem dX1_clear_2 : decode cX1_clear 2 = .ok (.putfield 33, 3) := by decide +kernel
theorem dX1_clear_5 : decode cX1_clear 5 = .ok (.aload_n 0, 1) := by decide +kernel
theorem dX1_clear_6 : decode cX1_clear 6 = .ok (.iconst 0, 1) := by decide +kernel
theorem dX1_clear_7 : decode cX1_clear 7 = .ok (.putfield 37, 3) := by decide +kernel
theorem dX1_clear_10 : decode cX1_clear 10 = .ok (.aload_n 0, 1) := by decide +kernel
theorem dX1_clear_11 : decode cX1_clear 11 = .ok (.iconst 0, 1) := by decide +kernel
theorem dX1_clear_12 : decode cX1_clear 12 = .ok (.putfield 40, 3) := by decide +kernel
theorem dX1_clear_15 : decode cX1_clear 15 = .ok (.aload_n 0, 1) := by decide +kernel
theorem dX1_clear_16 : decode cX1_clear 16 = .ok (.iconst 0, 1) := by decide +kernel
theorem dX1_clear_17 : decode cX1_clear 17 = .ok (.putfield 43, 3) := by decide +kernel
theorem dX1_clear_20 : decode cX1_clear 20 = .ok (.aload_n 0, 1) := by decide +kernel
theorem dX1_clear_21 : decode cX1_clear 21 = .ok (.iconst 0, 1) := by decide +kernel
theorem dX1_clear_22 : decode cX1_clear 22 = .ok (.putfield 46, 3) := by decide +kernel
theorem dX1_clear_25 : decode cX1_clear 25 = .ok (.aload_n 0, 1) := by decide +kernel
theorem dX1_clear_26 : decode cX1_clear 26 = .ok (.iconst 0, 1) := by decide +kernel
theorem dX1_clear_27 : decode cX1_clear 27 = .ok (.putfield 49, 3) := by decide +kernel
theorem dX1_clear_30 : decode cX1_clear 30 = .ok (.aload_n 0, 1) := by decide +kernel
theorem dX1_clear_31 : decode cX1_clear 31 = .ok (.iconst 0, 1) := by decide +kernel
theorem dX1_clear_32 : decode cX1_clear 32 = .ok (.putfield 52, 3) := by decide +kernel
theorem dX1_clear_35 : decode cX1_clear 35 = .ok (.aload_n 0, 1) := by decide +kernel
theorem dX1_clear_36 : decode cX1_clear 36 = .ok (.iconst (-1), 1) := by decide +kernel
theorem dX1_clear_37 : decode cX1_clear 37 = .ok (.putfield 55, 3) := by decide +kernel
theorem dX1_clear_40 : decode cX1_clear 40 = .ok (.aload_n 0, 1) := by decide +kernel
theorem dX1_clear_41 : decode cX1_clear 41 = .ok (.iconst 0, 1) := by decide +kernel
theorem dX1_clear_42 : decode cX1_clear 42 = .ok (.putfield 58, 3) := by decide +kernel
theorem dX1_clear_45 : decode cX1_clear 45 = .ok (.aload_n 0, 1) := by decide +kernel
theorem dX1_clear_46 : decode cX1_clear 46 = .ok (.iconst (-1), 1) := by decide +kernel
theorem dX1_clear_47 : decode cX1_clear 47 = .ok (.putfield 61, 3) := by decide +kernel
theorem dX1_clear_50 : decode cX1_clear 50 = .ok (.aload_n 0, 1) := by decide +kernel
theorem dX1_clear_51 : decode cX1_clear 51 = .ok (.iconst 0, 1) := by decide +kernel
theorem dX1_clear_52 : decode cX1_clear 52 = .ok (.putfield 64, 3) := by decide +kernel
theorem dX1_clear_55 : decode cX1_clear 55 = .ok (.aload_n 0, 1) := by decide +kernel
theorem dX1_clear_56 : decode cX1_clear 56 = .ok (.iconst 0, 1) := by decide +kernel
theorem dX1_clear_57 : decode cX1_clear 57 = .ok (.putfield 67, 3) := by decide +kernel
theorem dX1_clear_60 : decode cX1_clear 60 = .ok (.aload_n 0, 1) := by decide +kernel
theorem dX1_clear_61 : decode cX1_clear 61 = .ok (.iconst 0, 1) := by decide +kernel
theorem dX1_clear_62 : decode cX1_clear 62 = .ok (.putfield 70, 3) := by decide +kernel
theorem dX1_clear_65 : decode cX1_clear 65 = .ok (.aload_n 0, 1) := by decide +kernel
theorem dX1_clear_66 : decode cX1_clear 66 = .ok (.invokevirtual 73, 3) := by decide +kernel
theorem dX1_clear_69 : decode cX1_clear 69 = .ok (.return_, 1) := by decide +kernel
theorem dX1_copyFrom_0 : decode cX1_copyFrom 0 = .ok (.aload_n 0, 1) := by decide +kernel
theorem dX1_copyFrom_1 : decode cX1_copyFrom 1 = .ok (.aload_n 1, 1) := by decide +kernel
theorem dX1_copyFrom_2 : decode cX1_copyFrom 2 = .ok (.getfield 33, 3) := by decide +kernel
theorem dX1_copyFrom_5 : decode cX1_copyFrom 5 = .ok (.putfield 33, 3) := by decide +kernel
theorem dX1_copyFrom_8 : decode cX1_copyFrom 8 = .ok (.aload_n 0, 1) := by decide +kernel
theorem dX1_copyFrom_9 : decode cX1_copyFrom 9 = .ok (.aload_n 1, 1) := by decide +kernel
theorem dX1_copyFrom_10 : decode cX1_copyFrom 10 = .ok (.getfield 37, 3) := by decide +kernel
theorem dX1_copyFrom_13 : decode cX1_copyFrom 13 = .ok (.putfield 37, 3) := by decide +kernel
theorem dX1_copyFrom_16 : decode cX1_copyFrom 16 = .ok (.aload_n 0, 1) := by decide +kernel
theorem dX1_copyFrom_17 : decode cX1_copyFrom 17 = .ok (.aload_n 1, 1) := by decide +kernel
theorem dX1_copyFrom_18 : decode cX1_copyFrom 18 = .ok (.getfield 40, 3) := by decide +kernel
theorem dX1_copyFrom_21 : decode cX1_copyFrom 21 = .ok (.putfield 40, 3) := by decide +kernel
theorem dX1_copyFrom_24 : decode cX1_copyFrom 24 = .ok (.aload_n 0, 1) := by decide +kernel
theorem dX1_copyFrom_25 : decode cX1_copyFrom 25 = .ok (.aload_n 1, 1) := by decide +kernel
theorem dX1_copyFrom_26 : decode cX1_copyFrom 26 = .ok (.getfield 43, 3) := by decide +kernel
theorem dX1_copyFrom_29 : decode cX1_copyFrom 29 = .ok (.putfield 43, 3) := by decide +kernel
theorem dX1_copyFrom_32 : decode cX1_copyFrom 32 = .ok (.aload_n 0, 1) := by decide +kernel
theorem dX1_copyFrom_33 : decode cX1_copyFrom 33 = .ok (.aload_n 1, 1) := by decide +kernel
theorem dX1_copyFrom_34 : decode cX1_copyFrom 34 = .ok (.getfield 46, 3) := by decide +kernel
theorem dX1_copyFrom_37 : decode cX1_copyFrom 37 = .ok (.putfield 46, 3) := by decide +kernel
theorem dX1_copyFrom_40 : decode cX1_copyFrom 40 = .ok (.aload_n 0, 1) := by decide +kernel
theorem dX1_copyFrom_41 : decode cX1_copyFrom 41 = .ok (.aload_n 1, 1) := by decide +kernel
theorem dX1_copyFrom_42 : decode cX1_copyFrom 42 = .ok (.getfield 49, 3) := by decide +kernel
theorem dX1_copyFrom_45 : decode cX1_copyFrom 45 = .ok (.putfield 49, 3) := by decide +kernel
theorem dX1_copyFrom_48 : decode cX1_copyFrom 48 = .ok (.aload_n 0, 1) := by decide +kernel
theorem dX1_copyFrom_49 : decode cX1_copyFrom 49 = .ok (.aload_n 1, 1) := by decide +kernel
theorem dX1_copyFrom_50 : decode cX1_copyFrom 50 = .ok (.getfield 52, 3) := by decide +kernel
theorem dX1_copyFrom_53 : decode cX1_copyFrom 53 = .ok (.putfield 52, 3) := by decide +kernel
theorem dX1_copyFrom_56 : decode cX1_copyFrom 56 = .ok (.aload_n 0, 1) := by decide +kernel
theorem dX1_copyFrom_57 : decode cX1_copyFrom 57 = .ok (.aload_n 1, 1) := by decide +kernel
theorem dX1_copyFrom_58 : decode cX1_copyFrom 58 = .ok (.getfield 55, 3) := by decide +kernel
theorem dX1_copyFrom_61 : decode cX1_copyFrom 61 = .ok (.putfield 55, 3) := by decide +kernel
theorem dX1_copyFrom_64 : decode cX1_copyFrom 64 = .ok (.aload_n 0, 1) := by decide +kernel
theorem dX1_copyFrom_65 : decode cX1_copyFrom 65 = .ok (.aload_n 1, 1) := by decide +kernel
theorem dX1_copyFrom_66 : decode cX1_copyFrom 66 = .ok (.getfield 58, 3) := by decide +kernel
theorem dX1_copyFrom_69 : decode cX1_copyFrom 69 = .ok (.putfield 58, 3) := by decide +kernel
theorem dX1_copyFrom_72 : decode cX1_copyFrom 72 = .ok (.aload_n 0, 1) := by decide +kernel
theorem dX1_copyFrom_73 : decode cX1_copyFrom 73 = .ok (.aload_n 1, 1) := by decide +kernel
theorem dX1_copyFrom_74 : decode cX1_copyFrom 74 = .ok (.getfield 61, 3) := by decide +kernel
theorem dX1_copyFrom_77 : decode cX1_copyFrom 77 = .ok (.putfield 61, 3) := by decide +kernel
theorem dX1_copyFrom_80 : decode cX1_copyFrom 80 = .ok (.aload_n 0, 1) := by decide +kernel
theorem dX1_copyFrom_81 : decode cX1_copyFrom 81 = .ok (.aload_n 1, 1) := by decide +kernel
theorem dX1_copyFrom_82 : decode cX1_copyFrom 82 = .ok (.getfield 64, 3) := by decide +kernel
theorem dX1_copyFrom_85 : decode cX1_copyFrom 85 = .ok (.putfield 64, 3) := by decide +kernel
theorem dX1_copyFrom_88 : decode cX1_copyFrom 88 = .ok (.aload_n 0, 1) := by decide +kernel
theorem dX1_copyFrom_89 : decode cX1_copyFrom 89 = .ok (.aload_n 1, 1) := by decide +kernel
theorem dX1_copyFrom_90 : decode cX1_copyFrom 90 = .ok (.getfield 67, 3) := by decide +kernel
theorem dX1_copyFrom_93 : decode cX1_copyFrom 93 = .ok (.putfield 67, 3) := by decide +kernel
theorem dX1_copyFrom_96 : decode cX1_copyFrom 96 = .ok (.aload_n 0, 1) := by decide +kernel
theorem dX1_copyFrom_97 : decode cX1_copyFrom 97 = .ok (.aload_n 1, 1) := by decide +kernel
theorem dX1_copyFrom_98 : decode cX1_copyFrom 98 = .ok (.getfield 70, 3) := by decide +kernel
theorem dX1_copyFrom_101 : decode cX1_copyFrom 101 = .ok (.putfield 70, 3) := by decide +kernel
theorem dX1_copyFrom_104 : decode cX1_copyFrom 104 = .ok (.aload_n 0, 1) := by decide +kernel
theorem dX1_copyFrom_105 : decode cX1_copyFrom 105 = .ok (.aload_n 1, 1) := by decide +kernel
theorem dX1_copyFrom_106 : decode cX1_copyFrom 106 = .ok (.getfield 76, 3) := by decide +kernel
theorem dX1_copyFrom_109 : decode cX1_copyFrom 109 = .ok (.putfield 76, 3) := by decide +kernel
theorem dX1_copyFrom_112 : decode cX1_copyFrom 112 = .ok (.aload_n 1, 1) := by decide +kernel
theorem dX1_copyFrom_113 : decode cX1_copyFrom 113 = .ok (.getfield 9, 3) := by decide +kernel
theorem dX1_copyFrom_116 : decode cX1_copyFrom 116 = .ok (.iconst 0, 1) := by decide +kernel
theorem dX1_copyFrom_117 : decode cX1_copyFrom 117 = .ok (.aload_n 0, 1) := by decide +kernel
theorem dX1_copyFrom_118 : decode cX1_copyFrom 118 = .ok (.getfield 9, 3) := by decide +kernel
theorem dX1_copyFrom_121 : decode cX1_copyFrom 121 = .ok (.iconst 0, 1) := by decide +kernel
theorem dX1_copyFrom_122 : decode cX1_copyFrom 122 = .ok (.iconst 5, 1) := by decide +kernel
theorem dX1_copyFrom_123 : decode cX1_copyFrom 123 = .ok (.invokestatic 79, 3) := by decide +kernel
theorem dX1_copyFrom_126 : decode cX1_copyFrom 126 = .ok (.aload_n 1, 1) := by decide +kernel
theorem dX1_copyFrom_127 : decode cX1_copyFrom 127 = .ok (.getfield 15, 3) := by decide +kernel
theorem dX1_copyFrom_130 : decode cX1_copyFrom 130 = .ok (.iconst 0, 1) := by decide +kernel
theorem dX1_copyFrom_131 : decode cX1_copyFrom 131 = .ok (.aload_n 0, 1) := by decide +kernel
theorem dX1_copyFrom_132 : decode cX1_copyFrom 132 = .ok (.getfield 15, 3) := by decide +kernel
theorem dX1_copyFrom_135 : decode cX1_copyFrom 135 = .ok (.iconst 0, 1) := by decide +kernel
theorem dX1_copyFrom_136 : decode cX1_copyFrom 136 = .ok (.iconst 5, 1) := by decide +kernel
theorem dX1_copyFrom_137 : decode cX1_copyFrom 137 = .ok (.invokestatic 79, 3) := by decide +kernel
theorem dX1_copyFrom_140 : decode cX1_copyFrom 140 = .ok (.aload_n 1, 1) := by decide +kernel
theorem dX1_copyFrom_141 : decode cX1_copyFrom 141 = .ok (.getfield 18, 3) := by decide +kernel
theorem dX1_copyFrom_144 : decode cX1_copyFrom 144 = .ok (.iconst 0, 1) := by decide +kernel
theorem dX1_copyFrom_145 : decode cX1_copyFrom 145 = .ok (.aload_n 0, 1) := by decide +kernel
theorem dX1_copyFrom_146 : decode cX1_copyFrom 146 = .ok (.getfield 18, 3) := by decide +kernel
theorem dX1_copyFrom_149 : decode cX1_copyFrom 149 = .ok (.iconst 0, 1) := by decide +kernel
theorem dX1_copyFrom_150 : decode cX1_copyFrom 150 = .ok (.bipush 8, 2) := by decide +kernel
theorem dX1_copyFrom_152 : decode cX1_copyFrom 152 = .ok (.invokestatic 79, 3) := by decide +kernel
theorem dX1_copyFrom_155 : decode cX1_copyFrom 155 = .ok (.aload_n 1, 1) := by decide +kernel
theorem dX1_copyFrom_156 : decode cX1_copyFrom 156 = .ok (.getfield 21, 3) := by decide +kernel
theorem dX1_copyFrom_159 : decode cX1_copyFrom 159 = .ok (.iconst 0, 1) := by decide +kernel
theorem dX1_copyFrom_160 : decode cX1_copyFrom 160 = .ok (.aload_n 0, 1) := by decide +kernel
theorem dX1_copyFrom_161 : decode cX1_copyFrom 161 = .ok (.getfield 21, 3) := by decide +kernel
theorem dX1_copyFrom_164 : decode cX1_copyFrom 164 = .ok (.iconst 0, 1) := by decide +kernel
theorem dX1_copyFrom_165 : decode cX1_copyFrom 165 = .ok (.bipush 8, 2) := by decide +kernel
theorem dX1_copyFrom_167 : decode cX1_copyFrom 167 = .ok (.invokestatic 79, 3) := by decide +kernel
theorem dX1_copyFrom_170 : decode cX1_copyFrom 170 = .ok (.aload_n 1, 1) := by decide +kernel
theorem dX1_copyFrom_171 : decode cX1_copyFrom 171 = .ok (.getfield 24, 3) := by decide +kernel
theorem dX1_copyFrom_174 : decode cX1_copyFrom 174 = .ok (.iconst 0, 1) := by decide +kernel
theorem dX1_copyFrom_175 : decode cX1_copyFrom 175 = .ok (.aload_n 0, 1) := by decide +kernel
theorem dX1_copyFrom_176 : decode cX1_copyFrom 176 = .ok (.getfield 24, 3) := by decide +kernel
theorem dX1_copyFrom_179 : decode cX1_copyFrom 179 = .ok (.iconst 0, 1) := by decide +kernel
theorem dX1_copyFrom_180 : decode cX1_copyFrom 180 = .ok (.bipush 8, 2) := by decide +kernel
theorem dX1_copyFrom_182 : decode cX1_copyFrom 182 = .ok (.invokestatic 79, 3) := by decide +kernel
theorem dX1_copyFrom_185 : decode cX1_copyFrom 185 = .ok (.aload_n 1, 1) := by decide +kernel
theorem dX1_copyFrom_186 : decode cX1_copyFrom 186 = .ok (.getfield 27, 3) := by decide +kernel
theorem dX1_copyFrom_189 : decode cX1_copyFrom 189 = .ok (.iconst 0, 1) := by decide +kernel
theorem dX1_copyFrom_190 : decode cX1_copyFrom 190 = .ok (.aload_n 0, 1) := by decide +kernel
theorem dX1_copyFrom_191 : decode cX1_copyFrom 191 = .ok (.getfield 27, 3) := by decide +kernel
theorem dX1_copyFrom_194 : decode cX1_copyFrom 194 = .ok (.iconst 0, 1) := by decide +kernel
theorem dX1_copyFrom_195 : decode cX1_copyFrom 195 = .ok (.bipush 10, 2) := by decide +kernel
theorem dX1_copyFrom_197 : decode cX1_copyFrom 197 = .ok (.invokestatic 79, 3) := by decide +kernel
theorem dX1_copyFrom_200 : decode cX1_copyFrom 200 = .ok (.return_, 1) := by decide +kernel
theorem dX1_addRule_0 : decode cX1_addRule 0 = .ok (.aload_n 0, 1) := by decide +kernel
theorem dX1_addRule_1 : decode cX1_addRule 1 = .ok (.dup, 1) := by decide +kernel
theorem dX1_addRule_2 : decode cX1_addRule 2 = .ok (.getfield 76, 3) := by decide +kernel
theorem dX1_addRule_5 : decode cX1_addRule 5 = .ok (.iconst 1, 1) := by decide +kernel
theorem dX1_addRule_6 : decode cX1_addRule 6 = .ok (.iadd, 1) := by decide +kernel
theorem dX1_addRule_7 : decode cX1_addRule 7 = .ok (.putfield 76, 3) := by decide +kernel
theorem dX1_addRule_10 : decode cX1_addRule 10 = .ok (.iload_n 1, 1) := by decide +kernel
theorem dX1_addRule_11 : decode cX1_addRule 11 = .ok (.istore_n 3, 1) := by decide +kernel
theorem dX1_addRule_12 : decode cX1_addRule 12 = .ok (.iload_n 3, 1) := by decide +kernel
theorem dX1_addRule_13 : decode cX1_addRule 13 = .ok (.bipush 10, 2) := by decide +kernel
theorem dX1_addRule_15 : decode cX1_addRule 15 = .ok (.if_icmp .ge 16, 3) := by decide +kernel
theorem dX1_addRule_18 : decode cX1_addRule 18 = .ok (.aload_n 0, 1) := by decide +kernel
theorem dX1_addRule_19 : decode cX1_addRule 19 = .ok (.getfield 27, 3) := by decide +kernel
theorem dX1_addRule_22 : decode cX1_addRule 22 = .ok (.iload_n 3, 1) := by decide +kernel
theorem dX1_addRule_23 : decode cX1_addRule 23 = .ok (.iload_n 2, 1) := by decide +kernel
theorem dX1_addRule_24 : decode cX1_addRule 24 = .ok (.iastore, 1) := by decide +kernel
theorem dX1_addRule_25 : decode cX1_addRule 25 = .ok (.iinc 3 1, 3) := by decide +kernel
theorem dX1_addRule_28 : decode cX1_addRule 28 = .ok (.goto (-16), 3) := by decide +kernel
theorem dX1_addRule_31 : decode cX1_addRule 31 = .ok (.return_, 1) := by decide +kernel
theorem dX1_dropRules_0 : decode cX1_dropRules 0 = .ok (.aload_n 0, 1) := by decide +kernel
theorem dX1_dropRules_1 : decode cX1_dropRules 1 = .ok (.iconst 0, 1) := by decide +kernel
theorem dX1_dropRules_2 : decode cX1_dropRules 2 = .ok (.putfield 76, 3) := by decide +kernel
theorem dX1_dropRules_5 : decode cX1_dropRules 5 = .ok (.aload_n 0, 1) := by decide +kernel
theorem dX1_dropRules_6 : decode cX1_dropRules 6 = .ok (.getfield 27, 3) := by decide +kernel
theorem dX1_dropRules_9 : decode cX1_dropRules 9 = .ok (.bipush 60, 2) := by decide +kernel
theorem dX1_dropRules_11 : decode cX1_dropRules 11 = .ok (.invokestatic 85, 3) := by decide +kernel
theorem dX1_dropRules_14 : decode cX1_dropRules 14 = .ok (.return_, 1) := by decide +kernel
theorem dX1_isCell_0 : decode cX1_isCell 0 = .ok (.iload_n 1, 1) := by decide +kernel
theorem dX1_isCell_1 : decode cX1_isCell 1 = .ok (.ifCond .lt 27, 3) := by decide +kernel
theorem dX1_isCell_4 : decode cX1_isCell 4 = .ok (.iload_n 1, 1) := by decide +kernel
theorem dX1_isCell_5 : decode cX1_isCell 5 = .ok (.aload_n 0, 1) := by decide +kernel
theorem dX1_isCell_6 : decode cX1_isCell 6 = .ok (.getfield 37, 3) := by decide +kernel
theorem dX1_isCell_9 : decode cX1_isCell 9 = .ok (.if_icmp .ge 19, 3) := by decide +kernel
theorem dX1_isCell_12 : decode cX1_isCell 12 = .ok (.iload_n 2, 1) := by decide +kernel
theorem dX1_isCell_13 : decode cX1_isCell 13 = .ok (.ifCond .lt 15, 3) := by decide +kernel
theorem dX1_isCell_16 : decode cX1_isCell 16 = .ok (.iload_n 2, 1) := by decide +kernel
theorem dX1_isCell_17 : decode cX1_isCell 17 = .ok (.aload_n 0, 1) := by decide +kernel
theorem dX1_isCell_18 : decode cX1_isCell 18 = .ok (.getfield 40, 3) := by decide +kernel
theorem dX1_isCell_21 : decode cX1_isCell 21 = .ok (.if_icmp .ge 7, 3) := by decide +kernel
theorem dX1_isCell_24 : decode cX1_isCell 24 = .ok (.iconst 1, 1) := by decide +kernel
theorem dX1_isCell_25 : decode cX1_isCell 25 = .ok (.goto 4, 3) := by decide +kernel
theorem dX1_isCell_28 : decode cX1_isCell 28 = .ok (.iconst 0, 1) := by decide +kernel
theorem dX1_isCell_29 : decode cX1_isCell 29 = .ok (.ireturn, 1) := by decide +kernel
theorem dX1_isBasin_0 : decode cX1_isBasin 0 = .ok (.iload_n 1, 1) := by decide +kernel
theorem dX1_isBasin_1 : decode cX1_isBasin 1 = .ok (.aload_n 0, 1) := by decide +kernel
theorem dX1_isBasin_2 : decode cX1_isBasin 2 = .ok (.getfield 43, 3) := by decide +kernel
theorem dX1_isBasin_5 : decode cX1_isBasin 5 = .ok (.aload_n 0, 1) := by decide +kernel
theorem dX1_isBasin_6 : decode cX1_isBasin 6 = .ok (.getfield 49, 3) := by decide +kernel
theorem dX1_isBasin_9 : decode cX1_isBasin 9 = .ok (.isub, 1) := by decide +kernel
theorem dX1_isBasin_10 : decode cX1_isBasin 10 = .ok (.aload_n 0, 1) := by decide +kernel
theorem dX1_isBasin_11 : decode cX1_isBasin 11 = .ok (.getfield 43, 3) := by decide +kernel
theorem dX1_isBasin_14 : decode cX1_isBasin 14 = .ok (.aload_n 0, 1) := by decide +kernel
theorem dX1_isBasin_15 : decode cX1_isBasin 15 = .ok (.getfield 49, 3) := by decide +kernel
theorem dX1_isBasin_18 : decode cX1_isBasin 18 = .ok (.iadd, 1) := by decide +kernel
theorem dX1_isBasin_19 : decode cX1_isBasin 19 = .ok (.invokestatic 91, 3) := by decide +kernel
theorem dX1_isBasin_22 : decode cX1_isBasin 22 = .ok (.ifCond .eq 32, 3) := by decide +kernel
theorem dX1_isBasin_25 : decode cX1_isBasin 25 = .ok (.iload_n 2, 1) := by decide +kernel
theorem dX1_isBasin_26 : decode cX1_isBasin 26 = .ok (.aload_n 0, 1) := by decide +kernel
theorem dX1_isBasin_27 : decode cX1_isBasin 27 = .ok (.getfield 46, 3) := by decide +kernel
theorem dX1_isBasin_30 : decode cX1_isBasin 30 = .ok (.aload_n 0, 1) := by decide +kernel
theorem dX1_isBasin_31 : decode cX1_isBasin 31 = .ok (.getfield 49, 3) := by decide +kernel
theorem dX1_isBasin_34 : decode cX1_isBasin 34 = .ok (.isub, 1) := by decide +kernel
theorem dX1_isBasin_35 : decode cX1_isBasin 35 = .ok (.aload_n 0, 1) := by decide +kernel
theorem dX1_isBasin_36 : decode cX1_isBasin 36 = .ok (.getfield 46, 3) := by decide +kernel
theorem dX1_isBasin_39 : decode cX1_isBasin 39 = .ok (.aload_n 0, 1) := by decide +kernel
theorem dX1_isBasin_40 : decode cX1_isBasin 40 = .ok (.getfield 49, 3) := by decide +kernel
theorem dX1_isBasin_43 : decode cX1_isBasin 43 = .ok (.iadd, 1) := by decide +kernel
theorem dX1_isBasin_44 : decode cX1_isBasin 44 = .ok (.invokestatic 91, 3) := by decide +kernel
theorem dX1_isBasin_47 : decode cX1_isBasin 47 = .ok (.ifCond .eq 7, 3) := by decide +kernel
theorem dX1_isBasin_50 : decode cX1_isBasin 50 = .ok (.iconst 1, 1) := by decide +kernel
theorem dX1_isBasin_51 : decode cX1_isBasin 51 = .ok (.goto 4, 3) := by decide +kernel
theorem dX1_isBasin_54 : decode cX1_isBasin 54 = .ok (.iconst 0, 1) := by decide +kernel
theorem dX1_isBasin_55 : decode cX1_isBasin 55 = .ok (.ireturn, 1) := by decide +kernel
theorem dX1_placeHit_0 : decode cX1_placeHit 0 = .ok (.iload_n 1, 1) := by decide +kernel
theorem dX1_placeHit_1 : decode cX1_placeHit 1 = .ok (.aload_n 0, 1) := by decide +kernel
theorem dX1_placeHit_2 : decode cX1_placeHit 2 = .ok (.getfield 43, 3) := by decide +kernel
theorem dX1_placeHit_5 : decode cX1_placeHit 5 = .ok (.aload_n 0, 1) := by decide +kernel
theorem dX1_placeHit_6 : decode cX1_placeHit 6 = .ok (.getfield 49, 3) := by decide +kernel
theorem dX1_placeHit_9 : decode cX1_placeHit 9 = .ok (.isub, 1) := by decide +kernel
theorem dX1_placeHit_10 : decode cX1_placeHit 10 = .ok (.if_icmp .lt 45, 3) := by decide +kernel
theorem dX1_placeHit_13 : decode cX1_placeHit 13 = .ok (.iload_n 1, 1) := by decide +kernel
theorem dX1_placeHit_14 : decode cX1_placeHit 14 = .ok (.aload_n 0, 1) := by decide +kernel
theorem dX1_placeHit_15 : decode cX1_placeHit 15 = .ok (.getfield 43, 3) := by decide +kernel
theorem dX1_placeHit_18 : decode cX1_placeHit 18 = .ok (.aload_n 0, 1) := by decide +kernel
theorem dX1_placeHit_19 : decode cX1_placeHit 19 = .ok (.getfield 49, 3) := by decide +kernel
theorem dX1_placeHit_22 : decode cX1_placeHit 22 = .ok (.iadd, 1) := by decide +kernel
theorem dX1_placeHit_23 : decode cX1_placeHit 23 = .ok (.if_icmp .gt 32, 3) := by decide +kernel
theorem dX1_placeHit_26 : decode cX1_placeHit 26 = .ok (.iload_n 2, 1) := by decide +kernel
theorem dX1_placeHit_27 : decode cX1_placeHit 27 = .ok (.aload_n 0, 1) := by decide +kernel
theorem dX1_placeHit_28 : decode cX1_placeHit 28 = .ok (.getfield 46, 3) := by decide +kernel
theorem dX1_placeHit_31 : decode cX1_placeHit 31 = .ok (.aload_n 0, 1) := by decide +kernel
theorem dX1_placeHit_32 : decode cX1_placeHit 32 = .ok (.getfield 49, 3) := by decide +kernel
theorem dX1_placeHit_35 : decode cX1_placeHit 35 = .ok (.isub, 1) := by decide +kernel
theorem dX1_placeHit_36 : decode cX1_placeHit 36 = .ok (.if_icmp .lt 19, 3) := by decide +kernel
theorem dX1_placeHit_39 : decode cX1_placeHit 39 = .ok (.iload_n 2, 1) := by decide +kernel
theorem dX1_placeHit_40 : decode cX1_placeHit 40 = .ok (.aload_n 0, 1) := by decide +kernel
theorem dX1_placeHit_41 : decode cX1_placeHit 41 = .ok (.getfield 46, 3) := by decide +kernel
theorem dX1_placeHit_44 : decode cX1_placeHit 44 = .ok (.aload_n 0, 1) := by decide +kernel
theorem dX1_placeHit_45 : decode cX1_placeHit 45 = .ok (.getfield 49, 3) := by decide +kernel
theorem dX1_placeHit_48 : decode cX1_placeHit 48 = .ok (.iadd, 1) := by decide +kernel
theorem dX1_placeHit_49 : decode cX1_placeHit 49 = .ok (.if_icmp .gt 6, 3) := by decide +kernel
theorem dX1_placeHit_52 : decode cX1_placeHit 52 = .ok (.bipush (-3), 2) := by decide +kernel
theorem dX1_placeHit_54 : decode cX1_placeHit 54 = .ok (.ireturn, 1) := by decide +kernel
theorem dX1_placeHit_55 : decode cX1_placeHit 55 = .ok (.iload_n 1, 1) := by decide +kernel
theorem dX1_placeHit_56 : decode cX1_placeHit 56 = .ok (.ifCond .lt 32, 3) := by decide +kernel
theorem dX1_placeHit_59 : decode cX1_placeHit 59 = .ok (.iload_n 1, 1) := by decide +kernel
theorem dX1_placeHit_60 : decode cX1_placeHit 60 = .ok (.aload_n 0, 1) := by decide +kernel
theorem dX1_placeHit_61 : decode cX1_placeHit 61 = .ok (.getfield 37, 3) := by decide +kernel
theorem dX1_placeHit_64 : decode cX1_placeHit 64 = .ok (.if_icmp .ge 24, 3) := by decide +kernel
theorem dX1_placeHit_67 : decode cX1_placeHit 67 = .ok (.iload_n 2, 1) := by decide +kernel
theorem dX1_placeHit_68 : decode cX1_placeHit 68 = .ok (.ifCond .lt 20, 3) := by decide +kernel
theorem dX1_placeHit_71 : decode cX1_placeHit 71 = .ok (.iload_n 2, 1) := by decide +kernel
theorem dX1_placeHit_72 : decode cX1_placeHit 72 = .ok (.aload_n 0, 1) := by decide +kernel
theorem dX1_placeHit_73 : decode cX1_placeHit 73 = .ok (.getfield 40, 3) := by decide +kernel
theorem dX1_placeHit_76 : decode cX1_placeHit 76 = .ok (.if_icmp .ge 12, 3) := by decide +kernel
theorem dX1_placeHit_79 : decode cX1_placeHit 79 = .ok (.iload_n 1, 1) := by decide +kernel
theorem dX1_placeHit_80 : decode cX1_placeHit 80 = .ok (.bipush 100, 2) := by decide +kernel
theorem dX1_placeHit_82 : decode cX1_placeHit 82 = .ok (.iload_n 2, 1) := by decide +kernel
theorem dX1_placeHit_83 : decode cX1_placeHit 83 = .ok (.imul, 1) := by decide +kernel
theorem dX1_placeHit_84 : decode cX1_placeHit 84 = .ok (.iadd, 1) := by decide +kernel
theorem dX1_placeHit_85 : decode cX1_placeHit 85 = .ok (.goto 4, 3) := by decide +kernel
theorem dX1_placeHit_88 : decode cX1_placeHit 88 = .ok (.iconst (-1), 1) := by decide +kernel
theorem dX1_placeHit_89 : decode cX1_placeHit 89 = .ok (.ireturn, 1) := by decide +kernel
theorem dX1_highLetBy_0 : decode cX1_highLetBy 0 = .ok (.aload_n 0, 1) := by decide +kernel
theorem dX1_highLetBy_1 : decode cX1_highLetBy 1 = .ok (.getfield 52, 3) := by decide +kernel
theorem dX1_highLetBy_4 : decode cX1_highLetBy 4 = .ok (.aload_n 0, 1) := by decide +kernel
theorem dX1_highLetBy_5 : decode cX1_highLetBy 5 = .ok (.getfield 27, 3) := by decide +kernel
theorem dX1_highLetBy_8 : decode cX1_highLetBy 8 = .ok (.iload_n 1, 1) := by decide +kernel
theorem dX1_highLetBy_9 : decode cX1_highLetBy 9 = .ok (.iaload, 1) := by decide +kernel
theorem dX1_highLetBy_10 : decode cX1_highLetBy 10 = .ok (.invokestatic 95, 3) := by decide +kernel
theorem dX1_highLetBy_13 : decode cX1_highLetBy 13 = .ok (.ireturn, 1) := by decide +kernel
theorem dX1_steadyDrift_0 : decode cX1_steadyDrift 0 = .ok (.aload_n 0, 1) := by decide +kernel
theorem dX1_steadyDrift_1 : decode cX1_steadyDrift 1 = .ok (.getfield 9, 3) := by decide +kernel
theorem dX1_steadyDrift_4 : decode cX1_steadyDrift 4 = .ok (.iload_n 1, 1) := by decide +kernel
theorem dX1_steadyDrift_5 : decode cX1_steadyDrift 5 = .ok (.iaload, 1) := by decide +kernel
theorem dX1_steadyDrift_6 : decode cX1_steadyDrift 6 = .ok (.iload_n 3, 1) := by decide +kernel
theorem dX1_steadyDrift_7 : decode cX1_steadyDrift 7 = .ok (.bipush 10, 2) := by decide +kernel
theorem dX1_steadyDrift_9 : decode cX1_steadyDrift 9 = .ok (.irem, 1) := by decide +kernel
theorem dX1_steadyDrift_10 : decode cX1_steadyDrift 10 = .ok (.imul, 1) := by decide +kernel
theorem dX1_steadyDrift_11 : decode cX1_steadyDrift 11 = .ok (.iload_n 2, 1) := by decide +kernel
theorem dX1_steadyDrift_12 : decode cX1_steadyDrift 12 = .ok (.imul, 1) := by decide +kernel
theorem dX1_steadyDrift_13 : decode cX1_steadyDrift 13 = .ok (.ireturn, 1) := by decide +kernel
theorem dX1_steadyPlace_0 : decode cX1_steadyPlace 0 = .ok (.aload_n 0, 1) := by decide +kernel
theorem dX1_steadyPlace_1 : decode cX1_steadyPlace 1 = .ok (.iload_n 1, 1) := by decide +kernel
theorem dX1_steadyPlace_2 : decode cX1_steadyPlace 2 = .ok (.iload_n 2, 1) := by decide +kernel
theorem dX1_steadyPlace_3 : decode cX1_steadyPlace 3 = .ok (.iload_n 3, 1) := by decide +kernel
theorem dX1_steadyPlace_4 : decode cX1_steadyPlace 4 = .ok (.invokevirtual 101, 3) := by decide +kernel
theorem dX1_steadyPlace_7 : decode cX1_steadyPlace 7 = .ok (.bipush 100, 2) := by decide +kernel
theorem dX1_steadyPlace_9 : decode cX1_steadyPlace 9 = .ok (.idiv, 1) := by decide +kernel
theorem dX1_steadyPlace_10 : decode cX1_steadyPlace 10 = .ok (.istore 4, 2) := by decide +kernel
theorem dX1_steadyPlace_12 : decode cX1_steadyPlace 12 = .ok (.aload_n 0, 1) := by decide +kernel
theorem dX1_steadyPlace_13 : decode cX1_steadyPlace 13 = .ok (.aload_n 0, 1) := by decide +kernel
theorem dX1_steadyPlace_14 : decode cX1_steadyPlace 14 = .ok (.getfield 43, 3) := by decide +kernel
theorem dX1_steadyPlace_17 : decode cX1_steadyPlace 17 = .ok (.iload 4, 2) := by decide +kernel
theorem dX1_steadyPlace_19 : decode cX1_steadyPlace 19 = .ok (.getstatic 105, 3) := by decide +kernel
theorem dX1_steadyPlace_22 : decode cX1_steadyPlace 22 = .ok (.iload_n 3, 1) := by decide +kernel
theorem dX1_steadyPlace_23 : decode cX1_steadyPlace 23 = .ok (.bipush 10, 2) := by decide +kernel
theorem dX1_steadyPlace_25 : decode cX1_steadyPlace 25 = .ok (.idiv, 1) := by decide +kernel
theorem dX1_steadyPlace_26 : decode cX1_steadyPlace 26 = .ok (.iaload, 1) := by decide +kernel
theorem dX1_steadyPlace_27 : decode cX1_steadyPlace 27 = .ok (.imul, 1) := by decide +kernel
theorem dX1_steadyPlace_28 : decode cX1_steadyPlace 28 = .ok (.iadd, 1) := by decide +kernel
theorem dX1_steadyPlace_29 : decode cX1_steadyPlace 29 = .ok (.aload_n 0, 1) := by decide +kernel
theorem dX1_steadyPlace_30 : decode cX1_steadyPlace 30 = .ok (.getfield 46, 3) := by decide +kernel
theorem dX1_steadyPlace_33 : decode cX1_steadyPlace 33 = .ok (.iload 4, 2) := by decide +kernel
theorem dX1_steadyPlace_35 : decode cX1_steadyPlace 35 = .ok (.getstatic 108, 3) := by decide +kernel
theorem dX1_steadyPlace_38 : decode cX1_steadyPlace 38 = .ok (.iload_n 3, 1) := by decide +kernel
theorem dX1_steadyPlace_39 : decode cX1_steadyPlace 39 = .ok (.bipush 10, 2) := by decide +kernel
theorem dX1_steadyPlace_41 : decode cX1_steadyPlace 41 = .ok (.idiv, 1) := by decide +kernel
theorem dX1_steadyPlace_42 : decode cX1_steadyPlace 42 = .ok (.iaload, 1) := by decide +kernel
theorem dX1_steadyPlace_43 : decode cX1_steadyPlace 43 = .ok (.imul, 1) := by decide +kernel
theorem dX1_steadyPlace_44 : decode cX1_steadyPlace 44 = .ok (.iadd, 1) := by decide +kernel
theorem dX1_steadyPlace_45 : decode cX1_steadyPlace 45 = .ok (.invokevirtual 111, 3) := by decide +kernel
theorem dX1_steadyPlace_48 : decode cX1_steadyPlace 48 = .ok (.ireturn, 1) := by decide +kernel
theorem dX1_sizesHitting_0 : decode cX1_sizesHitting 0 = .ok (.iconst 0, 1) := by decide +kernel
theorem dX1_sizesHitting_1 : decode cX1_sizesHitting 1 = .ok (.istore 4, 2) := by decide +kernel
theorem dX1_sizesHitting_3 : decode cX1_sizesHitting 3 = .ok (.iconst 0, 1) := by decide +kernel
theorem dX1_sizesHitting_4 : decode cX1_sizesHitting 4 = .ok (.istore 5, 2) := by decide +kernel
theorem dX1_sizesHitting_6 : decode cX1_sizesHitting 6 = .ok (.iload 5, 2) := by decide +kernel
theorem dX1_sizesHitting_8 : decode cX1_sizesHitting 8 = .ok (.aload_n 0, 1) := by decide +kernel
theorem dX1_sizesHitting_9 : decode cX1_sizesHitting 9 = .ok (.getfield 67, 3) := by decide +kernel
theorem dX1_sizesHitting_12 : decode cX1_sizesHitting 12 = .ok (.if_icmp .ge 30, 3) := by decide +kernel
theorem dX1_sizesHitting_15 : decode cX1_sizesHitting 15 = .ok (.aload_n 0, 1) := by decide +kernel
theorem dX1_sizesHitting_16 : decode cX1_sizesHitting 16 = .ok (.iload 5, 2) := by decide +kernel
theorem dX1_sizesHitting_18 : decode cX1_sizesHitting 18 = .ok (.iload_n 2, 1) := by decide +kernel
theorem dX1_sizesHitting_19 : decode cX1_sizesHitting 19 = .ok (.iload_n 3, 1) := by decide +kernel
theorem dX1_sizesHitting_20 : decode cX1_sizesHitting 20 = .ok (.invokevirtual 114, 3) := by decide +kernel
theorem dX1_sizesHitting_23 : decode cX1_sizesHitting 23 = .ok (.iload_n 1, 1) := by decide +kernel
theorem dX1_sizesHitting_24 : decode cX1_sizesHitting 24 = .ok (.if_icmp .ne 12, 3) := by decide +kernel
theorem dX1_sizesHitting_27 : decode cX1_sizesHitting 27 = .ok (.iload 4, 2) := by decide +kernel
theorem dX1_sizesHitting_29 : decode cX1_sizesHitting 29 = .ok (.iconst 1, 1) := by decide +kernel
theorem dX1_sizesHitting_30 : decode cX1_sizesHitting 30 = .ok (.iload 5, 2) := by decide +kernel
theorem dX1_sizesHitting_32 : decode cX1_sizesHitting 32 = .ok (.ishl, 1) := by decide +kernel
theorem dX1_sizesHitting_33 : decode cX1_sizesHitting 33 = .ok (.ior, 1) := by decide +kernel
theorem dX1_sizesHitting_34 : decode cX1_sizesHitting 34 = .ok (.istore 4, 2) := by decide +kernel
theorem dX1_sizesHitting_36 : decode cX1_sizesHitting 36 = .ok (.iinc 5 1, 3) := by decide +kernel
theorem dX1_sizesHitting_39 : decode cX1_sizesHitting 39 = .ok (.goto (-33), 3) := by decide +kernel
theorem dX1_sizesHitting_42 : decode cX1_sizesHitting 42 = .ok (.iload 4, 2) := by decide +kernel
theorem dX1_sizesHitting_44 : decode cX1_sizesHitting 44 = .ok (.ireturn, 1) := by decide +kernel
theorem dX1_strayFrom_0 : decode cX1_strayFrom 0 = .ok (.iload_n 1, 1) := by decide +kernel
theorem dX1_strayFrom_1 : decode cX1_strayFrom 1 = .ok (.invokestatic 117, 3) := by decide +kernel
theorem dX1_strayFrom_4 : decode cX1_strayFrom 4 = .ok (.istore_n 3, 1) := by decide +kernel
theorem dX1_strayFrom_5 : decode cX1_strayFrom 5 = .ok (.iconst 0, 1) := by decide +kernel
theorem dX1_strayFrom_6 : decode cX1_strayFrom 6 = .ok (.istore 4, 2) := by decide +kernel
theorem dX1_strayFrom_8 : decode cX1_strayFrom 8 = .ok (.iconst 0, 1) := by decide +kernel
theorem dX1_strayFrom_9 : decode cX1_strayFrom 9 = .ok (.istore 5, 2) := by decide +kernel
theorem dX1_strayFrom_11 : decode cX1_strayFrom 11 = .ok (.iload 5, 2) := by decide +kernel
theorem dX1_strayFrom_13 : decode cX1_strayFrom 13 = .ok (.aload_n 0, 1) := by decide +kernel
theorem dX1_strayFrom_14 : decode cX1_strayFrom 14 = .ok (.getfield 67, 3) := by decide +kernel
theorem dX1_strayFrom_17 : decode cX1_strayFrom 17 = .ok (.if_icmp .ge 34, 3) := by decide +kernel
theorem dX1_strayFrom_20 : decode cX1_strayFrom 20 = .ok (.aload_n 0, 1) := by decide +kernel
theorem dX1_strayFrom_21 : decode cX1_strayFrom 21 = .ok (.iload 5, 2) := by decide +kernel
theorem dX1_strayFrom_23 : decode cX1_strayFrom 23 = .ok (.iload_n 3, 1) := by decide +kernel
theorem dX1_strayFrom_24 : decode cX1_strayFrom 24 = .ok (.iload_n 2, 1) := by decide +kernel
theorem dX1_strayFrom_25 : decode cX1_strayFrom 25 = .ok (.invokevirtual 114, 3) := by decide +kernel
theorem dX1_strayFrom_28 : decode cX1_strayFrom 28 = .ok (.bipush (-3), 2) := by decide +kernel
theorem dX1_strayFrom_30 : decode cX1_strayFrom 30 = .ok (.if_icmp .eq 15, 3) := by decide +kernel
theorem dX1_strayFrom_33 : decode cX1_strayFrom 33 = .ok (.iload 4, 2) := by decide +kernel
theorem dX1_strayFrom_35 : decode cX1_strayFrom 35 = .ok (.aload_n 0, 1) := by decide +kernel
theorem dX1_strayFrom_36 : decode cX1_strayFrom 36 = .ok (.getfield 15, 3) := by decide +kernel
theorem dX1_strayFrom_39 : decode cX1_strayFrom 39 = .ok (.iload 5, 2) := by decide +kernel
theorem dX1_strayFrom_41 : decode cX1_strayFrom 41 = .ok (.iaload, 1) := by decide +kernel
theorem dX1_strayFrom_42 : decode cX1_strayFrom 42 = .ok (.iadd, 1) := by decide +kernel
theorem dX1_strayFrom_43 : decode cX1_strayFrom 43 = .ok (.istore 4, 2) := by decide +kernel
theorem dX1_strayFrom_45 : decode cX1_strayFrom 45 = .ok (.iinc 5 1, 3) := by decide +kernel
theorem dX1_strayFrom_48 : decode cX1_strayFrom 48 = .ok (.goto (-37), 3) := by decide +kernel
theorem dX1_strayFrom_51 : decode cX1_strayFrom 51 = .ok (.iload 4, 2) := by decide +kernel
theorem dX1_strayFrom_53 : decode cX1_strayFrom 53 = .ok (.ireturn, 1) := by decide +kernel
theorem dX1_tablePlace_0 : decode cX1_tablePlace 0 = .ok (.aload_n 0, 1) := by decide +kernel
theorem dX1_tablePlace_1 : decode cX1_tablePlace 1 = .ok (.getfield 18, 3) := by decide +kernel
theorem dX1_tablePlace_4 : decode cX1_tablePlace 4 = .ok (.iload_n 1, 1) := by decide +kernel
theorem dX1_tablePlace_5 : decode cX1_tablePlace 5 = .ok (.iaload, 1) := by decide +kernel
theorem dX1_tablePlace_6 : decode cX1_tablePlace 6 = .ok (.aload_n 0, 1) := by decide +kernel
theorem dX1_tablePlace_7 : decode cX1_tablePlace 7 = .ok (.getfield 21, 3) := by decide +kernel
theorem dX1_tablePlace_10 : decode cX1_tablePlace 10 = .ok (.iload_n 1, 1) := by decide +kernel
theorem dX1_tablePlace_11 : decode cX1_tablePlace 11 = .ok (.iaload, 1) := by decide +kernel
theorem dX1_tablePlace_12 : decode cX1_tablePlace 12 = .ok (.invokestatic 121, 3) := by decide +kernel
theorem dX1_tablePlace_15 : decode cX1_tablePlace 15 = .ok (.ireturn, 1) := by decide +kernel
theorem dX1_hasRoomFor_0 : decode cX1_hasRoomFor 0 = .ok (.iconst 0, 1) := by decide +kernel
theorem dX1_hasRoomFor_1 : decode cX1_hasRoomFor 1 = .ok (.istore 4, 2) := by decide +kernel
theorem dX1_hasRoomFor_3 : decode cX1_hasRoomFor 3 = .ok (.iload 4, 2) := by decide +kernel
theorem dX1_hasRoomFor_5 : decode cX1_hasRoomFor 5 = .ok (.aload_n 0, 1) := by decide +kernel
theorem dX1_hasRoomFor_6 : decode cX1_hasRoomFor 6 = .ok (.getfield 70, 3) := by decide +kernel
theorem dX1_hasRoomFor_9 : decode cX1_hasRoomFor 9 = .ok (.if_icmp .ge 39, 3) := by decide +kernel
theorem dX1_hasRoomFor_12 : decode cX1_hasRoomFor 12 = .ok (.iload 4, 2) := by decide +kernel
theorem dX1_hasRoomFor_14 : decode cX1_hasRoomFor 14 = .ok (.iload_n 1, 1) := by decide +kernel
theorem dX1_hasRoomFor_15 : decode cX1_hasRoomFor 15 = .ok (.if_icmp .eq 27, 3) := by decide +kernel
theorem dX1_hasRoomFor_18 : decode cX1_hasRoomFor 18 = .ok (.aload_n 0, 1) := by decide +kernel
theorem dX1_hasRoomFor_19 : decode cX1_hasRoomFor 19 = .ok (.getfield 18, 3) := by decide +kernel
theorem dX1_hasRoomFor_22 : decode cX1_hasRoomFor 22 = .ok (.iload 4, 2) := by decide +kernel
theorem dX1_hasRoomFor_24 : decode cX1_hasRoomFor 24 = .ok (.iaload, 1) := by decide +kernel
theorem dX1_hasRoomFor_25 : decode cX1_hasRoomFor 25 = .ok (.iload_n 2, 1) := by decide +kernel
theorem dX1_hasRoomFor_26 : decode cX1_hasRoomFor 26 = .ok (.if_icmp .ne 16, 3) := by decide +kernel
theorem dX1_hasRoomFor_29 : decode cX1_hasRoomFor 29 = .ok (.aload_n 0, 1) := by decide +kernel
theorem dX1_hasRoomFor_30 : decode cX1_hasRoomFor 30 = .ok (.getfield 21, 3) := by decide +kernel
theorem dX1_hasRoomFor_33 : decode cX1_hasRoomFor 33 = .ok (.iload 4, 2) := by decide +kernel
theorem dX1_hasRoomFor_35 : decode cX1_hasRoomFor 35 = .ok (.iaload, 1) := by decide +kernel
theorem dX1_hasRoomFor_36 : decode cX1_hasRoomFor 36 = .ok (.iload_n 3, 1) := by decide +kernel
theorem dX1_hasRoomFor_37 : decode cX1_hasRoomFor 37 = .ok (.if_icmp .ne 5, 3) := by decide +kernel
theorem dX1_hasRoomFor_40 : decode cX1_hasRoomFor 40 = .ok (.iconst 0, 1) := by decide +kernel
theorem dX1_hasRoomFor_41 : decode cX1_hasRoomFor 41 = .ok (.ireturn, 1) := by decide +kernel
theorem dX1_hasRoomFor_42 : decode cX1_hasRoomFor 42 = .ok (.iinc 4 1, 3) := by decide +kernel
theorem dX1_hasRoomFor_45 : decode cX1_hasRoomFor 45 = .ok (.goto (-42), 3) := by decide +kernel
theorem dX1_hasRoomFor_48 : decode cX1_hasRoomFor 48 = .ok (.aload_n 0, 1) := by decide +kernel
theorem dX1_hasRoomFor_49 : decode cX1_hasRoomFor 49 = .ok (.iload_n 2, 1) := by decide +kernel
theorem dX1_hasRoomFor_50 : decode cX1_hasRoomFor 50 = .ok (.iload_n 3, 1) := by decide +kernel
theorem dX1_hasRoomFor_51 : decode cX1_hasRoomFor 51 = .ok (.invokevirtual 124, 3) := by decide +kernel
theorem dX1_hasRoomFor_54 : decode cX1_hasRoomFor 54 = .ok (.ifCond .ne 7, 3) := by decide +kernel
theorem dX1_hasRoomFor_57 : decode cX1_hasRoomFor 57 = .ok (.iconst 1, 1) := by decide +kernel
theorem dX1_hasRoomFor_58 : decode cX1_hasRoomFor 58 = .ok (.goto 4, 3) := by decide +kernel
theorem dX1_hasRoomFor_61 : decode cX1_hasRoomFor 61 = .ok (.iconst 0, 1) := by decide +kernel
theorem dX1_hasRoomFor_62 : decode cX1_hasRoomFor 62 = .ok (.ireturn, 1) := by decide +kernel
theorem dX1_showsBow_0 : decode cX1_showsBow 0 = .ok (.aload_n 0, 1) := by decide +kernel
theorem dX1_showsBow_1 : decode cX1_showsBow 1 = .ok (.getfield 43, 3) := by decide +kernel
theorem dX1_showsBow_4 : decode cX1_showsBow 4 = .ok (.iload_n 1, 1) := by decide +kernel
theorem dX1_showsBow_5 : decode cX1_showsBow 5 = .ok (.isub, 1) := by decide +kernel
theorem dX1_showsBow_6 : decode cX1_showsBow 6 = .ok (.getstatic 105, 3) := by decide +kernel
theorem dX1_showsBow_9 : decode cX1_showsBow 9 = .ok (.iload_n 3, 1) := by decide +kernel
theorem dX1_showsBow_10 : decode cX1_showsBow 10 = .ok (.iaload, 1) := by decide +kernel
theorem dX1_showsBow_11 : decode cX1_showsBow 11 = .ok (.imul, 1) := by decide +kernel
theorem dX1_showsBow_12 : decode cX1_showsBow 12 = .ok (.aload_n 0, 1) := by decide +kernel
theorem dX1_showsBow_13 : decode cX1_showsBow 13 = .ok (.getfield 46, 3) := by decide +kernel
theorem dX1_showsBow_16 : decode cX1_showsBow 16 = .ok (.iload_n 2, 1) := by decide +kernel
theorem dX1_showsBow_17 : decode cX1_showsBow 17 = .ok (.isub, 1) := by decide +kernel
theorem dX1_showsBow_18 : decode cX1_showsBow 18 = .ok (.getstatic 108, 3) := by decide +kernel
theorem dX1_showsBow_21 : decode cX1_showsBow 21 = .ok (.iload_n 3, 1) := by decide +kernel
theorem dX1_showsBow_22 : decode cX1_showsBow 22 = .ok (.iaload, 1) := by decide +kernel
theorem dX1_showsBow_23 : decode cX1_showsBow 23 = .ok (.imul, 1) := by decide +kernel
theorem dX1_showsBow_24 : decode cX1_showsBow 24 = .ok (.iadd, 1) := by decide +kernel
theorem dX1_showsBow_25 : decode cX1_showsBow 25 = .ok (.istore 4, 2) := by decide +kernel
theorem dX1_showsBow_27 : decode cX1_showsBow 27 = .ok (.aload_n 0, 1) := by decide +kernel
theorem dX1_showsBow_28 : decode cX1_showsBow 28 = .ok (.getfield 43, 3) := by decide +kernel
theorem dX1_showsBow_31 : decode cX1_showsBow 31 = .ok (.iload_n 1, 1) := by decide +kernel
theorem dX1_showsBow_32 : decode cX1_showsBow 32 = .ok (.isub, 1) := by decide +kernel
theorem dX1_showsBow_33 : decode cX1_showsBow 33 = .ok (.getstatic 108, 3) := by decide +kernel
theorem dX1_showsBow_36 : decode cX1_showsBow 36 = .ok (.iload_n 3, 1) := by decide +kernel
theorem dX1_showsBow_37 : decode cX1_showsBow 37 = .ok (.iaload, 1) := by decide +kernel
theorem dX1_showsBow_38 : decode cX1_showsBow 38 = .ok (.imul, 1) := by decide +kernel
theorem dX1_showsBow_39 : decode cX1_showsBow 39 = .ok (.invokestatic 128, 3) := by decide +kernel
theorem dX1_showsBow_42 : decode cX1_showsBow 42 = .ok (.aload_n 0, 1) := by decide +kernel
theorem dX1_showsBow_43 : decode cX1_showsBow 43 = .ok (.getfield 46, 3) := by decide +kernel
theorem dX1_showsBow_46 : decode cX1_showsBow 46 = .ok (.iload_n 2, 1) := by decide +kernel
theorem dX1_showsBow_47 : decode cX1_showsBow 47 = .ok (.isub, 1) := by decide +kernel
theorem dX1_showsBow_48 : decode cX1_showsBow 48 = .ok (.getstatic 105, 3) := by decide +kernel
theorem dX1_showsBow_51 : decode cX1_showsBow 51 = .ok (.iload_n 3, 1) := by decide +kernel
theorem dX1_showsBow_52 : decode cX1_showsBow 52 = .ok (.iaload, 1) := by decide +kernel
theorem dX1_showsBow_53 : decode cX1_showsBow 53 = .ok (.imul, 1) := by decide +kernel
theorem dX1_showsBow_54 : decode cX1_showsBow 54 = .ok (.invokestatic 128, 3) := by decide +kernel
theorem dX1_showsBow_57 : decode cX1_showsBow 57 = .ok (.iadd, 1) := by decide +kernel
theorem dX1_showsBow_58 : decode cX1_showsBow 58 = .ok (.istore 5, 2) := by decide +kernel
theorem dX1_showsBow_60 : decode cX1_showsBow 60 = .ok (.iload 4, 2) := by decide +kernel
theorem dX1_showsBow_62 : decode cX1_showsBow 62 = .ok (.ifCond .le 16, 3) := by decide +kernel
theorem dX1_showsBow_65 : decode cX1_showsBow 65 = .ok (.iload 5, 2) := by decide +kernel
theorem dX1_showsBow_67 : decode cX1_showsBow 67 = .ok (.iload 4, 2) := by decide +kernel
theorem dX1_showsBow_69 : decode cX1_showsBow 69 = .ok (.iconst 2, 1) := by decide +kernel
theorem dX1_showsBow_70 : decode cX1_showsBow 70 = .ok (.idiv, 1) := by decide +kernel
theorem dX1_showsBow_71 : decode cX1_showsBow 71 = .ok (.if_icmp .gt 7, 3) := by decide +kernel
theorem dX1_showsBow_74 : decode cX1_showsBow 74 = .ok (.iconst 1, 1) := by decide +kernel
theorem dX1_showsBow_75 : decode cX1_showsBow 75 = .ok (.goto 4, 3) := by decide +kernel
theorem dX1_showsBow_78 : decode cX1_showsBow 78 = .ok (.iconst 0, 1) := by decide +kernel
theorem dX1_showsBow_79 : decode cX1_showsBow 79 = .ok (.ireturn, 1) := by decide +kernel
theorem dX2_init_0 : decode cX2_init 0 = .ok (.aload_n 0, 1) := by decide +kernel
theorem dX2_init_1 : decode cX2_init 1 = .ok (.invokespecial 3, 3) := by decide +kernel
theorem dX2_init_4 : decode cX2_init 4 = .ok (.aload_n 0, 1) := by decide +kernel
theorem dX2_init_5 : decode cX2_init 5 = .ok (.bipush 60, 2) := by decide +kernel
theorem dX2_init_7 : decode cX2_init 7 = .ok (.newarray .long, 2) := by decide +kernel
theorem dX2_init_9 : decode cX2_init 9 = .ok (.putfield 9, 3) := by decide +kernel
theorem dX2_init_12 : decode cX2_init 12 = .ok (.return_, 1) := by decide +kernel
theorem dX2_begin_0 : decode cX2_begin 0 = .ok (.aload_n 0, 1) := by decide +kernel
theorem dX2_begin_1 : decode cX2_begin 1 = .ok (.iconst 1, 1) := by decide +kernel
theorem dX2_begin_2 : decode cX2_begin 2 = .ok (.putfield 15, 3) := by decide +kernel
theorem dX2_begin_5 : decode cX2_begin 5 = .ok (.aload_n 0, 1) := by decide +kernel
theorem dX2_begin_6 : decode cX2_begin 6 = .ok (.iload_n 1, 1) := by decide +kernel
theorem dX2_begin_7 : decode cX2_begin 7 = .ok (.putfield 19, 3) := by decide +kernel
theorem dX2_begin_10 : decode cX2_begin 10 = .ok (.aload_n 0, 1) := by decide +kernel
theorem dX2_begin_11 : decode cX2_begin 11 = .ok (.iload_n 2, 1) := by decide +kernel
theorem dX2_begin_12 : decode cX2_begin 12 = .ok (.putfield 23, 3) := by decide +kernel
theorem dX2_begin_15 : decode cX2_begin 15 = .ok (.aload_n 0, 1) := by decide +kernel
theorem dX2_begin_16 : decode cX2_begin 16 = .ok (.getfield 9, 3) := by decide +kernel
theorem dX2_begin_19 : decode cX2_begin 19 = .ok (.lconst 0, 1) := by decide +kernel
theorem dX2_begin_20 : decode cX2_begin 20 = .ok (.invokestatic 26, 3) := by decide +kernel
theorem dX2_begin_23 : decode cX2_begin 23 = .ok (.return_, 1) := by decide +kernel
theorem dX2_cut_0 : decode cX2_cut 0 = .ok (.aload_n 0, 1) := by decide +kernel
theorem dX2_cut_1 : decode cX2_cut 1 = .ok (.getfield 19, 3) := by decide +kernel
theorem dX2_cut_4 : decode cX2_cut 4 = .ok (.tableswitch 42 0 2 #[28, 33, 38], 28) := by decide +kernel
theorem dX2_cut_32 : decode cX2_cut 32 = .ok (.lload_n 1, 1) := by decide +kernel
theorem dX2_cut_33 : decode cX2_cut 33 = .ok (.l2i, 1) := by decide +kernel
theorem dX2_cut_34 : decode cX2_cut 34 = .ok (.i2b, 1) := by decide +kernel
theorem dX2_cut_35 : decode cX2_cut 35 = .ok (.i2l, 1) := by decide +kernel
theorem dX2_cut_36 : decode cX2_cut 36 = .ok (.lreturn, 1) := by decide +kernel
theorem dX2_cut_37 : decode cX2_cut 37 = .ok (.lload_n 1, 1) := by decide +kernel
theorem dX2_cut_38 : decode cX2_cut 38 = .ok (.l2i, 1) := by decide +kernel
theorem dX2_cut_39 : decode cX2_cut 39 = .ok (.i2s, 1) := by decide +kernel
theorem dX2_cut_40 : decode cX2_cut 40 = .ok (.i2l, 1) := by decide +kernel
theorem dX2_cut_41 : decode cX2_cut 41 = .ok (.lreturn, 1) := by decide +kernel
theorem dX2_cut_42 : decode cX2_cut 42 = .ok (.lload_n 1, 1) := by decide +kernel
theorem dX2_cut_43 : decode cX2_cut 43 = .ok (.l2i, 1) := by decide +kernel
theorem dX2_cut_44 : decode cX2_cut 44 = .ok (.i2l, 1) := by decide +kernel
theorem dX2_cut_45 : decode cX2_cut 45 = .ok (.lreturn, 1) := by decide +kernel
theorem dX2_cut_46 : decode cX2_cut 46 = .ok (.lload_n 1, 1) := by decide +kernel
theorem dX2_cut_47 : decode cX2_cut 47 = .ok (.lreturn, 1) := by decide +kernel
theorem dX2_holds_0 : decode cX2_holds 0 = .ok (.iload_n 1, 1) := by decide +kernel
theorem dX2_holds_1 : decode cX2_holds 1 = .ok (.ifCond .lt 29, 3) := by decide +kernel
theorem dX2_holds_4 : decode cX2_holds 4 = .ok (.iload_n 2, 1) := by decide +kernel
theorem dX2_holds_5 : decode cX2_holds 5 = .ok (.ifCond .lt 25, 3) := by decide +kernel
theorem dX2_holds_8 : decode cX2_holds 8 = .ok (.iload_n 2, 1) := by decide +kernel
theorem dX2_holds_9 : decode cX2_holds 9 = .ok (.aload_n 0, 1) := by decide +kernel
theorem dX2_holds_10 : decode cX2_holds 10 = .ok (.getfield 23, 3) := by decide +kernel
theorem dX2_holds_13 : decode cX2_holds 13 = .ok (.if_icmp .gt 17, 3) := by decide +kernel
theorem dX2_holds_16 : decode cX2_holds 16 = .ok (.iload_n 1, 1) := by decide +kernel
theorem dX2_holds_17 : decode cX2_holds 17 = .ok (.aload_n 0, 1) := by decide +kernel
theorem dX2_holds_18 : decode cX2_holds 18 = .ok (.getfield 23, 3) := by decide +kernel
theorem dX2_holds_21 : decode cX2_holds 21 = .ok (.iload_n 2, 1) := by decide +kernel
theorem dX2_holds_22 : decode cX2_holds 22 = .ok (.isub, 1) := by decide +kernel
theorem dX2_holds_23 : decode cX2_holds 23 = .ok (.if_icmp .gt 7, 3) := by decide +kernel
theorem dX2_holds_26 : decode cX2_holds 26 = .ok (.iconst 1, 1) := by decide +kernel
theorem dX2_holds_27 : decode cX2_holds 27 = .ok (.goto 4, 3) := by decide +kernel
theorem dX2_holds_30 : decode cX2_holds 30 = .ok (.iconst 0, 1) := by decide +kernel
theorem dX2_holds_31 : decode cX2_holds 31 = .ok (.ireturn, 1) := by decide +kernel
theorem dX2_isOfWinds_0 : decode cX2_isOfWinds 0 = .ok (.iconst 0, 1) := by decide +kernel
theorem dX2_isOfWinds_1 : decode cX2_isOfWinds 1 = .ok (.istore_n 1, 1) := by decide +kernel
theorem dX2_isOfWinds_2 : decode cX2_isOfWinds 2 = .ok (.iload_n 1, 1) := by decide +kernel
theorem dX2_isOfWinds_3 : decode cX2_isOfWinds 3 = .ok (.aload_n 0, 1) := by decide +kernel
theorem dX2_isOfWinds_4 : decode cX2_isOfWinds 4 = .ok (.getfield 23, 3) := by decide +kernel
theorem dX2_isOfWinds_7 : decode cX2_isOfWinds 7 = .ok (.if_icmp .ge 35, 3) := by decide +kernel
theorem dX2_isOfWinds_10 : decode cX2_isOfWinds 10 = .ok (.aload_n 0, 1) := by decide +kernel
theorem dX2_isOfWinds_11 : decode cX2_isOfWinds 11 = .ok (.getfield 9, 3) := by decide +kernel
theorem dX2_isOfWinds_14 : decode cX2_isOfWinds 14 = .ok (.iload_n 1, 1) := by decide +kernel
theorem dX2_isOfWinds_15 : decode cX2_isOfWinds 15 = .ok (.laload, 1) := by decide +kernel
theorem dX2_isOfWinds_16 : decode cX2_isOfWinds 16 = .ok (.lconst 0, 1) := by decide +kernel
theorem dX2_isOfWinds_17 : decode cX2_isOfWinds 17 = .ok (.lcmp, 1) := by decide +kernel
theorem dX2_isOfWinds_18 : decode cX2_isOfWinds 18 = .ok (.ifCond .lt 16, 3) := by decide +kernel
theorem dX2_isOfWinds_21 : decode cX2_isOfWinds 21 = .ok (.aload_n 0, 1) := by decide +kernel
theorem dX2_isOfWinds_22 : decode cX2_isOfWinds 22 = .ok (.getfield 9, 3) := by decide +kernel
theorem dX2_isOfWinds_25 : decode cX2_isOfWinds 25 = .ok (.iload_n 1, 1) := by decide +kernel
theorem dX2_isOfWinds_26 : decode cX2_isOfWinds 26 = .ok (.laload, 1) := by decide +kernel
theorem dX2_isOfWinds_27 : decode cX2_isOfWinds 27 = .ok (.ldc2_w 32, 3) := by decide +kernel
theorem dX2_isOfWinds_30 : decode cX2_isOfWinds 30 = .ok (.lcmp, 1) := by decide +kernel
theorem dX2_isOfWinds_31 : decode cX2_isOfWinds 31 = .ok (.ifCond .lt 5, 3) := by decide +kernel
theorem dX2_isOfWinds_34 : decode cX2_isOfWinds 34 = .ok (.iconst 0, 1) := by decide +kernel
theorem dX2_isOfWinds_35 : decode cX2_isOfWinds 35 = .ok (.ireturn, 1) := by decide +kernel
theorem dX2_isOfWinds_36 : decode cX2_isOfWinds 36 = .ok (.iinc 1 1, 3) := by decide +kernel
theorem dX2_isOfWinds_39 : decode cX2_isOfWinds 39 = .ok (.goto (-37), 3) := by decide +kernel
theorem dX2_isOfWinds_42 : decode cX2_isOfWinds 42 = .ok (.iconst 1, 1) := by decide +kernel
theorem dX2_isOfWinds_43 : decode cX2_isOfWinds 43 = .ok (.ireturn, 1) := by decide +kernel
theorem dX2_windAt_0 : decode cX2_windAt 0 = .ok (.aload_n 0, 1) := by decide +kernel
theorem dX2_windAt_1 : decode cX2_windAt 1 = .ok (.getfield 9, 3) := by decide +kernel
theorem dX2_windAt_4 : decode cX2_windAt 4 = .ok (.iload_n 1, 1) := by decide +kernel
theorem dX2_windAt_5 : decode cX2_windAt 5 = .ok (.laload, 1) := by decide +kernel
theorem dX2_windAt_6 : decode cX2_windAt 6 = .ok (.l2i, 1) := by decide +kernel
theorem dX2_windAt_7 : decode cX2_windAt 7 = .ok (.ireturn, 1) := by decide +kernel
theorem dX3_init_0 : decode cX3_init 0 = .ok (.aload_n 0, 1) := by decide +kernel
theorem dX3_init_1 : decode cX3_init 1 = .ok (.invokespecial 3, 3) := by decide +kernel
theorem dX3_init_4 : decode cX3_init 4 = .ok (.aload_n 0, 1) := by decide +kernel
theorem dX3_init_5 : decode cX3_init 5 = .ok (.new 9, 3) := by decide +kernel
theorem dX3_init_8 : decode cX3_init 8 = .ok (.dup, 1) := by decide +kernel
theorem dX3_init_9 : decode cX3_init 9 = .ok (.invokespecial 11, 3) := by decide +kernel
theorem dX3_init_12 : decode cX3_init 12 = .ok (.putfield 12, 3) := by decide +kernel
theorem dX3_init_15 : decode cX3_init 15 = .ok (.aload_n 0, 1) := by decide +kernel
theorem dX3_init_16 : decode cX3_init 16 = .ok (.new 18, 3) := by decide +kernel
theorem dX3_init_19 : decode cX3_init 19 = .ok (.dup, 1) := by decide +kernel
theorem dX3_init_20 : decode cX3_init 20 = .ok (.invokespecial 20, 3) := by decide +kernel
theorem dX3_init_23 : decode cX3_init 23 = .ok (.putfield 21, 3) := by decide +kernel
theorem dX3_init_26 : decode cX3_init 26 = .ok (.return_, 1) := by decide +kernel
theorem dX3_copyFrom_0 : decode cX3_copyFrom 0 = .ok (.aload_n 0, 1) := by decide +kernel
theorem dX3_copyFrom_1 : decode cX3_copyFrom 1 = .ok (.getfield 12, 3) := by decide +kernel
theorem dX3_copyFrom_4 : decode cX3_copyFrom 4 = .ok (.aload_n 1, 1) := by decide +kernel
theorem dX3_copyFrom_5 : decode cX3_copyFrom 5 = .ok (.getfield 12, 3) := by decide +kernel
theorem dX3_copyFrom_8 : decode cX3_copyFrom 8 = .ok (.invokevirtual 25, 3) := by decide +kernel
theorem dX3_copyFrom_11 : decode cX3_copyFrom 11 = .ok (.aload_n 0, 1) := by decide +kernel
theorem dX3_copyFrom_12 : decode cX3_copyFrom 12 = .ok (.getfield 21, 3) := by decide +kernel
theorem dX3_copyFrom_15 : decode cX3_copyFrom 15 = .ok (.aload_n 1, 1) := by decide +kernel
theorem dX3_copyFrom_16 : decode cX3_copyFrom 16 = .ok (.getfield 21, 3) := by decide +kernel
theorem dX3_copyFrom_19 : decode cX3_copyFrom 19 = .ok (.invokevirtual 29, 3) := by decide +kernel
theorem dX3_copyFrom_22 : decode cX3_copyFrom 22 = .ok (.return_, 1) := by decide +kernel
theorem dX3_playWind_0 : decode cX3_playWind 0 = .ok (.aload_n 0, 1) := by decide +kernel
theorem dX3_playWind_1 : decode cX3_playWind 1 = .ok (.getfield 21, 3) := by decide +kernel
theorem dX3_playWind_4 : decode cX3_playWind 4 = .ok (.getfield 32, 3) := by decide +kernel
theorem dX3_playWind_7 : decode cX3_playWind 7 = .ok (.aload_n 0, 1) := by decide +kernel
theorem dX3_playWind_8 : decode cX3_playWind 8 = .ok (.getfield 21, 3) := by decide +kernel
theorem dX3_playWind_11 : decode cX3_playWind 11 = .ok (.getfield 36, 3) := by decide +kernel
theorem dX3_playWind_14 : decode cX3_playWind 14 = .ok (.iadd, 1) := by decide +kernel
theorem dX3_playWind_15 : decode cX3_playWind 15 = .ok (.istore_n 2, 1) := by decide +kernel
theorem dX3_playWind_16 : decode cX3_playWind 16 = .ok (.aload_n 0, 1) := by decide +kernel
theorem dX3_playWind_17 : decode cX3_playWind 17 = .ok (.getfield 21, 3) := by decide +kernel
theorem dX3_playWind_20 : decode cX3_playWind 20 = .ok (.aload_n 0, 1) := by decide +kernel
theorem dX3_playWind_21 : decode cX3_playWind 21 = .ok (.getfield 12, 3) := by decide +kernel
theorem dX3_playWind_24 : decode cX3_playWind 24 = .ok (.iload_n 1, 1) := by decide +kernel
theorem dX3_playWind_25 : decode cX3_playWind 25 = .ok (.invokevirtual 39, 3) := by decide +kernel
theorem dX3_playWind_28 : decode cX3_playWind 28 = .ok (.iconst 1, 1) := by decide +kernel
theorem dX3_playWind_29 : decode cX3_playWind 29 = .ok (.istore_n 3, 1) := by decide +kernel
theorem dX3_playWind_30 : decode cX3_playWind 30 = .ok (.iload_n 3, 1) := by decide +kernel
theorem dX3_playWind_31 : decode cX3_playWind 31 = .ok (.bipush 11, 2) := by decide +kernel
theorem dX3_playWind_33 : decode cX3_playWind 33 = .ok (.if_icmp .gt 52, 3) := by decide +kernel
theorem dX3_playWind_36 : decode cX3_playWind 36 = .ok (.aload_n 0, 1) := by decide +kernel
theorem dX3_playWind_37 : decode cX3_playWind 37 = .ok (.getfield 21, 3) := by decide +kernel
theorem dX3_playWind_40 : decode cX3_playWind 40 = .ok (.getfield 43, 3) := by decide +kernel
theorem dX3_playWind_43 : decode cX3_playWind 43 = .ok (.iconst 2, 1) := by decide +kernel
theorem dX3_playWind_44 : decode cX3_playWind 44 = .ok (.iload_n 3, 1) := by decide +kernel
theorem dX3_playWind_45 : decode cX3_playWind 45 = .ok (.imul, 1) := by decide +kernel
theorem dX3_playWind_46 : decode cX3_playWind 46 = .ok (.isub, 1) := by decide +kernel
theorem dX3_playWind_47 : decode cX3_playWind 47 = .ok (.bipush 31, 2) := by decide +kernel
theorem dX3_playWind_49 : decode cX3_playWind 49 = .ok (.iand, 1) := by decide +kernel
theorem dX3_playWind_50 : decode cX3_playWind 50 = .ok (.istore 4, 2) := by decide +kernel
theorem dX3_playWind_52 : decode cX3_playWind 52 = .ok (.aload_n 0, 1) := by decide +kernel
theorem dX3_playWind_53 : decode cX3_playWind 53 = .ok (.getfield 21, 3) := by decide +kernel
theorem dX3_playWind_56 : decode cX3_playWind 56 = .ok (.getfield 46, 3) := by decide +kernel
theorem dX3_playWind_59 : decode cX3_playWind 59 = .ok (.iload 4, 2) := by decide +kernel
theorem dX3_playWind_61 : decode cX3_playWind 61 = .ok (.iaload, 1) := by decide +kernel
theorem dX3_playWind_62 : decode cX3_playWind 62 = .ok (.iload_n 3, 1) := by decide +kernel
theorem dX3_playWind_63 : decode cX3_playWind 63 = .ok (.if_icmp .ne 16, 3) := by decide +kernel
theorem dX3_playWind_66 : decode cX3_playWind 66 = .ok (.aload_n 0, 1) := by decide +kernel
theorem dX3_playWind_67 : decode cX3_playWind 67 = .ok (.getfield 21, 3) := by decide +kernel
theorem dX3_playWind_70 : decode cX3_playWind 70 = .ok (.aload_n 0, 1) := by decide +kernel
theorem dX3_playWind_71 : decode cX3_playWind 71 = .ok (.getfield 12, 3) := by decide +kernel
theorem dX3_playWind_74 : decode cX3_playWind 74 = .ok (.iload 4, 2) := by decide +kernel
theorem dX3_playWind_76 : decode cX3_playWind 76 = .ok (.invokevirtual 50, 3) := by decide +kernel
theorem dX3_playWind_79 : decode cX3_playWind 79 = .ok (.iinc 3 1, 3) := by decide +kernel
theorem dX3_playWind_82 : decode cX3_playWind 82 = .ok (.goto (-52), 3) := by decide +kernel
theorem dX3_playWind_85 : decode cX3_playWind 85 = .ok (.aload_n 0, 1) := by decide +kernel
theorem dX3_playWind_86 : decode cX3_playWind 86 = .ok (.getfield 21, 3) := by decide +kernel
theorem dX3_playWind_89 : decode cX3_playWind 89 = .ok (.aload_n 0, 1) := by decide +kernel
theorem dX3_playWind_90 : decode cX3_playWind 90 = .ok (.getfield 12, 3) := by decide +kernel
theorem dX3_playWind_93 : decode cX3_playWind 93 = .ok (.iload_n 1, 1) := by decide +kernel
theorem dX3_playWind_94 : decode cX3_playWind 94 = .ok (.invokevirtual 53, 3) := by decide +kernel
theorem dX3_playWind_97 : decode cX3_playWind 97 = .ok (.aload_n 0, 1) := by decide +kernel
theorem dX3_playWind_98 : decode cX3_playWind 98 = .ok (.getfield 21, 3) := by decide +kernel
theorem dX3_playWind_101 : decode cX3_playWind 101 = .ok (.getfield 32, 3) := by decide +kernel
theorem dX3_playWind_104 : decode cX3_playWind 104 = .ok (.aload_n 0, 1) := by decide +kernel
theorem dX3_playWind_105 : decode cX3_playWind 105 = .ok (.getfield 21, 3) := by decide +kernel
theorem dX3_playWind_108 : decode cX3_playWind 108 = .ok (.getfield 36, 3) := by decide +kernel
theorem dX3_playWind_111 : decode cX3_playWind 111 = .ok (.iadd, 1) := by decide +kernel
theorem dX3_playWind_112 : decode cX3_playWind 112 = .ok (.iload_n 2, 1) := by decide +kernel
theorem dX3_playWind_113 : decode cX3_playWind 113 = .ok (.isub, 1) := by decide +kernel
theorem dX3_playWind_114 : decode cX3_playWind 114 = .ok (.ireturn, 1) := by decide +kernel
theorem dX3_playRow_0 : decode cX3_playRow 0 = .ok (.iconst 0, 1) := by decide +kernel
theorem dX3_playRow_1 : decode cX3_playRow 1 = .ok (.istore_n 2, 1) := by decide +kernel
theorem dX3_playRow_2 : decode cX3_playRow 2 = .ok (.iconst 0, 1) := by decide +kernel
theorem dX3_playRow_3 : decode cX3_playRow 3 = .ok (.istore_n 3, 1) := by decide +kernel
theorem dX3_playRow_4 : decode cX3_playRow 4 = .ok (.iload_n 3, 1) := by decide +kernel
theorem dX3_playRow_5 : decode cX3_playRow 5 = .ok (.aload_n 1, 1) := by decide +kernel
theorem dX3_playRow_6 : decode cX3_playRow 6 = .ok (.getfield 56, 3) := by decide +kernel
theorem dX3_playRow_9 : decode cX3_playRow 9 = .ok (.if_icmp .ge 21, 3) := by decide +kernel
theorem dX3_playRow_12 : decode cX3_playRow 12 = .ok (.iload_n 2, 1) := by decide +kernel
theorem dX3_playRow_13 : decode cX3_playRow 13 = .ok (.aload_n 0, 1) := by decide +kernel
theorem dX3_playRow_14 : decode cX3_playRow 14 = .ok (.aload_n 1, 1) := by decide +kernel
theorem dX3_playRow_15 : decode cX3_playRow 15 = .ok (.iload_n 3, 1) := by decide +kernel
theorem dX3_playRow_16 : decode cX3_playRow 16 = .ok (.invokevirtual 61, 3) := by decide +kernel
theorem dX3_playRow_19 : decode cX3_playRow 19 = .ok (.invokevirtual 65, 3) := by decide +kernel
theorem dX3_playRow_22 : decode cX3_playRow 22 = .ok (.iadd, 1) := by decide +kernel
theorem dX3_playRow_23 : decode cX3_playRow 23 = .ok (.istore_n 2, 1) := by decide +kernel
theorem dX3_playRow_24 : decode cX3_playRow 24 = .ok (.iinc 3 1, 3) := by decide +kernel
theorem dX3_playRow_27 : decode cX3_playRow 27 = .ok (.goto (-23), 3) := by decide +kernel
theorem dX3_playRow_30 : decode cX3_playRow 30 = .ok (.iload_n 2, 1) := by decide +kernel
theorem dX3_playRow_31 : decode cX3_playRow 31 = .ok (.ireturn, 1) := by decide +kernel
theorem dX3_playGusts_0 : decode cX3_playGusts 0 = .ok (.iload_n 2, 1) := by decide +kernel
theorem dX3_playGusts_1 : decode cX3_playGusts 1 = .ok (.iload_n 2, 1) := by decide +kernel
theorem dX3_playGusts_2 : decode cX3_playGusts 2 = .ok (.bipush 10, 2) := by decide +kernel
theorem dX3_playGusts_4 : decode cX3_playGusts 4 = .ok (.irem, 1) := by decide +kernel
theorem dX3_playGusts_5 : decode cX3_playGusts 5 = .ok (.isub, 1) := by decide +kernel
theorem dX3_playGusts_6 : decode cX3_playGusts 6 = .ok (.bipush 9, 2) := by decide +kernel
theorem dX3_playGusts_8 : decode cX3_playGusts 8 = .ok (.iadd, 1) := by decide +kernel
theorem dX3_playGusts_9 : decode cX3_playGusts 9 = .ok (.istore 5, 2) := by decide +kernel
theorem dX3_playGusts_11 : decode cX3_playGusts 11 = .ok (.iload_n 1, 1) := by decide +kernel
theorem dX3_playGusts_12 : decode cX3_playGusts 12 = .ok (.i2l, 1) := by decide +kernel
theorem dX3_playGusts_13 : decode cX3_playGusts 13 = .ok (.lstore 6, 2) := by decide +kernel
theorem dX3_playGusts_15 : decode cX3_playGusts 15 = .ok (.iconst 0, 1) := by decide +kernel
theorem dX3_playGusts_16 : decode cX3_playGusts 16 = .ok (.istore 8, 2) := by decide +kernel
theorem dX3_playGusts_18 : decode cX3_playGusts 18 = .ok (.iconst 0, 1) := by decide +kernel
theorem dX3_playGusts_19 : decode cX3_playGusts 19 = .ok (.istore 9, 2) := by decide +kernel
theorem dX3_playGusts_21 : decode cX3_playGusts 21 = .ok (.iload 9, 2) := by decide +kernel
theorem dX3_playGusts_23 : decode cX3_playGusts 23 = .ok (.iload_n 3, 1) := by decide +kernel
theorem dX3_playGusts_24 : decode cX3_playGusts 24 = .ok (.if_icmp .ge 69, 3) := by decide +kernel
theorem dX3_playGusts_27 : decode cX3_playGusts 27 = .ok (.ldc2_w 68, 3) := by decide +kernel
theorem dX3_playGusts_30 : decode cX3_playGusts 30 = .ok (.lload 6, 2) := by decide +kernel
theorem dX3_playGusts_32 : decode cX3_playGusts 32 = .ok (.lmul, 1) := by decide +kernel
theorem dX3_playGusts_33 : decode cX3_playGusts 33 = .ok (.ldc2_w 70, 3) := by decide +kernel
theorem dX3_playGusts_36 : decode cX3_playGusts 36 = .ok (.ladd, 1) := by decide +kernel
theorem dX3_playGusts_37 : decode cX3_playGusts 37 = .ok (.ldc2_w 72, 3) := by decide +kernel
theorem dX3_playGusts_40 : decode cX3_playGusts 40 = .ok (.land, 1) := by decide +kernel
theorem dX3_playGusts_41 : decode cX3_playGusts 41 = .ok (.lstore 6, 2) := by decide +kernel
theorem dX3_playGusts_43 : decode cX3_playGusts 43 = .ok (.lload 6, 2) := by decide +kernel
theorem dX3_playGusts_45 : decode cX3_playGusts 45 = .ok (.ldc2_w 74, 3) := by decide +kernel
theorem dX3_playGusts_48 : decode cX3_playGusts 48 = .ok (.ldiv, 1) := by decide +kernel
theorem dX3_playGusts_49 : decode cX3_playGusts 49 = .ok (.ldc2_w 76, 3) := by decide +kernel
theorem dX3_playGusts_52 : decode cX3_playGusts 52 = .ok (.lrem, 1) := by decide +kernel
theorem dX3_playGusts_53 : decode cX3_playGusts 53 = .ok (.iload 4, 2) := by decide +kernel
theorem dX3_playGusts_55 : decode cX3_playGusts 55 = .ok (.i2l, 1) := by decide +kernel
theorem dX3_playGusts_56 : decode cX3_playGusts 56 = .ok (.lcmp, 1) := by decide +kernel
theorem dX3_playGusts_57 : decode cX3_playGusts 57 = .ok (.ifCond .ge 7, 3) := by decide +kernel
theorem dX3_playGusts_60 : decode cX3_playGusts 60 = .ok (.iconst 1, 1) := by decide +kernel
theorem dX3_playGusts_61 : decode cX3_playGusts 61 = .ok (.goto 4, 3) := by decide +kernel
theorem dX3_playGusts_64 : decode cX3_playGusts 64 = .ok (.iconst 0, 1) := by decide +kernel
theorem dX3_playGusts_65 : decode cX3_playGusts 65 = .ok (.istore 10, 2) := by decide +kernel
theorem dX3_playGusts_67 : decode cX3_playGusts 67 = .ok (.iload 8, 2) := by decide +kernel
theorem dX3_playGusts_69 : decode cX3_playGusts 69 = .ok (.aload_n 0, 1) := by decide +kernel
theorem dX3_playGusts_70 : decode cX3_playGusts 70 = .ok (.iload 10, 2) := by decide +kernel
theorem dX3_playGusts_72 : decode cX3_playGusts 72 = .ok (.ifCond .eq 8, 3) := by decide +kernel
theorem dX3_playGusts_75 : decode cX3_playGusts 75 = .ok (.iload 5, 2) := by decide +kernel
theorem dX3_playGusts_77 : decode cX3_playGusts 77 = .ok (.goto 4, 3) := by decide +kernel
theorem dX3_playGusts_80 : decode cX3_playGusts 80 = .ok (.iload_n 2, 1) := by decide +kernel
theorem dX3_playGusts_81 : decode cX3_playGusts 81 = .ok (.invokevirtual 65, 3) := by decide +kernel
theorem dX3_playGusts_84 : decode cX3_playGusts 84 = .ok (.iadd, 1) := by decide +kernel
theorem dX3_playGusts_85 : decode cX3_playGusts 85 = .ok (.istore 8, 2) := by decide +kernel
theorem dX3_playGusts_87 : decode cX3_playGusts 87 = .ok (.iinc 9 1, 3) := by decide +kernel
theorem dX3_playGusts_90 : decode cX3_playGusts 90 = .ok (.goto (-69), 3) := by decide +kernel
theorem dX3_playGusts_93 : decode cX3_playGusts 93 = .ok (.iload 8, 2) := by decide +kernel
theorem dX3_playGusts_95 : decode cX3_playGusts 95 = .ok (.ireturn, 1) := by decide +kernel
theorem dX3_tableWet_0 : decode cX3_tableWet 0 = .ok (.aload_n 0, 1) := by decide +kernel
theorem dX3_tableWet_1 : decode cX3_tableWet 1 = .ok (.getfield 21, 3) := by decide +kernel
theorem dX3_tableWet_4 : decode cX3_tableWet 4 = .ok (.aload_n 0, 1) := by decide +kernel
theorem dX3_tableWet_5 : decode cX3_tableWet 5 = .ok (.getfield 12, 3) := by decide +kernel
theorem dX3_tableWet_8 : decode cX3_tableWet 8 = .ok (.getfield 78, 3) := by decide +kernel
theorem dX3_tableWet_11 : decode cX3_tableWet 11 = .ok (.iload_n 1, 1) := by decide +kernel
theorem dX3_tableWet_12 : decode cX3_tableWet 12 = .ok (.iaload, 1) := by decide +kernel
theorem dX3_tableWet_13 : decode cX3_tableWet 13 = .ok (.aload_n 0, 1) := by decide +kernel
theorem dX3_tableWet_14 : decode cX3_tableWet 14 = .ok (.getfield 12, 3) := by decide +kernel
theorem dX3_tableWet_17 : decode cX3_tableWet 17 = .ok (.getfield 81, 3) := by decide +kernel
theorem dX3_tableWet_20 : decode cX3_tableWet 20 = .ok (.iload_n 1, 1) := by decide +kernel
theorem dX3_tableWet_21 : decode cX3_tableWet 21 = .ok (.iaload, 1) := by decide +kernel
theorem dX3_tableWet_22 : decode cX3_tableWet 22 = .ok (.invokevirtual 84, 3) := by decide +kernel
theorem dX3_tableWet_25 : decode cX3_tableWet 25 = .ok (.ireturn, 1) := by decide +kernel
theorem dX3_allTablesWet_0 : decode cX3_allTablesWet 0 = .ok (.iconst 0, 1) := by decide +kernel
theorem dX3_allTablesWet_1 : decode cX3_allTablesWet 1 = .ok (.istore_n 1, 1) := by decide +kernel
theorem dX3_allTablesWet_2 : decode cX3_allTablesWet 2 = .ok (.iconst 0, 1) := by decide +kernel
theorem dX3_allTablesWet_3 : decode cX3_allTablesWet 3 = .ok (.istore_n 2, 1) := by decide +kernel
theorem dX3_allTablesWet_4 : decode cX3_allTablesWet 4 = .ok (.iload_n 2, 1) := by decide +kernel
theorem dX3_allTablesWet_5 : decode cX3_allTablesWet 5 = .ok (.aload_n 0, 1) := by decide +kernel
theorem dX3_allTablesWet_6 : decode cX3_allTablesWet 6 = .ok (.getfield 12, 3) := by decide +kernel
theorem dX3_allTablesWet_9 : decode cX3_allTablesWet 9 = .ok (.getfield 88, 3) := by decide +kernel
theorem dX3_allTablesWet_12 : decode cX3_allTablesWet 12 = .ok (.if_icmp .ge 17, 3) := by decide +kernel
theorem dX3_allTablesWet_15 : decode cX3_allTablesWet 15 = .ok (.iload_n 1, 1) := by decide +kernel
theorem dX3_allTablesWet_16 : decode cX3_allTablesWet 16 = .ok (.aload_n 0, 1) := by decide +kernel
theorem dX3_allTablesWet_17 : decode cX3_allTablesWet 17 = .ok (.iload_n 2, 1) := by decide +kernel
theorem dX3_allTablesWet_18 : decode cX3_allTablesWet 18 = .ok (.invokevirtual 91, 3) := by decide +kernel
theorem dX3_allTablesWet_21 : decode cX3_allTablesWet 21 = .ok (.iadd, 1) := by decide +kernel
theorem dX3_allTablesWet_22 : decode cX3_allTablesWet 22 = .ok (.istore_n 1, 1) := by decide +kernel
theorem dX3_allTablesWet_23 : decode cX3_allTablesWet 23 = .ok (.iinc 2 1, 3) := by decide +kernel
theorem dX3_allTablesWet_26 : decode cX3_allTablesWet 26 = .ok (.goto (-22), 3) := by decide +kernel
theorem dX3_allTablesWet_29 : decode cX3_allTablesWet 29 = .ok (.iload_n 1, 1) := by decide +kernel
theorem dX3_allTablesWet_30 : decode cX3_allTablesWet 30 = .ok (.ireturn, 1) := by decide +kernel
theorem dX3_isOver_0 : decode cX3_isOver 0 = .ok (.aload_n 0, 1) := by decide +kernel
theorem dX3_isOver_1 : decode cX3_isOver 1 = .ok (.iload_n 1, 1) := by decide +kernel
theorem dX3_isOver_2 : decode cX3_isOver 2 = .ok (.invokevirtual 91, 3) := by decide +kernel
theorem dX3_isOver_5 : decode cX3_isOver 5 = .ok (.aload_n 0, 1) := by decide +kernel
theorem dX3_isOver_6 : decode cX3_isOver 6 = .ok (.getfield 12, 3) := by decide +kernel
theorem dX3_isOver_9 : decode cX3_isOver 9 = .ok (.getfield 94, 3) := by decide +kernel
theorem dX3_isOver_12 : decode cX3_isOver 12 = .ok (.iload_n 1, 1) := by decide +kernel
theorem dX3_isOver_13 : decode cX3_isOver 13 = .ok (.iaload, 1) := by decide +kernel
theorem dX3_isOver_14 : decode cX3_isOver 14 = .ok (.if_icmp .le 7, 3) := by decide +kernel
theorem dX3_isOver_17 : decode cX3_isOver 17 = .ok (.iconst 1, 1) := by decide +kernel
theorem dX3_isOver_18 : decode cX3_isOver 18 = .ok (.goto 4, 3) := by decide +kernel
theorem dX3_isOver_21 : decode cX3_isOver 21 = .ok (.iconst 0, 1) := by decide +kernel
theorem dX3_isOver_22 : decode cX3_isOver 22 = .ok (.ireturn, 1) := by decide +kernel
theorem dX3_tablesOver_0 : decode cX3_tablesOver 0 = .ok (.iconst 0, 1) := by decide +kernel
theorem dX3_tablesOver_1 : decode cX3_tablesOver 1 = .ok (.istore_n 1, 1) := by decide +kernel
theorem dX3_tablesOver_2 : decode cX3_tablesOver 2 = .ok (.iconst 0, 1) := by decide +kernel
theorem dX3_tablesOver_3 : decode cX3_tablesOver 3 = .ok (.istore_n 2, 1) := by decide +kernel
theorem dX3_tablesOver_4 : decode cX3_tablesOver 4 = .ok (.iload_n 2, 1) := by decide +kernel
theorem dX3_tablesOver_5 : decode cX3_tablesOver 5 = .ok (.aload_n 0, 1) := by decide +kernel
theorem dX3_tablesOver_6 : decode cX3_tablesOver 6 = .ok (.getfield 12, 3) := by decide +kernel
theorem dX3_tablesOver_9 : decode cX3_tablesOver 9 = .ok (.getfield 88, 3) := by decide +kernel
theorem dX3_tablesOver_12 : decode cX3_tablesOver 12 = .ok (.if_icmp .ge 23, 3) := by decide +kernel
theorem dX3_tablesOver_15 : decode cX3_tablesOver 15 = .ok (.aload_n 0, 1) := by decide +kernel
theorem dX3_tablesOver_16 : decode cX3_tablesOver 16 = .ok (.iload_n 2, 1) := by decide +kernel
theorem dX3_tablesOver_17 : decode cX3_tablesOver 17 = .ok (.invokevirtual 97, 3) := by decide +kernel
theorem dX3_tablesOver_20 : decode cX3_tablesOver 20 = .ok (.ifCond .eq 9, 3) := by decide +kernel
theorem dX3_tablesOver_23 : decode cX3_tablesOver 23 = .ok (.iload_n 1, 1) := by decide +kernel
theorem dX3_tablesOver_24 : decode cX3_tablesOver 24 = .ok (.iconst 1, 1) := by decide +kernel
theorem dX3_tablesOver_25 : decode cX3_tablesOver 25 = .ok (.iload_n 2, 1) := by decide +kernel
theorem dX3_tablesOver_26 : decode cX3_tablesOver 26 = .ok (.ishl, 1) := by decide +kernel
theorem dX3_tablesOver_27 : decode cX3_tablesOver 27 = .ok (.ior, 1) := by decide +kernel
theorem dX3_tablesOver_28 : decode cX3_tablesOver 28 = .ok (.istore_n 1, 1) := by decide +kernel
theorem dX3_tablesOver_29 : decode cX3_tablesOver 29 = .ok (.iinc 2 1, 3) := by decide +kernel
theorem dX3_tablesOver_32 : decode cX3_tablesOver 32 = .ok (.goto (-28), 3) := by decide +kernel
theorem dX3_tablesOver_35 : decode cX3_tablesOver 35 = .ok (.iload_n 1, 1) := by decide +kernel
theorem dX3_tablesOver_36 : decode cX3_tablesOver 36 = .ok (.ireturn, 1) := by decide +kernel
theorem dX3_roadWet_0 : decode cX3_roadWet 0 = .ok (.aload_n 0, 1) := by decide +kernel
theorem dX3_roadWet_1 : decode cX3_roadWet 1 = .ok (.getfield 12, 3) := by decide +kernel
theorem dX3_roadWet_4 : decode cX3_roadWet 4 = .ok (.getfield 101, 3) := by decide +kernel
theorem dX3_roadWet_7 : decode cX3_roadWet 7 = .ok (.iconst (-1), 1) := by decide +kernel
theorem dX3_roadWet_8 : decode cX3_roadWet 8 = .ok (.if_icmp .ne 5, 3) := by decide +kernel
theorem dX3_roadWet_11 : decode cX3_roadWet 11 = .ok (.iconst (-1), 1) := by decide +kernel
theorem dX3_roadWet_12 : decode cX3_roadWet 12 = .ok (.ireturn, 1) := by decide +kernel
theorem dX3_roadWet_13 : decode cX3_roadWet 13 = .ok (.iconst 0, 1) := by decide +kernel
theorem dX3_roadWet_14 : decode cX3_roadWet 14 = .ok (.istore_n 1, 1) := by decide +kernel
theorem dX3_roadWet_15 : decode cX3_roadWet 15 = .ok (.iconst 0, 1) := by decide +kernel
theorem dX3_roadWet_16 : decode cX3_roadWet 16 = .ok (.istore_n 2, 1) := by decide +kernel
theorem dX3_roadWet_17 : decode cX3_roadWet 17 = .ok (.iload_n 2, 1) := by decide +kernel
theorem dX3_roadWet_18 : decode cX3_roadWet 18 = .ok (.aload_n 0, 1) := by decide +kernel
theorem dX3_roadWet_19 : decode cX3_roadWet 19 = .ok (.getfield 12, 3) := by decide +kernel
theorem dX3_roadWet_22 : decode cX3_roadWet 22 = .ok (.getfield 104, 3) := by decide +kernel
theorem dX3_roadWet_25 : decode cX3_roadWet 25 = .ok (.if_icmp .ge 27, 3) := by decide +kernel
theorem dX3_roadWet_28 : decode cX3_roadWet 28 = .ok (.iload_n 1, 1) := by decide +kernel
theorem dX3_roadWet_29 : decode cX3_roadWet 29 = .ok (.aload_n 0, 1) := by decide +kernel
theorem dX3_roadWet_30 : decode cX3_roadWet 30 = .ok (.getfield 21, 3) := by decide +kernel
theorem dX3_roadWet_33 : decode cX3_roadWet 33 = .ok (.iload_n 2, 1) := by decide +kernel
theorem dX3_roadWet_34 : decode cX3_roadWet 34 = .ok (.aload_n 0, 1) := by decide +kernel
theorem dX3_roadWet_35 : decode cX3_roadWet 35 = .ok (.getfield 12, 3) := by decide +kernel
theorem dX3_roadWet_38 : decode cX3_roadWet 38 = .ok (.getfield 101, 3) := by decide +kernel
theorem dX3_roadWet_41 : decode cX3_roadWet 41 = .ok (.invokevirtual 84, 3) := by decide +kernel
theorem dX3_roadWet_44 : decode cX3_roadWet 44 = .ok (.iadd, 1) := by decide +kernel
theorem dX3_roadWet_45 : decode cX3_roadWet 45 = .ok (.istore_n 1, 1) := by decide +kernel
theorem dX3_roadWet_46 : decode cX3_roadWet 46 = .ok (.iinc 2 1, 3) := by decide +kernel
theorem dX3_roadWet_49 : decode cX3_roadWet 49 = .ok (.goto (-32), 3) := by decide +kernel
theorem dX3_roadWet_52 : decode cX3_roadWet 52 = .ok (.iload_n 1, 1) := by decide +kernel
theorem dX3_roadWet_53 : decode cX3_roadWet 53 = .ok (.ireturn, 1) := by decide +kernel
theorem dX3_dropsComing_0 : decode cX3_dropsComing 0 = .ok (.aload_n 0, 1) := by decide +kernel
theorem dX3_dropsComing_1 : decode cX3_dropsComing 1 = .ok (.getfield 12, 3) := by decide +kernel
theorem dX3_dropsComing_4 : decode cX3_dropsComing 4 = .ok (.iload_n 1, 1) := by decide +kernel
theorem dX3_dropsComing_5 : decode cX3_dropsComing 5 = .ok (.invokevirtual 107, 3) := by decide +kernel
theorem dX3_dropsComing_8 : decode cX3_dropsComing 8 = .ok (.istore_n 3, 1) := by decide +kernel
theorem dX3_dropsComing_9 : decode cX3_dropsComing 9 = .ok (.iconst 0, 1) := by decide +kernel
theorem dX3_dropsComing_10 : decode cX3_dropsComing 10 = .ok (.istore 4, 2) := by decide +kernel
theorem dX3_dropsComing_12 : decode cX3_dropsComing 12 = .ok (.iconst 0, 1) := by decide +kernel
theorem dX3_dropsComing_13 : decode cX3_dropsComing 13 = .ok (.istore 5, 2) := by decide +kernel
theorem dX3_dropsComing_15 : decode cX3_dropsComing 15 = .ok (.iload 5, 2) := by decide +kernel
theorem dX3_dropsComing_17 : decode cX3_dropsComing 17 = .ok (.bipush 32, 2) := by decide +kernel
theorem dX3_dropsComing_19 : decode cX3_dropsComing 19 = .ok (.if_icmp .ge 71, 3) := by decide +kernel
theorem dX3_dropsComing_22 : decode cX3_dropsComing 22 = .ok (.iconst 0, 1) := by decide +kernel
theorem dX3_dropsComing_23 : decode cX3_dropsComing 23 = .ok (.istore 6, 2) := by decide +kernel
theorem dX3_dropsComing_25 : decode cX3_dropsComing 25 = .ok (.iload 6, 2) := by decide +kernel
theorem dX3_dropsComing_27 : decode cX3_dropsComing 27 = .ok (.aload_n 0, 1) := by decide +kernel
theorem dX3_dropsComing_28 : decode cX3_dropsComing 28 = .ok (.getfield 12, 3) := by decide +kernel
theorem dX3_dropsComing_31 : decode cX3_dropsComing 31 = .ok (.getfield 110, 3) := by decide +kernel
theorem dX3_dropsComing_34 : decode cX3_dropsComing 34 = .ok (.if_icmp .ge 50, 3) := by decide +kernel
theorem dX3_dropsComing_37 : decode cX3_dropsComing 37 = .ok (.aload_n 0, 1) := by decide +kernel
theorem dX3_dropsComing_38 : decode cX3_dropsComing 38 = .ok (.getfield 21, 3) := by decide +kernel
theorem dX3_dropsComing_41 : decode cX3_dropsComing 41 = .ok (.getfield 46, 3) := by decide +kernel
theorem dX3_dropsComing_44 : decode cX3_dropsComing 44 = .ok (.iload 5, 2) := by decide +kernel
theorem dX3_dropsComing_46 : decode cX3_dropsComing 46 = .ok (.iaload, 1) := by decide +kernel
theorem dX3_dropsComing_47 : decode cX3_dropsComing 47 = .ok (.ifCond .le 31, 3) := by decide +kernel
theorem dX3_dropsComing_50 : decode cX3_dropsComing 50 = .ok (.aload_n 0, 1) := by decide +kernel
theorem dX3_dropsComing_51 : decode cX3_dropsComing 51 = .ok (.iload 5, 2) := by decide +kernel
theorem dX3_dropsComing_53 : decode cX3_dropsComing 53 = .ok (.iload 6, 2) := by decide +kernel
theorem dX3_dropsComing_55 : decode cX3_dropsComing 55 = .ok (.iload_n 2, 1) := by decide +kernel
theorem dX3_dropsComing_56 : decode cX3_dropsComing 56 = .ok (.invokevirtual 113, 3) := by decide +kernel
theorem dX3_dropsComing_59 : decode cX3_dropsComing 59 = .ok (.iload_n 3, 1) := by decide +kernel
theorem dX3_dropsComing_60 : decode cX3_dropsComing 60 = .ok (.if_icmp .ne 18, 3) := by decide +kernel
theorem dX3_dropsComing_63 : decode cX3_dropsComing 63 = .ok (.iload 4, 2) := by decide +kernel
theorem dX3_dropsComing_65 : decode cX3_dropsComing 65 = .ok (.aload_n 0, 1) := by decide +kernel
theorem dX3_dropsComing_66 : decode cX3_dropsComing 66 = .ok (.getfield 12, 3) := by decide +kernel
theorem dX3_dropsComing_69 : decode cX3_dropsComing 69 = .ok (.getfield 117, 3) := by decide +kernel
theorem dX3_dropsComing_72 : decode cX3_dropsComing 72 = .ok (.iload 6, 2) := by decide +kernel
theorem dX3_dropsComing_74 : decode cX3_dropsComing 74 = .ok (.iaload, 1) := by decide +kernel
theorem dX3_dropsComing_75 : decode cX3_dropsComing 75 = .ok (.iadd, 1) := by decide +kernel
theorem dX3_dropsComing_76 : decode cX3_dropsComing 76 = .ok (.istore 4, 2) := by decide +kernel
theorem dX3_dropsComing_78 : decode cX3_dropsComing 78 = .ok (.iinc 6 1, 3) := by decide +kernel
theorem dX3_dropsComing_81 : decode cX3_dropsComing 81 = .ok (.goto (-56), 3) := by decide +kernel
theorem dX3_dropsComing_84 : decode cX3_dropsComing 84 = .ok (.iinc 5 1, 3) := by decide +kernel
theorem dX3_dropsComing_87 : decode cX3_dropsComing 87 = .ok (.goto (-72), 3) := by decide +kernel
theorem dX3_dropsComing_90 : decode cX3_dropsComing 90 = .ok (.iload 4, 2) := by decide +kernel
theorem dX3_dropsComing_92 : decode cX3_dropsComing 92 = .ok (.ireturn, 1) := by decide +kernel
theorem dX3_dropsStraying_0 : decode cX3_dropsStraying 0 = .ok (.iconst 0, 1) := by decide +kernel
theorem dX3_dropsStraying_1 : decode cX3_dropsStraying 1 = .ok (.istore_n 2, 1) := by decide +kernel
theorem dX3_dropsStraying_2 : decode cX3_dropsStraying 2 = .ok (.iconst 0, 1) := by decide +kernel
theorem dX3_dropsStraying_3 : decode cX3_dropsStraying 3 = .ok (.istore_n 3, 1) := by decide +kernel
theorem dX3_dropsStraying_4 : decode cX3_dropsStraying 4 = .ok (.iload_n 3, 1) := by decide +kernel
theorem dX3_dropsStraying_5 : decode cX3_dropsStraying 5 = .ok (.bipush 32, 2) := by decide +kernel
theorem dX3_dropsStraying_7 : decode cX3_dropsStraying 7 = .ok (.if_icmp .ge 68, 3) := by decide +kernel
theorem dX3_dropsStraying_10 : decode cX3_dropsStraying 10 = .ok (.iconst 0, 1) := by decide +kernel
theorem dX3_dropsStraying_11 : decode cX3_dropsStraying 11 = .ok (.istore 4, 2) := by decide +kernel
theorem dX3_dropsStraying_13 : decode cX3_dropsStraying 13 = .ok (.iload 4, 2) := by decide +kernel
theorem dX3_dropsStraying_15 : decode cX3_dropsStraying 15 = .ok (.aload_n 0, 1) := by decide +kernel
theorem dX3_dropsStraying_16 : decode cX3_dropsStraying 16 = .ok (.getfield 12, 3) := by decide +kernel
theorem dX3_dropsStraying_19 : decode cX3_dropsStraying 19 = .ok (.getfield 110, 3) := by decide +kernel
theorem dX3_dropsStraying_22 : decode cX3_dropsStraying 22 = .ok (.if_icmp .ge 47, 3) := by decide +kernel
theorem dX3_dropsStraying_25 : decode cX3_dropsStraying 25 = .ok (.aload_n 0, 1) := by decide +kernel
theorem dX3_dropsStraying_26 : decode cX3_dropsStraying 26 = .ok (.getfield 21, 3) := by decide +kernel
theorem dX3_dropsStraying_29 : decode cX3_dropsStraying 29 = .ok (.getfield 46, 3) := by decide +kernel
theorem dX3_dropsStraying_32 : decode cX3_dropsStraying 32 = .ok (.iload_n 3, 1) := by decide +kernel
theorem dX3_dropsStraying_33 : decode cX3_dropsStraying 33 = .ok (.iaload, 1) := by decide +kernel
theorem dX3_dropsStraying_34 : decode cX3_dropsStraying 34 = .ok (.ifCond .le 29, 3) := by decide +kernel
theorem dX3_dropsStraying_37 : decode cX3_dropsStraying 37 = .ok (.aload_n 0, 1) := by decide +kernel
theorem dX3_dropsStraying_38 : decode cX3_dropsStraying 38 = .ok (.iload_n 3, 1) := by decide +kernel
theorem dX3_dropsStraying_39 : decode cX3_dropsStraying 39 = .ok (.iload 4, 2) := by decide +kernel
theorem dX3_dropsStraying_41 : decode cX3_dropsStraying 41 = .ok (.iload_n 1, 1) := by decide +kernel
theorem dX3_dropsStraying_42 : decode cX3_dropsStraying 42 = .ok (.invokevirtual 113, 3) := by decide +kernel
theorem dX3_dropsStraying_45 : decode cX3_dropsStraying 45 = .ok (.bipush (-3), 2) := by decide +kernel
theorem dX3_dropsStraying_47 : decode cX3_dropsStraying 47 = .ok (.if_icmp .eq 16, 3) := by decide +kernel
theorem dX3_dropsStraying_50 : decode cX3_dropsStraying 50 = .ok (.iload_n 2, 1) := by decide +kernel
theorem dX3_dropsStraying_51 : decode cX3_dropsStraying 51 = .ok (.aload_n 0, 1) := by decide +kernel
theorem dX3_dropsStraying_52 : decode cX3_dropsStraying 52 = .ok (.getfield 12, 3) := by decide +kernel
theorem dX3_dropsStraying_55 : decode cX3_dropsStraying 55 = .ok (.getfield 117, 3) := by decide +kernel
theorem dX3_dropsStraying_58 : decode cX3_dropsStraying 58 = .ok (.iload 4, 2) := by decide +kernel
theorem dX3_dropsStraying_60 : decode cX3_dropsStraying 60 = .ok (.iaload, 1) := by decide +kernel
theorem dX3_dropsStraying_61 : decode cX3_dropsStraying 61 = .ok (.iadd, 1) := by decide +kernel
theorem dX3_dropsStraying_62 : decode cX3_dropsStraying 62 = .ok (.istore_n 2, 1) := by decide +kernel
theorem dX3_dropsStraying_63 : decode cX3_dropsStraying 63 = .ok (.iinc 4 1, 3) := by decide +kernel
theorem dX3_dropsStraying_66 : decode cX3_dropsStraying 66 = .ok (.goto (-53), 3) := by decide +kernel
theorem dX3_dropsStraying_69 : decode cX3_dropsStraying 69 = .ok (.iinc 3 1, 3) := by decide +kernel
theorem dX3_dropsStraying_72 : decode cX3_dropsStraying 72 = .ok (.goto (-68), 3) := by decide +kernel
theorem dX3_dropsStraying_75 : decode cX3_dropsStraying 75 = .ok (.iload_n 2, 1) := by decide +kernel
theorem dX3_dropsStraying_76 : decode cX3_dropsStraying 76 = .ok (.ireturn, 1) := by decide +kernel
theorem dX3_lastComing_0 : decode cX3_lastComing 0 = .ok (.aload_n 0, 1) := by decide +kernel
theorem dX3_lastComing_1 : decode cX3_lastComing 1 = .ok (.getfield 12, 3) := by decide +kernel
theorem dX3_lastComing_4 : decode cX3_lastComing 4 = .ok (.iload_n 1, 1) := by decide +kernel
theorem dX3_lastComing_5 : decode cX3_lastComing 5 = .ok (.invokevirtual 107, 3) := by decide +kernel
theorem dX3_lastComing_8 : decode cX3_lastComing 8 = .ok (.istore_n 3, 1) := by decide +kernel
theorem dX3_lastComing_9 : decode cX3_lastComing 9 = .ok (.iconst 0, 1) := by decide +kernel
theorem dX3_lastComing_10 : decode cX3_lastComing 10 = .ok (.istore 4, 2) := by decide +kernel
theorem dX3_lastComing_12 : decode cX3_lastComing 12 = .ok (.iconst 0, 1) := by decide +kernel
theorem dX3_lastComing_13 : decode cX3_lastComing 13 = .ok (.istore 5, 2) := by decide +kernel
theorem dX3_lastComing_15 : decode cX3_lastComing 15 = .ok (.iload 5, 2) := by decide +kernel
theorem dX3_lastComing_17 : decode cX3_lastComing 17 = .ok (.bipush 32, 2) := by decide +kernel
theorem dX3_lastComing_19 : decode cX3_lastComing 19 = .ok (.if_icmp .ge 72, 3) := by decide +kernel
theorem dX3_lastComing_22 : decode cX3_lastComing 22 = .ok (.iconst 0, 1) := by decide +kernel
theorem dX3_lastComing_23 : decode cX3_lastComing 23 = .ok (.istore 6, 2) := by decide +kernel
theorem dX3_lastComing_25 : decode cX3_lastComing 25 = .ok (.iload 6, 2) := by decide +kernel
theorem dX3_lastComing_27 : decode cX3_lastComing 27 = .ok (.aload_n 0, 1) := by decide +kernel
theorem dX3_lastComing_28 : decode cX3_lastComing 28 = .ok (.getfield 12, 3) := by decide +kernel
theorem dX3_lastComing_31 : decode cX3_lastComing 31 = .ok (.getfield 110, 3) := by decide +kernel
theorem dX3_lastComing_34 : decode cX3_lastComing 34 = .ok (.if_icmp .ge 51, 3) := by decide +kernel
theorem dX3_lastComing_37 : decode cX3_lastComing 37 = .ok (.aload_n 0, 1) := by decide +kernel
theorem dX3_lastComing_38 : decode cX3_lastComing 38 = .ok (.getfield 21, 3) := by decide +kernel
theorem dX3_lastComing_41 : decode cX3_lastComing 41 = .ok (.getfield 46, 3) := by decide +kernel
theorem dX3_lastComing_44 : decode cX3_lastComing 44 = .ok (.iload 5, 2) := by decide +kernel
theorem dX3_lastComing_46 : decode cX3_lastComing 46 = .ok (.iaload, 1) := by decide +kernel
theorem dX3_lastComing_47 : decode cX3_lastComing 47 = .ok (.ifCond .le 32, 3) := by decide +kernel
theorem dX3_lastComing_50 : decode cX3_lastComing 50 = .ok (.aload_n 0, 1) := by decide +kernel
theorem dX3_lastComing_51 : decode cX3_lastComing 51 = .ok (.iload 5, 2) := by decide +kernel
theorem dX3_lastComing_53 : decode cX3_lastComing 53 = .ok (.iload 6, 2) := by decide +kernel
theorem dX3_lastComing_55 : decode cX3_lastComing 55 = .ok (.iload_n 2, 1) := by decide +kernel
theorem dX3_lastComing_56 : decode cX3_lastComing 56 = .ok (.invokevirtual 113, 3) := by decide +kernel
theorem dX3_lastComing_59 : decode cX3_lastComing 59 = .ok (.iload_n 3, 1) := by decide +kernel
theorem dX3_lastComing_60 : decode cX3_lastComing 60 = .ok (.if_icmp .ne 19, 3) := by decide +kernel
theorem dX3_lastComing_63 : decode cX3_lastComing 63 = .ok (.iload 4, 2) := by decide +kernel
theorem dX3_lastComing_65 : decode cX3_lastComing 65 = .ok (.aload_n 0, 1) := by decide +kernel
theorem dX3_lastComing_66 : decode cX3_lastComing 66 = .ok (.getfield 21, 3) := by decide +kernel
theorem dX3_lastComing_69 : decode cX3_lastComing 69 = .ok (.iload 5, 2) := by decide +kernel
theorem dX3_lastComing_71 : decode cX3_lastComing 71 = .ok (.invokevirtual 120, 3) := by decide +kernel
theorem dX3_lastComing_74 : decode cX3_lastComing 74 = .ok (.invokestatic 123, 3) := by decide +kernel
theorem dX3_lastComing_77 : decode cX3_lastComing 77 = .ok (.istore 4, 2) := by decide +kernel
theorem dX3_lastComing_79 : decode cX3_lastComing 79 = .ok (.iinc 6 1, 3) := by decide +kernel
theorem dX3_lastComing_82 : decode cX3_lastComing 82 = .ok (.goto (-57), 3) := by decide +kernel
theorem dX3_lastComing_85 : decode cX3_lastComing 85 = .ok (.iinc 5 1, 3) := by decide +kernel
theorem dX3_lastComing_88 : decode cX3_lastComing 88 = .ok (.goto (-73), 3) := by decide +kernel
theorem dX3_lastComing_91 : decode cX3_lastComing 91 = .ok (.iload 4, 2) := by decide +kernel
theorem dX3_lastComing_93 : decode cX3_lastComing 93 = .ok (.ireturn, 1) := by decide +kernel
theorem dX3_placeBy_0 : decode cX3_placeBy 0 = .ok (.aload_n 0, 1) := by decide +kernel
theorem dX3_placeBy_1 : decode cX3_placeBy 1 = .ok (.getfield 21, 3) := by decide +kernel
theorem dX3_placeBy_4 : decode cX3_placeBy 4 = .ok (.iload_n 1, 1) := by decide +kernel
theorem dX3_placeBy_5 : decode cX3_placeBy 5 = .ok (.invokevirtual 120, 3) := by decide +kernel
theorem dX3_placeBy_8 : decode cX3_placeBy 8 = .ok (.iload_n 3, 1) := by decide +kernel
theorem dX3_placeBy_9 : decode cX3_placeBy 9 = .ok (.bipush 10, 2) := by decide +kernel
theorem dX3_placeBy_11 : decode cX3_placeBy 11 = .ok (.irem, 1) := by decide +kernel
theorem dX3_placeBy_12 : decode cX3_placeBy 12 = .ok (.imul, 1) := by decide +kernel
theorem dX3_placeBy_13 : decode cX3_placeBy 13 = .ok (.istore 4, 2) := by decide +kernel
theorem dX3_placeBy_15 : decode cX3_placeBy 15 = .ok (.iload_n 3, 1) := by decide +kernel
theorem dX3_placeBy_16 : decode cX3_placeBy 16 = .ok (.bipush 10, 2) := by decide +kernel
theorem dX3_placeBy_18 : decode cX3_placeBy 18 = .ok (.idiv, 1) := by decide +kernel
theorem dX3_placeBy_19 : decode cX3_placeBy 19 = .ok (.istore 5, 2) := by decide +kernel
theorem dX3_placeBy_21 : decode cX3_placeBy 21 = .ok (.aload_n 0, 1) := by decide +kernel
theorem dX3_placeBy_22 : decode cX3_placeBy 22 = .ok (.getfield 21, 3) := by decide +kernel
theorem dX3_placeBy_25 : decode cX3_placeBy 25 = .ok (.aload_n 0, 1) := by decide +kernel
theorem dX3_placeBy_26 : decode cX3_placeBy 26 = .ok (.getfield 12, 3) := by decide +kernel
theorem dX3_placeBy_29 : decode cX3_placeBy 29 = .ok (.iload_n 1, 1) := by decide +kernel
theorem dX3_placeBy_30 : decode cX3_placeBy 30 = .ok (.iload_n 2, 1) := by decide +kernel
theorem dX3_placeBy_31 : decode cX3_placeBy 31 = .ok (.iload 4, 2) := by decide +kernel
theorem dX3_placeBy_33 : decode cX3_placeBy 33 = .ok (.getstatic 128, 3) := by decide +kernel
theorem dX3_placeBy_36 : decode cX3_placeBy 36 = .ok (.iload 5, 2) := by decide +kernel
theorem dX3_placeBy_38 : decode cX3_placeBy 38 = .ok (.iaload, 1) := by decide +kernel
theorem dX3_placeBy_39 : decode cX3_placeBy 39 = .ok (.imul, 1) := by decide +kernel
theorem dX3_placeBy_40 : decode cX3_placeBy 40 = .ok (.iload 4, 2) := by decide +kernel
theorem dX3_placeBy_42 : decode cX3_placeBy 42 = .ok (.getstatic 131, 3) := by decide +kernel
theorem dX3_placeBy_45 : decode cX3_placeBy 45 = .ok (.iload 5, 2) := by decide +kernel
theorem dX3_placeBy_47 : decode cX3_placeBy 47 = .ok (.iaload, 1) := by decide +kernel
theorem dX3_placeBy_48 : decode cX3_placeBy 48 = .ok (.imul, 1) := by decide +kernel
theorem dX3_placeBy_49 : decode cX3_placeBy 49 = .ok (.invokevirtual 134, 3) := by decide +kernel
theorem dX3_placeBy_52 : decode cX3_placeBy 52 = .ok (.ireturn, 1) := by decide +kernel
theorem dX4_init_0 : decode cX4_init 0 = .ok (.aload_n 0, 1) := by decide +kernel
theorem dX4_init_1 : decode cX4_init 1 = .ok (.invokespecial 3, 3) := by decide +kernel
theorem dX4_init_4 : decode cX4_init 4 = .ok (.aload_n 0, 1) := by decide +kernel
theorem dX4_init_5 : decode cX4_init 5 = .ok (.sipush 1600, 3) := by decide +kernel
theorem dX4_init_8 : decode cX4_init 8 = .ok (.newarray .byte, 2) := by decide +kernel
theorem dX4_init_10 : decode cX4_init 10 = .ok (.putfield 9, 3) := by decide +kernel
theorem dX4_init_13 : decode cX4_init 13 = .ok (.return_, 1) := by decide +kernel
theorem dX4_append_0 : decode cX4_append 0 = .ok (.bipush 24, 2) := by decide +kernel
theorem dX4_append_2 : decode cX4_append 2 = .ok (.istore_n 2, 1) := by decide +kernel
theorem dX4_append_3 : decode cX4_append 3 = .ok (.iload_n 2, 1) := by decide +kernel
theorem dX4_append_4 : decode cX4_append 4 = .ok (.ifCond .lt 42, 3) := by decide +kernel
theorem dX4_append_7 : decode cX4_append 7 = .ok (.aload_n 0, 1) := by decide +kernel
theorem dX4_append_8 : decode cX4_append 8 = .ok (.getfield 15, 3) := by decide +kernel
theorem dX4_append_11 : decode cX4_append 11 = .ok (.sipush 1600, 3) := by decide +kernel
theorem dX4_append_14 : decode cX4_append 14 = .ok (.if_icmp .ge 32, 3) := by decide +kernel
theorem dX4_append_17 : decode cX4_append 17 = .ok (.aload_n 0, 1) := by decide +kernel
theorem dX4_append_18 : decode cX4_append 18 = .ok (.getfield 9, 3) := by decide +kernel
theorem dX4_append_21 : decode cX4_append 21 = .ok (.aload_n 0, 1) := by decide +kernel
theorem dX4_append_22 : decode cX4_append 22 = .ok (.getfield 15, 3) := by decide +kernel
theorem dX4_append_25 : decode cX4_append 25 = .ok (.iload_n 1, 1) := by decide +kernel
theorem dX4_append_26 : decode cX4_append 26 = .ok (.iload_n 2, 1) := by decide +kernel
theorem dX4_append_27 : decode cX4_append 27 = .ok (.ishr, 1) := by decide +kernel
theorem dX4_append_28 : decode cX4_append 28 = .ok (.i2b, 1) := by decide +kernel
theorem dX4_append_29 : decode cX4_append 29 = .ok (.bastore, 1) := by decide +kernel
theorem dX4_append_30 : decode cX4_append 30 = .ok (.aload_n 0, 1) := by decide +kernel
theorem dX4_append_31 : decode cX4_append 31 = .ok (.dup, 1) := by decide +kernel
theorem dX4_append_32 : decode cX4_append 32 = .ok (.getfield 15, 3) := by decide +kernel
theorem dX4_append_35 : decode cX4_append 35 = .ok (.iconst 1, 1) := by decide +kernel
theorem dX4_append_36 : decode cX4_append 36 = .ok (.iadd, 1) := by decide +kernel
theorem dX4_append_37 : decode cX4_append 37 = .ok (.putfield 15, 3) := by decide +kernel
theorem dX4_append_40 : decode cX4_append 40 = .ok (.iinc 2 (-8), 3) := by decide +kernel
theorem dX4_append_43 : decode cX4_append 43 = .ok (.goto (-40), 3) := by decide +kernel
theorem dX4_append_46 : decode cX4_append 46 = .ok (.return_, 1) := by decide +kernel
theorem dX4_rewind_0 : decode cX4_rewind 0 = .ok (.aload_n 0, 1) := by decide +kernel
theorem dX4_rewind_1 : decode cX4_rewind 1 = .ok (.iconst 0, 1) := by decide +kernel
theorem dX4_rewind_2 : decode cX4_rewind 2 = .ok (.putfield 19, 3) := by decide +kernel
theorem dX4_rewind_5 : decode cX4_rewind 5 = .ok (.aload_n 0, 1) := by decide +kernel
theorem dX4_rewind_6 : decode cX4_rewind 6 = .ok (.invokevirtual 22, 3) := by decide +kernel
theorem dX4_rewind_9 : decode cX4_rewind 9 = .ok (.return_, 1) := by decide +kernel
theorem dX4_step_0 : decode cX4_step 0 = .ok (.aload_n 0, 1) := by decide +kernel
theorem dX4_step_1 : decode cX4_step 1 = .ok (.getfield 19, 3) := by decide +kernel
theorem dX4_step_4 : decode cX4_step 4 = .ok (.istore_n 1, 1) := by decide +kernel
theorem dX4_step_5 : decode cX4_step 5 = .ok (.iload_n 1, 1) := by decide +kernel
theorem dX4_step_6 : decode cX4_step 6 = .ok (.aload_n 0, 1) := by decide +kernel
theorem dX4_step_7 : decode cX4_step 7 = .ok (.getfield 15, 3) := by decide +kernel
theorem dX4_step_10 : decode cX4_step 10 = .ok (.if_icmp .ge 31, 3) := by decide +kernel
theorem dX4_step_13 : decode cX4_step 13 = .ok (.aload_n 0, 1) := by decide +kernel
theorem dX4_step_14 : decode cX4_step 14 = .ok (.getfield 9, 3) := by decide +kernel
theorem dX4_step_17 : decode cX4_step 17 = .ok (.iload_n 1, 1) := by decide +kernel
theorem dX4_step_18 : decode cX4_step 18 = .ok (.baload, 1) := by decide +kernel
theorem dX4_step_19 : decode cX4_step 19 = .ok (.bipush 32, 2) := by decide +kernel
theorem dX4_step_21 : decode cX4_step 21 = .ok (.if_icmp .eq 14, 3) := by decide +kernel
theorem dX4_step_24 : decode cX4_step 24 = .ok (.aload_n 0, 1) := by decide +kernel
theorem dX4_step_25 : decode cX4_step 25 = .ok (.getfield 9, 3) := by decide +kernel
theorem dX4_step_28 : decode cX4_step 28 = .ok (.iload_n 1, 1) := by decide +kernel
theorem dX4_step_29 : decode cX4_step 29 = .ok (.baload, 1) := by decide +kernel
theorem dX4_step_30 : decode cX4_step 30 = .ok (.bipush 10, 2) := by decide +kernel
theorem dX4_step_32 : decode cX4_step 32 = .ok (.if_icmp .ne 9, 3) := by decide +kernel
theorem dX4_step_35 : decode cX4_step 35 = .ok (.iinc 1 1, 3) := by decide +kernel
theorem dX4_step_38 : decode cX4_step 38 = .ok (.goto (-33), 3) := by decide +kernel
theorem dX4_step_41 : decode cX4_step 41 = .ok (.aload_n 0, 1) := by decide +kernel
theorem dX4_step_42 : decode cX4_step 42 = .ok (.iload_n 1, 1) := by decide +kernel
theorem dX4_step_43 : decode cX4_step 43 = .ok (.putfield 25, 3) := by decide +kernel
theorem dX4_step_46 : decode cX4_step 46 = .ok (.aload_n 0, 1) := by decide +kernel
theorem dX4_step_47 : decode cX4_step 47 = .ok (.aload_n 0, 1) := by decide +kernel
theorem dX4_step_48 : decode cX4_step 48 = .ok (.iload_n 1, 1) := by decide +kernel
theorem dX4_step_49 : decode cX4_step 49 = .ok (.invokevirtual 28, 3) := by decide +kernel
theorem dX4_step_52 : decode cX4_step 52 = .ok (.putfield 32, 3) := by decide +kernel
theorem dX4_step_55 : decode cX4_step 55 = .ok (.aload_n 0, 1) := by decide +kernel
theorem dX4_step_56 : decode cX4_step 56 = .ok (.getfield 32, 3) := by decide +kernel
theorem dX4_step_59 : decode cX4_step 59 = .ok (.iconst 1, 1) := by decide +kernel
theorem dX4_step_60 : decode cX4_step 60 = .ok (.if_icmp .eq 11, 3) := by decide +kernel
theorem dX4_step_63 : decode cX4_step 63 = .ok (.aload_n 0, 1) := by decide +kernel
theorem dX4_step_64 : decode cX4_step 64 = .ok (.getfield 32, 3) := by decide +kernel
theorem dX4_step_67 : decode cX4_step 67 = .ok (.iconst 2, 1) := by decide +kernel
theorem dX4_step_68 : decode cX4_step 68 = .ok (.if_icmp .ne 29, 3) := by decide +kernel
theorem dX4_step_71 : decode cX4_step 71 = .ok (.iload_n 1, 1) := by decide +kernel
theorem dX4_step_72 : decode cX4_step 72 = .ok (.aload_n 0, 1) := by decide +kernel
theorem dX4_step_73 : decode cX4_step 73 = .ok (.getfield 15, 3) := by decide +kernel
theorem dX4_step_76 : decode cX4_step 76 = .ok (.if_icmp .ge 31, 3) := by decide +kernel
theorem dX4_step_79 : decode cX4_step 79 = .ok (.aload_n 0, 1) := by decide +kernel
theorem dX4_step_80 : decode cX4_step 80 = .ok (.iload_n 1, 1) := by decide +kernel
theorem dX4_step_81 : decode cX4_step 81 = .ok (.invokevirtual 28, 3) := by decide +kernel
theorem dX4_step_84 : decode cX4_step 84 = .ok (.aload_n 0, 1) := by decide +kernel
theorem dX4_step_85 : decode cX4_step 85 = .ok (.getfield 32, 3) := by decide +kernel
theorem dX4_step_88 : decode cX4_step 88 = .ok (.if_icmp .ne 19, 3) := by decide +kernel
theorem dX4_step_91 : decode cX4_step 91 = .ok (.iinc 1 1, 3) := by decide +kernel
theorem dX4_step_94 : decode cX4_step 94 = .ok (.goto (-23), 3) := by decide +kernel
theorem dX4_step_97 : decode cX4_step 97 = .ok (.aload_n 0, 1) := by decide +kernel
theorem dX4_step_98 : decode cX4_step 98 = .ok (.getfield 32, 3) := by decide +kernel
theorem dX4_step_101 : decode cX4_step 101 = .ok (.ifCond .eq 6, 3) := by decide +kernel
theorem dX4_step_104 : decode cX4_step 104 = .ok (.iinc 1 1, 3) := by decide +kernel
theorem dX4_step_107 : decode cX4_step 107 = .ok (.aload_n 0, 1) := by decide +kernel
theorem dX4_step_108 : decode cX4_step 108 = .ok (.iload_n 1, 1) := by decide +kernel
theorem dX4_step_109 : decode cX4_step 109 = .ok (.putfield 19, 3) := by decide +kernel
theorem dX4_step_112 : decode cX4_step 112 = .ok (.return_, 1) := by decide +kernel
theorem dX4_kindAt_0 : decode cX4_kindAt 0 = .ok (.iload_n 1, 1) := by decide +kernel
theorem dX4_kindAt_1 : decode cX4_kindAt 1 = .ok (.aload_n 0, 1) := by decide +kernel
theorem dX4_kindAt_2 : decode cX4_kindAt 2 = .ok (.getfield 15, 3) := by decide +kernel
theorem dX4_kindAt_5 : decode cX4_kindAt 5 = .ok (.if_icmp .lt 5, 3) := by decide +kernel
theorem dX4_kindAt_8 : decode cX4_kindAt 8 = .ok (.iconst 0, 1) := by decide +kernel
theorem dX4_kindAt_9 : decode cX4_kindAt 9 = .ok (.ireturn, 1) := by decide +kernel
theorem dX4_kindAt_10 : decode cX4_kindAt 10 = .ok (.aload_n 0, 1) := by decide +kernel
theorem dX4_kindAt_11 : decode cX4_kindAt 11 = .ok (.getfield 9, 3) := by decide +kernel
theorem dX4_kindAt_14 : decode cX4_kindAt 14 = .ok (.iload_n 1, 1) := by decide +kernel
theorem dX4_kindAt_15 : decode cX4_kindAt 15 = .ok (.baload, 1) := by decide +kernel
theorem dX4_kindAt_16 : decode cX4_kindAt 16 = .ok (.istore_n 2, 1) := by decide +kernel
theorem dX4_kindAt_17 : decode cX4_kindAt 17 = .ok (.iload_n 2, 1) := by decide +kernel
theorem dX4_kindAt_18 : decode cX4_kindAt 18 = .ok (.bipush 97, 2) := by decide +kernel
theorem dX4_kindAt_20 : decode cX4_kindAt 20 = .ok (.if_icmp .lt 11, 3) := by decide +kernel
theorem dX4_kindAt_23 : decode cX4_kindAt 23 = .ok (.iload_n 2, 1) := by decide +kernel
theorem dX4_kindAt_24 : decode cX4_kindAt 24 = .ok (.bipush 122, 2) := by decide +kernel
theorem dX4_kindAt_26 : decode cX4_kindAt 26 = .ok (.if_icmp .gt 5, 3) := by decide +kernel
theorem dX4_kindAt_29 : decode cX4_kindAt 29 = .ok (.iconst 1, 1) := by decide +kernel
theorem dX4_kindAt_30 : decode cX4_kindAt 30 = .ok (.ireturn, 1) := by decide +kernel
theorem dX4_kindAt_31 : decode cX4_kindAt 31 = .ok (.iload_n 2, 1) := by decide +kernel
theorem dX4_kindAt_32 : decode cX4_kindAt 32 = .ok (.bipush 48, 2) := by decide +kernel
theorem dX4_kindAt_34 : decode cX4_kindAt 34 = .ok (.if_icmp .lt 11, 3) := by decide +kernel
theorem dX4_kindAt_37 : decode cX4_kindAt 37 = .ok (.iload_n 2, 1) := by decide +kernel
theorem dX4_kindAt_38 : decode cX4_kindAt 38 = .ok (.bipush 57, 2) := by decide +kernel
theorem dX4_kindAt_40 : decode cX4_kindAt 40 = .ok (.if_icmp .gt 5, 3) := by decide +kernel
theorem dX4_kindAt_43 : decode cX4_kindAt 43 = .ok (.iconst 2, 1) := by decide +kernel
theorem dX4_kindAt_44 : decode cX4_kindAt 44 = .ok (.ireturn, 1) := by decide +kernel
theorem dX4_kindAt_45 : decode cX4_kindAt 45 = .ok (.iload_n 2, 1) := by decide +kernel
theorem dX4_kindAt_46 : decode cX4_kindAt 46 = .ok (.bipush 59, 2) := by decide +kernel
theorem dX4_kindAt_48 : decode cX4_kindAt 48 = .ok (.if_icmp .ne 7, 3) := by decide +kernel
theorem dX4_kindAt_51 : decode cX4_kindAt 51 = .ok (.iconst 3, 1) := by decide +kernel
theorem dX4_kindAt_52 : decode cX4_kindAt 52 = .ok (.goto 4, 3) := by decide +kernel
theorem dX4_kindAt_55 : decode cX4_kindAt 55 = .ok (.iconst 4, 1) := by decide +kernel
theorem dX4_kindAt_56 : decode cX4_kindAt 56 = .ok (.ireturn, 1) := by decide +kernel
theorem dX4_isWord_0 : decode cX4_isWord 0 = .ok (.aload_n 0, 1) := by decide +kernel
theorem dX4_isWord_1 : decode cX4_isWord 1 = .ok (.getfield 32, 3) := by decide +kernel
theorem dX4_isWord_4 : decode cX4_isWord 4 = .ok (.iconst 1, 1) := by decide +kernel
theorem dX4_isWord_5 : decode cX4_isWord 5 = .ok (.if_icmp .ne 19, 3) := by decide +kernel
theorem dX4_isWord_8 : decode cX4_isWord 8 = .ok (.aload_n 0, 1) := by decide +kernel
theorem dX4_isWord_9 : decode cX4_isWord 9 = .ok (.getfield 19, 3) := by decide +kernel
theorem dX4_isWord_12 : decode cX4_isWord 12 = .ok (.aload_n 0, 1) := by decide +kernel
theorem dX4_isWord_13 : decode cX4_isWord 13 = .ok (.getfield 25, 3) := by decide +kernel
theorem dX4_isWord_16 : decode cX4_isWord 16 = .ok (.isub, 1) := by decide +kernel
theorem dX4_isWord_17 : decode cX4_isWord 17 = .ok (.aload_n 1, 1) := by decide +kernel
theorem dX4_isWord_18 : decode cX4_isWord 18 = .ok (.invokevirtual 35, 3) := by decide +kernel
theorem dX4_isWord_21 : decode cX4_isWord 21 = .ok (.if_icmp .eq 5, 3) := by decide +kernel
theorem dX4_isWord_24 : decode cX4_isWord 24 = .ok (.iconst 0, 1) := by decide +kernel
theorem dX4_isWord_25 : decode cX4_isWord 25 = .ok (.ireturn, 1) := by decide +kernel
theorem dX4_isWord_26 : decode cX4_isWord 26 = .ok (.iconst 0, 1) := by decide +kernel
theorem dX4_isWord_27 : decode cX4_isWord 27 = .ok (.istore_n 2, 1) := by decide +kernel
theorem dX4_isWord_28 : decode cX4_isWord 28 = .ok (.iload_n 2, 1) := by decide +kernel
theorem dX4_isWord_29 : decode cX4_isWord 29 = .ok (.aload_n 1, 1) := by decide +kernel
theorem dX4_isWord_30 : decode cX4_isWord 30 = .ok (.invokevirtual 35, 3) := by decide +kernel
theorem dX4_isWord_33 : decode cX4_isWord 33 = .ok (.if_icmp .ge 30, 3) := by decide +kernel
theorem dX4_isWord_36 : decode cX4_isWord 36 = .ok (.aload_n 0, 1) := by decide +kernel
theorem dX4_isWord_37 : decode cX4_isWord 37 = .ok (.getfield 9, 3) := by decide +kernel
theorem dX4_isWord_40 : decode cX4_isWord 40 = .ok (.aload_n 0, 1) := by decide +kernel
theorem dX4_isWord_41 : decode cX4_isWord 41 = .ok (.getfield 25, 3) := by decide +kernel
theorem dX4_isWord_44 : decode cX4_isWord 44 = .ok (.iload_n 2, 1) := by decide +kernel
theorem dX4_isWord_45 : decode cX4_isWord 45 = .ok (.iadd, 1) := by decide +kernel
theorem dX4_isWord_46 : decode cX4_isWord 46 = .ok (.baload, 1) := by decide +kernel
theorem dX4_isWord_47 : decode cX4_isWord 47 = .ok (.aload_n 1, 1) := by decide +kernel
theorem dX4_isWord_48 : decode cX4_isWord 48 = .ok (.iload_n 2, 1) := by decide +kernel
theorem dX4_isWord_49 : decode cX4_isWord 49 = .ok (.invokevirtual 40, 3) := by decide +kernel
theorem dX4_isWord_52 : decode cX4_isWord 52 = .ok (.if_icmp .eq 5, 3) := by decide +kernel
theorem dX4_isWord_55 : decode cX4_isWord 55 = .ok (.iconst 0, 1) := by decide +kernel
theorem dX4_isWord_56 : decode cX4_isWord 56 = .ok (.ireturn, 1) := by decide +kernel
theorem dX4_isWord_57 : decode cX4_isWord 57 = .ok (.iinc 2 1, 3) := by decide +kernel
theorem dX4_isWord_60 : decode cX4_isWord 60 = .ok (.goto (-32), 3) := by decide +kernel
theorem dX4_isWord_63 : decode cX4_isWord 63 = .ok (.iconst 1, 1) := by decide +kernel
theorem dX4_isWord_64 : decode cX4_isWord 64 = .ok (.ireturn, 1) := by decide +kernel
theorem dX4_value_0 : decode cX4_value 0 = .ok (.iconst 0, 1) := by decide +kernel
theorem dX4_value_1 : decode cX4_value 1 = .ok (.istore_n 1, 1) := by decide +kernel
theorem dX4_value_2 : decode cX4_value 2 = .ok (.aload_n 0, 1) := by decide +kernel
theorem dX4_value_3 : decode cX4_value 3 = .ok (.getfield 25, 3) := by decide +kernel
theorem dX4_value_6 : decode cX4_value 6 = .ok (.istore_n 2, 1) := by decide +kernel
theorem dX4_value_7 : decode cX4_value 7 = .ok (.iload_n 2, 1) := by decide +kernel
theorem dX4_value_8 : decode cX4_value 8 = .ok (.aload_n 0, 1) := by decide +kernel
theorem dX4_value_9 : decode cX4_value 9 = .ok (.getfield 19, 3) := by decide +kernel
theorem dX4_value_12 : decode cX4_value 12 = .ok (.if_icmp .ge 29, 3) := by decide +kernel
theorem dX4_value_15 : decode cX4_value 15 = .ok (.ldc 44, 2) := by decide +kernel
theorem dX4_value_17 : decode cX4_value 17 = .ok (.bipush 10, 2) := by decide +kernel
theorem dX4_value_19 : decode cX4_value 19 = .ok (.iload_n 1, 1) := by decide +kernel
theorem dX4_value_20 : decode cX4_value 20 = .ok (.imul, 1) := by decide +kernel
theorem dX4_value_21 : decode cX4_value 21 = .ok (.aload_n 0, 1) := by decide +kernel
theorem dX4_value_22 : decode cX4_value 22 = .ok (.getfield 9, 3) := by decide +kernel
theorem dX4_value_25 : decode cX4_value 25 = .ok (.iload_n 2, 1) := by decide +kernel
theorem dX4_value_26 : decode cX4_value 26 = .ok (.baload, 1) := by decide +kernel
theorem dX4_value_27 : decode cX4_value 27 = .ok (.iadd, 1) := by decide +kernel
theorem dX4_value_28 : decode cX4_value 28 = .ok (.bipush 48, 2) := by decide +kernel
theorem dX4_value_30 : decode cX4_value 30 = .ok (.isub, 1) := by decide +kernel
theorem dX4_value_31 : decode cX4_value 31 = .ok (.invokestatic 45, 3) := by decide +kernel
theorem dX4_value_34 : decode cX4_value 34 = .ok (.istore_n 1, 1) := by decide +kernel
theorem dX4_value_35 : decode cX4_value 35 = .ok (.iinc 2 1, 3) := by decide +kernel
theorem dX4_value_38 : decode cX4_value 38 = .ok (.goto (-31), 3) := by decide +kernel
theorem dX4_value_41 : decode cX4_value 41 = .ok (.iload_n 1, 1) := by decide +kernel
theorem dX4_value_42 : decode cX4_value 42 = .ok (.ireturn, 1) := by decide +kernel
theorem dX5_init_0 : decode cX5_init 0 = .ok (.aload_n 0, 1) := by decide +kernel
theorem dX5_init_1 : decode cX5_init 1 = .ok (.invokespecial 3, 3) := by decide +kernel
theorem dX5_init_4 : decode cX5_init 4 = .ok (.aload_n 0, 1) := by decide +kernel
theorem dX5_init_5 : decode cX5_init 5 = .ok (.iconst (-1), 1) := by decide +kernel
theorem dX5_init_6 : decode cX5_init 6 = .ok (.putfield 9, 3) := by decide +kernel
theorem dX5_init_9 : decode cX5_init 9 = .ok (.aload_n 0, 1) := by decide +kernel
theorem dX5_init_10 : decode cX5_init 10 = .ok (.aload_n 1, 1) := by decide +kernel
theorem dX5_init_11 : decode cX5_init 11 = .ok (.putfield 15, 3) := by decide +kernel
theorem dX5_init_14 : decode cX5_init 14 = .ok (.aload_n 0, 1) := by decide +kernel
theorem dX5_init_15 : decode cX5_init 15 = .ok (.aload_n 2, 1) := by decide +kernel
theorem dX5_init_16 : decode cX5_init 16 = .ok (.putfield 19, 3) := by decide +kernel
theorem dX5_init_19 : decode cX5_init 19 = .ok (.return_, 1) := by decide +kernel
theorem dX5_readsAll_0 : decode cX5_readsAll 0 = .ok (.aload_n 0, 1) := by decide +kernel
theorem dX5_readsAll_1 : decode cX5_readsAll 1 = .ok (.iconst 0, 1) := by decide +kernel
theorem dX5_readsAll_2 : decode cX5_readsAll 2 = .ok (.putfield 23, 3) := by decide +kernel
theorem dX5_readsAll_5 : decode cX5_readsAll 5 = .ok (.aload_n 0, 1) := by decide +kernel
theorem dX5_readsAll_6 : decode cX5_readsAll 6 = .ok (.iconst (-1), 1) := by decide +kernel
theorem dX5_readsAll_7 : decode cX5_readsAll 7 = .ok (.putfield 9, 3) := by decide +kernel
theorem dX5_readsAll_10 : decode cX5_readsAll 10 = .ok (.aload_n 0, 1) := by decide +kernel
theorem dX5_readsAll_11 : decode cX5_readsAll 11 = .ok (.iconst 0, 1) := by decide +kernel
theorem dX5_readsAll_12 : decode cX5_readsAll 12 = .ok (.putfield 26, 3) := by decide +kernel
theorem dX5_readsAll_15 : decode cX5_readsAll 15 = .ok (.aload_n 0, 1) := by decide +kernel
theorem dX5_readsAll_16 : decode cX5_readsAll 16 = .ok (.iconst 0, 1) := by decide +kernel
theorem dX5_readsAll_17 : decode cX5_readsAll 17 = .ok (.putfield 30, 3) := by decide +kernel
theorem dX5_readsAll_20 : decode cX5_readsAll 20 = .ok (.aload_n 0, 1) := by decide +kernel
theorem dX5_readsAll_21 : decode cX5_readsAll 21 = .ok (.iconst (-1), 1) := by decide +kernel
theorem dX5_readsAll_22 : decode cX5_readsAll 22 = .ok (.putfield 33, 3) := by decide +kernel
theorem dX5_readsAll_25 : decode cX5_readsAll 25 = .ok (.aload_n 0, 1) := by decide +kernel
theorem dX5_readsAll_26 : decode cX5_readsAll 26 = .ok (.getfield 19, 3) := by decide +kernel
theorem dX5_readsAll_29 : decode cX5_readsAll 29 = .ok (.invokevirtual 36, 3) := by decide +kernel
theorem dX5_readsAll_32 : decode cX5_readsAll 32 = .ok (.aload_n 0, 1) := by decide +kernel
theorem dX5_readsAll_33 : decode cX5_readsAll 33 = .ok (.getfield 15, 3) := by decide +kernel
theorem dX5_readsAll_36 : decode cX5_readsAll 36 = .ok (.invokevirtual 41, 3) := by decide +kernel
theorem dX5_readsAll_39 : decode cX5_readsAll 39 = .ok (.iconst 0, 1) := by decide +kernel
theorem dX5_readsAll_40 : decode cX5_readsAll 40 = .ok (.istore_n 1, 1) := by decide +kernel
theorem dX5_readsAll_41 : decode cX5_readsAll 41 = .ok (.iload_n 1, 1) := by decide +kernel
theorem dX5_readsAll_42 : decode cX5_readsAll 42 = .ok (.sipush 1600, 3) := by decide +kernel
theorem dX5_readsAll_45 : decode cX5_readsAll 45 = .ok (.if_icmp .ge 30, 3) := by decide +kernel
theorem dX5_readsAll_48 : decode cX5_readsAll 48 = .ok (.aload_n 0, 1) := by decide +kernel
theorem dX5_readsAll_49 : decode cX5_readsAll 49 = .ok (.getfield 23, 3) := by decide +kernel
theorem dX5_readsAll_52 : decode cX5_readsAll 52 = .ok (.ifCond .ne 23, 3) := by decide +kernel
theorem dX5_readsAll_55 : decode cX5_readsAll 55 = .ok (.aload_n 0, 1) := by decide +kernel
theorem dX5_readsAll_56 : decode cX5_readsAll 56 = .ok (.getfield 15, 3) := by decide +kernel
theorem dX5_readsAll_59 : decode cX5_readsAll 59 = .ok (.getfield 46, 3) := by decide +kernel
theorem dX5_readsAll_62 : decode cX5_readsAll 62 = .ok (.ifCond .eq 13, 3) := by decide +kernel
theorem dX5_readsAll_65 : decode cX5_readsAll 65 = .ok (.aload_n 0, 1) := by decide +kernel
theorem dX5_readsAll_66 : decode cX5_readsAll 66 = .ok (.invokevirtual 49, 3) := by decide +kernel
theorem dX5_readsAll_69 : decode cX5_readsAll 69 = .ok (.iinc 1 1, 3) := by decide +kernel
theorem dX5_readsAll_72 : decode cX5_readsAll 72 = .ok (.goto (-31), 3) := by decide +kernel
theorem dX5_readsAll_75 : decode cX5_readsAll 75 = .ok (.aload_n 0, 1) := by decide +kernel
theorem dX5_readsAll_76 : decode cX5_readsAll 76 = .ok (.getfield 23, 3) := by decide +kernel
theorem dX5_readsAll_79 : decode cX5_readsAll 79 = .ok (.ifCond .ne 7, 3) := by decide +kernel
theorem dX5_readsAll_82 : decode cX5_readsAll 82 = .ok (.iconst 1, 1) := by decide +kernel
theorem dX5_readsAll_83 : decode cX5_readsAll 83 = .ok (.goto 4, 3) := by decide +kernel
theorem dX5_readsAll_86 : decode cX5_readsAll 86 = .ok (.iconst 0, 1) := by decide +kernel
theorem dX5_readsAll_87 : decode cX5_readsAll 87 = .ok (.ireturn, 1) := by decide +kernel
theorem dX5_readLine_0 : decode cX5_readLine 0 = .ok (.aload_n 0, 1) := by decide +kernel
theorem dX5_readLine_1 : decode cX5_readLine 1 = .ok (.getfield 19, 3) := by decide +kernel
theorem dX5_readLine_4 : decode cX5_readLine 4 = .ok (.getfield 52, 3) := by decide +kernel
theorem dX5_readLine_7 : decode cX5_readLine 7 = .ok (.ifCond .ne 10, 3) := by decide +kernel
theorem dX5_readLine_10 : decode cX5_readLine 10 = .ok (.aload_n 0, 1) := by decide +kernel
theorem dX5_readLine_11 : decode cX5_readLine 11 = .ok (.invokevirtual 55, 3) := by decide +kernel
theorem dX5_readLine_14 : decode cX5_readLine 14 = .ok (.goto 122, 3) := by decide +kernel
theorem dX5_readLine_17 : decode cX5_readLine 17 = .ok (.aload_n 0, 1) := by decide +kernel
theorem dX5_readLine_18 : decode cX5_readLine 18 = .ok (.getfield 15, 3) := by decide +kernel
theorem dX5_readLine_21 : decode cX5_readLine 21 = .ok (.ldc 58, 2) := by decide +kernel
theorem dX5_readLine_23 : decode cX5_readLine 23 = .ok (.invokevirtual 60, 3) := by decide +kernel
theorem dX5_readLine_26 : decode cX5_readLine 26 = .ok (.ifCond .eq 10, 3) := by decide +kernel
theorem dX5_readLine_29 : decode cX5_readLine 29 = .ok (.aload_n 0, 1) := by decide +kernel
theorem dX5_readLine_30 : decode cX5_readLine 30 = .ok (.invokevirtual 64, 3) := by decide +kernel
theorem dX5_readLine_33 : decode cX5_readLine 33 = .ok (.goto 103, 3) := by decide +kernel
theorem dX5_readLine_36 : decode cX5_readLine 36 = .ok (.aload_n 0, 1) := by decide +kernel
theorem dX5_readLine_37 : decode cX5_readLine 37 = .ok (.getfield 15, 3) := by decide +kernel
theorem dX5_readLine_40 : decode cX5_readLine 40 = .ok (.ldc 67, 2) := by decide +kernel
theorem dX5_readLine_42 : decode cX5_readLine 42 = .ok (.invokevirtual 60, 3) := by decide +kernel
theorem dX5_readLine_45 : decode cX5_readLine 45 = .ok (.ifCond .eq 10, 3) := by decide +kernel
theorem dX5_readLine_48 : decode cX5_readLine 48 = .ok (.aload_n 0, 1) := by decide +kernel
theorem dX5_readLine_49 : decode cX5_readLine 49 = .ok (.invokevirtual 69, 3) := by decide +kernel
theorem dX5_readLine_52 : decode cX5_readLine 52 = .ok (.goto 84, 3) := by decide +kernel
theorem dX5_readLine_55 : decode cX5_readLine 55 = .ok (.aload_n 0, 1) := by decide +kernel
theorem dX5_readLine_56 : decode cX5_readLine 56 = .ok (.getfield 15, 3) := by decide +kernel
theorem dX5_readLine_59 : decode cX5_readLine 59 = .ok (.ldc 72, 2) := by decide +kernel
theorem dX5_readLine_61 : decode cX5_readLine 61 = .ok (.invokevirtual 60, 3) := by decide +kernel
theorem dX5_readLine_64 : decode cX5_readLine 64 = .ok (.ifCond .eq 10, 3) := by decide +kernel
theorem dX5_readLine_67 : decode cX5_readLine 67 = .ok (.aload_n 0, 1) := by decide +kernel
theorem dX5_readLine_68 : decode cX5_readLine 68 = .ok (.invokevirtual 74, 3) := by decide +kernel
theorem dX5_readLine_71 : decode cX5_readLine 71 = .ok (.goto 65, 3) := by decide +kernel
theorem dX5_readLine_74 : decode cX5_readLine 74 = .ok (.aload_n 0, 1) := by decide +kernel
theorem dX5_readLine_75 : decode cX5_readLine 75 = .ok (.getfield 15, 3) := by decide +kernel
theorem dX5_readLine_78 : decode cX5_readLine 78 = .ok (.ldc 77, 2) := by decide +kernel
theorem dX5_readLine_80 : decode cX5_readLine 80 = .ok (.invokevirtual 60, 3) := by decide +kernel
theorem dX5_readLine_83 : decode cX5_readLine 83 = .ok (.ifCond .eq 10, 3) := by decide +kernel
theorem dX5_readLine_86 : decode cX5_readLine 86 = .ok (.aload_n 0, 1) := by decide +kernel
theorem dX5_readLine_87 : decode cX5_readLine 87 = .ok (.invokevirtual 79, 3) := by decide +kernel
theorem dX5_readLine_90 : decode cX5_readLine 90 = .ok (.goto 46, 3) := by decide +kernel
theorem dX5_readLine_93 : decode cX5_readLine 93 = .ok (.aload_n 0, 1) := by decide +kernel
theorem dX5_readLine_94 : decode cX5_readLine 94 = .ok (.getfield 15, 3) := by decide +kernel
theorem dX5_readLine_97 : decode cX5_readLine 97 = .ok (.ldc 82, 2) := by decide +kernel
theorem dX5_readLine_99 : decode cX5_readLine 99 = .ok (.invokevirtual 60, 3) := by decide +kernel
theorem dX5_readLine_102 : decode cX5_readLine 102 = .ok (.ifCond .eq 10, 3) := by decide +kernel
theorem dX5_readLine_105 : decode cX5_readLine 105 = .ok (.aload_n 0, 1) := by decide +kernel
theorem dX5_readLine_106 : decode cX5_readLine 106 = .ok (.invokevirtual 84, 3) := by decide +kernel
theorem dX5_readLine_109 : decode cX5_readLine 109 = .ok (.goto 27, 3) := by decide +kernel
theorem dX5_readLine_112 : decode cX5_readLine 112 = .ok (.aload_n 0, 1) := by decide +kernel
theorem dX5_readLine_113 : decode cX5_readLine 113 = .ok (.getfield 15, 3) := by decide +kernel
theorem dX5_readLine_116 : decode cX5_readLine 116 = .ok (.ldc 87, 2) := by decide +kernel
theorem dX5_readLine_118 : decode cX5_readLine 118 = .ok (.invokevirtual 60, 3) := by decide +kernel
theorem dX5_readLine_121 : decode cX5_readLine 121 = .ok (.ifCond .eq 10, 3) := by decide +kernel
theorem dX5_readLine_124 : decode cX5_readLine 124 = .ok (.aload_n 0, 1) := by decide +kernel
theorem dX5_readLine_125 : decode cX5_readLine 125 = .ok (.invokevirtual 89, 3) := by decide +kernel
theorem dX5_readLine_128 : decode cX5_readLine 128 = .ok (.goto 8, 3) := by decide +kernel
theorem dX5_readLine_131 : decode cX5_readLine 131 = .ok (.aload_n 0, 1) := by decide +kernel
theorem dX5_readLine_132 : decode cX5_readLine 132 = .ok (.iconst 1, 1) := by decide +kernel
theorem dX5_readLine_133 : decode cX5_readLine 133 = .ok (.invokevirtual 92, 3) := by decide +kernel
theorem dX5_readLine_136 : decode cX5_readLine 136 = .ok (.aload_n 0, 1) := by decide +kernel
theorem dX5_readLine_137 : decode cX5_readLine 137 = .ok (.invokevirtual 96, 3) := by decide +kernel
theorem dX5_readLine_140 : decode cX5_readLine 140 = .ok (.return_, 1) := by decide +kernel
theorem dX5_readSquare_0 : decode cX5_readSquare 0 = .ok (.aload_n 0, 1) := by decide +kernel
theorem dX5_readSquare_1 : decode cX5_readSquare 1 = .ok (.ldc 99, 2) := by decide +kernel
theorem dX5_readSquare_3 : decode cX5_readSquare 3 = .ok (.invokevirtual 101, 3) := by decide +kernel
theorem dX5_readSquare_6 : decode cX5_readSquare 6 = .ok (.aload_n 0, 1) := by decide +kernel
theorem dX5_readSquare_7 : decode cX5_readSquare 7 = .ok (.ldc 105, 2) := by decide +kernel
theorem dX5_readSquare_9 : decode cX5_readSquare 9 = .ok (.invokevirtual 101, 3) := by decide +kernel
theorem dX5_readSquare_12 : decode cX5_readSquare 12 = .ok (.aload_n 0, 1) := by decide +kernel
theorem dX5_readSquare_13 : decode cX5_readSquare 13 = .ok (.getfield 19, 3) := by decide +kernel
theorem dX5_readSquare_16 : decode cX5_readSquare 16 = .ok (.aload_n 0, 1) := by decide +kernel
theorem dX5_readSquare_17 : decode cX5_readSquare 17 = .ok (.iconst 5, 1) := by decide +kernel
theorem dX5_readSquare_18 : decode cX5_readSquare 18 = .ok (.bipush 30, 2) := by decide +kernel
theorem dX5_readSquare_20 : decode cX5_readSquare 20 = .ok (.invokevirtual 107, 3) := by decide +kernel
theorem dX5_readSquare_23 : decode cX5_readSquare 23 = .ok (.putfield 111, 3) := by decide +kernel
theorem dX5_readSquare_26 : decode cX5_readSquare 26 = .ok (.aload_n 0, 1) := by decide +kernel
theorem dX5_readSquare_27 : decode cX5_readSquare 27 = .ok (.ldc 113, 2) := by decide +kernel
theorem dX5_readSquare_29 : decode cX5_readSquare 29 = .ok (.invokevirtual 101, 3) := by decide +kernel
theorem dX5_readSquare_32 : decode cX5_readSquare 32 = .ok (.aload_n 0, 1) := by decide +kernel
theorem dX5_readSquare_33 : decode cX5_readSquare 33 = .ok (.getfield 19, 3) := by decide +kernel
theorem dX5_readSquare_36 : decode cX5_readSquare 36 = .ok (.aload_n 0, 1) := by decide +kernel
theorem dX5_readSquare_37 : decode cX5_readSquare 37 = .ok (.iconst 5, 1) := by decide +kernel
theorem dX5_readSquare_38 : decode cX5_readSquare 38 = .ok (.bipush 30, 2) := by decide +kernel
theorem dX5_readSquare_40 : decode cX5_readSquare 40 = .ok (.invokevirtual 107, 3) := by decide +kernel
theorem dX5_readSquare_43 : decode cX5_readSquare 43 = .ok (.putfield 115, 3) := by decide +kernel
theorem dX5_readSquare_46 : decode cX5_readSquare 46 = .ok (.aload_n 0, 1) := by decide +kernel
theorem dX5_readSquare_47 : decode cX5_readSquare 47 = .ok (.getfield 19, 3) := by decide +kernel
theorem dX5_readSquare_50 : decode cX5_readSquare 50 = .ok (.aload_n 0, 1) := by decide +kernel
theorem dX5_readSquare_51 : decode cX5_readSquare 51 = .ok (.getfield 19, 3) := by decide +kernel
theorem dX5_readSquare_54 : decode cX5_readSquare 54 = .ok (.getfield 111, 3) := by decide +kernel
theorem dX5_readSquare_57 : decode cX5_readSquare 57 = .ok (.iconst 2, 1) := by decide +kernel
theorem dX5_readSquare_58 : decode cX5_readSquare 58 = .ok (.idiv, 1) := by decide +kernel
theorem dX5_readSquare_59 : decode cX5_readSquare 59 = .ok (.putfield 118, 3) := by decide +kernel
theorem dX5_readSquare_62 : decode cX5_readSquare 62 = .ok (.aload_n 0, 1) := by decide +kernel
theorem dX5_readSquare_63 : decode cX5_readSquare 63 = .ok (.getfield 19, 3) := by decide +kernel
theorem dX5_readSquare_66 : decode cX5_readSquare 66 = .ok (.aload_n 0, 1) := by decide +kernel
theorem dX5_readSquare_67 : decode cX5_readSquare 67 = .ok (.getfield 19, 3) := by decide +kernel
theorem dX5_readSquare_70 : decode cX5_readSquare 70 = .ok (.getfield 115, 3) := by decide +kernel
theorem dX5_readSquare_73 : decode cX5_readSquare 73 = .ok (.iconst 2, 1) := by decide +kernel
theorem dX5_readSquare_74 : decode cX5_readSquare 74 = .ok (.idiv, 1) := by decide +kernel
theorem dX5_readSquare_75 : decode cX5_readSquare 75 = .ok (.putfield 121, 3) := by decide +kernel
theorem dX5_readSquare_78 : decode cX5_readSquare 78 = .ok (.aload_n 0, 1) := by decide +kernel
theorem dX5_readSquare_79 : decode cX5_readSquare 79 = .ok (.getfield 19, 3) := by decide +kernel
theorem dX5_readSquare_82 : decode cX5_readSquare 82 = .ok (.iconst 1, 1) := by decide +kernel
theorem dX5_readSquare_83 : decode cX5_readSquare 83 = .ok (.putfield 124, 3) := by decide +kernel
theorem dX5_readSquare_86 : decode cX5_readSquare 86 = .ok (.aload_n 0, 1) := by decide +kernel
theorem dX5_readSquare_87 : decode cX5_readSquare 87 = .ok (.getfield 19, 3) := by decide +kernel
theorem dX5_readSquare_90 : decode cX5_readSquare 90 = .ok (.bipush 30, 2) := by decide +kernel
theorem dX5_readSquare_92 : decode cX5_readSquare 92 = .ok (.putfield 127, 3) := by decide +kernel
theorem dX5_readSquare_95 : decode cX5_readSquare 95 = .ok (.aload_n 0, 1) := by decide +kernel
theorem dX5_readSquare_96 : decode cX5_readSquare 96 = .ok (.getfield 19, 3) := by decide +kernel
theorem dX5_readSquare_99 : decode cX5_readSquare 99 = .ok (.bipush 60, 2) := by decide +kernel
theorem dX5_readSquare_101 : decode cX5_readSquare 101 = .ok (.putfield 130, 3) := by decide +kernel
theorem dX5_readSquare_104 : decode cX5_readSquare 104 = .ok (.return_, 1) := by decide +kernel
theorem dX5_readJet_0 : decode cX5_readJet 0 = .ok (.aload_n 0, 1) := by decide +kernel
theorem dX5_readJet_1 : decode cX5_readJet 1 = .ok (.aload_n 0, 1) := by decide +kernel
theorem dX5_readJet_2 : decode cX5_readJet 2 = .ok (.getfield 26, 3) := by decide +kernel
theorem dX5_readJet_5 : decode cX5_readJet 5 = .ok (.invokevirtual 133, 3) := by decide +kernel
theorem dX5_readJet_8 : decode cX5_readJet 8 = .ok (.aload_n 0, 1) := by decide +kernel
theorem dX5_readJet_9 : decode cX5_readJet 9 = .ok (.iconst 1, 1) := by decide +kernel
theorem dX5_readJet_10 : decode cX5_readJet 10 = .ok (.putfield 26, 3) := by decide +kernel
theorem dX5_readJet_13 : decode cX5_readJet 13 = .ok (.aload_n 0, 1) := by decide +kernel
theorem dX5_readJet_14 : decode cX5_readJet 14 = .ok (.ldc 58, 2) := by decide +kernel
theorem dX5_readJet_16 : decode cX5_readJet 16 = .ok (.invokevirtual 101, 3) := by decide +kernel
theorem dX5_readJet_19 : decode cX5_readJet 19 = .ok (.aload_n 0, 1) := by decide +kernel
theorem dX5_readJet_20 : decode cX5_readJet 20 = .ok (.ldc 137, 2) := by decide +kernel
theorem dX5_readJet_22 : decode cX5_readJet 22 = .ok (.invokevirtual 101, 3) := by decide +kernel
theorem dX5_readJet_25 : decode cX5_readJet 25 = .ok (.aload_n 0, 1) := by decide +kernel
theorem dX5_readJet_26 : decode cX5_readJet 26 = .ok (.getfield 19, 3) := by decide +kernel
theorem dX5_readJet_29 : decode cX5_readJet 29 = .ok (.aload_n 0, 1) := by decide +kernel
theorem dX5_readJet_30 : decode cX5_readJet 30 = .ok (.iconst 0, 1) := by decide +kernel
theorem dX5_readJet_31 : decode cX5_readJet 31 = .ok (.aload_n 0, 1) := by decide +kernel
theorem dX5_readJet_32 : decode cX5_readJet 32 = .ok (.getfield 19, 3) := by decide +kernel
theorem dX5_readJet_35 : decode cX5_readJet 35 = .ok (.getfield 111, 3) := by decide +kernel
theorem dX5_readJet_38 : decode cX5_readJet 38 = .ok (.iconst 1, 1) := by decide +kernel
theorem dX5_readJet_39 : decode cX5_readJet 39 = .ok (.isub, 1) := by decide +kernel
theorem dX5_readJet_40 : decode cX5_readJet 40 = .ok (.invokevirtual 107, 3) := by decide +kernel
theorem dX5_readJet_43 : decode cX5_readJet 43 = .ok (.putfield 118, 3) := by decide +kernel
theorem dX5_readJet_46 : decode cX5_readJet 46 = .ok (.aload_n 0, 1) := by decide +kernel
theorem dX5_readJet_47 : decode cX5_readJet 47 = .ok (.getfield 19, 3) := by decide +kernel
theorem dX5_readJet_50 : decode cX5_readJet 50 = .ok (.aload_n 0, 1) := by decide +kernel
theorem dX5_readJet_51 : decode cX5_readJet 51 = .ok (.iconst 0, 1) := by decide +kernel
theorem dX5_readJet_52 : decode cX5_readJet 52 = .ok (.aload_n 0, 1) := by decide +kernel
theorem dX5_readJet_53 : decode cX5_readJet 53 = .ok (.getfield 19, 3) := by decide +kernel
theorem dX5_readJet_56 : decode cX5_readJet 56 = .ok (.getfield 115, 3) := by decide +kernel
theorem dX5_readJet_59 : decode cX5_readJet 59 = .ok (.iconst 1, 1) := by decide +kernel
theorem dX5_readJet_60 : decode cX5_readJet 60 = .ok (.isub, 1) := by decide +kernel
theorem dX5_readJet_61 : decode cX5_readJet 61 = .ok (.invokevirtual 107, 3) := by decide +kernel
theorem dX5_readJet_64 : decode cX5_readJet 64 = .ok (.putfield 121, 3) := by decide +kernel
theorem dX5_readJet_67 : decode cX5_readJet 67 = .ok (.aload_n 0, 1) := by decide +kernel
theorem dX5_readJet_68 : decode cX5_readJet 68 = .ok (.ldc 139, 2) := by decide +kernel
theorem dX5_readJet_70 : decode cX5_readJet 70 = .ok (.invokevirtual 101, 3) := by decide +kernel
theorem dX5_readJet_73 : decode cX5_readJet 73 = .ok (.aload_n 0, 1) := by decide +kernel
theorem dX5_readJet_74 : decode cX5_readJet 74 = .ok (.getfield 19, 3) := by decide +kernel
theorem dX5_readJet_77 : decode cX5_readJet 77 = .ok (.aload_n 0, 1) := by decide +kernel
theorem dX5_readJet_78 : decode cX5_readJet 78 = .ok (.iconst 0, 1) := by decide +kernel
theorem dX5_readJet_79 : decode cX5_readJet 79 = .ok (.bipush 9, 2) := by decide +kernel
theorem dX5_readJet_81 : decode cX5_readJet 81 = .ok (.invokevirtual 107, 3) := by decide +kernel
theorem dX5_readJet_84 : decode cX5_readJet 84 = .ok (.putfield 124, 3) := by decide +kernel
theorem dX5_readJet_87 : decode cX5_readJet 87 = .ok (.aload_n 0, 1) := by decide +kernel
theorem dX5_readJet_88 : decode cX5_readJet 88 = .ok (.ldc 140, 2) := by decide +kernel
theorem dX5_readJet_90 : decode cX5_readJet 90 = .ok (.invokevirtual 101, 3) := by decide +kernel
theorem dX5_readJet_93 : decode cX5_readJet 93 = .ok (.aload_n 0, 1) := by decide +kernel
theorem dX5_readJet_94 : decode cX5_readJet 94 = .ok (.getfield 19, 3) := by decide +kernel
theorem dX5_readJet_97 : decode cX5_readJet 97 = .ok (.aload_n 0, 1) := by decide +kernel
theorem dX5_readJet_98 : decode cX5_readJet 98 = .ok (.iconst 0, 1) := by decide +kernel
theorem dX5_readJet_99 : decode cX5_readJet 99 = .ok (.bipush 60, 2) := by decide +kernel
theorem dX5_readJet_101 : decode cX5_readJet 101 = .ok (.invokevirtual 107, 3) := by decide +kernel
theorem dX5_readJet_104 : decode cX5_readJet 104 = .ok (.putfield 127, 3) := by decide +kernel
theorem dX5_readJet_107 : decode cX5_readJet 107 = .ok (.return_, 1) := by decide +kernel
theorem dX5_readSize_0 : decode cX5_readSize 0 = .ok (.aload_n 0, 1) := by decide +kernel
theorem dX5_readSize_1 : decode cX5_readSize 1 = .ok (.getfield 19, 3) := by decide +kernel
theorem dX5_readSize_4 : decode cX5_readSize 4 = .ok (.getfield 141, 3) := by decide +kernel
theorem dX5_readSize_7 : decode cX5_readSize 7 = .ok (.istore_n 1, 1) := by decide +kernel
theorem dX5_readSize_8 : decode cX5_readSize 8 = .ok (.iload_n 1, 1) := by decide +kernel
theorem dX5_readSize_9 : decode cX5_readSize 9 = .ok (.iconst 5, 1) := by decide +kernel
theorem dX5_readSize_10 : decode cX5_readSize 10 = .ok (.if_icmp .lt 9, 3) := by decide +kernel
theorem dX5_readSize_13 : decode cX5_readSize 13 = .ok (.aload_n 0, 1) := by decide +kernel
theorem dX5_readSize_14 : decode cX5_readSize 14 = .ok (.iconst 3, 1) := by decide +kernel
theorem dX5_readSize_15 : decode cX5_readSize 15 = .ok (.invokevirtual 92, 3) := by decide +kernel
theorem dX5_readSize_18 : decode cX5_readSize 18 = .ok (.return_, 1) := by decide +kernel
theorem dX5_readSize_19 : decode cX5_readSize 19 = .ok (.aload_n 0, 1) := by decide +kernel
theorem dX5_readSize_20 : decode cX5_readSize 20 = .ok (.ldc 67, 2) := by decide +kernel
theorem dX5_readSize_22 : decode cX5_readSize 22 = .ok (.invokevirtual 101, 3) := by decide +kernel
theorem dX5_readSize_25 : decode cX5_readSize 25 = .ok (.aload_n 0, 1) := by decide +kernel
theorem dX5_readSize_26 : decode cX5_readSize 26 = .ok (.ldc 144, 2) := by decide +kernel
theorem dX5_readSize_28 : decode cX5_readSize 28 = .ok (.invokevirtual 101, 3) := by decide +kernel
theorem dX5_readSize_31 : decode cX5_readSize 31 = .ok (.aload_n 0, 1) := by decide +kernel
theorem dX5_readSize_32 : decode cX5_readSize 32 = .ok (.getfield 19, 3) := by decide +kernel
theorem dX5_readSize_35 : decode cX5_readSize 35 = .ok (.getfield 146, 3) := by decide +kernel
theorem dX5_readSize_38 : decode cX5_readSize 38 = .ok (.iload_n 1, 1) := by decide +kernel
theorem dX5_readSize_39 : decode cX5_readSize 39 = .ok (.aload_n 0, 1) := by decide +kernel
theorem dX5_readSize_40 : decode cX5_readSize 40 = .ok (.iconst 0, 1) := by decide +kernel
theorem dX5_readSize_41 : decode cX5_readSize 41 = .ok (.bipush 99, 2) := by decide +kernel
theorem dX5_readSize_43 : decode cX5_readSize 43 = .ok (.invokevirtual 107, 3) := by decide +kernel
theorem dX5_readSize_46 : decode cX5_readSize 46 = .ok (.iastore, 1) := by decide +kernel
theorem dX5_readSize_47 : decode cX5_readSize 47 = .ok (.aload_n 0, 1) := by decide +kernel
theorem dX5_readSize_48 : decode cX5_readSize 48 = .ok (.ldc 149, 2) := by decide +kernel
theorem dX5_readSize_50 : decode cX5_readSize 50 = .ok (.invokevirtual 101, 3) := by decide +kernel
theorem dX5_readSize_53 : decode cX5_readSize 53 = .ok (.aload_n 0, 1) := by decide +kernel
theorem dX5_readSize_54 : decode cX5_readSize 54 = .ok (.getfield 19, 3) := by decide +kernel
theorem dX5_readSize_57 : decode cX5_readSize 57 = .ok (.getfield 151, 3) := by decide +kernel
theorem dX5_readSize_60 : decode cX5_readSize 60 = .ok (.iload_n 1, 1) := by decide +kernel
theorem dX5_readSize_61 : decode cX5_readSize 61 = .ok (.aload_n 0, 1) := by decide +kernel
theorem dX5_readSize_62 : decode cX5_readSize 62 = .ok (.iconst 1, 1) := by decide +kernel
theorem dX5_readSize_63 : decode cX5_readSize 63 = .ok (.bipush 9, 2) := by decide +kernel
theorem dX5_readSize_65 : decode cX5_readSize 65 = .ok (.invokevirtual 107, 3) := by decide +kernel
theorem dX5_readSize_68 : decode cX5_readSize 68 = .ok (.iastore, 1) := by decide +kernel
theorem dX5_readSize_69 : decode cX5_readSize 69 = .ok (.aload_n 0, 1) := by decide +kernel
theorem dX5_readSize_70 : decode cX5_readSize 70 = .ok (.getfield 19, 3) := by decide +kernel
theorem dX5_readSize_73 : decode cX5_readSize 73 = .ok (.dup, 1) := by decide +kernel
theorem dX5_readSize_74 : decode cX5_readSize 74 = .ok (.getfield 141, 3) := by decide +kernel
theorem dX5_readSize_77 : decode cX5_readSize 77 = .ok (.iconst 1, 1) := by decide +kernel
theorem dX5_readSize_78 : decode cX5_readSize 78 = .ok (.iadd, 1) := by decide +kernel
theorem dX5_readSize_79 : decode cX5_readSize 79 = .ok (.putfield 141, 3) := by decide +kernel
theorem dX5_readSize_82 : decode cX5_readSize 82 = .ok (.return_, 1) := by decide +kernel
theorem dX5_readTable_0 : decode cX5_readTable 0 = .ok (.aload_n 0, 1) := by decide +kernel
theorem dX5_readTable_1 : decode cX5_readTable 1 = .ok (.getfield 19, 3) := by decide +kernel
theorem dX5_readTable_4 : decode cX5_readTable 4 = .ok (.getfield 153, 3) := by decide +kernel
theorem dX5_readTable_7 : decode cX5_readTable 7 = .ok (.istore_n 1, 1) := by decide +kernel
theorem dX5_readTable_8 : decode cX5_readTable 8 = .ok (.iload_n 1, 1) := by decide +kernel
theorem dX5_readTable_9 : decode cX5_readTable 9 = .ok (.bipush 8, 2) := by decide +kernel
theorem dX5_readTable_11 : decode cX5_readTable 11 = .ok (.if_icmp .lt 9, 3) := by decide +kernel
theorem dX5_readTable_14 : decode cX5_readTable 14 = .ok (.aload_n 0, 1) := by decide +kernel
theorem dX5_readTable_15 : decode cX5_readTable 15 = .ok (.iconst 3, 1) := by decide +kernel
theorem dX5_readTable_16 : decode cX5_readTable 16 = .ok (.invokevirtual 92, 3) := by decide +kernel
theorem dX5_readTable_19 : decode cX5_readTable 19 = .ok (.return_, 1) := by decide +kernel
theorem dX5_readTable_20 : decode cX5_readTable 20 = .ok (.aload_n 0, 1) := by decide +kernel
theorem dX5_readTable_21 : decode cX5_readTable 21 = .ok (.ldc 72, 2) := by decide +kernel
theorem dX5_readTable_23 : decode cX5_readTable 23 = .ok (.invokevirtual 101, 3) := by decide +kernel
theorem dX5_readTable_26 : decode cX5_readTable 26 = .ok (.aload_n 0, 1) := by decide +kernel
theorem dX5_readTable_27 : decode cX5_readTable 27 = .ok (.ldc 137, 2) := by decide +kernel
theorem dX5_readTable_29 : decode cX5_readTable 29 = .ok (.invokevirtual 101, 3) := by decide +kernel
theorem dX5_readTable_32 : decode cX5_readTable 32 = .ok (.aload_n 0, 1) := by decide +kernel
theorem dX5_readTable_33 : decode cX5_readTable 33 = .ok (.getfield 19, 3) := by decide +kernel
theorem dX5_readTable_36 : decode cX5_readTable 36 = .ok (.getfield 156, 3) := by decide +kernel
theorem dX5_readTable_39 : decode cX5_readTable 39 = .ok (.iload_n 1, 1) := by decide +kernel
theorem dX5_readTable_40 : decode cX5_readTable 40 = .ok (.aload_n 0, 1) := by decide +kernel
theorem dX5_readTable_41 : decode cX5_readTable 41 = .ok (.iconst 0, 1) := by decide +kernel
theorem dX5_readTable_42 : decode cX5_readTable 42 = .ok (.aload_n 0, 1) := by decide +kernel
theorem dX5_readTable_43 : decode cX5_readTable 43 = .ok (.getfield 19, 3) := by decide +kernel
theorem dX5_readTable_46 : decode cX5_readTable 46 = .ok (.getfield 111, 3) := by decide +kernel
theorem dX5_readTable_49 : decode cX5_readTable 49 = .ok (.iconst 1, 1) := by decide +kernel
theorem dX5_readTable_50 : decode cX5_readTable 50 = .ok (.isub, 1) := by decide +kernel
theorem dX5_readTable_51 : decode cX5_readTable 51 = .ok (.invokevirtual 107, 3) := by decide +kernel
theorem dX5_readTable_54 : decode cX5_readTable 54 = .ok (.iastore, 1) := by decide +kernel
theorem dX5_readTable_55 : decode cX5_readTable 55 = .ok (.aload_n 0, 1) := by decide +kernel
theorem dX5_readTable_56 : decode cX5_readTable 56 = .ok (.getfield 19, 3) := by decide +kernel
theorem dX5_readTable_59 : decode cX5_readTable 59 = .ok (.getfield 159, 3) := by decide +kernel
theorem dX5_readTable_62 : decode cX5_readTable 62 = .ok (.iload_n 1, 1) := by decide +kernel
theorem dX5_readTable_63 : decode cX5_readTable 63 = .ok (.aload_n 0, 1) := by decide +kernel
theorem dX5_readTable_64 : decode cX5_readTable 64 = .ok (.iconst 0, 1) := by decide +kernel
theorem dX5_readTable_65 : decode cX5_readTable 65 = .ok (.aload_n 0, 1) := by decide +kernel
theorem dX5_readTable_66 : decode cX5_readTable 66 = .ok (.getfield 19, 3) := by decide +kernel
theorem dX5_readTable_69 : decode cX5_readTable 69 = .ok (.getfield 115, 3) := by decide +kernel
theorem dX5_readTable_72 : decode cX5_readTable 72 = .ok (.iconst 1, 1) := by decide +kernel
theorem dX5_readTable_73 : decode cX5_readTable 73 = .ok (.isub, 1) := by decide +kernel
theorem dX5_readTable_74 : decode cX5_readTable 74 = .ok (.invokevirtual 107, 3) := by decide +kernel
theorem dX5_readTable_77 : decode cX5_readTable 77 = .ok (.iastore, 1) := by decide +kernel
theorem dX5_readTable_78 : decode cX5_readTable 78 = .ok (.aload_n 0, 1) := by decide +kernel
theorem dX5_readTable_79 : decode cX5_readTable 79 = .ok (.ldc 162, 2) := by decide +kernel
theorem dX5_readTable_81 : decode cX5_readTable 81 = .ok (.invokevirtual 101, 3) := by decide +kernel
theorem dX5_readTable_84 : decode cX5_readTable 84 = .ok (.aload_n 0, 1) := by decide +kernel
theorem dX5_readTable_85 : decode cX5_readTable 85 = .ok (.getfield 19, 3) := by decide +kernel
theorem dX5_readTable_88 : decode cX5_readTable 88 = .ok (.getfield 164, 3) := by decide +kernel
theorem dX5_readTable_91 : decode cX5_readTable 91 = .ok (.iload_n 1, 1) := by decide +kernel
theorem dX5_readTable_92 : decode cX5_readTable 92 = .ok (.aload_n 0, 1) := by decide +kernel
theorem dX5_readTable_93 : decode cX5_readTable 93 = .ok (.iconst 0, 1) := by decide +kernel
theorem dX5_readTable_94 : decode cX5_readTable 94 = .ok (.sipush 999, 3) := by decide +kernel
theorem dX5_readTable_97 : decode cX5_readTable 97 = .ok (.invokevirtual 107, 3) := by decide +kernel
theorem dX5_readTable_100 : decode cX5_readTable 100 = .ok (.iastore, 1) := by decide +kernel
theorem dX5_readTable_101 : decode cX5_readTable 101 = .ok (.aload_n 0, 1) := by decide +kernel
theorem dX5_readTable_102 : decode cX5_readTable 102 = .ok (.getfield 19, 3) := by decide +kernel
theorem dX5_readTable_105 : decode cX5_readTable 105 = .ok (.dup, 1) := by decide +kernel
theorem dX5_readTable_106 : decode cX5_readTable 106 = .ok (.getfield 153, 3) := by decide +kernel
theorem dX5_readTable_109 : decode cX5_readTable 109 = .ok (.iconst 1, 1) := by decide +kernel
theorem dX5_readTable_110 : decode cX5_readTable 110 = .ok (.iadd, 1) := by decide +kernel
theorem dX5_readTable_111 : decode cX5_readTable 111 = .ok (.putfield 153, 3) := by decide +kernel
theorem dX5_readTable_114 : decode cX5_readTable 114 = .ok (.return_, 1) := by decide +kernel
theorem dX5_readRoad_0 : decode cX5_readRoad 0 = .ok (.aload_n 0, 1) := by decide +kernel
theorem dX5_readRoad_1 : decode cX5_readRoad 1 = .ok (.aload_n 0, 1) := by decide +kernel
theorem dX5_readRoad_2 : decode cX5_readRoad 2 = .ok (.getfield 19, 3) := by decide +kernel
theorem dX5_readRoad_5 : decode cX5_readRoad 5 = .ok (.getfield 167, 3) := by decide +kernel
theorem dX5_readRoad_8 : decode cX5_readRoad 8 = .ok (.iconst (-1), 1) := by decide +kernel
theorem dX5_readRoad_9 : decode cX5_readRoad 9 = .ok (.if_icmp .eq 7, 3) := by decide +kernel
theorem dX5_readRoad_12 : decode cX5_readRoad 12 = .ok (.iconst 1, 1) := by decide +kernel
theorem dX5_readRoad_13 : decode cX5_readRoad 13 = .ok (.goto 4, 3) := by decide +kernel
theorem dX5_readRoad_16 : decode cX5_readRoad 16 = .ok (.iconst 0, 1) := by decide +kernel
theorem dX5_readRoad_17 : decode cX5_readRoad 17 = .ok (.invokevirtual 133, 3) := by decide +kernel
theorem dX5_readRoad_20 : decode cX5_readRoad 20 = .ok (.aload_n 0, 1) := by decide +kernel
theorem dX5_readRoad_21 : decode cX5_readRoad 21 = .ok (.ldc 77, 2) := by decide +kernel
theorem dX5_readRoad_23 : decode cX5_readRoad 23 = .ok (.invokevirtual 101, 3) := by decide +kernel
theorem dX5_readRoad_26 : decode cX5_readRoad 26 = .ok (.aload_n 0, 1) := by decide +kernel
theorem dX5_readRoad_27 : decode cX5_readRoad 27 = .ok (.getfield 19, 3) := by decide +kernel
theorem dX5_readRoad_30 : decode cX5_readRoad 30 = .ok (.aload_n 0, 1) := by decide +kernel
theorem dX5_readRoad_31 : decode cX5_readRoad 31 = .ok (.iconst 0, 1) := by decide +kernel
theorem dX5_readRoad_32 : decode cX5_readRoad 32 = .ok (.aload_n 0, 1) := by decide +kernel
theorem dX5_readRoad_33 : decode cX5_readRoad 33 = .ok (.getfield 19, 3) := by decide +kernel
theorem dX5_readRoad_36 : decode cX5_readRoad 36 = .ok (.getfield 115, 3) := by decide +kernel
theorem dX5_readRoad_39 : decode cX5_readRoad 39 = .ok (.iconst 1, 1) := by decide +kernel
theorem dX5_readRoad_40 : decode cX5_readRoad 40 = .ok (.isub, 1) := by decide +kernel
theorem dX5_readRoad_41 : decode cX5_readRoad 41 = .ok (.invokevirtual 107, 3) := by decide +kernel
theorem dX5_readRoad_44 : decode cX5_readRoad 44 = .ok (.putfield 167, 3) := by decide +kernel
theorem dX5_readRoad_47 : decode cX5_readRoad 47 = .ok (.return_, 1) := by decide +kernel
theorem dX5_readVane_0 : decode cX5_readVane 0 = .ok (.aload_n 0, 1) := by decide +kernel
theorem dX5_readVane_1 : decode cX5_readVane 1 = .ok (.aload_n 0, 1) := by decide +kernel
theorem dX5_readVane_2 : decode cX5_readVane 2 = .ok (.getfield 30, 3) := by decide +kernel
theorem dX5_readVane_5 : decode cX5_readVane 5 = .ok (.invokevirtual 133, 3) := by decide +kernel
theorem dX5_readVane_8 : decode cX5_readVane 8 = .ok (.aload_n 0, 1) := by decide +kernel
theorem dX5_readVane_9 : decode cX5_readVane 9 = .ok (.iconst 1, 1) := by decide +kernel
theorem dX5_readVane_10 : decode cX5_readVane 10 = .ok (.putfield 30, 3) := by decide +kernel
theorem dX5_readVane_13 : decode cX5_readVane 13 = .ok (.aload_n 0, 1) := by decide +kernel
theorem dX5_readVane_14 : decode cX5_readVane 14 = .ok (.ldc 82, 2) := by decide +kernel
theorem dX5_readVane_16 : decode cX5_readVane 16 = .ok (.invokevirtual 101, 3) := by decide +kernel
theorem dX5_readVane_19 : decode cX5_readVane 19 = .ok (.aload_n 0, 1) := by decide +kernel
theorem dX5_readVane_20 : decode cX5_readVane 20 = .ok (.ldc 169, 2) := by decide +kernel
theorem dX5_readVane_22 : decode cX5_readVane 22 = .ok (.invokevirtual 101, 3) := by decide +kernel
theorem dX5_readVane_25 : decode cX5_readVane 25 = .ok (.aload_n 0, 1) := by decide +kernel
theorem dX5_readVane_26 : decode cX5_readVane 26 = .ok (.getfield 19, 3) := by decide +kernel
theorem dX5_readVane_29 : decode cX5_readVane 29 = .ok (.aload_n 0, 1) := by decide +kernel
theorem dX5_readVane_30 : decode cX5_readVane 30 = .ok (.iconst 0, 1) := by decide +kernel
theorem dX5_readVane_31 : decode cX5_readVane 31 = .ok (.bipush 20, 2) := by decide +kernel
theorem dX5_readVane_33 : decode cX5_readVane 33 = .ok (.invokevirtual 107, 3) := by decide +kernel
theorem dX5_readVane_36 : decode cX5_readVane 36 = .ok (.putfield 171, 3) := by decide +kernel
theorem dX5_readVane_39 : decode cX5_readVane 39 = .ok (.aload_n 0, 1) := by decide +kernel
theorem dX5_readVane_40 : decode cX5_readVane 40 = .ok (.ldc 173, 2) := by decide +kernel
theorem dX5_readVane_42 : decode cX5_readVane 42 = .ok (.invokevirtual 101, 3) := by decide +kernel
theorem dX5_readVane_45 : decode cX5_readVane 45 = .ok (.aload_n 0, 1) := by decide +kernel
theorem dX5_readVane_46 : decode cX5_readVane 46 = .ok (.getfield 19, 3) := by decide +kernel
theorem dX5_readVane_49 : decode cX5_readVane 49 = .ok (.aload_n 0, 1) := by decide +kernel
theorem dX5_readVane_50 : decode cX5_readVane 50 = .ok (.iconst 1, 1) := by decide +kernel
theorem dX5_readVane_51 : decode cX5_readVane 51 = .ok (.bipush 60, 2) := by decide +kernel
theorem dX5_readVane_53 : decode cX5_readVane 53 = .ok (.invokevirtual 107, 3) := by decide +kernel
theorem dX5_readVane_56 : decode cX5_readVane 56 = .ok (.putfield 130, 3) := by decide +kernel
theorem dX5_readVane_59 : decode cX5_readVane 59 = .ok (.return_, 1) := by decide +kernel
theorem dX5_readRule_0 : decode cX5_readRule 0 = .ok (.aload_n 0, 1) := by decide +kernel
theorem dX5_readRule_1 : decode cX5_readRule 1 = .ok (.getfield 19, 3) := by decide +kernel
theorem dX5_readRule_4 : decode cX5_readRule 4 = .ok (.getfield 174, 3) := by decide +kernel
theorem dX5_readRule_7 : decode cX5_readRule 7 = .ok (.bipush 6, 2) := by decide +kernel
theorem dX5_readRule_9 : decode cX5_readRule 9 = .ok (.if_icmp .lt 9, 3) := by decide +kernel
theorem dX5_readRule_12 : decode cX5_readRule 12 = .ok (.aload_n 0, 1) := by decide +kernel
theorem dX5_readRule_13 : decode cX5_readRule 13 = .ok (.iconst 3, 1) := by decide +kernel
theorem dX5_readRule_14 : decode cX5_readRule 14 = .ok (.invokevirtual 92, 3) := by decide +kernel
theorem dX5_readRule_17 : decode cX5_readRule 17 = .ok (.return_, 1) := by decide +kernel
theorem dX5_readRule_18 : decode cX5_readRule 18 = .ok (.aload_n 0, 1) := by decide +kernel
theorem dX5_readRule_19 : decode cX5_readRule 19 = .ok (.ldc 87, 2) := by decide +kernel
theorem dX5_readRule_21 : decode cX5_readRule 21 = .ok (.invokevirtual 101, 3) := by decide +kernel
theorem dX5_readRule_24 : decode cX5_readRule 24 = .ok (.aload_n 0, 1) := by decide +kernel
theorem dX5_readRule_25 : decode cX5_readRule 25 = .ok (.ldc 177, 2) := by decide +kernel
theorem dX5_readRule_27 : decode cX5_readRule 27 = .ok (.invokevirtual 101, 3) := by decide +kernel
theorem dX5_readRule_30 : decode cX5_readRule 30 = .ok (.aload_n 0, 1) := by decide +kernel
theorem dX5_readRule_31 : decode cX5_readRule 31 = .ok (.aload_n 0, 1) := by decide +kernel
theorem dX5_readRule_32 : decode cX5_readRule 32 = .ok (.getfield 33, 3) := by decide +kernel
theorem dX5_readRule_35 : decode cX5_readRule 35 = .ok (.iconst 1, 1) := by decide +kernel
theorem dX5_readRule_36 : decode cX5_readRule 36 = .ok (.iadd, 1) := by decide +kernel
theorem dX5_readRule_37 : decode cX5_readRule 37 = .ok (.bipush 9, 2) := by decide +kernel
theorem dX5_readRule_39 : decode cX5_readRule 39 = .ok (.invokevirtual 107, 3) := by decide +kernel
theorem dX5_readRule_42 : decode cX5_readRule 42 = .ok (.istore_n 1, 1) := by decide +kernel
theorem dX5_readRule_43 : decode cX5_readRule 43 = .ok (.aload_n 0, 1) := by decide +kernel
theorem dX5_readRule_44 : decode cX5_readRule 44 = .ok (.ldc 140, 2) := by decide +kernel
theorem dX5_readRule_46 : decode cX5_readRule 46 = .ok (.invokevirtual 101, 3) := by decide +kernel
theorem dX5_readRule_49 : decode cX5_readRule 49 = .ok (.aload_n 0, 1) := by decide +kernel
theorem dX5_readRule_50 : decode cX5_readRule 50 = .ok (.getfield 19, 3) := by decide +kernel
theorem dX5_readRule_53 : decode cX5_readRule 53 = .ok (.iload_n 1, 1) := by decide +kernel
theorem dX5_readRule_54 : decode cX5_readRule 54 = .ok (.aload_n 0, 1) := by decide +kernel
theorem dX5_readRule_55 : decode cX5_readRule 55 = .ok (.iconst 0, 1) := by decide +kernel
theorem dX5_readRule_56 : decode cX5_readRule 56 = .ok (.bipush 60, 2) := by decide +kernel
theorem dX5_readRule_58 : decode cX5_readRule 58 = .ok (.invokevirtual 107, 3) := by decide +kernel
theorem dX5_readRule_61 : decode cX5_readRule 61 = .ok (.invokevirtual 179, 3) := by decide +kernel
theorem dX5_readRule_64 : decode cX5_readRule 64 = .ok (.aload_n 0, 1) := by decide +kernel
theorem dX5_readRule_65 : decode cX5_readRule 65 = .ok (.iload_n 1, 1) := by decide +kernel
theorem dX5_readRule_66 : decode cX5_readRule 66 = .ok (.putfield 33, 3) := by decide +kernel
theorem dX5_readRule_69 : decode cX5_readRule 69 = .ok (.return_, 1) := by decide +kernel
theorem dX5_readOnce_0 : decode cX5_readOnce 0 = .ok (.iload_n 1, 1) := by decide +kernel
theorem dX5_readOnce_1 : decode cX5_readOnce 1 = .ok (.ifCond .eq 8, 3) := by decide +kernel
theorem dX5_readOnce_4 : decode cX5_readOnce 4 = .ok (.aload_n 0, 1) := by decide +kernel
theorem dX5_readOnce_5 : decode cX5_readOnce 5 = .ok (.iconst 2, 1) := by decide +kernel
theorem dX5_readOnce_6 : decode cX5_readOnce 6 = .ok (.invokevirtual 92, 3) := by decide +kernel
theorem dX5_readOnce_9 : decode cX5_readOnce 9 = .ok (.return_, 1) := by decide +kernel
theorem dX5_readWord_0 : decode cX5_readWord 0 = .ok (.aload_n 0, 1) := by decide +kernel
theorem dX5_readWord_1 : decode cX5_readWord 1 = .ok (.getfield 23, 3) := by decide +kernel
theorem dX5_readWord_4 : decode cX5_readWord 4 = .ok (.ifCond .eq 4, 3) := by decide +kernel
theorem dX5_readWord_7 : decode cX5_readWord 7 = .ok (.return_, 1) := by decide +kernel
theorem dX5_readWord_8 : decode cX5_readWord 8 = .ok (.aload_n 0, 1) := by decide +kernel
theorem dX5_readWord_9 : decode cX5_readWord 9 = .ok (.getfield 15, 3) := by decide +kernel
theorem dX5_readWord_12 : decode cX5_readWord 12 = .ok (.aload_n 1, 1) := by decide +kernel
theorem dX5_readWord_13 : decode cX5_readWord 13 = .ok (.invokevirtual 60, 3) := by decide +kernel
theorem dX5_readWord_16 : decode cX5_readWord 16 = .ok (.ifCond .eq 13, 3) := by decide +kernel
theorem dX5_readWord_19 : decode cX5_readWord 19 = .ok (.aload_n 0, 1) := by decide +kernel
theorem dX5_readWord_20 : decode cX5_readWord 20 = .ok (.getfield 15, 3) := by decide +kernel
theorem dX5_readWord_23 : decode cX5_readWord 23 = .ok (.invokevirtual 183, 3) := by decide +kernel
theorem dX5_readWord_26 : decode cX5_readWord 26 = .ok (.goto 8, 3) := by decide +kernel
theorem dX5_readWord_29 : decode cX5_readWord 29 = .ok (.aload_n 0, 1) := by decide +kernel
theorem dX5_readWord_30 : decode cX5_readWord 30 = .ok (.iconst 1, 1) := by decide +kernel
theorem dX5_readWord_31 : decode cX5_readWord 31 = .ok (.invokevirtual 92, 3) := by decide +kernel
theorem dX5_readWord_34 : decode cX5_readWord 34 = .ok (.return_, 1) := by decide +kernel
theorem dX5_readNumber_0 : decode cX5_readNumber 0 = .ok (.aload_n 0, 1) := by decide +kernel
theorem dX5_readNumber_1 : decode cX5_readNumber 1 = .ok (.getfield 23, 3) := by decide +kernel
theorem dX5_readNumber_4 : decode cX5_readNumber 4 = .ok (.ifCond .eq 5, 3) := by decide +kernel
theorem dX5_readNumber_7 : decode cX5_readNumber 7 = .ok (.iconst 0, 1) := by decide +kernel
theorem dX5_readNumber_8 : decode cX5_readNumber 8 = .ok (.ireturn, 1) := by decide +kernel
theorem dX5_readNumber_9 : decode cX5_readNumber 9 = .ok (.aload_n 0, 1) := by decide +kernel
theorem dX5_readNumber_10 : decode cX5_readNumber 10 = .ok (.getfield 15, 3) := by decide +kernel
theorem dX5_readNumber_13 : decode cX5_readNumber 13 = .ok (.getfield 46, 3) := by decide +kernel
theorem dX5_readNumber_16 : decode cX5_readNumber 16 = .ok (.iconst 2, 1) := by decide +kernel
theorem dX5_readNumber_17 : decode cX5_readNumber 17 = .ok (.if_icmp .eq 10, 3) := by decide +kernel
theorem dX5_readNumber_20 : decode cX5_readNumber 20 = .ok (.aload_n 0, 1) := by decide +kernel
theorem dX5_readNumber_21 : decode cX5_readNumber 21 = .ok (.iconst 1, 1) := by decide +kernel
theorem dX5_readNumber_22 : decode cX5_readNumber 22 = .ok (.invokevirtual 92, 3) := by decide +kernel
theorem dX5_readNumber_25 : decode cX5_readNumber 25 = .ok (.iconst 0, 1) := by decide +kernel
theorem dX5_readNumber_26 : decode cX5_readNumber 26 = .ok (.ireturn, 1) := by decide +kernel
theorem dX5_readNumber_27 : decode cX5_readNumber 27 = .ok (.aload_n 0, 1) := by decide +kernel
theorem dX5_readNumber_28 : decode cX5_readNumber 28 = .ok (.getfield 15, 3) := by decide +kernel
theorem dX5_readNumber_31 : decode cX5_readNumber 31 = .ok (.invokevirtual 186, 3) := by decide +kernel
theorem dX5_readNumber_34 : decode cX5_readNumber 34 = .ok (.istore_n 3, 1) := by decide +kernel
theorem dX5_readNumber_35 : decode cX5_readNumber 35 = .ok (.iload_n 3, 1) := by decide +kernel
theorem dX5_readNumber_36 : decode cX5_readNumber 36 = .ok (.iload_n 1, 1) := by decide +kernel
theorem dX5_readNumber_37 : decode cX5_readNumber 37 = .ok (.iload_n 2, 1) := by decide +kernel
theorem dX5_readNumber_38 : decode cX5_readNumber 38 = .ok (.invokestatic 190, 3) := by decide +kernel
theorem dX5_readNumber_41 : decode cX5_readNumber 41 = .ok (.ifCond .eq 13, 3) := by decide +kernel
theorem dX5_readNumber_44 : decode cX5_readNumber 44 = .ok (.aload_n 0, 1) := by decide +kernel
theorem dX5_readNumber_45 : decode cX5_readNumber 45 = .ok (.getfield 15, 3) := by decide +kernel
theorem dX5_readNumber_48 : decode cX5_readNumber 48 = .ok (.invokevirtual 183, 3) := by decide +kernel
theorem dX5_readNumber_51 : decode cX5_readNumber 51 = .ok (.goto 8, 3) := by decide +kernel
theorem dX5_readNumber_54 : decode cX5_readNumber 54 = .ok (.aload_n 0, 1) := by decide +kernel
theorem dX5_readNumber_55 : decode cX5_readNumber 55 = .ok (.iconst 2, 1) := by decide +kernel
theorem dX5_readNumber_56 : decode cX5_readNumber 56 = .ok (.invokevirtual 92, 3) := by decide +kernel
theorem dX5_readNumber_59 : decode cX5_readNumber 59 = .ok (.iload_n 3, 1) := by decide +kernel
theorem dX5_readNumber_60 : decode cX5_readNumber 60 = .ok (.ireturn, 1) := by decide +kernel
theorem dX5_readSign_0 : decode cX5_readSign 0 = .ok (.aload_n 0, 1) := by decide +kernel
theorem dX5_readSign_1 : decode cX5_readSign 1 = .ok (.getfield 23, 3) := by decide +kernel
theorem dX5_readSign_4 : decode cX5_readSign 4 = .ok (.ifCond .eq 4, 3) := by decide +kernel
theorem dX5_readSign_7 : decode cX5_readSign 7 = .ok (.return_, 1) := by decide +kernel
theorem dX5_readSign_8 : decode cX5_readSign 8 = .ok (.aload_n 0, 1) := by decide +kernel
theorem dX5_readSign_9 : decode cX5_readSign 9 = .ok (.getfield 15, 3) := by decide +kernel
theorem dX5_readSign_12 : decode cX5_readSign 12 = .ok (.getfield 46, 3) := by decide +kernel
theorem dX5_readSign_15 : decode cX5_readSign 15 = .ok (.iconst 3, 1) := by decide +kernel
theorem dX5_readSign_16 : decode cX5_readSign 16 = .ok (.if_icmp .ne 26, 3) := by decide +kernel
theorem dX5_readSign_19 : decode cX5_readSign 19 = .ok (.aload_n 0, 1) := by decide +kernel
theorem dX5_readSign_20 : decode cX5_readSign 20 = .ok (.getfield 19, 3) := by decide +kernel
theorem dX5_readSign_23 : decode cX5_readSign 23 = .ok (.dup, 1) := by decide +kernel
theorem dX5_readSign_24 : decode cX5_readSign 24 = .ok (.getfield 52, 3) := by decide +kernel
theorem dX5_readSign_27 : decode cX5_readSign 27 = .ok (.iconst 1, 1) := by decide +kernel
theorem dX5_readSign_28 : decode cX5_readSign 28 = .ok (.iadd, 1) := by decide +kernel
theorem dX5_readSign_29 : decode cX5_readSign 29 = .ok (.putfield 52, 3) := by decide +kernel
theorem dX5_readSign_32 : decode cX5_readSign 32 = .ok (.aload_n 0, 1) := by decide +kernel
theorem dX5_readSign_33 : decode cX5_readSign 33 = .ok (.getfield 15, 3) := by decide +kernel
theorem dX5_readSign_36 : decode cX5_readSign 36 = .ok (.invokevirtual 183, 3) := by decide +kernel
theorem dX5_readSign_39 : decode cX5_readSign 39 = .ok (.goto 8, 3) := by decide +kernel
theorem dX5_readSign_42 : decode cX5_readSign 42 = .ok (.aload_n 0, 1) := by decide +kernel
theorem dX5_readSign_43 : decode cX5_readSign 43 = .ok (.iconst 1, 1) := by decide +kernel
theorem dX5_readSign_44 : decode cX5_readSign 44 = .ok (.invokevirtual 92, 3) := by decide +kernel
theorem dX5_readSign_47 : decode cX5_readSign 47 = .ok (.return_, 1) := by decide +kernel
theorem dX5_note_0 : decode cX5_note 0 = .ok (.aload_n 0, 1) := by decide +kernel
theorem dX5_note_1 : decode cX5_note 1 = .ok (.getfield 23, 3) := by decide +kernel
theorem dX5_note_4 : decode cX5_note 4 = .ok (.ifCond .ne 19, 3) := by decide +kernel
theorem dX5_note_7 : decode cX5_note 7 = .ok (.aload_n 0, 1) := by decide +kernel
theorem dX5_note_8 : decode cX5_note 8 = .ok (.iload_n 1, 1) := by decide +kernel
theorem dX5_note_9 : decode cX5_note 9 = .ok (.putfield 23, 3) := by decide +kernel
theorem dX5_note_12 : decode cX5_note 12 = .ok (.aload_n 0, 1) := by decide +kernel
theorem dX5_note_13 : decode cX5_note 13 = .ok (.aload_n 0, 1) := by decide +kernel
theorem dX5_note_14 : decode cX5_note 14 = .ok (.getfield 15, 3) := by decide +kernel
theorem dX5_note_17 : decode cX5_note 17 = .ok (.getfield 194, 3) := by decide +kernel
theorem dX5_note_20 : decode cX5_note 20 = .ok (.putfield 9, 3) := by decide +kernel
theorem dX5_note_23 : decode cX5_note 23 = .ok (.return_, 1) := by decide +kernel
theorem dX6_init_0 : decode cX6_init 0 = .ok (.aload_n 0, 1) := by decide +kernel
theorem dX6_init_1 : decode cX6_init 1 = .ok (.invokespecial 3, 3) := by decide +kernel
theorem dX6_init_4 : decode cX6_init 4 = .ok (.aload_n 0, 1) := by decide +kernel
theorem dX6_init_5 : decode cX6_init 5 = .ok (.sipush 900, 3) := by decide +kernel
theorem dX6_init_8 : decode cX6_init 8 = .ok (.newarray .int, 2) := by decide +kernel
theorem dX6_init_10 : decode cX6_init 10 = .ok (.putfield 9, 3) := by decide +kernel
theorem dX6_init_13 : decode cX6_init 13 = .ok (.return_, 1) := by decide +kernel
theorem dX6_driest_0 : decode cX6_driest 0 = .ok (.aload_n 0, 1) := by decide +kernel
theorem dX6_driest_1 : decode cX6_driest 1 = .ok (.getfield 9, 3) := by decide +kernel
theorem dX6_driest_4 : decode cX6_driest 4 = .ok (.ldc 15, 2) := by decide +kernel
theorem dX6_driest_6 : decode cX6_driest 6 = .ok (.invokestatic 16, 3) := by decide +kernel
theorem dX6_driest_9 : decode cX6_driest 9 = .ok (.aload_n 0, 1) := by decide +kernel
theorem dX6_driest_10 : decode cX6_driest 10 = .ok (.getfield 9, 3) := by decide +kernel
theorem dX6_driest_13 : decode cX6_driest 13 = .ok (.iload_n 2, 1) := by decide +kernel
theorem dX6_driest_14 : decode cX6_driest 14 = .ok (.aload_n 1, 1) := by decide +kernel
theorem dX6_driest_15 : decode cX6_driest 15 = .ok (.getfield 22, 3) := by decide +kernel
theorem dX6_driest_18 : decode cX6_driest 18 = .ok (.getfield 28, 3) := by decide +kernel
theorem dX6_driest_21 : decode cX6_driest 21 = .ok (.iload_n 2, 1) := by decide +kernel
theorem dX6_driest_22 : decode cX6_driest 22 = .ok (.iaload, 1) := by decide +kernel
theorem dX6_driest_23 : decode cX6_driest 23 = .ok (.iastore, 1) := by decide +kernel
theorem dX6_driest_24 : decode cX6_driest 24 = .ok (.iconst 1, 1) := by decide +kernel
theorem dX6_driest_25 : decode cX6_driest 25 = .ok (.istore 4, 2) := by decide +kernel
theorem dX6_driest_27 : decode cX6_driest 27 = .ok (.iconst 0, 1) := by decide +kernel
theorem dX6_driest_28 : decode cX6_driest 28 = .ok (.istore 5, 2) := by decide +kernel
theorem dX6_driest_30 : decode cX6_driest 30 = .ok (.iload 5, 2) := by decide +kernel
theorem dX6_driest_32 : decode cX6_driest 32 = .ok (.sipush 900, 3) := by decide +kernel
theorem dX6_driest_35 : decode cX6_driest 35 = .ok (.if_icmp .ge 33, 3) := by decide +kernel
theorem dX6_driest_38 : decode cX6_driest 38 = .ok (.iload 4, 2) := by decide +kernel
theorem dX6_driest_40 : decode cX6_driest 40 = .ok (.ifCond .eq 28, 3) := by decide +kernel
theorem dX6_driest_43 : decode cX6_driest 43 = .ok (.aload_n 0, 1) := by decide +kernel
theorem dX6_driest_44 : decode cX6_driest 44 = .ok (.aload_n 1, 1) := by decide +kernel
theorem dX6_driest_45 : decode cX6_driest 45 = .ok (.iconst 1, 1) := by decide +kernel
theorem dX6_driest_46 : decode cX6_driest 46 = .ok (.invokevirtual 33, 3) := by decide +kernel
theorem dX6_driest_49 : decode cX6_driest 49 = .ok (.istore 4, 2) := by decide +kernel
theorem dX6_driest_51 : decode cX6_driest 51 = .ok (.iload 4, 2) := by decide +kernel
theorem dX6_driest_53 : decode cX6_driest 53 = .ok (.aload_n 0, 1) := by decide +kernel
theorem dX6_driest_54 : decode cX6_driest 54 = .ok (.aload_n 1, 1) := by decide +kernel
theorem dX6_driest_55 : decode cX6_driest 55 = .ok (.iconst 0, 1) := by decide +kernel
theorem dX6_driest_56 : decode cX6_driest 56 = .ok (.invokevirtual 33, 3) := by decide +kernel
theorem dX6_driest_59 : decode cX6_driest 59 = .ok (.ior, 1) := by decide +kernel
theorem dX6_driest_60 : decode cX6_driest 60 = .ok (.istore 4, 2) := by decide +kernel
theorem dX6_driest_62 : decode cX6_driest 62 = .ok (.iinc 5 1, 3) := by decide +kernel
theorem dX6_driest_65 : decode cX6_driest 65 = .ok (.goto (-35), 3) := by decide +kernel
theorem dX6_driest_68 : decode cX6_driest 68 = .ok (.aload_n 0, 1) := by decide +kernel
theorem dX6_driest_69 : decode cX6_driest 69 = .ok (.getfield 9, 3) := by decide +kernel
theorem dX6_driest_72 : decode cX6_driest 72 = .ok (.iload_n 3, 1) := by decide +kernel
theorem dX6_driest_73 : decode cX6_driest 73 = .ok (.iaload, 1) := by decide +kernel
theorem dX6_driest_74 : decode cX6_driest 74 = .ok (.ldc 15, 2) := by decide +kernel
theorem dX6_driest_76 : decode cX6_driest 76 = .ok (.if_icmp .ne 7, 3) := by decide +kernel
theorem dX6_driest_79 : decode cX6_driest 79 = .ok (.iconst (-1), 1) := by decide +kernel
theorem dX6_driest_80 : decode cX6_driest 80 = .ok (.goto 9, 3) := by decide +kernel
theorem dX6_driest_83 : decode cX6_driest 83 = .ok (.aload_n 0, 1) := by decide +kernel
theorem dX6_driest_84 : decode cX6_driest 84 = .ok (.getfield 9, 3) := by decide +kernel
theorem dX6_driest_87 : decode cX6_driest 87 = .ok (.iload_n 3, 1) := by decide +kernel
theorem dX6_driest_88 : decode cX6_driest 88 = .ok (.iaload, 1) := by decide +kernel
theorem dX6_driest_89 : decode cX6_driest 89 = .ok (.ireturn, 1) := by decide +kernel
theorem dX6_sweep_0 : decode cX6_sweep 0 = .ok (.aload_n 1, 1) := by decide +kernel
theorem dX6_sweep_1 : decode cX6_sweep 1 = .ok (.getfield 37, 3) := by decide +kernel
theorem dX6_sweep_4 : decode cX6_sweep 4 = .ok (.getfield 41, 3) := by decide +kernel
theorem dX6_sweep_7 : decode cX6_sweep 7 = .ok (.istore_n 3, 1) := by decide +kernel
theorem dX6_sweep_8 : decode cX6_sweep 8 = .ok (.aload_n 1, 1) := by decide +kernel
theorem dX6_sweep_9 : decode cX6_sweep 9 = .ok (.getfield 37, 3) := by decide +kernel
theorem dX6_sweep_12 : decode cX6_sweep 12 = .ok (.getfield 47, 3) := by decide +kernel
theorem dX6_sweep_15 : decode cX6_sweep 15 = .ok (.istore 4, 2) := by decide +kernel
theorem dX6_sweep_17 : decode cX6_sweep 17 = .ok (.iconst 0, 1) := by decide +kernel
theorem dX6_sweep_18 : decode cX6_sweep 18 = .ok (.istore 5, 2) := by decide +kernel
theorem dX6_sweep_20 : decode cX6_sweep 20 = .ok (.iconst 0, 1) := by decide +kernel
theorem dX6_sweep_21 : decode cX6_sweep 21 = .ok (.istore 6, 2) := by decide +kernel
theorem dX6_sweep_23 : decode cX6_sweep 23 = .ok (.iload 6, 2) := by decide +kernel
theorem dX6_sweep_25 : decode cX6_sweep 25 = .ok (.iload 4, 2) := by decide +kernel
theorem dX6_sweep_27 : decode cX6_sweep 27 = .ok (.if_icmp .ge 87, 3) := by decide +kernel
theorem dX6_sweep_30 : decode cX6_sweep 30 = .ok (.iload_n 2, 1) := by decide +kernel
theorem dX6_sweep_31 : decode cX6_sweep 31 = .ok (.ifCond .eq 8, 3) := by decide +kernel
theorem dX6_sweep_34 : decode cX6_sweep 34 = .ok (.iload 6, 2) := by decide +kernel
theorem dX6_sweep_36 : decode cX6_sweep 36 = .ok (.goto 10, 3) := by decide +kernel
theorem dX6_sweep_39 : decode cX6_sweep 39 = .ok (.iload 4, 2) := by decide +kernel
theorem dX6_sweep_41 : decode cX6_sweep 41 = .ok (.iconst 1, 1) := by decide +kernel
theorem dX6_sweep_42 : decode cX6_sweep 42 = .ok (.isub, 1) := by decide +kernel
theorem dX6_sweep_43 : decode cX6_sweep 43 = .ok (.iload 6, 2) := by decide +kernel
theorem dX6_sweep_45 : decode cX6_sweep 45 = .ok (.isub, 1) := by decide +kernel
theorem dX6_sweep_46 : decode cX6_sweep 46 = .ok (.istore 7, 2) := by decide +kernel
theorem dX6_sweep_48 : decode cX6_sweep 48 = .ok (.iconst 0, 1) := by decide +kernel
theorem dX6_sweep_49 : decode cX6_sweep 49 = .ok (.istore 8, 2) := by decide +kernel
theorem dX6_sweep_51 : decode cX6_sweep 51 = .ok (.iload 8, 2) := by decide +kernel
theorem dX6_sweep_53 : decode cX6_sweep 53 = .ok (.iload_n 3, 1) := by decide +kernel
theorem dX6_sweep_54 : decode cX6_sweep 54 = .ok (.if_icmp .ge 54, 3) := by decide +kernel
theorem dX6_sweep_57 : decode cX6_sweep 57 = .ok (.iload_n 2, 1) := by decide +kernel
theorem dX6_sweep_58 : decode cX6_sweep 58 = .ok (.ifCond .eq 8, 3) := by decide +kernel
theorem dX6_sweep_61 : decode cX6_sweep 61 = .ok (.iload 8, 2) := by decide +kernel
theorem dX6_sweep_63 : decode cX6_sweep 63 = .ok (.goto 9, 3) := by decide +kernel
theorem dX6_sweep_66 : decode cX6_sweep 66 = .ok (.iload_n 3, 1) := by decide +kernel
theorem dX6_sweep_67 : decode cX6_sweep 67 = .ok (.iconst 1, 1) := by decide +kernel
theorem dX6_sweep_68 : decode cX6_sweep 68 = .ok (.isub, 1) := by decide +kernel
theorem dX6_sweep_69 : decode cX6_sweep 69 = .ok (.iload 8, 2) := by decide +kernel
theorem dX6_sweep_71 : decode cX6_sweep 71 = .ok (.isub, 1) := by decide +kernel
theorem dX6_sweep_72 : decode cX6_sweep 72 = .ok (.istore 9, 2) := by decide +kernel
theorem dX6_sweep_74 : decode cX6_sweep 74 = .ok (.aload_n 1, 1) := by decide +kernel
theorem dX6_sweep_75 : decode cX6_sweep 75 = .ok (.getfield 37, 3) := by decide +kernel
theorem dX6_sweep_78 : decode cX6_sweep 78 = .ok (.iload 9, 2) := by decide +kernel
theorem dX6_sweep_80 : decode cX6_sweep 80 = .ok (.iload 7, 2) := by decide +kernel
theorem dX6_sweep_82 : decode cX6_sweep 82 = .ok (.invokevirtual 50, 3) := by decide +kernel
theorem dX6_sweep_85 : decode cX6_sweep 85 = .ok (.ifCond .ne 17, 3) := by decide +kernel
theorem dX6_sweep_88 : decode cX6_sweep 88 = .ok (.iload 5, 2) := by decide +kernel
theorem dX6_sweep_90 : decode cX6_sweep 90 = .ok (.aload_n 0, 1) := by decide +kernel
theorem dX6_sweep_91 : decode cX6_sweep 91 = .ok (.aload_n 1, 1) := by decide +kernel
theorem dX6_sweep_92 : decode cX6_sweep 92 = .ok (.iload 9, 2) := by decide +kernel
theorem dX6_sweep_94 : decode cX6_sweep 94 = .ok (.iload 7, 2) := by decide +kernel
theorem dX6_sweep_96 : decode cX6_sweep 96 = .ok (.invokevirtual 54, 3) := by decide +kernel
theorem dX6_sweep_99 : decode cX6_sweep 99 = .ok (.ior, 1) := by decide +kernel
theorem dX6_sweep_100 : decode cX6_sweep 100 = .ok (.istore 5, 2) := by decide +kernel
theorem dX6_sweep_102 : decode cX6_sweep 102 = .ok (.iinc 8 1, 3) := by decide +kernel
theorem dX6_sweep_105 : decode cX6_sweep 105 = .ok (.goto (-54), 3) := by decide +kernel
theorem dX6_sweep_108 : decode cX6_sweep 108 = .ok (.iinc 6 1, 3) := by decide +kernel
theorem dX6_sweep_111 : decode cX6_sweep 111 = .ok (.goto (-88), 3) := by decide +kernel
theorem dX6_sweep_114 : decode cX6_sweep 114 = .ok (.iload 5, 2) := by decide +kernel
theorem dX6_sweep_116 : decode cX6_sweep 116 = .ok (.ireturn, 1) := by decide +kernel
theorem dX6_ease_0 : decode cX6_ease 0 = .ok (.ldc 15, 2) := by decide +kernel
theorem dX6_ease_2 : decode cX6_ease 2 = .ok (.istore 4, 2) := by decide +kernel
theorem dX6_ease_4 : decode cX6_ease 4 = .ok (.iconst 0, 1) := by decide +kernel
theorem dX6_ease_5 : decode cX6_ease 5 = .ok (.istore 5, 2) := by decide +kernel
theorem dX6_ease_7 : decode cX6_ease 7 = .ok (.iload 5, 2) := by decide +kernel
theorem dX6_ease_9 : decode cX6_ease 9 = .ok (.iconst 4, 1) := by decide +kernel
theorem dX6_ease_10 : decode cX6_ease 10 = .ok (.if_icmp .ge 62, 3) := by decide +kernel
theorem dX6_ease_13 : decode cX6_ease 13 = .ok (.iload_n 2, 1) := by decide +kernel
theorem dX6_ease_14 : decode cX6_ease 14 = .ok (.getstatic 58, 3) := by decide +kernel
theorem dX6_ease_17 : decode cX6_ease 17 = .ok (.iload 5, 2) := by decide +kernel
theorem dX6_ease_19 : decode cX6_ease 19 = .ok (.iaload, 1) := by decide +kernel
theorem dX6_ease_20 : decode cX6_ease 20 = .ok (.iadd, 1) := by decide +kernel
theorem dX6_ease_21 : decode cX6_ease 21 = .ok (.istore 6, 2) := by decide +kernel
theorem dX6_ease_23 : decode cX6_ease 23 = .ok (.iload_n 3, 1) := by decide +kernel
theorem dX6_ease_24 : decode cX6_ease 24 = .ok (.getstatic 61, 3) := by decide +kernel
theorem dX6_ease_27 : decode cX6_ease 27 = .ok (.iload 5, 2) := by decide +kernel
theorem dX6_ease_29 : decode cX6_ease 29 = .ok (.iaload, 1) := by decide +kernel
theorem dX6_ease_30 : decode cX6_ease 30 = .ok (.iadd, 1) := by decide +kernel
theorem dX6_ease_31 : decode cX6_ease 31 = .ok (.istore 7, 2) := by decide +kernel
theorem dX6_ease_33 : decode cX6_ease 33 = .ok (.aload_n 1, 1) := by decide +kernel
theorem dX6_ease_34 : decode cX6_ease 34 = .ok (.getfield 37, 3) := by decide +kernel
theorem dX6_ease_37 : decode cX6_ease 37 = .ok (.iload 6, 2) := by decide +kernel
theorem dX6_ease_39 : decode cX6_ease 39 = .ok (.iload 7, 2) := by decide +kernel
theorem dX6_ease_41 : decode cX6_ease 41 = .ok (.invokevirtual 64, 3) := by decide +kernel
theorem dX6_ease_44 : decode cX6_ease 44 = .ok (.ifCond .eq 22, 3) := by decide +kernel
theorem dX6_ease_47 : decode cX6_ease 47 = .ok (.iload 4, 2) := by decide +kernel
theorem dX6_ease_49 : decode cX6_ease 49 = .ok (.aload_n 0, 1) := by decide +kernel
theorem dX6_ease_50 : decode cX6_ease 50 = .ok (.getfield 9, 3) := by decide +kernel
theorem dX6_ease_53 : decode cX6_ease 53 = .ok (.iload 6, 2) := by decide +kernel
theorem dX6_ease_55 : decode cX6_ease 55 = .ok (.iload 7, 2) := by decide +kernel
theorem dX6_ease_57 : decode cX6_ease 57 = .ok (.invokestatic 67, 3) := by decide +kernel
theorem dX6_ease_60 : decode cX6_ease 60 = .ok (.iaload, 1) := by decide +kernel
theorem dX6_ease_61 : decode cX6_ease 61 = .ok (.invokestatic 71, 3) := by decide +kernel
theorem dX6_ease_64 : decode cX6_ease 64 = .ok (.istore 4, 2) := by decide +kernel
theorem dX6_ease_66 : decode cX6_ease 66 = .ok (.iinc 5 1, 3) := by decide +kernel
theorem dX6_ease_69 : decode cX6_ease 69 = .ok (.goto (-62), 3) := by decide +kernel
theorem dX6_ease_72 : decode cX6_ease 72 = .ok (.iload_n 2, 1) := by decide +kernel
theorem dX6_ease_73 : decode cX6_ease 73 = .ok (.iload_n 3, 1) := by decide +kernel
theorem dX6_ease_74 : decode cX6_ease 74 = .ok (.invokestatic 67, 3) := by decide +kernel
theorem dX6_ease_77 : decode cX6_ease 77 = .ok (.istore 5, 2) := by decide +kernel
theorem dX6_ease_79 : decode cX6_ease 79 = .ok (.iload 4, 2) := by decide +kernel
theorem dX6_ease_81 : decode cX6_ease 81 = .ok (.ldc 15, 2) := by decide +kernel
theorem dX6_ease_83 : decode cX6_ease 83 = .ok (.if_icmp .eq 26, 3) := by decide +kernel
theorem dX6_ease_86 : decode cX6_ease 86 = .ok (.iload 4, 2) := by decide +kernel
theorem dX6_ease_88 : decode cX6_ease 88 = .ok (.aload_n 1, 1) := by decide +kernel
theorem dX6_ease_89 : decode cX6_ease 89 = .ok (.getfield 22, 3) := by decide +kernel
theorem dX6_ease_92 : decode cX6_ease 92 = .ok (.getfield 28, 3) := by decide +kernel
theorem dX6_ease_95 : decode cX6_ease 95 = .ok (.iload 5, 2) := by decide +kernel
theorem dX6_ease_97 : decode cX6_ease 97 = .ok (.iaload, 1) := by decide +kernel
theorem dX6_ease_98 : decode cX6_ease 98 = .ok (.iadd, 1) := by decide +kernel
theorem dX6_ease_99 : decode cX6_ease 99 = .ok (.aload_n 0, 1) := by decide +kernel
theorem dX6_ease_100 : decode cX6_ease 100 = .ok (.getfield 9, 3) := by decide +kernel
theorem dX6_ease_103 : decode cX6_ease 103 = .ok (.iload 5, 2) := by decide +kernel
theorem dX6_ease_105 : decode cX6_ease 105 = .ok (.iaload, 1) := by decide +kernel
theorem dX6_ease_106 : decode cX6_ease 106 = .ok (.if_icmp .lt 5, 3) := by decide +kernel
theorem dX6_ease_109 : decode cX6_ease 109 = .ok (.iconst 0, 1) := by decide +kernel
theorem dX6_ease_110 : decode cX6_ease 110 = .ok (.ireturn, 1) := by decide +kernel
theorem dX6_ease_111 : decode cX6_ease 111 = .ok (.aload_n 0, 1) := by decide +kernel
theorem dX6_ease_112 : decode cX6_ease 112 = .ok (.getfield 9, 3) := by decide +kernel
theorem dX6_ease_115 : decode cX6_ease 115 = .ok (.iload 5, 2) := by decide +kernel
theorem dX6_ease_117 : decode cX6_ease 117 = .ok (.iload 4, 2) := by decide +kernel
theorem dX6_ease_119 : decode cX6_ease 119 = .ok (.aload_n 1, 1) := by decide +kernel
theorem dX6_ease_120 : decode cX6_ease 120 = .ok (.getfield 22, 3) := by decide +kernel
theorem dX6_ease_123 : decode cX6_ease 123 = .ok (.getfield 28, 3) := by decide +kernel
theorem dX6_ease_126 : decode cX6_ease 126 = .ok (.iload 5, 2) := by decide +kernel
theorem dX6_ease_128 : decode cX6_ease 128 = .ok (.iaload, 1) := by decide +kernel
theorem dX6_ease_129 : decode cX6_ease 129 = .ok (.iadd, 1) := by decide +kernel
theorem dX6_ease_130 : decode cX6_ease 130 = .ok (.iastore, 1) := by decide +kernel
theorem dX6_ease_131 : decode cX6_ease 131 = .ok (.iconst 1, 1) := by decide +kernel
theorem dX6_ease_132 : decode cX6_ease 132 = .ok (.ireturn, 1) := by decide +kernel
theorem dX7_init_0 : decode cX7_init 0 = .ok (.aload_n 0, 1) := by decide +kernel
theorem dX7_init_1 : decode cX7_init 1 = .ok (.invokespecial 1, 3) := by decide +kernel
theorem dX7_init_4 : decode cX7_init 4 = .ok (.aload_n 0, 1) := by decide +kernel
theorem dX7_init_5 : decode cX7_init 5 = .ok (.new 7, 3) := by decide +kernel
theorem dX7_init_8 : decode cX7_init 8 = .ok (.dup, 1) := by decide +kernel
theorem dX7_init_9 : decode cX7_init 9 = .ok (.invokespecial 9, 3) := by decide +kernel
theorem dX7_init_12 : decode cX7_init 12 = .ok (.putfield 10, 3) := by decide +kernel
theorem dX7_init_15 : decode cX7_init 15 = .ok (.aload_n 0, 1) := by decide +kernel
theorem dX7_init_16 : decode cX7_init 16 = .ok (.new 16, 3) := by decide +kernel
theorem dX7_init_19 : decode cX7_init 19 = .ok (.dup, 1) := by decide +kernel
theorem dX7_init_20 : decode cX7_init 20 = .ok (.invokespecial 18, 3) := by decide +kernel
theorem dX7_init_23 : decode cX7_init 23 = .ok (.putfield 19, 3) := by decide +kernel
theorem dX7_init_26 : decode cX7_init 26 = .ok (.aload_n 0, 1) := by decide +kernel
theorem dX7_init_27 : decode cX7_init 27 = .ok (.new 16, 3) := by decide +kernel
theorem dX7_init_30 : decode cX7_init 30 = .ok (.dup, 1) := by decide +kernel
theorem dX7_init_31 : decode cX7_init 31 = .ok (.invokespecial 18, 3) := by decide +kernel
theorem dX7_init_34 : decode cX7_init 34 = .ok (.putfield 23, 3) := by decide +kernel
theorem dX7_init_37 : decode cX7_init 37 = .ok (.aload_n 0, 1) := by decide +kernel
theorem dX7_init_38 : decode cX7_init 38 = .ok (.new 26, 3) := by decide +kernel
theorem dX7_init_41 : decode cX7_init 41 = .ok (.dup, 1) := by decide +kernel
theorem dX7_init_42 : decode cX7_init 42 = .ok (.aload_n 0, 1) := by decide +kernel
theorem dX7_init_43 : decode cX7_init 43 = .ok (.getfield 10, 3) := by decide +kernel
theorem dX7_init_46 : decode cX7_init 46 = .ok (.aload_n 0, 1) := by decide +kernel
theorem dX7_init_47 : decode cX7_init 47 = .ok (.getfield 23, 3) := by decide +kernel
theorem dX7_init_50 : decode cX7_init 50 = .ok (.getfield 28, 3) := by decide +kernel
theorem dX7_init_53 : decode cX7_init 53 = .ok (.invokespecial 32, 3) := by decide +kernel
theorem dX7_init_56 : decode cX7_init 56 = .ok (.putfield 35, 3) := by decide +kernel
theorem dX7_init_59 : decode cX7_init 59 = .ok (.aload_n 0, 1) := by decide +kernel
theorem dX7_init_60 : decode cX7_init 60 = .ok (.iconst 3, 1) := by decide +kernel
theorem dX7_init_61 : decode cX7_init 61 = .ok (.anewarray 16, 3) := by decide +kernel
theorem dX7_init_64 : decode cX7_init 64 = .ok (.putfield 39, 3) := by decide +kernel
theorem dX7_init_67 : decode cX7_init 67 = .ok (.aload_n 0, 1) := by decide +kernel
theorem dX7_init_68 : decode cX7_init 68 = .ok (.iconst 4, 1) := by decide +kernel
theorem dX7_init_69 : decode cX7_init 69 = .ok (.anewarray 43, 3) := by decide +kernel
theorem dX7_init_72 : decode cX7_init 72 = .ok (.putfield 45, 3) := by decide +kernel
theorem dX7_init_75 : decode cX7_init 75 = .ok (.iconst 0, 1) := by decide +kernel
theorem dX7_init_76 : decode cX7_init 76 = .ok (.istore_n 1, 1) := by decide +kernel
theorem dX7_init_77 : decode cX7_init 77 = .ok (.iload_n 1, 1) := by decide +kernel
theorem dX7_init_78 : decode cX7_init 78 = .ok (.iconst 4, 1) := by decide +kernel
theorem dX7_init_79 : decode cX7_init 79 = .ok (.if_icmp .ge 22, 3) := by decide +kernel
theorem dX7_init_82 : decode cX7_init 82 = .ok (.aload_n 0, 1) := by decide +kernel
theorem dX7_init_83 : decode cX7_init 83 = .ok (.getfield 45, 3) := by decide +kernel
theorem dX7_init_86 : decode cX7_init 86 = .ok (.iload_n 1, 1) := by decide +kernel
theorem dX7_init_87 : decode cX7_init 87 = .ok (.new 43, 3) := by decide +kernel
theorem dX7_init_90 : decode cX7_init 90 = .ok (.dup, 1) := by decide +kernel
theorem dX7_init_91 : decode cX7_init 91 = .ok (.invokespecial 49, 3) := by decide +kernel
theorem dX7_init_94 : decode cX7_init 94 = .ok (.aastore, 1) := by decide +kernel
theorem dX7_init_95 : decode cX7_init 95 = .ok (.iinc 1 1, 3) := by decide +kernel
theorem dX7_init_98 : decode cX7_init 98 = .ok (.goto (-21), 3) := by decide +kernel
theorem dX7_init_101 : decode cX7_init 101 = .ok (.aload_n 0, 1) := by decide +kernel
theorem dX7_init_102 : decode cX7_init 102 = .ok (.new 50, 3) := by decide +kernel
theorem dX7_init_105 : decode cX7_init 105 = .ok (.dup, 1) := by decide +kernel
theorem dX7_init_106 : decode cX7_init 106 = .ok (.invokespecial 52, 3) := by decide +kernel
theorem dX7_init_109 : decode cX7_init 109 = .ok (.putfield 53, 3) := by decide +kernel
theorem dX7_init_112 : decode cX7_init 112 = .ok (.return_, 1) := by decide +kernel
theorem dX7_feed_0 : decode cX7_feed 0 = .ok (.aload_n 0, 1) := by decide +kernel
theorem dX7_feed_1 : decode cX7_feed 1 = .ok (.getfield 10, 3) := by decide +kernel
theorem dX7_feed_4 : decode cX7_feed 4 = .ok (.getfield 57, 3) := by decide +kernel
theorem dX7_feed_7 : decode cX7_feed 7 = .ok (.bipush 20, 2) := by decide +kernel
theorem dX7_feed_9 : decode cX7_feed 9 = .ok (.iadd, 1) := by decide +kernel
theorem dX7_feed_10 : decode cX7_feed 10 = .ok (.sipush 1600, 3) := by decide +kernel
theorem dX7_feed_13 : decode cX7_feed 13 = .ok (.if_icmp .le 5, 3) := by decide +kernel
theorem dX7_feed_16 : decode cX7_feed 16 = .ok (.iconst (-1), 1) := by decide +kernel
theorem dX7_feed_17 : decode cX7_feed 17 = .ok (.ireturn, 1) := by decide +kernel
theorem dX7_feed_18 : decode cX7_feed 18 = .ok (.aload_n 0, 1) := by decide +kernel
theorem dX7_feed_19 : decode cX7_feed 19 = .ok (.getfield 10, 3) := by decide +kernel
theorem dX7_feed_22 : decode cX7_feed 22 = .ok (.iload_n 1, 1) := by decide +kernel
theorem dX7_feed_23 : decode cX7_feed 23 = .ok (.invokevirtual 61, 3) := by decide +kernel
theorem dX7_feed_26 : decode cX7_feed 26 = .ok (.aload_n 0, 1) := by decide +kernel
theorem dX7_feed_27 : decode cX7_feed 27 = .ok (.getfield 10, 3) := by decide +kernel
theorem dX7_feed_30 : decode cX7_feed 30 = .ok (.iload_n 2, 1) := by decide +kernel
theorem dX7_feed_31 : decode cX7_feed 31 = .ok (.invokevirtual 61, 3) := by decide +kernel
theorem dX7_feed_34 : decode cX7_feed 34 = .ok (.aload_n 0, 1) := by decide +kernel
theorem dX7_feed_35 : decode cX7_feed 35 = .ok (.getfield 10, 3) := by decide +kernel
theorem dX7_feed_38 : decode cX7_feed 38 = .ok (.iload_n 3, 1) := by decide +kernel
theorem dX7_feed_39 : decode cX7_feed 39 = .ok (.invokevirtual 61, 3) := by decide +kernel
theorem dX7_feed_42 : decode cX7_feed 42 = .ok (.aload_n 0, 1) := by decide +kernel
theorem dX7_feed_43 : decode cX7_feed 43 = .ok (.getfield 10, 3) := by decide +kernel
theorem dX7_feed_46 : decode cX7_feed 46 = .ok (.iload 4, 2) := by decide +kernel
theorem dX7_feed_48 : decode cX7_feed 48 = .ok (.invokevirtual 61, 3) := by decide +kernel
theorem dX7_feed_51 : decode cX7_feed 51 = .ok (.aload_n 0, 1) := by decide +kernel
theorem dX7_feed_52 : decode cX7_feed 52 = .ok (.getfield 10, 3) := by decide +kernel
theorem dX7_feed_55 : decode cX7_feed 55 = .ok (.iload 5, 2) := by decide +kernel
theorem dX7_feed_57 : decode cX7_feed 57 = .ok (.invokevirtual 61, 3) := by decide +kernel
theorem dX7_feed_60 : decode cX7_feed 60 = .ok (.aload_n 0, 1) := by decide +kernel
theorem dX7_feed_61 : decode cX7_feed 61 = .ok (.getfield 10, 3) := by decide +kernel
theorem dX7_feed_64 : decode cX7_feed 64 = .ok (.getfield 57, 3) := by decide +kernel
theorem dX7_feed_67 : decode cX7_feed 67 = .ok (.ireturn, 1) := by decide +kernel
theorem dX7_end_0 : decode cX7_end 0 = .ok (.iload_n 1, 1) := by decide +kernel
theorem dX7_end_1 : decode cX7_end 1 = .ok (.ifCond .lt 14, 3) := by decide +kernel
theorem dX7_end_4 : decode cX7_end 4 = .ok (.iload_n 1, 1) := by decide +kernel
theorem dX7_end_5 : decode cX7_end 5 = .ok (.aload_n 0, 1) := by decide +kernel
theorem dX7_end_6 : decode cX7_end 6 = .ok (.getfield 10, 3) := by decide +kernel
theorem dX7_end_9 : decode cX7_end 9 = .ok (.getfield 57, 3) := by decide +kernel
theorem dX7_end_12 : decode cX7_end 12 = .ok (.if_icmp .le 5, 3) := by decide +kernel
theorem dX7_end_15 : decode cX7_end 15 = .ok (.iconst (-1), 1) := by decide +kernel
theorem dX7_end_16 : decode cX7_end 16 = .ok (.ireturn, 1) := by decide +kernel
theorem dX7_end_17 : decode cX7_end 17 = .ok (.aload_n 0, 1) := by decide +kernel
theorem dX7_end_18 : decode cX7_end 18 = .ok (.getfield 10, 3) := by decide +kernel
theorem dX7_end_21 : decode cX7_end 21 = .ok (.iload_n 1, 1) := by decide +kernel
theorem dX7_end_22 : decode cX7_end 22 = .ok (.putfield 57, 3) := by decide +kernel
theorem dX7_end_25 : decode cX7_end 25 = .ok (.iload_n 1, 1) := by decide +kernel
theorem dX7_end_26 : decode cX7_end 26 = .ok (.ireturn, 1) := by decide +kernel
theorem dX7_square_0 : decode cX7_square 0 = .ok (.aload_n 0, 1) := by decide +kernel
theorem dX7_square_1 : decode cX7_square 1 = .ok (.getfield 35, 3) := by decide +kernel
theorem dX7_square_4 : decode cX7_square 4 = .ok (.invokevirtual 65, 3) := by decide +kernel
theorem dX7_square_7 : decode cX7_square 7 = .ok (.istore_n 1, 1) := by decide +kernel
theorem dX7_square_8 : decode cX7_square 8 = .ok (.aload_n 0, 1) := by decide +kernel
theorem dX7_square_9 : decode cX7_square 9 = .ok (.getfield 10, 3) := by decide +kernel
theorem dX7_square_12 : decode cX7_square 12 = .ok (.iconst 0, 1) := by decide +kernel
theorem dX7_square_13 : decode cX7_square 13 = .ok (.putfield 57, 3) := by decide +kernel
theorem dX7_square_16 : decode cX7_square 16 = .ok (.iload_n 1, 1) := by decide +kernel
theorem dX7_square_17 : decode cX7_square 17 = .ok (.ifCond .ne 6, 3) := by decide +kernel
theorem dX7_square_20 : decode cX7_square 20 = .ok (.bipush (-4), 2) := by decide +kernel
theorem dX7_square_22 : decode cX7_square 22 = .ok (.ireturn, 1) := by decide +kernel
theorem dX7_square_23 : decode cX7_square 23 = .ok (.aload_n 0, 1) := by decide +kernel
theorem dX7_square_24 : decode cX7_square 24 = .ok (.getfield 19, 3) := by decide +kernel
theorem dX7_square_27 : decode cX7_square 27 = .ok (.getfield 28, 3) := by decide +kernel
theorem dX7_square_30 : decode cX7_square 30 = .ok (.aload_n 0, 1) := by decide +kernel
theorem dX7_square_31 : decode cX7_square 31 = .ok (.getfield 23, 3) := by decide +kernel
theorem dX7_square_34 : decode cX7_square 34 = .ok (.getfield 28, 3) := by decide +kernel
theorem dX7_square_37 : decode cX7_square 37 = .ok (.invokevirtual 69, 3) := by decide +kernel
theorem dX7_square_40 : decode cX7_square 40 = .ok (.aload_n 0, 1) := by decide +kernel
theorem dX7_square_41 : decode cX7_square 41 = .ok (.getfield 19, 3) := by decide +kernel
theorem dX7_square_44 : decode cX7_square 44 = .ok (.getfield 75, 3) := by decide +kernel
theorem dX7_square_47 : decode cX7_square 47 = .ok (.invokevirtual 79, 3) := by decide +kernel
theorem dX7_square_50 : decode cX7_square 50 = .ok (.aload_n 0, 1) := by decide +kernel
theorem dX7_square_51 : decode cX7_square 51 = .ok (.getfield 19, 3) := by decide +kernel
theorem dX7_square_54 : decode cX7_square 54 = .ok (.getfield 28, 3) := by decide +kernel
theorem dX7_square_57 : decode cX7_square 57 = .ok (.getfield 84, 3) := by decide +kernel
theorem dX7_square_60 : decode cX7_square 60 = .ok (.ireturn, 1) := by decide +kernel
theorem dX7_fault_0 : decode cX7_fault 0 = .ok (.iload_n 1, 1) := by decide +kernel
theorem dX7_fault_1 : decode cX7_fault 1 = .ok (.ifCond .ne 11, 3) := by decide +kernel
theorem dX7_fault_4 : decode cX7_fault 4 = .ok (.aload_n 0, 1) := by decide +kernel
theorem dX7_fault_5 : decode cX7_fault 5 = .ok (.getfield 35, 3) := by decide +kernel
theorem dX7_fault_8 : decode cX7_fault 8 = .ok (.getfield 87, 3) := by decide +kernel
theorem dX7_fault_11 : decode cX7_fault 11 = .ok (.ireturn, 1) := by decide +kernel
theorem dX7_fault_12 : decode cX7_fault 12 = .ok (.iload_n 1, 1) := by decide +kernel
theorem dX7_fault_13 : decode cX7_fault 13 = .ok (.iconst 1, 1) := by decide +kernel
theorem dX7_fault_14 : decode cX7_fault 14 = .ok (.if_icmp .ne 13, 3) := by decide +kernel
theorem dX7_fault_17 : decode cX7_fault 17 = .ok (.aload_n 0, 1) := by decide +kernel
theorem dX7_fault_18 : decode cX7_fault 18 = .ok (.getfield 35, 3) := by decide +kernel
theorem dX7_fault_21 : decode cX7_fault 21 = .ok (.getfield 90, 3) := by decide +kernel
theorem dX7_fault_24 : decode cX7_fault 24 = .ok (.goto 4, 3) := by decide +kernel
theorem dX7_fault_27 : decode cX7_fault 27 = .ok (.iconst (-1), 1) := by decide +kernel
theorem dX7_fault_28 : decode cX7_fault 28 = .ok (.ireturn, 1) := by decide +kernel
theorem dX7_pace_0 : decode cX7_pace 0 = .ok (.iload_n 1, 1) := by decide +kernel
theorem dX7_pace_1 : decode cX7_pace 1 = .ok (.iconst 0, 1) := by decide +kernel
theorem dX7_pace_2 : decode cX7_pace 2 = .ok (.bipush 60, 2) := by decide +kernel
theorem dX7_pace_4 : decode cX7_pace 4 = .ok (.invokestatic 93, 3) := by decide +kernel
theorem dX7_pace_7 : decode cX7_pace 7 = .ok (.ifCond .eq 10, 3) := by decide +kernel
theorem dX7_pace_10 : decode cX7_pace 10 = .ok (.iload_n 1, 1) := by decide +kernel
theorem dX7_pace_11 : decode cX7_pace 11 = .ok (.invokestatic 97, 3) := by decide +kernel
theorem dX7_pace_14 : decode cX7_pace 14 = .ok (.goto 5, 3) := by decide +kernel
theorem dX7_pace_17 : decode cX7_pace 17 = .ok (.bipush (-2), 2) := by decide +kernel
theorem dX7_pace_19 : decode cX7_pace 19 = .ok (.ireturn, 1) := by decide +kernel
theorem dX7_blow_0 : decode cX7_blow 0 = .ok (.aload_n 0, 1) := by decide +kernel
theorem dX7_blow_1 : decode cX7_blow 1 = .ok (.iload_n 1, 1) := by decide +kernel
theorem dX7_blow_2 : decode cX7_blow 2 = .ok (.iconst 1, 1) := by decide +kernel
theorem dX7_blow_3 : decode cX7_blow 3 = .ok (.invokevirtual 101, 3) := by decide +kernel
theorem dX7_blow_6 : decode cX7_blow 6 = .ok (.ireturn, 1) := by decide +kernel
theorem dX7_blows_0 : decode cX7_blows 0 = .ok (.iload_n 2, 1) := by decide +kernel
theorem dX7_blows_1 : decode cX7_blows 1 = .ok (.iconst 0, 1) := by decide +kernel
theorem dX7_blows_2 : decode cX7_blows 2 = .ok (.sipush 400, 3) := by decide +kernel
theorem dX7_blows_5 : decode cX7_blows 5 = .ok (.invokestatic 93, 3) := by decide +kernel
theorem dX7_blows_8 : decode cX7_blows 8 = .ok (.ifCond .eq 12, 3) := by decide +kernel
theorem dX7_blows_11 : decode cX7_blows 11 = .ok (.aload_n 0, 1) := by decide +kernel
theorem dX7_blows_12 : decode cX7_blows 12 = .ok (.iload_n 1, 1) := by decide +kernel
theorem dX7_blows_13 : decode cX7_blows 13 = .ok (.iload_n 2, 1) := by decide +kernel
theorem dX7_blows_14 : decode cX7_blows 14 = .ok (.invokevirtual 101, 3) := by decide +kernel
theorem dX7_blows_17 : decode cX7_blows 17 = .ok (.goto 5, 3) := by decide +kernel
theorem dX7_blows_20 : decode cX7_blows 20 = .ok (.bipush (-2), 2) := by decide +kernel
theorem dX7_blows_22 : decode cX7_blows 22 = .ok (.ireturn, 1) := by decide +kernel
theorem dX7_day_0 : decode cX7_day 0 = .ok (.aload_n 0, 1) := by decide +kernel
theorem dX7_day_1 : decode cX7_day 1 = .ok (.iload_n 1, 1) := by decide +kernel
theorem dX7_day_2 : decode cX7_day 2 = .ok (.invokevirtual 105, 3) := by decide +kernel
theorem dX7_day_5 : decode cX7_day 5 = .ok (.istore_n 2, 1) := by decide +kernel
theorem dX7_day_6 : decode cX7_day 6 = .ok (.iload_n 2, 1) := by decide +kernel
theorem dX7_day_7 : decode cX7_day 7 = .ok (.ifCond .eq 5, 3) := by decide +kernel
theorem dX7_day_10 : decode cX7_day 10 = .ok (.iload_n 2, 1) := by decide +kernel
theorem dX7_day_11 : decode cX7_day 11 = .ok (.ireturn, 1) := by decide +kernel
theorem dX7_day_12 : decode cX7_day 12 = .ok (.aload_n 0, 1) := by decide +kernel
theorem dX7_day_13 : decode cX7_day 13 = .ok (.getfield 19, 3) := by decide +kernel
theorem dX7_day_16 : decode cX7_day 16 = .ok (.aload_n 0, 1) := by decide +kernel
theorem dX7_day_17 : decode cX7_day 17 = .ok (.getfield 45, 3) := by decide +kernel
theorem dX7_day_20 : decode cX7_day 20 = .ok (.iload_n 1, 1) := by decide +kernel
theorem dX7_day_21 : decode cX7_day 21 = .ok (.aaload, 1) := by decide +kernel
theorem dX7_day_22 : decode cX7_day 22 = .ok (.invokevirtual 108, 3) := by decide +kernel
theorem dX7_day_25 : decode cX7_day 25 = .ok (.ireturn, 1) := by decide +kernel
theorem dX7_gusts_0 : decode cX7_gusts 0 = .ok (.aload_n 0, 1) := by decide +kernel
theorem dX7_gusts_1 : decode cX7_gusts 1 = .ok (.iload_n 1, 1) := by decide +kernel
theorem dX7_gusts_2 : decode cX7_gusts 2 = .ok (.iload_n 2, 1) := by decide +kernel
theorem dX7_gusts_3 : decode cX7_gusts 3 = .ok (.iload_n 3, 1) := by decide +kernel
theorem dX7_gusts_4 : decode cX7_gusts 4 = .ok (.iload 4, 2) := by decide +kernel
theorem dX7_gusts_6 : decode cX7_gusts 6 = .ok (.invokevirtual 112, 3) := by decide +kernel
theorem dX7_gusts_9 : decode cX7_gusts 9 = .ok (.ifCond .ne 6, 3) := by decide +kernel
theorem dX7_gusts_12 : decode cX7_gusts 12 = .ok (.bipush (-2), 2) := by decide +kernel
theorem dX7_gusts_14 : decode cX7_gusts 14 = .ok (.ireturn, 1) := by decide +kernel
theorem dX7_gusts_15 : decode cX7_gusts 15 = .ok (.aload_n 0, 1) := by decide +kernel
theorem dX7_gusts_16 : decode cX7_gusts 16 = .ok (.getfield 19, 3) := by decide +kernel
theorem dX7_gusts_19 : decode cX7_gusts 19 = .ok (.iload_n 1, 1) := by decide +kernel
theorem dX7_gusts_20 : decode cX7_gusts 20 = .ok (.iload_n 2, 1) := by decide +kernel
theorem dX7_gusts_21 : decode cX7_gusts 21 = .ok (.iload_n 3, 1) := by decide +kernel
theorem dX7_gusts_22 : decode cX7_gusts 22 = .ok (.iload 4, 2) := by decide +kernel
theorem dX7_gusts_24 : decode cX7_gusts 24 = .ok (.invokevirtual 116, 3) := by decide +kernel
theorem dX7_gusts_27 : decode cX7_gusts 27 = .ok (.ireturn, 1) := by decide +kernel
theorem dX7_wet_0 : decode cX7_wet 0 = .ok (.aload_n 0, 1) := by decide +kernel
theorem dX7_wet_1 : decode cX7_wet 1 = .ok (.getfield 19, 3) := by decide +kernel
theorem dX7_wet_4 : decode cX7_wet 4 = .ok (.getfield 28, 3) := by decide +kernel
theorem dX7_wet_7 : decode cX7_wet 7 = .ok (.iload_n 1, 1) := by decide +kernel
theorem dX7_wet_8 : decode cX7_wet 8 = .ok (.iload_n 2, 1) := by decide +kernel
