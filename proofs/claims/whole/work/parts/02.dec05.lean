theorem dX8_init_119 : decode cX8_init 119 = .ok (.putfield 52, 3) := by decide +kernel
theorem dX8_init_122 : decode cX8_init 122 = .ok (.aload_n 0, 1) := by decide +kernel
theorem dX8_init_123 : decode cX8_init 123 = .ok (.iconst 2, 1) := by decide +kernel
theorem dX8_init_124 : decode cX8_init 124 = .ok (.newarray .int, 2) := by decide +kernel
theorem dX8_init_126 : decode cX8_init 126 = .ok (.putfield 55, 3) := by decide +kernel
theorem dX8_init_129 : decode cX8_init 129 = .ok (.aload_n 0, 1) := by decide +kernel
theorem dX8_init_130 : decode cX8_init 130 = .ok (.bipush 24, 2) := by decide +kernel
theorem dX8_init_132 : decode cX8_init 132 = .ok (.newarray .int, 2) := by decide +kernel
theorem dX8_init_134 : decode cX8_init 134 = .ok (.putfield 58, 3) := by decide +kernel
theorem dX8_init_137 : decode cX8_init 137 = .ok (.aload_n 0, 1) := by decide +kernel
theorem dX8_init_138 : decode cX8_init 138 = .ok (.bipush 49, 2) := by decide +kernel
theorem dX8_init_140 : decode cX8_init 140 = .ok (.newarray .long, 2) := by decide +kernel
theorem dX8_init_142 : decode cX8_init 142 = .ok (.putfield 61, 3) := by decide +kernel
theorem dX8_init_145 : decode cX8_init 145 = .ok (.aload_n 0, 1) := by decide +kernel
theorem dX8_init_146 : decode cX8_init 146 = .ok (.bipush 49, 2) := by decide +kernel
theorem dX8_init_148 : decode cX8_init 148 = .ok (.newarray .long, 2) := by decide +kernel
theorem dX8_init_150 : decode cX8_init 150 = .ok (.putfield 65, 3) := by decide +kernel
theorem dX8_init_153 : decode cX8_init 153 = .ok (.aload_n 0, 1) := by decide +kernel
theorem dX8_init_154 : decode cX8_init 154 = .ok (.bipush 12, 2) := by decide +kernel
theorem dX8_init_156 : decode cX8_init 156 = .ok (.newarray .int, 2) := by decide +kernel
theorem dX8_init_158 : decode cX8_init 158 = .ok (.putfield 68, 3) := by decide +kernel
theorem dX8_init_161 : decode cX8_init 161 = .ok (.aload_n 0, 1) := by decide +kernel
theorem dX8_init_162 : decode cX8_init 162 = .ok (.bipush 12, 2) := by decide +kernel
theorem dX8_init_164 : decode cX8_init 164 = .ok (.newarray .int, 2) := by decide +kernel
theorem dX8_init_166 : decode cX8_init 166 = .ok (.putfield 71, 3) := by decide +kernel
theorem dX8_init_169 : decode cX8_init 169 = .ok (.aload_n 0, 1) := by decide +kernel
theorem dX8_init_170 : decode cX8_init 170 = .ok (.bipush 6, 2) := by decide +kernel
theorem dX8_init_172 : decode cX8_init 172 = .ok (.newarray .int, 2) := by decide +kernel
theorem dX8_init_174 : decode cX8_init 174 = .ok (.putfield 74, 3) := by decide +kernel
theorem dX8_init_177 : decode cX8_init 177 = .ok (.aload_n 0, 1) := by decide +kernel
theorem dX8_init_178 : decode cX8_init 178 = .ok (.iconst 3, 1) := by decide +kernel
theorem dX8_init_179 : decode cX8_init 179 = .ok (.newarray .int, 2) := by decide +kernel
theorem dX8_init_181 : decode cX8_init 181 = .ok (.putfield 77, 3) := by decide +kernel
theorem dX8_init_184 : decode cX8_init 184 = .ok (.aload_n 0, 1) := by decide +kernel
theorem dX8_init_185 : decode cX8_init 185 = .ok (.bipush 10, 2) := by decide +kernel
theorem dX8_init_187 : decode cX8_init 187 = .ok (.newarray .int, 2) := by decide +kernel
theorem dX8_init_189 : decode cX8_init 189 = .ok (.putfield 80, 3) := by decide +kernel
theorem dX8_init_192 : decode cX8_init 192 = .ok (.aload_n 0, 1) := by decide +kernel
theorem dX8_init_193 : decode cX8_init 193 = .ok (.bipush 10, 2) := by decide +kernel
theorem dX8_init_195 : decode cX8_init 195 = .ok (.newarray .int, 2) := by decide +kernel
theorem dX8_init_197 : decode cX8_init 197 = .ok (.putfield 83, 3) := by decide +kernel
theorem dX8_init_200 : decode cX8_init 200 = .ok (.aload_n 0, 1) := by decide +kernel
theorem dX8_init_201 : decode cX8_init 201 = .ok (.bipush 10, 2) := by decide +kernel
theorem dX8_init_203 : decode cX8_init 203 = .ok (.newarray .int, 2) := by decide +kernel
theorem dX8_init_205 : decode cX8_init 205 = .ok (.putfield 86, 3) := by decide +kernel
theorem dX8_init_208 : decode cX8_init 208 = .ok (.aload_n 0, 1) := by decide +kernel
theorem dX8_init_209 : decode cX8_init 209 = .ok (.bipush 12, 2) := by decide +kernel
theorem dX8_init_211 : decode cX8_init 211 = .ok (.newarray .int, 2) := by decide +kernel
theorem dX8_init_213 : decode cX8_init 213 = .ok (.putfield 89, 3) := by decide +kernel
theorem dX8_init_216 : decode cX8_init 216 = .ok (.aload_n 0, 1) := by decide +kernel
theorem dX8_init_217 : decode cX8_init 217 = .ok (.getfield 43, 3) := by decide +kernel
theorem dX8_init_220 : decode cX8_init 220 = .ok (.iconst 0, 1) := by decide +kernel
theorem dX8_init_221 : decode cX8_init 221 = .ok (.iconst 1, 1) := by decide +kernel
theorem dX8_init_222 : decode cX8_init 222 = .ok (.iastore, 1) := by decide +kernel
theorem dX8_init_223 : decode cX8_init 223 = .ok (.aload_n 0, 1) := by decide +kernel
theorem dX8_init_224 : decode cX8_init 224 = .ok (.getfield 43, 3) := by decide +kernel
theorem dX8_init_227 : decode cX8_init 227 = .ok (.iconst 1, 1) := by decide +kernel
theorem dX8_init_228 : decode cX8_init 228 = .ok (.iconst 4, 1) := by decide +kernel
theorem dX8_init_229 : decode cX8_init 229 = .ok (.iastore, 1) := by decide +kernel
theorem dX8_init_230 : decode cX8_init 230 = .ok (.aload_n 0, 1) := by decide +kernel
theorem dX8_init_231 : decode cX8_init 231 = .ok (.getfield 55, 3) := by decide +kernel
theorem dX8_init_234 : decode cX8_init 234 = .ok (.iconst 0, 1) := by decide +kernel
theorem dX8_init_235 : decode cX8_init 235 = .ok (.iconst (-1), 1) := by decide +kernel
theorem dX8_init_236 : decode cX8_init 236 = .ok (.iastore, 1) := by decide +kernel
theorem dX8_init_237 : decode cX8_init 237 = .ok (.aload_n 0, 1) := by decide +kernel
theorem dX8_init_238 : decode cX8_init 238 = .ok (.getfield 55, 3) := by decide +kernel
theorem dX8_init_241 : decode cX8_init 241 = .ok (.iconst 1, 1) := by decide +kernel
theorem dX8_init_242 : decode cX8_init 242 = .ok (.iconst (-1), 1) := by decide +kernel
theorem dX8_init_243 : decode cX8_init 243 = .ok (.iastore, 1) := by decide +kernel
theorem dX8_init_244 : decode cX8_init 244 = .ok (.return_, 1) := by decide +kernel
theorem dX8_isIn_0 : decode cX8_isIn 0 = .ok (.iload_n 0, 1) := by decide +kernel
theorem dX8_isIn_1 : decode cX8_isIn 1 = .ok (.iload_n 1, 1) := by decide +kernel
theorem dX8_isIn_2 : decode cX8_isIn 2 = .ok (.if_icmp .lt 12, 3) := by decide +kernel
theorem dX8_isIn_5 : decode cX8_isIn 5 = .ok (.iload_n 0, 1) := by decide +kernel
theorem dX8_isIn_6 : decode cX8_isIn 6 = .ok (.iload_n 2, 1) := by decide +kernel
theorem dX8_isIn_7 : decode cX8_isIn 7 = .ok (.if_icmp .gt 7, 3) := by decide +kernel
theorem dX8_isIn_10 : decode cX8_isIn 10 = .ok (.iconst 1, 1) := by decide +kernel
theorem dX8_isIn_11 : decode cX8_isIn 11 = .ok (.goto 4, 3) := by decide +kernel
theorem dX8_isIn_14 : decode cX8_isIn 14 = .ok (.iconst 0, 1) := by decide +kernel
theorem dX8_isIn_15 : decode cX8_isIn 15 = .ok (.ireturn, 1) := by decide +kernel
theorem dX8_isCourt_0 : decode cX8_isCourt 0 = .ok (.iload_n 0, 1) := by decide +kernel
theorem dX8_isCourt_1 : decode cX8_isCourt 1 = .ok (.iconst 0, 1) := by decide +kernel
theorem dX8_isCourt_2 : decode cX8_isCourt 2 = .ok (.iconst 2, 1) := by decide +kernel
theorem dX8_isCourt_3 : decode cX8_isCourt 3 = .ok (.invokestatic 92, 3) := by decide +kernel
theorem dX8_isCourt_6 : decode cX8_isCourt 6 = .ok (.ireturn, 1) := by decide +kernel
theorem dX8_isCase_0 : decode cX8_isCase 0 = .ok (.iload_n 1, 1) := by decide +kernel
theorem dX8_isCase_1 : decode cX8_isCase 1 = .ok (.iconst 0, 1) := by decide +kernel
theorem dX8_isCase_2 : decode cX8_isCase 2 = .ok (.aload_n 0, 1) := by decide +kernel
theorem dX8_isCase_3 : decode cX8_isCase 3 = .ok (.getfield 96, 3) := by decide +kernel
theorem dX8_isCase_6 : decode cX8_isCase 6 = .ok (.iconst 1, 1) := by decide +kernel
theorem dX8_isCase_7 : decode cX8_isCase 7 = .ok (.isub, 1) := by decide +kernel
theorem dX8_isCase_8 : decode cX8_isCase 8 = .ok (.invokestatic 92, 3) := by decide +kernel
theorem dX8_isCase_11 : decode cX8_isCase 11 = .ok (.ireturn, 1) := by decide +kernel
theorem dX8_isWitness_0 : decode cX8_isWitness 0 = .ok (.iload_n 1, 1) := by decide +kernel
theorem dX8_isWitness_1 : decode cX8_isWitness 1 = .ok (.iconst 0, 1) := by decide +kernel
theorem dX8_isWitness_2 : decode cX8_isWitness 2 = .ok (.aload_n 0, 1) := by decide +kernel
theorem dX8_isWitness_3 : decode cX8_isWitness 3 = .ok (.getfield 100, 3) := by decide +kernel
theorem dX8_isWitness_6 : decode cX8_isWitness 6 = .ok (.iconst 1, 1) := by decide +kernel
theorem dX8_isWitness_7 : decode cX8_isWitness 7 = .ok (.isub, 1) := by decide +kernel
theorem dX8_isWitness_8 : decode cX8_isWitness 8 = .ok (.invokestatic 92, 3) := by decide +kernel
theorem dX8_isWitness_11 : decode cX8_isWitness 11 = .ok (.ireturn, 1) := by decide +kernel
theorem dX8_needs1_0 : decode cX8_needs1 0 = .ok (.aload_n 0, 1) := by decide +kernel
theorem dX8_needs1_1 : decode cX8_needs1 1 = .ok (.getfield 25, 3) := by decide +kernel
theorem dX8_needs1_4 : decode cX8_needs1 4 = .ok (.iload_n 1, 1) := by decide +kernel
theorem dX8_needs1_5 : decode cX8_needs1 5 = .ok (.iaload, 1) := by decide +kernel
theorem dX8_needs1_6 : decode cX8_needs1 6 = .ok (.iload_n 2, 1) := by decide +kernel
theorem dX8_needs1_7 : decode cX8_needs1 7 = .ok (.ishr, 1) := by decide +kernel
theorem dX8_needs1_8 : decode cX8_needs1 8 = .ok (.iconst 1, 1) := by decide +kernel
theorem dX8_needs1_9 : decode cX8_needs1 9 = .ok (.iand, 1) := by decide +kernel
theorem dX8_needs1_10 : decode cX8_needs1 10 = .ok (.iconst 1, 1) := by decide +kernel
theorem dX8_needs1_11 : decode cX8_needs1 11 = .ok (.if_icmp .ne 7, 3) := by decide +kernel
theorem dX8_needs1_14 : decode cX8_needs1 14 = .ok (.iconst 1, 1) := by decide +kernel
theorem dX8_needs1_15 : decode cX8_needs1 15 = .ok (.goto 4, 3) := by decide +kernel
theorem dX8_needs1_18 : decode cX8_needs1 18 = .ok (.iconst 0, 1) := by decide +kernel
theorem dX8_needs1_19 : decode cX8_needs1 19 = .ok (.ireturn, 1) := by decide +kernel
theorem dX8_enter_0 : decode cX8_enter 0 = .ok (.aload_n 0, 1) := by decide +kernel
theorem dX8_enter_1 : decode cX8_enter 1 = .ok (.getfield 16, 3) := by decide +kernel
theorem dX8_enter_4 : decode cX8_enter 4 = .ok (.iload_n 1, 1) := by decide +kernel
theorem dX8_enter_5 : decode cX8_enter 5 = .ok (.iload_n 2, 1) := by decide +kernel
theorem dX8_enter_6 : decode cX8_enter 6 = .ok (.iastore, 1) := by decide +kernel
theorem dX8_enter_7 : decode cX8_enter 7 = .ok (.aload_n 0, 1) := by decide +kernel
theorem dX8_enter_8 : decode cX8_enter 8 = .ok (.getfield 13, 3) := by decide +kernel
theorem dX8_enter_11 : decode cX8_enter 11 = .ok (.bipush 6, 2) := by decide +kernel
theorem dX8_enter_13 : decode cX8_enter 13 = .ok (.iload_n 2, 1) := by decide +kernel
theorem dX8_enter_14 : decode cX8_enter 14 = .ok (.imul, 1) := by decide +kernel
theorem dX8_enter_15 : decode cX8_enter 15 = .ok (.aload_n 0, 1) := by decide +kernel
theorem dX8_enter_16 : decode cX8_enter 16 = .ok (.getfield 7, 3) := by decide +kernel
theorem dX8_enter_19 : decode cX8_enter 19 = .ok (.iload_n 2, 1) := by decide +kernel
theorem dX8_enter_20 : decode cX8_enter 20 = .ok (.iaload, 1) := by decide +kernel
theorem dX8_enter_21 : decode cX8_enter 21 = .ok (.iadd, 1) := by decide +kernel
theorem dX8_enter_22 : decode cX8_enter 22 = .ok (.iload_n 1, 1) := by decide +kernel
theorem dX8_enter_23 : decode cX8_enter 23 = .ok (.iastore, 1) := by decide +kernel
theorem dX8_enter_24 : decode cX8_enter 24 = .ok (.aload_n 0, 1) := by decide +kernel
theorem dX8_enter_25 : decode cX8_enter 25 = .ok (.getfield 7, 3) := by decide +kernel
theorem dX8_enter_28 : decode cX8_enter 28 = .ok (.iload_n 2, 1) := by decide +kernel
theorem dX8_enter_29 : decode cX8_enter 29 = .ok (.dup2, 1) := by decide +kernel
theorem dX8_enter_30 : decode cX8_enter 30 = .ok (.iaload, 1) := by decide +kernel
theorem dX8_enter_31 : decode cX8_enter 31 = .ok (.iconst 1, 1) := by decide +kernel
theorem dX8_enter_32 : decode cX8_enter 32 = .ok (.iadd, 1) := by decide +kernel
theorem dX8_enter_33 : decode cX8_enter 33 = .ok (.iastore, 1) := by decide +kernel
theorem dX8_enter_34 : decode cX8_enter 34 = .ok (.return_, 1) := by decide +kernel
theorem dX8_newCase_0 : decode cX8_newCase 0 = .ok (.iload_n 1, 1) := by decide +kernel
theorem dX8_newCase_1 : decode cX8_newCase 1 = .ok (.invokestatic 103, 3) := by decide +kernel
theorem dX8_newCase_4 : decode cX8_newCase 4 = .ok (.ifCond .eq 23, 3) := by decide +kernel
theorem dX8_newCase_7 : decode cX8_newCase 7 = .ok (.iload_n 2, 1) := by decide +kernel
theorem dX8_newCase_8 : decode cX8_newCase 8 = .ok (.iconst 1, 1) := by decide +kernel
theorem dX8_newCase_9 : decode cX8_newCase 9 = .ok (.bipush 8, 2) := by decide +kernel
theorem dX8_newCase_11 : decode cX8_newCase 11 = .ok (.invokestatic 92, 3) := by decide +kernel
theorem dX8_newCase_14 : decode cX8_newCase 14 = .ok (.ifCond .eq 13, 3) := by decide +kernel
theorem dX8_newCase_17 : decode cX8_newCase 17 = .ok (.iload_n 3, 1) := by decide +kernel
theorem dX8_newCase_18 : decode cX8_newCase 18 = .ok (.iconst 0, 1) := by decide +kernel
theorem dX8_newCase_19 : decode cX8_newCase 19 = .ok (.bipush 100, 2) := by decide +kernel
theorem dX8_newCase_21 : decode cX8_newCase 21 = .ok (.invokestatic 92, 3) := by decide +kernel
theorem dX8_newCase_24 : decode cX8_newCase 24 = .ok (.ifCond .ne 7, 3) := by decide +kernel
theorem dX8_newCase_27 : decode cX8_newCase 27 = .ok (.ldc2_w 107, 3) := by decide +kernel
theorem dX8_newCase_30 : decode cX8_newCase 30 = .ok (.lreturn, 1) := by decide +kernel
theorem dX8_newCase_31 : decode cX8_newCase 31 = .ok (.aload_n 0, 1) := by decide +kernel
theorem dX8_newCase_32 : decode cX8_newCase 32 = .ok (.getfield 96, 3) := by decide +kernel
theorem dX8_newCase_35 : decode cX8_newCase 35 = .ok (.bipush 12, 2) := by decide +kernel
theorem dX8_newCase_37 : decode cX8_newCase 37 = .ok (.if_icmp .eq 14, 3) := by decide +kernel
theorem dX8_newCase_40 : decode cX8_newCase 40 = .ok (.aload_n 0, 1) := by decide +kernel
theorem dX8_newCase_41 : decode cX8_newCase 41 = .ok (.getfield 7, 3) := by decide +kernel
theorem dX8_newCase_44 : decode cX8_newCase 44 = .ok (.iload_n 1, 1) := by decide +kernel
theorem dX8_newCase_45 : decode cX8_newCase 45 = .ok (.iaload, 1) := by decide +kernel
theorem dX8_newCase_46 : decode cX8_newCase 46 = .ok (.bipush 6, 2) := by decide +kernel
theorem dX8_newCase_48 : decode cX8_newCase 48 = .ok (.if_icmp .ne 7, 3) := by decide +kernel
theorem dX8_newCase_51 : decode cX8_newCase 51 = .ok (.ldc2_w 109, 3) := by decide +kernel
theorem dX8_newCase_54 : decode cX8_newCase 54 = .ok (.lreturn, 1) := by decide +kernel
theorem dX8_newCase_55 : decode cX8_newCase 55 = .ok (.aload_n 0, 1) := by decide +kernel
theorem dX8_newCase_56 : decode cX8_newCase 56 = .ok (.getfield 19, 3) := by decide +kernel
theorem dX8_newCase_59 : decode cX8_newCase 59 = .ok (.aload_n 0, 1) := by decide +kernel
theorem dX8_newCase_60 : decode cX8_newCase 60 = .ok (.getfield 96, 3) := by decide +kernel
theorem dX8_newCase_63 : decode cX8_newCase 63 = .ok (.iload_n 2, 1) := by decide +kernel
theorem dX8_newCase_64 : decode cX8_newCase 64 = .ok (.iastore, 1) := by decide +kernel
theorem dX8_newCase_65 : decode cX8_newCase 65 = .ok (.aload_n 0, 1) := by decide +kernel
theorem dX8_newCase_66 : decode cX8_newCase 66 = .ok (.getfield 22, 3) := by decide +kernel
theorem dX8_newCase_69 : decode cX8_newCase 69 = .ok (.aload_n 0, 1) := by decide +kernel
theorem dX8_newCase_70 : decode cX8_newCase 70 = .ok (.getfield 96, 3) := by decide +kernel
theorem dX8_newCase_73 : decode cX8_newCase 73 = .ok (.iload_n 3, 1) := by decide +kernel
theorem dX8_newCase_74 : decode cX8_newCase 74 = .ok (.iastore, 1) := by decide +kernel
theorem dX8_newCase_75 : decode cX8_newCase 75 = .ok (.aload_n 0, 1) := by decide +kernel
theorem dX8_newCase_76 : decode cX8_newCase 76 = .ok (.getfield 28, 3) := by decide +kernel
theorem dX8_newCase_79 : decode cX8_newCase 79 = .ok (.aload_n 0, 1) := by decide +kernel
theorem dX8_newCase_80 : decode cX8_newCase 80 = .ok (.getfield 96, 3) := by decide +kernel
theorem dX8_newCase_83 : decode cX8_newCase 83 = .ok (.iconst (-1), 1) := by decide +kernel
theorem dX8_newCase_84 : decode cX8_newCase 84 = .ok (.iastore, 1) := by decide +kernel
theorem dX8_newCase_85 : decode cX8_newCase 85 = .ok (.aload_n 0, 1) := by decide +kernel
theorem dX8_newCase_86 : decode cX8_newCase 86 = .ok (.aload_n 0, 1) := by decide +kernel
theorem dX8_newCase_87 : decode cX8_newCase 87 = .ok (.getfield 96, 3) := by decide +kernel
theorem dX8_newCase_90 : decode cX8_newCase 90 = .ok (.iload_n 1, 1) := by decide +kernel
theorem dX8_newCase_91 : decode cX8_newCase 91 = .ok (.invokevirtual 111, 3) := by decide +kernel
theorem dX8_newCase_94 : decode cX8_newCase 94 = .ok (.aload_n 0, 1) := by decide +kernel
theorem dX8_newCase_95 : decode cX8_newCase 95 = .ok (.dup, 1) := by decide +kernel
theorem dX8_newCase_96 : decode cX8_newCase 96 = .ok (.getfield 96, 3) := by decide +kernel
theorem dX8_newCase_99 : decode cX8_newCase 99 = .ok (.iconst 1, 1) := by decide +kernel
theorem dX8_newCase_100 : decode cX8_newCase 100 = .ok (.iadd, 1) := by decide +kernel
theorem dX8_newCase_101 : decode cX8_newCase 101 = .ok (.putfield 96, 3) := by decide +kernel
theorem dX8_newCase_104 : decode cX8_newCase 104 = .ok (.aload_n 0, 1) := by decide +kernel
theorem dX8_newCase_105 : decode cX8_newCase 105 = .ok (.getfield 96, 3) := by decide +kernel
theorem dX8_newCase_108 : decode cX8_newCase 108 = .ok (.iconst 1, 1) := by decide +kernel
theorem dX8_newCase_109 : decode cX8_newCase 109 = .ok (.isub, 1) := by decide +kernel
theorem dX8_newCase_110 : decode cX8_newCase 110 = .ok (.i2l, 1) := by decide +kernel
theorem dX8_newCase_111 : decode cX8_newCase 111 = .ok (.lreturn, 1) := by decide +kernel
theorem dX8_witness_0 : decode cX8_witness 0 = .ok (.iload_n 1, 1) := by decide +kernel
theorem dX8_witness_1 : decode cX8_witness 1 = .ok (.iconst 0, 1) := by decide +kernel
theorem dX8_witness_2 : decode cX8_witness 2 = .ok (.iconst 4, 1) := by decide +kernel
theorem dX8_witness_3 : decode cX8_witness 3 = .ok (.invokestatic 92, 3) := by decide +kernel
theorem dX8_witness_6 : decode cX8_witness 6 = .ok (.ifCond .eq 13, 3) := by decide +kernel
theorem dX8_witness_9 : decode cX8_witness 9 = .ok (.iload_n 2, 1) := by decide +kernel
theorem dX8_witness_10 : decode cX8_witness 10 = .ok (.iconst 0, 1) := by decide +kernel
theorem dX8_witness_11 : decode cX8_witness 11 = .ok (.bipush 12, 2) := by decide +kernel
theorem dX8_witness_13 : decode cX8_witness 13 = .ok (.invokestatic 92, 3) := by decide +kernel
theorem dX8_witness_16 : decode cX8_witness 16 = .ok (.ifCond .ne 7, 3) := by decide +kernel
theorem dX8_witness_19 : decode cX8_witness 19 = .ok (.ldc2_w 107, 3) := by decide +kernel
theorem dX8_witness_22 : decode cX8_witness 22 = .ok (.lreturn, 1) := by decide +kernel
theorem dX8_witness_23 : decode cX8_witness 23 = .ok (.aload_n 0, 1) := by decide +kernel
theorem dX8_witness_24 : decode cX8_witness 24 = .ok (.getfield 100, 3) := by decide +kernel
theorem dX8_witness_27 : decode cX8_witness 27 = .ok (.bipush 10, 2) := by decide +kernel
theorem dX8_witness_29 : decode cX8_witness 29 = .ok (.if_icmp .ne 7, 3) := by decide +kernel
theorem dX8_witness_32 : decode cX8_witness 32 = .ok (.ldc2_w 109, 3) := by decide +kernel
theorem dX8_witness_35 : decode cX8_witness 35 = .ok (.lreturn, 1) := by decide +kernel
theorem dX8_witness_36 : decode cX8_witness 36 = .ok (.aload_n 0, 1) := by decide +kernel
theorem dX8_witness_37 : decode cX8_witness 37 = .ok (.getfield 31, 3) := by decide +kernel
theorem dX8_witness_40 : decode cX8_witness 40 = .ok (.aload_n 0, 1) := by decide +kernel
theorem dX8_witness_41 : decode cX8_witness 41 = .ok (.getfield 100, 3) := by decide +kernel
theorem dX8_witness_44 : decode cX8_witness 44 = .ok (.iload_n 1, 1) := by decide +kernel
theorem dX8_witness_45 : decode cX8_witness 45 = .ok (.iastore, 1) := by decide +kernel
theorem dX8_witness_46 : decode cX8_witness 46 = .ok (.aload_n 0, 1) := by decide +kernel
theorem dX8_witness_47 : decode cX8_witness 47 = .ok (.getfield 34, 3) := by decide +kernel
theorem dX8_witness_50 : decode cX8_witness 50 = .ok (.aload_n 0, 1) := by decide +kernel
theorem dX8_witness_51 : decode cX8_witness 51 = .ok (.getfield 100, 3) := by decide +kernel
theorem dX8_witness_54 : decode cX8_witness 54 = .ok (.iload_n 2, 1) := by decide +kernel
theorem dX8_witness_55 : decode cX8_witness 55 = .ok (.iastore, 1) := by decide +kernel
theorem dX8_witness_56 : decode cX8_witness 56 = .ok (.aload_n 0, 1) := by decide +kernel
theorem dX8_witness_57 : decode cX8_witness 57 = .ok (.dup, 1) := by decide +kernel
theorem dX8_witness_58 : decode cX8_witness 58 = .ok (.getfield 100, 3) := by decide +kernel
theorem dX8_witness_61 : decode cX8_witness 61 = .ok (.iconst 1, 1) := by decide +kernel
theorem dX8_witness_62 : decode cX8_witness 62 = .ok (.iadd, 1) := by decide +kernel
theorem dX8_witness_63 : decode cX8_witness 63 = .ok (.putfield 100, 3) := by decide +kernel
theorem dX8_witness_66 : decode cX8_witness 66 = .ok (.aload_n 0, 1) := by decide +kernel
theorem dX8_witness_67 : decode cX8_witness 67 = .ok (.getfield 100, 3) := by decide +kernel
theorem dX8_witness_70 : decode cX8_witness 70 = .ok (.iconst 1, 1) := by decide +kernel
theorem dX8_witness_71 : decode cX8_witness 71 = .ok (.isub, 1) := by decide +kernel
theorem dX8_witness_72 : decode cX8_witness 72 = .ok (.i2l, 1) := by decide +kernel
theorem dX8_witness_73 : decode cX8_witness 73 = .ok (.lreturn, 1) := by decide +kernel
theorem dX8_isOf_0 : decode cX8_isOf 0 = .ok (.aload_n 0, 1) := by decide +kernel
theorem dX8_isOf_1 : decode cX8_isOf 1 = .ok (.iload_n 1, 1) := by decide +kernel
theorem dX8_isOf_2 : decode cX8_isOf 2 = .ok (.invokevirtual 115, 3) := by decide +kernel
theorem dX8_isOf_5 : decode cX8_isOf 5 = .ok (.ifCond .eq 12, 3) := by decide +kernel
theorem dX8_isOf_8 : decode cX8_isOf 8 = .ok (.iload_n 2, 1) := by decide +kernel
theorem dX8_isOf_9 : decode cX8_isOf 9 = .ok (.iconst 0, 1) := by decide +kernel
theorem dX8_isOf_10 : decode cX8_isOf 10 = .ok (.iconst 4, 1) := by decide +kernel
theorem dX8_isOf_11 : decode cX8_isOf 11 = .ok (.invokestatic 92, 3) := by decide +kernel
theorem dX8_isOf_14 : decode cX8_isOf 14 = .ok (.ifCond .ne 7, 3) := by decide +kernel
theorem dX8_isOf_17 : decode cX8_isOf 17 = .ok (.ldc2_w 107, 3) := by decide +kernel
theorem dX8_isOf_20 : decode cX8_isOf 20 = .ok (.lreturn, 1) := by decide +kernel
theorem dX8_isOf_21 : decode cX8_isOf 21 = .ok (.aload_n 0, 1) := by decide +kernel
theorem dX8_isOf_22 : decode cX8_isOf 22 = .ok (.getfield 31, 3) := by decide +kernel
theorem dX8_isOf_25 : decode cX8_isOf 25 = .ok (.iload_n 1, 1) := by decide +kernel
theorem dX8_isOf_26 : decode cX8_isOf 26 = .ok (.iaload, 1) := by decide +kernel
theorem dX8_isOf_27 : decode cX8_isOf 27 = .ok (.istore_n 3, 1) := by decide +kernel
theorem dX8_isOf_28 : decode cX8_isOf 28 = .ok (.iload_n 2, 1) := by decide +kernel
theorem dX8_isOf_29 : decode cX8_isOf 29 = .ok (.ifCond .eq 18, 3) := by decide +kernel
theorem dX8_isOf_32 : decode cX8_isOf 32 = .ok (.iload_n 2, 1) := by decide +kernel
theorem dX8_isOf_33 : decode cX8_isOf 33 = .ok (.iload_n 3, 1) := by decide +kernel
theorem dX8_isOf_34 : decode cX8_isOf 34 = .ok (.if_icmp .eq 13, 3) := by decide +kernel
theorem dX8_isOf_37 : decode cX8_isOf 37 = .ok (.iload_n 2, 1) := by decide +kernel
theorem dX8_isOf_38 : decode cX8_isOf 38 = .ok (.iconst 3, 1) := by decide +kernel
theorem dX8_isOf_39 : decode cX8_isOf 39 = .ok (.if_icmp .ne 12, 3) := by decide +kernel
theorem dX8_isOf_42 : decode cX8_isOf 42 = .ok (.iload_n 3, 1) := by decide +kernel
theorem dX8_isOf_43 : decode cX8_isOf 43 = .ok (.iconst 4, 1) := by decide +kernel
theorem dX8_isOf_44 : decode cX8_isOf 44 = .ok (.if_icmp .ne 7, 3) := by decide +kernel
theorem dX8_isOf_47 : decode cX8_isOf 47 = .ok (.lconst 1, 1) := by decide +kernel
theorem dX8_isOf_48 : decode cX8_isOf 48 = .ok (.goto 4, 3) := by decide +kernel
theorem dX8_isOf_51 : decode cX8_isOf 51 = .ok (.lconst 0, 1) := by decide +kernel
theorem dX8_isOf_52 : decode cX8_isOf 52 = .ok (.lreturn, 1) := by decide +kernel
theorem dX8_needs_0 : decode cX8_needs 0 = .ok (.aload_n 0, 1) := by decide +kernel
theorem dX8_needs_1 : decode cX8_needs 1 = .ok (.iload_n 1, 1) := by decide +kernel
theorem dX8_needs_2 : decode cX8_needs 2 = .ok (.invokevirtual 118, 3) := by decide +kernel
theorem dX8_needs_5 : decode cX8_needs 5 = .ok (.ifCond .eq 19, 3) := by decide +kernel
theorem dX8_needs_8 : decode cX8_needs 8 = .ok (.iload_n 2, 1) := by decide +kernel
theorem dX8_needs_9 : decode cX8_needs 9 = .ok (.iconst 0, 1) := by decide +kernel
theorem dX8_needs_10 : decode cX8_needs 10 = .ok (.iconst 1, 1) := by decide +kernel
theorem dX8_needs_11 : decode cX8_needs 11 = .ok (.aload_n 0, 1) := by decide +kernel
theorem dX8_needs_12 : decode cX8_needs 12 = .ok (.getfield 100, 3) := by decide +kernel
theorem dX8_needs_15 : decode cX8_needs 15 = .ok (.ishl, 1) := by decide +kernel
theorem dX8_needs_16 : decode cX8_needs 16 = .ok (.iconst 1, 1) := by decide +kernel
theorem dX8_needs_17 : decode cX8_needs 17 = .ok (.isub, 1) := by decide +kernel
theorem dX8_needs_18 : decode cX8_needs 18 = .ok (.invokestatic 92, 3) := by decide +kernel
theorem dX8_needs_21 : decode cX8_needs 21 = .ok (.ifCond .ne 7, 3) := by decide +kernel
theorem dX8_needs_24 : decode cX8_needs 24 = .ok (.ldc2_w 107, 3) := by decide +kernel
theorem dX8_needs_27 : decode cX8_needs 27 = .ok (.lreturn, 1) := by decide +kernel
theorem dX8_needs_28 : decode cX8_needs 28 = .ok (.aload_n 0, 1) := by decide +kernel
theorem dX8_needs_29 : decode cX8_needs 29 = .ok (.getfield 25, 3) := by decide +kernel
theorem dX8_needs_32 : decode cX8_needs 32 = .ok (.iload_n 1, 1) := by decide +kernel
theorem dX8_needs_33 : decode cX8_needs 33 = .ok (.iaload, 1) := by decide +kernel
theorem dX8_needs_34 : decode cX8_needs 34 = .ok (.istore_n 3, 1) := by decide +kernel
theorem dX8_needs_35 : decode cX8_needs 35 = .ok (.iconst 0, 1) := by decide +kernel
theorem dX8_needs_36 : decode cX8_needs 36 = .ok (.istore 4, 2) := by decide +kernel
theorem dX8_needs_38 : decode cX8_needs 38 = .ok (.iload 4, 2) := by decide +kernel
theorem dX8_needs_40 : decode cX8_needs 40 = .ok (.aload_n 0, 1) := by decide +kernel
theorem dX8_needs_41 : decode cX8_needs 41 = .ok (.getfield 100, 3) := by decide +kernel
theorem dX8_needs_44 : decode cX8_needs 44 = .ok (.if_icmp .ge 38, 3) := by decide +kernel
theorem dX8_needs_47 : decode cX8_needs 47 = .ok (.aload_n 0, 1) := by decide +kernel
theorem dX8_needs_48 : decode cX8_needs 48 = .ok (.iload_n 1, 1) := by decide +kernel
theorem dX8_needs_49 : decode cX8_needs 49 = .ok (.iload 4, 2) := by decide +kernel
theorem dX8_needs_51 : decode cX8_needs 51 = .ok (.invokevirtual 121, 3) := by decide +kernel
theorem dX8_needs_54 : decode cX8_needs 54 = .ok (.ifCond .ne 22, 3) := by decide +kernel
theorem dX8_needs_57 : decode cX8_needs 57 = .ok (.aload_n 0, 1) := by decide +kernel
theorem dX8_needs_58 : decode cX8_needs 58 = .ok (.getfield 40, 3) := by decide +kernel
theorem dX8_needs_61 : decode cX8_needs 61 = .ok (.bipush 10, 2) := by decide +kernel
theorem dX8_needs_63 : decode cX8_needs 63 = .ok (.iload_n 1, 1) := by decide +kernel
theorem dX8_needs_64 : decode cX8_needs 64 = .ok (.imul, 1) := by decide +kernel
theorem dX8_needs_65 : decode cX8_needs 65 = .ok (.iload 4, 2) := by decide +kernel
theorem dX8_needs_67 : decode cX8_needs 67 = .ok (.iadd, 1) := by decide +kernel
theorem dX8_needs_68 : decode cX8_needs 68 = .ok (.aload_n 0, 1) := by decide +kernel
theorem dX8_needs_69 : decode cX8_needs 69 = .ok (.getfield 34, 3) := by decide +kernel
theorem dX8_needs_72 : decode cX8_needs 72 = .ok (.iload 4, 2) := by decide +kernel
theorem dX8_needs_74 : decode cX8_needs 74 = .ok (.iaload, 1) := by decide +kernel
theorem dX8_needs_75 : decode cX8_needs 75 = .ok (.iastore, 1) := by decide +kernel
theorem dX8_needs_76 : decode cX8_needs 76 = .ok (.iinc 4 1, 3) := by decide +kernel
theorem dX8_needs_79 : decode cX8_needs 79 = .ok (.goto (-41), 3) := by decide +kernel
theorem dX8_needs_82 : decode cX8_needs 82 = .ok (.aload_n 0, 1) := by decide +kernel
theorem dX8_needs_83 : decode cX8_needs 83 = .ok (.getfield 25, 3) := by decide +kernel
theorem dX8_needs_86 : decode cX8_needs 86 = .ok (.iload_n 1, 1) := by decide +kernel
theorem dX8_needs_87 : decode cX8_needs 87 = .ok (.iload_n 2, 1) := by decide +kernel
theorem dX8_needs_88 : decode cX8_needs 88 = .ok (.iastore, 1) := by decide +kernel
theorem dX8_needs_89 : decode cX8_needs 89 = .ok (.iload_n 3, 1) := by decide +kernel
theorem dX8_needs_90 : decode cX8_needs 90 = .ok (.i2l, 1) := by decide +kernel
theorem dX8_needs_91 : decode cX8_needs 91 = .ok (.lreturn, 1) := by decide +kernel
theorem dX8_fold_0 : decode cX8_fold 0 = .ok (.aload_n 0, 1) := by decide +kernel
theorem dX8_fold_1 : decode cX8_fold 1 = .ok (.iload_n 1, 1) := by decide +kernel
theorem dX8_fold_2 : decode cX8_fold 2 = .ok (.invokevirtual 118, 3) := by decide +kernel
theorem dX8_fold_5 : decode cX8_fold 5 = .ok (.ifCond .eq 13, 3) := by decide +kernel
theorem dX8_fold_8 : decode cX8_fold 8 = .ok (.iload_n 2, 1) := by decide +kernel
theorem dX8_fold_9 : decode cX8_fold 9 = .ok (.iconst 0, 1) := by decide +kernel
theorem dX8_fold_10 : decode cX8_fold 10 = .ok (.bipush 100, 2) := by decide +kernel
theorem dX8_fold_12 : decode cX8_fold 12 = .ok (.invokestatic 92, 3) := by decide +kernel
theorem dX8_fold_15 : decode cX8_fold 15 = .ok (.ifCond .ne 7, 3) := by decide +kernel
theorem dX8_fold_18 : decode cX8_fold 18 = .ok (.ldc2_w 107, 3) := by decide +kernel
theorem dX8_fold_21 : decode cX8_fold 21 = .ok (.lreturn, 1) := by decide +kernel
theorem dX8_fold_22 : decode cX8_fold 22 = .ok (.aload_n 0, 1) := by decide +kernel
theorem dX8_fold_23 : decode cX8_fold 23 = .ok (.getfield 22, 3) := by decide +kernel
theorem dX8_fold_26 : decode cX8_fold 26 = .ok (.iload_n 1, 1) := by decide +kernel
theorem dX8_fold_27 : decode cX8_fold 27 = .ok (.iaload, 1) := by decide +kernel
theorem dX8_fold_28 : decode cX8_fold 28 = .ok (.istore_n 3, 1) := by decide +kernel
theorem dX8_fold_29 : decode cX8_fold 29 = .ok (.aload_n 0, 1) := by decide +kernel
theorem dX8_fold_30 : decode cX8_fold 30 = .ok (.getfield 22, 3) := by decide +kernel
theorem dX8_fold_33 : decode cX8_fold 33 = .ok (.iload_n 1, 1) := by decide +kernel
theorem dX8_fold_34 : decode cX8_fold 34 = .ok (.iload_n 2, 1) := by decide +kernel
theorem dX8_fold_35 : decode cX8_fold 35 = .ok (.iastore, 1) := by decide +kernel
theorem dX8_fold_36 : decode cX8_fold 36 = .ok (.iload_n 3, 1) := by decide +kernel
theorem dX8_fold_37 : decode cX8_fold 37 = .ok (.i2l, 1) := by decide +kernel
theorem dX8_fold_38 : decode cX8_fold 38 = .ok (.lreturn, 1) := by decide +kernel
theorem dX8_placeOf_0 : decode cX8_placeOf 0 = .ok (.aload_n 0, 1) := by decide +kernel
theorem dX8_placeOf_1 : decode cX8_placeOf 1 = .ok (.getfield 16, 3) := by decide +kernel
theorem dX8_placeOf_4 : decode cX8_placeOf 4 = .ok (.iload_n 1, 1) := by decide +kernel
theorem dX8_placeOf_5 : decode cX8_placeOf 5 = .ok (.iaload, 1) := by decide +kernel
theorem dX8_placeOf_6 : decode cX8_placeOf 6 = .ok (.istore_n 2, 1) := by decide +kernel
theorem dX8_placeOf_7 : decode cX8_placeOf 7 = .ok (.iconst 0, 1) := by decide +kernel
theorem dX8_placeOf_8 : decode cX8_placeOf 8 = .ok (.istore_n 3, 1) := by decide +kernel
theorem dX8_placeOf_9 : decode cX8_placeOf 9 = .ok (.aload_n 0, 1) := by decide +kernel
theorem dX8_placeOf_10 : decode cX8_placeOf 10 = .ok (.getfield 13, 3) := by decide +kernel
theorem dX8_placeOf_13 : decode cX8_placeOf 13 = .ok (.bipush 6, 2) := by decide +kernel
theorem dX8_placeOf_15 : decode cX8_placeOf 15 = .ok (.iload_n 2, 1) := by decide +kernel
theorem dX8_placeOf_16 : decode cX8_placeOf 16 = .ok (.imul, 1) := by decide +kernel
theorem dX8_placeOf_17 : decode cX8_placeOf 17 = .ok (.iload_n 3, 1) := by decide +kernel
theorem dX8_placeOf_18 : decode cX8_placeOf 18 = .ok (.iadd, 1) := by decide +kernel
theorem dX8_placeOf_19 : decode cX8_placeOf 19 = .ok (.iaload, 1) := by decide +kernel
theorem dX8_placeOf_20 : decode cX8_placeOf 20 = .ok (.iload_n 1, 1) := by decide +kernel
theorem dX8_placeOf_21 : decode cX8_placeOf 21 = .ok (.if_icmp .eq 9, 3) := by decide +kernel
theorem dX8_placeOf_24 : decode cX8_placeOf 24 = .ok (.iinc 3 1, 3) := by decide +kernel
theorem dX8_placeOf_27 : decode cX8_placeOf 27 = .ok (.goto (-18), 3) := by decide +kernel
theorem dX8_placeOf_30 : decode cX8_placeOf 30 = .ok (.iload_n 3, 1) := by decide +kernel
theorem dX8_placeOf_31 : decode cX8_placeOf 31 = .ok (.ireturn, 1) := by decide +kernel
theorem dX8_told_0 : decode cX8_told 0 = .ok (.aload_n 0, 1) := by decide +kernel
theorem dX8_told_1 : decode cX8_told 1 = .ok (.iload_n 1, 1) := by decide +kernel
theorem dX8_told_2 : decode cX8_told 2 = .ok (.invokevirtual 118, 3) := by decide +kernel
theorem dX8_told_5 : decode cX8_told 5 = .ok (.ifCond .eq 12, 3) := by decide +kernel
theorem dX8_told_8 : decode cX8_told 8 = .ok (.iload_n 2, 1) := by decide +kernel
theorem dX8_told_9 : decode cX8_told 9 = .ok (.iconst 0, 1) := by decide +kernel
theorem dX8_told_10 : decode cX8_told 10 = .ok (.iconst 5, 1) := by decide +kernel
theorem dX8_told_11 : decode cX8_told 11 = .ok (.invokestatic 92, 3) := by decide +kernel
theorem dX8_told_14 : decode cX8_told 14 = .ok (.ifCond .ne 7, 3) := by decide +kernel
theorem dX8_told_17 : decode cX8_told 17 = .ok (.ldc2_w 107, 3) := by decide +kernel
theorem dX8_told_20 : decode cX8_told 20 = .ok (.lreturn, 1) := by decide +kernel
theorem dX8_told_21 : decode cX8_told 21 = .ok (.iload_n 2, 1) := by decide +kernel
theorem dX8_told_22 : decode cX8_told 22 = .ok (.tableswitch 73 0 4 #[34, 42, 49, 57, 65], 34) := by decide +kernel
theorem dX8_told_56 : decode cX8_told 56 = .ok (.aload_n 0, 1) := by decide +kernel
theorem dX8_told_57 : decode cX8_told 57 = .ok (.getfield 16, 3) := by decide +kernel
theorem dX8_told_60 : decode cX8_told 60 = .ok (.iload_n 1, 1) := by decide +kernel
theorem dX8_told_61 : decode cX8_told 61 = .ok (.iaload, 1) := by decide +kernel
theorem dX8_told_62 : decode cX8_told 62 = .ok (.i2l, 1) := by decide +kernel
theorem dX8_told_63 : decode cX8_told 63 = .ok (.lreturn, 1) := by decide +kernel
theorem dX8_told_64 : decode cX8_told 64 = .ok (.aload_n 0, 1) := by decide +kernel
theorem dX8_told_65 : decode cX8_told 65 = .ok (.iload_n 1, 1) := by decide +kernel
theorem dX8_told_66 : decode cX8_told 66 = .ok (.invokevirtual 125, 3) := by decide +kernel
theorem dX8_told_69 : decode cX8_told 69 = .ok (.i2l, 1) := by decide +kernel
theorem dX8_told_70 : decode cX8_told 70 = .ok (.lreturn, 1) := by decide +kernel
theorem dX8_told_71 : decode cX8_told 71 = .ok (.aload_n 0, 1) := by decide +kernel
theorem dX8_told_72 : decode cX8_told 72 = .ok (.getfield 19, 3) := by decide +kernel
theorem dX8_told_75 : decode cX8_told 75 = .ok (.iload_n 1, 1) := by decide +kernel
theorem dX8_told_76 : decode cX8_told 76 = .ok (.iaload, 1) := by decide +kernel
theorem dX8_told_77 : decode cX8_told 77 = .ok (.i2l, 1) := by decide +kernel
theorem dX8_told_78 : decode cX8_told 78 = .ok (.lreturn, 1) := by decide +kernel
theorem dX8_told_79 : decode cX8_told 79 = .ok (.aload_n 0, 1) := by decide +kernel
theorem dX8_told_80 : decode cX8_told 80 = .ok (.getfield 22, 3) := by decide +kernel
theorem dX8_told_83 : decode cX8_told 83 = .ok (.iload_n 1, 1) := by decide +kernel
theorem dX8_told_84 : decode cX8_told 84 = .ok (.iaload, 1) := by decide +kernel
theorem dX8_told_85 : decode cX8_told 85 = .ok (.i2l, 1) := by decide +kernel
theorem dX8_told_86 : decode cX8_told 86 = .ok (.lreturn, 1) := by decide +kernel
theorem dX8_told_87 : decode cX8_told 87 = .ok (.aload_n 0, 1) := by decide +kernel
theorem dX8_told_88 : decode cX8_told 88 = .ok (.getfield 25, 3) := by decide +kernel
theorem dX8_told_91 : decode cX8_told 91 = .ok (.iload_n 1, 1) := by decide +kernel
theorem dX8_told_92 : decode cX8_told 92 = .ok (.iaload, 1) := by decide +kernel
theorem dX8_told_93 : decode cX8_told 93 = .ok (.i2l, 1) := by decide +kernel
theorem dX8_told_94 : decode cX8_told 94 = .ok (.lreturn, 1) := by decide +kernel
theorem dX8_told_95 : decode cX8_told 95 = .ok (.aload_n 0, 1) := by decide +kernel
theorem dX8_told_96 : decode cX8_told 96 = .ok (.getfield 28, 3) := by decide +kernel
theorem dX8_told_99 : decode cX8_told 99 = .ok (.iload_n 1, 1) := by decide +kernel
theorem dX8_told_100 : decode cX8_told 100 = .ok (.iaload, 1) := by decide +kernel
theorem dX8_told_101 : decode cX8_told 101 = .ok (.ifCond .ge 9, 3) := by decide +kernel
theorem dX8_told_104 : decode cX8_told 104 = .ok (.ldc2_w 129, 3) := by decide +kernel
theorem dX8_told_107 : decode cX8_told 107 = .ok (.goto 10, 3) := by decide +kernel
theorem dX8_told_110 : decode cX8_told 110 = .ok (.aload_n 0, 1) := by decide +kernel
theorem dX8_told_111 : decode cX8_told 111 = .ok (.getfield 28, 3) := by decide +kernel
theorem dX8_told_114 : decode cX8_told 114 = .ok (.iload_n 1, 1) := by decide +kernel
theorem dX8_told_115 : decode cX8_told 115 = .ok (.iaload, 1) := by decide +kernel
theorem dX8_told_116 : decode cX8_told 116 = .ok (.i2l, 1) := by decide +kernel
theorem dX8_told_117 : decode cX8_told 117 = .ok (.lreturn, 1) := by decide +kernel
theorem dX8_inList_0 : decode cX8_inList 0 = .ok (.iload_n 1, 1) := by decide +kernel
theorem dX8_inList_1 : decode cX8_inList 1 = .ok (.invokestatic 103, 3) := by decide +kernel
theorem dX8_inList_4 : decode cX8_inList 4 = .ok (.ifCond .eq 7, 3) := by decide +kernel
theorem dX8_inList_7 : decode cX8_inList 7 = .ok (.iload_n 2, 1) := by decide +kernel
theorem dX8_inList_8 : decode cX8_inList 8 = .ok (.ifCond .ge 7, 3) := by decide +kernel
theorem dX8_inList_11 : decode cX8_inList 11 = .ok (.ldc2_w 107, 3) := by decide +kernel
theorem dX8_inList_14 : decode cX8_inList 14 = .ok (.lreturn, 1) := by decide +kernel
theorem dX8_inList_15 : decode cX8_inList 15 = .ok (.iload_n 2, 1) := by decide +kernel
theorem dX8_inList_16 : decode cX8_inList 16 = .ok (.aload_n 0, 1) := by decide +kernel
theorem dX8_inList_17 : decode cX8_inList 17 = .ok (.getfield 7, 3) := by decide +kernel
theorem dX8_inList_20 : decode cX8_inList 20 = .ok (.iload_n 1, 1) := by decide +kernel
theorem dX8_inList_21 : decode cX8_inList 21 = .ok (.iaload, 1) := by decide +kernel
theorem dX8_inList_22 : decode cX8_inList 22 = .ok (.if_icmp .ge 18, 3) := by decide +kernel
theorem dX8_inList_25 : decode cX8_inList 25 = .ok (.aload_n 0, 1) := by decide +kernel
theorem dX8_inList_26 : decode cX8_inList 26 = .ok (.getfield 13, 3) := by decide +kernel
theorem dX8_inList_29 : decode cX8_inList 29 = .ok (.bipush 6, 2) := by decide +kernel
theorem dX8_inList_31 : decode cX8_inList 31 = .ok (.iload_n 1, 1) := by decide +kernel
theorem dX8_inList_32 : decode cX8_inList 32 = .ok (.imul, 1) := by decide +kernel
theorem dX8_inList_33 : decode cX8_inList 33 = .ok (.iload_n 2, 1) := by decide +kernel
theorem dX8_inList_34 : decode cX8_inList 34 = .ok (.iadd, 1) := by decide +kernel
theorem dX8_inList_35 : decode cX8_inList 35 = .ok (.iaload, 1) := by decide +kernel
theorem dX8_inList_36 : decode cX8_inList 36 = .ok (.i2l, 1) := by decide +kernel
theorem dX8_inList_37 : decode cX8_inList 37 = .ok (.goto 6, 3) := by decide +kernel
theorem dX8_inList_40 : decode cX8_inList 40 = .ok (.ldc2_w 129, 3) := by decide +kernel
theorem dX8_inList_43 : decode cX8_inList 43 = .ok (.lreturn, 1) := by decide +kernel
theorem dX8_rule_0 : decode cX8_rule 0 = .ok (.iload_n 1, 1) := by decide +kernel
theorem dX8_rule_1 : decode cX8_rule 1 = .ok (.iconst 0, 1) := by decide +kernel
theorem dX8_rule_2 : decode cX8_rule 2 = .ok (.iconst 4, 1) := by decide +kernel
theorem dX8_rule_3 : decode cX8_rule 3 = .ok (.invokestatic 92, 3) := by decide +kernel
theorem dX8_rule_6 : decode cX8_rule 6 = .ok (.istore_n 3, 1) := by decide +kernel
theorem dX8_rule_7 : decode cX8_rule 7 = .ok (.iload_n 3, 1) := by decide +kernel
theorem dX8_rule_8 : decode cX8_rule 8 = .ok (.ifCond .eq 36, 3) := by decide +kernel
theorem dX8_rule_11 : decode cX8_rule 11 = .ok (.iload_n 1, 1) := by decide +kernel
theorem dX8_rule_12 : decode cX8_rule 12 = .ok (.ifCond .ne 13, 3) := by decide +kernel
theorem dX8_rule_15 : decode cX8_rule 15 = .ok (.iload_n 2, 1) := by decide +kernel
theorem dX8_rule_16 : decode cX8_rule 16 = .ok (.iconst 1, 1) := by decide +kernel
theorem dX8_rule_17 : decode cX8_rule 17 = .ok (.bipush 20, 2) := by decide +kernel
theorem dX8_rule_19 : decode cX8_rule 19 = .ok (.invokestatic 92, 3) := by decide +kernel
theorem dX8_rule_22 : decode cX8_rule 22 = .ok (.goto 21, 3) := by decide +kernel
theorem dX8_rule_25 : decode cX8_rule 25 = .ok (.iload_n 2, 1) := by decide +kernel
theorem dX8_rule_26 : decode cX8_rule 26 = .ok (.iconst 0, 1) := by decide +kernel
theorem dX8_rule_27 : decode cX8_rule 27 = .ok (.iload_n 1, 1) := by decide +kernel
theorem dX8_rule_28 : decode cX8_rule 28 = .ok (.iconst 1, 1) := by decide +kernel
theorem dX8_rule_29 : decode cX8_rule 29 = .ok (.if_icmp .ne 9, 3) := by decide +kernel
theorem dX8_rule_32 : decode cX8_rule 32 = .ok (.sipush 200, 3) := by decide +kernel
theorem dX8_rule_35 : decode cX8_rule 35 = .ok (.goto 5, 3) := by decide +kernel
theorem dX8_rule_38 : decode cX8_rule 38 = .ok (.bipush 100, 2) := by decide +kernel
theorem dX8_rule_40 : decode cX8_rule 40 = .ok (.invokestatic 92, 3) := by decide +kernel
theorem dX8_rule_43 : decode cX8_rule 43 = .ok (.istore_n 3, 1) := by decide +kernel
theorem dX8_rule_44 : decode cX8_rule 44 = .ok (.iload_n 3, 1) := by decide +kernel
theorem dX8_rule_45 : decode cX8_rule 45 = .ok (.ifCond .ne 7, 3) := by decide +kernel
theorem dX8_rule_48 : decode cX8_rule 48 = .ok (.ldc2_w 107, 3) := by decide +kernel
theorem dX8_rule_51 : decode cX8_rule 51 = .ok (.lreturn, 1) := by decide +kernel
theorem dX8_rule_52 : decode cX8_rule 52 = .ok (.aload_n 0, 1) := by decide +kernel
theorem dX8_rule_53 : decode cX8_rule 53 = .ok (.getfield 43, 3) := by decide +kernel
theorem dX8_rule_56 : decode cX8_rule 56 = .ok (.iload_n 1, 1) := by decide +kernel
theorem dX8_rule_57 : decode cX8_rule 57 = .ok (.iaload, 1) := by decide +kernel
theorem dX8_rule_58 : decode cX8_rule 58 = .ok (.istore 4, 2) := by decide +kernel
theorem dX8_rule_60 : decode cX8_rule 60 = .ok (.aload_n 0, 1) := by decide +kernel
theorem dX8_rule_61 : decode cX8_rule 61 = .ok (.getfield 43, 3) := by decide +kernel
theorem dX8_rule_64 : decode cX8_rule 64 = .ok (.iload_n 1, 1) := by decide +kernel
theorem dX8_rule_65 : decode cX8_rule 65 = .ok (.iload_n 2, 1) := by decide +kernel
theorem dX8_rule_66 : decode cX8_rule 66 = .ok (.iastore, 1) := by decide +kernel
theorem dX8_rule_67 : decode cX8_rule 67 = .ok (.iload 4, 2) := by decide +kernel
theorem dX8_rule_69 : decode cX8_rule 69 = .ok (.i2l, 1) := by decide +kernel
theorem dX8_rule_70 : decode cX8_rule 70 = .ok (.lreturn, 1) := by decide +kernel
theorem dX8_weigh_0 : decode cX8_weigh 0 = .ok (.iconst 0, 1) := by decide +kernel
theorem dX8_weigh_1 : decode cX8_weigh 1 = .ok (.istore_n 2, 1) := by decide +kernel
theorem dX8_weigh_2 : decode cX8_weigh 2 = .ok (.iload_n 2, 1) := by decide +kernel
theorem dX8_weigh_3 : decode cX8_weigh 3 = .ok (.bipush 48, 2) := by decide +kernel
theorem dX8_weigh_5 : decode cX8_weigh 5 = .ok (.if_icmp .gt 24, 3) := by decide +kernel
theorem dX8_weigh_8 : decode cX8_weigh 8 = .ok (.aload_n 0, 1) := by decide +kernel
theorem dX8_weigh_9 : decode cX8_weigh 9 = .ok (.getfield 61, 3) := by decide +kernel
theorem dX8_weigh_12 : decode cX8_weigh 12 = .ok (.iload_n 2, 1) := by decide +kernel
theorem dX8_weigh_13 : decode cX8_weigh 13 = .ok (.iload_n 2, 1) := by decide +kernel
theorem dX8_weigh_14 : decode cX8_weigh 14 = .ok (.ifCond .ne 7, 3) := by decide +kernel
theorem dX8_weigh_17 : decode cX8_weigh 17 = .ok (.lconst 1, 1) := by decide +kernel
theorem dX8_weigh_18 : decode cX8_weigh 18 = .ok (.goto 4, 3) := by decide +kernel
theorem dX8_weigh_21 : decode cX8_weigh 21 = .ok (.lconst 0, 1) := by decide +kernel
theorem dX8_weigh_22 : decode cX8_weigh 22 = .ok (.lastore, 1) := by decide +kernel
theorem dX8_weigh_23 : decode cX8_weigh 23 = .ok (.iinc 2 1, 3) := by decide +kernel
theorem dX8_weigh_26 : decode cX8_weigh 26 = .ok (.goto (-24), 3) := by decide +kernel
theorem dX8_weigh_29 : decode cX8_weigh 29 = .ok (.aload_n 0, 1) := by decide +kernel
theorem dX8_weigh_30 : decode cX8_weigh 30 = .ok (.getfield 16, 3) := by decide +kernel
theorem dX8_weigh_33 : decode cX8_weigh 33 = .ok (.iload_n 1, 1) := by decide +kernel
theorem dX8_weigh_34 : decode cX8_weigh 34 = .ok (.iaload, 1) := by decide +kernel
theorem dX8_weigh_35 : decode cX8_weigh 35 = .ok (.istore_n 2, 1) := by decide +kernel
theorem dX8_weigh_36 : decode cX8_weigh 36 = .ok (.aload_n 0, 1) := by decide +kernel
theorem dX8_weigh_37 : decode cX8_weigh 37 = .ok (.iload_n 1, 1) := by decide +kernel
theorem dX8_weigh_38 : decode cX8_weigh 38 = .ok (.invokevirtual 125, 3) := by decide +kernel
theorem dX8_weigh_41 : decode cX8_weigh 41 = .ok (.istore_n 3, 1) := by decide +kernel
theorem dX8_weigh_42 : decode cX8_weigh 42 = .ok (.iconst 0, 1) := by decide +kernel
theorem dX8_weigh_43 : decode cX8_weigh 43 = .ok (.istore 4, 2) := by decide +kernel
theorem dX8_weigh_45 : decode cX8_weigh 45 = .ok (.iload 4, 2) := by decide +kernel
theorem dX8_weigh_47 : decode cX8_weigh 47 = .ok (.iload_n 3, 1) := by decide +kernel
theorem dX8_weigh_48 : decode cX8_weigh 48 = .ok (.if_icmp .ge 144, 3) := by decide +kernel
theorem dX8_weigh_51 : decode cX8_weigh 51 = .ok (.aload_n 0, 1) := by decide +kernel
theorem dX8_weigh_52 : decode cX8_weigh 52 = .ok (.getfield 13, 3) := by decide +kernel
theorem dX8_weigh_55 : decode cX8_weigh 55 = .ok (.bipush 6, 2) := by decide +kernel
theorem dX8_weigh_57 : decode cX8_weigh 57 = .ok (.iload_n 2, 1) := by decide +kernel
theorem dX8_weigh_58 : decode cX8_weigh 58 = .ok (.imul, 1) := by decide +kernel
theorem dX8_weigh_59 : decode cX8_weigh 59 = .ok (.iload 4, 2) := by decide +kernel
theorem dX8_weigh_61 : decode cX8_weigh 61 = .ok (.iadd, 1) := by decide +kernel
theorem dX8_weigh_62 : decode cX8_weigh 62 = .ok (.iaload, 1) := by decide +kernel
theorem dX8_weigh_63 : decode cX8_weigh 63 = .ok (.istore 5, 2) := by decide +kernel
theorem dX8_weigh_65 : decode cX8_weigh 65 = .ok (.iconst 0, 1) := by decide +kernel
theorem dX8_weigh_66 : decode cX8_weigh 66 = .ok (.istore 6, 2) := by decide +kernel
theorem dX8_weigh_68 : decode cX8_weigh 68 = .ok (.iload 6, 2) := by decide +kernel
theorem dX8_weigh_70 : decode cX8_weigh 70 = .ok (.bipush 48, 2) := by decide +kernel
theorem dX8_weigh_72 : decode cX8_weigh 72 = .ok (.if_icmp .gt 84, 3) := by decide +kernel
theorem dX8_weigh_75 : decode cX8_weigh 75 = .ok (.aload_n 0, 1) := by decide +kernel
theorem dX8_weigh_76 : decode cX8_weigh 76 = .ok (.getfield 61, 3) := by decide +kernel
theorem dX8_weigh_79 : decode cX8_weigh 79 = .ok (.iload 6, 2) := by decide +kernel
theorem dX8_weigh_81 : decode cX8_weigh 81 = .ok (.laload, 1) := by decide +kernel
theorem dX8_weigh_82 : decode cX8_weigh 82 = .ok (.aload_n 0, 1) := by decide +kernel
theorem dX8_weigh_83 : decode cX8_weigh 83 = .ok (.getfield 22, 3) := by decide +kernel
theorem dX8_weigh_86 : decode cX8_weigh 86 = .ok (.iload 5, 2) := by decide +kernel
theorem dX8_weigh_88 : decode cX8_weigh 88 = .ok (.iaload, 1) := by decide +kernel
theorem dX8_weigh_89 : decode cX8_weigh 89 = .ok (.i2l, 1) := by decide +kernel
theorem dX8_weigh_90 : decode cX8_weigh 90 = .ok (.lmul, 1) := by decide +kernel
theorem dX8_weigh_91 : decode cX8_weigh 91 = .ok (.lstore 7, 2) := by decide +kernel
theorem dX8_weigh_93 : decode cX8_weigh 93 = .ok (.iload 6, 2) := by decide +kernel
theorem dX8_weigh_95 : decode cX8_weigh 95 = .ok (.aload_n 0, 1) := by decide +kernel
theorem dX8_weigh_96 : decode cX8_weigh 96 = .ok (.getfield 19, 3) := by decide +kernel
theorem dX8_weigh_99 : decode cX8_weigh 99 = .ok (.iload 5, 2) := by decide +kernel
theorem dX8_weigh_101 : decode cX8_weigh 101 = .ok (.iaload, 1) := by decide +kernel
theorem dX8_weigh_102 : decode cX8_weigh 102 = .ok (.if_icmp .lt 33, 3) := by decide +kernel
theorem dX8_weigh_105 : decode cX8_weigh 105 = .ok (.aload_n 0, 1) := by decide +kernel
theorem dX8_weigh_106 : decode cX8_weigh 106 = .ok (.getfield 61, 3) := by decide +kernel
theorem dX8_weigh_109 : decode cX8_weigh 109 = .ok (.iload 6, 2) := by decide +kernel
theorem dX8_weigh_111 : decode cX8_weigh 111 = .ok (.aload_n 0, 1) := by decide +kernel
theorem dX8_weigh_112 : decode cX8_weigh 112 = .ok (.getfield 19, 3) := by decide +kernel
theorem dX8_weigh_115 : decode cX8_weigh 115 = .ok (.iload 5, 2) := by decide +kernel
theorem dX8_weigh_117 : decode cX8_weigh 117 = .ok (.iaload, 1) := by decide +kernel
theorem dX8_weigh_118 : decode cX8_weigh 118 = .ok (.isub, 1) := by decide +kernel
theorem dX8_weigh_119 : decode cX8_weigh 119 = .ok (.laload, 1) := by decide +kernel
theorem dX8_weigh_120 : decode cX8_weigh 120 = .ok (.bipush 100, 2) := by decide +kernel
theorem dX8_weigh_122 : decode cX8_weigh 122 = .ok (.aload_n 0, 1) := by decide +kernel
theorem dX8_weigh_123 : decode cX8_weigh 123 = .ok (.getfield 22, 3) := by decide +kernel
theorem dX8_weigh_126 : decode cX8_weigh 126 = .ok (.iload 5, 2) := by decide +kernel
theorem dX8_weigh_128 : decode cX8_weigh 128 = .ok (.iaload, 1) := by decide +kernel
theorem dX8_weigh_129 : decode cX8_weigh 129 = .ok (.isub, 1) := by decide +kernel
theorem dX8_weigh_130 : decode cX8_weigh 130 = .ok (.i2l, 1) := by decide +kernel
theorem dX8_weigh_131 : decode cX8_weigh 131 = .ok (.lmul, 1) := by decide +kernel
theorem dX8_weigh_132 : decode cX8_weigh 132 = .ok (.goto 4, 3) := by decide +kernel
theorem dX8_weigh_135 : decode cX8_weigh 135 = .ok (.lconst 0, 1) := by decide +kernel
theorem dX8_weigh_136 : decode cX8_weigh 136 = .ok (.lstore 9, 2) := by decide +kernel
theorem dX8_weigh_138 : decode cX8_weigh 138 = .ok (.aload_n 0, 1) := by decide +kernel
theorem dX8_weigh_139 : decode cX8_weigh 139 = .ok (.getfield 65, 3) := by decide +kernel
theorem dX8_weigh_142 : decode cX8_weigh 142 = .ok (.iload 6, 2) := by decide +kernel
theorem dX8_weigh_144 : decode cX8_weigh 144 = .ok (.lload 7, 2) := by decide +kernel
theorem dX8_weigh_146 : decode cX8_weigh 146 = .ok (.lload 9, 2) := by decide +kernel
theorem dX8_weigh_148 : decode cX8_weigh 148 = .ok (.ladd, 1) := by decide +kernel
theorem dX8_weigh_149 : decode cX8_weigh 149 = .ok (.lastore, 1) := by decide +kernel
theorem dX8_weigh_150 : decode cX8_weigh 150 = .ok (.iinc 6 1, 3) := by decide +kernel
theorem dX8_weigh_153 : decode cX8_weigh 153 = .ok (.goto (-85), 3) := by decide +kernel
theorem dX8_weigh_156 : decode cX8_weigh 156 = .ok (.iconst 0, 1) := by decide +kernel
theorem dX8_weigh_157 : decode cX8_weigh 157 = .ok (.istore 6, 2) := by decide +kernel
theorem dX8_weigh_159 : decode cX8_weigh 159 = .ok (.iload 6, 2) := by decide +kernel
theorem dX8_weigh_161 : decode cX8_weigh 161 = .ok (.bipush 48, 2) := by decide +kernel
theorem dX8_weigh_163 : decode cX8_weigh 163 = .ok (.if_icmp .gt 23, 3) := by decide +kernel
theorem dX8_weigh_166 : decode cX8_weigh 166 = .ok (.aload_n 0, 1) := by decide +kernel
theorem dX8_weigh_167 : decode cX8_weigh 167 = .ok (.getfield 61, 3) := by decide +kernel
theorem dX8_weigh_170 : decode cX8_weigh 170 = .ok (.iload 6, 2) := by decide +kernel
theorem dX8_weigh_172 : decode cX8_weigh 172 = .ok (.aload_n 0, 1) := by decide +kernel
theorem dX8_weigh_173 : decode cX8_weigh 173 = .ok (.getfield 65, 3) := by decide +kernel
theorem dX8_weigh_176 : decode cX8_weigh 176 = .ok (.iload 6, 2) := by decide +kernel
theorem dX8_weigh_178 : decode cX8_weigh 178 = .ok (.laload, 1) := by decide +kernel
theorem dX8_weigh_179 : decode cX8_weigh 179 = .ok (.lastore, 1) := by decide +kernel
theorem dX8_weigh_180 : decode cX8_weigh 180 = .ok (.iinc 6 1, 3) := by decide +kernel
theorem dX8_weigh_183 : decode cX8_weigh 183 = .ok (.goto (-24), 3) := by decide +kernel
theorem dX8_weigh_186 : decode cX8_weigh 186 = .ok (.iinc 4 1, 3) := by decide +kernel
theorem dX8_weigh_189 : decode cX8_weigh 189 = .ok (.goto (-144), 3) := by decide +kernel
theorem dX8_weigh_192 : decode cX8_weigh 192 = .ok (.return_, 1) := by decide +kernel
theorem dX8_weight_0 : decode cX8_weight 0 = .ok (.aload_n 0, 1) := by decide +kernel
theorem dX8_weight_1 : decode cX8_weight 1 = .ok (.iload_n 1, 1) := by decide +kernel
theorem dX8_weight_2 : decode cX8_weight 2 = .ok (.invokevirtual 118, 3) := by decide +kernel
theorem dX8_weight_5 : decode cX8_weight 5 = .ok (.ifCond .eq 13, 3) := by decide +kernel
theorem dX8_weight_8 : decode cX8_weight 8 = .ok (.iload_n 2, 1) := by decide +kernel
theorem dX8_weight_9 : decode cX8_weight 9 = .ok (.iconst 0, 1) := by decide +kernel
theorem dX8_weight_10 : decode cX8_weight 10 = .ok (.bipush 48, 2) := by decide +kernel
theorem dX8_weight_12 : decode cX8_weight 12 = .ok (.invokestatic 92, 3) := by decide +kernel
theorem dX8_weight_15 : decode cX8_weight 15 = .ok (.ifCond .ne 7, 3) := by decide +kernel
theorem dX8_weight_18 : decode cX8_weight 18 = .ok (.ldc2_w 107, 3) := by decide +kernel
theorem dX8_weight_21 : decode cX8_weight 21 = .ok (.lreturn, 1) := by decide +kernel
theorem dX8_weight_22 : decode cX8_weight 22 = .ok (.aload_n 0, 1) := by decide +kernel
theorem dX8_weight_23 : decode cX8_weight 23 = .ok (.iload_n 1, 1) := by decide +kernel
theorem dX8_weight_24 : decode cX8_weight 24 = .ok (.invokevirtual 131, 3) := by decide +kernel
theorem dX8_weight_27 : decode cX8_weight 27 = .ok (.aload_n 0, 1) := by decide +kernel
theorem dX8_weight_28 : decode cX8_weight 28 = .ok (.getfield 61, 3) := by decide +kernel
theorem dX8_weight_31 : decode cX8_weight 31 = .ok (.iload_n 2, 1) := by decide +kernel
theorem dX8_weight_32 : decode cX8_weight 32 = .ok (.laload, 1) := by decide +kernel
theorem dX8_weight_33 : decode cX8_weight 33 = .ok (.lreturn, 1) := by decide +kernel
theorem dX8_weightOf_0 : decode cX8_weightOf 0 = .ok (.iconst 0, 1) := by decide +kernel
theorem dX8_weightOf_1 : decode cX8_weightOf 1 = .ok (.istore_n 2, 1) := by decide +kernel
theorem dX8_weightOf_2 : decode cX8_weightOf 2 = .ok (.iconst 0, 1) := by decide +kernel
theorem dX8_weightOf_3 : decode cX8_weightOf 3 = .ok (.istore_n 3, 1) := by decide +kernel
theorem dX8_weightOf_4 : decode cX8_weightOf 4 = .ok (.iload_n 3, 1) := by decide +kernel
theorem dX8_weightOf_5 : decode cX8_weightOf 5 = .ok (.aload_n 0, 1) := by decide +kernel
theorem dX8_weightOf_6 : decode cX8_weightOf 6 = .ok (.getfield 100, 3) := by decide +kernel
theorem dX8_weightOf_9 : decode cX8_weightOf 9 = .ok (.if_icmp .ge 50, 3) := by decide +kernel
theorem dX8_weightOf_12 : decode cX8_weightOf 12 = .ok (.aload_n 0, 1) := by decide +kernel
theorem dX8_weightOf_13 : decode cX8_weightOf 13 = .ok (.iload_n 1, 1) := by decide +kernel
theorem dX8_weightOf_14 : decode cX8_weightOf 14 = .ok (.iload_n 3, 1) := by decide +kernel
theorem dX8_weightOf_15 : decode cX8_weightOf 15 = .ok (.invokevirtual 121, 3) := by decide +kernel
theorem dX8_weightOf_18 : decode cX8_weightOf 18 = .ok (.ifCond .eq 35, 3) := by decide +kernel
theorem dX8_weightOf_21 : decode cX8_weightOf 21 = .ok (.iload_n 2, 1) := by decide +kernel
theorem dX8_weightOf_22 : decode cX8_weightOf 22 = .ok (.aload_n 0, 1) := by decide +kernel
theorem dX8_weightOf_23 : decode cX8_weightOf 23 = .ok (.getfield 31, 3) := by decide +kernel
theorem dX8_weightOf_26 : decode cX8_weightOf 26 = .ok (.iload_n 3, 1) := by decide +kernel
theorem dX8_weightOf_27 : decode cX8_weightOf 27 = .ok (.iaload, 1) := by decide +kernel
theorem dX8_weightOf_28 : decode cX8_weightOf 28 = .ok (.iconst 3, 1) := by decide +kernel
theorem dX8_weightOf_29 : decode cX8_weightOf 29 = .ok (.if_icmp .lt 7, 3) := by decide +kernel
theorem dX8_weightOf_32 : decode cX8_weightOf 32 = .ok (.iconst 3, 1) := by decide +kernel
theorem dX8_weightOf_33 : decode cX8_weightOf 33 = .ok (.goto 18, 3) := by decide +kernel
theorem dX8_weightOf_36 : decode cX8_weightOf 36 = .ok (.aload_n 0, 1) := by decide +kernel
theorem dX8_weightOf_37 : decode cX8_weightOf 37 = .ok (.getfield 31, 3) := by decide +kernel
theorem dX8_weightOf_40 : decode cX8_weightOf 40 = .ok (.iload_n 3, 1) := by decide +kernel
theorem dX8_weightOf_41 : decode cX8_weightOf 41 = .ok (.iaload, 1) := by decide +kernel
theorem dX8_weightOf_42 : decode cX8_weightOf 42 = .ok (.iconst 1, 1) := by decide +kernel
theorem dX8_weightOf_43 : decode cX8_weightOf 43 = .ok (.if_icmp .ne 7, 3) := by decide +kernel
theorem dX8_weightOf_46 : decode cX8_weightOf 46 = .ok (.iconst 2, 1) := by decide +kernel
theorem dX8_weightOf_47 : decode cX8_weightOf 47 = .ok (.goto 4, 3) := by decide +kernel
theorem dX8_weightOf_50 : decode cX8_weightOf 50 = .ok (.iconst 1, 1) := by decide +kernel
theorem dX8_weightOf_51 : decode cX8_weightOf 51 = .ok (.iadd, 1) := by decide +kernel
theorem dX8_weightOf_52 : decode cX8_weightOf 52 = .ok (.istore_n 2, 1) := by decide +kernel
theorem dX8_weightOf_53 : decode cX8_weightOf 53 = .ok (.iinc 3 1, 3) := by decide +kernel
theorem dX8_weightOf_56 : decode cX8_weightOf 56 = .ok (.goto (-52), 3) := by decide +kernel
theorem dX8_weightOf_59 : decode cX8_weightOf 59 = .ok (.iload_n 2, 1) := by decide +kernel
theorem dX8_weightOf_60 : decode cX8_weightOf 60 = .ok (.ireturn, 1) := by decide +kernel
theorem dX8_costOf_0 : decode cX8_costOf 0 = .ok (.lconst 0, 1) := by decide +kernel
theorem dX8_costOf_1 : decode cX8_costOf 1 = .ok (.lstore_n 3, 1) := by decide +kernel
theorem dX8_costOf_2 : decode cX8_costOf 2 = .ok (.aload_n 0, 1) := by decide +kernel
theorem dX8_costOf_3 : decode cX8_costOf 3 = .ok (.iload_n 1, 1) := by decide +kernel
theorem dX8_costOf_4 : decode cX8_costOf 4 = .ok (.invokevirtual 135, 3) := by decide +kernel
theorem dX8_costOf_7 : decode cX8_costOf 7 = .ok (.istore 5, 2) := by decide +kernel
theorem dX8_costOf_9 : decode cX8_costOf 9 = .ok (.iconst 0, 1) := by decide +kernel
theorem dX8_costOf_10 : decode cX8_costOf 10 = .ok (.istore 6, 2) := by decide +kernel
theorem dX8_costOf_12 : decode cX8_costOf 12 = .ok (.iload 6, 2) := by decide +kernel
theorem dX8_costOf_14 : decode cX8_costOf 14 = .ok (.bipush 48, 2) := by decide +kernel
theorem dX8_costOf_16 : decode cX8_costOf 16 = .ok (.if_icmp .gt 59, 3) := by decide +kernel
theorem dX8_costOf_19 : decode cX8_costOf 19 = .ok (.lload_n 3, 1) := by decide +kernel
theorem dX8_costOf_20 : decode cX8_costOf 20 = .ok (.aload_n 0, 1) := by decide +kernel
theorem dX8_costOf_21 : decode cX8_costOf 21 = .ok (.getfield 61, 3) := by decide +kernel
theorem dX8_costOf_24 : decode cX8_costOf 24 = .ok (.iload 6, 2) := by decide +kernel
theorem dX8_costOf_26 : decode cX8_costOf 26 = .ok (.laload, 1) := by decide +kernel
theorem dX8_costOf_27 : decode cX8_costOf 27 = .ok (.iload 6, 2) := by decide +kernel
theorem dX8_costOf_29 : decode cX8_costOf 29 = .ok (.iload_n 2, 1) := by decide +kernel
theorem dX8_costOf_30 : decode cX8_costOf 30 = .ok (.if_icmp .le 23, 3) := by decide +kernel
theorem dX8_costOf_33 : decode cX8_costOf 33 = .ok (.iload 6, 2) := by decide +kernel
theorem dX8_costOf_35 : decode cX8_costOf 35 = .ok (.iload_n 2, 1) := by decide +kernel
theorem dX8_costOf_36 : decode cX8_costOf 36 = .ok (.isub, 1) := by decide +kernel
theorem dX8_costOf_37 : decode cX8_costOf 37 = .ok (.i2l, 1) := by decide +kernel
theorem dX8_costOf_38 : decode cX8_costOf 38 = .ok (.aload_n 0, 1) := by decide +kernel
theorem dX8_costOf_39 : decode cX8_costOf 39 = .ok (.getfield 43, 3) := by decide +kernel
theorem dX8_costOf_42 : decode cX8_costOf 42 = .ok (.iconst 0, 1) := by decide +kernel
theorem dX8_costOf_43 : decode cX8_costOf 43 = .ok (.iaload, 1) := by decide +kernel
theorem dX8_costOf_44 : decode cX8_costOf 44 = .ok (.i2l, 1) := by decide +kernel
theorem dX8_costOf_45 : decode cX8_costOf 45 = .ok (.lmul, 1) := by decide +kernel
theorem dX8_costOf_46 : decode cX8_costOf 46 = .ok (.iload 5, 2) := by decide +kernel
theorem dX8_costOf_48 : decode cX8_costOf 48 = .ok (.i2l, 1) := by decide +kernel
theorem dX8_costOf_49 : decode cX8_costOf 49 = .ok (.lmul, 1) := by decide +kernel
theorem dX8_costOf_50 : decode cX8_costOf 50 = .ok (.goto 16, 3) := by decide +kernel
theorem dX8_costOf_53 : decode cX8_costOf 53 = .ok (.iload_n 2, 1) := by decide +kernel
theorem dX8_costOf_54 : decode cX8_costOf 54 = .ok (.iload 6, 2) := by decide +kernel
theorem dX8_costOf_56 : decode cX8_costOf 56 = .ok (.isub, 1) := by decide +kernel
theorem dX8_costOf_57 : decode cX8_costOf 57 = .ok (.i2l, 1) := by decide +kernel
theorem dX8_costOf_58 : decode cX8_costOf 58 = .ok (.aload_n 0, 1) := by decide +kernel
theorem dX8_costOf_59 : decode cX8_costOf 59 = .ok (.getfield 43, 3) := by decide +kernel
theorem dX8_costOf_62 : decode cX8_costOf 62 = .ok (.iconst 1, 1) := by decide +kernel
