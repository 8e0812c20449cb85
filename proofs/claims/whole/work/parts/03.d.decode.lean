theorem dX10_thrown_0 : decode cX10_thrown 0 = .ok (.aload_n 0, 1) := by decide +kernel
theorem dX10_thrown_1 : decode cX10_thrown 1 = .ok (.getfield 3, 3) := by decide +kernel
theorem dX10_thrown_4 : decode cX10_thrown 4 = .ok (.ireturn, 1) := by decide +kernel
theorem dX10_throwsIf_0 : decode cX10_throwsIf 0 = .ok (.iload_n 1, 1) := by decide +kernel
theorem dX10_throwsIf_1 : decode cX10_throwsIf 1 = .ok (.ifCond .eq 8, 3) := by decide +kernel
theorem dX10_throwsIf_4 : decode cX10_throwsIf 4 = .ok (.aload_n 0, 1) := by decide +kernel
theorem dX10_throwsIf_5 : decode cX10_throwsIf 5 = .ok (.iload_n 2, 1) := by decide +kernel
theorem dX10_throwsIf_6 : decode cX10_throwsIf 6 = .ok (.putfield 3, 3) := by decide +kernel
theorem dX10_throwsIf_9 : decode cX10_throwsIf 9 = .ok (.iload_n 1, 1) := by decide +kernel
theorem dX10_throwsIf_10 : decode cX10_throwsIf 10 = .ok (.ireturn, 1) := by decide +kernel
theorem dX10_in_0 : decode cX10_in 0 = .ok (.iload_n 0, 1) := by decide +kernel
theorem dX10_in_1 : decode cX10_in 1 = .ok (.iload_n 1, 1) := by decide +kernel
theorem dX10_in_2 : decode cX10_in 2 = .ok (.if_icmp .lt 12, 3) := by decide +kernel
theorem dX10_in_5 : decode cX10_in 5 = .ok (.iload_n 0, 1) := by decide +kernel
theorem dX10_in_6 : decode cX10_in 6 = .ok (.iload_n 2, 1) := by decide +kernel
theorem dX10_in_7 : decode cX10_in 7 = .ok (.if_icmp .gt 7, 3) := by decide +kernel
theorem dX10_in_10 : decode cX10_in 10 = .ok (.iconst 1, 1) := by decide +kernel
theorem dX10_in_11 : decode cX10_in 11 = .ok (.goto 4, 3) := by decide +kernel
theorem dX10_in_14 : decode cX10_in 14 = .ok (.iconst 0, 1) := by decide +kernel
theorem dX10_in_15 : decode cX10_in 15 = .ok (.ireturn, 1) := by decide +kernel
theorem dX10_init_0 : decode cX10_init 0 = .ok (.aload_n 0, 1) := by decide +kernel
theorem dX10_init_1 : decode cX10_init 1 = .ok (.invokespecial 7, 3) := by decide +kernel
theorem dX10_init_4 : decode cX10_init 4 = .ok (.aload_n 0, 1) := by decide +kernel
theorem dX10_init_5 : decode cX10_init 5 = .ok (.bipush 36, 2) := by decide +kernel
theorem dX10_init_7 : decode cX10_init 7 = .ok (.newarray .int, 2) := by decide +kernel
theorem dX10_init_9 : decode cX10_init 9 = .ok (.putfield 13, 3) := by decide +kernel
theorem dX10_init_12 : decode cX10_init 12 = .ok (.aload_n 0, 1) := by decide +kernel
theorem dX10_init_13 : decode cX10_init 13 = .ok (.bipush 36, 2) := by decide +kernel
theorem dX10_init_15 : decode cX10_init 15 = .ok (.newarray .int, 2) := by decide +kernel
theorem dX10_init_17 : decode cX10_init 17 = .ok (.putfield 17, 3) := by decide +kernel
theorem dX10_init_20 : decode cX10_init 20 = .ok (.aload_n 0, 1) := by decide +kernel
theorem dX10_init_21 : decode cX10_init 21 = .ok (.bipush 36, 2) := by decide +kernel
theorem dX10_init_23 : decode cX10_init 23 = .ok (.newarray .int, 2) := by decide +kernel
theorem dX10_init_25 : decode cX10_init 25 = .ok (.putfield 20, 3) := by decide +kernel
theorem dX10_init_28 : decode cX10_init 28 = .ok (.aload_n 0, 1) := by decide +kernel
theorem dX10_init_29 : decode cX10_init 29 = .ok (.bipush 6, 2) := by decide +kernel
theorem dX10_init_31 : decode cX10_init 31 = .ok (.newarray .boolean, 2) := by decide +kernel
theorem dX10_init_33 : decode cX10_init 33 = .ok (.putfield 23, 3) := by decide +kernel
theorem dX10_init_36 : decode cX10_init 36 = .ok (.aload_n 0, 1) := by decide +kernel
theorem dX10_init_37 : decode cX10_init 37 = .ok (.bipush 120, 2) := by decide +kernel
theorem dX10_init_39 : decode cX10_init 39 = .ok (.newarray .int, 2) := by decide +kernel
theorem dX10_init_41 : decode cX10_init 41 = .ok (.putfield 27, 3) := by decide +kernel
theorem dX10_init_44 : decode cX10_init 44 = .ok (.aload_n 0, 1) := by decide +kernel
theorem dX10_init_45 : decode cX10_init 45 = .ok (.bipush 120, 2) := by decide +kernel
theorem dX10_init_47 : decode cX10_init 47 = .ok (.newarray .int, 2) := by decide +kernel
theorem dX10_init_49 : decode cX10_init 49 = .ok (.putfield 30, 3) := by decide +kernel
theorem dX10_init_52 : decode cX10_init 52 = .ok (.aload_n 0, 1) := by decide +kernel
theorem dX10_init_53 : decode cX10_init 53 = .ok (.bipush 120, 2) := by decide +kernel
theorem dX10_init_55 : decode cX10_init 55 = .ok (.newarray .int, 2) := by decide +kernel
theorem dX10_init_57 : decode cX10_init 57 = .ok (.putfield 33, 3) := by decide +kernel
theorem dX10_init_60 : decode cX10_init 60 = .ok (.aload_n 0, 1) := by decide +kernel
theorem dX10_init_61 : decode cX10_init 61 = .ok (.bipush 121, 2) := by decide +kernel
theorem dX10_init_63 : decode cX10_init 63 = .ok (.newarray .int, 2) := by decide +kernel
theorem dX10_init_65 : decode cX10_init 65 = .ok (.putfield 36, 3) := by decide +kernel
theorem dX10_init_68 : decode cX10_init 68 = .ok (.aload_n 0, 1) := by decide +kernel
theorem dX10_init_69 : decode cX10_init 69 = .ok (.sipush 726, 3) := by decide +kernel
theorem dX10_init_72 : decode cX10_init 72 = .ok (.newarray .int, 2) := by decide +kernel
theorem dX10_init_74 : decode cX10_init 74 = .ok (.putfield 39, 3) := by decide +kernel
theorem dX10_init_77 : decode cX10_init 77 = .ok (.aload_n 0, 1) := by decide +kernel
theorem dX10_init_78 : decode cX10_init 78 = .ok (.sipush 726, 3) := by decide +kernel
theorem dX10_init_81 : decode cX10_init 81 = .ok (.newarray .int, 2) := by decide +kernel
theorem dX10_init_83 : decode cX10_init 83 = .ok (.putfield 42, 3) := by decide +kernel
theorem dX10_init_86 : decode cX10_init 86 = .ok (.aload_n 0, 1) := by decide +kernel
theorem dX10_init_87 : decode cX10_init 87 = .ok (.bipush 40, 2) := by decide +kernel
theorem dX10_init_89 : decode cX10_init 89 = .ok (.newarray .int, 2) := by decide +kernel
theorem dX10_init_91 : decode cX10_init 91 = .ok (.putfield 45, 3) := by decide +kernel
theorem dX10_init_94 : decode cX10_init 94 = .ok (.aload_n 0, 1) := by decide +kernel
theorem dX10_init_95 : decode cX10_init 95 = .ok (.bipush 40, 2) := by decide +kernel
theorem dX10_init_97 : decode cX10_init 97 = .ok (.newarray .int, 2) := by decide +kernel
theorem dX10_init_99 : decode cX10_init 99 = .ok (.putfield 48, 3) := by decide +kernel
theorem dX10_init_102 : decode cX10_init 102 = .ok (.aload_n 0, 1) := by decide +kernel
theorem dX10_init_103 : decode cX10_init 103 = .ok (.bipush 40, 2) := by decide +kernel
theorem dX10_init_105 : decode cX10_init 105 = .ok (.newarray .int, 2) := by decide +kernel
theorem dX10_init_107 : decode cX10_init 107 = .ok (.putfield 51, 3) := by decide +kernel
theorem dX10_init_110 : decode cX10_init 110 = .ok (.aload_n 0, 1) := by decide +kernel
theorem dX10_init_111 : decode cX10_init 111 = .ok (.bipush 120, 2) := by decide +kernel
theorem dX10_init_113 : decode cX10_init 113 = .ok (.newarray .int, 2) := by decide +kernel
theorem dX10_init_115 : decode cX10_init 115 = .ok (.putfield 54, 3) := by decide +kernel
theorem dX10_init_118 : decode cX10_init 118 = .ok (.aload_n 0, 1) := by decide +kernel
theorem dX10_init_119 : decode cX10_init 119 = .ok (.bipush 12, 2) := by decide +kernel
theorem dX10_init_121 : decode cX10_init 121 = .ok (.newarray .int, 2) := by decide +kernel
theorem dX10_init_123 : decode cX10_init 123 = .ok (.putfield 57, 3) := by decide +kernel
theorem dX10_init_126 : decode cX10_init 126 = .ok (.aload_n 0, 1) := by decide +kernel
theorem dX10_init_127 : decode cX10_init 127 = .ok (.bipush 12, 2) := by decide +kernel
theorem dX10_init_129 : decode cX10_init 129 = .ok (.newarray .boolean, 2) := by decide +kernel
theorem dX10_init_131 : decode cX10_init 131 = .ok (.putfield 60, 3) := by decide +kernel
theorem dX10_init_134 : decode cX10_init 134 = .ok (.aload_n 0, 1) := by decide +kernel
theorem dX10_init_135 : decode cX10_init 135 = .ok (.bipush 12, 2) := by decide +kernel
theorem dX10_init_137 : decode cX10_init 137 = .ok (.newarray .int, 2) := by decide +kernel
theorem dX10_init_139 : decode cX10_init 139 = .ok (.putfield 63, 3) := by decide +kernel
theorem dX10_init_142 : decode cX10_init 142 = .ok (.aload_n 0, 1) := by decide +kernel
theorem dX10_init_143 : decode cX10_init 143 = .ok (.bipush 48, 2) := by decide +kernel
theorem dX10_init_145 : decode cX10_init 145 = .ok (.newarray .int, 2) := by decide +kernel
theorem dX10_init_147 : decode cX10_init 147 = .ok (.putfield 66, 3) := by decide +kernel
theorem dX10_init_150 : decode cX10_init 150 = .ok (.aload_n 0, 1) := by decide +kernel
theorem dX10_init_151 : decode cX10_init 151 = .ok (.bipush 48, 2) := by decide +kernel
theorem dX10_init_153 : decode cX10_init 153 = .ok (.newarray .int, 2) := by decide +kernel
theorem dX10_init_155 : decode cX10_init 155 = .ok (.putfield 69, 3) := by decide +kernel
theorem dX10_init_158 : decode cX10_init 158 = .ok (.aload_n 0, 1) := by decide +kernel
theorem dX10_init_159 : decode cX10_init 159 = .ok (.sipush 400, 3) := by decide +kernel
theorem dX10_init_162 : decode cX10_init 162 = .ok (.newarray .byte, 2) := by decide +kernel
theorem dX10_init_164 : decode cX10_init 164 = .ok (.putfield 72, 3) := by decide +kernel
theorem dX10_init_167 : decode cX10_init 167 = .ok (.aload_n 0, 1) := by decide +kernel
theorem dX10_init_168 : decode cX10_init 168 = .ok (.iconst (-1), 1) := by decide +kernel
theorem dX10_init_169 : decode cX10_init 169 = .ok (.putfield 76, 3) := by decide +kernel
theorem dX10_init_172 : decode cX10_init 172 = .ok (.aload_n 0, 1) := by decide +kernel
theorem dX10_init_173 : decode cX10_init 173 = .ok (.iconst 5, 1) := by decide +kernel
theorem dX10_init_174 : decode cX10_init 174 = .ok (.newarray .int, 2) := by decide +kernel
theorem dX10_init_176 : decode cX10_init 176 = .ok (.putfield 79, 3) := by decide +kernel
theorem dX10_init_179 : decode cX10_init 179 = .ok (.aload_n 0, 1) := by decide +kernel
theorem dX10_init_180 : decode cX10_init 180 = .ok (.ldc 82, 2) := by decide +kernel
theorem dX10_init_182 : decode cX10_init 182 = .ok (.newarray .boolean, 2) := by decide +kernel
theorem dX10_init_184 : decode cX10_init 184 = .ok (.putfield 83, 3) := by decide +kernel
theorem dX10_init_187 : decode cX10_init 187 = .ok (.aload_n 0, 1) := by decide +kernel
theorem dX10_init_188 : decode cX10_init 188 = .ok (.iconst 3, 1) := by decide +kernel
theorem dX10_init_189 : decode cX10_init 189 = .ok (.newarray .int, 2) := by decide +kernel
theorem dX10_init_191 : decode cX10_init 191 = .ok (.putfield 86, 3) := by decide +kernel
theorem dX10_init_194 : decode cX10_init 194 = .ok (.aload_n 0, 1) := by decide +kernel
theorem dX10_init_195 : decode cX10_init 195 = .ok (.iconst 3, 1) := by decide +kernel
theorem dX10_init_196 : decode cX10_init 196 = .ok (.newarray .int, 2) := by decide +kernel
theorem dX10_init_198 : decode cX10_init 198 = .ok (.putfield 89, 3) := by decide +kernel
theorem dX10_init_201 : decode cX10_init 201 = .ok (.aload_n 0, 1) := by decide +kernel
theorem dX10_init_202 : decode cX10_init 202 = .ok (.bipush 40, 2) := by decide +kernel
theorem dX10_init_204 : decode cX10_init 204 = .ok (.newarray .boolean, 2) := by decide +kernel
theorem dX10_init_206 : decode cX10_init 206 = .ok (.putfield 92, 3) := by decide +kernel
theorem dX10_init_209 : decode cX10_init 209 = .ok (.aload_n 0, 1) := by decide +kernel
theorem dX10_init_210 : decode cX10_init 210 = .ok (.bipush 120, 2) := by decide +kernel
theorem dX10_init_212 : decode cX10_init 212 = .ok (.newarray .boolean, 2) := by decide +kernel
theorem dX10_init_214 : decode cX10_init 214 = .ok (.putfield 95, 3) := by decide +kernel
theorem dX10_init_217 : decode cX10_init 217 = .ok (.aload_n 0, 1) := by decide +kernel
theorem dX10_init_218 : decode cX10_init 218 = .ok (.bipush 120, 2) := by decide +kernel
theorem dX10_init_220 : decode cX10_init 220 = .ok (.newarray .boolean, 2) := by decide +kernel
theorem dX10_init_222 : decode cX10_init 222 = .ok (.putfield 98, 3) := by decide +kernel
theorem dX10_init_225 : decode cX10_init 225 = .ok (.iconst 0, 1) := by decide +kernel
theorem dX10_init_226 : decode cX10_init 226 = .ok (.istore_n 1, 1) := by decide +kernel
theorem dX10_init_227 : decode cX10_init 227 = .ok (.iload_n 1, 1) := by decide +kernel
theorem dX10_init_228 : decode cX10_init 228 = .ok (.bipush 36, 2) := by decide +kernel
theorem dX10_init_230 : decode cX10_init 230 = .ok (.if_icmp .ge 17, 3) := by decide +kernel
theorem dX10_init_233 : decode cX10_init 233 = .ok (.aload_n 0, 1) := by decide +kernel
theorem dX10_init_234 : decode cX10_init 234 = .ok (.getfield 17, 3) := by decide +kernel
theorem dX10_init_237 : decode cX10_init 237 = .ok (.iload_n 1, 1) := by decide +kernel
theorem dX10_init_238 : decode cX10_init 238 = .ok (.bipush 6, 2) := by decide +kernel
theorem dX10_init_240 : decode cX10_init 240 = .ok (.iastore, 1) := by decide +kernel
theorem dX10_init_241 : decode cX10_init 241 = .ok (.iinc 1 1, 3) := by decide +kernel
theorem dX10_init_244 : decode cX10_init 244 = .ok (.goto (-17), 3) := by decide +kernel
theorem dX10_init_247 : decode cX10_init 247 = .ok (.iconst 0, 1) := by decide +kernel
theorem dX10_init_248 : decode cX10_init 248 = .ok (.istore_n 1, 1) := by decide +kernel
theorem dX10_init_249 : decode cX10_init 249 = .ok (.iload_n 1, 1) := by decide +kernel
theorem dX10_init_250 : decode cX10_init 250 = .ok (.bipush 6, 2) := by decide +kernel
theorem dX10_init_252 : decode cX10_init 252 = .ok (.if_icmp .ge 16, 3) := by decide +kernel
theorem dX10_init_255 : decode cX10_init 255 = .ok (.aload_n 0, 1) := by decide +kernel
theorem dX10_init_256 : decode cX10_init 256 = .ok (.getfield 23, 3) := by decide +kernel
theorem dX10_init_259 : decode cX10_init 259 = .ok (.iload_n 1, 1) := by decide +kernel
theorem dX10_init_260 : decode cX10_init 260 = .ok (.iconst 1, 1) := by decide +kernel
theorem dX10_init_261 : decode cX10_init 261 = .ok (.bastore, 1) := by decide +kernel
theorem dX10_init_262 : decode cX10_init 262 = .ok (.iinc 1 1, 3) := by decide +kernel
theorem dX10_init_265 : decode cX10_init 265 = .ok (.goto (-16), 3) := by decide +kernel
theorem dX10_init_268 : decode cX10_init 268 = .ok (.aload_n 0, 1) := by decide +kernel
theorem dX10_init_269 : decode cX10_init 269 = .ok (.invokevirtual 101, 3) := by decide +kernel
theorem dX10_init_272 : decode cX10_init 272 = .ok (.return_, 1) := by decide +kernel
theorem dX10_noThing_0 : decode cX10_noThing 0 = .ok (.iload_n 0, 1) := by decide +kernel
theorem dX10_noThing_1 : decode cX10_noThing 1 = .ok (.iconst 0, 1) := by decide +kernel
theorem dX10_noThing_2 : decode cX10_noThing 2 = .ok (.bipush 39, 2) := by decide +kernel
theorem dX10_noThing_4 : decode cX10_noThing 4 = .ok (.invokestatic 104, 3) := by decide +kernel
theorem dX10_noThing_7 : decode cX10_noThing 7 = .ok (.ifCond .ne 7, 3) := by decide +kernel
theorem dX10_noThing_10 : decode cX10_noThing 10 = .ok (.iconst 1, 1) := by decide +kernel
theorem dX10_noThing_11 : decode cX10_noThing 11 = .ok (.goto 4, 3) := by decide +kernel
theorem dX10_noThing_14 : decode cX10_noThing 14 = .ok (.iconst 0, 1) := by decide +kernel
theorem dX10_noThing_15 : decode cX10_noThing 15 = .ok (.ireturn, 1) := by decide +kernel
theorem dX10_noRole_0 : decode cX10_noRole 0 = .ok (.iload_n 0, 1) := by decide +kernel
theorem dX10_noRole_1 : decode cX10_noRole 1 = .ok (.iconst 0, 1) := by decide +kernel
theorem dX10_noRole_2 : decode cX10_noRole 2 = .ok (.iconst 5, 1) := by decide +kernel
theorem dX10_noRole_3 : decode cX10_noRole 3 = .ok (.invokestatic 104, 3) := by decide +kernel
theorem dX10_noRole_6 : decode cX10_noRole 6 = .ok (.ifCond .ne 7, 3) := by decide +kernel
theorem dX10_noRole_9 : decode cX10_noRole 9 = .ok (.iconst 1, 1) := by decide +kernel
theorem dX10_noRole_10 : decode cX10_noRole 10 = .ok (.goto 4, 3) := by decide +kernel
theorem dX10_noRole_13 : decode cX10_noRole 13 = .ok (.iconst 0, 1) := by decide +kernel
theorem dX10_noRole_14 : decode cX10_noRole 14 = .ok (.ireturn, 1) := by decide +kernel
theorem dX10_noKind_0 : decode cX10_noKind 0 = .ok (.iload_n 0, 1) := by decide +kernel
theorem dX10_noKind_1 : decode cX10_noKind 1 = .ok (.iconst 0, 1) := by decide +kernel
theorem dX10_noKind_2 : decode cX10_noKind 2 = .ok (.iconst 5, 1) := by decide +kernel
theorem dX10_noKind_3 : decode cX10_noKind 3 = .ok (.invokestatic 104, 3) := by decide +kernel
theorem dX10_noKind_6 : decode cX10_noKind 6 = .ok (.ifCond .ne 7, 3) := by decide +kernel
theorem dX10_noKind_9 : decode cX10_noKind 9 = .ok (.iconst 1, 1) := by decide +kernel
theorem dX10_noKind_10 : decode cX10_noKind 10 = .ok (.goto 4, 3) := by decide +kernel
theorem dX10_noKind_13 : decode cX10_noKind 13 = .ok (.iconst 0, 1) := by decide +kernel
theorem dX10_noKind_14 : decode cX10_noKind 14 = .ok (.ireturn, 1) := by decide +kernel
theorem dX10_noLine_0 : decode cX10_noLine 0 = .ok (.iload_n 1, 1) := by decide +kernel
theorem dX10_noLine_1 : decode cX10_noLine 1 = .ok (.iconst 0, 1) := by decide +kernel
theorem dX10_noLine_2 : decode cX10_noLine 2 = .ok (.aload_n 0, 1) := by decide +kernel
theorem dX10_noLine_3 : decode cX10_noLine 3 = .ok (.getfield 108, 3) := by decide +kernel
theorem dX10_noLine_6 : decode cX10_noLine 6 = .ok (.iconst 1, 1) := by decide +kernel
theorem dX10_noLine_7 : decode cX10_noLine 7 = .ok (.isub, 1) := by decide +kernel
theorem dX10_noLine_8 : decode cX10_noLine 8 = .ok (.invokestatic 104, 3) := by decide +kernel
theorem dX10_noLine_11 : decode cX10_noLine 11 = .ok (.ifCond .ne 7, 3) := by decide +kernel
theorem dX10_noLine_14 : decode cX10_noLine 14 = .ok (.iconst 1, 1) := by decide +kernel
theorem dX10_noLine_15 : decode cX10_noLine 15 = .ok (.goto 4, 3) := by decide +kernel
theorem dX10_noLine_18 : decode cX10_noLine 18 = .ok (.iconst 0, 1) := by decide +kernel
theorem dX10_noLine_19 : decode cX10_noLine 19 = .ok (.ireturn, 1) := by decide +kernel
theorem dX10_ends_0 : decode cX10_ends 0 = .ok (.aload_n 0, 1) := by decide +kernel
theorem dX10_ends_1 : decode cX10_ends 1 = .ok (.iconst 0, 1) := by decide +kernel
theorem dX10_ends_2 : decode cX10_ends 2 = .ok (.putfield 3, 3) := by decide +kernel
theorem dX10_ends_5 : decode cX10_ends 5 = .ok (.aload_n 0, 1) := by decide +kernel
theorem dX10_ends_6 : decode cX10_ends 6 = .ok (.iload_n 1, 1) := by decide +kernel
theorem dX10_ends_7 : decode cX10_ends 7 = .ok (.invokestatic 111, 3) := by decide +kernel
theorem dX10_ends_10 : decode cX10_ends 10 = .ok (.ifCond .ne 10, 3) := by decide +kernel
theorem dX10_ends_13 : decode cX10_ends 13 = .ok (.iload_n 2, 1) := by decide +kernel
theorem dX10_ends_14 : decode cX10_ends 14 = .ok (.invokestatic 115, 3) := by decide +kernel
theorem dX10_ends_17 : decode cX10_ends 17 = .ok (.ifCond .eq 7, 3) := by decide +kernel
theorem dX10_ends_20 : decode cX10_ends 20 = .ok (.iconst 1, 1) := by decide +kernel
theorem dX10_ends_21 : decode cX10_ends 21 = .ok (.goto 4, 3) := by decide +kernel
theorem dX10_ends_24 : decode cX10_ends 24 = .ok (.iconst 0, 1) := by decide +kernel
theorem dX10_ends_25 : decode cX10_ends 25 = .ok (.iconst 1, 1) := by decide +kernel
theorem dX10_ends_26 : decode cX10_ends 26 = .ok (.invokevirtual 118, 3) := by decide +kernel
theorem dX10_ends_29 : decode cX10_ends 29 = .ok (.ifCond .ne 33, 3) := by decide +kernel
theorem dX10_ends_32 : decode cX10_ends 32 = .ok (.aload_n 0, 1) := by decide +kernel
theorem dX10_ends_33 : decode cX10_ends 33 = .ok (.iload_n 3, 1) := by decide +kernel
theorem dX10_ends_34 : decode cX10_ends 34 = .ok (.ifCond .lt 16, 3) := by decide +kernel
theorem dX10_ends_37 : decode cX10_ends 37 = .ok (.iload 4, 2) := by decide +kernel
theorem dX10_ends_39 : decode cX10_ends 39 = .ok (.iload_n 3, 1) := by decide +kernel
theorem dX10_ends_40 : decode cX10_ends 40 = .ok (.if_icmp .lt 10, 3) := by decide +kernel
theorem dX10_ends_43 : decode cX10_ends 43 = .ok (.iload 4, 2) := by decide +kernel
theorem dX10_ends_45 : decode cX10_ends 45 = .ok (.bipush 6, 2) := by decide +kernel
theorem dX10_ends_47 : decode cX10_ends 47 = .ok (.if_icmp .le 7, 3) := by decide +kernel
theorem dX10_ends_50 : decode cX10_ends 50 = .ok (.iconst 1, 1) := by decide +kernel
theorem dX10_ends_51 : decode cX10_ends 51 = .ok (.goto 4, 3) := by decide +kernel
theorem dX10_ends_54 : decode cX10_ends 54 = .ok (.iconst 0, 1) := by decide +kernel
theorem dX10_ends_55 : decode cX10_ends 55 = .ok (.iconst 2, 1) := by decide +kernel
theorem dX10_ends_56 : decode cX10_ends 56 = .ok (.invokevirtual 118, 3) := by decide +kernel
theorem dX10_ends_59 : decode cX10_ends 59 = .ok (.ifCond .eq 4, 3) := by decide +kernel
theorem dX10_ends_62 : decode cX10_ends 62 = .ok (.return_, 1) := by decide +kernel
theorem dX10_ends_63 : decode cX10_ends 63 = .ok (.aload_n 0, 1) := by decide +kernel
theorem dX10_ends_64 : decode cX10_ends 64 = .ok (.getfield 13, 3) := by decide +kernel
theorem dX10_ends_67 : decode cX10_ends 67 = .ok (.bipush 6, 2) := by decide +kernel
theorem dX10_ends_69 : decode cX10_ends 69 = .ok (.iload_n 1, 1) := by decide +kernel
theorem dX10_ends_70 : decode cX10_ends 70 = .ok (.imul, 1) := by decide +kernel
theorem dX10_ends_71 : decode cX10_ends 71 = .ok (.iload_n 2, 1) := by decide +kernel
theorem dX10_ends_72 : decode cX10_ends 72 = .ok (.iadd, 1) := by decide +kernel
theorem dX10_ends_73 : decode cX10_ends 73 = .ok (.iload_n 3, 1) := by decide +kernel
theorem dX10_ends_74 : decode cX10_ends 74 = .ok (.iastore, 1) := by decide +kernel
theorem dX10_ends_75 : decode cX10_ends 75 = .ok (.aload_n 0, 1) := by decide +kernel
theorem dX10_ends_76 : decode cX10_ends 76 = .ok (.getfield 17, 3) := by decide +kernel
theorem dX10_ends_79 : decode cX10_ends 79 = .ok (.bipush 6, 2) := by decide +kernel
theorem dX10_ends_81 : decode cX10_ends 81 = .ok (.iload_n 1, 1) := by decide +kernel
theorem dX10_ends_82 : decode cX10_ends 82 = .ok (.imul, 1) := by decide +kernel
theorem dX10_ends_83 : decode cX10_ends 83 = .ok (.iload_n 2, 1) := by decide +kernel
theorem dX10_ends_84 : decode cX10_ends 84 = .ok (.iadd, 1) := by decide +kernel
theorem dX10_ends_85 : decode cX10_ends 85 = .ok (.iload 4, 2) := by decide +kernel
theorem dX10_ends_87 : decode cX10_ends 87 = .ok (.iastore, 1) := by decide +kernel
theorem dX10_ends_88 : decode cX10_ends 88 = .ok (.return_, 1) := by decide +kernel
theorem dX10_alone_0 : decode cX10_alone 0 = .ok (.aload_n 0, 1) := by decide +kernel
theorem dX10_alone_1 : decode cX10_alone 1 = .ok (.iconst 0, 1) := by decide +kernel
theorem dX10_alone_2 : decode cX10_alone 2 = .ok (.putfield 3, 3) := by decide +kernel
theorem dX10_alone_5 : decode cX10_alone 5 = .ok (.aload_n 0, 1) := by decide +kernel
theorem dX10_alone_6 : decode cX10_alone 6 = .ok (.iload_n 1, 1) := by decide +kernel
theorem dX10_alone_7 : decode cX10_alone 7 = .ok (.invokestatic 111, 3) := by decide +kernel
theorem dX10_alone_10 : decode cX10_alone 10 = .ok (.ifCond .ne 10, 3) := by decide +kernel
theorem dX10_alone_13 : decode cX10_alone 13 = .ok (.iload_n 2, 1) := by decide +kernel
theorem dX10_alone_14 : decode cX10_alone 14 = .ok (.invokestatic 115, 3) := by decide +kernel
theorem dX10_alone_17 : decode cX10_alone 17 = .ok (.ifCond .eq 7, 3) := by decide +kernel
theorem dX10_alone_20 : decode cX10_alone 20 = .ok (.iconst 1, 1) := by decide +kernel
theorem dX10_alone_21 : decode cX10_alone 21 = .ok (.goto 4, 3) := by decide +kernel
theorem dX10_alone_24 : decode cX10_alone 24 = .ok (.iconst 0, 1) := by decide +kernel
theorem dX10_alone_25 : decode cX10_alone 25 = .ok (.iconst 1, 1) := by decide +kernel
theorem dX10_alone_26 : decode cX10_alone 26 = .ok (.invokevirtual 118, 3) := by decide +kernel
theorem dX10_alone_29 : decode cX10_alone 29 = .ok (.ifCond .ne 26, 3) := by decide +kernel
theorem dX10_alone_32 : decode cX10_alone 32 = .ok (.aload_n 0, 1) := by decide +kernel
theorem dX10_alone_33 : decode cX10_alone 33 = .ok (.iload_n 3, 1) := by decide +kernel
theorem dX10_alone_34 : decode cX10_alone 34 = .ok (.iconst 0, 1) := by decide +kernel
theorem dX10_alone_35 : decode cX10_alone 35 = .ok (.bipush 100, 2) := by decide +kernel
theorem dX10_alone_37 : decode cX10_alone 37 = .ok (.invokestatic 104, 3) := by decide +kernel
theorem dX10_alone_40 : decode cX10_alone 40 = .ok (.ifCond .ne 7, 3) := by decide +kernel
theorem dX10_alone_43 : decode cX10_alone 43 = .ok (.iconst 1, 1) := by decide +kernel
theorem dX10_alone_44 : decode cX10_alone 44 = .ok (.goto 4, 3) := by decide +kernel
theorem dX10_alone_47 : decode cX10_alone 47 = .ok (.iconst 0, 1) := by decide +kernel
theorem dX10_alone_48 : decode cX10_alone 48 = .ok (.iconst 2, 1) := by decide +kernel
theorem dX10_alone_49 : decode cX10_alone 49 = .ok (.invokevirtual 118, 3) := by decide +kernel
theorem dX10_alone_52 : decode cX10_alone 52 = .ok (.ifCond .eq 4, 3) := by decide +kernel
theorem dX10_alone_55 : decode cX10_alone 55 = .ok (.return_, 1) := by decide +kernel
theorem dX10_alone_56 : decode cX10_alone 56 = .ok (.aload_n 0, 1) := by decide +kernel
theorem dX10_alone_57 : decode cX10_alone 57 = .ok (.getfield 20, 3) := by decide +kernel
theorem dX10_alone_60 : decode cX10_alone 60 = .ok (.bipush 6, 2) := by decide +kernel
theorem dX10_alone_62 : decode cX10_alone 62 = .ok (.iload_n 1, 1) := by decide +kernel
theorem dX10_alone_63 : decode cX10_alone 63 = .ok (.imul, 1) := by decide +kernel
theorem dX10_alone_64 : decode cX10_alone 64 = .ok (.iload_n 2, 1) := by decide +kernel
theorem dX10_alone_65 : decode cX10_alone 65 = .ok (.iadd, 1) := by decide +kernel
theorem dX10_alone_66 : decode cX10_alone 66 = .ok (.iload_n 3, 1) := by decide +kernel
theorem dX10_alone_67 : decode cX10_alone 67 = .ok (.iastore, 1) := by decide +kernel
theorem dX10_alone_68 : decode cX10_alone 68 = .ok (.return_, 1) := by decide +kernel
theorem dX10_holds_0 : decode cX10_holds 0 = .ok (.aload_n 0, 1) := by decide +kernel
theorem dX10_holds_1 : decode cX10_holds 1 = .ok (.iconst 0, 1) := by decide +kernel
theorem dX10_holds_2 : decode cX10_holds 2 = .ok (.putfield 3, 3) := by decide +kernel
theorem dX10_holds_5 : decode cX10_holds 5 = .ok (.aload_n 0, 1) := by decide +kernel
theorem dX10_holds_6 : decode cX10_holds 6 = .ok (.iload_n 1, 1) := by decide +kernel
theorem dX10_holds_7 : decode cX10_holds 7 = .ok (.invokestatic 111, 3) := by decide +kernel
theorem dX10_holds_10 : decode cX10_holds 10 = .ok (.iconst 1, 1) := by decide +kernel
theorem dX10_holds_11 : decode cX10_holds 11 = .ok (.invokevirtual 118, 3) := by decide +kernel
theorem dX10_holds_14 : decode cX10_holds 14 = .ok (.ifCond .eq 5, 3) := by decide +kernel
theorem dX10_holds_17 : decode cX10_holds 17 = .ok (.iconst 0, 1) := by decide +kernel
theorem dX10_holds_18 : decode cX10_holds 18 = .ok (.ireturn, 1) := by decide +kernel
theorem dX10_holds_19 : decode cX10_holds 19 = .ok (.aload_n 0, 1) := by decide +kernel
theorem dX10_holds_20 : decode cX10_holds 20 = .ok (.getfield 23, 3) := by decide +kernel
theorem dX10_holds_23 : decode cX10_holds 23 = .ok (.iload_n 1, 1) := by decide +kernel
theorem dX10_holds_24 : decode cX10_holds 24 = .ok (.baload, 1) := by decide +kernel
theorem dX10_holds_25 : decode cX10_holds 25 = .ok (.istore_n 3, 1) := by decide +kernel
theorem dX10_holds_26 : decode cX10_holds 26 = .ok (.aload_n 0, 1) := by decide +kernel
theorem dX10_holds_27 : decode cX10_holds 27 = .ok (.getfield 23, 3) := by decide +kernel
theorem dX10_holds_30 : decode cX10_holds 30 = .ok (.iload_n 1, 1) := by decide +kernel
theorem dX10_holds_31 : decode cX10_holds 31 = .ok (.iload_n 2, 1) := by decide +kernel
theorem dX10_holds_32 : decode cX10_holds 32 = .ok (.bastore, 1) := by decide +kernel
theorem dX10_holds_33 : decode cX10_holds 33 = .ok (.iload_n 3, 1) := by decide +kernel
theorem dX10_holds_34 : decode cX10_holds 34 = .ok (.iload_n 2, 1) := by decide +kernel
theorem dX10_holds_35 : decode cX10_holds 35 = .ok (.if_icmp .eq 7, 3) := by decide +kernel
theorem dX10_holds_38 : decode cX10_holds 38 = .ok (.iconst 1, 1) := by decide +kernel
theorem dX10_holds_39 : decode cX10_holds 39 = .ok (.goto 4, 3) := by decide +kernel
theorem dX10_holds_42 : decode cX10_holds 42 = .ok (.iconst 0, 1) := by decide +kernel
theorem dX10_holds_43 : decode cX10_holds 43 = .ok (.ireturn, 1) := by decide +kernel
theorem dX10_draft_0 : decode cX10_draft 0 = .ok (.aload_n 0, 1) := by decide +kernel
theorem dX10_draft_1 : decode cX10_draft 1 = .ok (.iconst 0, 1) := by decide +kernel
theorem dX10_draft_2 : decode cX10_draft 2 = .ok (.putfield 3, 3) := by decide +kernel
theorem dX10_draft_5 : decode cX10_draft 5 = .ok (.aload_n 0, 1) := by decide +kernel
theorem dX10_draft_6 : decode cX10_draft 6 = .ok (.iload_n 1, 1) := by decide +kernel
theorem dX10_draft_7 : decode cX10_draft 7 = .ok (.invokestatic 115, 3) := by decide +kernel
theorem dX10_draft_10 : decode cX10_draft 10 = .ok (.ifCond .ne 25, 3) := by decide +kernel
theorem dX10_draft_13 : decode cX10_draft 13 = .ok (.iload_n 2, 1) := by decide +kernel
theorem dX10_draft_14 : decode cX10_draft 14 = .ok (.ifCond .eq 14, 3) := by decide +kernel
theorem dX10_draft_17 : decode cX10_draft 17 = .ok (.aload_n 0, 1) := by decide +kernel
theorem dX10_draft_18 : decode cX10_draft 18 = .ok (.iload_n 3, 1) := by decide +kernel
theorem dX10_draft_19 : decode cX10_draft 19 = .ok (.invokevirtual 122, 3) := by decide +kernel
theorem dX10_draft_22 : decode cX10_draft 22 = .ok (.ifCond .eq 17, 3) := by decide +kernel
theorem dX10_draft_25 : decode cX10_draft 25 = .ok (.goto 10, 3) := by decide +kernel
theorem dX10_draft_28 : decode cX10_draft 28 = .ok (.iload_n 3, 1) := by decide +kernel
theorem dX10_draft_29 : decode cX10_draft 29 = .ok (.invokestatic 125, 3) := by decide +kernel
theorem dX10_draft_32 : decode cX10_draft 32 = .ok (.ifCond .eq 7, 3) := by decide +kernel
theorem dX10_draft_35 : decode cX10_draft 35 = .ok (.iconst 1, 1) := by decide +kernel
theorem dX10_draft_36 : decode cX10_draft 36 = .ok (.goto 4, 3) := by decide +kernel
theorem dX10_draft_39 : decode cX10_draft 39 = .ok (.iconst 0, 1) := by decide +kernel
theorem dX10_draft_40 : decode cX10_draft 40 = .ok (.iconst 1, 1) := by decide +kernel
theorem dX10_draft_41 : decode cX10_draft 41 = .ok (.invokevirtual 118, 3) := by decide +kernel
theorem dX10_draft_44 : decode cX10_draft 44 = .ok (.ifCond .eq 5, 3) := by decide +kernel
theorem dX10_draft_47 : decode cX10_draft 47 = .ok (.iconst 0, 1) := by decide +kernel
theorem dX10_draft_48 : decode cX10_draft 48 = .ok (.ireturn, 1) := by decide +kernel
theorem dX10_draft_49 : decode cX10_draft 49 = .ok (.aload_n 0, 1) := by decide +kernel
theorem dX10_draft_50 : decode cX10_draft 50 = .ok (.getfield 36, 3) := by decide +kernel
theorem dX10_draft_53 : decode cX10_draft 53 = .ok (.bipush 120, 2) := by decide +kernel
theorem dX10_draft_55 : decode cX10_draft 55 = .ok (.iaload, 1) := by decide +kernel
theorem dX10_draft_56 : decode cX10_draft 56 = .ok (.bipush 6, 2) := by decide +kernel
theorem dX10_draft_58 : decode cX10_draft 58 = .ok (.if_icmp .ne 5, 3) := by decide +kernel
theorem dX10_draft_61 : decode cX10_draft 61 = .ok (.iconst (-1), 1) := by decide +kernel
theorem dX10_draft_62 : decode cX10_draft 62 = .ok (.ireturn, 1) := by decide +kernel
theorem dX10_draft_63 : decode cX10_draft 63 = .ok (.aload_n 0, 1) := by decide +kernel
theorem dX10_draft_64 : decode cX10_draft 64 = .ok (.getfield 39, 3) := by decide +kernel
theorem dX10_draft_67 : decode cX10_draft 67 = .ok (.sipush 720, 3) := by decide +kernel
theorem dX10_draft_70 : decode cX10_draft 70 = .ok (.aload_n 0, 1) := by decide +kernel
theorem dX10_draft_71 : decode cX10_draft 71 = .ok (.getfield 36, 3) := by decide +kernel
theorem dX10_draft_74 : decode cX10_draft 74 = .ok (.bipush 120, 2) := by decide +kernel
theorem dX10_draft_76 : decode cX10_draft 76 = .ok (.iaload, 1) := by decide +kernel
theorem dX10_draft_77 : decode cX10_draft 77 = .ok (.iadd, 1) := by decide +kernel
theorem dX10_draft_78 : decode cX10_draft 78 = .ok (.iload_n 1, 1) := by decide +kernel
theorem dX10_draft_79 : decode cX10_draft 79 = .ok (.iastore, 1) := by decide +kernel
theorem dX10_draft_80 : decode cX10_draft 80 = .ok (.aload_n 0, 1) := by decide +kernel
theorem dX10_draft_81 : decode cX10_draft 81 = .ok (.getfield 42, 3) := by decide +kernel
theorem dX10_draft_84 : decode cX10_draft 84 = .ok (.sipush 720, 3) := by decide +kernel
theorem dX10_draft_87 : decode cX10_draft 87 = .ok (.aload_n 0, 1) := by decide +kernel
theorem dX10_draft_88 : decode cX10_draft 88 = .ok (.getfield 36, 3) := by decide +kernel
theorem dX10_draft_91 : decode cX10_draft 91 = .ok (.bipush 120, 2) := by decide +kernel
theorem dX10_draft_93 : decode cX10_draft 93 = .ok (.iaload, 1) := by decide +kernel
theorem dX10_draft_94 : decode cX10_draft 94 = .ok (.iadd, 1) := by decide +kernel
theorem dX10_draft_95 : decode cX10_draft 95 = .ok (.iload_n 2, 1) := by decide +kernel
theorem dX10_draft_96 : decode cX10_draft 96 = .ok (.ifCond .eq 10, 3) := by decide +kernel
theorem dX10_draft_99 : decode cX10_draft 99 = .ok (.bipush 40, 2) := by decide +kernel
theorem dX10_draft_101 : decode cX10_draft 101 = .ok (.iload_n 3, 1) := by decide +kernel
theorem dX10_draft_102 : decode cX10_draft 102 = .ok (.iadd, 1) := by decide +kernel
theorem dX10_draft_103 : decode cX10_draft 103 = .ok (.goto 4, 3) := by decide +kernel
theorem dX10_draft_106 : decode cX10_draft 106 = .ok (.iload_n 3, 1) := by decide +kernel
theorem dX10_draft_107 : decode cX10_draft 107 = .ok (.iastore, 1) := by decide +kernel
theorem dX10_draft_108 : decode cX10_draft 108 = .ok (.aload_n 0, 1) := by decide +kernel
theorem dX10_draft_109 : decode cX10_draft 109 = .ok (.getfield 36, 3) := by decide +kernel
theorem dX10_draft_112 : decode cX10_draft 112 = .ok (.bipush 120, 2) := by decide +kernel
theorem dX10_draft_114 : decode cX10_draft 114 = .ok (.dup2, 1) := by decide +kernel
theorem dX10_draft_115 : decode cX10_draft 115 = .ok (.iaload, 1) := by decide +kernel
theorem dX10_draft_116 : decode cX10_draft 116 = .ok (.iconst 1, 1) := by decide +kernel
theorem dX10_draft_117 : decode cX10_draft 117 = .ok (.iadd, 1) := by decide +kernel
theorem dX10_draft_118 : decode cX10_draft 118 = .ok (.iastore, 1) := by decide +kernel
theorem dX10_draft_119 : decode cX10_draft 119 = .ok (.aload_n 0, 1) := by decide +kernel
theorem dX10_draft_120 : decode cX10_draft 120 = .ok (.getfield 36, 3) := by decide +kernel
theorem dX10_draft_123 : decode cX10_draft 123 = .ok (.bipush 120, 2) := by decide +kernel
theorem dX10_draft_125 : decode cX10_draft 125 = .ok (.iaload, 1) := by decide +kernel
theorem dX10_draft_126 : decode cX10_draft 126 = .ok (.ireturn, 1) := by decide +kernel
theorem dX10_has_0 : decode cX10_has 0 = .ok (.iconst 0, 1) := by decide +kernel
theorem dX10_has_1 : decode cX10_has 1 = .ok (.istore 4, 2) := by decide +kernel
theorem dX10_has_3 : decode cX10_has 3 = .ok (.bipush 6, 2) := by decide +kernel
theorem dX10_has_5 : decode cX10_has 5 = .ok (.iload_n 1, 1) := by decide +kernel
theorem dX10_has_6 : decode cX10_has 6 = .ok (.imul, 1) := by decide +kernel
theorem dX10_has_7 : decode cX10_has 7 = .ok (.istore 5, 2) := by decide +kernel
theorem dX10_has_9 : decode cX10_has 9 = .ok (.iload 5, 2) := by decide +kernel
theorem dX10_has_11 : decode cX10_has 11 = .ok (.bipush 6, 2) := by decide +kernel
theorem dX10_has_13 : decode cX10_has 13 = .ok (.iload_n 1, 1) := by decide +kernel
theorem dX10_has_14 : decode cX10_has 14 = .ok (.imul, 1) := by decide +kernel
theorem dX10_has_15 : decode cX10_has 15 = .ok (.aload_n 0, 1) := by decide +kernel
theorem dX10_has_16 : decode cX10_has 16 = .ok (.getfield 36, 3) := by decide +kernel
theorem dX10_has_19 : decode cX10_has 19 = .ok (.iload_n 1, 1) := by decide +kernel
theorem dX10_has_20 : decode cX10_has 20 = .ok (.iaload, 1) := by decide +kernel
theorem dX10_has_21 : decode cX10_has 21 = .ok (.iadd, 1) := by decide +kernel
theorem dX10_has_22 : decode cX10_has 22 = .ok (.if_icmp .ge 65, 3) := by decide +kernel
theorem dX10_has_25 : decode cX10_has 25 = .ok (.iload 4, 2) := by decide +kernel
theorem dX10_has_27 : decode cX10_has 27 = .ok (.ifCond .ne 47, 3) := by decide +kernel
theorem dX10_has_30 : decode cX10_has 30 = .ok (.aload_n 0, 1) := by decide +kernel
theorem dX10_has_31 : decode cX10_has 31 = .ok (.getfield 39, 3) := by decide +kernel
theorem dX10_has_34 : decode cX10_has 34 = .ok (.iload 5, 2) := by decide +kernel
theorem dX10_has_36 : decode cX10_has 36 = .ok (.iaload, 1) := by decide +kernel
theorem dX10_has_37 : decode cX10_has 37 = .ok (.iload_n 2, 1) := by decide +kernel
theorem dX10_has_38 : decode cX10_has 38 = .ok (.if_icmp .ne 40, 3) := by decide +kernel
theorem dX10_has_41 : decode cX10_has 41 = .ok (.aload_n 0, 1) := by decide +kernel
theorem dX10_has_42 : decode cX10_has 42 = .ok (.getfield 42, 3) := by decide +kernel
theorem dX10_has_45 : decode cX10_has 45 = .ok (.iload 5, 2) := by decide +kernel
theorem dX10_has_47 : decode cX10_has 47 = .ok (.iaload, 1) := by decide +kernel
theorem dX10_has_48 : decode cX10_has 48 = .ok (.bipush 40, 2) := by decide +kernel
theorem dX10_has_50 : decode cX10_has 50 = .ok (.if_icmp .ge 28, 3) := by decide +kernel
theorem dX10_has_53 : decode cX10_has 53 = .ok (.aload_n 0, 1) := by decide +kernel
theorem dX10_has_54 : decode cX10_has 54 = .ok (.getfield 45, 3) := by decide +kernel
theorem dX10_has_57 : decode cX10_has 57 = .ok (.aload_n 0, 1) := by decide +kernel
theorem dX10_has_58 : decode cX10_has 58 = .ok (.getfield 42, 3) := by decide +kernel
theorem dX10_has_61 : decode cX10_has 61 = .ok (.iload 5, 2) := by decide +kernel
theorem dX10_has_63 : decode cX10_has 63 = .ok (.iaload, 1) := by decide +kernel
theorem dX10_has_64 : decode cX10_has 64 = .ok (.iaload, 1) := by decide +kernel
theorem dX10_has_65 : decode cX10_has 65 = .ok (.aload_n 0, 1) := by decide +kernel
theorem dX10_has_66 : decode cX10_has 66 = .ok (.getfield 45, 3) := by decide +kernel
theorem dX10_has_69 : decode cX10_has 69 = .ok (.iload_n 3, 1) := by decide +kernel
theorem dX10_has_70 : decode cX10_has 70 = .ok (.iaload, 1) := by decide +kernel
theorem dX10_has_71 : decode cX10_has 71 = .ok (.if_icmp .ne 7, 3) := by decide +kernel
theorem dX10_has_74 : decode cX10_has 74 = .ok (.iconst 1, 1) := by decide +kernel
theorem dX10_has_75 : decode cX10_has 75 = .ok (.goto 4, 3) := by decide +kernel
theorem dX10_has_78 : decode cX10_has 78 = .ok (.iconst 0, 1) := by decide +kernel
theorem dX10_has_79 : decode cX10_has 79 = .ok (.istore 4, 2) := by decide +kernel
theorem dX10_has_81 : decode cX10_has 81 = .ok (.iinc 5 1, 3) := by decide +kernel
theorem dX10_has_84 : decode cX10_has 84 = .ok (.goto (-75), 3) := by decide +kernel
theorem dX10_has_87 : decode cX10_has 87 = .ok (.iload 4, 2) := by decide +kernel
theorem dX10_has_89 : decode cX10_has 89 = .ok (.ireturn, 1) := by decide +kernel
theorem dX10_isOn_0 : decode cX10_isOn 0 = .ok (.iload_n 2, 1) := by decide +kernel
theorem dX10_isOn_1 : decode cX10_isOn 1 = .ok (.aload_n 0, 1) := by decide +kernel
theorem dX10_isOn_2 : decode cX10_isOn 2 = .ok (.getfield 30, 3) := by decide +kernel
theorem dX10_isOn_5 : decode cX10_isOn 5 = .ok (.iload_n 1, 1) := by decide +kernel
theorem dX10_isOn_6 : decode cX10_isOn 6 = .ok (.iaload, 1) := by decide +kernel
theorem dX10_isOn_7 : decode cX10_isOn 7 = .ok (.aload_n 0, 1) := by decide +kernel
theorem dX10_isOn_8 : decode cX10_isOn 8 = .ok (.getfield 33, 3) := by decide +kernel
theorem dX10_isOn_11 : decode cX10_isOn 11 = .ok (.iload_n 1, 1) := by decide +kernel
theorem dX10_isOn_12 : decode cX10_isOn 12 = .ok (.iaload, 1) := by decide +kernel
theorem dX10_isOn_13 : decode cX10_isOn 13 = .ok (.invokestatic 104, 3) := by decide +kernel
theorem dX10_isOn_16 : decode cX10_isOn 16 = .ok (.ireturn, 1) := by decide +kernel
theorem dX10_degreeOf_0 : decode cX10_degreeOf 0 = .ok (.iconst 0, 1) := by decide +kernel
theorem dX10_degreeOf_1 : decode cX10_degreeOf 1 = .ok (.istore 5, 2) := by decide +kernel
theorem dX10_degreeOf_3 : decode cX10_degreeOf 3 = .ok (.iconst 0, 1) := by decide +kernel
theorem dX10_degreeOf_4 : decode cX10_degreeOf 4 = .ok (.istore 6, 2) := by decide +kernel
theorem dX10_degreeOf_6 : decode cX10_degreeOf 6 = .ok (.iload 6, 2) := by decide +kernel
theorem dX10_degreeOf_8 : decode cX10_degreeOf 8 = .ok (.aload_n 0, 1) := by decide +kernel
theorem dX10_degreeOf_9 : decode cX10_degreeOf 9 = .ok (.getfield 108, 3) := by decide +kernel
theorem dX10_degreeOf_12 : decode cX10_degreeOf 12 = .ok (.if_icmp .ge 52, 3) := by decide +kernel
theorem dX10_degreeOf_15 : decode cX10_degreeOf 15 = .ok (.iload 5, 2) := by decide +kernel
theorem dX10_degreeOf_17 : decode cX10_degreeOf 17 = .ok (.aload_n 0, 1) := by decide +kernel
theorem dX10_degreeOf_18 : decode cX10_degreeOf 18 = .ok (.getfield 27, 3) := by decide +kernel
theorem dX10_degreeOf_21 : decode cX10_degreeOf 21 = .ok (.iload 6, 2) := by decide +kernel
theorem dX10_degreeOf_23 : decode cX10_degreeOf 23 = .ok (.iaload, 1) := by decide +kernel
theorem dX10_degreeOf_24 : decode cX10_degreeOf 24 = .ok (.iload_n 2, 1) := by decide +kernel
theorem dX10_degreeOf_25 : decode cX10_degreeOf 25 = .ok (.if_icmp .ne 29, 3) := by decide +kernel
theorem dX10_degreeOf_28 : decode cX10_degreeOf 28 = .ok (.aload_n 0, 1) := by decide +kernel
theorem dX10_degreeOf_29 : decode cX10_degreeOf 29 = .ok (.iload 6, 2) := by decide +kernel
theorem dX10_degreeOf_31 : decode cX10_degreeOf 31 = .ok (.iload 4, 2) := by decide +kernel
theorem dX10_degreeOf_33 : decode cX10_degreeOf 33 = .ok (.invokevirtual 128, 3) := by decide +kernel
theorem dX10_degreeOf_36 : decode cX10_degreeOf 36 = .ok (.ifCond .eq 18, 3) := by decide +kernel
theorem dX10_degreeOf_39 : decode cX10_degreeOf 39 = .ok (.aload_n 0, 1) := by decide +kernel
theorem dX10_degreeOf_40 : decode cX10_degreeOf 40 = .ok (.iload 6, 2) := by decide +kernel
theorem dX10_degreeOf_42 : decode cX10_degreeOf 42 = .ok (.iload_n 3, 1) := by decide +kernel
theorem dX10_degreeOf_43 : decode cX10_degreeOf 43 = .ok (.iload_n 1, 1) := by decide +kernel
theorem dX10_degreeOf_44 : decode cX10_degreeOf 44 = .ok (.invokevirtual 132, 3) := by decide +kernel
theorem dX10_degreeOf_47 : decode cX10_degreeOf 47 = .ok (.ifCond .eq 7, 3) := by decide +kernel
theorem dX10_degreeOf_50 : decode cX10_degreeOf 50 = .ok (.iconst 1, 1) := by decide +kernel
theorem dX10_degreeOf_51 : decode cX10_degreeOf 51 = .ok (.goto 4, 3) := by decide +kernel
theorem dX10_degreeOf_54 : decode cX10_degreeOf 54 = .ok (.iconst 0, 1) := by decide +kernel
theorem dX10_degreeOf_55 : decode cX10_degreeOf 55 = .ok (.iadd, 1) := by decide +kernel
theorem dX10_degreeOf_56 : decode cX10_degreeOf 56 = .ok (.istore 5, 2) := by decide +kernel
theorem dX10_degreeOf_58 : decode cX10_degreeOf 58 = .ok (.iinc 6 1, 3) := by decide +kernel
theorem dX10_degreeOf_61 : decode cX10_degreeOf 61 = .ok (.goto (-55), 3) := by decide +kernel
theorem dX10_degreeOf_64 : decode cX10_degreeOf 64 = .ok (.iload 5, 2) := by decide +kernel
theorem dX10_degreeOf_66 : decode cX10_degreeOf 66 = .ok (.ireturn, 1) := by decide +kernel
theorem dX10_refused_0 : decode cX10_refused 0 = .ok (.sipush 720, 3) := by decide +kernel
theorem dX10_refused_3 : decode cX10_refused 3 = .ok (.istore 4, 2) := by decide +kernel
theorem dX10_refused_5 : decode cX10_refused 5 = .ok (.iconst 0, 1) := by decide +kernel
theorem dX10_refused_6 : decode cX10_refused 6 = .ok (.istore 5, 2) := by decide +kernel
theorem dX10_refused_8 : decode cX10_refused 8 = .ok (.iload 5, 2) := by decide +kernel
theorem dX10_refused_10 : decode cX10_refused 10 = .ok (.bipush 6, 2) := by decide +kernel
theorem dX10_refused_12 : decode cX10_refused 12 = .ok (.if_icmp .ge 93, 3) := by decide +kernel
theorem dX10_refused_15 : decode cX10_refused 15 = .ok (.iconst 0, 1) := by decide +kernel
theorem dX10_refused_16 : decode cX10_refused 16 = .ok (.istore 6, 2) := by decide +kernel
theorem dX10_refused_18 : decode cX10_refused 18 = .ok (.iload 4, 2) := by decide +kernel
theorem dX10_refused_20 : decode cX10_refused 20 = .ok (.istore 7, 2) := by decide +kernel
theorem dX10_refused_22 : decode cX10_refused 22 = .ok (.iload 7, 2) := by decide +kernel
theorem dX10_refused_24 : decode cX10_refused 24 = .ok (.iload 4, 2) := by decide +kernel
theorem dX10_refused_26 : decode cX10_refused 26 = .ok (.aload_n 0, 1) := by decide +kernel
theorem dX10_refused_27 : decode cX10_refused 27 = .ok (.getfield 36, 3) := by decide +kernel
theorem dX10_refused_30 : decode cX10_refused 30 = .ok (.bipush 120, 2) := by decide +kernel
theorem dX10_refused_32 : decode cX10_refused 32 = .ok (.iaload, 1) := by decide +kernel
theorem dX10_refused_33 : decode cX10_refused 33 = .ok (.iadd, 1) := by decide +kernel
theorem dX10_refused_34 : decode cX10_refused 34 = .ok (.if_icmp .ge 31, 3) := by decide +kernel
theorem dX10_refused_37 : decode cX10_refused 37 = .ok (.iload 6, 2) := by decide +kernel
theorem dX10_refused_39 : decode cX10_refused 39 = .ok (.aload_n 0, 1) := by decide +kernel
theorem dX10_refused_40 : decode cX10_refused 40 = .ok (.getfield 39, 3) := by decide +kernel
theorem dX10_refused_43 : decode cX10_refused 43 = .ok (.iload 7, 2) := by decide +kernel
theorem dX10_refused_45 : decode cX10_refused 45 = .ok (.iaload, 1) := by decide +kernel
theorem dX10_refused_46 : decode cX10_refused 46 = .ok (.iload 5, 2) := by decide +kernel
theorem dX10_refused_48 : decode cX10_refused 48 = .ok (.if_icmp .ne 7, 3) := by decide +kernel
theorem dX10_refused_51 : decode cX10_refused 51 = .ok (.iconst 1, 1) := by decide +kernel
theorem dX10_refused_52 : decode cX10_refused 52 = .ok (.goto 4, 3) := by decide +kernel
theorem dX10_refused_55 : decode cX10_refused 55 = .ok (.iconst 0, 1) := by decide +kernel
theorem dX10_refused_56 : decode cX10_refused 56 = .ok (.iadd, 1) := by decide +kernel
theorem dX10_refused_57 : decode cX10_refused 57 = .ok (.istore 6, 2) := by decide +kernel
theorem dX10_refused_59 : decode cX10_refused 59 = .ok (.iinc 7 1, 3) := by decide +kernel
theorem dX10_refused_62 : decode cX10_refused 62 = .ok (.goto (-40), 3) := by decide +kernel
theorem dX10_refused_65 : decode cX10_refused 65 = .ok (.iload 6, 2) := by decide +kernel
theorem dX10_refused_67 : decode cX10_refused 67 = .ok (.aload_n 0, 1) := by decide +kernel
theorem dX10_refused_68 : decode cX10_refused 68 = .ok (.getfield 13, 3) := by decide +kernel
theorem dX10_refused_71 : decode cX10_refused 71 = .ok (.bipush 6, 2) := by decide +kernel
theorem dX10_refused_73 : decode cX10_refused 73 = .ok (.iload_n 1, 1) := by decide +kernel
theorem dX10_refused_74 : decode cX10_refused 74 = .ok (.imul, 1) := by decide +kernel
theorem dX10_refused_75 : decode cX10_refused 75 = .ok (.iload 5, 2) := by decide +kernel
theorem dX10_refused_77 : decode cX10_refused 77 = .ok (.iadd, 1) := by decide +kernel
theorem dX10_refused_78 : decode cX10_refused 78 = .ok (.iaload, 1) := by decide +kernel
theorem dX10_refused_79 : decode cX10_refused 79 = .ok (.aload_n 0, 1) := by decide +kernel
theorem dX10_refused_80 : decode cX10_refused 80 = .ok (.getfield 17, 3) := by decide +kernel
theorem dX10_refused_83 : decode cX10_refused 83 = .ok (.bipush 6, 2) := by decide +kernel
theorem dX10_refused_85 : decode cX10_refused 85 = .ok (.iload_n 1, 1) := by decide +kernel
theorem dX10_refused_86 : decode cX10_refused 86 = .ok (.imul, 1) := by decide +kernel
theorem dX10_refused_87 : decode cX10_refused 87 = .ok (.iload 5, 2) := by decide +kernel
theorem dX10_refused_89 : decode cX10_refused 89 = .ok (.iadd, 1) := by decide +kernel
theorem dX10_refused_90 : decode cX10_refused 90 = .ok (.iaload, 1) := by decide +kernel
theorem dX10_refused_91 : decode cX10_refused 91 = .ok (.invokestatic 104, 3) := by decide +kernel
theorem dX10_refused_94 : decode cX10_refused 94 = .ok (.ifCond .ne 5, 3) := by decide +kernel
theorem dX10_refused_97 : decode cX10_refused 97 = .ok (.iconst 1, 1) := by decide +kernel
theorem dX10_refused_98 : decode cX10_refused 98 = .ok (.ireturn, 1) := by decide +kernel
theorem dX10_refused_99 : decode cX10_refused 99 = .ok (.iinc 5 1, 3) := by decide +kernel
theorem dX10_refused_102 : decode cX10_refused 102 = .ok (.goto (-94), 3) := by decide +kernel
theorem dX10_refused_105 : decode cX10_refused 105 = .ok (.iload 4, 2) := by decide +kernel
theorem dX10_refused_107 : decode cX10_refused 107 = .ok (.istore 5, 2) := by decide +kernel
theorem dX10_refused_109 : decode cX10_refused 109 = .ok (.iload 5, 2) := by decide +kernel
theorem dX10_refused_111 : decode cX10_refused 111 = .ok (.iload 4, 2) := by decide +kernel
theorem dX10_refused_113 : decode cX10_refused 113 = .ok (.aload_n 0, 1) := by decide +kernel
theorem dX10_refused_114 : decode cX10_refused 114 = .ok (.getfield 36, 3) := by decide +kernel
theorem dX10_refused_117 : decode cX10_refused 117 = .ok (.bipush 120, 2) := by decide +kernel
theorem dX10_refused_119 : decode cX10_refused 119 = .ok (.iaload, 1) := by decide +kernel
theorem dX10_refused_120 : decode cX10_refused 120 = .ok (.iadd, 1) := by decide +kernel
theorem dX10_refused_121 : decode cX10_refused 121 = .ok (.if_icmp .ge 61, 3) := by decide +kernel
theorem dX10_refused_124 : decode cX10_refused 124 = .ok (.aload_n 0, 1) := by decide +kernel
theorem dX10_refused_125 : decode cX10_refused 125 = .ok (.getfield 42, 3) := by decide +kernel
theorem dX10_refused_128 : decode cX10_refused 128 = .ok (.iload 5, 2) := by decide +kernel
theorem dX10_refused_130 : decode cX10_refused 130 = .ok (.iaload, 1) := by decide +kernel
theorem dX10_refused_131 : decode cX10_refused 131 = .ok (.bipush 40, 2) := by decide +kernel
theorem dX10_refused_133 : decode cX10_refused 133 = .ok (.if_icmp .lt 43, 3) := by decide +kernel
theorem dX10_refused_136 : decode cX10_refused 136 = .ok (.iload_n 2, 1) := by decide +kernel
theorem dX10_refused_137 : decode cX10_refused 137 = .ok (.aload_n 0, 1) := by decide +kernel
theorem dX10_refused_138 : decode cX10_refused 138 = .ok (.getfield 30, 3) := by decide +kernel
theorem dX10_refused_141 : decode cX10_refused 141 = .ok (.aload_n 0, 1) := by decide +kernel
theorem dX10_refused_142 : decode cX10_refused 142 = .ok (.getfield 42, 3) := by decide +kernel
theorem dX10_refused_145 : decode cX10_refused 145 = .ok (.iload 5, 2) := by decide +kernel
theorem dX10_refused_147 : decode cX10_refused 147 = .ok (.iaload, 1) := by decide +kernel
theorem dX10_refused_148 : decode cX10_refused 148 = .ok (.bipush 40, 2) := by decide +kernel
theorem dX10_refused_150 : decode cX10_refused 150 = .ok (.isub, 1) := by decide +kernel
theorem dX10_refused_151 : decode cX10_refused 151 = .ok (.iaload, 1) := by decide +kernel
theorem dX10_refused_152 : decode cX10_refused 152 = .ok (.if_icmp .lt 22, 3) := by decide +kernel
theorem dX10_refused_155 : decode cX10_refused 155 = .ok (.iload_n 3, 1) := by decide +kernel
theorem dX10_refused_156 : decode cX10_refused 156 = .ok (.aload_n 0, 1) := by decide +kernel
theorem dX10_refused_157 : decode cX10_refused 157 = .ok (.getfield 33, 3) := by decide +kernel
theorem dX10_refused_160 : decode cX10_refused 160 = .ok (.aload_n 0, 1) := by decide +kernel
theorem dX10_refused_161 : decode cX10_refused 161 = .ok (.getfield 42, 3) := by decide +kernel
theorem dX10_refused_164 : decode cX10_refused 164 = .ok (.iload 5, 2) := by decide +kernel
theorem dX10_refused_166 : decode cX10_refused 166 = .ok (.iaload, 1) := by decide +kernel
theorem dX10_refused_167 : decode cX10_refused 167 = .ok (.bipush 40, 2) := by decide +kernel
theorem dX10_refused_169 : decode cX10_refused 169 = .ok (.isub, 1) := by decide +kernel
theorem dX10_refused_170 : decode cX10_refused 170 = .ok (.iaload, 1) := by decide +kernel
theorem dX10_refused_171 : decode cX10_refused 171 = .ok (.if_icmp .le 5, 3) := by decide +kernel
theorem dX10_refused_174 : decode cX10_refused 174 = .ok (.iconst 2, 1) := by decide +kernel
theorem dX10_refused_175 : decode cX10_refused 175 = .ok (.ireturn, 1) := by decide +kernel
theorem dX10_refused_176 : decode cX10_refused 176 = .ok (.iinc 5 1, 3) := by decide +kernel
theorem dX10_refused_179 : decode cX10_refused 179 = .ok (.goto (-70), 3) := by decide +kernel
theorem dX10_refused_182 : decode cX10_refused 182 = .ok (.iload 4, 2) := by decide +kernel
theorem dX10_refused_184 : decode cX10_refused 184 = .ok (.istore 5, 2) := by decide +kernel
theorem dX10_refused_186 : decode cX10_refused 186 = .ok (.iload 5, 2) := by decide +kernel
theorem dX10_refused_188 : decode cX10_refused 188 = .ok (.iload 4, 2) := by decide +kernel
theorem dX10_refused_190 : decode cX10_refused 190 = .ok (.aload_n 0, 1) := by decide +kernel
theorem dX10_refused_191 : decode cX10_refused 191 = .ok (.getfield 36, 3) := by decide +kernel
theorem dX10_refused_194 : decode cX10_refused 194 = .ok (.bipush 120, 2) := by decide +kernel
theorem dX10_refused_196 : decode cX10_refused 196 = .ok (.iaload, 1) := by decide +kernel
theorem dX10_refused_197 : decode cX10_refused 197 = .ok (.iadd, 1) := by decide +kernel
theorem dX10_refused_198 : decode cX10_refused 198 = .ok (.if_icmp .ge 91, 3) := by decide +kernel
theorem dX10_refused_201 : decode cX10_refused 201 = .ok (.aload_n 0, 1) := by decide +kernel
theorem dX10_refused_202 : decode cX10_refused 202 = .ok (.getfield 20, 3) := by decide +kernel
theorem dX10_refused_205 : decode cX10_refused 205 = .ok (.bipush 6, 2) := by decide +kernel
theorem dX10_refused_207 : decode cX10_refused 207 = .ok (.iload_n 1, 1) := by decide +kernel
theorem dX10_refused_208 : decode cX10_refused 208 = .ok (.imul, 1) := by decide +kernel
theorem dX10_refused_209 : decode cX10_refused 209 = .ok (.aload_n 0, 1) := by decide +kernel
theorem dX10_refused_210 : decode cX10_refused 210 = .ok (.getfield 39, 3) := by decide +kernel
theorem dX10_refused_213 : decode cX10_refused 213 = .ok (.iload 5, 2) := by decide +kernel
theorem dX10_refused_215 : decode cX10_refused 215 = .ok (.iaload, 1) := by decide +kernel
theorem dX10_refused_216 : decode cX10_refused 216 = .ok (.iadd, 1) := by decide +kernel
theorem dX10_refused_217 : decode cX10_refused 217 = .ok (.iaload, 1) := by decide +kernel
theorem dX10_refused_218 : decode cX10_refused 218 = .ok (.istore 6, 2) := by decide +kernel
theorem dX10_refused_220 : decode cX10_refused 220 = .ok (.aload_n 0, 1) := by decide +kernel
theorem dX10_refused_221 : decode cX10_refused 221 = .ok (.getfield 42, 3) := by decide +kernel
theorem dX10_refused_224 : decode cX10_refused 224 = .ok (.iload 5, 2) := by decide +kernel
theorem dX10_refused_226 : decode cX10_refused 226 = .ok (.iaload, 1) := by decide +kernel
theorem dX10_refused_227 : decode cX10_refused 227 = .ok (.bipush 40, 2) := by decide +kernel
theorem dX10_refused_229 : decode cX10_refused 229 = .ok (.if_icmp .ge 54, 3) := by decide +kernel
theorem dX10_refused_232 : decode cX10_refused 232 = .ok (.iload 6, 2) := by decide +kernel
theorem dX10_refused_234 : decode cX10_refused 234 = .ok (.ifCond .ne 6, 3) := by decide +kernel
theorem dX10_refused_237 : decode cX10_refused 237 = .ok (.goto 46, 3) := by decide +kernel
theorem dX10_refused_240 : decode cX10_refused 240 = .ok (.iload_n 2, 1) := by decide +kernel
theorem dX10_refused_241 : decode cX10_refused 241 = .ok (.istore 7, 2) := by decide +kernel
theorem dX10_refused_243 : decode cX10_refused 243 = .ok (.iload 7, 2) := by decide +kernel
theorem dX10_refused_245 : decode cX10_refused 245 = .ok (.iload_n 3, 1) := by decide +kernel
theorem dX10_refused_246 : decode cX10_refused 246 = .ok (.if_icmp .gt 37, 3) := by decide +kernel
theorem dX10_refused_249 : decode cX10_refused 249 = .ok (.aload_n 0, 1) := by decide +kernel
theorem dX10_refused_250 : decode cX10_refused 250 = .ok (.aload_n 0, 1) := by decide +kernel
theorem dX10_refused_251 : decode cX10_refused 251 = .ok (.getfield 42, 3) := by decide +kernel
theorem dX10_refused_254 : decode cX10_refused 254 = .ok (.iload 5, 2) := by decide +kernel
theorem dX10_refused_256 : decode cX10_refused 256 = .ok (.iaload, 1) := by decide +kernel
theorem dX10_refused_257 : decode cX10_refused 257 = .ok (.iload_n 1, 1) := by decide +kernel
theorem dX10_refused_258 : decode cX10_refused 258 = .ok (.aload_n 0, 1) := by decide +kernel
theorem dX10_refused_259 : decode cX10_refused 259 = .ok (.getfield 39, 3) := by decide +kernel
theorem dX10_refused_262 : decode cX10_refused 262 = .ok (.iload 5, 2) := by decide +kernel
theorem dX10_refused_264 : decode cX10_refused 264 = .ok (.iaload, 1) := by decide +kernel
theorem dX10_refused_265 : decode cX10_refused 265 = .ok (.iload 7, 2) := by decide +kernel
theorem dX10_refused_267 : decode cX10_refused 267 = .ok (.invokevirtual 135, 3) := by decide +kernel
theorem dX10_refused_270 : decode cX10_refused 270 = .ok (.iload 6, 2) := by decide +kernel
theorem dX10_refused_272 : decode cX10_refused 272 = .ok (.if_icmp .lt 5, 3) := by decide +kernel
theorem dX10_refused_275 : decode cX10_refused 275 = .ok (.iconst 3, 1) := by decide +kernel
theorem dX10_refused_276 : decode cX10_refused 276 = .ok (.ireturn, 1) := by decide +kernel
theorem dX10_refused_277 : decode cX10_refused 277 = .ok (.iinc 7 1, 3) := by decide +kernel
theorem dX10_refused_280 : decode cX10_refused 280 = .ok (.goto (-37), 3) := by decide +kernel
theorem dX10_refused_283 : decode cX10_refused 283 = .ok (.iinc 5 1, 3) := by decide +kernel
theorem dX10_refused_286 : decode cX10_refused 286 = .ok (.goto (-100), 3) := by decide +kernel
theorem dX10_refused_289 : decode cX10_refused 289 = .ok (.iconst 0, 1) := by decide +kernel
theorem dX10_refused_290 : decode cX10_refused 290 = .ok (.ireturn, 1) := by decide +kernel
theorem dX10_put_0 : decode cX10_put 0 = .ok (.aload_n 0, 1) := by decide +kernel
theorem dX10_put_1 : decode cX10_put 1 = .ok (.iconst 0, 1) := by decide +kernel
theorem dX10_put_2 : decode cX10_put 2 = .ok (.putfield 3, 3) := by decide +kernel
theorem dX10_put_5 : decode cX10_put 5 = .ok (.aload_n 0, 1) := by decide +kernel
theorem dX10_put_6 : decode cX10_put 6 = .ok (.iload_n 1, 1) := by decide +kernel
theorem dX10_put_7 : decode cX10_put 7 = .ok (.invokestatic 111, 3) := by decide +kernel
theorem dX10_put_10 : decode cX10_put 10 = .ok (.iconst 1, 1) := by decide +kernel
theorem dX10_put_11 : decode cX10_put 11 = .ok (.invokevirtual 118, 3) := by decide +kernel
theorem dX10_put_14 : decode cX10_put 14 = .ok (.ifCond .ne 64, 3) := by decide +kernel
theorem dX10_put_17 : decode cX10_put 17 = .ok (.aload_n 0, 1) := by decide +kernel
theorem dX10_put_18 : decode cX10_put 18 = .ok (.iload_n 2, 1) := by decide +kernel
theorem dX10_put_19 : decode cX10_put 19 = .ok (.ifCond .lt 25, 3) := by decide +kernel
theorem dX10_put_22 : decode cX10_put 22 = .ok (.iload_n 3, 1) := by decide +kernel
theorem dX10_put_23 : decode cX10_put 23 = .ok (.iload_n 2, 1) := by decide +kernel
theorem dX10_put_24 : decode cX10_put 24 = .ok (.if_icmp .lt 20, 3) := by decide +kernel
theorem dX10_put_27 : decode cX10_put 27 = .ok (.iload_n 3, 1) := by decide +kernel
theorem dX10_put_28 : decode cX10_put 28 = .ok (.sipush 1000, 3) := by decide +kernel
theorem dX10_put_31 : decode cX10_put 31 = .ok (.if_icmp .gt 13, 3) := by decide +kernel
theorem dX10_put_34 : decode cX10_put 34 = .ok (.aload_n 0, 1) := by decide +kernel
theorem dX10_put_35 : decode cX10_put 35 = .ok (.getfield 36, 3) := by decide +kernel
theorem dX10_put_38 : decode cX10_put 38 = .ok (.bipush 120, 2) := by decide +kernel
theorem dX10_put_40 : decode cX10_put 40 = .ok (.iaload, 1) := by decide +kernel
theorem dX10_put_41 : decode cX10_put 41 = .ok (.ifCond .ne 7, 3) := by decide +kernel
theorem dX10_put_44 : decode cX10_put 44 = .ok (.iconst 1, 1) := by decide +kernel
theorem dX10_put_45 : decode cX10_put 45 = .ok (.goto 4, 3) := by decide +kernel
theorem dX10_put_48 : decode cX10_put 48 = .ok (.iconst 0, 1) := by decide +kernel
theorem dX10_put_49 : decode cX10_put 49 = .ok (.iconst 2, 1) := by decide +kernel
theorem dX10_put_50 : decode cX10_put 50 = .ok (.invokevirtual 118, 3) := by decide +kernel
theorem dX10_put_53 : decode cX10_put 53 = .ok (.ifCond .ne 25, 3) := by decide +kernel
theorem dX10_put_56 : decode cX10_put 56 = .ok (.aload_n 0, 1) := by decide +kernel
theorem dX10_put_57 : decode cX10_put 57 = .ok (.aload_n 0, 1) := by decide +kernel
theorem dX10_put_58 : decode cX10_put 58 = .ok (.getfield 108, 3) := by decide +kernel
theorem dX10_put_61 : decode cX10_put 61 = .ok (.bipush 120, 2) := by decide +kernel
theorem dX10_put_63 : decode cX10_put 63 = .ok (.if_icmp .ne 7, 3) := by decide +kernel
theorem dX10_put_66 : decode cX10_put 66 = .ok (.iconst 1, 1) := by decide +kernel
theorem dX10_put_67 : decode cX10_put 67 = .ok (.goto 4, 3) := by decide +kernel
theorem dX10_put_70 : decode cX10_put 70 = .ok (.iconst 0, 1) := by decide +kernel
theorem dX10_put_71 : decode cX10_put 71 = .ok (.iconst 3, 1) := by decide +kernel
theorem dX10_put_72 : decode cX10_put 72 = .ok (.invokevirtual 118, 3) := by decide +kernel
theorem dX10_put_75 : decode cX10_put 75 = .ok (.ifCond .eq 5, 3) := by decide +kernel
theorem dX10_put_78 : decode cX10_put 78 = .ok (.iconst 0, 1) := by decide +kernel
theorem dX10_put_79 : decode cX10_put 79 = .ok (.ireturn, 1) := by decide +kernel
theorem dX10_put_80 : decode cX10_put 80 = .ok (.aload_n 0, 1) := by decide +kernel
theorem dX10_put_81 : decode cX10_put 81 = .ok (.iload_n 1, 1) := by decide +kernel
theorem dX10_put_82 : decode cX10_put 82 = .ok (.iload_n 2, 1) := by decide +kernel
theorem dX10_put_83 : decode cX10_put 83 = .ok (.iload_n 3, 1) := by decide +kernel
theorem dX10_put_84 : decode cX10_put 84 = .ok (.invokevirtual 139, 3) := by decide +kernel
theorem dX10_put_87 : decode cX10_put 87 = .ok (.istore 4, 2) := by decide +kernel
theorem dX10_put_89 : decode cX10_put 89 = .ok (.aload_n 0, 1) := by decide +kernel
theorem dX10_put_90 : decode cX10_put 90 = .ok (.getfield 36, 3) := by decide +kernel
theorem dX10_put_93 : decode cX10_put 93 = .ok (.bipush 120, 2) := by decide +kernel
theorem dX10_put_95 : decode cX10_put 95 = .ok (.iaload, 1) := by decide +kernel
theorem dX10_put_96 : decode cX10_put 96 = .ok (.istore 5, 2) := by decide +kernel
theorem dX10_put_98 : decode cX10_put 98 = .ok (.aload_n 0, 1) := by decide +kernel
theorem dX10_put_99 : decode cX10_put 99 = .ok (.getfield 36, 3) := by decide +kernel
theorem dX10_put_102 : decode cX10_put 102 = .ok (.bipush 120, 2) := by decide +kernel
theorem dX10_put_104 : decode cX10_put 104 = .ok (.iconst 0, 1) := by decide +kernel
theorem dX10_put_105 : decode cX10_put 105 = .ok (.iastore, 1) := by decide +kernel
theorem dX10_put_106 : decode cX10_put 106 = .ok (.iload 4, 2) := by decide +kernel
theorem dX10_put_108 : decode cX10_put 108 = .ok (.ifCond .le 7, 3) := by decide +kernel
theorem dX10_put_111 : decode cX10_put 111 = .ok (.iload 4, 2) := by decide +kernel
theorem dX10_put_113 : decode cX10_put 113 = .ok (.ineg, 1) := by decide +kernel
theorem dX10_put_114 : decode cX10_put 114 = .ok (.ireturn, 1) := by decide +kernel
theorem dX10_put_115 : decode cX10_put 115 = .ok (.aload_n 0, 1) := by decide +kernel
theorem dX10_put_116 : decode cX10_put 116 = .ok (.getfield 27, 3) := by decide +kernel
theorem dX10_put_119 : decode cX10_put 119 = .ok (.aload_n 0, 1) := by decide +kernel
theorem dX10_put_120 : decode cX10_put 120 = .ok (.getfield 108, 3) := by decide +kernel
theorem dX10_put_123 : decode cX10_put 123 = .ok (.iload_n 1, 1) := by decide +kernel
theorem dX10_put_124 : decode cX10_put 124 = .ok (.iastore, 1) := by decide +kernel
theorem dX10_put_125 : decode cX10_put 125 = .ok (.aload_n 0, 1) := by decide +kernel
theorem dX10_put_126 : decode cX10_put 126 = .ok (.getfield 30, 3) := by decide +kernel
theorem dX10_put_129 : decode cX10_put 129 = .ok (.aload_n 0, 1) := by decide +kernel
theorem dX10_put_130 : decode cX10_put 130 = .ok (.getfield 108, 3) := by decide +kernel
theorem dX10_put_133 : decode cX10_put 133 = .ok (.iload_n 2, 1) := by decide +kernel
theorem dX10_put_134 : decode cX10_put 134 = .ok (.iastore, 1) := by decide +kernel
theorem dX10_put_135 : decode cX10_put 135 = .ok (.aload_n 0, 1) := by decide +kernel
theorem dX10_put_136 : decode cX10_put 136 = .ok (.getfield 33, 3) := by decide +kernel
theorem dX10_put_139 : decode cX10_put 139 = .ok (.aload_n 0, 1) := by decide +kernel
theorem dX10_put_140 : decode cX10_put 140 = .ok (.getfield 108, 3) := by decide +kernel
theorem dX10_put_143 : decode cX10_put 143 = .ok (.iload_n 3, 1) := by decide +kernel
theorem dX10_put_144 : decode cX10_put 144 = .ok (.iastore, 1) := by decide +kernel
theorem dX10_put_145 : decode cX10_put 145 = .ok (.aload_n 0, 1) := by decide +kernel
theorem dX10_put_146 : decode cX10_put 146 = .ok (.getfield 36, 3) := by decide +kernel
theorem dX10_put_149 : decode cX10_put 149 = .ok (.aload_n 0, 1) := by decide +kernel
theorem dX10_put_150 : decode cX10_put 150 = .ok (.getfield 108, 3) := by decide +kernel
theorem dX10_put_153 : decode cX10_put 153 = .ok (.iload 5, 2) := by decide +kernel
theorem dX10_put_155 : decode cX10_put 155 = .ok (.iastore, 1) := by decide +kernel
theorem dX10_put_156 : decode cX10_put 156 = .ok (.iconst 0, 1) := by decide +kernel
theorem dX10_put_157 : decode cX10_put 157 = .ok (.istore 6, 2) := by decide +kernel
theorem dX10_put_159 : decode cX10_put 159 = .ok (.iload 6, 2) := by decide +kernel
theorem dX10_put_161 : decode cX10_put 161 = .ok (.iload 5, 2) := by decide +kernel
theorem dX10_put_163 : decode cX10_put 163 = .ok (.if_icmp .ge 61, 3) := by decide +kernel
theorem dX10_put_166 : decode cX10_put 166 = .ok (.aload_n 0, 1) := by decide +kernel
theorem dX10_put_167 : decode cX10_put 167 = .ok (.getfield 39, 3) := by decide +kernel
theorem dX10_put_170 : decode cX10_put 170 = .ok (.bipush 6, 2) := by decide +kernel
theorem dX10_put_172 : decode cX10_put 172 = .ok (.aload_n 0, 1) := by decide +kernel
theorem dX10_put_173 : decode cX10_put 173 = .ok (.getfield 108, 3) := by decide +kernel
theorem dX10_put_176 : decode cX10_put 176 = .ok (.imul, 1) := by decide +kernel
theorem dX10_put_177 : decode cX10_put 177 = .ok (.iload 6, 2) := by decide +kernel
theorem dX10_put_179 : decode cX10_put 179 = .ok (.iadd, 1) := by decide +kernel
theorem dX10_put_180 : decode cX10_put 180 = .ok (.aload_n 0, 1) := by decide +kernel
theorem dX10_put_181 : decode cX10_put 181 = .ok (.getfield 39, 3) := by decide +kernel
theorem dX10_put_184 : decode cX10_put 184 = .ok (.sipush 720, 3) := by decide +kernel
theorem dX10_put_187 : decode cX10_put 187 = .ok (.iload 6, 2) := by decide +kernel
theorem dX10_put_189 : decode cX10_put 189 = .ok (.iadd, 1) := by decide +kernel
theorem dX10_put_190 : decode cX10_put 190 = .ok (.iaload, 1) := by decide +kernel
theorem dX10_put_191 : decode cX10_put 191 = .ok (.iastore, 1) := by decide +kernel
theorem dX10_put_192 : decode cX10_put 192 = .ok (.aload_n 0, 1) := by decide +kernel
theorem dX10_put_193 : decode cX10_put 193 = .ok (.getfield 42, 3) := by decide +kernel
theorem dX10_put_196 : decode cX10_put 196 = .ok (.bipush 6, 2) := by decide +kernel
theorem dX10_put_198 : decode cX10_put 198 = .ok (.aload_n 0, 1) := by decide +kernel
theorem dX10_put_199 : decode cX10_put 199 = .ok (.getfield 108, 3) := by decide +kernel
theorem dX10_put_202 : decode cX10_put 202 = .ok (.imul, 1) := by decide +kernel
theorem dX10_put_203 : decode cX10_put 203 = .ok (.iload 6, 2) := by decide +kernel
theorem dX10_put_205 : decode cX10_put 205 = .ok (.iadd, 1) := by decide +kernel
theorem dX10_put_206 : decode cX10_put 206 = .ok (.aload_n 0, 1) := by decide +kernel
theorem dX10_put_207 : decode cX10_put 207 = .ok (.getfield 42, 3) := by decide +kernel
theorem dX10_put_210 : decode cX10_put 210 = .ok (.sipush 720, 3) := by decide +kernel
theorem dX10_put_213 : decode cX10_put 213 = .ok (.iload 6, 2) := by decide +kernel
theorem dX10_put_215 : decode cX10_put 215 = .ok (.iadd, 1) := by decide +kernel
theorem dX10_put_216 : decode cX10_put 216 = .ok (.iaload, 1) := by decide +kernel
theorem dX10_put_217 : decode cX10_put 217 = .ok (.iastore, 1) := by decide +kernel
theorem dX10_put_218 : decode cX10_put 218 = .ok (.iinc 6 1, 3) := by decide +kernel
theorem dX10_put_221 : decode cX10_put 221 = .ok (.goto (-62), 3) := by decide +kernel
theorem dX10_put_224 : decode cX10_put 224 = .ok (.aload_n 0, 1) := by decide +kernel
theorem dX10_put_225 : decode cX10_put 225 = .ok (.dup, 1) := by decide +kernel
theorem dX10_put_226 : decode cX10_put 226 = .ok (.getfield 108, 3) := by decide +kernel
theorem dX10_put_229 : decode cX10_put 229 = .ok (.iconst 1, 1) := by decide +kernel
theorem dX10_put_230 : decode cX10_put 230 = .ok (.iadd, 1) := by decide +kernel
theorem dX10_put_231 : decode cX10_put 231 = .ok (.putfield 108, 3) := by decide +kernel
theorem dX10_put_234 : decode cX10_put 234 = .ok (.aload_n 0, 1) := by decide +kernel
theorem dX10_put_235 : decode cX10_put 235 = .ok (.getfield 108, 3) := by decide +kernel
theorem dX10_put_238 : decode cX10_put 238 = .ok (.iconst 1, 1) := by decide +kernel
theorem dX10_put_239 : decode cX10_put 239 = .ok (.isub, 1) := by decide +kernel
theorem dX10_put_240 : decode cX10_put 240 = .ok (.ireturn, 1) := by decide +kernel
theorem dX10_hangs_0 : decode cX10_hangs 0 = .ok (.iconst 0, 1) := by decide +kernel
theorem dX10_hangs_1 : decode cX10_hangs 1 = .ok (.istore_n 3, 1) := by decide +kernel
theorem dX10_hangs_2 : decode cX10_hangs 2 = .ok (.bipush 6, 2) := by decide +kernel
theorem dX10_hangs_4 : decode cX10_hangs 4 = .ok (.iload_n 1, 1) := by decide +kernel
theorem dX10_hangs_5 : decode cX10_hangs 5 = .ok (.imul, 1) := by decide +kernel
theorem dX10_hangs_6 : decode cX10_hangs 6 = .ok (.istore 4, 2) := by decide +kernel
theorem dX10_hangs_8 : decode cX10_hangs 8 = .ok (.iload 4, 2) := by decide +kernel
theorem dX10_hangs_10 : decode cX10_hangs 10 = .ok (.bipush 6, 2) := by decide +kernel
theorem dX10_hangs_12 : decode cX10_hangs 12 = .ok (.iload_n 1, 1) := by decide +kernel
theorem dX10_hangs_13 : decode cX10_hangs 13 = .ok (.imul, 1) := by decide +kernel
theorem dX10_hangs_14 : decode cX10_hangs 14 = .ok (.aload_n 0, 1) := by decide +kernel
theorem dX10_hangs_15 : decode cX10_hangs 15 = .ok (.getfield 36, 3) := by decide +kernel
theorem dX10_hangs_18 : decode cX10_hangs 18 = .ok (.iload_n 1, 1) := by decide +kernel
theorem dX10_hangs_19 : decode cX10_hangs 19 = .ok (.iaload, 1) := by decide +kernel
theorem dX10_hangs_20 : decode cX10_hangs 20 = .ok (.iadd, 1) := by decide +kernel
theorem dX10_hangs_21 : decode cX10_hangs 21 = .ok (.if_icmp .ge 33, 3) := by decide +kernel
theorem dX10_hangs_24 : decode cX10_hangs 24 = .ok (.iload_n 3, 1) := by decide +kernel
theorem dX10_hangs_25 : decode cX10_hangs 25 = .ok (.ifCond .ne 17, 3) := by decide +kernel
theorem dX10_hangs_28 : decode cX10_hangs 28 = .ok (.aload_n 0, 1) := by decide +kernel
theorem dX10_hangs_29 : decode cX10_hangs 29 = .ok (.getfield 42, 3) := by decide +kernel
theorem dX10_hangs_32 : decode cX10_hangs 32 = .ok (.iload 4, 2) := by decide +kernel
theorem dX10_hangs_34 : decode cX10_hangs 34 = .ok (.iaload, 1) := by decide +kernel
theorem dX10_hangs_35 : decode cX10_hangs 35 = .ok (.bipush 40, 2) := by decide +kernel
theorem dX10_hangs_37 : decode cX10_hangs 37 = .ok (.iload_n 2, 1) := by decide +kernel
theorem dX10_hangs_38 : decode cX10_hangs 38 = .ok (.iadd, 1) := by decide +kernel
theorem dX10_hangs_39 : decode cX10_hangs 39 = .ok (.if_icmp .ne 7, 3) := by decide +kernel
theorem dX10_hangs_42 : decode cX10_hangs 42 = .ok (.iconst 1, 1) := by decide +kernel
theorem dX10_hangs_43 : decode cX10_hangs 43 = .ok (.goto 4, 3) := by decide +kernel
theorem dX10_hangs_46 : decode cX10_hangs 46 = .ok (.iconst 0, 1) := by decide +kernel
theorem dX10_hangs_47 : decode cX10_hangs 47 = .ok (.istore_n 3, 1) := by decide +kernel
theorem dX10_hangs_48 : decode cX10_hangs 48 = .ok (.iinc 4 1, 3) := by decide +kernel
theorem dX10_hangs_51 : decode cX10_hangs 51 = .ok (.goto (-43), 3) := by decide +kernel
theorem dX10_hangs_54 : decode cX10_hangs 54 = .ok (.iload_n 3, 1) := by decide +kernel
theorem dX10_hangs_55 : decode cX10_hangs 55 = .ok (.ireturn, 1) := by decide +kernel
theorem dX10_strike_0 : decode cX10_strike 0 = .ok (.aload_n 0, 1) := by decide +kernel
theorem dX10_strike_1 : decode cX10_strike 1 = .ok (.iconst 0, 1) := by decide +kernel
theorem dX10_strike_2 : decode cX10_strike 2 = .ok (.putfield 3, 3) := by decide +kernel
theorem dX10_strike_5 : decode cX10_strike 5 = .ok (.aload_n 0, 1) := by decide +kernel
theorem dX10_strike_6 : decode cX10_strike 6 = .ok (.aload_n 0, 1) := by decide +kernel
theorem dX10_strike_7 : decode cX10_strike 7 = .ok (.iload_n 1, 1) := by decide +kernel
theorem dX10_strike_8 : decode cX10_strike 8 = .ok (.invokevirtual 122, 3) := by decide +kernel
theorem dX10_strike_11 : decode cX10_strike 11 = .ok (.iconst 1, 1) := by decide +kernel
theorem dX10_strike_12 : decode cX10_strike 12 = .ok (.invokevirtual 118, 3) := by decide +kernel
theorem dX10_strike_15 : decode cX10_strike 15 = .ok (.ifCond .ne 12, 3) := by decide +kernel
theorem dX10_strike_18 : decode cX10_strike 18 = .ok (.aload_n 0, 1) := by decide +kernel
theorem dX10_strike_19 : decode cX10_strike 19 = .ok (.iload_n 1, 1) := by decide +kernel
theorem dX10_strike_20 : decode cX10_strike 20 = .ok (.iload_n 2, 1) := by decide +kernel
theorem dX10_strike_21 : decode cX10_strike 21 = .ok (.invokevirtual 128, 3) := by decide +kernel
theorem dX10_strike_24 : decode cX10_strike 24 = .ok (.ifCond .ne 5, 3) := by decide +kernel
theorem dX10_strike_27 : decode cX10_strike 27 = .ok (.iconst 0, 1) := by decide +kernel
theorem dX10_strike_28 : decode cX10_strike 28 = .ok (.ireturn, 1) := by decide +kernel
theorem dX10_strike_29 : decode cX10_strike 29 = .ok (.iconst 0, 1) := by decide +kernel
theorem dX10_strike_30 : decode cX10_strike 30 = .ok (.istore_n 3, 1) := by decide +kernel
theorem dX10_strike_31 : decode cX10_strike 31 = .ok (.iload_n 3, 1) := by decide +kernel
theorem dX10_strike_32 : decode cX10_strike 32 = .ok (.aload_n 0, 1) := by decide +kernel
theorem dX10_strike_33 : decode cX10_strike 33 = .ok (.getfield 108, 3) := by decide +kernel
theorem dX10_strike_36 : decode cX10_strike 36 = .ok (.if_icmp .ge 25, 3) := by decide +kernel
theorem dX10_strike_39 : decode cX10_strike 39 = .ok (.aload_n 0, 1) := by decide +kernel
theorem dX10_strike_40 : decode cX10_strike 40 = .ok (.getfield 54, 3) := by decide +kernel
theorem dX10_strike_43 : decode cX10_strike 43 = .ok (.iload_n 3, 1) := by decide +kernel
theorem dX10_strike_44 : decode cX10_strike 44 = .ok (.iload_n 3, 1) := by decide +kernel
theorem dX10_strike_45 : decode cX10_strike 45 = .ok (.iload_n 1, 1) := by decide +kernel
theorem dX10_strike_46 : decode cX10_strike 46 = .ok (.if_icmp .ne 7, 3) := by decide +kernel
theorem dX10_strike_49 : decode cX10_strike 49 = .ok (.iload_n 2, 1) := by decide +kernel
theorem dX10_strike_50 : decode cX10_strike 50 = .ok (.goto 4, 3) := by decide +kernel
theorem dX10_strike_53 : decode cX10_strike 53 = .ok (.iconst (-1), 1) := by decide +kernel
theorem dX10_strike_54 : decode cX10_strike 54 = .ok (.iastore, 1) := by decide +kernel
theorem dX10_strike_55 : decode cX10_strike 55 = .ok (.iinc 3 1, 3) := by decide +kernel
theorem dX10_strike_58 : decode cX10_strike 58 = .ok (.goto (-27), 3) := by decide +kernel
theorem dX10_strike_61 : decode cX10_strike 61 = .ok (.iconst 1, 1) := by decide +kernel
theorem dX10_strike_62 : decode cX10_strike 62 = .ok (.istore_n 3, 1) := by decide +kernel
theorem dX10_strike_63 : decode cX10_strike 63 = .ok (.iload_n 1, 1) := by decide +kernel
theorem dX10_strike_64 : decode cX10_strike 64 = .ok (.iconst 1, 1) := by decide +kernel
theorem dX10_strike_65 : decode cX10_strike 65 = .ok (.iadd, 1) := by decide +kernel
theorem dX10_strike_66 : decode cX10_strike 66 = .ok (.istore 4, 2) := by decide +kernel
theorem dX10_strike_68 : decode cX10_strike 68 = .ok (.iload 4, 2) := by decide +kernel
theorem dX10_strike_70 : decode cX10_strike 70 = .ok (.aload_n 0, 1) := by decide +kernel
theorem dX10_strike_71 : decode cX10_strike 71 = .ok (.getfield 108, 3) := by decide +kernel
theorem dX10_strike_74 : decode cX10_strike 74 = .ok (.if_icmp .ge 152, 3) := by decide +kernel
theorem dX10_strike_77 : decode cX10_strike 77 = .ok (.iload_n 1, 1) := by decide +kernel
theorem dX10_strike_78 : decode cX10_strike 78 = .ok (.istore 5, 2) := by decide +kernel
theorem dX10_strike_80 : decode cX10_strike 80 = .ok (.iload 5, 2) := by decide +kernel
theorem dX10_strike_82 : decode cX10_strike 82 = .ok (.iload 4, 2) := by decide +kernel
theorem dX10_strike_84 : decode cX10_strike 84 = .ok (.if_icmp .ge 136, 3) := by decide +kernel
theorem dX10_strike_87 : decode cX10_strike 87 = .ok (.aload_n 0, 1) := by decide +kernel
theorem dX10_strike_88 : decode cX10_strike 88 = .ok (.getfield 54, 3) := by decide +kernel
theorem dX10_strike_91 : decode cX10_strike 91 = .ok (.iload 5, 2) := by decide +kernel
theorem dX10_strike_93 : decode cX10_strike 93 = .ok (.iaload, 1) := by decide +kernel
theorem dX10_strike_94 : decode cX10_strike 94 = .ok (.ifCond .lt 120, 3) := by decide +kernel
theorem dX10_strike_97 : decode cX10_strike 97 = .ok (.aload_n 0, 1) := by decide +kernel
theorem dX10_strike_98 : decode cX10_strike 98 = .ok (.iload 4, 2) := by decide +kernel
theorem dX10_strike_100 : decode cX10_strike 100 = .ok (.iload 5, 2) := by decide +kernel
theorem dX10_strike_102 : decode cX10_strike 102 = .ok (.invokevirtual 143, 3) := by decide +kernel
theorem dX10_strike_105 : decode cX10_strike 105 = .ok (.ifCond .eq 109, 3) := by decide +kernel
theorem dX10_strike_108 : decode cX10_strike 108 = .ok (.aload_n 0, 1) := by decide +kernel
theorem dX10_strike_109 : decode cX10_strike 109 = .ok (.getfield 33, 3) := by decide +kernel
theorem dX10_strike_112 : decode cX10_strike 112 = .ok (.iload 4, 2) := by decide +kernel
theorem dX10_strike_114 : decode cX10_strike 114 = .ok (.iaload, 1) := by decide +kernel
theorem dX10_strike_115 : decode cX10_strike 115 = .ok (.aload_n 0, 1) := by decide +kernel
theorem dX10_strike_116 : decode cX10_strike 116 = .ok (.getfield 30, 3) := by decide +kernel
theorem dX10_strike_119 : decode cX10_strike 119 = .ok (.iload 4, 2) := by decide +kernel
theorem dX10_strike_121 : decode cX10_strike 121 = .ok (.iaload, 1) := by decide +kernel
theorem dX10_strike_122 : decode cX10_strike 122 = .ok (.if_icmp .lt 92, 3) := by decide +kernel
theorem dX10_strike_125 : decode cX10_strike 125 = .ok (.aload_n 0, 1) := by decide +kernel
theorem dX10_strike_126 : decode cX10_strike 126 = .ok (.getfield 33, 3) := by decide +kernel
theorem dX10_strike_129 : decode cX10_strike 129 = .ok (.iload 4, 2) := by decide +kernel
theorem dX10_strike_131 : decode cX10_strike 131 = .ok (.iaload, 1) := by decide +kernel
theorem dX10_strike_132 : decode cX10_strike 132 = .ok (.aload_n 0, 1) := by decide +kernel
theorem dX10_strike_133 : decode cX10_strike 133 = .ok (.getfield 54, 3) := by decide +kernel
theorem dX10_strike_136 : decode cX10_strike 136 = .ok (.iload 5, 2) := by decide +kernel
theorem dX10_strike_138 : decode cX10_strike 138 = .ok (.iaload, 1) := by decide +kernel
theorem dX10_strike_139 : decode cX10_strike 139 = .ok (.if_icmp .ge 6, 3) := by decide +kernel
theorem dX10_strike_142 : decode cX10_strike 142 = .ok (.goto 72, 3) := by decide +kernel
theorem dX10_strike_145 : decode cX10_strike 145 = .ok (.aload_n 0, 1) := by decide +kernel
theorem dX10_strike_146 : decode cX10_strike 146 = .ok (.getfield 23, 3) := by decide +kernel
theorem dX10_strike_149 : decode cX10_strike 149 = .ok (.aload_n 0, 1) := by decide +kernel
theorem dX10_strike_150 : decode cX10_strike 150 = .ok (.getfield 27, 3) := by decide +kernel
theorem dX10_strike_153 : decode cX10_strike 153 = .ok (.iload 5, 2) := by decide +kernel
theorem dX10_strike_155 : decode cX10_strike 155 = .ok (.iaload, 1) := by decide +kernel
theorem dX10_strike_156 : decode cX10_strike 156 = .ok (.baload, 1) := by decide +kernel
theorem dX10_strike_157 : decode cX10_strike 157 = .ok (.ifCond .eq 5, 3) := by decide +kernel
theorem dX10_strike_160 : decode cX10_strike 160 = .ok (.iconst 0, 1) := by decide +kernel
theorem dX10_strike_161 : decode cX10_strike 161 = .ok (.ireturn, 1) := by decide +kernel
theorem dX10_strike_162 : decode cX10_strike 162 = .ok (.iload_n 3, 1) := by decide +kernel
theorem dX10_strike_163 : decode cX10_strike 163 = .ok (.aload_n 0, 1) := by decide +kernel
theorem dX10_strike_164 : decode cX10_strike 164 = .ok (.getfield 54, 3) := by decide +kernel
theorem dX10_strike_167 : decode cX10_strike 167 = .ok (.iload 4, 2) := by decide +kernel
theorem dX10_strike_169 : decode cX10_strike 169 = .ok (.iaload, 1) := by decide +kernel
theorem dX10_strike_170 : decode cX10_strike 170 = .ok (.ifCond .ge 7, 3) := by decide +kernel
theorem dX10_strike_173 : decode cX10_strike 173 = .ok (.iconst 1, 1) := by decide +kernel
theorem dX10_strike_174 : decode cX10_strike 174 = .ok (.goto 4, 3) := by decide +kernel
theorem dX10_strike_177 : decode cX10_strike 177 = .ok (.iconst 0, 1) := by decide +kernel
theorem dX10_strike_178 : decode cX10_strike 178 = .ok (.iadd, 1) := by decide +kernel
theorem dX10_strike_179 : decode cX10_strike 179 = .ok (.istore_n 3, 1) := by decide +kernel
theorem dX10_strike_180 : decode cX10_strike 180 = .ok (.aload_n 0, 1) := by decide +kernel
theorem dX10_strike_181 : decode cX10_strike 181 = .ok (.getfield 54, 3) := by decide +kernel
theorem dX10_strike_184 : decode cX10_strike 184 = .ok (.iload 4, 2) := by decide +kernel
theorem dX10_strike_186 : decode cX10_strike 186 = .ok (.aload_n 0, 1) := by decide +kernel
theorem dX10_strike_187 : decode cX10_strike 187 = .ok (.getfield 54, 3) := by decide +kernel
theorem dX10_strike_190 : decode cX10_strike 190 = .ok (.iload 4, 2) := by decide +kernel
theorem dX10_strike_192 : decode cX10_strike 192 = .ok (.iaload, 1) := by decide +kernel
theorem dX10_strike_193 : decode cX10_strike 193 = .ok (.aload_n 0, 1) := by decide +kernel
theorem dX10_strike_194 : decode cX10_strike 194 = .ok (.getfield 54, 3) := by decide +kernel
theorem dX10_strike_197 : decode cX10_strike 197 = .ok (.iload 5, 2) := by decide +kernel
theorem dX10_strike_199 : decode cX10_strike 199 = .ok (.iaload, 1) := by decide +kernel
theorem dX10_strike_200 : decode cX10_strike 200 = .ok (.aload_n 0, 1) := by decide +kernel
theorem dX10_strike_201 : decode cX10_strike 201 = .ok (.getfield 30, 3) := by decide +kernel
theorem dX10_strike_204 : decode cX10_strike 204 = .ok (.iload 4, 2) := by decide +kernel
theorem dX10_strike_206 : decode cX10_strike 206 = .ok (.iaload, 1) := by decide +kernel
theorem dX10_strike_207 : decode cX10_strike 207 = .ok (.invokestatic 146, 3) := by decide +kernel
theorem dX10_strike_210 : decode cX10_strike 210 = .ok (.invokestatic 146, 3) := by decide +kernel
theorem dX10_strike_213 : decode cX10_strike 213 = .ok (.iastore, 1) := by decide +kernel
theorem dX10_strike_214 : decode cX10_strike 214 = .ok (.iinc 5 1, 3) := by decide +kernel
theorem dX10_strike_217 : decode cX10_strike 217 = .ok (.goto (-137), 3) := by decide +kernel
theorem dX10_strike_220 : decode cX10_strike 220 = .ok (.iinc 4 1, 3) := by decide +kernel
theorem dX10_strike_223 : decode cX10_strike 223 = .ok (.goto (-155), 3) := by decide +kernel
theorem dX10_strike_226 : decode cX10_strike 226 = .ok (.iload_n 1, 1) := by decide +kernel
theorem dX10_strike_227 : decode cX10_strike 227 = .ok (.istore 4, 2) := by decide +kernel
theorem dX10_strike_229 : decode cX10_strike 229 = .ok (.iload 4, 2) := by decide +kernel
theorem dX10_strike_231 : decode cX10_strike 231 = .ok (.aload_n 0, 1) := by decide +kernel
theorem dX10_strike_232 : decode cX10_strike 232 = .ok (.getfield 108, 3) := by decide +kernel
theorem dX10_strike_235 : decode cX10_strike 235 = .ok (.if_icmp .ge 35, 3) := by decide +kernel
theorem dX10_strike_238 : decode cX10_strike 238 = .ok (.aload_n 0, 1) := by decide +kernel
theorem dX10_strike_239 : decode cX10_strike 239 = .ok (.getfield 54, 3) := by decide +kernel
theorem dX10_strike_242 : decode cX10_strike 242 = .ok (.iload 4, 2) := by decide +kernel
theorem dX10_strike_244 : decode cX10_strike 244 = .ok (.iaload, 1) := by decide +kernel
theorem dX10_strike_245 : decode cX10_strike 245 = .ok (.ifCond .lt 19, 3) := by decide +kernel
theorem dX10_strike_248 : decode cX10_strike 248 = .ok (.aload_n 0, 1) := by decide +kernel
theorem dX10_strike_249 : decode cX10_strike 249 = .ok (.getfield 33, 3) := by decide +kernel
theorem dX10_strike_252 : decode cX10_strike 252 = .ok (.iload 4, 2) := by decide +kernel
theorem dX10_strike_254 : decode cX10_strike 254 = .ok (.aload_n 0, 1) := by decide +kernel
theorem dX10_strike_255 : decode cX10_strike 255 = .ok (.getfield 54, 3) := by decide +kernel
theorem dX10_strike_258 : decode cX10_strike 258 = .ok (.iload 4, 2) := by decide +kernel
theorem dX10_strike_260 : decode cX10_strike 260 = .ok (.iaload, 1) := by decide +kernel
theorem dX10_strike_261 : decode cX10_strike 261 = .ok (.iconst 1, 1) := by decide +kernel
theorem dX10_strike_262 : decode cX10_strike 262 = .ok (.isub, 1) := by decide +kernel
theorem dX10_strike_263 : decode cX10_strike 263 = .ok (.iastore, 1) := by decide +kernel
theorem dX10_strike_264 : decode cX10_strike 264 = .ok (.iinc 4 1, 3) := by decide +kernel
theorem dX10_strike_267 : decode cX10_strike 267 = .ok (.goto (-38), 3) := by decide +kernel
theorem dX10_strike_270 : decode cX10_strike 270 = .ok (.iload_n 3, 1) := by decide +kernel
theorem dX10_strike_271 : decode cX10_strike 271 = .ok (.ireturn, 1) := by decide +kernel
theorem dX10_look_0 : decode cX10_look 0 = .ok (.aload_n 0, 1) := by decide +kernel
theorem dX10_look_1 : decode cX10_look 1 = .ok (.iconst 0, 1) := by decide +kernel
theorem dX10_look_2 : decode cX10_look 2 = .ok (.putfield 3, 3) := by decide +kernel
theorem dX10_look_5 : decode cX10_look 5 = .ok (.aload_n 0, 1) := by decide +kernel
theorem dX10_look_6 : decode cX10_look 6 = .ok (.aload_n 0, 1) := by decide +kernel
theorem dX10_look_7 : decode cX10_look 7 = .ok (.iload_n 1, 1) := by decide +kernel
theorem dX10_look_8 : decode cX10_look 8 = .ok (.invokevirtual 122, 3) := by decide +kernel
theorem dX10_look_11 : decode cX10_look 11 = .ok (.iconst 1, 1) := by decide +kernel
theorem dX10_look_12 : decode cX10_look 12 = .ok (.invokevirtual 118, 3) := by decide +kernel
theorem dX10_look_15 : decode cX10_look 15 = .ok (.ifCond .eq 5, 3) := by decide +kernel
theorem dX10_look_18 : decode cX10_look 18 = .ok (.iconst 0, 1) := by decide +kernel
theorem dX10_look_19 : decode cX10_look 19 = .ok (.ireturn, 1) := by decide +kernel
theorem dX10_look_20 : decode cX10_look 20 = .ok (.iload_n 2, 1) := by decide +kernel
theorem dX10_look_21 : decode cX10_look 21 = .ok (.tableswitch 105 0 4 #[35, 42, 49, 56, 63], 35) := by decide +kernel
theorem dX10_look_56 : decode cX10_look 56 = .ok (.aload_n 0, 1) := by decide +kernel
theorem dX10_look_57 : decode cX10_look 57 = .ok (.getfield 27, 3) := by decide +kernel
theorem dX10_look_60 : decode cX10_look 60 = .ok (.iload_n 1, 1) := by decide +kernel
theorem dX10_look_61 : decode cX10_look 61 = .ok (.iaload, 1) := by decide +kernel
theorem dX10_look_62 : decode cX10_look 62 = .ok (.ireturn, 1) := by decide +kernel
theorem dX10_look_63 : decode cX10_look 63 = .ok (.aload_n 0, 1) := by decide +kernel
theorem dX10_look_64 : decode cX10_look 64 = .ok (.getfield 30, 3) := by decide +kernel
theorem dX10_look_67 : decode cX10_look 67 = .ok (.iload_n 1, 1) := by decide +kernel
theorem dX10_look_68 : decode cX10_look 68 = .ok (.iaload, 1) := by decide +kernel
theorem dX10_look_69 : decode cX10_look 69 = .ok (.ireturn, 1) := by decide +kernel
theorem dX10_look_70 : decode cX10_look 70 = .ok (.aload_n 0, 1) := by decide +kernel
theorem dX10_look_71 : decode cX10_look 71 = .ok (.getfield 33, 3) := by decide +kernel
theorem dX10_look_74 : decode cX10_look 74 = .ok (.iload_n 1, 1) := by decide +kernel
theorem dX10_look_75 : decode cX10_look 75 = .ok (.iaload, 1) := by decide +kernel
theorem dX10_look_76 : decode cX10_look 76 = .ok (.ireturn, 1) := by decide +kernel
theorem dX10_look_77 : decode cX10_look 77 = .ok (.aload_n 0, 1) := by decide +kernel
theorem dX10_look_78 : decode cX10_look 78 = .ok (.getfield 36, 3) := by decide +kernel
theorem dX10_look_81 : decode cX10_look 81 = .ok (.iload_n 1, 1) := by decide +kernel
theorem dX10_look_82 : decode cX10_look 82 = .ok (.iaload, 1) := by decide +kernel
theorem dX10_look_83 : decode cX10_look 83 = .ok (.ireturn, 1) := by decide +kernel
theorem dX10_look_84 : decode cX10_look 84 = .ok (.iconst 0, 1) := by decide +kernel
theorem dX10_look_85 : decode cX10_look 85 = .ok (.istore_n 3, 1) := by decide +kernel
theorem dX10_look_86 : decode cX10_look 86 = .ok (.iload_n 1, 1) := by decide +kernel
theorem dX10_look_87 : decode cX10_look 87 = .ok (.iconst 1, 1) := by decide +kernel
theorem dX10_look_88 : decode cX10_look 88 = .ok (.iadd, 1) := by decide +kernel
theorem dX10_look_89 : decode cX10_look 89 = .ok (.istore 4, 2) := by decide +kernel
theorem dX10_look_91 : decode cX10_look 91 = .ok (.iload 4, 2) := by decide +kernel
theorem dX10_look_93 : decode cX10_look 93 = .ok (.aload_n 0, 1) := by decide +kernel
theorem dX10_look_94 : decode cX10_look 94 = .ok (.getfield 108, 3) := by decide +kernel
theorem dX10_look_97 : decode cX10_look 97 = .ok (.if_icmp .ge 27, 3) := by decide +kernel
theorem dX10_look_100 : decode cX10_look 100 = .ok (.iload_n 3, 1) := by decide +kernel
theorem dX10_look_101 : decode cX10_look 101 = .ok (.aload_n 0, 1) := by decide +kernel
theorem dX10_look_102 : decode cX10_look 102 = .ok (.iload 4, 2) := by decide +kernel
theorem dX10_look_104 : decode cX10_look 104 = .ok (.iload_n 1, 1) := by decide +kernel
theorem dX10_look_105 : decode cX10_look 105 = .ok (.invokevirtual 143, 3) := by decide +kernel
theorem dX10_look_108 : decode cX10_look 108 = .ok (.ifCond .eq 7, 3) := by decide +kernel
theorem dX10_look_111 : decode cX10_look 111 = .ok (.iconst 1, 1) := by decide +kernel
theorem dX10_look_112 : decode cX10_look 112 = .ok (.goto 4, 3) := by decide +kernel
theorem dX10_look_115 : decode cX10_look 115 = .ok (.iconst 0, 1) := by decide +kernel
theorem dX10_look_116 : decode cX10_look 116 = .ok (.iadd, 1) := by decide +kernel
theorem dX10_look_117 : decode cX10_look 117 = .ok (.istore_n 3, 1) := by decide +kernel
theorem dX10_look_118 : decode cX10_look 118 = .ok (.iinc 4 1, 3) := by decide +kernel
theorem dX10_look_121 : decode cX10_look 121 = .ok (.goto (-30), 3) := by decide +kernel
theorem dX10_look_124 : decode cX10_look 124 = .ok (.iload_n 3, 1) := by decide +kernel
theorem dX10_look_125 : decode cX10_look 125 = .ok (.ireturn, 1) := by decide +kernel
theorem dX10_look_126 : decode cX10_look 126 = .ok (.aload_n 0, 1) := by decide +kernel
theorem dX10_look_127 : decode cX10_look 127 = .ok (.iconst 2, 1) := by decide +kernel
theorem dX10_look_128 : decode cX10_look 128 = .ok (.putfield 3, 3) := by decide +kernel
theorem dX10_look_131 : decode cX10_look 131 = .ok (.iconst 0, 1) := by decide +kernel
theorem dX10_look_132 : decode cX10_look 132 = .ok (.ireturn, 1) := by decide +kernel
theorem dX10_ended_0 : decode cX10_ended 0 = .ok (.aload_n 0, 1) := by decide +kernel
theorem dX10_ended_1 : decode cX10_ended 1 = .ok (.iconst 0, 1) := by decide +kernel
theorem dX10_ended_2 : decode cX10_ended 2 = .ok (.putfield 3, 3) := by decide +kernel
theorem dX10_ended_5 : decode cX10_ended 5 = .ok (.aload_n 0, 1) := by decide +kernel
theorem dX10_ended_6 : decode cX10_ended 6 = .ok (.aload_n 0, 1) := by decide +kernel
theorem dX10_ended_7 : decode cX10_ended 7 = .ok (.iload_n 1, 1) := by decide +kernel
theorem dX10_ended_8 : decode cX10_ended 8 = .ok (.invokevirtual 122, 3) := by decide +kernel
theorem dX10_ended_11 : decode cX10_ended 11 = .ok (.iconst 1, 1) := by decide +kernel
theorem dX10_ended_12 : decode cX10_ended 12 = .ok (.invokevirtual 118, 3) := by decide +kernel
theorem dX10_ended_15 : decode cX10_ended 15 = .ok (.ifCond .ne 41, 3) := by decide +kernel
theorem dX10_ended_18 : decode cX10_ended 18 = .ok (.aload_n 0, 1) := by decide +kernel
theorem dX10_ended_19 : decode cX10_ended 19 = .ok (.iload_n 2, 1) := by decide +kernel
theorem dX10_ended_20 : decode cX10_ended 20 = .ok (.iconst 0, 1) := by decide +kernel
theorem dX10_ended_21 : decode cX10_ended 21 = .ok (.aload_n 0, 1) := by decide +kernel
theorem dX10_ended_22 : decode cX10_ended 22 = .ok (.getfield 36, 3) := by decide +kernel
theorem dX10_ended_25 : decode cX10_ended 25 = .ok (.iload_n 1, 1) := by decide +kernel
theorem dX10_ended_26 : decode cX10_ended 26 = .ok (.iaload, 1) := by decide +kernel
theorem dX10_ended_27 : decode cX10_ended 27 = .ok (.iconst 1, 1) := by decide +kernel
theorem dX10_ended_28 : decode cX10_ended 28 = .ok (.isub, 1) := by decide +kernel
theorem dX10_ended_29 : decode cX10_ended 29 = .ok (.invokestatic 104, 3) := by decide +kernel
theorem dX10_ended_32 : decode cX10_ended 32 = .ok (.ifCond .eq 12, 3) := by decide +kernel
theorem dX10_ended_35 : decode cX10_ended 35 = .ok (.iload_n 3, 1) := by decide +kernel
theorem dX10_ended_36 : decode cX10_ended 36 = .ok (.iconst 0, 1) := by decide +kernel
theorem dX10_ended_37 : decode cX10_ended 37 = .ok (.iconst 2, 1) := by decide +kernel
theorem dX10_ended_38 : decode cX10_ended 38 = .ok (.invokestatic 104, 3) := by decide +kernel
theorem dX10_ended_41 : decode cX10_ended 41 = .ok (.ifCond .ne 7, 3) := by decide +kernel
theorem dX10_ended_44 : decode cX10_ended 44 = .ok (.iconst 1, 1) := by decide +kernel
theorem dX10_ended_45 : decode cX10_ended 45 = .ok (.goto 4, 3) := by decide +kernel
theorem dX10_ended_48 : decode cX10_ended 48 = .ok (.iconst 0, 1) := by decide +kernel
theorem dX10_ended_49 : decode cX10_ended 49 = .ok (.iconst 2, 1) := by decide +kernel
theorem dX10_ended_50 : decode cX10_ended 50 = .ok (.invokevirtual 118, 3) := by decide +kernel
theorem dX10_ended_53 : decode cX10_ended 53 = .ok (.ifCond .eq 5, 3) := by decide +kernel
theorem dX10_ended_56 : decode cX10_ended 56 = .ok (.iconst 0, 1) := by decide +kernel
theorem dX10_ended_57 : decode cX10_ended 57 = .ok (.ireturn, 1) := by decide +kernel
theorem dX10_ended_58 : decode cX10_ended 58 = .ok (.bipush 6, 2) := by decide +kernel
theorem dX10_ended_60 : decode cX10_ended 60 = .ok (.iload_n 1, 1) := by decide +kernel
theorem dX10_ended_61 : decode cX10_ended 61 = .ok (.imul, 1) := by decide +kernel
theorem dX10_ended_62 : decode cX10_ended 62 = .ok (.iload_n 2, 1) := by decide +kernel
theorem dX10_ended_63 : decode cX10_ended 63 = .ok (.iadd, 1) := by decide +kernel
theorem dX10_ended_64 : decode cX10_ended 64 = .ok (.istore 4, 2) := by decide +kernel
theorem dX10_ended_66 : decode cX10_ended 66 = .ok (.iload_n 3, 1) := by decide +kernel
theorem dX10_ended_67 : decode cX10_ended 67 = .ok (.ifCond .ne 13, 3) := by decide +kernel
theorem dX10_ended_70 : decode cX10_ended 70 = .ok (.aload_n 0, 1) := by decide +kernel
theorem dX10_ended_71 : decode cX10_ended 71 = .ok (.getfield 39, 3) := by decide +kernel
theorem dX10_ended_74 : decode cX10_ended 74 = .ok (.iload 4, 2) := by decide +kernel
theorem dX10_ended_76 : decode cX10_ended 76 = .ok (.iaload, 1) := by decide +kernel
theorem dX10_ended_77 : decode cX10_ended 77 = .ok (.goto 60, 3) := by decide +kernel
theorem dX10_ended_80 : decode cX10_ended 80 = .ok (.iload_n 3, 1) := by decide +kernel
theorem dX10_ended_81 : decode cX10_ended 81 = .ok (.iconst 1, 1) := by decide +kernel
theorem dX10_ended_82 : decode cX10_ended 82 = .ok (.if_icmp .ne 29, 3) := by decide +kernel
theorem dX10_ended_85 : decode cX10_ended 85 = .ok (.aload_n 0, 1) := by decide +kernel
theorem dX10_ended_86 : decode cX10_ended 86 = .ok (.getfield 42, 3) := by decide +kernel
theorem dX10_ended_89 : decode cX10_ended 89 = .ok (.iload 4, 2) := by decide +kernel
theorem dX10_ended_91 : decode cX10_ended 91 = .ok (.iaload, 1) := by decide +kernel
theorem dX10_ended_92 : decode cX10_ended 92 = .ok (.bipush 40, 2) := by decide +kernel
theorem dX10_ended_94 : decode cX10_ended 94 = .ok (.if_icmp .ge 13, 3) := by decide +kernel
theorem dX10_ended_97 : decode cX10_ended 97 = .ok (.aload_n 0, 1) := by decide +kernel
theorem dX10_ended_98 : decode cX10_ended 98 = .ok (.getfield 42, 3) := by decide +kernel
theorem dX10_ended_101 : decode cX10_ended 101 = .ok (.iload 4, 2) := by decide +kernel
theorem dX10_ended_103 : decode cX10_ended 103 = .ok (.iaload, 1) := by decide +kernel
theorem dX10_ended_104 : decode cX10_ended 104 = .ok (.goto 33, 3) := by decide +kernel
theorem dX10_ended_107 : decode cX10_ended 107 = .ok (.iconst (-1), 1) := by decide +kernel
theorem dX10_ended_108 : decode cX10_ended 108 = .ok (.goto 29, 3) := by decide +kernel
theorem dX10_ended_111 : decode cX10_ended 111 = .ok (.aload_n 0, 1) := by decide +kernel
theorem dX10_ended_112 : decode cX10_ended 112 = .ok (.getfield 42, 3) := by decide +kernel
theorem dX10_ended_115 : decode cX10_ended 115 = .ok (.iload 4, 2) := by decide +kernel
theorem dX10_ended_117 : decode cX10_ended 117 = .ok (.iaload, 1) := by decide +kernel
theorem dX10_ended_118 : decode cX10_ended 118 = .ok (.bipush 40, 2) := by decide +kernel
theorem dX10_ended_120 : decode cX10_ended 120 = .ok (.if_icmp .ge 7, 3) := by decide +kernel
theorem dX10_ended_123 : decode cX10_ended 123 = .ok (.iconst (-1), 1) := by decide +kernel
theorem dX10_ended_124 : decode cX10_ended 124 = .ok (.goto 13, 3) := by decide +kernel
theorem dX10_ended_127 : decode cX10_ended 127 = .ok (.aload_n 0, 1) := by decide +kernel
theorem dX10_ended_128 : decode cX10_ended 128 = .ok (.getfield 42, 3) := by decide +kernel
theorem dX10_ended_131 : decode cX10_ended 131 = .ok (.iload 4, 2) := by decide +kernel
theorem dX10_ended_133 : decode cX10_ended 133 = .ok (.iaload, 1) := by decide +kernel
theorem dX10_ended_134 : decode cX10_ended 134 = .ok (.bipush 40, 2) := by decide +kernel
theorem dX10_ended_136 : decode cX10_ended 136 = .ok (.isub, 1) := by decide +kernel
theorem dX10_ended_137 : decode cX10_ended 137 = .ok (.ireturn, 1) := by decide +kernel
theorem dX10_counts_0 : decode cX10_counts 0 = .ok (.iconst 0, 1) := by decide +kernel
theorem dX10_counts_1 : decode cX10_counts 1 = .ok (.istore_n 1, 1) := by decide +kernel
theorem dX10_counts_2 : decode cX10_counts 2 = .ok (.iload_n 1, 1) := by decide +kernel
theorem dX10_counts_3 : decode cX10_counts 3 = .ok (.bipush 40, 2) := by decide +kernel
theorem dX10_counts_5 : decode cX10_counts 5 = .ok (.if_icmp .ge 16, 3) := by decide +kernel
theorem dX10_counts_8 : decode cX10_counts 8 = .ok (.aload_n 0, 1) := by decide +kernel
theorem dX10_counts_9 : decode cX10_counts 9 = .ok (.getfield 45, 3) := by decide +kernel
theorem dX10_counts_12 : decode cX10_counts 12 = .ok (.iload_n 1, 1) := by decide +kernel
theorem dX10_counts_13 : decode cX10_counts 13 = .ok (.iload_n 1, 1) := by decide +kernel
theorem dX10_counts_14 : decode cX10_counts 14 = .ok (.iastore, 1) := by decide +kernel
theorem dX10_counts_15 : decode cX10_counts 15 = .ok (.iinc 1 1, 3) := by decide +kernel
theorem dX10_counts_18 : decode cX10_counts 18 = .ok (.goto (-16), 3) := by decide +kernel
theorem dX10_counts_21 : decode cX10_counts 21 = .ok (.iconst 0, 1) := by decide +kernel
theorem dX10_counts_22 : decode cX10_counts 22 = .ok (.istore_n 1, 1) := by decide +kernel
theorem dX10_counts_23 : decode cX10_counts 23 = .ok (.iload_n 1, 1) := by decide +kernel
theorem dX10_counts_24 : decode cX10_counts 24 = .ok (.aload_n 0, 1) := by decide +kernel
theorem dX10_counts_25 : decode cX10_counts 25 = .ok (.getfield 152, 3) := by decide +kernel
theorem dX10_counts_28 : decode cX10_counts 28 = .ok (.if_icmp .ge 83, 3) := by decide +kernel
theorem dX10_counts_31 : decode cX10_counts 31 = .ok (.aload_n 0, 1) := by decide +kernel
theorem dX10_counts_32 : decode cX10_counts 32 = .ok (.getfield 45, 3) := by decide +kernel
theorem dX10_counts_35 : decode cX10_counts 35 = .ok (.aload_n 0, 1) := by decide +kernel
theorem dX10_counts_36 : decode cX10_counts 36 = .ok (.getfield 48, 3) := by decide +kernel
theorem dX10_counts_39 : decode cX10_counts 39 = .ok (.iload_n 1, 1) := by decide +kernel
theorem dX10_counts_40 : decode cX10_counts 40 = .ok (.iaload, 1) := by decide +kernel
theorem dX10_counts_41 : decode cX10_counts 41 = .ok (.iaload, 1) := by decide +kernel
theorem dX10_counts_42 : decode cX10_counts 42 = .ok (.istore_n 2, 1) := by decide +kernel
theorem dX10_counts_43 : decode cX10_counts 43 = .ok (.aload_n 0, 1) := by decide +kernel
theorem dX10_counts_44 : decode cX10_counts 44 = .ok (.getfield 45, 3) := by decide +kernel
theorem dX10_counts_47 : decode cX10_counts 47 = .ok (.aload_n 0, 1) := by decide +kernel
theorem dX10_counts_48 : decode cX10_counts 48 = .ok (.getfield 51, 3) := by decide +kernel
theorem dX10_counts_51 : decode cX10_counts 51 = .ok (.iload_n 1, 1) := by decide +kernel
theorem dX10_counts_52 : decode cX10_counts 52 = .ok (.iaload, 1) := by decide +kernel
theorem dX10_counts_53 : decode cX10_counts 53 = .ok (.iaload, 1) := by decide +kernel
theorem dX10_counts_54 : decode cX10_counts 54 = .ok (.istore_n 3, 1) := by decide +kernel
theorem dX10_counts_55 : decode cX10_counts 55 = .ok (.iconst 0, 1) := by decide +kernel
theorem dX10_counts_56 : decode cX10_counts 56 = .ok (.istore 4, 2) := by decide +kernel
theorem dX10_counts_58 : decode cX10_counts 58 = .ok (.iload 4, 2) := by decide +kernel
theorem dX10_counts_60 : decode cX10_counts 60 = .ok (.bipush 40, 2) := by decide +kernel
theorem dX10_counts_62 : decode cX10_counts 62 = .ok (.if_icmp .ge 43, 3) := by decide +kernel
theorem dX10_counts_65 : decode cX10_counts 65 = .ok (.aload_n 0, 1) := by decide +kernel
theorem dX10_counts_66 : decode cX10_counts 66 = .ok (.getfield 45, 3) := by decide +kernel
theorem dX10_counts_69 : decode cX10_counts 69 = .ok (.iload 4, 2) := by decide +kernel
theorem dX10_counts_71 : decode cX10_counts 71 = .ok (.iaload, 1) := by decide +kernel
theorem dX10_counts_72 : decode cX10_counts 72 = .ok (.iload_n 2, 1) := by decide +kernel
theorem dX10_counts_73 : decode cX10_counts 73 = .ok (.if_icmp .eq 14, 3) := by decide +kernel
theorem dX10_counts_76 : decode cX10_counts 76 = .ok (.aload_n 0, 1) := by decide +kernel
theorem dX10_counts_77 : decode cX10_counts 77 = .ok (.getfield 45, 3) := by decide +kernel
theorem dX10_counts_80 : decode cX10_counts 80 = .ok (.iload 4, 2) := by decide +kernel
theorem dX10_counts_82 : decode cX10_counts 82 = .ok (.iaload, 1) := by decide +kernel
theorem dX10_counts_83 : decode cX10_counts 83 = .ok (.iload_n 3, 1) := by decide +kernel
theorem dX10_counts_84 : decode cX10_counts 84 = .ok (.if_icmp .ne 15, 3) := by decide +kernel
theorem dX10_counts_87 : decode cX10_counts 87 = .ok (.aload_n 0, 1) := by decide +kernel
theorem dX10_counts_88 : decode cX10_counts 88 = .ok (.getfield 45, 3) := by decide +kernel
theorem dX10_counts_91 : decode cX10_counts 91 = .ok (.iload 4, 2) := by decide +kernel
theorem dX10_counts_93 : decode cX10_counts 93 = .ok (.iload_n 2, 1) := by decide +kernel
theorem dX10_counts_94 : decode cX10_counts 94 = .ok (.iload_n 3, 1) := by decide +kernel
theorem dX10_counts_95 : decode cX10_counts 95 = .ok (.invokestatic 155, 3) := by decide +kernel
theorem dX10_counts_98 : decode cX10_counts 98 = .ok (.iastore, 1) := by decide +kernel
theorem dX10_counts_99 : decode cX10_counts 99 = .ok (.iinc 4 1, 3) := by decide +kernel
theorem dX10_counts_102 : decode cX10_counts 102 = .ok (.goto (-44), 3) := by decide +kernel
theorem dX10_counts_105 : decode cX10_counts 105 = .ok (.iinc 1 1, 3) := by decide +kernel
theorem dX10_counts_108 : decode cX10_counts 108 = .ok (.goto (-85), 3) := by decide +kernel
theorem dX10_counts_111 : decode cX10_counts 111 = .ok (.return_, 1) := by decide +kernel
theorem dX10_one_0 : decode cX10_one 0 = .ok (.aload_n 0, 1) := by decide +kernel
theorem dX10_one_1 : decode cX10_one 1 = .ok (.iconst 0, 1) := by decide +kernel
theorem dX10_one_2 : decode cX10_one 2 = .ok (.putfield 3, 3) := by decide +kernel
theorem dX10_one_5 : decode cX10_one 5 = .ok (.aload_n 0, 1) := by decide +kernel
theorem dX10_one_6 : decode cX10_one 6 = .ok (.iload_n 1, 1) := by decide +kernel
theorem dX10_one_7 : decode cX10_one 7 = .ok (.invokestatic 125, 3) := by decide +kernel
theorem dX10_one_10 : decode cX10_one 10 = .ok (.ifCond .ne 10, 3) := by decide +kernel
theorem dX10_one_13 : decode cX10_one 13 = .ok (.iload_n 2, 1) := by decide +kernel
theorem dX10_one_14 : decode cX10_one 14 = .ok (.invokestatic 125, 3) := by decide +kernel
theorem dX10_one_17 : decode cX10_one 17 = .ok (.ifCond .eq 7, 3) := by decide +kernel
theorem dX10_one_20 : decode cX10_one 20 = .ok (.iconst 1, 1) := by decide +kernel
theorem dX10_one_21 : decode cX10_one 21 = .ok (.goto 4, 3) := by decide +kernel
theorem dX10_one_24 : decode cX10_one 24 = .ok (.iconst 0, 1) := by decide +kernel
theorem dX10_one_25 : decode cX10_one 25 = .ok (.iconst 1, 1) := by decide +kernel
theorem dX10_one_26 : decode cX10_one 26 = .ok (.invokevirtual 118, 3) := by decide +kernel
theorem dX10_one_29 : decode cX10_one 29 = .ok (.ifCond .ne 18, 3) := by decide +kernel
theorem dX10_one_32 : decode cX10_one 32 = .ok (.aload_n 0, 1) := by decide +kernel
theorem dX10_one_33 : decode cX10_one 33 = .ok (.getfield 45, 3) := by decide +kernel
theorem dX10_one_36 : decode cX10_one 36 = .ok (.iload_n 1, 1) := by decide +kernel
theorem dX10_one_37 : decode cX10_one 37 = .ok (.iaload, 1) := by decide +kernel
theorem dX10_one_38 : decode cX10_one 38 = .ok (.aload_n 0, 1) := by decide +kernel
theorem dX10_one_39 : decode cX10_one 39 = .ok (.getfield 45, 3) := by decide +kernel
theorem dX10_one_42 : decode cX10_one 42 = .ok (.iload_n 2, 1) := by decide +kernel
theorem dX10_one_43 : decode cX10_one 43 = .ok (.iaload, 1) := by decide +kernel
theorem dX10_one_44 : decode cX10_one 44 = .ok (.if_icmp .ne 5, 3) := by decide +kernel
theorem dX10_one_47 : decode cX10_one 47 = .ok (.iconst 0, 1) := by decide +kernel
theorem dX10_one_48 : decode cX10_one 48 = .ok (.ireturn, 1) := by decide +kernel
theorem dX10_one_49 : decode cX10_one 49 = .ok (.aload_n 0, 1) := by decide +kernel
theorem dX10_one_50 : decode cX10_one 50 = .ok (.getfield 48, 3) := by decide +kernel
theorem dX10_one_53 : decode cX10_one 53 = .ok (.aload_n 0, 1) := by decide +kernel
theorem dX10_one_54 : decode cX10_one 54 = .ok (.getfield 152, 3) := by decide +kernel
theorem dX10_one_57 : decode cX10_one 57 = .ok (.iload_n 1, 1) := by decide +kernel
theorem dX10_one_58 : decode cX10_one 58 = .ok (.iastore, 1) := by decide +kernel
theorem dX10_one_59 : decode cX10_one 59 = .ok (.aload_n 0, 1) := by decide +kernel
theorem dX10_one_60 : decode cX10_one 60 = .ok (.getfield 51, 3) := by decide +kernel
theorem dX10_one_63 : decode cX10_one 63 = .ok (.aload_n 0, 1) := by decide +kernel
theorem dX10_one_64 : decode cX10_one 64 = .ok (.getfield 152, 3) := by decide +kernel
theorem dX10_one_67 : decode cX10_one 67 = .ok (.iload_n 2, 1) := by decide +kernel
theorem dX10_one_68 : decode cX10_one 68 = .ok (.iastore, 1) := by decide +kernel
theorem dX10_one_69 : decode cX10_one 69 = .ok (.aload_n 0, 1) := by decide +kernel
theorem dX10_one_70 : decode cX10_one 70 = .ok (.dup, 1) := by decide +kernel
theorem dX10_one_71 : decode cX10_one 71 = .ok (.getfield 152, 3) := by decide +kernel
theorem dX10_one_74 : decode cX10_one 74 = .ok (.iconst 1, 1) := by decide +kernel
theorem dX10_one_75 : decode cX10_one 75 = .ok (.iadd, 1) := by decide +kernel
theorem dX10_one_76 : decode cX10_one 76 = .ok (.putfield 152, 3) := by decide +kernel
theorem dX10_one_79 : decode cX10_one 79 = .ok (.aload_n 0, 1) := by decide +kernel
theorem dX10_one_80 : decode cX10_one 80 = .ok (.invokevirtual 101, 3) := by decide +kernel
theorem dX10_one_83 : decode cX10_one 83 = .ok (.iconst 1, 1) := by decide +kernel
theorem dX10_one_84 : decode cX10_one 84 = .ok (.ireturn, 1) := by decide +kernel
theorem dX10_part_0 : decode cX10_part 0 = .ok (.aload_n 0, 1) := by decide +kernel
theorem dX10_part_1 : decode cX10_part 1 = .ok (.iconst 0, 1) := by decide +kernel
theorem dX10_part_2 : decode cX10_part 2 = .ok (.putfield 3, 3) := by decide +kernel
theorem dX10_part_5 : decode cX10_part 5 = .ok (.aload_n 0, 1) := by decide +kernel
theorem dX10_part_6 : decode cX10_part 6 = .ok (.getfield 152, 3) := by decide +kernel
theorem dX10_part_9 : decode cX10_part 9 = .ok (.ifCond .ne 5, 3) := by decide +kernel
theorem dX10_part_12 : decode cX10_part 12 = .ok (.iconst 0, 1) := by decide +kernel
theorem dX10_part_13 : decode cX10_part 13 = .ok (.ireturn, 1) := by decide +kernel
theorem dX10_part_14 : decode cX10_part 14 = .ok (.aload_n 0, 1) := by decide +kernel
theorem dX10_part_15 : decode cX10_part 15 = .ok (.dup, 1) := by decide +kernel
theorem dX10_part_16 : decode cX10_part 16 = .ok (.getfield 152, 3) := by decide +kernel
theorem dX10_part_19 : decode cX10_part 19 = .ok (.iconst 1, 1) := by decide +kernel
theorem dX10_part_20 : decode cX10_part 20 = .ok (.isub, 1) := by decide +kernel
theorem dX10_part_21 : decode cX10_part 21 = .ok (.putfield 152, 3) := by decide +kernel
theorem dX10_part_24 : decode cX10_part 24 = .ok (.aload_n 0, 1) := by decide +kernel
theorem dX10_part_25 : decode cX10_part 25 = .ok (.invokevirtual 101, 3) := by decide +kernel
theorem dX10_part_28 : decode cX10_part 28 = .ok (.iconst 1, 1) := by decide +kernel
theorem dX10_part_29 : decode cX10_part 29 = .ok (.ireturn, 1) := by decide +kernel
theorem dX10_as_0 : decode cX10_as 0 = .ok (.aload_n 0, 1) := by decide +kernel
theorem dX10_as_1 : decode cX10_as 1 = .ok (.iconst 0, 1) := by decide +kernel
theorem dX10_as_2 : decode cX10_as 2 = .ok (.putfield 3, 3) := by decide +kernel
theorem dX10_as_5 : decode cX10_as 5 = .ok (.aload_n 0, 1) := by decide +kernel
theorem dX10_as_6 : decode cX10_as 6 = .ok (.iload_n 1, 1) := by decide +kernel
theorem dX10_as_7 : decode cX10_as 7 = .ok (.invokestatic 125, 3) := by decide +kernel
theorem dX10_as_10 : decode cX10_as 10 = .ok (.iconst 1, 1) := by decide +kernel
theorem dX10_as_11 : decode cX10_as 11 = .ok (.invokevirtual 118, 3) := by decide +kernel
theorem dX10_as_14 : decode cX10_as 14 = .ok (.ifCond .eq 7, 3) := by decide +kernel
theorem dX10_as_17 : decode cX10_as 17 = .ok (.iconst 0, 1) := by decide +kernel
theorem dX10_as_18 : decode cX10_as 18 = .ok (.goto 9, 3) := by decide +kernel
theorem dX10_as_21 : decode cX10_as 21 = .ok (.aload_n 0, 1) := by decide +kernel
theorem dX10_as_22 : decode cX10_as 22 = .ok (.getfield 45, 3) := by decide +kernel
theorem dX10_as_25 : decode cX10_as 25 = .ok (.iload_n 1, 1) := by decide +kernel
theorem dX10_as_26 : decode cX10_as 26 = .ok (.iaload, 1) := by decide +kernel
theorem dX10_as_27 : decode cX10_as 27 = .ok (.ireturn, 1) := by decide +kernel
theorem dX10_feed_0 : decode cX10_feed 0 = .ok (.aload_n 0, 1) := by decide +kernel
theorem dX10_feed_1 : decode cX10_feed 1 = .ok (.iconst 0, 1) := by decide +kernel
theorem dX10_feed_2 : decode cX10_feed 2 = .ok (.putfield 3, 3) := by decide +kernel
theorem dX10_feed_5 : decode cX10_feed 5 = .ok (.aload_n 0, 1) := by decide +kernel
theorem dX10_feed_6 : decode cX10_feed 6 = .ok (.getfield 158, 3) := by decide +kernel
theorem dX10_feed_9 : decode cX10_feed 9 = .ok (.bipush 20, 2) := by decide +kernel
theorem dX10_feed_11 : decode cX10_feed 11 = .ok (.iadd, 1) := by decide +kernel
theorem dX10_feed_12 : decode cX10_feed 12 = .ok (.sipush 400, 3) := by decide +kernel
theorem dX10_feed_15 : decode cX10_feed 15 = .ok (.if_icmp .le 5, 3) := by decide +kernel
theorem dX10_feed_18 : decode cX10_feed 18 = .ok (.iconst (-1), 1) := by decide +kernel
theorem dX10_feed_19 : decode cX10_feed 19 = .ok (.ireturn, 1) := by decide +kernel
theorem dX10_feed_20 : decode cX10_feed 20 = .ok (.aload_n 0, 1) := by decide +kernel
theorem dX10_feed_21 : decode cX10_feed 21 = .ok (.getfield 79, 3) := by decide +kernel
theorem dX10_feed_24 : decode cX10_feed 24 = .ok (.iconst 0, 1) := by decide +kernel
theorem dX10_feed_25 : decode cX10_feed 25 = .ok (.iload_n 1, 1) := by decide +kernel
theorem dX10_feed_26 : decode cX10_feed 26 = .ok (.iastore, 1) := by decide +kernel
theorem dX10_feed_27 : decode cX10_feed 27 = .ok (.aload_n 0, 1) := by decide +kernel
theorem dX10_feed_28 : decode cX10_feed 28 = .ok (.getfield 79, 3) := by decide +kernel
theorem dX10_feed_31 : decode cX10_feed 31 = .ok (.iconst 1, 1) := by decide +kernel
theorem dX10_feed_32 : decode cX10_feed 32 = .ok (.iload_n 2, 1) := by decide +kernel
theorem dX10_feed_33 : decode cX10_feed 33 = .ok (.iastore, 1) := by decide +kernel
theorem dX10_feed_34 : decode cX10_feed 34 = .ok (.aload_n 0, 1) := by decide +kernel
theorem dX10_feed_35 : decode cX10_feed 35 = .ok (.getfield 79, 3) := by decide +kernel
theorem dX10_feed_38 : decode cX10_feed 38 = .ok (.iconst 2, 1) := by decide +kernel
theorem dX10_feed_39 : decode cX10_feed 39 = .ok (.iload_n 3, 1) := by decide +kernel
theorem dX10_feed_40 : decode cX10_feed 40 = .ok (.iastore, 1) := by decide +kernel
theorem dX10_feed_41 : decode cX10_feed 41 = .ok (.aload_n 0, 1) := by decide +kernel
theorem dX10_feed_42 : decode cX10_feed 42 = .ok (.getfield 79, 3) := by decide +kernel
theorem dX10_feed_45 : decode cX10_feed 45 = .ok (.iconst 3, 1) := by decide +kernel
theorem dX10_feed_46 : decode cX10_feed 46 = .ok (.iload 4, 2) := by decide +kernel
theorem dX10_feed_48 : decode cX10_feed 48 = .ok (.iastore, 1) := by decide +kernel
theorem dX10_feed_49 : decode cX10_feed 49 = .ok (.aload_n 0, 1) := by decide +kernel
theorem dX10_feed_50 : decode cX10_feed 50 = .ok (.getfield 79, 3) := by decide +kernel
theorem dX10_feed_53 : decode cX10_feed 53 = .ok (.iconst 4, 1) := by decide +kernel
theorem dX10_feed_54 : decode cX10_feed 54 = .ok (.iload 5, 2) := by decide +kernel
theorem dX10_feed_56 : decode cX10_feed 56 = .ok (.iastore, 1) := by decide +kernel
theorem dX10_feed_57 : decode cX10_feed 57 = .ok (.iconst 0, 1) := by decide +kernel
theorem dX10_feed_58 : decode cX10_feed 58 = .ok (.istore 6, 2) := by decide +kernel
theorem dX10_feed_60 : decode cX10_feed 60 = .ok (.iload 6, 2) := by decide +kernel
theorem dX10_feed_62 : decode cX10_feed 62 = .ok (.bipush 20, 2) := by decide +kernel
theorem dX10_feed_64 : decode cX10_feed 64 = .ok (.if_icmp .ge 42, 3) := by decide +kernel
theorem dX10_feed_67 : decode cX10_feed 67 = .ok (.aload_n 0, 1) := by decide +kernel
theorem dX10_feed_68 : decode cX10_feed 68 = .ok (.getfield 72, 3) := by decide +kernel
theorem dX10_feed_71 : decode cX10_feed 71 = .ok (.aload_n 0, 1) := by decide +kernel
theorem dX10_feed_72 : decode cX10_feed 72 = .ok (.getfield 158, 3) := by decide +kernel
theorem dX10_feed_75 : decode cX10_feed 75 = .ok (.iload 6, 2) := by decide +kernel
theorem dX10_feed_77 : decode cX10_feed 77 = .ok (.iadd, 1) := by decide +kernel
theorem dX10_feed_78 : decode cX10_feed 78 = .ok (.aload_n 0, 1) := by decide +kernel
theorem dX10_feed_79 : decode cX10_feed 79 = .ok (.getfield 79, 3) := by decide +kernel
theorem dX10_feed_82 : decode cX10_feed 82 = .ok (.iload 6, 2) := by decide +kernel
theorem dX10_feed_84 : decode cX10_feed 84 = .ok (.iconst 4, 1) := by decide +kernel
theorem dX10_feed_85 : decode cX10_feed 85 = .ok (.idiv, 1) := by decide +kernel
theorem dX10_feed_86 : decode cX10_feed 86 = .ok (.iaload, 1) := by decide +kernel
theorem dX10_feed_87 : decode cX10_feed 87 = .ok (.bipush 24, 2) := by decide +kernel
theorem dX10_feed_89 : decode cX10_feed 89 = .ok (.bipush 8, 2) := by decide +kernel
theorem dX10_feed_91 : decode cX10_feed 91 = .ok (.iload 6, 2) := by decide +kernel
theorem dX10_feed_93 : decode cX10_feed 93 = .ok (.iconst 4, 1) := by decide +kernel
theorem dX10_feed_94 : decode cX10_feed 94 = .ok (.irem, 1) := by decide +kernel
theorem dX10_feed_95 : decode cX10_feed 95 = .ok (.imul, 1) := by decide +kernel
theorem dX10_feed_96 : decode cX10_feed 96 = .ok (.isub, 1) := by decide +kernel
theorem dX10_feed_97 : decode cX10_feed 97 = .ok (.ishr, 1) := by decide +kernel
theorem dX10_feed_98 : decode cX10_feed 98 = .ok (.i2b, 1) := by decide +kernel
theorem dX10_feed_99 : decode cX10_feed 99 = .ok (.bastore, 1) := by decide +kernel
theorem dX10_feed_100 : decode cX10_feed 100 = .ok (.iinc 6 1, 3) := by decide +kernel
theorem dX10_feed_103 : decode cX10_feed 103 = .ok (.goto (-43), 3) := by decide +kernel
theorem dX10_feed_106 : decode cX10_feed 106 = .ok (.aload_n 0, 1) := by decide +kernel
theorem dX10_feed_107 : decode cX10_feed 107 = .ok (.dup, 1) := by decide +kernel
theorem dX10_feed_108 : decode cX10_feed 108 = .ok (.getfield 158, 3) := by decide +kernel
theorem dX10_feed_111 : decode cX10_feed 111 = .ok (.bipush 20, 2) := by decide +kernel
theorem dX10_feed_113 : decode cX10_feed 113 = .ok (.iadd, 1) := by decide +kernel
theorem dX10_feed_114 : decode cX10_feed 114 = .ok (.putfield 158, 3) := by decide +kernel
theorem dX10_feed_117 : decode cX10_feed 117 = .ok (.aload_n 0, 1) := by decide +kernel
theorem dX10_feed_118 : decode cX10_feed 118 = .ok (.getfield 158, 3) := by decide +kernel
theorem dX10_feed_121 : decode cX10_feed 121 = .ok (.ireturn, 1) := by decide +kernel
theorem dX10_end_0 : decode cX10_end 0 = .ok (.aload_n 0, 1) := by decide +kernel
theorem dX10_end_1 : decode cX10_end 1 = .ok (.iconst 0, 1) := by decide +kernel
theorem dX10_end_2 : decode cX10_end 2 = .ok (.putfield 3, 3) := by decide +kernel
theorem dX10_end_5 : decode cX10_end 5 = .ok (.iload_n 1, 1) := by decide +kernel
theorem dX10_end_6 : decode cX10_end 6 = .ok (.ifCond .lt 11, 3) := by decide +kernel
theorem dX10_end_9 : decode cX10_end 9 = .ok (.iload_n 1, 1) := by decide +kernel
theorem dX10_end_10 : decode cX10_end 10 = .ok (.aload_n 0, 1) := by decide +kernel
theorem dX10_end_11 : decode cX10_end 11 = .ok (.getfield 158, 3) := by decide +kernel
theorem dX10_end_14 : decode cX10_end 14 = .ok (.if_icmp .le 5, 3) := by decide +kernel
theorem dX10_end_17 : decode cX10_end 17 = .ok (.iconst 0, 1) := by decide +kernel
theorem dX10_end_18 : decode cX10_end 18 = .ok (.ireturn, 1) := by decide +kernel
theorem dX10_end_19 : decode cX10_end 19 = .ok (.aload_n 0, 1) := by decide +kernel
theorem dX10_end_20 : decode cX10_end 20 = .ok (.iload_n 1, 1) := by decide +kernel
theorem dX10_end_21 : decode cX10_end 21 = .ok (.putfield 158, 3) := by decide +kernel
theorem dX10_end_24 : decode cX10_end 24 = .ok (.iconst 1, 1) := by decide +kernel
theorem dX10_end_25 : decode cX10_end 25 = .ok (.ireturn, 1) := by decide +kernel
theorem dX10_isAt_0 : decode cX10_isAt 0 = .ok (.aload_n 0, 1) := by decide +kernel
theorem dX10_isAt_1 : decode cX10_isAt 1 = .ok (.getfield 161, 3) := by decide +kernel
theorem dX10_isAt_4 : decode cX10_isAt 4 = .ok (.aload_n 0, 1) := by decide +kernel
theorem dX10_isAt_5 : decode cX10_isAt 5 = .ok (.getfield 164, 3) := by decide +kernel
theorem dX10_isAt_8 : decode cX10_isAt 8 = .ok (.if_icmp .ge 33, 3) := by decide +kernel
theorem dX10_isAt_11 : decode cX10_isAt 11 = .ok (.aload_n 0, 1) := by decide +kernel
theorem dX10_isAt_12 : decode cX10_isAt 12 = .ok (.getfield 72, 3) := by decide +kernel
theorem dX10_isAt_15 : decode cX10_isAt 15 = .ok (.aload_n 0, 1) := by decide +kernel
theorem dX10_isAt_16 : decode cX10_isAt 16 = .ok (.getfield 161, 3) := by decide +kernel
theorem dX10_isAt_19 : decode cX10_isAt 19 = .ok (.baload, 1) := by decide +kernel
theorem dX10_isAt_20 : decode cX10_isAt 20 = .ok (.iload_n 1, 1) := by decide +kernel
theorem dX10_isAt_21 : decode cX10_isAt 21 = .ok (.if_icmp .lt 20, 3) := by decide +kernel
theorem dX10_isAt_24 : decode cX10_isAt 24 = .ok (.aload_n 0, 1) := by decide +kernel
theorem dX10_isAt_25 : decode cX10_isAt 25 = .ok (.getfield 72, 3) := by decide +kernel
theorem dX10_isAt_28 : decode cX10_isAt 28 = .ok (.aload_n 0, 1) := by decide +kernel
theorem dX10_isAt_29 : decode cX10_isAt 29 = .ok (.getfield 161, 3) := by decide +kernel
theorem dX10_isAt_32 : decode cX10_isAt 32 = .ok (.baload, 1) := by decide +kernel
theorem dX10_isAt_33 : decode cX10_isAt 33 = .ok (.iload_n 2, 1) := by decide +kernel
theorem dX10_isAt_34 : decode cX10_isAt 34 = .ok (.if_icmp .gt 7, 3) := by decide +kernel
theorem dX10_isAt_37 : decode cX10_isAt 37 = .ok (.iconst 1, 1) := by decide +kernel
theorem dX10_isAt_38 : decode cX10_isAt 38 = .ok (.goto 4, 3) := by decide +kernel
theorem dX10_isAt_41 : decode cX10_isAt 41 = .ok (.iconst 0, 1) := by decide +kernel
theorem dX10_isAt_42 : decode cX10_isAt 42 = .ok (.ireturn, 1) := by decide +kernel
theorem dX10_blanks_0 : decode cX10_blanks 0 = .ok (.aload_n 0, 1) := by decide +kernel
theorem dX10_blanks_1 : decode cX10_blanks 1 = .ok (.bipush 32, 2) := by decide +kernel
theorem dX10_blanks_3 : decode cX10_blanks 3 = .ok (.bipush 32, 2) := by decide +kernel
theorem dX10_blanks_5 : decode cX10_blanks 5 = .ok (.invokevirtual 167, 3) := by decide +kernel
theorem dX10_blanks_8 : decode cX10_blanks 8 = .ok (.ifCond .eq 16, 3) := by decide +kernel
theorem dX10_blanks_11 : decode cX10_blanks 11 = .ok (.aload_n 0, 1) := by decide +kernel
theorem dX10_blanks_12 : decode cX10_blanks 12 = .ok (.dup, 1) := by decide +kernel
theorem dX10_blanks_13 : decode cX10_blanks 13 = .ok (.getfield 161, 3) := by decide +kernel
theorem dX10_blanks_16 : decode cX10_blanks 16 = .ok (.iconst 1, 1) := by decide +kernel
theorem dX10_blanks_17 : decode cX10_blanks 17 = .ok (.iadd, 1) := by decide +kernel
theorem dX10_blanks_18 : decode cX10_blanks 18 = .ok (.putfield 161, 3) := by decide +kernel
theorem dX10_blanks_21 : decode cX10_blanks 21 = .ok (.goto (-21), 3) := by decide +kernel
theorem dX10_blanks_24 : decode cX10_blanks 24 = .ok (.aload_n 0, 1) := by decide +kernel
theorem dX10_blanks_25 : decode cX10_blanks 25 = .ok (.aload_n 0, 1) := by decide +kernel
theorem dX10_blanks_26 : decode cX10_blanks 26 = .ok (.getfield 161, 3) := by decide +kernel
theorem dX10_blanks_29 : decode cX10_blanks 29 = .ok (.putfield 170, 3) := by decide +kernel
theorem dX10_blanks_32 : decode cX10_blanks 32 = .ok (.return_, 1) := by decide +kernel
theorem dX10_word_0 : decode cX10_word 0 = .ok (.aload_n 0, 1) := by decide +kernel
theorem dX10_word_1 : decode cX10_word 1 = .ok (.invokevirtual 173, 3) := by decide +kernel
theorem dX10_word_4 : decode cX10_word 4 = .ok (.aload_n 0, 1) := by decide +kernel
theorem dX10_word_5 : decode cX10_word 5 = .ok (.bipush 97, 2) := by decide +kernel
theorem dX10_word_7 : decode cX10_word 7 = .ok (.bipush 122, 2) := by decide +kernel
theorem dX10_word_9 : decode cX10_word 9 = .ok (.invokevirtual 167, 3) := by decide +kernel
theorem dX10_word_12 : decode cX10_word 12 = .ok (.ifCond .eq 16, 3) := by decide +kernel
theorem dX10_word_15 : decode cX10_word 15 = .ok (.aload_n 0, 1) := by decide +kernel
theorem dX10_word_16 : decode cX10_word 16 = .ok (.dup, 1) := by decide +kernel
theorem dX10_word_17 : decode cX10_word 17 = .ok (.getfield 161, 3) := by decide +kernel
theorem dX10_word_20 : decode cX10_word 20 = .ok (.iconst 1, 1) := by decide +kernel
theorem dX10_word_21 : decode cX10_word 21 = .ok (.iadd, 1) := by decide +kernel
theorem dX10_word_22 : decode cX10_word 22 = .ok (.putfield 161, 3) := by decide +kernel
theorem dX10_word_25 : decode cX10_word 25 = .ok (.goto (-21), 3) := by decide +kernel
theorem dX10_word_28 : decode cX10_word 28 = .ok (.return_, 1) := by decide +kernel
theorem dX10_isWord_0 : decode cX10_isWord 0 = .ok (.aload_n 0, 1) := by decide +kernel
theorem dX10_isWord_1 : decode cX10_isWord 1 = .ok (.getfield 161, 3) := by decide +kernel
theorem dX10_isWord_4 : decode cX10_isWord 4 = .ok (.aload_n 0, 1) := by decide +kernel
theorem dX10_isWord_5 : decode cX10_isWord 5 = .ok (.getfield 170, 3) := by decide +kernel
theorem dX10_isWord_8 : decode cX10_isWord 8 = .ok (.isub, 1) := by decide +kernel
theorem dX10_isWord_9 : decode cX10_isWord 9 = .ok (.aload_n 1, 1) := by decide +kernel
theorem dX10_isWord_10 : decode cX10_isWord 10 = .ok (.invokevirtual 176, 3) := by decide +kernel
theorem dX10_isWord_13 : decode cX10_isWord 13 = .ok (.if_icmp .ne 7, 3) := by decide +kernel
theorem dX10_isWord_16 : decode cX10_isWord 16 = .ok (.iconst 1, 1) := by decide +kernel
theorem dX10_isWord_17 : decode cX10_isWord 17 = .ok (.goto 4, 3) := by decide +kernel
theorem dX10_isWord_20 : decode cX10_isWord 20 = .ok (.iconst 0, 1) := by decide +kernel
theorem dX10_isWord_21 : decode cX10_isWord 21 = .ok (.istore_n 2, 1) := by decide +kernel
theorem dX10_isWord_22 : decode cX10_isWord 22 = .ok (.iconst 0, 1) := by decide +kernel
theorem dX10_isWord_23 : decode cX10_isWord 23 = .ok (.istore_n 3, 1) := by decide +kernel
theorem dX10_isWord_24 : decode cX10_isWord 24 = .ok (.iload_n 2, 1) := by decide +kernel
theorem dX10_isWord_25 : decode cX10_isWord 25 = .ok (.ifCond .eq 42, 3) := by decide +kernel
theorem dX10_isWord_28 : decode cX10_isWord 28 = .ok (.iload_n 3, 1) := by decide +kernel
theorem dX10_isWord_29 : decode cX10_isWord 29 = .ok (.aload_n 1, 1) := by decide +kernel
theorem dX10_isWord_30 : decode cX10_isWord 30 = .ok (.invokevirtual 176, 3) := by decide +kernel
theorem dX10_isWord_33 : decode cX10_isWord 33 = .ok (.if_icmp .ge 34, 3) := by decide +kernel
theorem dX10_isWord_36 : decode cX10_isWord 36 = .ok (.aload_n 0, 1) := by decide +kernel
theorem dX10_isWord_37 : decode cX10_isWord 37 = .ok (.getfield 72, 3) := by decide +kernel
theorem dX10_isWord_40 : decode cX10_isWord 40 = .ok (.aload_n 0, 1) := by decide +kernel
theorem dX10_isWord_41 : decode cX10_isWord 41 = .ok (.getfield 170, 3) := by decide +kernel
theorem dX10_isWord_44 : decode cX10_isWord 44 = .ok (.iload_n 3, 1) := by decide +kernel
theorem dX10_isWord_45 : decode cX10_isWord 45 = .ok (.iadd, 1) := by decide +kernel
theorem dX10_isWord_46 : decode cX10_isWord 46 = .ok (.baload, 1) := by decide +kernel
theorem dX10_isWord_47 : decode cX10_isWord 47 = .ok (.aload_n 1, 1) := by decide +kernel
theorem dX10_isWord_48 : decode cX10_isWord 48 = .ok (.iload_n 3, 1) := by decide +kernel
theorem dX10_isWord_49 : decode cX10_isWord 49 = .ok (.invokevirtual 182, 3) := by decide +kernel
theorem dX10_isWord_52 : decode cX10_isWord 52 = .ok (.if_icmp .ne 7, 3) := by decide +kernel
theorem dX10_isWord_55 : decode cX10_isWord 55 = .ok (.iconst 1, 1) := by decide +kernel
theorem dX10_isWord_56 : decode cX10_isWord 56 = .ok (.goto 4, 3) := by decide +kernel
theorem dX10_isWord_59 : decode cX10_isWord 59 = .ok (.iconst 0, 1) := by decide +kernel
theorem dX10_isWord_60 : decode cX10_isWord 60 = .ok (.istore_n 2, 1) := by decide +kernel
theorem dX10_isWord_61 : decode cX10_isWord 61 = .ok (.iinc 3 1, 3) := by decide +kernel
theorem dX10_isWord_64 : decode cX10_isWord 64 = .ok (.goto (-40), 3) := by decide +kernel
theorem dX10_isWord_67 : decode cX10_isWord 67 = .ok (.iload_n 2, 1) := by decide +kernel
theorem dX10_isWord_68 : decode cX10_isWord 68 = .ok (.ireturn, 1) := by decide +kernel
theorem dX10_sign_0 : decode cX10_sign 0 = .ok (.aload_n 0, 1) := by decide +kernel
theorem dX10_sign_1 : decode cX10_sign 1 = .ok (.invokevirtual 173, 3) := by decide +kernel
theorem dX10_sign_4 : decode cX10_sign 4 = .ok (.aload_n 0, 1) := by decide +kernel
theorem dX10_sign_5 : decode cX10_sign 5 = .ok (.iload_n 1, 1) := by decide +kernel
theorem dX10_sign_6 : decode cX10_sign 6 = .ok (.iload_n 1, 1) := by decide +kernel
theorem dX10_sign_7 : decode cX10_sign 7 = .ok (.invokevirtual 167, 3) := by decide +kernel
theorem dX10_sign_10 : decode cX10_sign 10 = .ok (.ifCond .ne 5, 3) := by decide +kernel
theorem dX10_sign_13 : decode cX10_sign 13 = .ok (.iconst 0, 1) := by decide +kernel
theorem dX10_sign_14 : decode cX10_sign 14 = .ok (.ireturn, 1) := by decide +kernel
theorem dX10_sign_15 : decode cX10_sign 15 = .ok (.aload_n 0, 1) := by decide +kernel
theorem dX10_sign_16 : decode cX10_sign 16 = .ok (.dup, 1) := by decide +kernel
theorem dX10_sign_17 : decode cX10_sign 17 = .ok (.getfield 161, 3) := by decide +kernel
theorem dX10_sign_20 : decode cX10_sign 20 = .ok (.iconst 1, 1) := by decide +kernel
theorem dX10_sign_21 : decode cX10_sign 21 = .ok (.iadd, 1) := by decide +kernel
theorem dX10_sign_22 : decode cX10_sign 22 = .ok (.putfield 161, 3) := by decide +kernel
theorem dX10_sign_25 : decode cX10_sign 25 = .ok (.iconst 1, 1) := by decide +kernel
theorem dX10_sign_26 : decode cX10_sign 26 = .ok (.ireturn, 1) := by decide +kernel
theorem dX10_number_0 : decode cX10_number 0 = .ok (.aload_n 0, 1) := by decide +kernel
theorem dX10_number_1 : decode cX10_number 1 = .ok (.invokevirtual 173, 3) := by decide +kernel
theorem dX10_number_4 : decode cX10_number 4 = .ok (.iconst 0, 1) := by decide +kernel
theorem dX10_number_5 : decode cX10_number 5 = .ok (.istore_n 2, 1) := by decide +kernel
theorem dX10_number_6 : decode cX10_number 6 = .ok (.aload_n 0, 1) := by decide +kernel
theorem dX10_number_7 : decode cX10_number 7 = .ok (.bipush 48, 2) := by decide +kernel
theorem dX10_number_9 : decode cX10_number 9 = .ok (.bipush 57, 2) := by decide +kernel
theorem dX10_number_11 : decode cX10_number 11 = .ok (.invokevirtual 167, 3) := by decide +kernel
theorem dX10_number_14 : decode cX10_number 14 = .ok (.ifCond .eq 51, 3) := by decide +kernel
theorem dX10_number_17 : decode cX10_number 17 = .ok (.aload_n 0, 1) := by decide +kernel
theorem dX10_number_18 : decode cX10_number 18 = .ok (.getfield 161, 3) := by decide +kernel
theorem dX10_number_21 : decode cX10_number 21 = .ok (.aload_n 0, 1) := by decide +kernel
theorem dX10_number_22 : decode cX10_number 22 = .ok (.getfield 170, 3) := by decide +kernel
theorem dX10_number_25 : decode cX10_number 25 = .ok (.isub, 1) := by decide +kernel
theorem dX10_number_26 : decode cX10_number 26 = .ok (.iconst 2, 1) := by decide +kernel
theorem dX10_number_27 : decode cX10_number 27 = .ok (.if_icmp .ge 23, 3) := by decide +kernel
theorem dX10_number_30 : decode cX10_number 30 = .ok (.bipush 10, 2) := by decide +kernel
theorem dX10_number_32 : decode cX10_number 32 = .ok (.iload_n 2, 1) := by decide +kernel
theorem dX10_number_33 : decode cX10_number 33 = .ok (.imul, 1) := by decide +kernel
theorem dX10_number_34 : decode cX10_number 34 = .ok (.aload_n 0, 1) := by decide +kernel
theorem dX10_number_35 : decode cX10_number 35 = .ok (.getfield 72, 3) := by decide +kernel
theorem dX10_number_38 : decode cX10_number 38 = .ok (.aload_n 0, 1) := by decide +kernel
theorem dX10_number_39 : decode cX10_number 39 = .ok (.getfield 161, 3) := by decide +kernel
theorem dX10_number_42 : decode cX10_number 42 = .ok (.baload, 1) := by decide +kernel
theorem dX10_number_43 : decode cX10_number 43 = .ok (.iadd, 1) := by decide +kernel
theorem dX10_number_44 : decode cX10_number 44 = .ok (.bipush 48, 2) := by decide +kernel
theorem dX10_number_46 : decode cX10_number 46 = .ok (.isub, 1) := by decide +kernel
theorem dX10_number_47 : decode cX10_number 47 = .ok (.goto 4, 3) := by decide +kernel
theorem dX10_number_50 : decode cX10_number 50 = .ok (.iload_n 2, 1) := by decide +kernel
theorem dX10_number_51 : decode cX10_number 51 = .ok (.istore_n 2, 1) := by decide +kernel
theorem dX10_number_52 : decode cX10_number 52 = .ok (.aload_n 0, 1) := by decide +kernel
theorem dX10_number_53 : decode cX10_number 53 = .ok (.dup, 1) := by decide +kernel
theorem dX10_number_54 : decode cX10_number 54 = .ok (.getfield 161, 3) := by decide +kernel
theorem dX10_number_57 : decode cX10_number 57 = .ok (.iconst 1, 1) := by decide +kernel
theorem dX10_number_58 : decode cX10_number 58 = .ok (.iadd, 1) := by decide +kernel
theorem dX10_number_59 : decode cX10_number 59 = .ok (.putfield 161, 3) := by decide +kernel
theorem dX10_number_62 : decode cX10_number 62 = .ok (.goto (-56), 3) := by decide +kernel
theorem dX10_number_65 : decode cX10_number 65 = .ok (.aload_n 0, 1) := by decide +kernel
theorem dX10_number_66 : decode cX10_number 66 = .ok (.getfield 161, 3) := by decide +kernel
theorem dX10_number_69 : decode cX10_number 69 = .ok (.aload_n 0, 1) := by decide +kernel
theorem dX10_number_70 : decode cX10_number 70 = .ok (.getfield 170, 3) := by decide +kernel
theorem dX10_number_73 : decode cX10_number 73 = .ok (.if_icmp .eq 21, 3) := by decide +kernel
theorem dX10_number_76 : decode cX10_number 76 = .ok (.aload_n 0, 1) := by decide +kernel
theorem dX10_number_77 : decode cX10_number 77 = .ok (.getfield 161, 3) := by decide +kernel
theorem dX10_number_80 : decode cX10_number 80 = .ok (.aload_n 0, 1) := by decide +kernel
theorem dX10_number_81 : decode cX10_number 81 = .ok (.getfield 170, 3) := by decide +kernel
theorem dX10_number_84 : decode cX10_number 84 = .ok (.isub, 1) := by decide +kernel
theorem dX10_number_85 : decode cX10_number 85 = .ok (.iconst 2, 1) := by decide +kernel
theorem dX10_number_86 : decode cX10_number 86 = .ok (.if_icmp .gt 8, 3) := by decide +kernel
theorem dX10_number_89 : decode cX10_number 89 = .ok (.iload_n 2, 1) := by decide +kernel
theorem dX10_number_90 : decode cX10_number 90 = .ok (.iload_n 1, 1) := by decide +kernel
theorem dX10_number_91 : decode cX10_number 91 = .ok (.if_icmp .le 7, 3) := by decide +kernel
theorem dX10_number_94 : decode cX10_number 94 = .ok (.iconst (-1), 1) := by decide +kernel
theorem dX10_number_95 : decode cX10_number 95 = .ok (.goto 4, 3) := by decide +kernel
theorem dX10_number_98 : decode cX10_number 98 = .ok (.iload_n 2, 1) := by decide +kernel
theorem dX10_number_99 : decode cX10_number 99 = .ok (.ireturn, 1) := by decide +kernel
theorem dX10_readPart_0 : decode cX10_readPart 0 = .ok (.iconst 4, 1) := by decide +kernel
theorem dX10_readPart_1 : decode cX10_readPart 1 = .ok (.iload_n 1, 1) := by decide +kernel
theorem dX10_readPart_2 : decode cX10_readPart 2 = .ok (.imul, 1) := by decide +kernel
theorem dX10_readPart_3 : decode cX10_readPart 3 = .ok (.aload_n 0, 1) := by decide +kernel
theorem dX10_readPart_4 : decode cX10_readPart 4 = .ok (.getfield 63, 3) := by decide +kernel
theorem dX10_readPart_7 : decode cX10_readPart 7 = .ok (.iload_n 1, 1) := by decide +kernel
theorem dX10_readPart_8 : decode cX10_readPart 8 = .ok (.iaload, 1) := by decide +kernel
theorem dX10_readPart_9 : decode cX10_readPart 9 = .ok (.iadd, 1) := by decide +kernel
theorem dX10_readPart_10 : decode cX10_readPart 10 = .ok (.istore_n 2, 1) := by decide +kernel
theorem dX10_readPart_11 : decode cX10_readPart 11 = .ok (.aload_n 0, 1) := by decide +kernel
theorem dX10_readPart_12 : decode cX10_readPart 12 = .ok (.invokevirtual 186, 3) := by decide +kernel
theorem dX10_readPart_15 : decode cX10_readPart 15 = .ok (.aload_n 0, 1) := by decide +kernel
theorem dX10_readPart_16 : decode cX10_readPart 16 = .ok (.ldc 189, 2) := by decide +kernel
theorem dX10_readPart_18 : decode cX10_readPart 18 = .ok (.invokevirtual 191, 3) := by decide +kernel
theorem dX10_readPart_21 : decode cX10_readPart 21 = .ok (.ifCond .ne 5, 3) := by decide +kernel
theorem dX10_readPart_24 : decode cX10_readPart 24 = .ok (.iconst 0, 1) := by decide +kernel
theorem dX10_readPart_25 : decode cX10_readPart 25 = .ok (.ireturn, 1) := by decide +kernel
theorem dX10_readPart_26 : decode cX10_readPart 26 = .ok (.aload_n 0, 1) := by decide +kernel
theorem dX10_readPart_27 : decode cX10_readPart 27 = .ok (.getfield 66, 3) := by decide +kernel
theorem dX10_readPart_30 : decode cX10_readPart 30 = .ok (.iload_n 2, 1) := by decide +kernel
theorem dX10_readPart_31 : decode cX10_readPart 31 = .ok (.aload_n 0, 1) := by decide +kernel
theorem dX10_readPart_32 : decode cX10_readPart 32 = .ok (.iconst 5, 1) := by decide +kernel
theorem dX10_readPart_33 : decode cX10_readPart 33 = .ok (.invokevirtual 195, 3) := by decide +kernel
theorem dX10_readPart_36 : decode cX10_readPart 36 = .ok (.iastore, 1) := by decide +kernel
theorem dX10_readPart_37 : decode cX10_readPart 37 = .ok (.aload_n 0, 1) := by decide +kernel
theorem dX10_readPart_38 : decode cX10_readPart 38 = .ok (.getfield 66, 3) := by decide +kernel
theorem dX10_readPart_41 : decode cX10_readPart 41 = .ok (.iload_n 2, 1) := by decide +kernel
theorem dX10_readPart_42 : decode cX10_readPart 42 = .ok (.iaload, 1) := by decide +kernel
theorem dX10_readPart_43 : decode cX10_readPart 43 = .ok (.ifCond .ge 5, 3) := by decide +kernel
theorem dX10_readPart_46 : decode cX10_readPart 46 = .ok (.iconst 0, 1) := by decide +kernel
theorem dX10_readPart_47 : decode cX10_readPart 47 = .ok (.ireturn, 1) := by decide +kernel
theorem dX10_readPart_48 : decode cX10_readPart 48 = .ok (.aload_n 0, 1) := by decide +kernel
theorem dX10_readPart_49 : decode cX10_readPart 49 = .ok (.invokevirtual 186, 3) := by decide +kernel
theorem dX10_readPart_52 : decode cX10_readPart 52 = .ok (.aload_n 0, 1) := by decide +kernel
theorem dX10_readPart_53 : decode cX10_readPart 53 = .ok (.ldc 199, 2) := by decide +kernel
theorem dX10_readPart_55 : decode cX10_readPart 55 = .ok (.invokevirtual 191, 3) := by decide +kernel
theorem dX10_readPart_58 : decode cX10_readPart 58 = .ok (.ifCond .eq 26, 3) := by decide +kernel
theorem dX10_readPart_61 : decode cX10_readPart 61 = .ok (.aload_n 0, 1) := by decide +kernel
theorem dX10_readPart_62 : decode cX10_readPart 62 = .ok (.getfield 69, 3) := by decide +kernel
theorem dX10_readPart_65 : decode cX10_readPart 65 = .ok (.iload_n 2, 1) := by decide +kernel
theorem dX10_readPart_66 : decode cX10_readPart 66 = .ok (.aload_n 0, 1) := by decide +kernel
theorem dX10_readPart_67 : decode cX10_readPart 67 = .ok (.bipush 39, 2) := by decide +kernel
theorem dX10_readPart_69 : decode cX10_readPart 69 = .ok (.invokevirtual 195, 3) := by decide +kernel
theorem dX10_readPart_72 : decode cX10_readPart 72 = .ok (.iastore, 1) := by decide +kernel
theorem dX10_readPart_73 : decode cX10_readPart 73 = .ok (.aload_n 0, 1) := by decide +kernel
theorem dX10_readPart_74 : decode cX10_readPart 74 = .ok (.getfield 69, 3) := by decide +kernel
theorem dX10_readPart_77 : decode cX10_readPart 77 = .ok (.iload_n 2, 1) := by decide +kernel
theorem dX10_readPart_78 : decode cX10_readPart 78 = .ok (.iaload, 1) := by decide +kernel
theorem dX10_readPart_79 : decode cX10_readPart 79 = .ok (.ifCond .ge 102, 3) := by decide +kernel
theorem dX10_readPart_82 : decode cX10_readPart 82 = .ok (.iconst 0, 1) := by decide +kernel
theorem dX10_readPart_83 : decode cX10_readPart 83 = .ok (.ireturn, 1) := by decide +kernel
theorem dX10_readPart_84 : decode cX10_readPart 84 = .ok (.aload_n 0, 1) := by decide +kernel
theorem dX10_readPart_85 : decode cX10_readPart 85 = .ok (.ldc 201, 2) := by decide +kernel
theorem dX10_readPart_87 : decode cX10_readPart 87 = .ok (.invokevirtual 191, 3) := by decide +kernel
theorem dX10_readPart_90 : decode cX10_readPart 90 = .ok (.ifCond .eq 7, 3) := by decide +kernel
theorem dX10_readPart_93 : decode cX10_readPart 93 = .ok (.iconst 0, 1) := by decide +kernel
theorem dX10_readPart_94 : decode cX10_readPart 94 = .ok (.goto 30, 3) := by decide +kernel
theorem dX10_readPart_97 : decode cX10_readPart 97 = .ok (.aload_n 0, 1) := by decide +kernel
theorem dX10_readPart_98 : decode cX10_readPart 98 = .ok (.ldc 203, 2) := by decide +kernel
theorem dX10_readPart_100 : decode cX10_readPart 100 = .ok (.invokevirtual 191, 3) := by decide +kernel
theorem dX10_readPart_103 : decode cX10_readPart 103 = .ok (.ifCond .eq 7, 3) := by decide +kernel
theorem dX10_readPart_106 : decode cX10_readPart 106 = .ok (.iconst 1, 1) := by decide +kernel
theorem dX10_readPart_107 : decode cX10_readPart 107 = .ok (.goto 17, 3) := by decide +kernel
theorem dX10_readPart_110 : decode cX10_readPart 110 = .ok (.aload_n 0, 1) := by decide +kernel
theorem dX10_readPart_111 : decode cX10_readPart 111 = .ok (.ldc 205, 2) := by decide +kernel
theorem dX10_readPart_113 : decode cX10_readPart 113 = .ok (.invokevirtual 191, 3) := by decide +kernel
theorem dX10_readPart_116 : decode cX10_readPart 116 = .ok (.ifCond .eq 7, 3) := by decide +kernel
theorem dX10_readPart_119 : decode cX10_readPart 119 = .ok (.iconst 2, 1) := by decide +kernel
theorem dX10_readPart_120 : decode cX10_readPart 120 = .ok (.goto 4, 3) := by decide +kernel
theorem dX10_readPart_123 : decode cX10_readPart 123 = .ok (.iconst (-1), 1) := by decide +kernel
theorem dX10_readPart_124 : decode cX10_readPart 124 = .ok (.istore_n 3, 1) := by decide +kernel
theorem dX10_readPart_125 : decode cX10_readPart 125 = .ok (.iload_n 3, 1) := by decide +kernel
theorem dX10_readPart_126 : decode cX10_readPart 126 = .ok (.ifCond .lt 23, 3) := by decide +kernel
theorem dX10_readPart_129 : decode cX10_readPart 129 = .ok (.aload_n 0, 1) := by decide +kernel
theorem dX10_readPart_130 : decode cX10_readPart 130 = .ok (.getfield 60, 3) := by decide +kernel
theorem dX10_readPart_133 : decode cX10_readPart 133 = .ok (.iload_n 1, 1) := by decide +kernel
theorem dX10_readPart_134 : decode cX10_readPart 134 = .ok (.baload, 1) := by decide +kernel
theorem dX10_readPart_135 : decode cX10_readPart 135 = .ok (.ifCond .eq 16, 3) := by decide +kernel
theorem dX10_readPart_138 : decode cX10_readPart 138 = .ok (.aload_n 0, 1) := by decide +kernel
theorem dX10_readPart_139 : decode cX10_readPart 139 = .ok (.getfield 207, 3) := by decide +kernel
theorem dX10_readPart_142 : decode cX10_readPart 142 = .ok (.iload_n 3, 1) := by decide +kernel
theorem dX10_readPart_143 : decode cX10_readPart 143 = .ok (.ishr, 1) := by decide +kernel
theorem dX10_readPart_144 : decode cX10_readPart 144 = .ok (.iconst 1, 1) := by decide +kernel
theorem dX10_readPart_145 : decode cX10_readPart 145 = .ok (.iand, 1) := by decide +kernel
theorem dX10_readPart_146 : decode cX10_readPart 146 = .ok (.ifCond .ne 5, 3) := by decide +kernel
theorem dX10_readPart_149 : decode cX10_readPart 149 = .ok (.iconst 0, 1) := by decide +kernel
theorem dX10_readPart_150 : decode cX10_readPart 150 = .ok (.ireturn, 1) := by decide +kernel
theorem dX10_readPart_151 : decode cX10_readPart 151 = .ok (.aload_n 0, 1) := by decide +kernel
theorem dX10_readPart_152 : decode cX10_readPart 152 = .ok (.getfield 69, 3) := by decide +kernel
theorem dX10_readPart_155 : decode cX10_readPart 155 = .ok (.iload_n 2, 1) := by decide +kernel
theorem dX10_readPart_156 : decode cX10_readPart 156 = .ok (.iconst (-1), 1) := by decide +kernel
theorem dX10_readPart_157 : decode cX10_readPart 157 = .ok (.iload_n 3, 1) := by decide +kernel
theorem dX10_readPart_158 : decode cX10_readPart 158 = .ok (.isub, 1) := by decide +kernel
theorem dX10_readPart_159 : decode cX10_readPart 159 = .ok (.iastore, 1) := by decide +kernel
theorem dX10_readPart_160 : decode cX10_readPart 160 = .ok (.aload_n 0, 1) := by decide +kernel
theorem dX10_readPart_161 : decode cX10_readPart 161 = .ok (.getfield 60, 3) := by decide +kernel
theorem dX10_readPart_164 : decode cX10_readPart 164 = .ok (.iload_n 1, 1) := by decide +kernel
theorem dX10_readPart_165 : decode cX10_readPart 165 = .ok (.baload, 1) := by decide +kernel
theorem dX10_readPart_166 : decode cX10_readPart 166 = .ok (.ifCond .ne 15, 3) := by decide +kernel
theorem dX10_readPart_169 : decode cX10_readPart 169 = .ok (.aload_n 0, 1) := by decide +kernel
theorem dX10_readPart_170 : decode cX10_readPart 170 = .ok (.dup, 1) := by decide +kernel
theorem dX10_readPart_171 : decode cX10_readPart 171 = .ok (.getfield 207, 3) := by decide +kernel
theorem dX10_readPart_174 : decode cX10_readPart 174 = .ok (.iconst 1, 1) := by decide +kernel
theorem dX10_readPart_175 : decode cX10_readPart 175 = .ok (.iload_n 3, 1) := by decide +kernel
theorem dX10_readPart_176 : decode cX10_readPart 176 = .ok (.ishl, 1) := by decide +kernel
theorem dX10_readPart_177 : decode cX10_readPart 177 = .ok (.ior, 1) := by decide +kernel
theorem dX10_readPart_178 : decode cX10_readPart 178 = .ok (.putfield 207, 3) := by decide +kernel
theorem dX10_readPart_181 : decode cX10_readPart 181 = .ok (.aload_n 0, 1) := by decide +kernel
theorem dX10_readPart_182 : decode cX10_readPart 182 = .ok (.getfield 63, 3) := by decide +kernel
theorem dX10_readPart_185 : decode cX10_readPart 185 = .ok (.iload_n 1, 1) := by decide +kernel
theorem dX10_readPart_186 : decode cX10_readPart 186 = .ok (.dup2, 1) := by decide +kernel
theorem dX10_readPart_187 : decode cX10_readPart 187 = .ok (.iaload, 1) := by decide +kernel
theorem dX10_readPart_188 : decode cX10_readPart 188 = .ok (.iconst 1, 1) := by decide +kernel
theorem dX10_readPart_189 : decode cX10_readPart 189 = .ok (.iadd, 1) := by decide +kernel
theorem dX10_readPart_190 : decode cX10_readPart 190 = .ok (.iastore, 1) := by decide +kernel
theorem dX10_readPart_191 : decode cX10_readPart 191 = .ok (.iconst 1, 1) := by decide +kernel
theorem dX10_readPart_192 : decode cX10_readPart 192 = .ok (.ireturn, 1) := by decide +kernel
theorem dX10_readAtom_0 : decode cX10_readAtom 0 = .ok (.bipush 6, 2) := by decide +kernel
theorem dX10_readAtom_2 : decode cX10_readAtom 2 = .ok (.iload_n 1, 1) := by decide +kernel
theorem dX10_readAtom_3 : decode cX10_readAtom 3 = .ok (.iadd, 1) := by decide +kernel
theorem dX10_readAtom_4 : decode cX10_readAtom 4 = .ok (.istore_n 2, 1) := by decide +kernel
theorem dX10_readAtom_5 : decode cX10_readAtom 5 = .ok (.aload_n 0, 1) := by decide +kernel
theorem dX10_readAtom_6 : decode cX10_readAtom 6 = .ok (.getfield 63, 3) := by decide +kernel
theorem dX10_readAtom_9 : decode cX10_readAtom 9 = .ok (.iload_n 2, 1) := by decide +kernel
theorem dX10_readAtom_10 : decode cX10_readAtom 10 = .ok (.iconst 0, 1) := by decide +kernel
theorem dX10_readAtom_11 : decode cX10_readAtom 11 = .ok (.iastore, 1) := by decide +kernel
theorem dX10_readAtom_12 : decode cX10_readAtom 12 = .ok (.aload_n 0, 1) := by decide +kernel
theorem dX10_readAtom_13 : decode cX10_readAtom 13 = .ok (.invokevirtual 186, 3) := by decide +kernel
theorem dX10_readAtom_16 : decode cX10_readAtom 16 = .ok (.aload_n 0, 1) := by decide +kernel
theorem dX10_readAtom_17 : decode cX10_readAtom 17 = .ok (.getfield 60, 3) := by decide +kernel
theorem dX10_readAtom_20 : decode cX10_readAtom 20 = .ok (.iload_n 2, 1) := by decide +kernel
theorem dX10_readAtom_21 : decode cX10_readAtom 21 = .ok (.aload_n 0, 1) := by decide +kernel
theorem dX10_readAtom_22 : decode cX10_readAtom 22 = .ok (.ldc 210, 2) := by decide +kernel
theorem dX10_readAtom_24 : decode cX10_readAtom 24 = .ok (.invokevirtual 191, 3) := by decide +kernel
theorem dX10_readAtom_27 : decode cX10_readAtom 27 = .ok (.bastore, 1) := by decide +kernel
theorem dX10_readAtom_28 : decode cX10_readAtom 28 = .ok (.aload_n 0, 1) := by decide +kernel
theorem dX10_readAtom_29 : decode cX10_readAtom 29 = .ok (.getfield 60, 3) := by decide +kernel
theorem dX10_readAtom_32 : decode cX10_readAtom 32 = .ok (.iload_n 2, 1) := by decide +kernel
theorem dX10_readAtom_33 : decode cX10_readAtom 33 = .ok (.baload, 1) := by decide +kernel
theorem dX10_readAtom_34 : decode cX10_readAtom 34 = .ok (.ifCond .eq 7, 3) := by decide +kernel
theorem dX10_readAtom_37 : decode cX10_readAtom 37 = .ok (.aload_n 0, 1) := by decide +kernel
theorem dX10_readAtom_38 : decode cX10_readAtom 38 = .ok (.invokevirtual 186, 3) := by decide +kernel
theorem dX10_readAtom_41 : decode cX10_readAtom 41 = .ok (.aload_n 0, 1) := by decide +kernel
theorem dX10_readAtom_42 : decode cX10_readAtom 42 = .ok (.ldc 212, 2) := by decide +kernel
theorem dX10_readAtom_44 : decode cX10_readAtom 44 = .ok (.invokevirtual 191, 3) := by decide +kernel
theorem dX10_readAtom_47 : decode cX10_readAtom 47 = .ok (.ifCond .ne 5, 3) := by decide +kernel
theorem dX10_readAtom_50 : decode cX10_readAtom 50 = .ok (.iconst 0, 1) := by decide +kernel
theorem dX10_readAtom_51 : decode cX10_readAtom 51 = .ok (.ireturn, 1) := by decide +kernel
theorem dX10_readAtom_52 : decode cX10_readAtom 52 = .ok (.aload_n 0, 1) := by decide +kernel
theorem dX10_readAtom_53 : decode cX10_readAtom 53 = .ok (.getfield 57, 3) := by decide +kernel
theorem dX10_readAtom_56 : decode cX10_readAtom 56 = .ok (.iload_n 2, 1) := by decide +kernel
theorem dX10_readAtom_57 : decode cX10_readAtom 57 = .ok (.aload_n 0, 1) := by decide +kernel
theorem dX10_readAtom_58 : decode cX10_readAtom 58 = .ok (.iconst 5, 1) := by decide +kernel
theorem dX10_readAtom_59 : decode cX10_readAtom 59 = .ok (.invokevirtual 195, 3) := by decide +kernel
theorem dX10_readAtom_62 : decode cX10_readAtom 62 = .ok (.iastore, 1) := by decide +kernel
theorem dX10_readAtom_63 : decode cX10_readAtom 63 = .ok (.aload_n 0, 1) := by decide +kernel
theorem dX10_readAtom_64 : decode cX10_readAtom 64 = .ok (.getfield 57, 3) := by decide +kernel
theorem dX10_readAtom_67 : decode cX10_readAtom 67 = .ok (.iload_n 2, 1) := by decide +kernel
theorem dX10_readAtom_68 : decode cX10_readAtom 68 = .ok (.iaload, 1) := by decide +kernel
theorem dX10_readAtom_69 : decode cX10_readAtom 69 = .ok (.ifCond .lt 12, 3) := by decide +kernel
theorem dX10_readAtom_72 : decode cX10_readAtom 72 = .ok (.aload_n 0, 1) := by decide +kernel
theorem dX10_readAtom_73 : decode cX10_readAtom 73 = .ok (.bipush 40, 2) := by decide +kernel
theorem dX10_readAtom_75 : decode cX10_readAtom 75 = .ok (.invokevirtual 214, 3) := by decide +kernel
theorem dX10_readAtom_78 : decode cX10_readAtom 78 = .ok (.ifCond .ne 5, 3) := by decide +kernel
theorem dX10_readAtom_81 : decode cX10_readAtom 81 = .ok (.iconst 0, 1) := by decide +kernel
theorem dX10_readAtom_82 : decode cX10_readAtom 82 = .ok (.ireturn, 1) := by decide +kernel
theorem dX10_readAtom_83 : decode cX10_readAtom 83 = .ok (.aload_n 0, 1) := by decide +kernel
theorem dX10_readAtom_84 : decode cX10_readAtom 84 = .ok (.iload_n 2, 1) := by decide +kernel
theorem dX10_readAtom_85 : decode cX10_readAtom 85 = .ok (.invokevirtual 217, 3) := by decide +kernel
theorem dX10_readAtom_88 : decode cX10_readAtom 88 = .ok (.ifCond .ne 5, 3) := by decide +kernel
theorem dX10_readAtom_91 : decode cX10_readAtom 91 = .ok (.iconst 0, 1) := by decide +kernel
theorem dX10_readAtom_92 : decode cX10_readAtom 92 = .ok (.ireturn, 1) := by decide +kernel
theorem dX10_readAtom_93 : decode cX10_readAtom 93 = .ok (.aload_n 0, 1) := by decide +kernel
theorem dX10_readAtom_94 : decode cX10_readAtom 94 = .ok (.invokevirtual 173, 3) := by decide +kernel
theorem dX10_readAtom_97 : decode cX10_readAtom 97 = .ok (.aload_n 0, 1) := by decide +kernel
theorem dX10_readAtom_98 : decode cX10_readAtom 98 = .ok (.bipush 44, 2) := by decide +kernel
theorem dX10_readAtom_100 : decode cX10_readAtom 100 = .ok (.bipush 44, 2) := by decide +kernel
theorem dX10_readAtom_102 : decode cX10_readAtom 102 = .ok (.invokevirtual 167, 3) := by decide +kernel
theorem dX10_readAtom_105 : decode cX10_readAtom 105 = .ok (.ifCond .ne 6, 3) := by decide +kernel
theorem dX10_readAtom_108 : decode cX10_readAtom 108 = .ok (.goto 28, 3) := by decide +kernel
theorem dX10_readAtom_111 : decode cX10_readAtom 111 = .ok (.aload_n 0, 1) := by decide +kernel
theorem dX10_readAtom_112 : decode cX10_readAtom 112 = .ok (.getfield 63, 3) := by decide +kernel
theorem dX10_readAtom_115 : decode cX10_readAtom 115 = .ok (.iload_n 2, 1) := by decide +kernel
theorem dX10_readAtom_116 : decode cX10_readAtom 116 = .ok (.iaload, 1) := by decide +kernel
theorem dX10_readAtom_117 : decode cX10_readAtom 117 = .ok (.iconst 4, 1) := by decide +kernel
theorem dX10_readAtom_118 : decode cX10_readAtom 118 = .ok (.if_icmp .ne 5, 3) := by decide +kernel
theorem dX10_readAtom_121 : decode cX10_readAtom 121 = .ok (.iconst 0, 1) := by decide +kernel
theorem dX10_readAtom_122 : decode cX10_readAtom 122 = .ok (.ireturn, 1) := by decide +kernel
theorem dX10_readAtom_123 : decode cX10_readAtom 123 = .ok (.aload_n 0, 1) := by decide +kernel
theorem dX10_readAtom_124 : decode cX10_readAtom 124 = .ok (.dup, 1) := by decide +kernel
theorem dX10_readAtom_125 : decode cX10_readAtom 125 = .ok (.getfield 161, 3) := by decide +kernel
theorem dX10_readAtom_128 : decode cX10_readAtom 128 = .ok (.iconst 1, 1) := by decide +kernel
theorem dX10_readAtom_129 : decode cX10_readAtom 129 = .ok (.iadd, 1) := by decide +kernel
theorem dX10_readAtom_130 : decode cX10_readAtom 130 = .ok (.putfield 161, 3) := by decide +kernel
theorem dX10_readAtom_133 : decode cX10_readAtom 133 = .ok (.goto (-50), 3) := by decide +kernel
theorem dX10_readAtom_136 : decode cX10_readAtom 136 = .ok (.aload_n 0, 1) := by decide +kernel
theorem dX10_readAtom_137 : decode cX10_readAtom 137 = .ok (.bipush 41, 2) := by decide +kernel
theorem dX10_readAtom_139 : decode cX10_readAtom 139 = .ok (.invokevirtual 214, 3) := by decide +kernel
theorem dX10_readAtom_142 : decode cX10_readAtom 142 = .ok (.ireturn, 1) := by decide +kernel
theorem dX10_readAll_0 : decode cX10_readAll 0 = .ok (.aload_n 0, 1) := by decide +kernel
theorem dX10_readAll_1 : decode cX10_readAll 1 = .ok (.iconst 0, 1) := by decide +kernel
theorem dX10_readAll_2 : decode cX10_readAll 2 = .ok (.putfield 161, 3) := by decide +kernel
theorem dX10_readAll_5 : decode cX10_readAll 5 = .ok (.aload_n 0, 1) := by decide +kernel
theorem dX10_readAll_6 : decode cX10_readAll 6 = .ok (.iconst 0, 1) := by decide +kernel
theorem dX10_readAll_7 : decode cX10_readAll 7 = .ok (.putfield 207, 3) := by decide +kernel
theorem dX10_readAll_10 : decode cX10_readAll 10 = .ok (.iconst 0, 1) := by decide +kernel
theorem dX10_readAll_11 : decode cX10_readAll 11 = .ok (.istore_n 1, 1) := by decide +kernel
theorem dX10_readAll_12 : decode cX10_readAll 12 = .ok (.aload_n 0, 1) := by decide +kernel
theorem dX10_readAll_13 : decode cX10_readAll 13 = .ok (.iload_n 1, 1) := by decide +kernel
theorem dX10_readAll_14 : decode cX10_readAll 14 = .ok (.invokevirtual 220, 3) := by decide +kernel
theorem dX10_readAll_17 : decode cX10_readAll 17 = .ok (.ifCond .ne 5, 3) := by decide +kernel
theorem dX10_readAll_20 : decode cX10_readAll 20 = .ok (.iconst (-1), 1) := by decide +kernel
theorem dX10_readAll_21 : decode cX10_readAll 21 = .ok (.ireturn, 1) := by decide +kernel
theorem dX10_readAll_22 : decode cX10_readAll 22 = .ok (.iinc 1 1, 3) := by decide +kernel
theorem dX10_readAll_25 : decode cX10_readAll 25 = .ok (.aload_n 0, 1) := by decide +kernel
theorem dX10_readAll_26 : decode cX10_readAll 26 = .ok (.invokevirtual 173, 3) := by decide +kernel
theorem dX10_readAll_29 : decode cX10_readAll 29 = .ok (.aload_n 0, 1) := by decide +kernel
theorem dX10_readAll_30 : decode cX10_readAll 30 = .ok (.getfield 161, 3) := by decide +kernel
theorem dX10_readAll_33 : decode cX10_readAll 33 = .ok (.aload_n 0, 1) := by decide +kernel
theorem dX10_readAll_34 : decode cX10_readAll 34 = .ok (.getfield 164, 3) := by decide +kernel
theorem dX10_readAll_37 : decode cX10_readAll 37 = .ok (.if_icmp .ne 5, 3) := by decide +kernel
theorem dX10_readAll_40 : decode cX10_readAll 40 = .ok (.iload_n 1, 1) := by decide +kernel
theorem dX10_readAll_41 : decode cX10_readAll 41 = .ok (.ireturn, 1) := by decide +kernel
theorem dX10_readAll_42 : decode cX10_readAll 42 = .ok (.aload_n 0, 1) := by decide +kernel
theorem dX10_readAll_43 : decode cX10_readAll 43 = .ok (.bipush 44, 2) := by decide +kernel
theorem dX10_readAll_45 : decode cX10_readAll 45 = .ok (.bipush 44, 2) := by decide +kernel
theorem dX10_readAll_47 : decode cX10_readAll 47 = .ok (.invokevirtual 167, 3) := by decide +kernel
theorem dX10_readAll_50 : decode cX10_readAll 50 = .ok (.ifCond .eq 9, 3) := by decide +kernel
theorem dX10_readAll_53 : decode cX10_readAll 53 = .ok (.iload_n 1, 1) := by decide +kernel
theorem dX10_readAll_54 : decode cX10_readAll 54 = .ok (.bipush 6, 2) := by decide +kernel
theorem dX10_readAll_56 : decode cX10_readAll 56 = .ok (.if_icmp .ne 5, 3) := by decide +kernel
theorem dX10_readAll_59 : decode cX10_readAll 59 = .ok (.iconst (-1), 1) := by decide +kernel
theorem dX10_readAll_60 : decode cX10_readAll 60 = .ok (.ireturn, 1) := by decide +kernel
theorem dX10_readAll_61 : decode cX10_readAll 61 = .ok (.aload_n 0, 1) := by decide +kernel
theorem dX10_readAll_62 : decode cX10_readAll 62 = .ok (.dup, 1) := by decide +kernel
theorem dX10_readAll_63 : decode cX10_readAll 63 = .ok (.getfield 161, 3) := by decide +kernel
theorem dX10_readAll_66 : decode cX10_readAll 66 = .ok (.iconst 1, 1) := by decide +kernel
theorem dX10_readAll_67 : decode cX10_readAll 67 = .ok (.iadd, 1) := by decide +kernel
theorem dX10_readAll_68 : decode cX10_readAll 68 = .ok (.putfield 161, 3) := by decide +kernel
theorem dX10_readAll_71 : decode cX10_readAll 71 = .ok (.goto (-59), 3) := by decide +kernel
theorem dX10_question_0 : decode cX10_question 0 = .ok (.aload_n 0, 1) := by decide +kernel
theorem dX10_question_1 : decode cX10_question 1 = .ok (.iconst 0, 1) := by decide +kernel
theorem dX10_question_2 : decode cX10_question 2 = .ok (.putfield 3, 3) := by decide +kernel
theorem dX10_question_5 : decode cX10_question 5 = .ok (.aload_n 0, 1) := by decide +kernel
theorem dX10_question_6 : decode cX10_question 6 = .ok (.aload_n 0, 1) := by decide +kernel
theorem dX10_question_7 : decode cX10_question 7 = .ok (.getfield 158, 3) := by decide +kernel
theorem dX10_question_10 : decode cX10_question 10 = .ok (.putfield 164, 3) := by decide +kernel
theorem dX10_question_13 : decode cX10_question 13 = .ok (.aload_n 0, 1) := by decide +kernel
theorem dX10_question_14 : decode cX10_question 14 = .ok (.iconst 0, 1) := by decide +kernel
theorem dX10_question_15 : decode cX10_question 15 = .ok (.putfield 158, 3) := by decide +kernel
theorem dX10_question_18 : decode cX10_question 18 = .ok (.aload_n 0, 1) := by decide +kernel
theorem dX10_question_19 : decode cX10_question 19 = .ok (.invokevirtual 223, 3) := by decide +kernel
theorem dX10_question_22 : decode cX10_question 22 = .ok (.istore_n 1, 1) := by decide +kernel
theorem dX10_question_23 : decode cX10_question 23 = .ok (.aload_n 0, 1) := by decide +kernel
theorem dX10_question_24 : decode cX10_question 24 = .ok (.iload_n 1, 1) := by decide +kernel
theorem dX10_question_25 : decode cX10_question 25 = .ok (.ifCond .ge 10, 3) := by decide +kernel
theorem dX10_question_28 : decode cX10_question 28 = .ok (.aload_n 0, 1) := by decide +kernel
theorem dX10_question_29 : decode cX10_question 29 = .ok (.getfield 170, 3) := by decide +kernel
theorem dX10_question_32 : decode cX10_question 32 = .ok (.goto 4, 3) := by decide +kernel
theorem dX10_question_35 : decode cX10_question 35 = .ok (.iconst (-1), 1) := by decide +kernel
theorem dX10_question_36 : decode cX10_question 36 = .ok (.putfield 76, 3) := by decide +kernel
theorem dX10_question_39 : decode cX10_question 39 = .ok (.aload_n 0, 1) := by decide +kernel
theorem dX10_question_40 : decode cX10_question 40 = .ok (.iload_n 1, 1) := by decide +kernel
theorem dX10_question_41 : decode cX10_question 41 = .ok (.ifCond .ge 7, 3) := by decide +kernel
theorem dX10_question_44 : decode cX10_question 44 = .ok (.iconst 1, 1) := by decide +kernel
theorem dX10_question_45 : decode cX10_question 45 = .ok (.goto 4, 3) := by decide +kernel
theorem dX10_question_48 : decode cX10_question 48 = .ok (.iconst 0, 1) := by decide +kernel
theorem dX10_question_49 : decode cX10_question 49 = .ok (.iconst 1, 1) := by decide +kernel
theorem dX10_question_50 : decode cX10_question 50 = .ok (.invokevirtual 118, 3) := by decide +kernel
theorem dX10_question_53 : decode cX10_question 53 = .ok (.ifCond .eq 5, 3) := by decide +kernel
theorem dX10_question_56 : decode cX10_question 56 = .ok (.iconst 0, 1) := by decide +kernel
theorem dX10_question_57 : decode cX10_question 57 = .ok (.ireturn, 1) := by decide +kernel
theorem dX10_question_58 : decode cX10_question 58 = .ok (.aload_n 0, 1) := by decide +kernel
theorem dX10_question_59 : decode cX10_question 59 = .ok (.iload_n 1, 1) := by decide +kernel
theorem dX10_question_60 : decode cX10_question 60 = .ok (.putfield 226, 3) := by decide +kernel
theorem dX10_question_63 : decode cX10_question 63 = .ok (.aload_n 0, 1) := by decide +kernel
theorem dX10_question_64 : decode cX10_question 64 = .ok (.aload_n 0, 1) := by decide +kernel
theorem dX10_question_65 : decode cX10_question 65 = .ok (.getfield 207, 3) := by decide +kernel
theorem dX10_question_68 : decode cX10_question 68 = .ok (.putfield 229, 3) := by decide +kernel
theorem dX10_question_71 : decode cX10_question 71 = .ok (.iconst 0, 1) := by decide +kernel
theorem dX10_question_72 : decode cX10_question 72 = .ok (.istore_n 2, 1) := by decide +kernel
theorem dX10_question_73 : decode cX10_question 73 = .ok (.iload_n 2, 1) := by decide +kernel
theorem dX10_question_74 : decode cX10_question 74 = .ok (.iload_n 1, 1) := by decide +kernel
theorem dX10_question_75 : decode cX10_question 75 = .ok (.if_icmp .ge 113, 3) := by decide +kernel
theorem dX10_question_78 : decode cX10_question 78 = .ok (.aload_n 0, 1) := by decide +kernel
theorem dX10_question_79 : decode cX10_question 79 = .ok (.getfield 57, 3) := by decide +kernel
theorem dX10_question_82 : decode cX10_question 82 = .ok (.iload_n 2, 1) := by decide +kernel
theorem dX10_question_83 : decode cX10_question 83 = .ok (.aload_n 0, 1) := by decide +kernel
theorem dX10_question_84 : decode cX10_question 84 = .ok (.getfield 57, 3) := by decide +kernel
theorem dX10_question_87 : decode cX10_question 87 = .ok (.bipush 6, 2) := by decide +kernel
theorem dX10_question_89 : decode cX10_question 89 = .ok (.iload_n 2, 1) := by decide +kernel
theorem dX10_question_90 : decode cX10_question 90 = .ok (.iadd, 1) := by decide +kernel
theorem dX10_question_91 : decode cX10_question 91 = .ok (.iaload, 1) := by decide +kernel
theorem dX10_question_92 : decode cX10_question 92 = .ok (.iastore, 1) := by decide +kernel
theorem dX10_question_93 : decode cX10_question 93 = .ok (.aload_n 0, 1) := by decide +kernel
theorem dX10_question_94 : decode cX10_question 94 = .ok (.getfield 60, 3) := by decide +kernel
theorem dX10_question_97 : decode cX10_question 97 = .ok (.iload_n 2, 1) := by decide +kernel
theorem dX10_question_98 : decode cX10_question 98 = .ok (.aload_n 0, 1) := by decide +kernel
theorem dX10_question_99 : decode cX10_question 99 = .ok (.getfield 60, 3) := by decide +kernel
theorem dX10_question_102 : decode cX10_question 102 = .ok (.bipush 6, 2) := by decide +kernel
theorem dX10_question_104 : decode cX10_question 104 = .ok (.iload_n 2, 1) := by decide +kernel
theorem dX10_question_105 : decode cX10_question 105 = .ok (.iadd, 1) := by decide +kernel
theorem dX10_question_106 : decode cX10_question 106 = .ok (.baload, 1) := by decide +kernel
theorem dX10_question_107 : decode cX10_question 107 = .ok (.bastore, 1) := by decide +kernel
theorem dX10_question_108 : decode cX10_question 108 = .ok (.aload_n 0, 1) := by decide +kernel
theorem dX10_question_109 : decode cX10_question 109 = .ok (.getfield 63, 3) := by decide +kernel
theorem dX10_question_112 : decode cX10_question 112 = .ok (.iload_n 2, 1) := by decide +kernel
theorem dX10_question_113 : decode cX10_question 113 = .ok (.aload_n 0, 1) := by decide +kernel
theorem dX10_question_114 : decode cX10_question 114 = .ok (.getfield 63, 3) := by decide +kernel
theorem dX10_question_117 : decode cX10_question 117 = .ok (.bipush 6, 2) := by decide +kernel
theorem dX10_question_119 : decode cX10_question 119 = .ok (.iload_n 2, 1) := by decide +kernel
theorem dX10_question_120 : decode cX10_question 120 = .ok (.iadd, 1) := by decide +kernel
theorem dX10_question_121 : decode cX10_question 121 = .ok (.iaload, 1) := by decide +kernel
theorem dX10_question_122 : decode cX10_question 122 = .ok (.iastore, 1) := by decide +kernel
theorem dX10_question_123 : decode cX10_question 123 = .ok (.iconst 0, 1) := by decide +kernel
theorem dX10_question_124 : decode cX10_question 124 = .ok (.istore_n 3, 1) := by decide +kernel
theorem dX10_question_125 : decode cX10_question 125 = .ok (.iload_n 3, 1) := by decide +kernel
theorem dX10_question_126 : decode cX10_question 126 = .ok (.iconst 4, 1) := by decide +kernel
theorem dX10_question_127 : decode cX10_question 127 = .ok (.if_icmp .ge 55, 3) := by decide +kernel
theorem dX10_question_130 : decode cX10_question 130 = .ok (.aload_n 0, 1) := by decide +kernel
theorem dX10_question_131 : decode cX10_question 131 = .ok (.getfield 66, 3) := by decide +kernel
theorem dX10_question_134 : decode cX10_question 134 = .ok (.iconst 4, 1) := by decide +kernel
theorem dX10_question_135 : decode cX10_question 135 = .ok (.iload_n 2, 1) := by decide +kernel
theorem dX10_question_136 : decode cX10_question 136 = .ok (.imul, 1) := by decide +kernel
theorem dX10_question_137 : decode cX10_question 137 = .ok (.iload_n 3, 1) := by decide +kernel
theorem dX10_question_138 : decode cX10_question 138 = .ok (.iadd, 1) := by decide +kernel
theorem dX10_question_139 : decode cX10_question 139 = .ok (.aload_n 0, 1) := by decide +kernel
theorem dX10_question_140 : decode cX10_question 140 = .ok (.getfield 66, 3) := by decide +kernel
theorem dX10_question_143 : decode cX10_question 143 = .ok (.iconst 4, 1) := by decide +kernel
theorem dX10_question_144 : decode cX10_question 144 = .ok (.bipush 6, 2) := by decide +kernel
theorem dX10_question_146 : decode cX10_question 146 = .ok (.iload_n 2, 1) := by decide +kernel
theorem dX10_question_147 : decode cX10_question 147 = .ok (.iadd, 1) := by decide +kernel
theorem dX10_question_148 : decode cX10_question 148 = .ok (.imul, 1) := by decide +kernel
theorem dX10_question_149 : decode cX10_question 149 = .ok (.iload_n 3, 1) := by decide +kernel
theorem dX10_question_150 : decode cX10_question 150 = .ok (.iadd, 1) := by decide +kernel
theorem dX10_question_151 : decode cX10_question 151 = .ok (.iaload, 1) := by decide +kernel
theorem dX10_question_152 : decode cX10_question 152 = .ok (.iastore, 1) := by decide +kernel
theorem dX10_question_153 : decode cX10_question 153 = .ok (.aload_n 0, 1) := by decide +kernel
theorem dX10_question_154 : decode cX10_question 154 = .ok (.getfield 69, 3) := by decide +kernel
theorem dX10_question_157 : decode cX10_question 157 = .ok (.iconst 4, 1) := by decide +kernel
theorem dX10_question_158 : decode cX10_question 158 = .ok (.iload_n 2, 1) := by decide +kernel
theorem dX10_question_159 : decode cX10_question 159 = .ok (.imul, 1) := by decide +kernel
theorem dX10_question_160 : decode cX10_question 160 = .ok (.iload_n 3, 1) := by decide +kernel
theorem dX10_question_161 : decode cX10_question 161 = .ok (.iadd, 1) := by decide +kernel
theorem dX10_question_162 : decode cX10_question 162 = .ok (.aload_n 0, 1) := by decide +kernel
theorem dX10_question_163 : decode cX10_question 163 = .ok (.getfield 69, 3) := by decide +kernel
theorem dX10_question_166 : decode cX10_question 166 = .ok (.iconst 4, 1) := by decide +kernel
theorem dX10_question_167 : decode cX10_question 167 = .ok (.bipush 6, 2) := by decide +kernel
theorem dX10_question_169 : decode cX10_question 169 = .ok (.iload_n 2, 1) := by decide +kernel
theorem dX10_question_170 : decode cX10_question 170 = .ok (.iadd, 1) := by decide +kernel
theorem dX10_question_171 : decode cX10_question 171 = .ok (.imul, 1) := by decide +kernel
theorem dX10_question_172 : decode cX10_question 172 = .ok (.iload_n 3, 1) := by decide +kernel
theorem dX10_question_173 : decode cX10_question 173 = .ok (.iadd, 1) := by decide +kernel
theorem dX10_question_174 : decode cX10_question 174 = .ok (.iaload, 1) := by decide +kernel
theorem dX10_question_175 : decode cX10_question 175 = .ok (.iastore, 1) := by decide +kernel
theorem dX10_question_176 : decode cX10_question 176 = .ok (.iinc 3 1, 3) := by decide +kernel
theorem dX10_question_179 : decode cX10_question 179 = .ok (.goto (-54), 3) := by decide +kernel
theorem dX10_question_182 : decode cX10_question 182 = .ok (.iinc 2 1, 3) := by decide +kernel
theorem dX10_question_185 : decode cX10_question 185 = .ok (.goto (-112), 3) := by decide +kernel
theorem dX10_question_188 : decode cX10_question 188 = .ok (.iload_n 1, 1) := by decide +kernel
theorem dX10_question_189 : decode cX10_question 189 = .ok (.ireturn, 1) := by decide +kernel
theorem dX10_fault_0 : decode cX10_fault 0 = .ok (.aload_n 0, 1) := by decide +kernel
theorem dX10_fault_1 : decode cX10_fault 1 = .ok (.iconst 0, 1) := by decide +kernel
theorem dX10_fault_2 : decode cX10_fault 2 = .ok (.putfield 3, 3) := by decide +kernel
theorem dX10_fault_5 : decode cX10_fault 5 = .ok (.aload_n 0, 1) := by decide +kernel
theorem dX10_fault_6 : decode cX10_fault 6 = .ok (.getfield 76, 3) := by decide +kernel
theorem dX10_fault_9 : decode cX10_fault 9 = .ok (.ireturn, 1) := by decide +kernel
theorem dX10_usedBy_0 : decode cX10_usedBy 0 = .ok (.iconst 0, 1) := by decide +kernel
theorem dX10_usedBy_1 : decode cX10_usedBy 1 = .ok (.istore_n 2, 1) := by decide +kernel
theorem dX10_usedBy_2 : decode cX10_usedBy 2 = .ok (.iconst 4, 1) := by decide +kernel
theorem dX10_usedBy_3 : decode cX10_usedBy 3 = .ok (.iload_n 1, 1) := by decide +kernel
theorem dX10_usedBy_4 : decode cX10_usedBy 4 = .ok (.imul, 1) := by decide +kernel
theorem dX10_usedBy_5 : decode cX10_usedBy 5 = .ok (.istore_n 3, 1) := by decide +kernel
theorem dX10_usedBy_6 : decode cX10_usedBy 6 = .ok (.iload_n 3, 1) := by decide +kernel
theorem dX10_usedBy_7 : decode cX10_usedBy 7 = .ok (.iconst 4, 1) := by decide +kernel
theorem dX10_usedBy_8 : decode cX10_usedBy 8 = .ok (.iload_n 1, 1) := by decide +kernel
theorem dX10_usedBy_9 : decode cX10_usedBy 9 = .ok (.imul, 1) := by decide +kernel
theorem dX10_usedBy_10 : decode cX10_usedBy 10 = .ok (.aload_n 0, 1) := by decide +kernel
theorem dX10_usedBy_11 : decode cX10_usedBy 11 = .ok (.getfield 63, 3) := by decide +kernel
theorem dX10_usedBy_14 : decode cX10_usedBy 14 = .ok (.iload_n 1, 1) := by decide +kernel
theorem dX10_usedBy_15 : decode cX10_usedBy 15 = .ok (.iaload, 1) := by decide +kernel
theorem dX10_usedBy_16 : decode cX10_usedBy 16 = .ok (.iadd, 1) := by decide +kernel
theorem dX10_usedBy_17 : decode cX10_usedBy 17 = .ok (.if_icmp .ge 35, 3) := by decide +kernel
theorem dX10_usedBy_20 : decode cX10_usedBy 20 = .ok (.iload_n 2, 1) := by decide +kernel
theorem dX10_usedBy_21 : decode cX10_usedBy 21 = .ok (.aload_n 0, 1) := by decide +kernel
theorem dX10_usedBy_22 : decode cX10_usedBy 22 = .ok (.getfield 69, 3) := by decide +kernel
theorem dX10_usedBy_25 : decode cX10_usedBy 25 = .ok (.iload_n 3, 1) := by decide +kernel
theorem dX10_usedBy_26 : decode cX10_usedBy 26 = .ok (.iaload, 1) := by decide +kernel
theorem dX10_usedBy_27 : decode cX10_usedBy 27 = .ok (.ifCond .ge 16, 3) := by decide +kernel
theorem dX10_usedBy_30 : decode cX10_usedBy 30 = .ok (.iconst 1, 1) := by decide +kernel
theorem dX10_usedBy_31 : decode cX10_usedBy 31 = .ok (.iconst (-1), 1) := by decide +kernel
theorem dX10_usedBy_32 : decode cX10_usedBy 32 = .ok (.aload_n 0, 1) := by decide +kernel
theorem dX10_usedBy_33 : decode cX10_usedBy 33 = .ok (.getfield 69, 3) := by decide +kernel
theorem dX10_usedBy_36 : decode cX10_usedBy 36 = .ok (.iload_n 3, 1) := by decide +kernel
theorem dX10_usedBy_37 : decode cX10_usedBy 37 = .ok (.iaload, 1) := by decide +kernel
theorem dX10_usedBy_38 : decode cX10_usedBy 38 = .ok (.isub, 1) := by decide +kernel
theorem dX10_usedBy_39 : decode cX10_usedBy 39 = .ok (.ishl, 1) := by decide +kernel
theorem dX10_usedBy_40 : decode cX10_usedBy 40 = .ok (.goto 4, 3) := by decide +kernel
theorem dX10_usedBy_43 : decode cX10_usedBy 43 = .ok (.iconst 0, 1) := by decide +kernel
theorem dX10_usedBy_44 : decode cX10_usedBy 44 = .ok (.ior, 1) := by decide +kernel
theorem dX10_usedBy_45 : decode cX10_usedBy 45 = .ok (.istore_n 2, 1) := by decide +kernel
theorem dX10_usedBy_46 : decode cX10_usedBy 46 = .ok (.iinc 3 1, 3) := by decide +kernel
theorem dX10_usedBy_49 : decode cX10_usedBy 49 = .ok (.goto (-43), 3) := by decide +kernel
theorem dX10_usedBy_52 : decode cX10_usedBy 52 = .ok (.iload_n 2, 1) := by decide +kernel
theorem dX10_usedBy_53 : decode cX10_usedBy 53 = .ok (.ireturn, 1) := by decide +kernel
theorem dX10_placeOf_0 : decode cX10_placeOf 0 = .ok (.iload_n 0, 1) := by decide +kernel
theorem dX10_placeOf_1 : decode cX10_placeOf 1 = .ok (.bipush 40, 2) := by decide +kernel
theorem dX10_placeOf_3 : decode cX10_placeOf 3 = .ok (.imul, 1) := by decide +kernel
theorem dX10_placeOf_4 : decode cX10_placeOf 4 = .ok (.iload_n 1, 1) := by decide +kernel
theorem dX10_placeOf_5 : decode cX10_placeOf 5 = .ok (.iadd, 1) := by decide +kernel
theorem dX10_placeOf_6 : decode cX10_placeOf 6 = .ok (.bipush 40, 2) := by decide +kernel
theorem dX10_placeOf_8 : decode cX10_placeOf 8 = .ok (.imul, 1) := by decide +kernel
theorem dX10_placeOf_9 : decode cX10_placeOf 9 = .ok (.iload_n 2, 1) := by decide +kernel
theorem dX10_placeOf_10 : decode cX10_placeOf 10 = .ok (.iadd, 1) := by decide +kernel
theorem dX10_placeOf_11 : decode cX10_placeOf 11 = .ok (.bipush 40, 2) := by decide +kernel
theorem dX10_placeOf_13 : decode cX10_placeOf 13 = .ok (.imul, 1) := by decide +kernel
theorem dX10_placeOf_14 : decode cX10_placeOf 14 = .ok (.iload_n 3, 1) := by decide +kernel
theorem dX10_placeOf_15 : decode cX10_placeOf 15 = .ok (.iadd, 1) := by decide +kernel
theorem dX10_placeOf_16 : decode cX10_placeOf 16 = .ok (.ireturn, 1) := by decide +kernel
theorem dX10_fits_0 : decode cX10_fits 0 = .ok (.iload_n 3, 1) := by decide +kernel
theorem dX10_fits_1 : decode cX10_fits 1 = .ok (.aload_n 0, 1) := by decide +kernel
theorem dX10_fits_2 : decode cX10_fits 2 = .ok (.getfield 63, 3) := by decide +kernel
theorem dX10_fits_5 : decode cX10_fits 5 = .ok (.iload_n 1, 1) := by decide +kernel
theorem dX10_fits_6 : decode cX10_fits 6 = .ok (.iaload, 1) := by decide +kernel
theorem dX10_fits_7 : decode cX10_fits 7 = .ok (.if_icmp .ne 44, 3) := by decide +kernel
theorem dX10_fits_10 : decode cX10_fits 10 = .ok (.aload_n 0, 1) := by decide +kernel
theorem dX10_fits_11 : decode cX10_fits 11 = .ok (.getfield 83, 3) := by decide +kernel
theorem dX10_fits_14 : decode cX10_fits 14 = .ok (.iload_n 1, 1) := by decide +kernel
theorem dX10_fits_15 : decode cX10_fits 15 = .ok (.iconst 0, 1) := by decide +kernel
theorem dX10_fits_16 : decode cX10_fits 16 = .ok (.aload_n 0, 1) := by decide +kernel
theorem dX10_fits_17 : decode cX10_fits 17 = .ok (.getfield 86, 3) := by decide +kernel
theorem dX10_fits_20 : decode cX10_fits 20 = .ok (.iconst 0, 1) := by decide +kernel
theorem dX10_fits_21 : decode cX10_fits 21 = .ok (.iaload, 1) := by decide +kernel
theorem dX10_fits_22 : decode cX10_fits 22 = .ok (.invokestatic 146, 3) := by decide +kernel
theorem dX10_fits_25 : decode cX10_fits 25 = .ok (.iconst 0, 1) := by decide +kernel
theorem dX10_fits_26 : decode cX10_fits 26 = .ok (.aload_n 0, 1) := by decide +kernel
theorem dX10_fits_27 : decode cX10_fits 27 = .ok (.getfield 86, 3) := by decide +kernel
theorem dX10_fits_30 : decode cX10_fits 30 = .ok (.iconst 1, 1) := by decide +kernel
theorem dX10_fits_31 : decode cX10_fits 31 = .ok (.iaload, 1) := by decide +kernel
theorem dX10_fits_32 : decode cX10_fits 32 = .ok (.invokestatic 146, 3) := by decide +kernel
theorem dX10_fits_35 : decode cX10_fits 35 = .ok (.iconst 0, 1) := by decide +kernel
theorem dX10_fits_36 : decode cX10_fits 36 = .ok (.aload_n 0, 1) := by decide +kernel
theorem dX10_fits_37 : decode cX10_fits 37 = .ok (.getfield 86, 3) := by decide +kernel
theorem dX10_fits_40 : decode cX10_fits 40 = .ok (.iconst 2, 1) := by decide +kernel
theorem dX10_fits_41 : decode cX10_fits 41 = .ok (.iaload, 1) := by decide +kernel
theorem dX10_fits_42 : decode cX10_fits 42 = .ok (.invokestatic 146, 3) := by decide +kernel
theorem dX10_fits_45 : decode cX10_fits 45 = .ok (.invokestatic 232, 3) := by decide +kernel
theorem dX10_fits_48 : decode cX10_fits 48 = .ok (.iconst 1, 1) := by decide +kernel
theorem dX10_fits_49 : decode cX10_fits 49 = .ok (.bastore, 1) := by decide +kernel
theorem dX10_fits_50 : decode cX10_fits 50 = .ok (.return_, 1) := by decide +kernel
theorem dX10_fits_51 : decode cX10_fits 51 = .ok (.aload_n 0, 1) := by decide +kernel
theorem dX10_fits_52 : decode cX10_fits 52 = .ok (.getfield 69, 3) := by decide +kernel
theorem dX10_fits_55 : decode cX10_fits 55 = .ok (.iconst 4, 1) := by decide +kernel
theorem dX10_fits_56 : decode cX10_fits 56 = .ok (.iload_n 1, 1) := by decide +kernel
theorem dX10_fits_57 : decode cX10_fits 57 = .ok (.imul, 1) := by decide +kernel
theorem dX10_fits_58 : decode cX10_fits 58 = .ok (.iload_n 3, 1) := by decide +kernel
theorem dX10_fits_59 : decode cX10_fits 59 = .ok (.iadd, 1) := by decide +kernel
theorem dX10_fits_60 : decode cX10_fits 60 = .ok (.iaload, 1) := by decide +kernel
theorem dX10_fits_61 : decode cX10_fits 61 = .ok (.istore 4, 2) := by decide +kernel
theorem dX10_fits_63 : decode cX10_fits 63 = .ok (.bipush 6, 2) := by decide +kernel
theorem dX10_fits_65 : decode cX10_fits 65 = .ok (.iload_n 2, 1) := by decide +kernel
theorem dX10_fits_66 : decode cX10_fits 66 = .ok (.imul, 1) := by decide +kernel
theorem dX10_fits_67 : decode cX10_fits 67 = .ok (.istore 5, 2) := by decide +kernel
theorem dX10_fits_69 : decode cX10_fits 69 = .ok (.iload 5, 2) := by decide +kernel
theorem dX10_fits_71 : decode cX10_fits 71 = .ok (.bipush 6, 2) := by decide +kernel
theorem dX10_fits_73 : decode cX10_fits 73 = .ok (.iload_n 2, 1) := by decide +kernel
theorem dX10_fits_74 : decode cX10_fits 74 = .ok (.imul, 1) := by decide +kernel
theorem dX10_fits_75 : decode cX10_fits 75 = .ok (.aload_n 0, 1) := by decide +kernel
theorem dX10_fits_76 : decode cX10_fits 76 = .ok (.getfield 36, 3) := by decide +kernel
theorem dX10_fits_79 : decode cX10_fits 79 = .ok (.iload_n 2, 1) := by decide +kernel
theorem dX10_fits_80 : decode cX10_fits 80 = .ok (.iaload, 1) := by decide +kernel
theorem dX10_fits_81 : decode cX10_fits 81 = .ok (.iadd, 1) := by decide +kernel
theorem dX10_fits_82 : decode cX10_fits 82 = .ok (.if_icmp .ge 144, 3) := by decide +kernel
theorem dX10_fits_85 : decode cX10_fits 85 = .ok (.aload_n 0, 1) := by decide +kernel
theorem dX10_fits_86 : decode cX10_fits 86 = .ok (.getfield 39, 3) := by decide +kernel
theorem dX10_fits_89 : decode cX10_fits 89 = .ok (.iload 5, 2) := by decide +kernel
theorem dX10_fits_91 : decode cX10_fits 91 = .ok (.iaload, 1) := by decide +kernel
theorem dX10_fits_92 : decode cX10_fits 92 = .ok (.aload_n 0, 1) := by decide +kernel
theorem dX10_fits_93 : decode cX10_fits 93 = .ok (.getfield 66, 3) := by decide +kernel
theorem dX10_fits_96 : decode cX10_fits 96 = .ok (.iconst 4, 1) := by decide +kernel
theorem dX10_fits_97 : decode cX10_fits 97 = .ok (.iload_n 1, 1) := by decide +kernel
theorem dX10_fits_98 : decode cX10_fits 98 = .ok (.imul, 1) := by decide +kernel
theorem dX10_fits_99 : decode cX10_fits 99 = .ok (.iload_n 3, 1) := by decide +kernel
theorem dX10_fits_100 : decode cX10_fits 100 = .ok (.iadd, 1) := by decide +kernel
theorem dX10_fits_101 : decode cX10_fits 101 = .ok (.iaload, 1) := by decide +kernel
theorem dX10_fits_102 : decode cX10_fits 102 = .ok (.if_icmp .ne 118, 3) := by decide +kernel
theorem dX10_fits_105 : decode cX10_fits 105 = .ok (.aload_n 0, 1) := by decide +kernel
theorem dX10_fits_106 : decode cX10_fits 106 = .ok (.getfield 42, 3) := by decide +kernel
theorem dX10_fits_109 : decode cX10_fits 109 = .ok (.iload 5, 2) := by decide +kernel
theorem dX10_fits_111 : decode cX10_fits 111 = .ok (.iaload, 1) := by decide +kernel
theorem dX10_fits_112 : decode cX10_fits 112 = .ok (.bipush 40, 2) := by decide +kernel
theorem dX10_fits_114 : decode cX10_fits 114 = .ok (.if_icmp .lt 6, 3) := by decide +kernel
theorem dX10_fits_117 : decode cX10_fits 117 = .ok (.goto 103, 3) := by decide +kernel
theorem dX10_fits_120 : decode cX10_fits 120 = .ok (.aload_n 0, 1) := by decide +kernel
theorem dX10_fits_121 : decode cX10_fits 121 = .ok (.getfield 45, 3) := by decide +kernel
theorem dX10_fits_124 : decode cX10_fits 124 = .ok (.aload_n 0, 1) := by decide +kernel
theorem dX10_fits_125 : decode cX10_fits 125 = .ok (.getfield 42, 3) := by decide +kernel
theorem dX10_fits_128 : decode cX10_fits 128 = .ok (.iload 5, 2) := by decide +kernel
theorem dX10_fits_130 : decode cX10_fits 130 = .ok (.iaload, 1) := by decide +kernel
theorem dX10_fits_131 : decode cX10_fits 131 = .ok (.iaload, 1) := by decide +kernel
theorem dX10_fits_132 : decode cX10_fits 132 = .ok (.istore 6, 2) := by decide +kernel
theorem dX10_fits_134 : decode cX10_fits 134 = .ok (.iload 4, 2) := by decide +kernel
theorem dX10_fits_136 : decode cX10_fits 136 = .ok (.ifCond .lt 27, 3) := by decide +kernel
theorem dX10_fits_139 : decode cX10_fits 139 = .ok (.aload_n 0, 1) := by decide +kernel
theorem dX10_fits_140 : decode cX10_fits 140 = .ok (.getfield 45, 3) := by decide +kernel
theorem dX10_fits_143 : decode cX10_fits 143 = .ok (.iload 4, 2) := by decide +kernel
theorem dX10_fits_145 : decode cX10_fits 145 = .ok (.iaload, 1) := by decide +kernel
theorem dX10_fits_146 : decode cX10_fits 146 = .ok (.iload 6, 2) := by decide +kernel
theorem dX10_fits_148 : decode cX10_fits 148 = .ok (.if_icmp .ne 72, 3) := by decide +kernel
theorem dX10_fits_151 : decode cX10_fits 151 = .ok (.aload_n 0, 1) := by decide +kernel
theorem dX10_fits_152 : decode cX10_fits 152 = .ok (.iload_n 1, 1) := by decide +kernel
theorem dX10_fits_153 : decode cX10_fits 153 = .ok (.iload_n 2, 1) := by decide +kernel
theorem dX10_fits_154 : decode cX10_fits 154 = .ok (.iload_n 3, 1) := by decide +kernel
theorem dX10_fits_155 : decode cX10_fits 155 = .ok (.iconst 1, 1) := by decide +kernel
theorem dX10_fits_156 : decode cX10_fits 156 = .ok (.iadd, 1) := by decide +kernel
theorem dX10_fits_157 : decode cX10_fits 157 = .ok (.invokevirtual 235, 3) := by decide +kernel
theorem dX10_fits_160 : decode cX10_fits 160 = .ok (.goto 60, 3) := by decide +kernel
theorem dX10_fits_163 : decode cX10_fits 163 = .ok (.iconst (-1), 1) := by decide +kernel
theorem dX10_fits_164 : decode cX10_fits 164 = .ok (.iload 4, 2) := by decide +kernel
theorem dX10_fits_166 : decode cX10_fits 166 = .ok (.isub, 1) := by decide +kernel
theorem dX10_fits_167 : decode cX10_fits 167 = .ok (.istore 7, 2) := by decide +kernel
theorem dX10_fits_169 : decode cX10_fits 169 = .ok (.aload_n 0, 1) := by decide +kernel
theorem dX10_fits_170 : decode cX10_fits 170 = .ok (.getfield 86, 3) := by decide +kernel
theorem dX10_fits_173 : decode cX10_fits 173 = .ok (.iload 7, 2) := by decide +kernel
theorem dX10_fits_175 : decode cX10_fits 175 = .ok (.iaload, 1) := by decide +kernel
theorem dX10_fits_176 : decode cX10_fits 176 = .ok (.istore 8, 2) := by decide +kernel
theorem dX10_fits_178 : decode cX10_fits 178 = .ok (.iload 8, 2) := by decide +kernel
theorem dX10_fits_180 : decode cX10_fits 180 = .ok (.ifCond .lt 13, 3) := by decide +kernel
theorem dX10_fits_183 : decode cX10_fits 183 = .ok (.iload 8, 2) := by decide +kernel
theorem dX10_fits_185 : decode cX10_fits 185 = .ok (.iload 6, 2) := by decide +kernel
theorem dX10_fits_187 : decode cX10_fits 187 = .ok (.if_icmp .eq 6, 3) := by decide +kernel
theorem dX10_fits_190 : decode cX10_fits 190 = .ok (.goto 30, 3) := by decide +kernel
theorem dX10_fits_193 : decode cX10_fits 193 = .ok (.aload_n 0, 1) := by decide +kernel
theorem dX10_fits_194 : decode cX10_fits 194 = .ok (.getfield 86, 3) := by decide +kernel
theorem dX10_fits_197 : decode cX10_fits 197 = .ok (.iload 7, 2) := by decide +kernel
theorem dX10_fits_199 : decode cX10_fits 199 = .ok (.iload 6, 2) := by decide +kernel
theorem dX10_fits_201 : decode cX10_fits 201 = .ok (.iastore, 1) := by decide +kernel
theorem dX10_fits_202 : decode cX10_fits 202 = .ok (.aload_n 0, 1) := by decide +kernel
theorem dX10_fits_203 : decode cX10_fits 203 = .ok (.iload_n 1, 1) := by decide +kernel
theorem dX10_fits_204 : decode cX10_fits 204 = .ok (.iload_n 2, 1) := by decide +kernel
theorem dX10_fits_205 : decode cX10_fits 205 = .ok (.iload_n 3, 1) := by decide +kernel
theorem dX10_fits_206 : decode cX10_fits 206 = .ok (.iconst 1, 1) := by decide +kernel
theorem dX10_fits_207 : decode cX10_fits 207 = .ok (.iadd, 1) := by decide +kernel
theorem dX10_fits_208 : decode cX10_fits 208 = .ok (.invokevirtual 235, 3) := by decide +kernel
theorem dX10_fits_211 : decode cX10_fits 211 = .ok (.aload_n 0, 1) := by decide +kernel
theorem dX10_fits_212 : decode cX10_fits 212 = .ok (.getfield 86, 3) := by decide +kernel
theorem dX10_fits_215 : decode cX10_fits 215 = .ok (.iload 7, 2) := by decide +kernel
theorem dX10_fits_217 : decode cX10_fits 217 = .ok (.iload 8, 2) := by decide +kernel
theorem dX10_fits_219 : decode cX10_fits 219 = .ok (.iastore, 1) := by decide +kernel
theorem dX10_fits_220 : decode cX10_fits 220 = .ok (.iinc 5 1, 3) := by decide +kernel
theorem dX10_fits_223 : decode cX10_fits 223 = .ok (.goto (-154), 3) := by decide +kernel
theorem dX10_fits_226 : decode cX10_fits 226 = .ok (.return_, 1) := by decide +kernel
theorem dX10_asks_0 : decode cX10_asks 0 = .ok (.iconst 0, 1) := by decide +kernel
theorem dX10_asks_1 : decode cX10_asks 1 = .ok (.istore_n 2, 1) := by decide +kernel
theorem dX10_asks_2 : decode cX10_asks 2 = .ok (.iload_n 2, 1) := by decide +kernel
theorem dX10_asks_3 : decode cX10_asks 3 = .ok (.aload_n 0, 1) := by decide +kernel
theorem dX10_asks_4 : decode cX10_asks 4 = .ok (.getfield 226, 3) := by decide +kernel
theorem dX10_asks_7 : decode cX10_asks 7 = .ok (.ldc 239, 2) := by decide +kernel
theorem dX10_asks_9 : decode cX10_asks 9 = .ok (.imul, 1) := by decide +kernel
theorem dX10_asks_10 : decode cX10_asks 10 = .ok (.if_icmp .ge 16, 3) := by decide +kernel
theorem dX10_asks_13 : decode cX10_asks 13 = .ok (.aload_n 0, 1) := by decide +kernel
theorem dX10_asks_14 : decode cX10_asks 14 = .ok (.getfield 83, 3) := by decide +kernel
theorem dX10_asks_17 : decode cX10_asks 17 = .ok (.iload_n 2, 1) := by decide +kernel
theorem dX10_asks_18 : decode cX10_asks 18 = .ok (.iconst 0, 1) := by decide +kernel
theorem dX10_asks_19 : decode cX10_asks 19 = .ok (.bastore, 1) := by decide +kernel
theorem dX10_asks_20 : decode cX10_asks 20 = .ok (.iinc 2 1, 3) := by decide +kernel
theorem dX10_asks_23 : decode cX10_asks 23 = .ok (.goto (-21), 3) := by decide +kernel
theorem dX10_asks_26 : decode cX10_asks 26 = .ok (.iconst 0, 1) := by decide +kernel
theorem dX10_asks_27 : decode cX10_asks 27 = .ok (.istore_n 2, 1) := by decide +kernel
theorem dX10_asks_28 : decode cX10_asks 28 = .ok (.iload_n 2, 1) := by decide +kernel
theorem dX10_asks_29 : decode cX10_asks 29 = .ok (.iconst 3, 1) := by decide +kernel
theorem dX10_asks_30 : decode cX10_asks 30 = .ok (.if_icmp .ge 16, 3) := by decide +kernel
theorem dX10_asks_33 : decode cX10_asks 33 = .ok (.aload_n 0, 1) := by decide +kernel
theorem dX10_asks_34 : decode cX10_asks 34 = .ok (.getfield 86, 3) := by decide +kernel
theorem dX10_asks_37 : decode cX10_asks 37 = .ok (.iload_n 2, 1) := by decide +kernel
theorem dX10_asks_38 : decode cX10_asks 38 = .ok (.iconst (-1), 1) := by decide +kernel
theorem dX10_asks_39 : decode cX10_asks 39 = .ok (.iastore, 1) := by decide +kernel
theorem dX10_asks_40 : decode cX10_asks 40 = .ok (.iinc 2 1, 3) := by decide +kernel
theorem dX10_asks_43 : decode cX10_asks 43 = .ok (.goto (-15), 3) := by decide +kernel
theorem dX10_asks_46 : decode cX10_asks 46 = .ok (.iconst 0, 1) := by decide +kernel
theorem dX10_asks_47 : decode cX10_asks 47 = .ok (.istore_n 2, 1) := by decide +kernel
theorem dX10_asks_48 : decode cX10_asks 48 = .ok (.iload_n 2, 1) := by decide +kernel
theorem dX10_asks_49 : decode cX10_asks 49 = .ok (.aload_n 0, 1) := by decide +kernel
theorem dX10_asks_50 : decode cX10_asks 50 = .ok (.getfield 226, 3) := by decide +kernel
theorem dX10_asks_53 : decode cX10_asks 53 = .ok (.if_icmp .ge 56, 3) := by decide +kernel
theorem dX10_asks_56 : decode cX10_asks 56 = .ok (.iconst 0, 1) := by decide +kernel
theorem dX10_asks_57 : decode cX10_asks 57 = .ok (.istore_n 3, 1) := by decide +kernel
theorem dX10_asks_58 : decode cX10_asks 58 = .ok (.iload_n 3, 1) := by decide +kernel
theorem dX10_asks_59 : decode cX10_asks 59 = .ok (.aload_n 0, 1) := by decide +kernel
theorem dX10_asks_60 : decode cX10_asks 60 = .ok (.getfield 108, 3) := by decide +kernel
theorem dX10_asks_63 : decode cX10_asks 63 = .ok (.if_icmp .ge 40, 3) := by decide +kernel
theorem dX10_asks_66 : decode cX10_asks 66 = .ok (.aload_n 0, 1) := by decide +kernel
theorem dX10_asks_67 : decode cX10_asks 67 = .ok (.getfield 27, 3) := by decide +kernel
theorem dX10_asks_70 : decode cX10_asks 70 = .ok (.iload_n 3, 1) := by decide +kernel
theorem dX10_asks_71 : decode cX10_asks 71 = .ok (.iaload, 1) := by decide +kernel
theorem dX10_asks_72 : decode cX10_asks 72 = .ok (.aload_n 0, 1) := by decide +kernel
theorem dX10_asks_73 : decode cX10_asks 73 = .ok (.getfield 57, 3) := by decide +kernel
theorem dX10_asks_76 : decode cX10_asks 76 = .ok (.iload_n 2, 1) := by decide +kernel
theorem dX10_asks_77 : decode cX10_asks 77 = .ok (.iaload, 1) := by decide +kernel
theorem dX10_asks_78 : decode cX10_asks 78 = .ok (.if_icmp .ne 19, 3) := by decide +kernel
theorem dX10_asks_81 : decode cX10_asks 81 = .ok (.aload_n 0, 1) := by decide +kernel
theorem dX10_asks_82 : decode cX10_asks 82 = .ok (.iload_n 3, 1) := by decide +kernel
theorem dX10_asks_83 : decode cX10_asks 83 = .ok (.iload_n 1, 1) := by decide +kernel
theorem dX10_asks_84 : decode cX10_asks 84 = .ok (.invokevirtual 128, 3) := by decide +kernel
theorem dX10_asks_87 : decode cX10_asks 87 = .ok (.ifCond .eq 10, 3) := by decide +kernel
theorem dX10_asks_90 : decode cX10_asks 90 = .ok (.aload_n 0, 1) := by decide +kernel
theorem dX10_asks_91 : decode cX10_asks 91 = .ok (.iload_n 2, 1) := by decide +kernel
theorem dX10_asks_92 : decode cX10_asks 92 = .ok (.iload_n 3, 1) := by decide +kernel
theorem dX10_asks_93 : decode cX10_asks 93 = .ok (.iconst 0, 1) := by decide +kernel
theorem dX10_asks_94 : decode cX10_asks 94 = .ok (.invokevirtual 235, 3) := by decide +kernel
theorem dX10_asks_97 : decode cX10_asks 97 = .ok (.iinc 3 1, 3) := by decide +kernel
theorem dX10_asks_100 : decode cX10_asks 100 = .ok (.goto (-42), 3) := by decide +kernel
theorem dX10_asks_103 : decode cX10_asks 103 = .ok (.iinc 2 1, 3) := by decide +kernel
theorem dX10_asks_106 : decode cX10_asks 106 = .ok (.goto (-58), 3) := by decide +kernel
theorem dX10_asks_109 : decode cX10_asks 109 = .ok (.return_, 1) := by decide +kernel
theorem dX10_isAnswer_0 : decode cX10_isAnswer 0 = .ok (.iconst 1, 1) := by decide +kernel
theorem dX10_isAnswer_1 : decode cX10_isAnswer 1 = .ok (.istore 4, 2) := by decide +kernel
theorem dX10_isAnswer_3 : decode cX10_isAnswer 3 = .ok (.iconst 0, 1) := by decide +kernel
theorem dX10_isAnswer_4 : decode cX10_isAnswer 4 = .ok (.istore 5, 2) := by decide +kernel
theorem dX10_isAnswer_6 : decode cX10_isAnswer 6 = .ok (.iload 5, 2) := by decide +kernel
theorem dX10_isAnswer_8 : decode cX10_isAnswer 8 = .ok (.aload_n 0, 1) := by decide +kernel
theorem dX10_isAnswer_9 : decode cX10_isAnswer 9 = .ok (.getfield 226, 3) := by decide +kernel
theorem dX10_isAnswer_12 : decode cX10_isAnswer 12 = .ok (.if_icmp .ge 85, 3) := by decide +kernel
theorem dX10_isAnswer_15 : decode cX10_isAnswer 15 = .ok (.iload 4, 2) := by decide +kernel
theorem dX10_isAnswer_17 : decode cX10_isAnswer 17 = .ok (.ifCond .eq 80, 3) := by decide +kernel
theorem dX10_isAnswer_20 : decode cX10_isAnswer 20 = .ok (.aload_n 0, 1) := by decide +kernel
theorem dX10_isAnswer_21 : decode cX10_isAnswer 21 = .ok (.iload 5, 2) := by decide +kernel
theorem dX10_isAnswer_23 : decode cX10_isAnswer 23 = .ok (.invokevirtual 240, 3) := by decide +kernel
theorem dX10_isAnswer_26 : decode cX10_isAnswer 26 = .ok (.istore 6, 2) := by decide +kernel
theorem dX10_isAnswer_28 : decode cX10_isAnswer 28 = .ok (.aload_n 0, 1) := by decide +kernel
theorem dX10_isAnswer_29 : decode cX10_isAnswer 29 = .ok (.getfield 83, 3) := by decide +kernel
theorem dX10_isAnswer_32 : decode cX10_isAnswer 32 = .ok (.iload 5, 2) := by decide +kernel
theorem dX10_isAnswer_34 : decode cX10_isAnswer 34 = .ok (.iload 6, 2) := by decide +kernel
theorem dX10_isAnswer_36 : decode cX10_isAnswer 36 = .ok (.iconst 1, 1) := by decide +kernel
theorem dX10_isAnswer_37 : decode cX10_isAnswer 37 = .ok (.iand, 1) := by decide +kernel
theorem dX10_isAnswer_38 : decode cX10_isAnswer 38 = .ok (.ifCond .ne 7, 3) := by decide +kernel
theorem dX10_isAnswer_41 : decode cX10_isAnswer 41 = .ok (.iconst 0, 1) := by decide +kernel
theorem dX10_isAnswer_42 : decode cX10_isAnswer 42 = .ok (.goto 4, 3) := by decide +kernel
theorem dX10_isAnswer_45 : decode cX10_isAnswer 45 = .ok (.iload_n 1, 1) := by decide +kernel
theorem dX10_isAnswer_46 : decode cX10_isAnswer 46 = .ok (.iload 6, 2) := by decide +kernel
theorem dX10_isAnswer_48 : decode cX10_isAnswer 48 = .ok (.iconst 2, 1) := by decide +kernel
theorem dX10_isAnswer_49 : decode cX10_isAnswer 49 = .ok (.iand, 1) := by decide +kernel
theorem dX10_isAnswer_50 : decode cX10_isAnswer 50 = .ok (.ifCond .ne 7, 3) := by decide +kernel
theorem dX10_isAnswer_53 : decode cX10_isAnswer 53 = .ok (.iconst 0, 1) := by decide +kernel
theorem dX10_isAnswer_54 : decode cX10_isAnswer 54 = .ok (.goto 4, 3) := by decide +kernel
theorem dX10_isAnswer_57 : decode cX10_isAnswer 57 = .ok (.iload_n 2, 1) := by decide +kernel
theorem dX10_isAnswer_58 : decode cX10_isAnswer 58 = .ok (.iload 6, 2) := by decide +kernel
theorem dX10_isAnswer_60 : decode cX10_isAnswer 60 = .ok (.iconst 4, 1) := by decide +kernel
theorem dX10_isAnswer_61 : decode cX10_isAnswer 61 = .ok (.iand, 1) := by decide +kernel
theorem dX10_isAnswer_62 : decode cX10_isAnswer 62 = .ok (.ifCond .ne 7, 3) := by decide +kernel
theorem dX10_isAnswer_65 : decode cX10_isAnswer 65 = .ok (.iconst 0, 1) := by decide +kernel
theorem dX10_isAnswer_66 : decode cX10_isAnswer 66 = .ok (.goto 4, 3) := by decide +kernel
theorem dX10_isAnswer_69 : decode cX10_isAnswer 69 = .ok (.iload_n 3, 1) := by decide +kernel
theorem dX10_isAnswer_70 : decode cX10_isAnswer 70 = .ok (.invokestatic 232, 3) := by decide +kernel
theorem dX10_isAnswer_73 : decode cX10_isAnswer 73 = .ok (.baload, 1) := by decide +kernel
theorem dX10_isAnswer_74 : decode cX10_isAnswer 74 = .ok (.aload_n 0, 1) := by decide +kernel
theorem dX10_isAnswer_75 : decode cX10_isAnswer 75 = .ok (.getfield 60, 3) := by decide +kernel
theorem dX10_isAnswer_78 : decode cX10_isAnswer 78 = .ok (.iload 5, 2) := by decide +kernel
theorem dX10_isAnswer_80 : decode cX10_isAnswer 80 = .ok (.baload, 1) := by decide +kernel
theorem dX10_isAnswer_81 : decode cX10_isAnswer 81 = .ok (.if_icmp .eq 7, 3) := by decide +kernel
theorem dX10_isAnswer_84 : decode cX10_isAnswer 84 = .ok (.iconst 1, 1) := by decide +kernel
theorem dX10_isAnswer_85 : decode cX10_isAnswer 85 = .ok (.goto 4, 3) := by decide +kernel
theorem dX10_isAnswer_88 : decode cX10_isAnswer 88 = .ok (.iconst 0, 1) := by decide +kernel
theorem dX10_isAnswer_89 : decode cX10_isAnswer 89 = .ok (.istore 4, 2) := by decide +kernel
theorem dX10_isAnswer_91 : decode cX10_isAnswer 91 = .ok (.iinc 5 1, 3) := by decide +kernel
theorem dX10_isAnswer_94 : decode cX10_isAnswer 94 = .ok (.goto (-88), 3) := by decide +kernel
theorem dX10_isAnswer_97 : decode cX10_isAnswer 97 = .ok (.iload 4, 2) := by decide +kernel
theorem dX10_isAnswer_99 : decode cX10_isAnswer 99 = .ok (.ireturn, 1) := by decide +kernel
theorem dX10_isOpen_0 : decode cX10_isOpen 0 = .ok (.aload_n 0, 1) := by decide +kernel
theorem dX10_isOpen_1 : decode cX10_isOpen 1 = .ok (.getfield 229, 3) := by decide +kernel
theorem dX10_isOpen_4 : decode cX10_isOpen 4 = .ok (.iload_n 1, 1) := by decide +kernel
theorem dX10_isOpen_5 : decode cX10_isOpen 5 = .ok (.ishr, 1) := by decide +kernel
theorem dX10_isOpen_6 : decode cX10_isOpen 6 = .ok (.iconst 1, 1) := by decide +kernel
theorem dX10_isOpen_7 : decode cX10_isOpen 7 = .ok (.iand, 1) := by decide +kernel
theorem dX10_isOpen_8 : decode cX10_isOpen 8 = .ok (.iconst 1, 1) := by decide +kernel
theorem dX10_isOpen_9 : decode cX10_isOpen 9 = .ok (.if_icmp .ne 21, 3) := by decide +kernel
theorem dX10_isOpen_12 : decode cX10_isOpen 12 = .ok (.aload_n 0, 1) := by decide +kernel
theorem dX10_isOpen_13 : decode cX10_isOpen 13 = .ok (.getfield 45, 3) := by decide +kernel
theorem dX10_isOpen_16 : decode cX10_isOpen 16 = .ok (.iload_n 2, 1) := by decide +kernel
theorem dX10_isOpen_17 : decode cX10_isOpen 17 = .ok (.iaload, 1) := by decide +kernel
theorem dX10_isOpen_18 : decode cX10_isOpen 18 = .ok (.iload_n 2, 1) := by decide +kernel
theorem dX10_isOpen_19 : decode cX10_isOpen 19 = .ok (.if_icmp .ne 7, 3) := by decide +kernel
theorem dX10_isOpen_22 : decode cX10_isOpen 22 = .ok (.iconst 1, 1) := by decide +kernel
theorem dX10_isOpen_23 : decode cX10_isOpen 23 = .ok (.goto 16, 3) := by decide +kernel
theorem dX10_isOpen_26 : decode cX10_isOpen 26 = .ok (.iconst 0, 1) := by decide +kernel
theorem dX10_isOpen_27 : decode cX10_isOpen 27 = .ok (.goto 12, 3) := by decide +kernel
theorem dX10_isOpen_30 : decode cX10_isOpen 30 = .ok (.iload_n 2, 1) := by decide +kernel
theorem dX10_isOpen_31 : decode cX10_isOpen 31 = .ok (.ifCond .ne 7, 3) := by decide +kernel
theorem dX10_isOpen_34 : decode cX10_isOpen 34 = .ok (.iconst 1, 1) := by decide +kernel
theorem dX10_isOpen_35 : decode cX10_isOpen 35 = .ok (.goto 4, 3) := by decide +kernel
theorem dX10_isOpen_38 : decode cX10_isOpen 38 = .ok (.iconst 0, 1) := by decide +kernel
theorem dX10_isOpen_39 : decode cX10_isOpen 39 = .ok (.ireturn, 1) := by decide +kernel
theorem dX10_goes_0 : decode cX10_goes 0 = .ok (.aload_n 0, 1) := by decide +kernel
theorem dX10_goes_1 : decode cX10_goes 1 = .ok (.getfield 226, 3) := by decide +kernel
theorem dX10_goes_4 : decode cX10_goes 4 = .ok (.ifCond .ne 5, 3) := by decide +kernel
theorem dX10_goes_7 : decode cX10_goes 7 = .ok (.iconst 0, 1) := by decide +kernel
theorem dX10_goes_8 : decode cX10_goes 8 = .ok (.ireturn, 1) := by decide +kernel
theorem dX10_goes_9 : decode cX10_goes 9 = .ok (.aload_n 0, 1) := by decide +kernel
theorem dX10_goes_10 : decode cX10_goes 10 = .ok (.iload_n 1, 1) := by decide +kernel
theorem dX10_goes_11 : decode cX10_goes 11 = .ok (.invokevirtual 243, 3) := by decide +kernel
theorem dX10_goes_14 : decode cX10_goes 14 = .ok (.iconst 0, 1) := by decide +kernel
theorem dX10_goes_15 : decode cX10_goes 15 = .ok (.istore_n 3, 1) := by decide +kernel
theorem dX10_goes_16 : decode cX10_goes 16 = .ok (.iconst 0, 1) := by decide +kernel
theorem dX10_goes_17 : decode cX10_goes 17 = .ok (.istore 4, 2) := by decide +kernel
theorem dX10_goes_19 : decode cX10_goes 19 = .ok (.iload 4, 2) := by decide +kernel
theorem dX10_goes_21 : decode cX10_goes 21 = .ok (.bipush 40, 2) := by decide +kernel
theorem dX10_goes_23 : decode cX10_goes 23 = .ok (.if_icmp .ge 121, 3) := by decide +kernel
theorem dX10_goes_26 : decode cX10_goes 26 = .ok (.iconst 0, 1) := by decide +kernel
theorem dX10_goes_27 : decode cX10_goes 27 = .ok (.istore 5, 2) := by decide +kernel
theorem dX10_goes_29 : decode cX10_goes 29 = .ok (.iload 5, 2) := by decide +kernel
theorem dX10_goes_31 : decode cX10_goes 31 = .ok (.bipush 40, 2) := by decide +kernel
theorem dX10_goes_33 : decode cX10_goes 33 = .ok (.if_icmp .ge 105, 3) := by decide +kernel
theorem dX10_goes_36 : decode cX10_goes 36 = .ok (.aload_n 0, 1) := by decide +kernel
theorem dX10_goes_37 : decode cX10_goes 37 = .ok (.iconst 0, 1) := by decide +kernel
theorem dX10_goes_38 : decode cX10_goes 38 = .ok (.iload 4, 2) := by decide +kernel
theorem dX10_goes_40 : decode cX10_goes 40 = .ok (.invokevirtual 247, 3) := by decide +kernel
theorem dX10_goes_43 : decode cX10_goes 43 = .ok (.ifCond .eq 95, 3) := by decide +kernel
theorem dX10_goes_46 : decode cX10_goes 46 = .ok (.iconst 0, 1) := by decide +kernel
theorem dX10_goes_47 : decode cX10_goes 47 = .ok (.istore 6, 2) := by decide +kernel
theorem dX10_goes_49 : decode cX10_goes 49 = .ok (.iload 6, 2) := by decide +kernel
theorem dX10_goes_51 : decode cX10_goes 51 = .ok (.bipush 40, 2) := by decide +kernel
theorem dX10_goes_53 : decode cX10_goes 53 = .ok (.if_icmp .ge 79, 3) := by decide +kernel
theorem dX10_goes_56 : decode cX10_goes 56 = .ok (.aload_n 0, 1) := by decide +kernel
theorem dX10_goes_57 : decode cX10_goes 57 = .ok (.iconst 1, 1) := by decide +kernel
theorem dX10_goes_58 : decode cX10_goes 58 = .ok (.iload 5, 2) := by decide +kernel
theorem dX10_goes_60 : decode cX10_goes 60 = .ok (.invokevirtual 247, 3) := by decide +kernel
theorem dX10_goes_63 : decode cX10_goes 63 = .ok (.ifCond .eq 69, 3) := by decide +kernel
theorem dX10_goes_66 : decode cX10_goes 66 = .ok (.aload_n 0, 1) := by decide +kernel
theorem dX10_goes_67 : decode cX10_goes 67 = .ok (.iconst 2, 1) := by decide +kernel
theorem dX10_goes_68 : decode cX10_goes 68 = .ok (.iload 6, 2) := by decide +kernel
theorem dX10_goes_70 : decode cX10_goes 70 = .ok (.invokevirtual 247, 3) := by decide +kernel
theorem dX10_goes_73 : decode cX10_goes 73 = .ok (.ifCond .eq 53, 3) := by decide +kernel
theorem dX10_goes_76 : decode cX10_goes 76 = .ok (.aload_n 0, 1) := by decide +kernel
theorem dX10_goes_77 : decode cX10_goes 77 = .ok (.iload 4, 2) := by decide +kernel
theorem dX10_goes_79 : decode cX10_goes 79 = .ok (.iload 5, 2) := by decide +kernel
theorem dX10_goes_81 : decode cX10_goes 81 = .ok (.iload 6, 2) := by decide +kernel
theorem dX10_goes_83 : decode cX10_goes 83 = .ok (.invokevirtual 250, 3) := by decide +kernel
theorem dX10_goes_86 : decode cX10_goes 86 = .ok (.ifCond .ne 6, 3) := by decide +kernel
theorem dX10_goes_89 : decode cX10_goes 89 = .ok (.goto 37, 3) := by decide +kernel
theorem dX10_goes_92 : decode cX10_goes 92 = .ok (.iload_n 3, 1) := by decide +kernel
theorem dX10_goes_93 : decode cX10_goes 93 = .ok (.iload_n 2, 1) := by decide +kernel
theorem dX10_goes_94 : decode cX10_goes 94 = .ok (.if_icmp .ne 29, 3) := by decide +kernel
theorem dX10_goes_97 : decode cX10_goes 97 = .ok (.aload_n 0, 1) := by decide +kernel
theorem dX10_goes_98 : decode cX10_goes 98 = .ok (.getfield 89, 3) := by decide +kernel
theorem dX10_goes_101 : decode cX10_goes 101 = .ok (.iconst 0, 1) := by decide +kernel
theorem dX10_goes_102 : decode cX10_goes 102 = .ok (.iload 4, 2) := by decide +kernel
theorem dX10_goes_104 : decode cX10_goes 104 = .ok (.iastore, 1) := by decide +kernel
theorem dX10_goes_105 : decode cX10_goes 105 = .ok (.aload_n 0, 1) := by decide +kernel
theorem dX10_goes_106 : decode cX10_goes 106 = .ok (.getfield 89, 3) := by decide +kernel
theorem dX10_goes_109 : decode cX10_goes 109 = .ok (.iconst 1, 1) := by decide +kernel
theorem dX10_goes_110 : decode cX10_goes 110 = .ok (.iload 5, 2) := by decide +kernel
theorem dX10_goes_112 : decode cX10_goes 112 = .ok (.iastore, 1) := by decide +kernel
theorem dX10_goes_113 : decode cX10_goes 113 = .ok (.aload_n 0, 1) := by decide +kernel
theorem dX10_goes_114 : decode cX10_goes 114 = .ok (.getfield 89, 3) := by decide +kernel
theorem dX10_goes_117 : decode cX10_goes 117 = .ok (.iconst 2, 1) := by decide +kernel
theorem dX10_goes_118 : decode cX10_goes 118 = .ok (.iload 6, 2) := by decide +kernel
theorem dX10_goes_120 : decode cX10_goes 120 = .ok (.iastore, 1) := by decide +kernel
theorem dX10_goes_121 : decode cX10_goes 121 = .ok (.iload_n 3, 1) := by decide +kernel
theorem dX10_goes_122 : decode cX10_goes 122 = .ok (.ireturn, 1) := by decide +kernel
theorem dX10_goes_123 : decode cX10_goes 123 = .ok (.iinc 3 1, 3) := by decide +kernel
theorem dX10_goes_126 : decode cX10_goes 126 = .ok (.iinc 6 1, 3) := by decide +kernel
theorem dX10_goes_129 : decode cX10_goes 129 = .ok (.goto (-80), 3) := by decide +kernel
theorem dX10_goes_132 : decode cX10_goes 132 = .ok (.iinc 5 1, 3) := by decide +kernel
theorem dX10_goes_135 : decode cX10_goes 135 = .ok (.goto (-106), 3) := by decide +kernel
theorem dX10_goes_138 : decode cX10_goes 138 = .ok (.iinc 4 1, 3) := by decide +kernel
theorem dX10_goes_141 : decode cX10_goes 141 = .ok (.goto (-122), 3) := by decide +kernel
theorem dX10_goes_144 : decode cX10_goes 144 = .ok (.iload_n 3, 1) := by decide +kernel
theorem dX10_goes_145 : decode cX10_goes 145 = .ok (.ireturn, 1) := by decide +kernel
theorem dX10_answers_0 : decode cX10_answers 0 = .ok (.aload_n 0, 1) := by decide +kernel
theorem dX10_answers_1 : decode cX10_answers 1 = .ok (.iconst 0, 1) := by decide +kernel
theorem dX10_answers_2 : decode cX10_answers 2 = .ok (.putfield 3, 3) := by decide +kernel
theorem dX10_answers_5 : decode cX10_answers 5 = .ok (.aload_n 0, 1) := by decide +kernel
theorem dX10_answers_6 : decode cX10_answers 6 = .ok (.iload_n 1, 1) := by decide +kernel
theorem dX10_answers_7 : decode cX10_answers 7 = .ok (.iconst (-1), 1) := by decide +kernel
theorem dX10_answers_8 : decode cX10_answers 8 = .ok (.invokevirtual 253, 3) := by decide +kernel
theorem dX10_answers_11 : decode cX10_answers 11 = .ok (.ireturn, 1) := by decide +kernel
theorem dX10_answer_0 : decode cX10_answer 0 = .ok (.aload_n 0, 1) := by decide +kernel
theorem dX10_answer_1 : decode cX10_answer 1 = .ok (.iconst 0, 1) := by decide +kernel
theorem dX10_answer_2 : decode cX10_answer 2 = .ok (.putfield 3, 3) := by decide +kernel
theorem dX10_answer_5 : decode cX10_answer 5 = .ok (.iload_n 2, 1) := by decide +kernel
theorem dX10_answer_6 : decode cX10_answer 6 = .ok (.ifCond .lt 23, 3) := by decide +kernel
theorem dX10_answer_9 : decode cX10_answer 9 = .ok (.iload_n 3, 1) := by decide +kernel
theorem dX10_answer_10 : decode cX10_answer 10 = .ok (.iconst 0, 1) := by decide +kernel
theorem dX10_answer_11 : decode cX10_answer 11 = .ok (.iconst 2, 1) := by decide +kernel
theorem dX10_answer_12 : decode cX10_answer 12 = .ok (.invokestatic 104, 3) := by decide +kernel
theorem dX10_answer_15 : decode cX10_answer 15 = .ok (.ifCond .eq 14, 3) := by decide +kernel
theorem dX10_answer_18 : decode cX10_answer 18 = .ok (.aload_n 0, 1) := by decide +kernel
theorem dX10_answer_19 : decode cX10_answer 19 = .ok (.getfield 229, 3) := by decide +kernel
theorem dX10_answer_22 : decode cX10_answer 22 = .ok (.iload_n 3, 1) := by decide +kernel
theorem dX10_answer_23 : decode cX10_answer 23 = .ok (.ishr, 1) := by decide +kernel
theorem dX10_answer_24 : decode cX10_answer 24 = .ok (.iconst 1, 1) := by decide +kernel
theorem dX10_answer_25 : decode cX10_answer 25 = .ok (.iand, 1) := by decide +kernel
theorem dX10_answer_26 : decode cX10_answer 26 = .ok (.ifCond .ne 5, 3) := by decide +kernel
theorem dX10_answer_29 : decode cX10_answer 29 = .ok (.iconst (-1), 1) := by decide +kernel
theorem dX10_answer_30 : decode cX10_answer 30 = .ok (.ireturn, 1) := by decide +kernel
theorem dX10_answer_31 : decode cX10_answer 31 = .ok (.aload_n 0, 1) := by decide +kernel
theorem dX10_answer_32 : decode cX10_answer 32 = .ok (.getfield 89, 3) := by decide +kernel
theorem dX10_answer_35 : decode cX10_answer 35 = .ok (.iconst 0, 1) := by decide +kernel
theorem dX10_answer_36 : decode cX10_answer 36 = .ok (.iconst (-1), 1) := by decide +kernel
theorem dX10_answer_37 : decode cX10_answer 37 = .ok (.iastore, 1) := by decide +kernel
theorem dX10_answer_38 : decode cX10_answer 38 = .ok (.aload_n 0, 1) := by decide +kernel
theorem dX10_answer_39 : decode cX10_answer 39 = .ok (.iload_n 1, 1) := by decide +kernel
theorem dX10_answer_40 : decode cX10_answer 40 = .ok (.iload_n 2, 1) := by decide +kernel
theorem dX10_answer_41 : decode cX10_answer 41 = .ok (.invokevirtual 253, 3) := by decide +kernel
theorem dX10_answer_44 : decode cX10_answer 44 = .ok (.istore 4, 2) := by decide +kernel
theorem dX10_answer_46 : decode cX10_answer 46 = .ok (.aload_n 0, 1) := by decide +kernel
theorem dX10_answer_47 : decode cX10_answer 47 = .ok (.getfield 89, 3) := by decide +kernel
theorem dX10_answer_50 : decode cX10_answer 50 = .ok (.iconst 0, 1) := by decide +kernel
theorem dX10_answer_51 : decode cX10_answer 51 = .ok (.iaload, 1) := by decide +kernel
theorem dX10_answer_52 : decode cX10_answer 52 = .ok (.ifCond .ge 7, 3) := by decide +kernel
theorem dX10_answer_55 : decode cX10_answer 55 = .ok (.iconst (-1), 1) := by decide +kernel
theorem dX10_answer_56 : decode cX10_answer 56 = .ok (.goto 9, 3) := by decide +kernel
theorem dX10_answer_59 : decode cX10_answer 59 = .ok (.aload_n 0, 1) := by decide +kernel
theorem dX10_answer_60 : decode cX10_answer 60 = .ok (.getfield 89, 3) := by decide +kernel
theorem dX10_answer_63 : decode cX10_answer 63 = .ok (.iload_n 3, 1) := by decide +kernel
theorem dX10_answer_64 : decode cX10_answer 64 = .ok (.iaload, 1) := by decide +kernel
theorem dX10_answer_65 : decode cX10_answer 65 = .ok (.ireturn, 1) := by decide +kernel
theorem dX10_touches_0 : decode cX10_touches 0 = .ok (.iconst 0, 1) := by decide +kernel
theorem dX10_touches_1 : decode cX10_touches 1 = .ok (.istore_n 2, 1) := by decide +kernel
theorem dX10_touches_2 : decode cX10_touches 2 = .ok (.bipush 6, 2) := by decide +kernel
theorem dX10_touches_4 : decode cX10_touches 4 = .ok (.iload_n 1, 1) := by decide +kernel
theorem dX10_touches_5 : decode cX10_touches 5 = .ok (.imul, 1) := by decide +kernel
theorem dX10_touches_6 : decode cX10_touches 6 = .ok (.istore_n 3, 1) := by decide +kernel
theorem dX10_touches_7 : decode cX10_touches 7 = .ok (.iload_n 3, 1) := by decide +kernel
theorem dX10_touches_8 : decode cX10_touches 8 = .ok (.bipush 6, 2) := by decide +kernel
theorem dX10_touches_10 : decode cX10_touches 10 = .ok (.iload_n 1, 1) := by decide +kernel
theorem dX10_touches_11 : decode cX10_touches 11 = .ok (.imul, 1) := by decide +kernel
theorem dX10_touches_12 : decode cX10_touches 12 = .ok (.aload_n 0, 1) := by decide +kernel
theorem dX10_touches_13 : decode cX10_touches 13 = .ok (.getfield 36, 3) := by decide +kernel
theorem dX10_touches_16 : decode cX10_touches 16 = .ok (.iload_n 1, 1) := by decide +kernel
theorem dX10_touches_17 : decode cX10_touches 17 = .ok (.iaload, 1) := by decide +kernel
theorem dX10_touches_18 : decode cX10_touches 18 = .ok (.iadd, 1) := by decide +kernel
theorem dX10_touches_19 : decode cX10_touches 19 = .ok (.if_icmp .ge 49, 3) := by decide +kernel
theorem dX10_touches_22 : decode cX10_touches 22 = .ok (.iload_n 2, 1) := by decide +kernel
theorem dX10_touches_23 : decode cX10_touches 23 = .ok (.ifCond .ne 33, 3) := by decide +kernel
theorem dX10_touches_26 : decode cX10_touches 26 = .ok (.aload_n 0, 1) := by decide +kernel
theorem dX10_touches_27 : decode cX10_touches 27 = .ok (.getfield 42, 3) := by decide +kernel
theorem dX10_touches_30 : decode cX10_touches 30 = .ok (.iload_n 3, 1) := by decide +kernel
theorem dX10_touches_31 : decode cX10_touches 31 = .ok (.iaload, 1) := by decide +kernel
theorem dX10_touches_32 : decode cX10_touches 32 = .ok (.bipush 40, 2) := by decide +kernel
theorem dX10_touches_34 : decode cX10_touches 34 = .ok (.if_icmp .ge 26, 3) := by decide +kernel
theorem dX10_touches_37 : decode cX10_touches 37 = .ok (.aload_n 0, 1) := by decide +kernel
theorem dX10_touches_38 : decode cX10_touches 38 = .ok (.getfield 92, 3) := by decide +kernel
theorem dX10_touches_41 : decode cX10_touches 41 = .ok (.aload_n 0, 1) := by decide +kernel
theorem dX10_touches_42 : decode cX10_touches 42 = .ok (.getfield 45, 3) := by decide +kernel
theorem dX10_touches_45 : decode cX10_touches 45 = .ok (.aload_n 0, 1) := by decide +kernel
theorem dX10_touches_46 : decode cX10_touches 46 = .ok (.getfield 42, 3) := by decide +kernel
theorem dX10_touches_49 : decode cX10_touches 49 = .ok (.iload_n 3, 1) := by decide +kernel
theorem dX10_touches_50 : decode cX10_touches 50 = .ok (.iaload, 1) := by decide +kernel
theorem dX10_touches_51 : decode cX10_touches 51 = .ok (.iaload, 1) := by decide +kernel
theorem dX10_touches_52 : decode cX10_touches 52 = .ok (.baload, 1) := by decide +kernel
theorem dX10_touches_53 : decode cX10_touches 53 = .ok (.ifCond .eq 7, 3) := by decide +kernel
theorem dX10_touches_56 : decode cX10_touches 56 = .ok (.iconst 1, 1) := by decide +kernel
theorem dX10_touches_57 : decode cX10_touches 57 = .ok (.goto 4, 3) := by decide +kernel
theorem dX10_touches_60 : decode cX10_touches 60 = .ok (.iconst 0, 1) := by decide +kernel
theorem dX10_touches_61 : decode cX10_touches 61 = .ok (.istore_n 2, 1) := by decide +kernel
theorem dX10_touches_62 : decode cX10_touches 62 = .ok (.iinc 3 1, 3) := by decide +kernel
theorem dX10_touches_65 : decode cX10_touches 65 = .ok (.goto (-58), 3) := by decide +kernel
theorem dX10_touches_68 : decode cX10_touches 68 = .ok (.iload_n 2, 1) := by decide +kernel
theorem dX10_touches_69 : decode cX10_touches 69 = .ok (.ireturn, 1) := by decide +kernel
theorem dX10_ways_0 : decode cX10_ways 0 = .ok (.aload_n 0, 1) := by decide +kernel
theorem dX10_ways_1 : decode cX10_ways 1 = .ok (.iconst 0, 1) := by decide +kernel
theorem dX10_ways_2 : decode cX10_ways 2 = .ok (.putfield 3, 3) := by decide +kernel
theorem dX10_ways_5 : decode cX10_ways 5 = .ok (.aload_n 0, 1) := by decide +kernel
theorem dX10_ways_6 : decode cX10_ways 6 = .ok (.iload_n 1, 1) := by decide +kernel
theorem dX10_ways_7 : decode cX10_ways 7 = .ok (.invokestatic 125, 3) := by decide +kernel
theorem dX10_ways_10 : decode cX10_ways 10 = .ok (.ifCond .ne 10, 3) := by decide +kernel
theorem dX10_ways_13 : decode cX10_ways 13 = .ok (.iload_n 2, 1) := by decide +kernel
theorem dX10_ways_14 : decode cX10_ways 14 = .ok (.invokestatic 125, 3) := by decide +kernel
theorem dX10_ways_17 : decode cX10_ways 17 = .ok (.ifCond .eq 7, 3) := by decide +kernel
theorem dX10_ways_20 : decode cX10_ways 20 = .ok (.iconst 1, 1) := by decide +kernel
theorem dX10_ways_21 : decode cX10_ways 21 = .ok (.goto 4, 3) := by decide +kernel
theorem dX10_ways_24 : decode cX10_ways 24 = .ok (.iconst 0, 1) := by decide +kernel
theorem dX10_ways_25 : decode cX10_ways 25 = .ok (.iconst 1, 1) := by decide +kernel
theorem dX10_ways_26 : decode cX10_ways 26 = .ok (.invokevirtual 118, 3) := by decide +kernel
theorem dX10_ways_29 : decode cX10_ways 29 = .ok (.ifCond .eq 5, 3) := by decide +kernel
theorem dX10_ways_32 : decode cX10_ways 32 = .ok (.iconst 0, 1) := by decide +kernel
theorem dX10_ways_33 : decode cX10_ways 33 = .ok (.ireturn, 1) := by decide +kernel
theorem dX10_ways_34 : decode cX10_ways 34 = .ok (.iconst 0, 1) := by decide +kernel
theorem dX10_ways_35 : decode cX10_ways 35 = .ok (.istore 5, 2) := by decide +kernel
theorem dX10_ways_37 : decode cX10_ways 37 = .ok (.iload 5, 2) := by decide +kernel
theorem dX10_ways_39 : decode cX10_ways 39 = .ok (.bipush 40, 2) := by decide +kernel
theorem dX10_ways_41 : decode cX10_ways 41 = .ok (.if_icmp .ge 17, 3) := by decide +kernel
theorem dX10_ways_44 : decode cX10_ways 44 = .ok (.aload_n 0, 1) := by decide +kernel
theorem dX10_ways_45 : decode cX10_ways 45 = .ok (.getfield 92, 3) := by decide +kernel
theorem dX10_ways_48 : decode cX10_ways 48 = .ok (.iload 5, 2) := by decide +kernel
theorem dX10_ways_50 : decode cX10_ways 50 = .ok (.iconst 0, 1) := by decide +kernel
theorem dX10_ways_51 : decode cX10_ways 51 = .ok (.bastore, 1) := by decide +kernel
theorem dX10_ways_52 : decode cX10_ways 52 = .ok (.iinc 5 1, 3) := by decide +kernel
theorem dX10_ways_55 : decode cX10_ways 55 = .ok (.goto (-18), 3) := by decide +kernel
theorem dX10_ways_58 : decode cX10_ways 58 = .ok (.iconst 0, 1) := by decide +kernel
theorem dX10_ways_59 : decode cX10_ways 59 = .ok (.istore 5, 2) := by decide +kernel
theorem dX10_ways_61 : decode cX10_ways 61 = .ok (.iload 5, 2) := by decide +kernel
theorem dX10_ways_63 : decode cX10_ways 63 = .ok (.aload_n 0, 1) := by decide +kernel
theorem dX10_ways_64 : decode cX10_ways 64 = .ok (.getfield 108, 3) := by decide +kernel
theorem dX10_ways_67 : decode cX10_ways 67 = .ok (.if_icmp .ge 46, 3) := by decide +kernel
theorem dX10_ways_70 : decode cX10_ways 70 = .ok (.aload_n 0, 1) := by decide +kernel
theorem dX10_ways_71 : decode cX10_ways 71 = .ok (.getfield 95, 3) := by decide +kernel
theorem dX10_ways_74 : decode cX10_ways 74 = .ok (.iload 5, 2) := by decide +kernel
theorem dX10_ways_76 : decode cX10_ways 76 = .ok (.iload_n 3, 1) := by decide +kernel
theorem dX10_ways_77 : decode cX10_ways 77 = .ok (.aload_n 0, 1) := by decide +kernel
theorem dX10_ways_78 : decode cX10_ways 78 = .ok (.getfield 27, 3) := by decide +kernel
theorem dX10_ways_81 : decode cX10_ways 81 = .ok (.iload 5, 2) := by decide +kernel
theorem dX10_ways_83 : decode cX10_ways 83 = .ok (.iaload, 1) := by decide +kernel
theorem dX10_ways_84 : decode cX10_ways 84 = .ok (.ishr, 1) := by decide +kernel
theorem dX10_ways_85 : decode cX10_ways 85 = .ok (.iconst 1, 1) := by decide +kernel
theorem dX10_ways_86 : decode cX10_ways 86 = .ok (.iand, 1) := by decide +kernel
theorem dX10_ways_87 : decode cX10_ways 87 = .ok (.ifCond .eq 14, 3) := by decide +kernel
theorem dX10_ways_90 : decode cX10_ways 90 = .ok (.aload_n 0, 1) := by decide +kernel
theorem dX10_ways_91 : decode cX10_ways 91 = .ok (.iload 5, 2) := by decide +kernel
theorem dX10_ways_93 : decode cX10_ways 93 = .ok (.iload 4, 2) := by decide +kernel
theorem dX10_ways_95 : decode cX10_ways 95 = .ok (.invokevirtual 128, 3) := by decide +kernel
theorem dX10_ways_98 : decode cX10_ways 98 = .ok (.ifCond .ne 7, 3) := by decide +kernel
theorem dX10_ways_101 : decode cX10_ways 101 = .ok (.iconst 1, 1) := by decide +kernel
theorem dX10_ways_102 : decode cX10_ways 102 = .ok (.goto 4, 3) := by decide +kernel
theorem dX10_ways_105 : decode cX10_ways 105 = .ok (.iconst 0, 1) := by decide +kernel
theorem dX10_ways_106 : decode cX10_ways 106 = .ok (.bastore, 1) := by decide +kernel
theorem dX10_ways_107 : decode cX10_ways 107 = .ok (.iinc 5 1, 3) := by decide +kernel
theorem dX10_ways_110 : decode cX10_ways 110 = .ok (.goto (-49), 3) := by decide +kernel
theorem dX10_ways_113 : decode cX10_ways 113 = .ok (.aload_n 0, 1) := by decide +kernel
theorem dX10_ways_114 : decode cX10_ways 114 = .ok (.getfield 92, 3) := by decide +kernel
theorem dX10_ways_117 : decode cX10_ways 117 = .ok (.aload_n 0, 1) := by decide +kernel
theorem dX10_ways_118 : decode cX10_ways 118 = .ok (.getfield 45, 3) := by decide +kernel
theorem dX10_ways_121 : decode cX10_ways 121 = .ok (.iload_n 1, 1) := by decide +kernel
theorem dX10_ways_122 : decode cX10_ways 122 = .ok (.iaload, 1) := by decide +kernel
theorem dX10_ways_123 : decode cX10_ways 123 = .ok (.iconst 1, 1) := by decide +kernel
theorem dX10_ways_124 : decode cX10_ways 124 = .ok (.bastore, 1) := by decide +kernel
theorem dX10_ways_125 : decode cX10_ways 125 = .ok (.iconst 0, 1) := by decide +kernel
theorem dX10_ways_126 : decode cX10_ways 126 = .ok (.istore 5, 2) := by decide +kernel
theorem dX10_ways_128 : decode cX10_ways 128 = .ok (.iload 5, 2) := by decide +kernel
theorem dX10_ways_130 : decode cX10_ways 130 = .ok (.bipush 120, 2) := by decide +kernel
theorem dX10_ways_132 : decode cX10_ways 132 = .ok (.if_icmp .gt 175, 3) := by decide +kernel
theorem dX10_ways_135 : decode cX10_ways 135 = .ok (.aload_n 0, 1) := by decide +kernel
theorem dX10_ways_136 : decode cX10_ways 136 = .ok (.getfield 92, 3) := by decide +kernel
theorem dX10_ways_139 : decode cX10_ways 139 = .ok (.aload_n 0, 1) := by decide +kernel
theorem dX10_ways_140 : decode cX10_ways 140 = .ok (.getfield 45, 3) := by decide +kernel
theorem dX10_ways_143 : decode cX10_ways 143 = .ok (.iload_n 2, 1) := by decide +kernel
theorem dX10_ways_144 : decode cX10_ways 144 = .ok (.iaload, 1) := by decide +kernel
theorem dX10_ways_145 : decode cX10_ways 145 = .ok (.baload, 1) := by decide +kernel
theorem dX10_ways_146 : decode cX10_ways 146 = .ok (.ifCond .eq 6, 3) := by decide +kernel
theorem dX10_ways_149 : decode cX10_ways 149 = .ok (.iload 5, 2) := by decide +kernel
theorem dX10_ways_151 : decode cX10_ways 151 = .ok (.ireturn, 1) := by decide +kernel
theorem dX10_ways_152 : decode cX10_ways 152 = .ok (.iconst 0, 1) := by decide +kernel
theorem dX10_ways_153 : decode cX10_ways 153 = .ok (.istore 6, 2) := by decide +kernel
theorem dX10_ways_155 : decode cX10_ways 155 = .ok (.iload 6, 2) := by decide +kernel
theorem dX10_ways_157 : decode cX10_ways 157 = .ok (.aload_n 0, 1) := by decide +kernel
theorem dX10_ways_158 : decode cX10_ways 158 = .ok (.getfield 108, 3) := by decide +kernel
theorem dX10_ways_161 : decode cX10_ways 161 = .ok (.if_icmp .ge 40, 3) := by decide +kernel
theorem dX10_ways_164 : decode cX10_ways 164 = .ok (.aload_n 0, 1) := by decide +kernel
theorem dX10_ways_165 : decode cX10_ways 165 = .ok (.getfield 98, 3) := by decide +kernel
theorem dX10_ways_168 : decode cX10_ways 168 = .ok (.iload 6, 2) := by decide +kernel
theorem dX10_ways_170 : decode cX10_ways 170 = .ok (.aload_n 0, 1) := by decide +kernel
theorem dX10_ways_171 : decode cX10_ways 171 = .ok (.getfield 95, 3) := by decide +kernel
theorem dX10_ways_174 : decode cX10_ways 174 = .ok (.iload 6, 2) := by decide +kernel
theorem dX10_ways_176 : decode cX10_ways 176 = .ok (.baload, 1) := by decide +kernel
theorem dX10_ways_177 : decode cX10_ways 177 = .ok (.ifCond .ne 16, 3) := by decide +kernel
theorem dX10_ways_180 : decode cX10_ways 180 = .ok (.aload_n 0, 1) := by decide +kernel
theorem dX10_ways_181 : decode cX10_ways 181 = .ok (.iload 6, 2) := by decide +kernel
theorem dX10_ways_183 : decode cX10_ways 183 = .ok (.invokevirtual 256, 3) := by decide +kernel
theorem dX10_ways_186 : decode cX10_ways 186 = .ok (.ifCond .eq 7, 3) := by decide +kernel
theorem dX10_ways_189 : decode cX10_ways 189 = .ok (.iconst 1, 1) := by decide +kernel
theorem dX10_ways_190 : decode cX10_ways 190 = .ok (.goto 4, 3) := by decide +kernel
theorem dX10_ways_193 : decode cX10_ways 193 = .ok (.iconst 0, 1) := by decide +kernel
theorem dX10_ways_194 : decode cX10_ways 194 = .ok (.bastore, 1) := by decide +kernel
theorem dX10_ways_195 : decode cX10_ways 195 = .ok (.iinc 6 1, 3) := by decide +kernel
theorem dX10_ways_198 : decode cX10_ways 198 = .ok (.goto (-43), 3) := by decide +kernel
theorem dX10_ways_201 : decode cX10_ways 201 = .ok (.iconst 0, 1) := by decide +kernel
theorem dX10_ways_202 : decode cX10_ways 202 = .ok (.istore 6, 2) := by decide +kernel
theorem dX10_ways_204 : decode cX10_ways 204 = .ok (.iload 6, 2) := by decide +kernel
theorem dX10_ways_206 : decode cX10_ways 206 = .ok (.aload_n 0, 1) := by decide +kernel
theorem dX10_ways_207 : decode cX10_ways 207 = .ok (.getfield 108, 3) := by decide +kernel
theorem dX10_ways_210 : decode cX10_ways 210 = .ok (.if_icmp .ge 91, 3) := by decide +kernel
theorem dX10_ways_213 : decode cX10_ways 213 = .ok (.aload_n 0, 1) := by decide +kernel
theorem dX10_ways_214 : decode cX10_ways 214 = .ok (.getfield 98, 3) := by decide +kernel
theorem dX10_ways_217 : decode cX10_ways 217 = .ok (.iload 6, 2) := by decide +kernel
theorem dX10_ways_219 : decode cX10_ways 219 = .ok (.baload, 1) := by decide +kernel
theorem dX10_ways_220 : decode cX10_ways 220 = .ok (.ifCond .ne 6, 3) := by decide +kernel
theorem dX10_ways_223 : decode cX10_ways 223 = .ok (.goto 72, 3) := by decide +kernel
theorem dX10_ways_226 : decode cX10_ways 226 = .ok (.aload_n 0, 1) := by decide +kernel
theorem dX10_ways_227 : decode cX10_ways 227 = .ok (.getfield 95, 3) := by decide +kernel
theorem dX10_ways_230 : decode cX10_ways 230 = .ok (.iload 6, 2) := by decide +kernel
theorem dX10_ways_232 : decode cX10_ways 232 = .ok (.iconst 1, 1) := by decide +kernel
theorem dX10_ways_233 : decode cX10_ways 233 = .ok (.bastore, 1) := by decide +kernel
theorem dX10_ways_234 : decode cX10_ways 234 = .ok (.bipush 6, 2) := by decide +kernel
theorem dX10_ways_236 : decode cX10_ways 236 = .ok (.iload 6, 2) := by decide +kernel
theorem dX10_ways_238 : decode cX10_ways 238 = .ok (.imul, 1) := by decide +kernel
theorem dX10_ways_239 : decode cX10_ways 239 = .ok (.istore 7, 2) := by decide +kernel
theorem dX10_ways_241 : decode cX10_ways 241 = .ok (.iload 7, 2) := by decide +kernel
theorem dX10_ways_243 : decode cX10_ways 243 = .ok (.bipush 6, 2) := by decide +kernel
theorem dX10_ways_245 : decode cX10_ways 245 = .ok (.iload 6, 2) := by decide +kernel
theorem dX10_ways_247 : decode cX10_ways 247 = .ok (.imul, 1) := by decide +kernel
theorem dX10_ways_248 : decode cX10_ways 248 = .ok (.aload_n 0, 1) := by decide +kernel
theorem dX10_ways_249 : decode cX10_ways 249 = .ok (.getfield 36, 3) := by decide +kernel
theorem dX10_ways_252 : decode cX10_ways 252 = .ok (.iload 6, 2) := by decide +kernel
theorem dX10_ways_254 : decode cX10_ways 254 = .ok (.iaload, 1) := by decide +kernel
theorem dX10_ways_255 : decode cX10_ways 255 = .ok (.iadd, 1) := by decide +kernel
theorem dX10_ways_256 : decode cX10_ways 256 = .ok (.if_icmp .ge 39, 3) := by decide +kernel
theorem dX10_ways_259 : decode cX10_ways 259 = .ok (.aload_n 0, 1) := by decide +kernel
theorem dX10_ways_260 : decode cX10_ways 260 = .ok (.getfield 42, 3) := by decide +kernel
theorem dX10_ways_263 : decode cX10_ways 263 = .ok (.iload 7, 2) := by decide +kernel
theorem dX10_ways_265 : decode cX10_ways 265 = .ok (.iaload, 1) := by decide +kernel
theorem dX10_ways_266 : decode cX10_ways 266 = .ok (.bipush 40, 2) := by decide +kernel
theorem dX10_ways_268 : decode cX10_ways 268 = .ok (.if_icmp .ge 21, 3) := by decide +kernel
theorem dX10_ways_271 : decode cX10_ways 271 = .ok (.aload_n 0, 1) := by decide +kernel
theorem dX10_ways_272 : decode cX10_ways 272 = .ok (.getfield 92, 3) := by decide +kernel
theorem dX10_ways_275 : decode cX10_ways 275 = .ok (.aload_n 0, 1) := by decide +kernel
theorem dX10_ways_276 : decode cX10_ways 276 = .ok (.getfield 45, 3) := by decide +kernel
theorem dX10_ways_279 : decode cX10_ways 279 = .ok (.aload_n 0, 1) := by decide +kernel
theorem dX10_ways_280 : decode cX10_ways 280 = .ok (.getfield 42, 3) := by decide +kernel
theorem dX10_ways_283 : decode cX10_ways 283 = .ok (.iload 7, 2) := by decide +kernel
theorem dX10_ways_285 : decode cX10_ways 285 = .ok (.iaload, 1) := by decide +kernel
theorem dX10_ways_286 : decode cX10_ways 286 = .ok (.iaload, 1) := by decide +kernel
theorem dX10_ways_287 : decode cX10_ways 287 = .ok (.iconst 1, 1) := by decide +kernel
theorem dX10_ways_288 : decode cX10_ways 288 = .ok (.bastore, 1) := by decide +kernel
theorem dX10_ways_289 : decode cX10_ways 289 = .ok (.iinc 7 1, 3) := by decide +kernel
theorem dX10_ways_292 : decode cX10_ways 292 = .ok (.goto (-51), 3) := by decide +kernel
theorem dX10_ways_295 : decode cX10_ways 295 = .ok (.iinc 6 1, 3) := by decide +kernel
theorem dX10_ways_298 : decode cX10_ways 298 = .ok (.goto (-94), 3) := by decide +kernel
theorem dX10_ways_301 : decode cX10_ways 301 = .ok (.iinc 5 1, 3) := by decide +kernel
theorem dX10_ways_304 : decode cX10_ways 304 = .ok (.goto (-176), 3) := by decide +kernel
theorem dX10_ways_307 : decode cX10_ways 307 = .ok (.iconst (-1), 1) := by decide +kernel
theorem dX10_ways_308 : decode cX10_ways 308 = .ok (.ireturn, 1) := by decide +kernel
theorem dX10_degree_0 : decode cX10_degree 0 = .ok (.aload_n 0, 1) := by decide +kernel
theorem dX10_degree_1 : decode cX10_degree 1 = .ok (.iconst 0, 1) := by decide +kernel
theorem dX10_degree_2 : decode cX10_degree 2 = .ok (.putfield 3, 3) := by decide +kernel
theorem dX10_degree_5 : decode cX10_degree 5 = .ok (.aload_n 0, 1) := by decide +kernel
theorem dX10_degree_6 : decode cX10_degree 6 = .ok (.iload_n 1, 1) := by decide +kernel
theorem dX10_degree_7 : decode cX10_degree 7 = .ok (.invokestatic 125, 3) := by decide +kernel
theorem dX10_degree_10 : decode cX10_degree 10 = .ok (.ifCond .ne 17, 3) := by decide +kernel
theorem dX10_degree_13 : decode cX10_degree 13 = .ok (.iload_n 2, 1) := by decide +kernel
theorem dX10_degree_14 : decode cX10_degree 14 = .ok (.invokestatic 111, 3) := by decide +kernel
theorem dX10_degree_17 : decode cX10_degree 17 = .ok (.ifCond .ne 10, 3) := by decide +kernel
theorem dX10_degree_20 : decode cX10_degree 20 = .ok (.iload_n 3, 1) := by decide +kernel
theorem dX10_degree_21 : decode cX10_degree 21 = .ok (.invokestatic 115, 3) := by decide +kernel
theorem dX10_degree_24 : decode cX10_degree 24 = .ok (.ifCond .eq 7, 3) := by decide +kernel
theorem dX10_degree_27 : decode cX10_degree 27 = .ok (.iconst 1, 1) := by decide +kernel
theorem dX10_degree_28 : decode cX10_degree 28 = .ok (.goto 4, 3) := by decide +kernel
theorem dX10_degree_31 : decode cX10_degree 31 = .ok (.iconst 0, 1) := by decide +kernel
theorem dX10_degree_32 : decode cX10_degree 32 = .ok (.iconst 1, 1) := by decide +kernel
theorem dX10_degree_33 : decode cX10_degree 33 = .ok (.invokevirtual 118, 3) := by decide +kernel
theorem dX10_degree_36 : decode cX10_degree 36 = .ok (.ifCond .eq 7, 3) := by decide +kernel
theorem dX10_degree_39 : decode cX10_degree 39 = .ok (.iconst 0, 1) := by decide +kernel
theorem dX10_degree_40 : decode cX10_degree 40 = .ok (.goto 12, 3) := by decide +kernel
theorem dX10_degree_43 : decode cX10_degree 43 = .ok (.aload_n 0, 1) := by decide +kernel
theorem dX10_degree_44 : decode cX10_degree 44 = .ok (.iload_n 1, 1) := by decide +kernel
theorem dX10_degree_45 : decode cX10_degree 45 = .ok (.iload_n 2, 1) := by decide +kernel
theorem dX10_degree_46 : decode cX10_degree 46 = .ok (.iload_n 3, 1) := by decide +kernel
theorem dX10_degree_47 : decode cX10_degree 47 = .ok (.iload 4, 2) := by decide +kernel
theorem dX10_degree_49 : decode cX10_degree 49 = .ok (.invokevirtual 135, 3) := by decide +kernel
theorem dX10_degree_52 : decode cX10_degree 52 = .ok (.ireturn, 1) := by decide +kernel
theorem dX10_count_0 : decode cX10_count 0 = .ok (.aload_n 0, 1) := by decide +kernel
theorem dX10_count_1 : decode cX10_count 1 = .ok (.iconst 0, 1) := by decide +kernel
theorem dX10_count_2 : decode cX10_count 2 = .ok (.putfield 3, 3) := by decide +kernel
theorem dX10_count_5 : decode cX10_count 5 = .ok (.iconst 0, 1) := by decide +kernel
theorem dX10_count_6 : decode cX10_count 6 = .ok (.istore_n 2, 1) := by decide +kernel
theorem dX10_count_7 : decode cX10_count 7 = .ok (.iload_n 1, 1) := by decide +kernel
theorem dX10_count_8 : decode cX10_count 8 = .ok (.tableswitch 105 0 5 #[40, 45, 53, 58, 92, 97], 40) := by decide +kernel
theorem dX10_count_48 : decode cX10_count 48 = .ok (.aload_n 0, 1) := by decide +kernel
theorem dX10_count_49 : decode cX10_count 49 = .ok (.getfield 108, 3) := by decide +kernel
theorem dX10_count_52 : decode cX10_count 52 = .ok (.ireturn, 1) := by decide +kernel
theorem dX10_count_53 : decode cX10_count 53 = .ok (.aload_n 0, 1) := by decide +kernel
theorem dX10_count_54 : decode cX10_count 54 = .ok (.getfield 36, 3) := by decide +kernel
theorem dX10_count_57 : decode cX10_count 57 = .ok (.bipush 120, 2) := by decide +kernel
theorem dX10_count_59 : decode cX10_count 59 = .ok (.iaload, 1) := by decide +kernel
theorem dX10_count_60 : decode cX10_count 60 = .ok (.ireturn, 1) := by decide +kernel
theorem dX10_count_61 : decode cX10_count 61 = .ok (.aload_n 0, 1) := by decide +kernel
theorem dX10_count_62 : decode cX10_count 62 = .ok (.getfield 152, 3) := by decide +kernel
theorem dX10_count_65 : decode cX10_count 65 = .ok (.ireturn, 1) := by decide +kernel
theorem dX10_count_66 : decode cX10_count 66 = .ok (.iconst 0, 1) := by decide +kernel
theorem dX10_count_67 : decode cX10_count 67 = .ok (.istore_n 3, 1) := by decide +kernel
theorem dX10_count_68 : decode cX10_count 68 = .ok (.iload_n 3, 1) := by decide +kernel
theorem dX10_count_69 : decode cX10_count 69 = .ok (.bipush 40, 2) := by decide +kernel
theorem dX10_count_71 : decode cX10_count 71 = .ok (.if_icmp .ge 27, 3) := by decide +kernel
theorem dX10_count_74 : decode cX10_count 74 = .ok (.iload_n 2, 1) := by decide +kernel
theorem dX10_count_75 : decode cX10_count 75 = .ok (.aload_n 0, 1) := by decide +kernel
theorem dX10_count_76 : decode cX10_count 76 = .ok (.getfield 45, 3) := by decide +kernel
theorem dX10_count_79 : decode cX10_count 79 = .ok (.iload_n 3, 1) := by decide +kernel
theorem dX10_count_80 : decode cX10_count 80 = .ok (.iaload, 1) := by decide +kernel
theorem dX10_count_81 : decode cX10_count 81 = .ok (.iload_n 3, 1) := by decide +kernel
theorem dX10_count_82 : decode cX10_count 82 = .ok (.if_icmp .ne 7, 3) := by decide +kernel
theorem dX10_count_85 : decode cX10_count 85 = .ok (.iconst 1, 1) := by decide +kernel
theorem dX10_count_86 : decode cX10_count 86 = .ok (.goto 4, 3) := by decide +kernel
theorem dX10_count_89 : decode cX10_count 89 = .ok (.iconst 0, 1) := by decide +kernel
theorem dX10_count_90 : decode cX10_count 90 = .ok (.iadd, 1) := by decide +kernel
theorem dX10_count_91 : decode cX10_count 91 = .ok (.istore_n 2, 1) := by decide +kernel
theorem dX10_count_92 : decode cX10_count 92 = .ok (.iinc 3 1, 3) := by decide +kernel
theorem dX10_count_95 : decode cX10_count 95 = .ok (.goto (-27), 3) := by decide +kernel
theorem dX10_count_98 : decode cX10_count 98 = .ok (.iload_n 2, 1) := by decide +kernel
theorem dX10_count_99 : decode cX10_count 99 = .ok (.ireturn, 1) := by decide +kernel
theorem dX10_count_100 : decode cX10_count 100 = .ok (.aload_n 0, 1) := by decide +kernel
theorem dX10_count_101 : decode cX10_count 101 = .ok (.getfield 226, 3) := by decide +kernel
theorem dX10_count_104 : decode cX10_count 104 = .ok (.ireturn, 1) := by decide +kernel
theorem dX10_count_105 : decode cX10_count 105 = .ok (.aload_n 0, 1) := by decide +kernel
theorem dX10_count_106 : decode cX10_count 106 = .ok (.getfield 229, 3) := by decide +kernel
theorem dX10_count_109 : decode cX10_count 109 = .ok (.invokestatic 259, 3) := by decide +kernel
theorem dX10_count_112 : decode cX10_count 112 = .ok (.ireturn, 1) := by decide +kernel
theorem dX10_count_113 : decode cX10_count 113 = .ok (.iconst (-1), 1) := by decide +kernel
theorem dX10_count_114 : decode cX10_count 114 = .ok (.ireturn, 1) := by decide +kernel
