theorem dX8_init_0 : decode cX8_init 0 = .ok (.aload_n 0, 1) := by decide +kernel
theorem dX8_init_1 : decode cX8_init 1 = .ok (.invokespecial 3, 3) := by decide +kernel
theorem dX8_init_4 : decode cX8_init 4 = .ok (.aload_n 0, 1) := by decide +kernel
theorem dX8_init_5 : decode cX8_init 5 = .ok (.bipush 12, 2) := by decide +kernel
theorem dX8_init_7 : decode cX8_init 7 = .ok (.newarray .int, 2) := by decide +kernel
theorem dX8_init_9 : decode cX8_init 9 = .ok (.putfield 9, 3) := by decide +kernel
theorem dX8_init_12 : decode cX8_init 12 = .ok (.aload_n 0, 1) := by decide +kernel
theorem dX8_init_13 : decode cX8_init 13 = .ok (.bipush 12, 2) := by decide +kernel
theorem dX8_init_15 : decode cX8_init 15 = .ok (.newarray .int, 2) := by decide +kernel
theorem dX8_init_17 : decode cX8_init 17 = .ok (.putfield 13, 3) := by decide +kernel
theorem dX8_init_20 : decode cX8_init 20 = .ok (.aload_n 0, 1) := by decide +kernel
theorem dX8_init_21 : decode cX8_init 21 = .ok (.bipush 8, 2) := by decide +kernel
theorem dX8_init_23 : decode cX8_init 23 = .ok (.newarray .int, 2) := by decide +kernel
theorem dX8_init_25 : decode cX8_init 25 = .ok (.putfield 16, 3) := by decide +kernel
theorem dX8_init_28 : decode cX8_init 28 = .ok (.aload_n 0, 1) := by decide +kernel
theorem dX8_init_29 : decode cX8_init 29 = .ok (.bipush 8, 2) := by decide +kernel
theorem dX8_init_31 : decode cX8_init 31 = .ok (.newarray .int, 2) := by decide +kernel
theorem dX8_init_33 : decode cX8_init 33 = .ok (.putfield 19, 3) := by decide +kernel
theorem dX8_init_36 : decode cX8_init 36 = .ok (.aload_n 0, 1) := by decide +kernel
theorem dX8_init_37 : decode cX8_init 37 = .ok (.bipush 12, 2) := by decide +kernel
theorem dX8_init_39 : decode cX8_init 39 = .ok (.newarray .boolean, 2) := by decide +kernel
theorem dX8_init_41 : decode cX8_init 41 = .ok (.putfield 22, 3) := by decide +kernel
theorem dX8_init_44 : decode cX8_init 44 = .ok (.aload_n 0, 1) := by decide +kernel
theorem dX8_init_45 : decode cX8_init 45 = .ok (.bipush 8, 2) := by decide +kernel
theorem dX8_init_47 : decode cX8_init 47 = .ok (.newarray .char, 2) := by decide +kernel
theorem dX8_init_49 : decode cX8_init 49 = .ok (.putfield 26, 3) := by decide +kernel
theorem dX8_init_52 : decode cX8_init 52 = .ok (.aload_n 0, 1) := by decide +kernel
theorem dX8_init_53 : decode cX8_init 53 = .ok (.bipush 8, 2) := by decide +kernel
theorem dX8_init_55 : decode cX8_init 55 = .ok (.newarray .char, 2) := by decide +kernel
theorem dX8_init_57 : decode cX8_init 57 = .ok (.putfield 30, 3) := by decide +kernel
theorem dX8_init_60 : decode cX8_init 60 = .ok (.aload_n 0, 1) := by decide +kernel
theorem dX8_init_61 : decode cX8_init 61 = .ok (.sipush 250, 3) := by decide +kernel
theorem dX8_init_64 : decode cX8_init 64 = .ok (.newarray .int, 2) := by decide +kernel
theorem dX8_init_66 : decode cX8_init 66 = .ok (.putfield 33, 3) := by decide +kernel
theorem dX8_init_69 : decode cX8_init 69 = .ok (.aload_n 0, 1) := by decide +kernel
theorem dX8_init_70 : decode cX8_init 70 = .ok (.sipush 250, 3) := by decide +kernel
theorem dX8_init_73 : decode cX8_init 73 = .ok (.newarray .int, 2) := by decide +kernel
theorem dX8_init_75 : decode cX8_init 75 = .ok (.putfield 36, 3) := by decide +kernel
theorem dX8_init_78 : decode cX8_init 78 = .ok (.aload_n 0, 1) := by decide +kernel
theorem dX8_init_79 : decode cX8_init 79 = .ok (.sipush 250, 3) := by decide +kernel
theorem dX8_init_82 : decode cX8_init 82 = .ok (.newarray .int, 2) := by decide +kernel
theorem dX8_init_84 : decode cX8_init 84 = .ok (.putfield 39, 3) := by decide +kernel
theorem dX8_init_87 : decode cX8_init 87 = .ok (.aload_n 0, 1) := by decide +kernel
theorem dX8_init_88 : decode cX8_init 88 = .ok (.sipush 250, 3) := by decide +kernel
theorem dX8_init_91 : decode cX8_init 91 = .ok (.bipush 13, 2) := by decide +kernel
theorem dX8_init_93 : decode cX8_init 93 = .ok (.multianewarray 42 2, 4) := by decide +kernel
theorem dX8_init_97 : decode cX8_init 97 = .ok (.putfield 44, 3) := by decide +kernel
theorem dX8_init_100 : decode cX8_init 100 = .ok (.aload_n 0, 1) := by decide +kernel
theorem dX8_init_101 : decode cX8_init 101 = .ok (.sipush 250, 3) := by decide +kernel
theorem dX8_init_104 : decode cX8_init 104 = .ok (.bipush 13, 2) := by decide +kernel
theorem dX8_init_106 : decode cX8_init 106 = .ok (.multianewarray 42 2, 4) := by decide +kernel
theorem dX8_init_110 : decode cX8_init 110 = .ok (.putfield 47, 3) := by decide +kernel
theorem dX8_init_113 : decode cX8_init 113 = .ok (.aload_n 0, 1) := by decide +kernel
theorem dX8_init_114 : decode cX8_init 114 = .ok (.sipush 250, 3) := by decide +kernel
theorem dX8_init_117 : decode cX8_init 117 = .ok (.bipush 13, 2) := by decide +kernel
theorem dX8_init_119 : decode cX8_init 119 = .ok (.multianewarray 42 2, 4) := by decide +kernel
theorem dX8_init_123 : decode cX8_init 123 = .ok (.putfield 50, 3) := by decide +kernel
theorem dX8_init_126 : decode cX8_init 126 = .ok (.aload_n 0, 1) := by decide +kernel
theorem dX8_init_127 : decode cX8_init 127 = .ok (.sipush 250, 3) := by decide +kernel
theorem dX8_init_130 : decode cX8_init 130 = .ok (.bipush 13, 2) := by decide +kernel
theorem dX8_init_132 : decode cX8_init 132 = .ok (.multianewarray 42 2, 4) := by decide +kernel
theorem dX8_init_136 : decode cX8_init 136 = .ok (.putfield 53, 3) := by decide +kernel
theorem dX8_init_139 : decode cX8_init 139 = .ok (.aload_n 0, 1) := by decide +kernel
theorem dX8_init_140 : decode cX8_init 140 = .ok (.sipush 250, 3) := by decide +kernel
theorem dX8_init_143 : decode cX8_init 143 = .ok (.bipush 13, 2) := by decide +kernel
theorem dX8_init_145 : decode cX8_init 145 = .ok (.multianewarray 42 2, 4) := by decide +kernel
theorem dX8_init_149 : decode cX8_init 149 = .ok (.putfield 56, 3) := by decide +kernel
theorem dX8_init_152 : decode cX8_init 152 = .ok (.aload_n 0, 1) := by decide +kernel
theorem dX8_init_153 : decode cX8_init 153 = .ok (.sipush 250, 3) := by decide +kernel
theorem dX8_init_156 : decode cX8_init 156 = .ok (.newarray .boolean, 2) := by decide +kernel
theorem dX8_init_158 : decode cX8_init 158 = .ok (.putfield 59, 3) := by decide +kernel
theorem dX8_init_161 : decode cX8_init 161 = .ok (.aload_n 0, 1) := by decide +kernel
theorem dX8_init_162 : decode cX8_init 162 = .ok (.iconst 3, 1) := by decide +kernel
theorem dX8_init_163 : decode cX8_init 163 = .ok (.sipush 250, 3) := by decide +kernel
theorem dX8_init_166 : decode cX8_init 166 = .ok (.multianewarray 62 2, 4) := by decide +kernel
theorem dX8_init_170 : decode cX8_init 170 = .ok (.putfield 64, 3) := by decide +kernel
theorem dX8_init_173 : decode cX8_init 173 = .ok (.aload_n 0, 1) := by decide +kernel
theorem dX8_init_174 : decode cX8_init 174 = .ok (.bipush 93, 2) := by decide +kernel
theorem dX8_init_176 : decode cX8_init 176 = .ok (.newarray .int, 2) := by decide +kernel
theorem dX8_init_178 : decode cX8_init 178 = .ok (.putfield 67, 3) := by decide +kernel
theorem dX8_init_181 : decode cX8_init 181 = .ok (.aload_n 0, 1) := by decide +kernel
theorem dX8_init_182 : decode cX8_init 182 = .ok (.bipush 93, 2) := by decide +kernel
theorem dX8_init_184 : decode cX8_init 184 = .ok (.newarray .int, 2) := by decide +kernel
theorem dX8_init_186 : decode cX8_init 186 = .ok (.putfield 70, 3) := by decide +kernel
theorem dX8_init_189 : decode cX8_init 189 = .ok (.aload_n 0, 1) := by decide +kernel
theorem dX8_init_190 : decode cX8_init 190 = .ok (.bipush 93, 2) := by decide +kernel
theorem dX8_init_192 : decode cX8_init 192 = .ok (.newarray .int, 2) := by decide +kernel
theorem dX8_init_194 : decode cX8_init 194 = .ok (.putfield 73, 3) := by decide +kernel
theorem dX8_init_197 : decode cX8_init 197 = .ok (.aload_n 0, 1) := by decide +kernel
theorem dX8_init_198 : decode cX8_init 198 = .ok (.bipush 13, 2) := by decide +kernel
theorem dX8_init_200 : decode cX8_init 200 = .ok (.newarray .int, 2) := by decide +kernel
theorem dX8_init_202 : decode cX8_init 202 = .ok (.putfield 76, 3) := by decide +kernel
theorem dX8_init_205 : decode cX8_init 205 = .ok (.aload_n 0, 1) := by decide +kernel
theorem dX8_init_206 : decode cX8_init 206 = .ok (.bipush 13, 2) := by decide +kernel
theorem dX8_init_208 : decode cX8_init 208 = .ok (.newarray .int, 2) := by decide +kernel
theorem dX8_init_210 : decode cX8_init 210 = .ok (.putfield 79, 3) := by decide +kernel
theorem dX8_init_213 : decode cX8_init 213 = .ok (.aload_n 0, 1) := by decide +kernel
theorem dX8_init_214 : decode cX8_init 214 = .ok (.bipush 13, 2) := by decide +kernel
theorem dX8_init_216 : decode cX8_init 216 = .ok (.newarray .int, 2) := by decide +kernel
theorem dX8_init_218 : decode cX8_init 218 = .ok (.putfield 82, 3) := by decide +kernel
theorem dX8_init_221 : decode cX8_init 221 = .ok (.aload_n 0, 1) := by decide +kernel
theorem dX8_init_222 : decode cX8_init 222 = .ok (.sipush 1536, 3) := by decide +kernel
theorem dX8_init_225 : decode cX8_init 225 = .ok (.newarray .int, 2) := by decide +kernel
theorem dX8_init_227 : decode cX8_init 227 = .ok (.putfield 85, 3) := by decide +kernel
theorem dX8_init_230 : decode cX8_init 230 = .ok (.aload_n 0, 1) := by decide +kernel
theorem dX8_init_231 : decode cX8_init 231 = .ok (.sipush 1536, 3) := by decide +kernel
theorem dX8_init_234 : decode cX8_init 234 = .ok (.newarray .int, 2) := by decide +kernel
theorem dX8_init_236 : decode cX8_init 236 = .ok (.putfield 88, 3) := by decide +kernel
theorem dX8_init_239 : decode cX8_init 239 = .ok (.aload_n 0, 1) := by decide +kernel
theorem dX8_init_240 : decode cX8_init 240 = .ok (.sipush 384, 3) := by decide +kernel
theorem dX8_init_243 : decode cX8_init 243 = .ok (.newarray .boolean, 2) := by decide +kernel
theorem dX8_init_245 : decode cX8_init 245 = .ok (.putfield 91, 3) := by decide +kernel
theorem dX8_init_248 : decode cX8_init 248 = .ok (.aload_n 0, 1) := by decide +kernel
theorem dX8_init_249 : decode cX8_init 249 = .ok (.sipush 1536, 3) := by decide +kernel
theorem dX8_init_252 : decode cX8_init 252 = .ok (.newarray .boolean, 2) := by decide +kernel
theorem dX8_init_254 : decode cX8_init 254 = .ok (.putfield 94, 3) := by decide +kernel
theorem dX8_init_257 : decode cX8_init 257 = .ok (.return_, 1) := by decide +kernel
theorem dX8_thrown_0 : decode cX8_thrown 0 = .ok (.aload_n 0, 1) := by decide +kernel
theorem dX8_thrown_1 : decode cX8_thrown 1 = .ok (.getfield 97, 3) := by decide +kernel
theorem dX8_thrown_4 : decode cX8_thrown 4 = .ok (.ireturn, 1) := by decide +kernel
theorem dX8_fails_0 : decode cX8_fails 0 = .ok (.aload_n 0, 1) := by decide +kernel
theorem dX8_fails_1 : decode cX8_fails 1 = .ok (.iload_n 1, 1) := by decide +kernel
theorem dX8_fails_2 : decode cX8_fails 2 = .ok (.putfield 97, 3) := by decide +kernel
theorem dX8_fails_5 : decode cX8_fails 5 = .ok (.iconst 0, 1) := by decide +kernel
theorem dX8_fails_6 : decode cX8_fails 6 = .ok (.ireturn, 1) := by decide +kernel
theorem dX8_isWrong_0 : decode cX8_isWrong 0 = .ok (.aload_n 0, 1) := by decide +kernel
theorem dX8_isWrong_1 : decode cX8_isWrong 1 = .ok (.iload_n 1, 1) := by decide +kernel
theorem dX8_isWrong_2 : decode cX8_isWrong 2 = .ok (.putfield 97, 3) := by decide +kernel
theorem dX8_isWrong_5 : decode cX8_isWrong 5 = .ok (.iconst 0, 1) := by decide +kernel
theorem dX8_isWrong_6 : decode cX8_isWrong 6 = .ok (.ireturn, 1) := by decide +kernel
theorem dX8_isBetween_0 : decode cX8_isBetween 0 = .ok (.iload_n 1, 1) := by decide +kernel
theorem dX8_isBetween_1 : decode cX8_isBetween 1 = .ok (.iload_n 0, 1) := by decide +kernel
theorem dX8_isBetween_2 : decode cX8_isBetween 2 = .ok (.if_icmp .gt 12, 3) := by decide +kernel
theorem dX8_isBetween_5 : decode cX8_isBetween 5 = .ok (.iload_n 0, 1) := by decide +kernel
theorem dX8_isBetween_6 : decode cX8_isBetween 6 = .ok (.iload_n 2, 1) := by decide +kernel
theorem dX8_isBetween_7 : decode cX8_isBetween 7 = .ok (.if_icmp .gt 7, 3) := by decide +kernel
theorem dX8_isBetween_10 : decode cX8_isBetween 10 = .ok (.iconst 1, 1) := by decide +kernel
theorem dX8_isBetween_11 : decode cX8_isBetween 11 = .ok (.goto 4, 3) := by decide +kernel
theorem dX8_isBetween_14 : decode cX8_isBetween 14 = .ok (.iconst 0, 1) := by decide +kernel
theorem dX8_isBetween_15 : decode cX8_isBetween 15 = .ok (.ireturn, 1) := by decide +kernel
theorem dX8_isUser_0 : decode cX8_isUser 0 = .ok (.iload_n 0, 1) := by decide +kernel
theorem dX8_isUser_1 : decode cX8_isUser 1 = .ok (.iconst 0, 1) := by decide +kernel
theorem dX8_isUser_2 : decode cX8_isUser 2 = .ok (.iconst 2, 1) := by decide +kernel
theorem dX8_isUser_3 : decode cX8_isUser 3 = .ok (.invokestatic 101, 3) := by decide +kernel
theorem dX8_isUser_6 : decode cX8_isUser 6 = .ok (.ireturn, 1) := by decide +kernel
theorem dX8_isLater_0 : decode cX8_isLater 0 = .ok (.iload_n 2, 1) := by decide +kernel
theorem dX8_isLater_1 : decode cX8_isLater 1 = .ok (.iconst (-1), 1) := by decide +kernel
theorem dX8_isLater_2 : decode cX8_isLater 2 = .ok (.if_icmp .eq 48, 3) := by decide +kernel
theorem dX8_isLater_5 : decode cX8_isLater 5 = .ok (.aload_n 0, 1) := by decide +kernel
theorem dX8_isLater_6 : decode cX8_isLater 6 = .ok (.getfield 36, 3) := by decide +kernel
theorem dX8_isLater_9 : decode cX8_isLater 9 = .ok (.iload_n 1, 1) := by decide +kernel
theorem dX8_isLater_10 : decode cX8_isLater 10 = .ok (.iaload, 1) := by decide +kernel
theorem dX8_isLater_11 : decode cX8_isLater 11 = .ok (.aload_n 0, 1) := by decide +kernel
theorem dX8_isLater_12 : decode cX8_isLater 12 = .ok (.getfield 36, 3) := by decide +kernel
theorem dX8_isLater_15 : decode cX8_isLater 15 = .ok (.iload_n 2, 1) := by decide +kernel
theorem dX8_isLater_16 : decode cX8_isLater 16 = .ok (.iaload, 1) := by decide +kernel
theorem dX8_isLater_17 : decode cX8_isLater 17 = .ok (.if_icmp .gt 33, 3) := by decide +kernel
theorem dX8_isLater_20 : decode cX8_isLater 20 = .ok (.aload_n 0, 1) := by decide +kernel
theorem dX8_isLater_21 : decode cX8_isLater 21 = .ok (.getfield 36, 3) := by decide +kernel
theorem dX8_isLater_24 : decode cX8_isLater 24 = .ok (.iload_n 1, 1) := by decide +kernel
theorem dX8_isLater_25 : decode cX8_isLater 25 = .ok (.iaload, 1) := by decide +kernel
theorem dX8_isLater_26 : decode cX8_isLater 26 = .ok (.aload_n 0, 1) := by decide +kernel
theorem dX8_isLater_27 : decode cX8_isLater 27 = .ok (.getfield 36, 3) := by decide +kernel
theorem dX8_isLater_30 : decode cX8_isLater 30 = .ok (.iload_n 2, 1) := by decide +kernel
theorem dX8_isLater_31 : decode cX8_isLater 31 = .ok (.iaload, 1) := by decide +kernel
theorem dX8_isLater_32 : decode cX8_isLater 32 = .ok (.if_icmp .ne 22, 3) := by decide +kernel
theorem dX8_isLater_35 : decode cX8_isLater 35 = .ok (.aload_n 0, 1) := by decide +kernel
theorem dX8_isLater_36 : decode cX8_isLater 36 = .ok (.getfield 33, 3) := by decide +kernel
theorem dX8_isLater_39 : decode cX8_isLater 39 = .ok (.iload_n 1, 1) := by decide +kernel
theorem dX8_isLater_40 : decode cX8_isLater 40 = .ok (.iaload, 1) := by decide +kernel
theorem dX8_isLater_41 : decode cX8_isLater 41 = .ok (.aload_n 0, 1) := by decide +kernel
theorem dX8_isLater_42 : decode cX8_isLater 42 = .ok (.getfield 33, 3) := by decide +kernel
theorem dX8_isLater_45 : decode cX8_isLater 45 = .ok (.iload_n 2, 1) := by decide +kernel
theorem dX8_isLater_46 : decode cX8_isLater 46 = .ok (.iaload, 1) := by decide +kernel
theorem dX8_isLater_47 : decode cX8_isLater 47 = .ok (.if_icmp .le 7, 3) := by decide +kernel
theorem dX8_isLater_50 : decode cX8_isLater 50 = .ok (.iconst 1, 1) := by decide +kernel
theorem dX8_isLater_51 : decode cX8_isLater 51 = .ok (.goto 4, 3) := by decide +kernel
theorem dX8_isLater_54 : decode cX8_isLater 54 = .ok (.iconst 0, 1) := by decide +kernel
theorem dX8_isLater_55 : decode cX8_isLater 55 = .ok (.ireturn, 1) := by decide +kernel
theorem dX8_empties_0 : decode cX8_empties 0 = .ok (.iconst 0, 1) := by decide +kernel
theorem dX8_empties_1 : decode cX8_empties 1 = .ok (.istore_n 1, 1) := by decide +kernel
theorem dX8_empties_2 : decode cX8_empties 2 = .ok (.iload_n 1, 1) := by decide +kernel
theorem dX8_empties_3 : decode cX8_empties 3 = .ok (.bipush 93, 2) := by decide +kernel
theorem dX8_empties_5 : decode cX8_empties 5 = .ok (.if_icmp .ge 45, 3) := by decide +kernel
theorem dX8_empties_8 : decode cX8_empties 8 = .ok (.aload_n 0, 1) := by decide +kernel
theorem dX8_empties_9 : decode cX8_empties 9 = .ok (.getfield 67, 3) := by decide +kernel
theorem dX8_empties_12 : decode cX8_empties 12 = .ok (.iload_n 1, 1) := by decide +kernel
theorem dX8_empties_13 : decode cX8_empties 13 = .ok (.iload_n 1, 1) := by decide +kernel
theorem dX8_empties_14 : decode cX8_empties 14 = .ok (.bipush 36, 2) := by decide +kernel
theorem dX8_empties_16 : decode cX8_empties 16 = .ok (.bipush 47, 2) := by decide +kernel
theorem dX8_empties_18 : decode cX8_empties 18 = .ok (.invokestatic 101, 3) := by decide +kernel
theorem dX8_empties_21 : decode cX8_empties 21 = .ok (.ifCond .eq 7, 3) := by decide +kernel
theorem dX8_empties_24 : decode cX8_empties 24 = .ok (.iconst (-1), 1) := by decide +kernel
theorem dX8_empties_25 : decode cX8_empties 25 = .ok (.goto 4, 3) := by decide +kernel
theorem dX8_empties_28 : decode cX8_empties 28 = .ok (.iconst 0, 1) := by decide +kernel
theorem dX8_empties_29 : decode cX8_empties 29 = .ok (.iastore, 1) := by decide +kernel
theorem dX8_empties_30 : decode cX8_empties 30 = .ok (.aload_n 0, 1) := by decide +kernel
theorem dX8_empties_31 : decode cX8_empties 31 = .ok (.getfield 70, 3) := by decide +kernel
theorem dX8_empties_34 : decode cX8_empties 34 = .ok (.iload_n 1, 1) := by decide +kernel
theorem dX8_empties_35 : decode cX8_empties 35 = .ok (.iconst (-1), 1) := by decide +kernel
theorem dX8_empties_36 : decode cX8_empties 36 = .ok (.iastore, 1) := by decide +kernel
theorem dX8_empties_37 : decode cX8_empties 37 = .ok (.aload_n 0, 1) := by decide +kernel
theorem dX8_empties_38 : decode cX8_empties 38 = .ok (.getfield 73, 3) := by decide +kernel
theorem dX8_empties_41 : decode cX8_empties 41 = .ok (.iload_n 1, 1) := by decide +kernel
theorem dX8_empties_42 : decode cX8_empties 42 = .ok (.iconst (-1), 1) := by decide +kernel
theorem dX8_empties_43 : decode cX8_empties 43 = .ok (.iastore, 1) := by decide +kernel
theorem dX8_empties_44 : decode cX8_empties 44 = .ok (.iinc 1 1, 3) := by decide +kernel
theorem dX8_empties_47 : decode cX8_empties 47 = .ok (.goto (-45), 3) := by decide +kernel
theorem dX8_empties_50 : decode cX8_empties 50 = .ok (.return_, 1) := by decide +kernel
theorem dX8_writes_0 : decode cX8_writes 0 = .ok (.aload_n 0, 1) := by decide +kernel
theorem dX8_writes_1 : decode cX8_writes 1 = .ok (.getfield 67, 3) := by decide +kernel
theorem dX8_writes_4 : decode cX8_writes 4 = .ok (.aload_n 0, 1) := by decide +kernel
theorem dX8_writes_5 : decode cX8_writes 5 = .ok (.getfield 44, 3) := by decide +kernel
theorem dX8_writes_8 : decode cX8_writes 8 = .ok (.iload_n 1, 1) := by decide +kernel
theorem dX8_writes_9 : decode cX8_writes 9 = .ok (.aaload, 1) := by decide +kernel
theorem dX8_writes_10 : decode cX8_writes 10 = .ok (.iload_n 2, 1) := by decide +kernel
theorem dX8_writes_11 : decode cX8_writes 11 = .ok (.iaload, 1) := by decide +kernel
theorem dX8_writes_12 : decode cX8_writes 12 = .ok (.aload_n 0, 1) := by decide +kernel
theorem dX8_writes_13 : decode cX8_writes 13 = .ok (.getfield 47, 3) := by decide +kernel
theorem dX8_writes_16 : decode cX8_writes 16 = .ok (.iload_n 1, 1) := by decide +kernel
theorem dX8_writes_17 : decode cX8_writes 17 = .ok (.aaload, 1) := by decide +kernel
theorem dX8_writes_18 : decode cX8_writes 18 = .ok (.iload_n 2, 1) := by decide +kernel
theorem dX8_writes_19 : decode cX8_writes 19 = .ok (.iaload, 1) := by decide +kernel
theorem dX8_writes_20 : decode cX8_writes 20 = .ok (.iastore, 1) := by decide +kernel
theorem dX8_writes_21 : decode cX8_writes 21 = .ok (.aload_n 0, 1) := by decide +kernel
theorem dX8_writes_22 : decode cX8_writes 22 = .ok (.getfield 70, 3) := by decide +kernel
theorem dX8_writes_25 : decode cX8_writes 25 = .ok (.aload_n 0, 1) := by decide +kernel
theorem dX8_writes_26 : decode cX8_writes 26 = .ok (.getfield 44, 3) := by decide +kernel
theorem dX8_writes_29 : decode cX8_writes 29 = .ok (.iload_n 1, 1) := by decide +kernel
theorem dX8_writes_30 : decode cX8_writes 30 = .ok (.aaload, 1) := by decide +kernel
theorem dX8_writes_31 : decode cX8_writes 31 = .ok (.iload_n 2, 1) := by decide +kernel
theorem dX8_writes_32 : decode cX8_writes 32 = .ok (.iaload, 1) := by decide +kernel
theorem dX8_writes_33 : decode cX8_writes 33 = .ok (.iload_n 1, 1) := by decide +kernel
theorem dX8_writes_34 : decode cX8_writes 34 = .ok (.iastore, 1) := by decide +kernel
theorem dX8_writes_35 : decode cX8_writes 35 = .ok (.aload_n 0, 1) := by decide +kernel
theorem dX8_writes_36 : decode cX8_writes 36 = .ok (.getfield 73, 3) := by decide +kernel
theorem dX8_writes_39 : decode cX8_writes 39 = .ok (.aload_n 0, 1) := by decide +kernel
theorem dX8_writes_40 : decode cX8_writes 40 = .ok (.getfield 44, 3) := by decide +kernel
theorem dX8_writes_43 : decode cX8_writes 43 = .ok (.iload_n 1, 1) := by decide +kernel
theorem dX8_writes_44 : decode cX8_writes 44 = .ok (.aaload, 1) := by decide +kernel
theorem dX8_writes_45 : decode cX8_writes 45 = .ok (.iload_n 2, 1) := by decide +kernel
theorem dX8_writes_46 : decode cX8_writes 46 = .ok (.iaload, 1) := by decide +kernel
theorem dX8_writes_47 : decode cX8_writes 47 = .ok (.aload_n 0, 1) := by decide +kernel
theorem dX8_writes_48 : decode cX8_writes 48 = .ok (.getfield 53, 3) := by decide +kernel
theorem dX8_writes_51 : decode cX8_writes 51 = .ok (.iload_n 1, 1) := by decide +kernel
theorem dX8_writes_52 : decode cX8_writes 52 = .ok (.aaload, 1) := by decide +kernel
theorem dX8_writes_53 : decode cX8_writes 53 = .ok (.iload_n 2, 1) := by decide +kernel
theorem dX8_writes_54 : decode cX8_writes 54 = .ok (.iaload, 1) := by decide +kernel
theorem dX8_writes_55 : decode cX8_writes 55 = .ok (.iastore, 1) := by decide +kernel
theorem dX8_writes_56 : decode cX8_writes 56 = .ok (.return_, 1) := by decide +kernel
theorem dX8_builds_0 : decode cX8_builds 0 = .ok (.aload_n 0, 1) := by decide +kernel
theorem dX8_builds_1 : decode cX8_builds 1 = .ok (.invokevirtual 105, 3) := by decide +kernel
theorem dX8_builds_4 : decode cX8_builds 4 = .ok (.iconst 0, 1) := by decide +kernel
theorem dX8_builds_5 : decode cX8_builds 5 = .ok (.istore_n 2, 1) := by decide +kernel
theorem dX8_builds_6 : decode cX8_builds 6 = .ok (.iload_n 2, 1) := by decide +kernel
theorem dX8_builds_7 : decode cX8_builds 7 = .ok (.aload_n 0, 1) := by decide +kernel
theorem dX8_builds_8 : decode cX8_builds 8 = .ok (.getfield 108, 3) := by decide +kernel
theorem dX8_builds_11 : decode cX8_builds 11 = .ok (.if_icmp .ge 65, 3) := by decide +kernel
theorem dX8_builds_14 : decode cX8_builds 14 = .ok (.iconst 0, 1) := by decide +kernel
theorem dX8_builds_15 : decode cX8_builds 15 = .ok (.istore_n 3, 1) := by decide +kernel
theorem dX8_builds_16 : decode cX8_builds 16 = .ok (.iload_n 3, 1) := by decide +kernel
theorem dX8_builds_17 : decode cX8_builds 17 = .ok (.aload_n 0, 1) := by decide +kernel
theorem dX8_builds_18 : decode cX8_builds 18 = .ok (.getfield 39, 3) := by decide +kernel
theorem dX8_builds_21 : decode cX8_builds 21 = .ok (.iload_n 2, 1) := by decide +kernel
theorem dX8_builds_22 : decode cX8_builds 22 = .ok (.iaload, 1) := by decide +kernel
theorem dX8_builds_23 : decode cX8_builds 23 = .ok (.if_icmp .ge 47, 3) := by decide +kernel
theorem dX8_builds_26 : decode cX8_builds 26 = .ok (.aload_n 0, 1) := by decide +kernel
theorem dX8_builds_27 : decode cX8_builds 27 = .ok (.getfield 64, 3) := by decide +kernel
theorem dX8_builds_30 : decode cX8_builds 30 = .ok (.iload_n 1, 1) := by decide +kernel
theorem dX8_builds_31 : decode cX8_builds 31 = .ok (.aaload, 1) := by decide +kernel
theorem dX8_builds_32 : decode cX8_builds 32 = .ok (.iload_n 2, 1) := by decide +kernel
theorem dX8_builds_33 : decode cX8_builds 33 = .ok (.baload, 1) := by decide +kernel
theorem dX8_builds_34 : decode cX8_builds 34 = .ok (.ifCond .eq 36, 3) := by decide +kernel
theorem dX8_builds_37 : decode cX8_builds 37 = .ok (.aload_n 0, 1) := by decide +kernel
theorem dX8_builds_38 : decode cX8_builds 38 = .ok (.iload_n 2, 1) := by decide +kernel
theorem dX8_builds_39 : decode cX8_builds 39 = .ok (.aload_n 0, 1) := by decide +kernel
theorem dX8_builds_40 : decode cX8_builds 40 = .ok (.getfield 70, 3) := by decide +kernel
theorem dX8_builds_43 : decode cX8_builds 43 = .ok (.aload_n 0, 1) := by decide +kernel
theorem dX8_builds_44 : decode cX8_builds 44 = .ok (.getfield 44, 3) := by decide +kernel
theorem dX8_builds_47 : decode cX8_builds 47 = .ok (.iload_n 2, 1) := by decide +kernel
theorem dX8_builds_48 : decode cX8_builds 48 = .ok (.aaload, 1) := by decide +kernel
theorem dX8_builds_49 : decode cX8_builds 49 = .ok (.iload_n 3, 1) := by decide +kernel
theorem dX8_builds_50 : decode cX8_builds 50 = .ok (.iaload, 1) := by decide +kernel
theorem dX8_builds_51 : decode cX8_builds 51 = .ok (.iaload, 1) := by decide +kernel
theorem dX8_builds_52 : decode cX8_builds 52 = .ok (.invokevirtual 111, 3) := by decide +kernel
theorem dX8_builds_55 : decode cX8_builds 55 = .ok (.ifCond .eq 9, 3) := by decide +kernel
theorem dX8_builds_58 : decode cX8_builds 58 = .ok (.aload_n 0, 1) := by decide +kernel
theorem dX8_builds_59 : decode cX8_builds 59 = .ok (.iload_n 2, 1) := by decide +kernel
theorem dX8_builds_60 : decode cX8_builds 60 = .ok (.iload_n 3, 1) := by decide +kernel
theorem dX8_builds_61 : decode cX8_builds 61 = .ok (.invokevirtual 115, 3) := by decide +kernel
theorem dX8_builds_64 : decode cX8_builds 64 = .ok (.iinc 3 1, 3) := by decide +kernel
theorem dX8_builds_67 : decode cX8_builds 67 = .ok (.goto (-51), 3) := by decide +kernel
theorem dX8_builds_70 : decode cX8_builds 70 = .ok (.iinc 2 1, 3) := by decide +kernel
theorem dX8_builds_73 : decode cX8_builds 73 = .ok (.goto (-67), 3) := by decide +kernel
theorem dX8_builds_76 : decode cX8_builds 76 = .ok (.return_, 1) := by decide +kernel
theorem dX8_isSeen_0 : decode cX8_isSeen 0 = .ok (.iload_n 1, 1) := by decide +kernel
theorem dX8_isSeen_1 : decode cX8_isSeen 1 = .ok (.iconst 0, 1) := by decide +kernel
theorem dX8_isSeen_2 : decode cX8_isSeen 2 = .ok (.aload_n 0, 1) := by decide +kernel
theorem dX8_isSeen_3 : decode cX8_isSeen 3 = .ok (.getfield 119, 3) := by decide +kernel
theorem dX8_isSeen_6 : decode cX8_isSeen 6 = .ok (.iconst 1, 1) := by decide +kernel
theorem dX8_isSeen_7 : decode cX8_isSeen 7 = .ok (.isub, 1) := by decide +kernel
theorem dX8_isSeen_8 : decode cX8_isSeen 8 = .ok (.invokestatic 101, 3) := by decide +kernel
theorem dX8_isSeen_11 : decode cX8_isSeen 11 = .ok (.ifCond .eq 17, 3) := by decide +kernel
theorem dX8_isSeen_14 : decode cX8_isSeen 14 = .ok (.aload_n 0, 1) := by decide +kernel
theorem dX8_isSeen_15 : decode cX8_isSeen 15 = .ok (.getfield 67, 3) := by decide +kernel
theorem dX8_isSeen_18 : decode cX8_isSeen 18 = .ok (.iload_n 1, 1) := by decide +kernel
theorem dX8_isSeen_19 : decode cX8_isSeen 19 = .ok (.iaload, 1) := by decide +kernel
theorem dX8_isSeen_20 : decode cX8_isSeen 20 = .ok (.iconst 1, 1) := by decide +kernel
theorem dX8_isSeen_21 : decode cX8_isSeen 21 = .ok (.if_icmp .ne 7, 3) := by decide +kernel
theorem dX8_isSeen_24 : decode cX8_isSeen 24 = .ok (.iconst 1, 1) := by decide +kernel
theorem dX8_isSeen_25 : decode cX8_isSeen 25 = .ok (.goto 4, 3) := by decide +kernel
theorem dX8_isSeen_28 : decode cX8_isSeen 28 = .ok (.iconst 0, 1) := by decide +kernel
theorem dX8_isSeen_29 : decode cX8_isSeen 29 = .ok (.ireturn, 1) := by decide +kernel
theorem dX8_isJoined_0 : decode cX8_isJoined 0 = .ok (.iload_n 1, 1) := by decide +kernel
theorem dX8_isJoined_1 : decode cX8_isJoined 1 = .ok (.iconst 0, 1) := by decide +kernel
theorem dX8_isJoined_2 : decode cX8_isJoined 2 = .ok (.aload_n 0, 1) := by decide +kernel
theorem dX8_isJoined_3 : decode cX8_isJoined 3 = .ok (.getfield 122, 3) := by decide +kernel
theorem dX8_isJoined_6 : decode cX8_isJoined 6 = .ok (.iconst 1, 1) := by decide +kernel
theorem dX8_isJoined_7 : decode cX8_isJoined 7 = .ok (.isub, 1) := by decide +kernel
theorem dX8_isJoined_8 : decode cX8_isJoined 8 = .ok (.invokestatic 101, 3) := by decide +kernel
theorem dX8_isJoined_11 : decode cX8_isJoined 11 = .ok (.ifCond .eq 46, 3) := by decide +kernel
theorem dX8_isJoined_14 : decode cX8_isJoined 14 = .ok (.aload_n 0, 1) := by decide +kernel
theorem dX8_isJoined_15 : decode cX8_isJoined 15 = .ok (.getfield 67, 3) := by decide +kernel
theorem dX8_isJoined_18 : decode cX8_isJoined 18 = .ok (.bipush 48, 2) := by decide +kernel
theorem dX8_isJoined_20 : decode cX8_isJoined 20 = .ok (.iload_n 1, 1) := by decide +kernel
theorem dX8_isJoined_21 : decode cX8_isJoined 21 = .ok (.iadd, 1) := by decide +kernel
theorem dX8_isJoined_22 : decode cX8_isJoined 22 = .ok (.iaload, 1) := by decide +kernel
theorem dX8_isJoined_23 : decode cX8_isJoined 23 = .ok (.iconst 1, 1) := by decide +kernel
theorem dX8_isJoined_24 : decode cX8_isJoined 24 = .ok (.if_icmp .ne 33, 3) := by decide +kernel
theorem dX8_isJoined_27 : decode cX8_isJoined 27 = .ok (.aload_n 0, 1) := by decide +kernel
theorem dX8_isJoined_28 : decode cX8_isJoined 28 = .ok (.aload_n 0, 1) := by decide +kernel
theorem dX8_isJoined_29 : decode cX8_isJoined 29 = .ok (.getfield 16, 3) := by decide +kernel
theorem dX8_isJoined_32 : decode cX8_isJoined 32 = .ok (.iload_n 1, 1) := by decide +kernel
theorem dX8_isJoined_33 : decode cX8_isJoined 33 = .ok (.iaload, 1) := by decide +kernel
theorem dX8_isJoined_34 : decode cX8_isJoined 34 = .ok (.invokevirtual 125, 3) := by decide +kernel
theorem dX8_isJoined_37 : decode cX8_isJoined 37 = .ok (.ifCond .eq 20, 3) := by decide +kernel
theorem dX8_isJoined_40 : decode cX8_isJoined 40 = .ok (.aload_n 0, 1) := by decide +kernel
theorem dX8_isJoined_41 : decode cX8_isJoined 41 = .ok (.aload_n 0, 1) := by decide +kernel
theorem dX8_isJoined_42 : decode cX8_isJoined 42 = .ok (.getfield 19, 3) := by decide +kernel
theorem dX8_isJoined_45 : decode cX8_isJoined 45 = .ok (.iload_n 1, 1) := by decide +kernel
theorem dX8_isJoined_46 : decode cX8_isJoined 46 = .ok (.iaload, 1) := by decide +kernel
theorem dX8_isJoined_47 : decode cX8_isJoined 47 = .ok (.invokevirtual 125, 3) := by decide +kernel
theorem dX8_isJoined_50 : decode cX8_isJoined 50 = .ok (.ifCond .eq 7, 3) := by decide +kernel
theorem dX8_isJoined_53 : decode cX8_isJoined 53 = .ok (.iconst 1, 1) := by decide +kernel
theorem dX8_isJoined_54 : decode cX8_isJoined 54 = .ok (.goto 4, 3) := by decide +kernel
theorem dX8_isJoined_57 : decode cX8_isJoined 57 = .ok (.iconst 0, 1) := by decide +kernel
theorem dX8_isJoined_58 : decode cX8_isJoined 58 = .ok (.ireturn, 1) := by decide +kernel
theorem dX8_column_0 : decode cX8_column 0 = .ok (.aload_n 0, 1) := by decide +kernel
theorem dX8_column_1 : decode cX8_column 1 = .ok (.getfield 67, 3) := by decide +kernel
theorem dX8_column_4 : decode cX8_column 4 = .ok (.bipush 12, 2) := by decide +kernel
theorem dX8_column_6 : decode cX8_column 6 = .ok (.iload_n 1, 1) := by decide +kernel
theorem dX8_column_7 : decode cX8_column 7 = .ok (.iadd, 1) := by decide +kernel
theorem dX8_column_8 : decode cX8_column 8 = .ok (.iaload, 1) := by decide +kernel
theorem dX8_column_9 : decode cX8_column 9 = .ok (.bipush 32, 2) := by decide +kernel
theorem dX8_column_11 : decode cX8_column 11 = .ok (.idiv, 1) := by decide +kernel
theorem dX8_column_12 : decode cX8_column 12 = .ok (.ireturn, 1) := by decide +kernel
theorem dX8_row_0 : decode cX8_row 0 = .ok (.aload_n 0, 1) := by decide +kernel
theorem dX8_row_1 : decode cX8_row 1 = .ok (.getfield 67, 3) := by decide +kernel
theorem dX8_row_4 : decode cX8_row 4 = .ok (.bipush 12, 2) := by decide +kernel
theorem dX8_row_6 : decode cX8_row 6 = .ok (.iload_n 1, 1) := by decide +kernel
theorem dX8_row_7 : decode cX8_row 7 = .ok (.iadd, 1) := by decide +kernel
theorem dX8_row_8 : decode cX8_row 8 = .ok (.iaload, 1) := by decide +kernel
theorem dX8_row_9 : decode cX8_row 9 = .ok (.bipush 32, 2) := by decide +kernel
theorem dX8_row_11 : decode cX8_row 11 = .ok (.irem, 1) := by decide +kernel
theorem dX8_row_12 : decode cX8_row 12 = .ok (.ireturn, 1) := by decide +kernel
theorem dX8_key_0 : decode cX8_key 0 = .ok (.aload_n 0, 1) := by decide +kernel
theorem dX8_key_1 : decode cX8_key 1 = .ok (.getfield 67, 3) := by decide +kernel
theorem dX8_key_4 : decode cX8_key 4 = .ok (.bipush 24, 2) := by decide +kernel
theorem dX8_key_6 : decode cX8_key 6 = .ok (.iload_n 1, 1) := by decide +kernel
theorem dX8_key_7 : decode cX8_key 7 = .ok (.iadd, 1) := by decide +kernel
theorem dX8_key_8 : decode cX8_key 8 = .ok (.iaload, 1) := by decide +kernel
theorem dX8_key_9 : decode cX8_key 9 = .ok (.invokestatic 129, 3) := by decide +kernel
theorem dX8_key_12 : decode cX8_key 12 = .ok (.freturn, 1) := by decide +kernel
theorem dX8_seenMany_0 : decode cX8_seenMany 0 = .ok (.iconst 0, 1) := by decide +kernel
theorem dX8_seenMany_1 : decode cX8_seenMany 1 = .ok (.istore_n 1, 1) := by decide +kernel
theorem dX8_seenMany_2 : decode cX8_seenMany 2 = .ok (.iconst 0, 1) := by decide +kernel
theorem dX8_seenMany_3 : decode cX8_seenMany 3 = .ok (.istore_n 2, 1) := by decide +kernel
theorem dX8_seenMany_4 : decode cX8_seenMany 4 = .ok (.iload_n 2, 1) := by decide +kernel
theorem dX8_seenMany_5 : decode cX8_seenMany 5 = .ok (.aload_n 0, 1) := by decide +kernel
theorem dX8_seenMany_6 : decode cX8_seenMany 6 = .ok (.getfield 119, 3) := by decide +kernel
theorem dX8_seenMany_9 : decode cX8_seenMany 9 = .ok (.if_icmp .ge 25, 3) := by decide +kernel
theorem dX8_seenMany_12 : decode cX8_seenMany 12 = .ok (.iload_n 1, 1) := by decide +kernel
theorem dX8_seenMany_13 : decode cX8_seenMany 13 = .ok (.aload_n 0, 1) := by decide +kernel
theorem dX8_seenMany_14 : decode cX8_seenMany 14 = .ok (.iload_n 2, 1) := by decide +kernel
theorem dX8_seenMany_15 : decode cX8_seenMany 15 = .ok (.invokevirtual 125, 3) := by decide +kernel
theorem dX8_seenMany_18 : decode cX8_seenMany 18 = .ok (.ifCond .eq 7, 3) := by decide +kernel
theorem dX8_seenMany_21 : decode cX8_seenMany 21 = .ok (.iconst 1, 1) := by decide +kernel
theorem dX8_seenMany_22 : decode cX8_seenMany 22 = .ok (.goto 4, 3) := by decide +kernel
theorem dX8_seenMany_25 : decode cX8_seenMany 25 = .ok (.iconst 0, 1) := by decide +kernel
theorem dX8_seenMany_26 : decode cX8_seenMany 26 = .ok (.iadd, 1) := by decide +kernel
theorem dX8_seenMany_27 : decode cX8_seenMany 27 = .ok (.istore_n 1, 1) := by decide +kernel
theorem dX8_seenMany_28 : decode cX8_seenMany 28 = .ok (.iinc 2 1, 3) := by decide +kernel
theorem dX8_seenMany_31 : decode cX8_seenMany 31 = .ok (.goto (-27), 3) := by decide +kernel
theorem dX8_seenMany_34 : decode cX8_seenMany 34 = .ok (.iload_n 1, 1) := by decide +kernel
theorem dX8_seenMany_35 : decode cX8_seenMany 35 = .ok (.ireturn, 1) := by decide +kernel
theorem dX8_joinedMany_0 : decode cX8_joinedMany 0 = .ok (.iconst 0, 1) := by decide +kernel
theorem dX8_joinedMany_1 : decode cX8_joinedMany 1 = .ok (.istore_n 1, 1) := by decide +kernel
theorem dX8_joinedMany_2 : decode cX8_joinedMany 2 = .ok (.iconst 0, 1) := by decide +kernel
theorem dX8_joinedMany_3 : decode cX8_joinedMany 3 = .ok (.istore_n 2, 1) := by decide +kernel
theorem dX8_joinedMany_4 : decode cX8_joinedMany 4 = .ok (.iload_n 2, 1) := by decide +kernel
theorem dX8_joinedMany_5 : decode cX8_joinedMany 5 = .ok (.aload_n 0, 1) := by decide +kernel
theorem dX8_joinedMany_6 : decode cX8_joinedMany 6 = .ok (.getfield 122, 3) := by decide +kernel
theorem dX8_joinedMany_9 : decode cX8_joinedMany 9 = .ok (.if_icmp .ge 25, 3) := by decide +kernel
theorem dX8_joinedMany_12 : decode cX8_joinedMany 12 = .ok (.iload_n 1, 1) := by decide +kernel
theorem dX8_joinedMany_13 : decode cX8_joinedMany 13 = .ok (.aload_n 0, 1) := by decide +kernel
theorem dX8_joinedMany_14 : decode cX8_joinedMany 14 = .ok (.iload_n 2, 1) := by decide +kernel
theorem dX8_joinedMany_15 : decode cX8_joinedMany 15 = .ok (.invokevirtual 135, 3) := by decide +kernel
theorem dX8_joinedMany_18 : decode cX8_joinedMany 18 = .ok (.ifCond .eq 7, 3) := by decide +kernel
theorem dX8_joinedMany_21 : decode cX8_joinedMany 21 = .ok (.iconst 1, 1) := by decide +kernel
theorem dX8_joinedMany_22 : decode cX8_joinedMany 22 = .ok (.goto 4, 3) := by decide +kernel
theorem dX8_joinedMany_25 : decode cX8_joinedMany 25 = .ok (.iconst 0, 1) := by decide +kernel
theorem dX8_joinedMany_26 : decode cX8_joinedMany 26 = .ok (.iadd, 1) := by decide +kernel
theorem dX8_joinedMany_27 : decode cX8_joinedMany 27 = .ok (.istore_n 1, 1) := by decide +kernel
theorem dX8_joinedMany_28 : decode cX8_joinedMany 28 = .ok (.iinc 2 1, 3) := by decide +kernel
theorem dX8_joinedMany_31 : decode cX8_joinedMany 31 = .ok (.goto (-27), 3) := by decide +kernel
theorem dX8_joinedMany_34 : decode cX8_joinedMany 34 = .ok (.iload_n 1, 1) := by decide +kernel
theorem dX8_joinedMany_35 : decode cX8_joinedMany 35 = .ok (.ireturn, 1) := by decide +kernel
theorem dX8_rank_0 : decode cX8_rank 0 = .ok (.iconst 0, 1) := by decide +kernel
theorem dX8_rank_1 : decode cX8_rank 1 = .ok (.istore_n 2, 1) := by decide +kernel
theorem dX8_rank_2 : decode cX8_rank 2 = .ok (.iconst 0, 1) := by decide +kernel
theorem dX8_rank_3 : decode cX8_rank 3 = .ok (.istore_n 3, 1) := by decide +kernel
theorem dX8_rank_4 : decode cX8_rank 4 = .ok (.iload_n 3, 1) := by decide +kernel
theorem dX8_rank_5 : decode cX8_rank 5 = .ok (.aload_n 0, 1) := by decide +kernel
theorem dX8_rank_6 : decode cX8_rank 6 = .ok (.getfield 119, 3) := by decide +kernel
theorem dX8_rank_9 : decode cX8_rank 9 = .ok (.if_icmp .ge 58, 3) := by decide +kernel
theorem dX8_rank_12 : decode cX8_rank 12 = .ok (.iload_n 2, 1) := by decide +kernel
theorem dX8_rank_13 : decode cX8_rank 13 = .ok (.aload_n 0, 1) := by decide +kernel
theorem dX8_rank_14 : decode cX8_rank 14 = .ok (.iload_n 3, 1) := by decide +kernel
theorem dX8_rank_15 : decode cX8_rank 15 = .ok (.invokevirtual 125, 3) := by decide +kernel
theorem dX8_rank_18 : decode cX8_rank 18 = .ok (.ifCond .eq 40, 3) := by decide +kernel
theorem dX8_rank_21 : decode cX8_rank 21 = .ok (.aload_n 0, 1) := by decide +kernel
theorem dX8_rank_22 : decode cX8_rank 22 = .ok (.iload_n 3, 1) := by decide +kernel
theorem dX8_rank_23 : decode cX8_rank 23 = .ok (.invokevirtual 138, 3) := by decide +kernel
theorem dX8_rank_26 : decode cX8_rank 26 = .ok (.aload_n 0, 1) := by decide +kernel
theorem dX8_rank_27 : decode cX8_rank 27 = .ok (.iload_n 1, 1) := by decide +kernel
theorem dX8_rank_28 : decode cX8_rank 28 = .ok (.invokevirtual 138, 3) := by decide +kernel
theorem dX8_rank_31 : decode cX8_rank 31 = .ok (.fcmp .g, 1) := by decide +kernel
theorem dX8_rank_32 : decode cX8_rank 32 = .ok (.ifCond .lt 22, 3) := by decide +kernel
theorem dX8_rank_35 : decode cX8_rank 35 = .ok (.aload_n 0, 1) := by decide +kernel
theorem dX8_rank_36 : decode cX8_rank 36 = .ok (.iload_n 3, 1) := by decide +kernel
theorem dX8_rank_37 : decode cX8_rank 37 = .ok (.invokevirtual 138, 3) := by decide +kernel
theorem dX8_rank_40 : decode cX8_rank 40 = .ok (.aload_n 0, 1) := by decide +kernel
theorem dX8_rank_41 : decode cX8_rank 41 = .ok (.iload_n 1, 1) := by decide +kernel
theorem dX8_rank_42 : decode cX8_rank 42 = .ok (.invokevirtual 138, 3) := by decide +kernel
theorem dX8_rank_45 : decode cX8_rank 45 = .ok (.fcmp .l, 1) := by decide +kernel
theorem dX8_rank_46 : decode cX8_rank 46 = .ok (.ifCond .ne 12, 3) := by decide +kernel
theorem dX8_rank_49 : decode cX8_rank 49 = .ok (.iload_n 3, 1) := by decide +kernel
theorem dX8_rank_50 : decode cX8_rank 50 = .ok (.iload_n 1, 1) := by decide +kernel
theorem dX8_rank_51 : decode cX8_rank 51 = .ok (.if_icmp .ge 7, 3) := by decide +kernel
theorem dX8_rank_54 : decode cX8_rank 54 = .ok (.iconst 1, 1) := by decide +kernel
theorem dX8_rank_55 : decode cX8_rank 55 = .ok (.goto 4, 3) := by decide +kernel
theorem dX8_rank_58 : decode cX8_rank 58 = .ok (.iconst 0, 1) := by decide +kernel
theorem dX8_rank_59 : decode cX8_rank 59 = .ok (.iadd, 1) := by decide +kernel
theorem dX8_rank_60 : decode cX8_rank 60 = .ok (.istore_n 2, 1) := by decide +kernel
theorem dX8_rank_61 : decode cX8_rank 61 = .ok (.iinc 3 1, 3) := by decide +kernel
theorem dX8_rank_64 : decode cX8_rank 64 = .ok (.goto (-60), 3) := by decide +kernel
theorem dX8_rank_67 : decode cX8_rank 67 = .ok (.iload_n 2, 1) := by decide +kernel
theorem dX8_rank_68 : decode cX8_rank 68 = .ok (.ireturn, 1) := by decide +kernel
theorem dX8_greatest_0 : decode cX8_greatest 0 = .ok (.iconst (-1), 1) := by decide +kernel
theorem dX8_greatest_1 : decode cX8_greatest 1 = .ok (.istore_n 1, 1) := by decide +kernel
theorem dX8_greatest_2 : decode cX8_greatest 2 = .ok (.iconst 0, 1) := by decide +kernel
theorem dX8_greatest_3 : decode cX8_greatest 3 = .ok (.istore_n 2, 1) := by decide +kernel
theorem dX8_greatest_4 : decode cX8_greatest 4 = .ok (.iload_n 2, 1) := by decide +kernel
theorem dX8_greatest_5 : decode cX8_greatest 5 = .ok (.aload_n 0, 1) := by decide +kernel
theorem dX8_greatest_6 : decode cX8_greatest 6 = .ok (.getfield 119, 3) := by decide +kernel
theorem dX8_greatest_9 : decode cX8_greatest 9 = .ok (.if_icmp .ge 41, 3) := by decide +kernel
theorem dX8_greatest_12 : decode cX8_greatest 12 = .ok (.aload_n 0, 1) := by decide +kernel
theorem dX8_greatest_13 : decode cX8_greatest 13 = .ok (.iload_n 2, 1) := by decide +kernel
theorem dX8_greatest_14 : decode cX8_greatest 14 = .ok (.invokevirtual 125, 3) := by decide +kernel
theorem dX8_greatest_17 : decode cX8_greatest 17 = .ok (.ifCond .eq 25, 3) := by decide +kernel
theorem dX8_greatest_20 : decode cX8_greatest 20 = .ok (.iload_n 1, 1) := by decide +kernel
theorem dX8_greatest_21 : decode cX8_greatest 21 = .ok (.ifCond .lt 17, 3) := by decide +kernel
theorem dX8_greatest_24 : decode cX8_greatest 24 = .ok (.aload_n 0, 1) := by decide +kernel
theorem dX8_greatest_25 : decode cX8_greatest 25 = .ok (.iload_n 2, 1) := by decide +kernel
theorem dX8_greatest_26 : decode cX8_greatest 26 = .ok (.invokevirtual 138, 3) := by decide +kernel
theorem dX8_greatest_29 : decode cX8_greatest 29 = .ok (.aload_n 0, 1) := by decide +kernel
theorem dX8_greatest_30 : decode cX8_greatest 30 = .ok (.iload_n 1, 1) := by decide +kernel
theorem dX8_greatest_31 : decode cX8_greatest 31 = .ok (.invokevirtual 138, 3) := by decide +kernel
theorem dX8_greatest_34 : decode cX8_greatest 34 = .ok (.fcmp .l, 1) := by decide +kernel
theorem dX8_greatest_35 : decode cX8_greatest 35 = .ok (.ifCond .le 7, 3) := by decide +kernel
theorem dX8_greatest_38 : decode cX8_greatest 38 = .ok (.iload_n 2, 1) := by decide +kernel
theorem dX8_greatest_39 : decode cX8_greatest 39 = .ok (.goto 4, 3) := by decide +kernel
theorem dX8_greatest_42 : decode cX8_greatest 42 = .ok (.iload_n 1, 1) := by decide +kernel
theorem dX8_greatest_43 : decode cX8_greatest 43 = .ok (.istore_n 1, 1) := by decide +kernel
theorem dX8_greatest_44 : decode cX8_greatest 44 = .ok (.iinc 2 1, 3) := by decide +kernel
theorem dX8_greatest_47 : decode cX8_greatest 47 = .ok (.goto (-43), 3) := by decide +kernel
theorem dX8_greatest_50 : decode cX8_greatest 50 = .ok (.iload_n 1, 1) := by decide +kernel
theorem dX8_greatest_51 : decode cX8_greatest 51 = .ok (.ireturn, 1) := by decide +kernel
theorem dX8_lowest_0 : decode cX8_lowest 0 = .ok (.iconst (-1), 1) := by decide +kernel
theorem dX8_lowest_1 : decode cX8_lowest 1 = .ok (.istore_n 1, 1) := by decide +kernel
theorem dX8_lowest_2 : decode cX8_lowest 2 = .ok (.iconst 0, 1) := by decide +kernel
theorem dX8_lowest_3 : decode cX8_lowest 3 = .ok (.istore_n 2, 1) := by decide +kernel
theorem dX8_lowest_4 : decode cX8_lowest 4 = .ok (.iload_n 2, 1) := by decide +kernel
theorem dX8_lowest_5 : decode cX8_lowest 5 = .ok (.aload_n 0, 1) := by decide +kernel
theorem dX8_lowest_6 : decode cX8_lowest 6 = .ok (.getfield 119, 3) := by decide +kernel
theorem dX8_lowest_9 : decode cX8_lowest 9 = .ok (.if_icmp .ge 41, 3) := by decide +kernel
theorem dX8_lowest_12 : decode cX8_lowest 12 = .ok (.aload_n 0, 1) := by decide +kernel
theorem dX8_lowest_13 : decode cX8_lowest 13 = .ok (.iload_n 2, 1) := by decide +kernel
theorem dX8_lowest_14 : decode cX8_lowest 14 = .ok (.invokevirtual 125, 3) := by decide +kernel
theorem dX8_lowest_17 : decode cX8_lowest 17 = .ok (.ifCond .eq 25, 3) := by decide +kernel
theorem dX8_lowest_20 : decode cX8_lowest 20 = .ok (.iload_n 1, 1) := by decide +kernel
theorem dX8_lowest_21 : decode cX8_lowest 21 = .ok (.ifCond .lt 17, 3) := by decide +kernel
theorem dX8_lowest_24 : decode cX8_lowest 24 = .ok (.aload_n 0, 1) := by decide +kernel
theorem dX8_lowest_25 : decode cX8_lowest 25 = .ok (.iload_n 2, 1) := by decide +kernel
theorem dX8_lowest_26 : decode cX8_lowest 26 = .ok (.invokevirtual 138, 3) := by decide +kernel
theorem dX8_lowest_29 : decode cX8_lowest 29 = .ok (.aload_n 0, 1) := by decide +kernel
theorem dX8_lowest_30 : decode cX8_lowest 30 = .ok (.iload_n 1, 1) := by decide +kernel
theorem dX8_lowest_31 : decode cX8_lowest 31 = .ok (.invokevirtual 138, 3) := by decide +kernel
theorem dX8_lowest_34 : decode cX8_lowest 34 = .ok (.fcmp .g, 1) := by decide +kernel
theorem dX8_lowest_35 : decode cX8_lowest 35 = .ok (.ifCond .ge 7, 3) := by decide +kernel
theorem dX8_lowest_38 : decode cX8_lowest 38 = .ok (.iload_n 2, 1) := by decide +kernel
theorem dX8_lowest_39 : decode cX8_lowest 39 = .ok (.goto 4, 3) := by decide +kernel
theorem dX8_lowest_42 : decode cX8_lowest 42 = .ok (.iload_n 1, 1) := by decide +kernel
theorem dX8_lowest_43 : decode cX8_lowest 43 = .ok (.istore_n 1, 1) := by decide +kernel
theorem dX8_lowest_44 : decode cX8_lowest 44 = .ok (.iinc 2 1, 3) := by decide +kernel
theorem dX8_lowest_47 : decode cX8_lowest 47 = .ok (.goto (-43), 3) := by decide +kernel
theorem dX8_lowest_50 : decode cX8_lowest 50 = .ok (.iload_n 1, 1) := by decide +kernel
theorem dX8_lowest_51 : decode cX8_lowest 51 = .ok (.ireturn, 1) := by decide +kernel
theorem dX8_isInside_0 : decode cX8_isInside 0 = .ok (.aload_n 0, 1) := by decide +kernel
theorem dX8_isInside_1 : decode cX8_isInside 1 = .ok (.iload_n 1, 1) := by decide +kernel
theorem dX8_isInside_2 : decode cX8_isInside 2 = .ok (.invokevirtual 141, 3) := by decide +kernel
theorem dX8_isInside_5 : decode cX8_isInside 5 = .ok (.aload_n 0, 1) := by decide +kernel
theorem dX8_isInside_6 : decode cX8_isInside 6 = .ok (.iload_n 2, 1) := by decide +kernel
theorem dX8_isInside_7 : decode cX8_isInside 7 = .ok (.invokevirtual 141, 3) := by decide +kernel
theorem dX8_isInside_10 : decode cX8_isInside 10 = .ok (.if_icmp .lt 74, 3) := by decide +kernel
theorem dX8_isInside_13 : decode cX8_isInside 13 = .ok (.aload_n 0, 1) := by decide +kernel
theorem dX8_isInside_14 : decode cX8_isInside 14 = .ok (.iload_n 1, 1) := by decide +kernel
theorem dX8_isInside_15 : decode cX8_isInside 15 = .ok (.invokevirtual 145, 3) := by decide +kernel
theorem dX8_isInside_18 : decode cX8_isInside 18 = .ok (.aload_n 0, 1) := by decide +kernel
theorem dX8_isInside_19 : decode cX8_isInside 19 = .ok (.iload_n 2, 1) := by decide +kernel
theorem dX8_isInside_20 : decode cX8_isInside 20 = .ok (.invokevirtual 145, 3) := by decide +kernel
theorem dX8_isInside_23 : decode cX8_isInside 23 = .ok (.if_icmp .lt 61, 3) := by decide +kernel
theorem dX8_isInside_26 : decode cX8_isInside 26 = .ok (.aload_n 0, 1) := by decide +kernel
theorem dX8_isInside_27 : decode cX8_isInside 27 = .ok (.iload_n 1, 1) := by decide +kernel
theorem dX8_isInside_28 : decode cX8_isInside 28 = .ok (.invokevirtual 141, 3) := by decide +kernel
theorem dX8_isInside_31 : decode cX8_isInside 31 = .ok (.aload_n 0, 1) := by decide +kernel
theorem dX8_isInside_32 : decode cX8_isInside 32 = .ok (.getfield 9, 3) := by decide +kernel
theorem dX8_isInside_35 : decode cX8_isInside 35 = .ok (.iload_n 1, 1) := by decide +kernel
theorem dX8_isInside_36 : decode cX8_isInside 36 = .ok (.iaload, 1) := by decide +kernel
theorem dX8_isInside_37 : decode cX8_isInside 37 = .ok (.iadd, 1) := by decide +kernel
theorem dX8_isInside_38 : decode cX8_isInside 38 = .ok (.aload_n 0, 1) := by decide +kernel
theorem dX8_isInside_39 : decode cX8_isInside 39 = .ok (.iload_n 2, 1) := by decide +kernel
theorem dX8_isInside_40 : decode cX8_isInside 40 = .ok (.invokevirtual 141, 3) := by decide +kernel
theorem dX8_isInside_43 : decode cX8_isInside 43 = .ok (.aload_n 0, 1) := by decide +kernel
theorem dX8_isInside_44 : decode cX8_isInside 44 = .ok (.getfield 9, 3) := by decide +kernel
theorem dX8_isInside_47 : decode cX8_isInside 47 = .ok (.iload_n 2, 1) := by decide +kernel
theorem dX8_isInside_48 : decode cX8_isInside 48 = .ok (.iaload, 1) := by decide +kernel
theorem dX8_isInside_49 : decode cX8_isInside 49 = .ok (.iadd, 1) := by decide +kernel
theorem dX8_isInside_50 : decode cX8_isInside 50 = .ok (.if_icmp .gt 34, 3) := by decide +kernel
theorem dX8_isInside_53 : decode cX8_isInside 53 = .ok (.aload_n 0, 1) := by decide +kernel
theorem dX8_isInside_54 : decode cX8_isInside 54 = .ok (.iload_n 1, 1) := by decide +kernel
theorem dX8_isInside_55 : decode cX8_isInside 55 = .ok (.invokevirtual 145, 3) := by decide +kernel
theorem dX8_isInside_58 : decode cX8_isInside 58 = .ok (.aload_n 0, 1) := by decide +kernel
theorem dX8_isInside_59 : decode cX8_isInside 59 = .ok (.getfield 13, 3) := by decide +kernel
theorem dX8_isInside_62 : decode cX8_isInside 62 = .ok (.iload_n 1, 1) := by decide +kernel
theorem dX8_isInside_63 : decode cX8_isInside 63 = .ok (.iaload, 1) := by decide +kernel
theorem dX8_isInside_64 : decode cX8_isInside 64 = .ok (.iadd, 1) := by decide +kernel
theorem dX8_isInside_65 : decode cX8_isInside 65 = .ok (.aload_n 0, 1) := by decide +kernel
theorem dX8_isInside_66 : decode cX8_isInside 66 = .ok (.iload_n 2, 1) := by decide +kernel
theorem dX8_isInside_67 : decode cX8_isInside 67 = .ok (.invokevirtual 145, 3) := by decide +kernel
theorem dX8_isInside_70 : decode cX8_isInside 70 = .ok (.aload_n 0, 1) := by decide +kernel
theorem dX8_isInside_71 : decode cX8_isInside 71 = .ok (.getfield 13, 3) := by decide +kernel
theorem dX8_isInside_74 : decode cX8_isInside 74 = .ok (.iload_n 2, 1) := by decide +kernel
theorem dX8_isInside_75 : decode cX8_isInside 75 = .ok (.iaload, 1) := by decide +kernel
theorem dX8_isInside_76 : decode cX8_isInside 76 = .ok (.iadd, 1) := by decide +kernel
theorem dX8_isInside_77 : decode cX8_isInside 77 = .ok (.if_icmp .gt 7, 3) := by decide +kernel
theorem dX8_isInside_80 : decode cX8_isInside 80 = .ok (.iconst 1, 1) := by decide +kernel
theorem dX8_isInside_81 : decode cX8_isInside 81 = .ok (.goto 4, 3) := by decide +kernel
theorem dX8_isInside_84 : decode cX8_isInside 84 = .ok (.iconst 0, 1) := by decide +kernel
theorem dX8_isInside_85 : decode cX8_isInside 85 = .ok (.ireturn, 1) := by decide +kernel
theorem dX8_isBarred_0 : decode cX8_isBarred 0 = .ok (.aload_n 0, 1) := by decide +kernel
theorem dX8_isBarred_1 : decode cX8_isBarred 1 = .ok (.getfield 67, 3) := by decide +kernel
theorem dX8_isBarred_4 : decode cX8_isBarred 4 = .ok (.bipush 36, 2) := by decide +kernel
theorem dX8_isBarred_6 : decode cX8_isBarred 6 = .ok (.iload_n 2, 1) := by decide +kernel
theorem dX8_isBarred_7 : decode cX8_isBarred 7 = .ok (.iadd, 1) := by decide +kernel
theorem dX8_isBarred_8 : decode cX8_isBarred 8 = .ok (.iaload, 1) := by decide +kernel
theorem dX8_isBarred_9 : decode cX8_isBarred 9 = .ok (.iconst (-1), 1) := by decide +kernel
theorem dX8_isBarred_10 : decode cX8_isBarred 10 = .ok (.if_icmp .eq 20, 3) := by decide +kernel
theorem dX8_isBarred_13 : decode cX8_isBarred 13 = .ok (.aload_n 0, 1) := by decide +kernel
theorem dX8_isBarred_14 : decode cX8_isBarred 14 = .ok (.getfield 67, 3) := by decide +kernel
theorem dX8_isBarred_17 : decode cX8_isBarred 17 = .ok (.bipush 36, 2) := by decide +kernel
theorem dX8_isBarred_19 : decode cX8_isBarred 19 = .ok (.iload_n 2, 1) := by decide +kernel
theorem dX8_isBarred_20 : decode cX8_isBarred 20 = .ok (.iadd, 1) := by decide +kernel
theorem dX8_isBarred_21 : decode cX8_isBarred 21 = .ok (.iaload, 1) := by decide +kernel
theorem dX8_isBarred_22 : decode cX8_isBarred 22 = .ok (.iload_n 1, 1) := by decide +kernel
theorem dX8_isBarred_23 : decode cX8_isBarred 23 = .ok (.if_icmp .eq 7, 3) := by decide +kernel
theorem dX8_isBarred_26 : decode cX8_isBarred 26 = .ok (.iconst 1, 1) := by decide +kernel
theorem dX8_isBarred_27 : decode cX8_isBarred 27 = .ok (.goto 4, 3) := by decide +kernel
theorem dX8_isBarred_30 : decode cX8_isBarred 30 = .ok (.iconst 0, 1) := by decide +kernel
theorem dX8_isBarred_31 : decode cX8_isBarred 31 = .ok (.ireturn, 1) := by decide +kernel
theorem dX8_restores_0 : decode cX8_restores 0 = .ok (.aload_n 0, 1) := by decide +kernel
theorem dX8_restores_1 : decode cX8_restores 1 = .ok (.getfield 76, 3) := by decide +kernel
theorem dX8_restores_4 : decode cX8_restores 4 = .ok (.aload_n 0, 1) := by decide +kernel
theorem dX8_restores_5 : decode cX8_restores 5 = .ok (.getfield 148, 3) := by decide +kernel
theorem dX8_restores_8 : decode cX8_restores 8 = .ok (.iload_n 1, 1) := by decide +kernel
theorem dX8_restores_9 : decode cX8_restores 9 = .ok (.iastore, 1) := by decide +kernel
theorem dX8_restores_10 : decode cX8_restores 10 = .ok (.aload_n 0, 1) := by decide +kernel
theorem dX8_restores_11 : decode cX8_restores 11 = .ok (.getfield 79, 3) := by decide +kernel
theorem dX8_restores_14 : decode cX8_restores 14 = .ok (.aload_n 0, 1) := by decide +kernel
theorem dX8_restores_15 : decode cX8_restores 15 = .ok (.getfield 148, 3) := by decide +kernel
theorem dX8_restores_18 : decode cX8_restores 18 = .ok (.iload_n 2, 1) := by decide +kernel
theorem dX8_restores_19 : decode cX8_restores 19 = .ok (.iastore, 1) := by decide +kernel
theorem dX8_restores_20 : decode cX8_restores 20 = .ok (.aload_n 0, 1) := by decide +kernel
theorem dX8_restores_21 : decode cX8_restores 21 = .ok (.getfield 82, 3) := by decide +kernel
theorem dX8_restores_24 : decode cX8_restores 24 = .ok (.aload_n 0, 1) := by decide +kernel
theorem dX8_restores_25 : decode cX8_restores 25 = .ok (.getfield 148, 3) := by decide +kernel
theorem dX8_restores_28 : decode cX8_restores 28 = .ok (.iload_n 3, 1) := by decide +kernel
theorem dX8_restores_29 : decode cX8_restores 29 = .ok (.iastore, 1) := by decide +kernel
theorem dX8_restores_30 : decode cX8_restores 30 = .ok (.aload_n 0, 1) := by decide +kernel
theorem dX8_restores_31 : decode cX8_restores 31 = .ok (.dup, 1) := by decide +kernel
theorem dX8_restores_32 : decode cX8_restores 32 = .ok (.getfield 148, 3) := by decide +kernel
theorem dX8_restores_35 : decode cX8_restores 35 = .ok (.iconst 1, 1) := by decide +kernel
theorem dX8_restores_36 : decode cX8_restores 36 = .ok (.iadd, 1) := by decide +kernel
theorem dX8_restores_37 : decode cX8_restores 37 = .ok (.putfield 148, 3) := by decide +kernel
theorem dX8_restores_40 : decode cX8_restores 40 = .ok (.return_, 1) := by decide +kernel
theorem dX8_plans_0 : decode cX8_plans 0 = .ok (.aload_n 0, 1) := by decide +kernel
theorem dX8_plans_1 : decode cX8_plans 1 = .ok (.iload_n 1, 1) := by decide +kernel
theorem dX8_plans_2 : decode cX8_plans 2 = .ok (.iload_n 2, 1) := by decide +kernel
theorem dX8_plans_3 : decode cX8_plans 3 = .ok (.aload_n 0, 1) := by decide +kernel
theorem dX8_plans_4 : decode cX8_plans 4 = .ok (.getfield 108, 3) := by decide +kernel
theorem dX8_plans_7 : decode cX8_plans 7 = .ok (.invokevirtual 151, 3) := by decide +kernel
theorem dX8_plans_10 : decode cX8_plans 10 = .ok (.return_, 1) := by decide +kernel
theorem dX8_makes_0 : decode cX8_makes 0 = .ok (.iconst 0, 1) := by decide +kernel
theorem dX8_makes_1 : decode cX8_makes 1 = .ok (.istore_n 3, 1) := by decide +kernel
theorem dX8_makes_2 : decode cX8_makes 2 = .ok (.iconst 0, 1) := by decide +kernel
theorem dX8_makes_3 : decode cX8_makes 3 = .ok (.istore 4, 2) := by decide +kernel
theorem dX8_makes_5 : decode cX8_makes 5 = .ok (.iload 4, 2) := by decide +kernel
theorem dX8_makes_7 : decode cX8_makes 7 = .ok (.aload_n 0, 1) := by decide +kernel
theorem dX8_makes_8 : decode cX8_makes 8 = .ok (.getfield 108, 3) := by decide +kernel
theorem dX8_makes_11 : decode cX8_makes 11 = .ok (.if_icmp .ge 37, 3) := by decide +kernel
theorem dX8_makes_14 : decode cX8_makes 14 = .ok (.aload_n 0, 1) := by decide +kernel
theorem dX8_makes_15 : decode cX8_makes 15 = .ok (.getfield 64, 3) := by decide +kernel
theorem dX8_makes_18 : decode cX8_makes 18 = .ok (.iload_n 1, 1) := by decide +kernel
theorem dX8_makes_19 : decode cX8_makes 19 = .ok (.aaload, 1) := by decide +kernel
theorem dX8_makes_20 : decode cX8_makes 20 = .ok (.iload 4, 2) := by decide +kernel
theorem dX8_makes_22 : decode cX8_makes 22 = .ok (.baload, 1) := by decide +kernel
theorem dX8_makes_23 : decode cX8_makes 23 = .ok (.ifCond .eq 17, 3) := by decide +kernel
theorem dX8_makes_26 : decode cX8_makes 26 = .ok (.iload_n 3, 1) := by decide +kernel
theorem dX8_makes_27 : decode cX8_makes 27 = .ok (.aload_n 0, 1) := by decide +kernel
theorem dX8_makes_28 : decode cX8_makes 28 = .ok (.getfield 36, 3) := by decide +kernel
theorem dX8_makes_31 : decode cX8_makes 31 = .ok (.iload 4, 2) := by decide +kernel
theorem dX8_makes_33 : decode cX8_makes 33 = .ok (.iaload, 1) := by decide +kernel
theorem dX8_makes_34 : decode cX8_makes 34 = .ok (.invokestatic 155, 3) := by decide +kernel
theorem dX8_makes_37 : decode cX8_makes 37 = .ok (.goto 4, 3) := by decide +kernel
theorem dX8_makes_40 : decode cX8_makes 40 = .ok (.iload_n 3, 1) := by decide +kernel
theorem dX8_makes_41 : decode cX8_makes 41 = .ok (.istore_n 3, 1) := by decide +kernel
theorem dX8_makes_42 : decode cX8_makes 42 = .ok (.iinc 4 1, 3) := by decide +kernel
theorem dX8_makes_45 : decode cX8_makes 45 = .ok (.goto (-40), 3) := by decide +kernel
theorem dX8_makes_48 : decode cX8_makes 48 = .ok (.aload_n 0, 1) := by decide +kernel
theorem dX8_makes_49 : decode cX8_makes 49 = .ok (.getfield 33, 3) := by decide +kernel
theorem dX8_makes_52 : decode cX8_makes 52 = .ok (.aload_n 0, 1) := by decide +kernel
theorem dX8_makes_53 : decode cX8_makes 53 = .ok (.getfield 108, 3) := by decide +kernel
theorem dX8_makes_56 : decode cX8_makes 56 = .ok (.iload_n 1, 1) := by decide +kernel
theorem dX8_makes_57 : decode cX8_makes 57 = .ok (.iastore, 1) := by decide +kernel
theorem dX8_makes_58 : decode cX8_makes 58 = .ok (.aload_n 0, 1) := by decide +kernel
theorem dX8_makes_59 : decode cX8_makes 59 = .ok (.getfield 36, 3) := by decide +kernel
theorem dX8_makes_62 : decode cX8_makes 62 = .ok (.aload_n 0, 1) := by decide +kernel
theorem dX8_makes_63 : decode cX8_makes 63 = .ok (.getfield 108, 3) := by decide +kernel
theorem dX8_makes_66 : decode cX8_makes 66 = .ok (.iload_n 3, 1) := by decide +kernel
theorem dX8_makes_67 : decode cX8_makes 67 = .ok (.iconst 1, 1) := by decide +kernel
theorem dX8_makes_68 : decode cX8_makes 68 = .ok (.iadd, 1) := by decide +kernel
theorem dX8_makes_69 : decode cX8_makes 69 = .ok (.iastore, 1) := by decide +kernel
theorem dX8_makes_70 : decode cX8_makes 70 = .ok (.aload_n 0, 1) := by decide +kernel
theorem dX8_makes_71 : decode cX8_makes 71 = .ok (.getfield 39, 3) := by decide +kernel
theorem dX8_makes_74 : decode cX8_makes 74 = .ok (.aload_n 0, 1) := by decide +kernel
theorem dX8_makes_75 : decode cX8_makes 75 = .ok (.getfield 108, 3) := by decide +kernel
theorem dX8_makes_78 : decode cX8_makes 78 = .ok (.aload_n 0, 1) := by decide +kernel
theorem dX8_makes_79 : decode cX8_makes 79 = .ok (.getfield 148, 3) := by decide +kernel
theorem dX8_makes_82 : decode cX8_makes 82 = .ok (.iastore, 1) := by decide +kernel
theorem dX8_makes_83 : decode cX8_makes 83 = .ok (.aload_n 0, 1) := by decide +kernel
theorem dX8_makes_84 : decode cX8_makes 84 = .ok (.getfield 59, 3) := by decide +kernel
theorem dX8_makes_87 : decode cX8_makes 87 = .ok (.aload_n 0, 1) := by decide +kernel
theorem dX8_makes_88 : decode cX8_makes 88 = .ok (.getfield 108, 3) := by decide +kernel
theorem dX8_makes_91 : decode cX8_makes 91 = .ok (.iload_n 2, 1) := by decide +kernel
theorem dX8_makes_92 : decode cX8_makes 92 = .ok (.bastore, 1) := by decide +kernel
theorem dX8_makes_93 : decode cX8_makes 93 = .ok (.aload_n 0, 1) := by decide +kernel
theorem dX8_makes_94 : decode cX8_makes 94 = .ok (.getfield 64, 3) := by decide +kernel
theorem dX8_makes_97 : decode cX8_makes 97 = .ok (.iload_n 1, 1) := by decide +kernel
theorem dX8_makes_98 : decode cX8_makes 98 = .ok (.aaload, 1) := by decide +kernel
theorem dX8_makes_99 : decode cX8_makes 99 = .ok (.aload_n 0, 1) := by decide +kernel
theorem dX8_makes_100 : decode cX8_makes 100 = .ok (.getfield 108, 3) := by decide +kernel
theorem dX8_makes_103 : decode cX8_makes 103 = .ok (.iconst 1, 1) := by decide +kernel
theorem dX8_makes_104 : decode cX8_makes 104 = .ok (.bastore, 1) := by decide +kernel
theorem dX8_makes_105 : decode cX8_makes 105 = .ok (.iconst 0, 1) := by decide +kernel
theorem dX8_makes_106 : decode cX8_makes 106 = .ok (.istore 4, 2) := by decide +kernel
theorem dX8_makes_108 : decode cX8_makes 108 = .ok (.iload 4, 2) := by decide +kernel
theorem dX8_makes_110 : decode cX8_makes 110 = .ok (.aload_n 0, 1) := by decide +kernel
theorem dX8_makes_111 : decode cX8_makes 111 = .ok (.getfield 148, 3) := by decide +kernel
theorem dX8_makes_114 : decode cX8_makes 114 = .ok (.if_icmp .ge 114, 3) := by decide +kernel
theorem dX8_makes_117 : decode cX8_makes 117 = .ok (.aload_n 0, 1) := by decide +kernel
theorem dX8_makes_118 : decode cX8_makes 118 = .ok (.getfield 44, 3) := by decide +kernel
theorem dX8_makes_121 : decode cX8_makes 121 = .ok (.aload_n 0, 1) := by decide +kernel
theorem dX8_makes_122 : decode cX8_makes 122 = .ok (.getfield 108, 3) := by decide +kernel
theorem dX8_makes_125 : decode cX8_makes 125 = .ok (.aaload, 1) := by decide +kernel
theorem dX8_makes_126 : decode cX8_makes 126 = .ok (.iload 4, 2) := by decide +kernel
theorem dX8_makes_128 : decode cX8_makes 128 = .ok (.aload_n 0, 1) := by decide +kernel
theorem dX8_makes_129 : decode cX8_makes 129 = .ok (.getfield 76, 3) := by decide +kernel
theorem dX8_makes_132 : decode cX8_makes 132 = .ok (.iload 4, 2) := by decide +kernel
theorem dX8_makes_134 : decode cX8_makes 134 = .ok (.iaload, 1) := by decide +kernel
theorem dX8_makes_135 : decode cX8_makes 135 = .ok (.iastore, 1) := by decide +kernel
theorem dX8_makes_136 : decode cX8_makes 136 = .ok (.aload_n 0, 1) := by decide +kernel
theorem dX8_makes_137 : decode cX8_makes 137 = .ok (.getfield 47, 3) := by decide +kernel
theorem dX8_makes_140 : decode cX8_makes 140 = .ok (.aload_n 0, 1) := by decide +kernel
theorem dX8_makes_141 : decode cX8_makes 141 = .ok (.getfield 108, 3) := by decide +kernel
theorem dX8_makes_144 : decode cX8_makes 144 = .ok (.aaload, 1) := by decide +kernel
theorem dX8_makes_145 : decode cX8_makes 145 = .ok (.iload 4, 2) := by decide +kernel
theorem dX8_makes_147 : decode cX8_makes 147 = .ok (.aload_n 0, 1) := by decide +kernel
theorem dX8_makes_148 : decode cX8_makes 148 = .ok (.getfield 79, 3) := by decide +kernel
theorem dX8_makes_151 : decode cX8_makes 151 = .ok (.iload 4, 2) := by decide +kernel
theorem dX8_makes_153 : decode cX8_makes 153 = .ok (.iaload, 1) := by decide +kernel
theorem dX8_makes_154 : decode cX8_makes 154 = .ok (.iastore, 1) := by decide +kernel
theorem dX8_makes_155 : decode cX8_makes 155 = .ok (.aload_n 0, 1) := by decide +kernel
theorem dX8_makes_156 : decode cX8_makes 156 = .ok (.getfield 50, 3) := by decide +kernel
theorem dX8_makes_159 : decode cX8_makes 159 = .ok (.aload_n 0, 1) := by decide +kernel
theorem dX8_makes_160 : decode cX8_makes 160 = .ok (.getfield 108, 3) := by decide +kernel
theorem dX8_makes_163 : decode cX8_makes 163 = .ok (.aaload, 1) := by decide +kernel
theorem dX8_makes_164 : decode cX8_makes 164 = .ok (.iload 4, 2) := by decide +kernel
theorem dX8_makes_166 : decode cX8_makes 166 = .ok (.aload_n 0, 1) := by decide +kernel
theorem dX8_makes_167 : decode cX8_makes 167 = .ok (.getfield 67, 3) := by decide +kernel
theorem dX8_makes_170 : decode cX8_makes 170 = .ok (.aload_n 0, 1) := by decide +kernel
theorem dX8_makes_171 : decode cX8_makes 171 = .ok (.getfield 76, 3) := by decide +kernel
theorem dX8_makes_174 : decode cX8_makes 174 = .ok (.iload 4, 2) := by decide +kernel
theorem dX8_makes_176 : decode cX8_makes 176 = .ok (.iaload, 1) := by decide +kernel
theorem dX8_makes_177 : decode cX8_makes 177 = .ok (.iaload, 1) := by decide +kernel
theorem dX8_makes_178 : decode cX8_makes 178 = .ok (.iastore, 1) := by decide +kernel
theorem dX8_makes_179 : decode cX8_makes 179 = .ok (.aload_n 0, 1) := by decide +kernel
theorem dX8_makes_180 : decode cX8_makes 180 = .ok (.getfield 53, 3) := by decide +kernel
theorem dX8_makes_183 : decode cX8_makes 183 = .ok (.aload_n 0, 1) := by decide +kernel
theorem dX8_makes_184 : decode cX8_makes 184 = .ok (.getfield 108, 3) := by decide +kernel
theorem dX8_makes_187 : decode cX8_makes 187 = .ok (.aaload, 1) := by decide +kernel
theorem dX8_makes_188 : decode cX8_makes 188 = .ok (.iload 4, 2) := by decide +kernel
theorem dX8_makes_190 : decode cX8_makes 190 = .ok (.aload_n 0, 1) := by decide +kernel
theorem dX8_makes_191 : decode cX8_makes 191 = .ok (.getfield 82, 3) := by decide +kernel
theorem dX8_makes_194 : decode cX8_makes 194 = .ok (.iload 4, 2) := by decide +kernel
theorem dX8_makes_196 : decode cX8_makes 196 = .ok (.iaload, 1) := by decide +kernel
theorem dX8_makes_197 : decode cX8_makes 197 = .ok (.iastore, 1) := by decide +kernel
theorem dX8_makes_198 : decode cX8_makes 198 = .ok (.aload_n 0, 1) := by decide +kernel
theorem dX8_makes_199 : decode cX8_makes 199 = .ok (.getfield 56, 3) := by decide +kernel
theorem dX8_makes_202 : decode cX8_makes 202 = .ok (.aload_n 0, 1) := by decide +kernel
theorem dX8_makes_203 : decode cX8_makes 203 = .ok (.getfield 108, 3) := by decide +kernel
theorem dX8_makes_206 : decode cX8_makes 206 = .ok (.aaload, 1) := by decide +kernel
theorem dX8_makes_207 : decode cX8_makes 207 = .ok (.iload 4, 2) := by decide +kernel
theorem dX8_makes_209 : decode cX8_makes 209 = .ok (.aload_n 0, 1) := by decide +kernel
theorem dX8_makes_210 : decode cX8_makes 210 = .ok (.getfield 73, 3) := by decide +kernel
theorem dX8_makes_213 : decode cX8_makes 213 = .ok (.aload_n 0, 1) := by decide +kernel
theorem dX8_makes_214 : decode cX8_makes 214 = .ok (.getfield 76, 3) := by decide +kernel
theorem dX8_makes_217 : decode cX8_makes 217 = .ok (.iload 4, 2) := by decide +kernel
theorem dX8_makes_219 : decode cX8_makes 219 = .ok (.iaload, 1) := by decide +kernel
theorem dX8_makes_220 : decode cX8_makes 220 = .ok (.iaload, 1) := by decide +kernel
theorem dX8_makes_221 : decode cX8_makes 221 = .ok (.iastore, 1) := by decide +kernel
theorem dX8_makes_222 : decode cX8_makes 222 = .ok (.iinc 4 1, 3) := by decide +kernel
theorem dX8_makes_225 : decode cX8_makes 225 = .ok (.goto (-117), 3) := by decide +kernel
theorem dX8_makes_228 : decode cX8_makes 228 = .ok (.aload_n 0, 1) := by decide +kernel
theorem dX8_makes_229 : decode cX8_makes 229 = .ok (.dup, 1) := by decide +kernel
theorem dX8_makes_230 : decode cX8_makes 230 = .ok (.getfield 108, 3) := by decide +kernel
theorem dX8_makes_233 : decode cX8_makes 233 = .ok (.iconst 1, 1) := by decide +kernel
theorem dX8_makes_234 : decode cX8_makes 234 = .ok (.iadd, 1) := by decide +kernel
theorem dX8_makes_235 : decode cX8_makes 235 = .ok (.putfield 108, 3) := by decide +kernel
theorem dX8_makes_238 : decode cX8_makes 238 = .ok (.aload_n 0, 1) := by decide +kernel
theorem dX8_makes_239 : decode cX8_makes 239 = .ok (.iconst 0, 1) := by decide +kernel
theorem dX8_makes_240 : decode cX8_makes 240 = .ok (.putfield 148, 3) := by decide +kernel
theorem dX8_makes_243 : decode cX8_makes 243 = .ok (.aload_n 0, 1) := by decide +kernel
theorem dX8_makes_244 : decode cX8_makes 244 = .ok (.iload_n 1, 1) := by decide +kernel
theorem dX8_makes_245 : decode cX8_makes 245 = .ok (.invokevirtual 161, 3) := by decide +kernel
theorem dX8_makes_248 : decode cX8_makes 248 = .ok (.return_, 1) := by decide +kernel
theorem dX8_isOnBoard_0 : decode cX8_isOnBoard 0 = .ok (.iload_n 1, 1) := by decide +kernel
theorem dX8_isOnBoard_1 : decode cX8_isOnBoard 1 = .ok (.iconst 0, 1) := by decide +kernel
theorem dX8_isOnBoard_2 : decode cX8_isOnBoard 2 = .ok (.bipush 24, 2) := by decide +kernel
theorem dX8_isOnBoard_4 : decode cX8_isOnBoard 4 = .ok (.iload_n 3, 1) := by decide +kernel
theorem dX8_isOnBoard_5 : decode cX8_isOnBoard 5 = .ok (.isub, 1) := by decide +kernel
theorem dX8_isOnBoard_6 : decode cX8_isOnBoard 6 = .ok (.invokestatic 101, 3) := by decide +kernel
theorem dX8_isOnBoard_9 : decode cX8_isOnBoard 9 = .ok (.ifCond .eq 20, 3) := by decide +kernel
theorem dX8_isOnBoard_12 : decode cX8_isOnBoard 12 = .ok (.iload_n 2, 1) := by decide +kernel
theorem dX8_isOnBoard_13 : decode cX8_isOnBoard 13 = .ok (.iconst 0, 1) := by decide +kernel
theorem dX8_isOnBoard_14 : decode cX8_isOnBoard 14 = .ok (.bipush 16, 2) := by decide +kernel
theorem dX8_isOnBoard_16 : decode cX8_isOnBoard 16 = .ok (.iload 4, 2) := by decide +kernel
theorem dX8_isOnBoard_18 : decode cX8_isOnBoard 18 = .ok (.isub, 1) := by decide +kernel
theorem dX8_isOnBoard_19 : decode cX8_isOnBoard 19 = .ok (.invokestatic 101, 3) := by decide +kernel
theorem dX8_isOnBoard_22 : decode cX8_isOnBoard 22 = .ok (.ifCond .eq 7, 3) := by decide +kernel
theorem dX8_isOnBoard_25 : decode cX8_isOnBoard 25 = .ok (.iconst 1, 1) := by decide +kernel
theorem dX8_isOnBoard_26 : decode cX8_isOnBoard 26 = .ok (.goto 4, 3) := by decide +kernel
theorem dX8_isOnBoard_29 : decode cX8_isOnBoard 29 = .ok (.iconst 0, 1) := by decide +kernel
theorem dX8_isOnBoard_30 : decode cX8_isOnBoard 30 = .ok (.ireturn, 1) := by decide +kernel
theorem dX8_addShape_0 : decode cX8_addShape 0 = .ok (.aload_n 0, 1) := by decide +kernel
theorem dX8_addShape_1 : decode cX8_addShape 1 = .ok (.iconst 0, 1) := by decide +kernel
theorem dX8_addShape_2 : decode cX8_addShape 2 = .ok (.putfield 97, 3) := by decide +kernel
theorem dX8_addShape_5 : decode cX8_addShape 5 = .ok (.iload_n 1, 1) := by decide +kernel
theorem dX8_addShape_6 : decode cX8_addShape 6 = .ok (.invokestatic 165, 3) := by decide +kernel
theorem dX8_addShape_9 : decode cX8_addShape 9 = .ok (.ifCond .eq 38, 3) := by decide +kernel
theorem dX8_addShape_12 : decode cX8_addShape 12 = .ok (.iload 4, 2) := by decide +kernel
theorem dX8_addShape_14 : decode cX8_addShape 14 = .ok (.iconst 1, 1) := by decide +kernel
theorem dX8_addShape_15 : decode cX8_addShape 15 = .ok (.bipush 8, 2) := by decide +kernel
theorem dX8_addShape_17 : decode cX8_addShape 17 = .ok (.invokestatic 101, 3) := by decide +kernel
theorem dX8_addShape_20 : decode cX8_addShape 20 = .ok (.ifCond .eq 27, 3) := by decide +kernel
theorem dX8_addShape_23 : decode cX8_addShape 23 = .ok (.iload 5, 2) := by decide +kernel
theorem dX8_addShape_25 : decode cX8_addShape 25 = .ok (.iconst 1, 1) := by decide +kernel
theorem dX8_addShape_26 : decode cX8_addShape 26 = .ok (.bipush 8, 2) := by decide +kernel
theorem dX8_addShape_28 : decode cX8_addShape 28 = .ok (.invokestatic 101, 3) := by decide +kernel
theorem dX8_addShape_31 : decode cX8_addShape 31 = .ok (.ifCond .eq 16, 3) := by decide +kernel
theorem dX8_addShape_34 : decode cX8_addShape 34 = .ok (.aload_n 0, 1) := by decide +kernel
