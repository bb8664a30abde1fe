theorem dX8_shuts_63 : decode cX8_shuts 63 = .ok (.ifCond .eq 7, 3) := by decide +kernel
theorem dX8_shuts_66 : decode cX8_shuts 66 = .ok (.iconst 1, 1) := by decide +kernel
theorem dX8_shuts_67 : decode cX8_shuts 67 = .ok (.goto 4, 3) := by decide +kernel
theorem dX8_shuts_70 : decode cX8_shuts 70 = .ok (.iconst 0, 1) := by decide +kernel
theorem dX8_shuts_71 : decode cX8_shuts 71 = .ok (.ior, 1) := by decide +kernel
theorem dX8_shuts_72 : decode cX8_shuts 72 = .ok (.bastore, 1) := by decide +kernel
theorem dX8_shuts_73 : decode cX8_shuts 73 = .ok (.iinc 2 1, 3) := by decide +kernel
theorem dX8_shuts_76 : decode cX8_shuts 76 = .ok (.goto (-58), 3) := by decide +kernel
theorem dX8_shuts_79 : decode cX8_shuts 79 = .ok (.iinc 1 1, 3) := by decide +kernel
theorem dX8_shuts_82 : decode cX8_shuts 82 = .ok (.goto (-80), 3) := by decide +kernel
theorem dX8_shuts_85 : decode cX8_shuts 85 = .ok (.return_, 1) := by decide +kernel
theorem dX8_stepOver_0 : decode cX8_stepOver 0 = .ok (.iload_n 0, 1) := by decide +kernel
theorem dX8_stepOver_1 : decode cX8_stepOver 1 = .ok (.ifCond .ne 7, 3) := by decide +kernel
theorem dX8_stepOver_4 : decode cX8_stepOver 4 = .ok (.iconst 1, 1) := by decide +kernel
theorem dX8_stepOver_5 : decode cX8_stepOver 5 = .ok (.goto 13, 3) := by decide +kernel
theorem dX8_stepOver_8 : decode cX8_stepOver 8 = .ok (.iload_n 0, 1) := by decide +kernel
theorem dX8_stepOver_9 : decode cX8_stepOver 9 = .ok (.iconst 1, 1) := by decide +kernel
theorem dX8_stepOver_10 : decode cX8_stepOver 10 = .ok (.if_icmp .ne 7, 3) := by decide +kernel
theorem dX8_stepOver_13 : decode cX8_stepOver 13 = .ok (.iconst (-1), 1) := by decide +kernel
theorem dX8_stepOver_14 : decode cX8_stepOver 14 = .ok (.goto 4, 3) := by decide +kernel
theorem dX8_stepOver_17 : decode cX8_stepOver 17 = .ok (.iconst 0, 1) := by decide +kernel
theorem dX8_stepOver_18 : decode cX8_stepOver 18 = .ok (.ireturn, 1) := by decide +kernel
theorem dX8_stepDown_0 : decode cX8_stepDown 0 = .ok (.iload_n 0, 1) := by decide +kernel
theorem dX8_stepDown_1 : decode cX8_stepDown 1 = .ok (.iconst 2, 1) := by decide +kernel
theorem dX8_stepDown_2 : decode cX8_stepDown 2 = .ok (.if_icmp .ne 7, 3) := by decide +kernel
theorem dX8_stepDown_5 : decode cX8_stepDown 5 = .ok (.iconst 1, 1) := by decide +kernel
theorem dX8_stepDown_6 : decode cX8_stepDown 6 = .ok (.goto 13, 3) := by decide +kernel
theorem dX8_stepDown_9 : decode cX8_stepDown 9 = .ok (.iload_n 0, 1) := by decide +kernel
theorem dX8_stepDown_10 : decode cX8_stepDown 10 = .ok (.iconst 3, 1) := by decide +kernel
theorem dX8_stepDown_11 : decode cX8_stepDown 11 = .ok (.if_icmp .ne 7, 3) := by decide +kernel
theorem dX8_stepDown_14 : decode cX8_stepDown 14 = .ok (.iconst (-1), 1) := by decide +kernel
theorem dX8_stepDown_15 : decode cX8_stepDown 15 = .ok (.goto 4, 3) := by decide +kernel
theorem dX8_stepDown_18 : decode cX8_stepDown 18 = .ok (.iconst 0, 1) := by decide +kernel
theorem dX8_stepDown_19 : decode cX8_stepDown 19 = .ok (.ireturn, 1) := by decide +kernel
theorem dX8_route_0 : decode cX8_route 0 = .ok (.aload_n 0, 1) := by decide +kernel
theorem dX8_route_1 : decode cX8_route 1 = .ok (.invokevirtual 238, 3) := by decide +kernel
theorem dX8_route_4 : decode cX8_route 4 = .ok (.aload_n 0, 1) := by decide +kernel
theorem dX8_route_5 : decode cX8_route 5 = .ok (.aload_n 0, 1) := by decide +kernel
theorem dX8_route_6 : decode cX8_route 6 = .ok (.getfield 16, 3) := by decide +kernel
theorem dX8_route_9 : decode cX8_route 9 = .ok (.iload_n 1, 1) := by decide +kernel
theorem dX8_route_10 : decode cX8_route 10 = .ok (.iaload, 1) := by decide +kernel
theorem dX8_route_11 : decode cX8_route 11 = .ok (.aload_n 0, 1) := by decide +kernel
theorem dX8_route_12 : decode cX8_route 12 = .ok (.getfield 26, 3) := by decide +kernel
theorem dX8_route_15 : decode cX8_route 15 = .ok (.iload_n 1, 1) := by decide +kernel
theorem dX8_route_16 : decode cX8_route 16 = .ok (.caload, 1) := by decide +kernel
theorem dX8_route_17 : decode cX8_route 17 = .ok (.invokevirtual 241, 3) := by decide +kernel
theorem dX8_route_20 : decode cX8_route 20 = .ok (.istore_n 2, 1) := by decide +kernel
theorem dX8_route_21 : decode cX8_route 21 = .ok (.aload_n 0, 1) := by decide +kernel
theorem dX8_route_22 : decode cX8_route 22 = .ok (.aload_n 0, 1) := by decide +kernel
theorem dX8_route_23 : decode cX8_route 23 = .ok (.getfield 16, 3) := by decide +kernel
theorem dX8_route_26 : decode cX8_route 26 = .ok (.iload_n 1, 1) := by decide +kernel
theorem dX8_route_27 : decode cX8_route 27 = .ok (.iaload, 1) := by decide +kernel
theorem dX8_route_28 : decode cX8_route 28 = .ok (.aload_n 0, 1) := by decide +kernel
theorem dX8_route_29 : decode cX8_route 29 = .ok (.getfield 26, 3) := by decide +kernel
theorem dX8_route_32 : decode cX8_route 32 = .ok (.iload_n 1, 1) := by decide +kernel
theorem dX8_route_33 : decode cX8_route 33 = .ok (.caload, 1) := by decide +kernel
theorem dX8_route_34 : decode cX8_route 34 = .ok (.invokevirtual 245, 3) := by decide +kernel
theorem dX8_route_37 : decode cX8_route 37 = .ok (.istore_n 3, 1) := by decide +kernel
theorem dX8_route_38 : decode cX8_route 38 = .ok (.aload_n 0, 1) := by decide +kernel
theorem dX8_route_39 : decode cX8_route 39 = .ok (.aload_n 0, 1) := by decide +kernel
theorem dX8_route_40 : decode cX8_route 40 = .ok (.getfield 19, 3) := by decide +kernel
theorem dX8_route_43 : decode cX8_route 43 = .ok (.iload_n 1, 1) := by decide +kernel
theorem dX8_route_44 : decode cX8_route 44 = .ok (.iaload, 1) := by decide +kernel
theorem dX8_route_45 : decode cX8_route 45 = .ok (.aload_n 0, 1) := by decide +kernel
theorem dX8_route_46 : decode cX8_route 46 = .ok (.getfield 30, 3) := by decide +kernel
theorem dX8_route_49 : decode cX8_route 49 = .ok (.iload_n 1, 1) := by decide +kernel
theorem dX8_route_50 : decode cX8_route 50 = .ok (.caload, 1) := by decide +kernel
theorem dX8_route_51 : decode cX8_route 51 = .ok (.invokevirtual 241, 3) := by decide +kernel
theorem dX8_route_54 : decode cX8_route 54 = .ok (.istore 4, 2) := by decide +kernel
theorem dX8_route_56 : decode cX8_route 56 = .ok (.aload_n 0, 1) := by decide +kernel
theorem dX8_route_57 : decode cX8_route 57 = .ok (.aload_n 0, 1) := by decide +kernel
theorem dX8_route_58 : decode cX8_route 58 = .ok (.getfield 19, 3) := by decide +kernel
theorem dX8_route_61 : decode cX8_route 61 = .ok (.iload_n 1, 1) := by decide +kernel
theorem dX8_route_62 : decode cX8_route 62 = .ok (.iaload, 1) := by decide +kernel
theorem dX8_route_63 : decode cX8_route 63 = .ok (.aload_n 0, 1) := by decide +kernel
theorem dX8_route_64 : decode cX8_route 64 = .ok (.getfield 30, 3) := by decide +kernel
theorem dX8_route_67 : decode cX8_route 67 = .ok (.iload_n 1, 1) := by decide +kernel
theorem dX8_route_68 : decode cX8_route 68 = .ok (.caload, 1) := by decide +kernel
theorem dX8_route_69 : decode cX8_route 69 = .ok (.invokevirtual 245, 3) := by decide +kernel
theorem dX8_route_72 : decode cX8_route 72 = .ok (.istore 5, 2) := by decide +kernel
theorem dX8_route_74 : decode cX8_route 74 = .ok (.aload_n 0, 1) := by decide +kernel
theorem dX8_route_75 : decode cX8_route 75 = .ok (.iload_n 2, 1) := by decide +kernel
theorem dX8_route_76 : decode cX8_route 76 = .ok (.iload_n 3, 1) := by decide +kernel
theorem dX8_route_77 : decode cX8_route 77 = .ok (.invokevirtual 248, 3) := by decide +kernel
theorem dX8_route_80 : decode cX8_route 80 = .ok (.ifCond .eq 14, 3) := by decide +kernel
theorem dX8_route_83 : decode cX8_route 83 = .ok (.aload_n 0, 1) := by decide +kernel
theorem dX8_route_84 : decode cX8_route 84 = .ok (.iload 4, 2) := by decide +kernel
theorem dX8_route_86 : decode cX8_route 86 = .ok (.iload 5, 2) := by decide +kernel
theorem dX8_route_88 : decode cX8_route 88 = .ok (.invokevirtual 248, 3) := by decide +kernel
theorem dX8_route_91 : decode cX8_route 91 = .ok (.ifCond .ne 6, 3) := by decide +kernel
theorem dX8_route_94 : decode cX8_route 94 = .ok (.ldc 251, 2) := by decide +kernel
theorem dX8_route_96 : decode cX8_route 96 = .ok (.ireturn, 1) := by decide +kernel
theorem dX8_route_97 : decode cX8_route 97 = .ok (.iconst 0, 1) := by decide +kernel
theorem dX8_route_98 : decode cX8_route 98 = .ok (.istore 6, 2) := by decide +kernel
theorem dX8_route_100 : decode cX8_route 100 = .ok (.iload 6, 2) := by decide +kernel
theorem dX8_route_102 : decode cX8_route 102 = .ok (.aload_n 0, 1) := by decide +kernel
theorem dX8_route_103 : decode cX8_route 103 = .ok (.getfield 85, 3) := by decide +kernel
theorem dX8_route_106 : decode cX8_route 106 = .ok (.arraylength, 1) := by decide +kernel
theorem dX8_route_107 : decode cX8_route 107 = .ok (.if_icmp .ge 26, 3) := by decide +kernel
theorem dX8_route_110 : decode cX8_route 110 = .ok (.aload_n 0, 1) := by decide +kernel
theorem dX8_route_111 : decode cX8_route 111 = .ok (.getfield 85, 3) := by decide +kernel
theorem dX8_route_114 : decode cX8_route 114 = .ok (.iload 6, 2) := by decide +kernel
theorem dX8_route_116 : decode cX8_route 116 = .ok (.ldc 251, 2) := by decide +kernel
theorem dX8_route_118 : decode cX8_route 118 = .ok (.iastore, 1) := by decide +kernel
theorem dX8_route_119 : decode cX8_route 119 = .ok (.aload_n 0, 1) := by decide +kernel
theorem dX8_route_120 : decode cX8_route 120 = .ok (.getfield 94, 3) := by decide +kernel
theorem dX8_route_123 : decode cX8_route 123 = .ok (.iload 6, 2) := by decide +kernel
theorem dX8_route_125 : decode cX8_route 125 = .ok (.iconst 0, 1) := by decide +kernel
theorem dX8_route_126 : decode cX8_route 126 = .ok (.bastore, 1) := by decide +kernel
theorem dX8_route_127 : decode cX8_route 127 = .ok (.iinc 6 1, 3) := by decide +kernel
theorem dX8_route_130 : decode cX8_route 130 = .ok (.goto (-30), 3) := by decide +kernel
theorem dX8_route_133 : decode cX8_route 133 = .ok (.iconst 0, 1) := by decide +kernel
theorem dX8_route_134 : decode cX8_route 134 = .ok (.istore 6, 2) := by decide +kernel
theorem dX8_route_136 : decode cX8_route 136 = .ok (.iconst 0, 1) := by decide +kernel
theorem dX8_route_137 : decode cX8_route 137 = .ok (.istore 7, 2) := by decide +kernel
theorem dX8_route_139 : decode cX8_route 139 = .ok (.iconst 0, 1) := by decide +kernel
theorem dX8_route_140 : decode cX8_route 140 = .ok (.istore 8, 2) := by decide +kernel
theorem dX8_route_142 : decode cX8_route 142 = .ok (.iload 8, 2) := by decide +kernel
theorem dX8_route_144 : decode cX8_route 144 = .ok (.iconst 4, 1) := by decide +kernel
theorem dX8_route_145 : decode cX8_route 145 = .ok (.if_icmp .ge 50, 3) := by decide +kernel
theorem dX8_route_148 : decode cX8_route 148 = .ok (.iconst 4, 1) := by decide +kernel
theorem dX8_route_149 : decode cX8_route 149 = .ok (.bipush 24, 2) := by decide +kernel
theorem dX8_route_151 : decode cX8_route 151 = .ok (.iload_n 3, 1) := by decide +kernel
theorem dX8_route_152 : decode cX8_route 152 = .ok (.imul, 1) := by decide +kernel
theorem dX8_route_153 : decode cX8_route 153 = .ok (.iload_n 2, 1) := by decide +kernel
theorem dX8_route_154 : decode cX8_route 154 = .ok (.iadd, 1) := by decide +kernel
theorem dX8_route_155 : decode cX8_route 155 = .ok (.imul, 1) := by decide +kernel
theorem dX8_route_156 : decode cX8_route 156 = .ok (.iload 8, 2) := by decide +kernel
theorem dX8_route_158 : decode cX8_route 158 = .ok (.iadd, 1) := by decide +kernel
theorem dX8_route_159 : decode cX8_route 159 = .ok (.istore 9, 2) := by decide +kernel
theorem dX8_route_161 : decode cX8_route 161 = .ok (.aload_n 0, 1) := by decide +kernel
theorem dX8_route_162 : decode cX8_route 162 = .ok (.getfield 85, 3) := by decide +kernel
theorem dX8_route_165 : decode cX8_route 165 = .ok (.iload 9, 2) := by decide +kernel
theorem dX8_route_167 : decode cX8_route 167 = .ok (.iconst 1, 1) := by decide +kernel
theorem dX8_route_168 : decode cX8_route 168 = .ok (.iastore, 1) := by decide +kernel
theorem dX8_route_169 : decode cX8_route 169 = .ok (.aload_n 0, 1) := by decide +kernel
theorem dX8_route_170 : decode cX8_route 170 = .ok (.getfield 88, 3) := by decide +kernel
theorem dX8_route_173 : decode cX8_route 173 = .ok (.iload 7, 2) := by decide +kernel
theorem dX8_route_175 : decode cX8_route 175 = .ok (.iload 9, 2) := by decide +kernel
theorem dX8_route_177 : decode cX8_route 177 = .ok (.iastore, 1) := by decide +kernel
theorem dX8_route_178 : decode cX8_route 178 = .ok (.aload_n 0, 1) := by decide +kernel
theorem dX8_route_179 : decode cX8_route 179 = .ok (.getfield 94, 3) := by decide +kernel
theorem dX8_route_182 : decode cX8_route 182 = .ok (.iload 9, 2) := by decide +kernel
theorem dX8_route_184 : decode cX8_route 184 = .ok (.iconst 1, 1) := by decide +kernel
theorem dX8_route_185 : decode cX8_route 185 = .ok (.bastore, 1) := by decide +kernel
theorem dX8_route_186 : decode cX8_route 186 = .ok (.iinc 7 1, 3) := by decide +kernel
theorem dX8_route_189 : decode cX8_route 189 = .ok (.iinc 8 1, 3) := by decide +kernel
theorem dX8_route_192 : decode cX8_route 192 = .ok (.goto (-50), 3) := by decide +kernel
theorem dX8_route_195 : decode cX8_route 195 = .ok (.iload 7, 2) := by decide +kernel
theorem dX8_route_197 : decode cX8_route 197 = .ok (.ifCond .le 214, 3) := by decide +kernel
theorem dX8_route_200 : decode cX8_route 200 = .ok (.aload_n 0, 1) := by decide +kernel
theorem dX8_route_201 : decode cX8_route 201 = .ok (.getfield 88, 3) := by decide +kernel
theorem dX8_route_204 : decode cX8_route 204 = .ok (.iload 6, 2) := by decide +kernel
theorem dX8_route_206 : decode cX8_route 206 = .ok (.iaload, 1) := by decide +kernel
theorem dX8_route_207 : decode cX8_route 207 = .ok (.istore 8, 2) := by decide +kernel
theorem dX8_route_209 : decode cX8_route 209 = .ok (.iload 6, 2) := by decide +kernel
theorem dX8_route_211 : decode cX8_route 211 = .ok (.iconst 1, 1) := by decide +kernel
theorem dX8_route_212 : decode cX8_route 212 = .ok (.iadd, 1) := by decide +kernel
theorem dX8_route_213 : decode cX8_route 213 = .ok (.aload_n 0, 1) := by decide +kernel
theorem dX8_route_214 : decode cX8_route 214 = .ok (.getfield 88, 3) := by decide +kernel
theorem dX8_route_217 : decode cX8_route 217 = .ok (.arraylength, 1) := by decide +kernel
theorem dX8_route_218 : decode cX8_route 218 = .ok (.irem, 1) := by decide +kernel
theorem dX8_route_219 : decode cX8_route 219 = .ok (.istore 6, 2) := by decide +kernel
theorem dX8_route_221 : decode cX8_route 221 = .ok (.iinc 7 (-1), 3) := by decide +kernel
theorem dX8_route_224 : decode cX8_route 224 = .ok (.aload_n 0, 1) := by decide +kernel
theorem dX8_route_225 : decode cX8_route 225 = .ok (.getfield 94, 3) := by decide +kernel
theorem dX8_route_228 : decode cX8_route 228 = .ok (.iload 8, 2) := by decide +kernel
theorem dX8_route_230 : decode cX8_route 230 = .ok (.iconst 0, 1) := by decide +kernel
theorem dX8_route_231 : decode cX8_route 231 = .ok (.bastore, 1) := by decide +kernel
theorem dX8_route_232 : decode cX8_route 232 = .ok (.iload 8, 2) := by decide +kernel
theorem dX8_route_234 : decode cX8_route 234 = .ok (.iconst 4, 1) := by decide +kernel
theorem dX8_route_235 : decode cX8_route 235 = .ok (.idiv, 1) := by decide +kernel
theorem dX8_route_236 : decode cX8_route 236 = .ok (.bipush 24, 2) := by decide +kernel
theorem dX8_route_238 : decode cX8_route 238 = .ok (.irem, 1) := by decide +kernel
theorem dX8_route_239 : decode cX8_route 239 = .ok (.istore 9, 2) := by decide +kernel
theorem dX8_route_241 : decode cX8_route 241 = .ok (.iload 8, 2) := by decide +kernel
theorem dX8_route_243 : decode cX8_route 243 = .ok (.iconst 4, 1) := by decide +kernel
theorem dX8_route_244 : decode cX8_route 244 = .ok (.idiv, 1) := by decide +kernel
theorem dX8_route_245 : decode cX8_route 245 = .ok (.bipush 24, 2) := by decide +kernel
theorem dX8_route_247 : decode cX8_route 247 = .ok (.idiv, 1) := by decide +kernel
theorem dX8_route_248 : decode cX8_route 248 = .ok (.istore 10, 2) := by decide +kernel
theorem dX8_route_250 : decode cX8_route 250 = .ok (.iconst 0, 1) := by decide +kernel
theorem dX8_route_251 : decode cX8_route 251 = .ok (.istore 11, 2) := by decide +kernel
theorem dX8_route_253 : decode cX8_route 253 = .ok (.iload 11, 2) := by decide +kernel
theorem dX8_route_255 : decode cX8_route 255 = .ok (.iconst 4, 1) := by decide +kernel
theorem dX8_route_256 : decode cX8_route 256 = .ok (.if_icmp .ge 152, 3) := by decide +kernel
theorem dX8_route_259 : decode cX8_route 259 = .ok (.iload 9, 2) := by decide +kernel
theorem dX8_route_261 : decode cX8_route 261 = .ok (.iload 11, 2) := by decide +kernel
theorem dX8_route_263 : decode cX8_route 263 = .ok (.invokestatic 252, 3) := by decide +kernel
theorem dX8_route_266 : decode cX8_route 266 = .ok (.iadd, 1) := by decide +kernel
theorem dX8_route_267 : decode cX8_route 267 = .ok (.istore 12, 2) := by decide +kernel
theorem dX8_route_269 : decode cX8_route 269 = .ok (.iload 10, 2) := by decide +kernel
theorem dX8_route_271 : decode cX8_route 271 = .ok (.iload 11, 2) := by decide +kernel
theorem dX8_route_273 : decode cX8_route 273 = .ok (.invokestatic 255, 3) := by decide +kernel
theorem dX8_route_276 : decode cX8_route 276 = .ok (.iadd, 1) := by decide +kernel
theorem dX8_route_277 : decode cX8_route 277 = .ok (.istore 13, 2) := by decide +kernel
theorem dX8_route_279 : decode cX8_route 279 = .ok (.aload_n 0, 1) := by decide +kernel
theorem dX8_route_280 : decode cX8_route 280 = .ok (.iload 12, 2) := by decide +kernel
theorem dX8_route_282 : decode cX8_route 282 = .ok (.iload 13, 2) := by decide +kernel
theorem dX8_route_284 : decode cX8_route 284 = .ok (.invokevirtual 248, 3) := by decide +kernel
theorem dX8_route_287 : decode cX8_route 287 = .ok (.ifCond .ne 6, 3) := by decide +kernel
theorem dX8_route_290 : decode cX8_route 290 = .ok (.goto 112, 3) := by decide +kernel
theorem dX8_route_293 : decode cX8_route 293 = .ok (.iconst 4, 1) := by decide +kernel
theorem dX8_route_294 : decode cX8_route 294 = .ok (.bipush 24, 2) := by decide +kernel
theorem dX8_route_296 : decode cX8_route 296 = .ok (.iload 13, 2) := by decide +kernel
theorem dX8_route_298 : decode cX8_route 298 = .ok (.imul, 1) := by decide +kernel
theorem dX8_route_299 : decode cX8_route 299 = .ok (.iload 12, 2) := by decide +kernel
theorem dX8_route_301 : decode cX8_route 301 = .ok (.iadd, 1) := by decide +kernel
theorem dX8_route_302 : decode cX8_route 302 = .ok (.imul, 1) := by decide +kernel
theorem dX8_route_303 : decode cX8_route 303 = .ok (.iload 11, 2) := by decide +kernel
theorem dX8_route_305 : decode cX8_route 305 = .ok (.iadd, 1) := by decide +kernel
theorem dX8_route_306 : decode cX8_route 306 = .ok (.istore 14, 2) := by decide +kernel
theorem dX8_route_308 : decode cX8_route 308 = .ok (.aload_n 0, 1) := by decide +kernel
theorem dX8_route_309 : decode cX8_route 309 = .ok (.getfield 85, 3) := by decide +kernel
theorem dX8_route_312 : decode cX8_route 312 = .ok (.iload 8, 2) := by decide +kernel
theorem dX8_route_314 : decode cX8_route 314 = .ok (.iaload, 1) := by decide +kernel
theorem dX8_route_315 : decode cX8_route 315 = .ok (.iconst 1, 1) := by decide +kernel
theorem dX8_route_316 : decode cX8_route 316 = .ok (.iadd, 1) := by decide +kernel
theorem dX8_route_317 : decode cX8_route 317 = .ok (.iload 11, 2) := by decide +kernel
theorem dX8_route_319 : decode cX8_route 319 = .ok (.iload 8, 2) := by decide +kernel
theorem dX8_route_321 : decode cX8_route 321 = .ok (.iconst 4, 1) := by decide +kernel
theorem dX8_route_322 : decode cX8_route 322 = .ok (.irem, 1) := by decide +kernel
theorem dX8_route_323 : decode cX8_route 323 = .ok (.if_icmp .ne 7, 3) := by decide +kernel
theorem dX8_route_326 : decode cX8_route 326 = .ok (.iconst 0, 1) := by decide +kernel
theorem dX8_route_327 : decode cX8_route 327 = .ok (.goto 6, 3) := by decide +kernel
theorem dX8_route_330 : decode cX8_route 330 = .ok (.sipush 1000, 3) := by decide +kernel
theorem dX8_route_333 : decode cX8_route 333 = .ok (.iadd, 1) := by decide +kernel
theorem dX8_route_334 : decode cX8_route 334 = .ok (.istore 15, 2) := by decide +kernel
theorem dX8_route_336 : decode cX8_route 336 = .ok (.iload 15, 2) := by decide +kernel
theorem dX8_route_338 : decode cX8_route 338 = .ok (.aload_n 0, 1) := by decide +kernel
theorem dX8_route_339 : decode cX8_route 339 = .ok (.getfield 85, 3) := by decide +kernel
theorem dX8_route_342 : decode cX8_route 342 = .ok (.iload 14, 2) := by decide +kernel
theorem dX8_route_344 : decode cX8_route 344 = .ok (.iaload, 1) := by decide +kernel
theorem dX8_route_345 : decode cX8_route 345 = .ok (.if_icmp .lt 6, 3) := by decide +kernel
theorem dX8_route_348 : decode cX8_route 348 = .ok (.goto 54, 3) := by decide +kernel
theorem dX8_route_351 : decode cX8_route 351 = .ok (.aload_n 0, 1) := by decide +kernel
theorem dX8_route_352 : decode cX8_route 352 = .ok (.getfield 85, 3) := by decide +kernel
theorem dX8_route_355 : decode cX8_route 355 = .ok (.iload 14, 2) := by decide +kernel
theorem dX8_route_357 : decode cX8_route 357 = .ok (.iload 15, 2) := by decide +kernel
theorem dX8_route_359 : decode cX8_route 359 = .ok (.iastore, 1) := by decide +kernel
theorem dX8_route_360 : decode cX8_route 360 = .ok (.aload_n 0, 1) := by decide +kernel
theorem dX8_route_361 : decode cX8_route 361 = .ok (.getfield 94, 3) := by decide +kernel
theorem dX8_route_364 : decode cX8_route 364 = .ok (.iload 14, 2) := by decide +kernel
theorem dX8_route_366 : decode cX8_route 366 = .ok (.baload, 1) := by decide +kernel
theorem dX8_route_367 : decode cX8_route 367 = .ok (.ifCond .eq 6, 3) := by decide +kernel
theorem dX8_route_370 : decode cX8_route 370 = .ok (.goto 32, 3) := by decide +kernel
theorem dX8_route_373 : decode cX8_route 373 = .ok (.aload_n 0, 1) := by decide +kernel
theorem dX8_route_374 : decode cX8_route 374 = .ok (.getfield 88, 3) := by decide +kernel
theorem dX8_route_377 : decode cX8_route 377 = .ok (.iload 6, 2) := by decide +kernel
theorem dX8_route_379 : decode cX8_route 379 = .ok (.iload 7, 2) := by decide +kernel
theorem dX8_route_381 : decode cX8_route 381 = .ok (.iadd, 1) := by decide +kernel
theorem dX8_route_382 : decode cX8_route 382 = .ok (.aload_n 0, 1) := by decide +kernel
theorem dX8_route_383 : decode cX8_route 383 = .ok (.getfield 88, 3) := by decide +kernel
theorem dX8_route_386 : decode cX8_route 386 = .ok (.arraylength, 1) := by decide +kernel
theorem dX8_route_387 : decode cX8_route 387 = .ok (.irem, 1) := by decide +kernel
theorem dX8_route_388 : decode cX8_route 388 = .ok (.iload 14, 2) := by decide +kernel
theorem dX8_route_390 : decode cX8_route 390 = .ok (.iastore, 1) := by decide +kernel
theorem dX8_route_391 : decode cX8_route 391 = .ok (.aload_n 0, 1) := by decide +kernel
theorem dX8_route_392 : decode cX8_route 392 = .ok (.getfield 94, 3) := by decide +kernel
theorem dX8_route_395 : decode cX8_route 395 = .ok (.iload 14, 2) := by decide +kernel
theorem dX8_route_397 : decode cX8_route 397 = .ok (.iconst 1, 1) := by decide +kernel
theorem dX8_route_398 : decode cX8_route 398 = .ok (.bastore, 1) := by decide +kernel
theorem dX8_route_399 : decode cX8_route 399 = .ok (.iinc 7 1, 3) := by decide +kernel
theorem dX8_route_402 : decode cX8_route 402 = .ok (.iinc 11 1, 3) := by decide +kernel
theorem dX8_route_405 : decode cX8_route 405 = .ok (.goto (-152), 3) := by decide +kernel
theorem dX8_route_408 : decode cX8_route 408 = .ok (.goto (-213), 3) := by decide +kernel
theorem dX8_route_411 : decode cX8_route 411 = .ok (.ldc 251, 2) := by decide +kernel
theorem dX8_route_413 : decode cX8_route 413 = .ok (.istore 8, 2) := by decide +kernel
theorem dX8_route_415 : decode cX8_route 415 = .ok (.iconst 0, 1) := by decide +kernel
theorem dX8_route_416 : decode cX8_route 416 = .ok (.istore 9, 2) := by decide +kernel
theorem dX8_route_418 : decode cX8_route 418 = .ok (.iload 9, 2) := by decide +kernel
theorem dX8_route_420 : decode cX8_route 420 = .ok (.iconst 4, 1) := by decide +kernel
theorem dX8_route_421 : decode cX8_route 421 = .ok (.if_icmp .ge 34, 3) := by decide +kernel
theorem dX8_route_424 : decode cX8_route 424 = .ok (.iload 8, 2) := by decide +kernel
theorem dX8_route_426 : decode cX8_route 426 = .ok (.aload_n 0, 1) := by decide +kernel
theorem dX8_route_427 : decode cX8_route 427 = .ok (.getfield 85, 3) := by decide +kernel
theorem dX8_route_430 : decode cX8_route 430 = .ok (.iconst 4, 1) := by decide +kernel
theorem dX8_route_431 : decode cX8_route 431 = .ok (.bipush 24, 2) := by decide +kernel
theorem dX8_route_433 : decode cX8_route 433 = .ok (.iload 5, 2) := by decide +kernel
theorem dX8_route_435 : decode cX8_route 435 = .ok (.imul, 1) := by decide +kernel
theorem dX8_route_436 : decode cX8_route 436 = .ok (.iload 4, 2) := by decide +kernel
theorem dX8_route_438 : decode cX8_route 438 = .ok (.iadd, 1) := by decide +kernel
theorem dX8_route_439 : decode cX8_route 439 = .ok (.imul, 1) := by decide +kernel
theorem dX8_route_440 : decode cX8_route 440 = .ok (.iload 9, 2) := by decide +kernel
theorem dX8_route_442 : decode cX8_route 442 = .ok (.iadd, 1) := by decide +kernel
theorem dX8_route_443 : decode cX8_route 443 = .ok (.iaload, 1) := by decide +kernel
theorem dX8_route_444 : decode cX8_route 444 = .ok (.invokestatic 258, 3) := by decide +kernel
theorem dX8_route_447 : decode cX8_route 447 = .ok (.istore 8, 2) := by decide +kernel
theorem dX8_route_449 : decode cX8_route 449 = .ok (.iinc 9 1, 3) := by decide +kernel
theorem dX8_route_452 : decode cX8_route 452 = .ok (.goto (-34), 3) := by decide +kernel
theorem dX8_route_455 : decode cX8_route 455 = .ok (.iload 8, 2) := by decide +kernel
theorem dX8_route_457 : decode cX8_route 457 = .ok (.ireturn, 1) := by decide +kernel
theorem dX8_asked_0 : decode cX8_asked 0 = .ok (.aload_n 0, 1) := by decide +kernel
theorem dX8_asked_1 : decode cX8_asked 1 = .ok (.iload_n 1, 1) := by decide +kernel
theorem dX8_asked_2 : decode cX8_asked 2 = .ok (.invokevirtual 228, 3) := by decide +kernel
theorem dX8_asked_5 : decode cX8_asked 5 = .ok (.ifCond .eq 5, 3) := by decide +kernel
theorem dX8_asked_8 : decode cX8_asked 8 = .ok (.iconst 0, 1) := by decide +kernel
theorem dX8_asked_9 : decode cX8_asked 9 = .ok (.ireturn, 1) := by decide +kernel
theorem dX8_asked_10 : decode cX8_asked 10 = .ok (.aload_n 0, 1) := by decide +kernel
theorem dX8_asked_11 : decode cX8_asked 11 = .ok (.iload_n 2, 1) := by decide +kernel
theorem dX8_asked_12 : decode cX8_asked 12 = .ok (.invokevirtual 135, 3) := by decide +kernel
theorem dX8_asked_15 : decode cX8_asked 15 = .ok (.ifCond .ne 9, 3) := by decide +kernel
theorem dX8_asked_18 : decode cX8_asked 18 = .ok (.aload_n 0, 1) := by decide +kernel
theorem dX8_asked_19 : decode cX8_asked 19 = .ok (.iconst 2, 1) := by decide +kernel
theorem dX8_asked_20 : decode cX8_asked 20 = .ok (.invokevirtual 172, 3) := by decide +kernel
theorem dX8_asked_23 : decode cX8_asked 23 = .ok (.ireturn, 1) := by decide +kernel
theorem dX8_asked_24 : decode cX8_asked 24 = .ok (.aload_n 0, 1) := by decide +kernel
theorem dX8_asked_25 : decode cX8_asked 25 = .ok (.iload_n 2, 1) := by decide +kernel
theorem dX8_asked_26 : decode cX8_asked 26 = .ok (.invokevirtual 261, 3) := by decide +kernel
theorem dX8_asked_29 : decode cX8_asked 29 = .ok (.istore_n 3, 1) := by decide +kernel
theorem dX8_asked_30 : decode cX8_asked 30 = .ok (.iload_n 3, 1) := by decide +kernel
theorem dX8_asked_31 : decode cX8_asked 31 = .ok (.ldc 251, 2) := by decide +kernel
theorem dX8_asked_33 : decode cX8_asked 33 = .ok (.if_icmp .ne 11, 3) := by decide +kernel
theorem dX8_asked_36 : decode cX8_asked 36 = .ok (.aload_n 0, 1) := by decide +kernel
theorem dX8_asked_37 : decode cX8_asked 37 = .ok (.iconst 3, 1) := by decide +kernel
theorem dX8_asked_38 : decode cX8_asked 38 = .ok (.invokevirtual 172, 3) := by decide +kernel
theorem dX8_asked_41 : decode cX8_asked 41 = .ok (.goto 4, 3) := by decide +kernel
theorem dX8_asked_44 : decode cX8_asked 44 = .ok (.iload_n 3, 1) := by decide +kernel
theorem dX8_asked_45 : decode cX8_asked 45 = .ok (.ireturn, 1) := by decide +kernel
theorem dX8_bends_0 : decode cX8_bends 0 = .ok (.aload_n 0, 1) := by decide +kernel
theorem dX8_bends_1 : decode cX8_bends 1 = .ok (.iload_n 1, 1) := by decide +kernel
theorem dX8_bends_2 : decode cX8_bends 2 = .ok (.iload_n 2, 1) := by decide +kernel
theorem dX8_bends_3 : decode cX8_bends 3 = .ok (.invokevirtual 264, 3) := by decide +kernel
theorem dX8_bends_6 : decode cX8_bends 6 = .ok (.sipush 1000, 3) := by decide +kernel
theorem dX8_bends_9 : decode cX8_bends 9 = .ok (.idiv, 1) := by decide +kernel
theorem dX8_bends_10 : decode cX8_bends 10 = .ok (.ireturn, 1) := by decide +kernel
theorem dX8_bendsByRounds_0 : decode cX8_bendsByRounds 0 = .ok (.aload_n 0, 1) := by decide +kernel
theorem dX8_bendsByRounds_1 : decode cX8_bendsByRounds 1 = .ok (.iload_n 1, 1) := by decide +kernel
theorem dX8_bendsByRounds_2 : decode cX8_bendsByRounds 2 = .ok (.iload_n 2, 1) := by decide +kernel
theorem dX8_bendsByRounds_3 : decode cX8_bendsByRounds 3 = .ok (.invokevirtual 267, 3) := by decide +kernel
theorem dX8_bendsByRounds_6 : decode cX8_bendsByRounds 6 = .ok (.ireturn, 1) := by decide +kernel
theorem dX8_routeLength_0 : decode cX8_routeLength 0 = .ok (.aload_n 0, 1) := by decide +kernel
theorem dX8_routeLength_1 : decode cX8_routeLength 1 = .ok (.iload_n 1, 1) := by decide +kernel
theorem dX8_routeLength_2 : decode cX8_routeLength 2 = .ok (.iload_n 2, 1) := by decide +kernel
theorem dX8_routeLength_3 : decode cX8_routeLength 3 = .ok (.invokevirtual 264, 3) := by decide +kernel
theorem dX8_routeLength_6 : decode cX8_routeLength 6 = .ok (.sipush 1000, 3) := by decide +kernel
theorem dX8_routeLength_9 : decode cX8_routeLength 9 = .ok (.irem, 1) := by decide +kernel
theorem dX8_routeLength_10 : decode cX8_routeLength 10 = .ok (.ireturn, 1) := by decide +kernel
theorem dX8_ownVotes_0 : decode cX8_ownVotes 0 = .ok (.aload_n 0, 1) := by decide +kernel
theorem dX8_ownVotes_1 : decode cX8_ownVotes 1 = .ok (.iload_n 1, 1) := by decide +kernel
theorem dX8_ownVotes_2 : decode cX8_ownVotes 2 = .ok (.iload_n 2, 1) := by decide +kernel
theorem dX8_ownVotes_3 : decode cX8_ownVotes 3 = .ok (.invokevirtual 231, 3) := by decide +kernel
theorem dX8_ownVotes_6 : decode cX8_ownVotes 6 = .ok (.ifCond .eq 7, 3) := by decide +kernel
theorem dX8_ownVotes_9 : decode cX8_ownVotes 9 = .ok (.iconst 0, 1) := by decide +kernel
theorem dX8_ownVotes_10 : decode cX8_ownVotes 10 = .ok (.goto 17, 3) := by decide +kernel
theorem dX8_ownVotes_13 : decode cX8_ownVotes 13 = .ok (.aload_n 0, 1) := by decide +kernel
theorem dX8_ownVotes_14 : decode cX8_ownVotes 14 = .ok (.getfield 67, 3) := by decide +kernel
theorem dX8_ownVotes_17 : decode cX8_ownVotes 17 = .ok (.bipush 56, 2) := by decide +kernel
theorem dX8_ownVotes_19 : decode cX8_ownVotes 19 = .ok (.bipush 12, 2) := by decide +kernel
theorem dX8_ownVotes_21 : decode cX8_ownVotes 21 = .ok (.iload_n 1, 1) := by decide +kernel
theorem dX8_ownVotes_22 : decode cX8_ownVotes 22 = .ok (.imul, 1) := by decide +kernel
theorem dX8_ownVotes_23 : decode cX8_ownVotes 23 = .ok (.iadd, 1) := by decide +kernel
theorem dX8_ownVotes_24 : decode cX8_ownVotes 24 = .ok (.iload_n 2, 1) := by decide +kernel
theorem dX8_ownVotes_25 : decode cX8_ownVotes 25 = .ok (.iadd, 1) := by decide +kernel
theorem dX8_ownVotes_26 : decode cX8_ownVotes 26 = .ok (.iaload, 1) := by decide +kernel
theorem dX8_ownVotes_27 : decode cX8_ownVotes 27 = .ok (.ireturn, 1) := by decide +kernel
theorem dX8_votes_0 : decode cX8_votes 0 = .ok (.iconst 0, 1) := by decide +kernel
theorem dX8_votes_1 : decode cX8_votes 1 = .ok (.istore_n 2, 1) := by decide +kernel
theorem dX8_votes_2 : decode cX8_votes 2 = .ok (.iconst 0, 1) := by decide +kernel
theorem dX8_votes_3 : decode cX8_votes 3 = .ok (.istore_n 3, 1) := by decide +kernel
theorem dX8_votes_4 : decode cX8_votes 4 = .ok (.iload_n 3, 1) := by decide +kernel
theorem dX8_votes_5 : decode cX8_votes 5 = .ok (.iconst 3, 1) := by decide +kernel
theorem dX8_votes_6 : decode cX8_votes 6 = .ok (.if_icmp .ge 26, 3) := by decide +kernel
theorem dX8_votes_9 : decode cX8_votes 9 = .ok (.iload_n 2, 1) := by decide +kernel
theorem dX8_votes_10 : decode cX8_votes 10 = .ok (.aload_n 0, 1) := by decide +kernel
theorem dX8_votes_11 : decode cX8_votes 11 = .ok (.getfield 67, 3) := by decide +kernel
theorem dX8_votes_14 : decode cX8_votes 14 = .ok (.bipush 56, 2) := by decide +kernel
theorem dX8_votes_16 : decode cX8_votes 16 = .ok (.bipush 12, 2) := by decide +kernel
theorem dX8_votes_18 : decode cX8_votes 18 = .ok (.iload_n 3, 1) := by decide +kernel
theorem dX8_votes_19 : decode cX8_votes 19 = .ok (.imul, 1) := by decide +kernel
theorem dX8_votes_20 : decode cX8_votes 20 = .ok (.iadd, 1) := by decide +kernel
theorem dX8_votes_21 : decode cX8_votes 21 = .ok (.iload_n 1, 1) := by decide +kernel
theorem dX8_votes_22 : decode cX8_votes 22 = .ok (.iadd, 1) := by decide +kernel
theorem dX8_votes_23 : decode cX8_votes 23 = .ok (.iaload, 1) := by decide +kernel
theorem dX8_votes_24 : decode cX8_votes 24 = .ok (.iadd, 1) := by decide +kernel
theorem dX8_votes_25 : decode cX8_votes 25 = .ok (.istore_n 2, 1) := by decide +kernel
theorem dX8_votes_26 : decode cX8_votes 26 = .ok (.iinc 3 1, 3) := by decide +kernel
theorem dX8_votes_29 : decode cX8_votes 29 = .ok (.goto (-25), 3) := by decide +kernel
theorem dX8_votes_32 : decode cX8_votes 32 = .ok (.iload_n 2, 1) := by decide +kernel
theorem dX8_votes_33 : decode cX8_votes 33 = .ok (.ireturn, 1) := by decide +kernel
theorem dX8_votesFor_0 : decode cX8_votesFor 0 = .ok (.aload_n 0, 1) := by decide +kernel
theorem dX8_votesFor_1 : decode cX8_votesFor 1 = .ok (.iload_n 1, 1) := by decide +kernel
theorem dX8_votesFor_2 : decode cX8_votesFor 2 = .ok (.iload_n 2, 1) := by decide +kernel
theorem dX8_votesFor_3 : decode cX8_votesFor 3 = .ok (.invokevirtual 231, 3) := by decide +kernel
theorem dX8_votesFor_6 : decode cX8_votesFor 6 = .ok (.ifCond .eq 5, 3) := by decide +kernel
theorem dX8_votesFor_9 : decode cX8_votesFor 9 = .ok (.iconst 0, 1) := by decide +kernel
theorem dX8_votesFor_10 : decode cX8_votesFor 10 = .ok (.ireturn, 1) := by decide +kernel
theorem dX8_votesFor_11 : decode cX8_votesFor 11 = .ok (.aload_n 0, 1) := by decide +kernel
theorem dX8_votesFor_12 : decode cX8_votesFor 12 = .ok (.getfield 67, 3) := by decide +kernel
theorem dX8_votesFor_15 : decode cX8_votesFor 15 = .ok (.bipush 92, 2) := by decide +kernel
theorem dX8_votesFor_17 : decode cX8_votesFor 17 = .ok (.iaload, 1) := by decide +kernel
theorem dX8_votesFor_18 : decode cX8_votesFor 18 = .ok (.iconst 1, 1) := by decide +kernel
theorem dX8_votesFor_19 : decode cX8_votesFor 19 = .ok (.if_icmp .ne 11, 3) := by decide +kernel
theorem dX8_votesFor_22 : decode cX8_votesFor 22 = .ok (.aload_n 0, 1) := by decide +kernel
theorem dX8_votesFor_23 : decode cX8_votesFor 23 = .ok (.iload_n 2, 1) := by decide +kernel
theorem dX8_votesFor_24 : decode cX8_votesFor 24 = .ok (.invokevirtual 270, 3) := by decide +kernel
theorem dX8_votesFor_27 : decode cX8_votesFor 27 = .ok (.goto 8, 3) := by decide +kernel
theorem dX8_votesFor_30 : decode cX8_votesFor 30 = .ok (.aload_n 0, 1) := by decide +kernel
theorem dX8_votesFor_31 : decode cX8_votesFor 31 = .ok (.iconst 3, 1) := by decide +kernel
theorem dX8_votesFor_32 : decode cX8_votesFor 32 = .ok (.invokevirtual 172, 3) := by decide +kernel
theorem dX8_votesFor_35 : decode cX8_votesFor 35 = .ok (.ireturn, 1) := by decide +kernel
theorem dX8_winner_0 : decode cX8_winner 0 = .ok (.aload_n 0, 1) := by decide +kernel
theorem dX8_winner_1 : decode cX8_winner 1 = .ok (.iload_n 1, 1) := by decide +kernel
theorem dX8_winner_2 : decode cX8_winner 2 = .ok (.invokevirtual 228, 3) := by decide +kernel
theorem dX8_winner_5 : decode cX8_winner 5 = .ok (.ifCond .eq 5, 3) := by decide +kernel
theorem dX8_winner_8 : decode cX8_winner 8 = .ok (.iconst 0, 1) := by decide +kernel
theorem dX8_winner_9 : decode cX8_winner 9 = .ok (.ireturn, 1) := by decide +kernel
theorem dX8_winner_10 : decode cX8_winner 10 = .ok (.aload_n 0, 1) := by decide +kernel
theorem dX8_winner_11 : decode cX8_winner 11 = .ok (.getfield 67, 3) := by decide +kernel
theorem dX8_winner_14 : decode cX8_winner 14 = .ok (.bipush 92, 2) := by decide +kernel
theorem dX8_winner_16 : decode cX8_winner 16 = .ok (.iaload, 1) := by decide +kernel
theorem dX8_winner_17 : decode cX8_winner 17 = .ok (.ifCond .ne 9, 3) := by decide +kernel
theorem dX8_winner_20 : decode cX8_winner 20 = .ok (.aload_n 0, 1) := by decide +kernel
theorem dX8_winner_21 : decode cX8_winner 21 = .ok (.iconst 2, 1) := by decide +kernel
theorem dX8_winner_22 : decode cX8_winner 22 = .ok (.invokevirtual 172, 3) := by decide +kernel
theorem dX8_winner_25 : decode cX8_winner 25 = .ok (.ireturn, 1) := by decide +kernel
theorem dX8_winner_26 : decode cX8_winner 26 = .ok (.iconst (-1), 1) := by decide +kernel
theorem dX8_winner_27 : decode cX8_winner 27 = .ok (.istore_n 2, 1) := by decide +kernel
theorem dX8_winner_28 : decode cX8_winner 28 = .ok (.iconst 0, 1) := by decide +kernel
theorem dX8_winner_29 : decode cX8_winner 29 = .ok (.istore_n 3, 1) := by decide +kernel
theorem dX8_winner_30 : decode cX8_winner 30 = .ok (.iload_n 3, 1) := by decide +kernel
theorem dX8_winner_31 : decode cX8_winner 31 = .ok (.aload_n 0, 1) := by decide +kernel
theorem dX8_winner_32 : decode cX8_winner 32 = .ok (.getfield 119, 3) := by decide +kernel
theorem dX8_winner_35 : decode cX8_winner 35 = .ok (.if_icmp .ge 44, 3) := by decide +kernel
theorem dX8_winner_38 : decode cX8_winner 38 = .ok (.aload_n 0, 1) := by decide +kernel
theorem dX8_winner_39 : decode cX8_winner 39 = .ok (.iload_n 3, 1) := by decide +kernel
theorem dX8_winner_40 : decode cX8_winner 40 = .ok (.invokevirtual 125, 3) := by decide +kernel
theorem dX8_winner_43 : decode cX8_winner 43 = .ok (.ifCond .eq 28, 3) := by decide +kernel
theorem dX8_winner_46 : decode cX8_winner 46 = .ok (.aload_n 0, 1) := by decide +kernel
theorem dX8_winner_47 : decode cX8_winner 47 = .ok (.iload_n 3, 1) := by decide +kernel
theorem dX8_winner_48 : decode cX8_winner 48 = .ok (.invokevirtual 270, 3) := by decide +kernel
theorem dX8_winner_51 : decode cX8_winner 51 = .ok (.iload_n 2, 1) := by decide +kernel
theorem dX8_winner_52 : decode cX8_winner 52 = .ok (.ifCond .ge 7, 3) := by decide +kernel
theorem dX8_winner_55 : decode cX8_winner 55 = .ok (.iconst 0, 1) := by decide +kernel
theorem dX8_winner_56 : decode cX8_winner 56 = .ok (.goto 8, 3) := by decide +kernel
theorem dX8_winner_59 : decode cX8_winner 59 = .ok (.aload_n 0, 1) := by decide +kernel
theorem dX8_winner_60 : decode cX8_winner 60 = .ok (.iload_n 2, 1) := by decide +kernel
theorem dX8_winner_61 : decode cX8_winner 61 = .ok (.invokevirtual 270, 3) := by decide +kernel
theorem dX8_winner_64 : decode cX8_winner 64 = .ok (.if_icmp .le 7, 3) := by decide +kernel
theorem dX8_winner_67 : decode cX8_winner 67 = .ok (.iload_n 3, 1) := by decide +kernel
theorem dX8_winner_68 : decode cX8_winner 68 = .ok (.goto 4, 3) := by decide +kernel
theorem dX8_winner_71 : decode cX8_winner 71 = .ok (.iload_n 2, 1) := by decide +kernel
theorem dX8_winner_72 : decode cX8_winner 72 = .ok (.istore_n 2, 1) := by decide +kernel
theorem dX8_winner_73 : decode cX8_winner 73 = .ok (.iinc 3 1, 3) := by decide +kernel
theorem dX8_winner_76 : decode cX8_winner 76 = .ok (.goto (-46), 3) := by decide +kernel
theorem dX8_winner_79 : decode cX8_winner 79 = .ok (.iload_n 2, 1) := by decide +kernel
theorem dX8_winner_80 : decode cX8_winner 80 = .ok (.ifCond .ge 11, 3) := by decide +kernel
theorem dX8_winner_83 : decode cX8_winner 83 = .ok (.aload_n 0, 1) := by decide +kernel
theorem dX8_winner_84 : decode cX8_winner 84 = .ok (.iconst 3, 1) := by decide +kernel
theorem dX8_winner_85 : decode cX8_winner 85 = .ok (.invokevirtual 172, 3) := by decide +kernel
theorem dX8_winner_88 : decode cX8_winner 88 = .ok (.goto 4, 3) := by decide +kernel
theorem dX8_winner_91 : decode cX8_winner 91 = .ok (.iload_n 2, 1) := by decide +kernel
theorem dX8_winner_92 : decode cX8_winner 92 = .ok (.ireturn, 1) := by decide +kernel
theorem dX8_joins_0 : decode cX8_joins 0 = .ok (.bipush 31, 2) := by decide +kernel
theorem dX8_joins_2 : decode cX8_joins 2 = .ok (.iload_n 1, 1) := by decide +kernel
theorem dX8_joins_3 : decode cX8_joins 3 = .ok (.imul, 1) := by decide +kernel
theorem dX8_joins_4 : decode cX8_joins 4 = .ok (.iload_n 2, 1) := by decide +kernel
theorem dX8_joins_5 : decode cX8_joins 5 = .ok (.iadd, 1) := by decide +kernel
theorem dX8_joins_6 : decode cX8_joins 6 = .ok (.iconst 1, 1) := by decide +kernel
theorem dX8_joins_7 : decode cX8_joins 7 = .ok (.iadd, 1) := by decide +kernel
theorem dX8_joins_8 : decode cX8_joins 8 = .ok (.ldc_w 273, 3) := by decide +kernel
theorem dX8_joins_11 : decode cX8_joins 11 = .ok (.irem, 1) := by decide +kernel
theorem dX8_joins_12 : decode cX8_joins 12 = .ok (.ireturn, 1) := by decide +kernel
theorem dX8_outcomeNow_0 : decode cX8_outcomeNow 0 = .ok (.iconst 0, 1) := by decide +kernel
theorem dX8_outcomeNow_1 : decode cX8_outcomeNow 1 = .ok (.istore_n 1, 1) := by decide +kernel
theorem dX8_outcomeNow_2 : decode cX8_outcomeNow 2 = .ok (.iconst 0, 1) := by decide +kernel
theorem dX8_outcomeNow_3 : decode cX8_outcomeNow 3 = .ok (.istore_n 2, 1) := by decide +kernel
theorem dX8_outcomeNow_4 : decode cX8_outcomeNow 4 = .ok (.iload_n 2, 1) := by decide +kernel
theorem dX8_outcomeNow_5 : decode cX8_outcomeNow 5 = .ok (.aload_n 0, 1) := by decide +kernel
theorem dX8_outcomeNow_6 : decode cX8_outcomeNow 6 = .ok (.getfield 119, 3) := by decide +kernel
theorem dX8_outcomeNow_9 : decode cX8_outcomeNow 9 = .ok (.if_icmp .ge 54, 3) := by decide +kernel
theorem dX8_outcomeNow_12 : decode cX8_outcomeNow 12 = .ok (.aload_n 0, 1) := by decide +kernel
theorem dX8_outcomeNow_13 : decode cX8_outcomeNow 13 = .ok (.iload_n 2, 1) := by decide +kernel
theorem dX8_outcomeNow_14 : decode cX8_outcomeNow 14 = .ok (.invokevirtual 125, 3) := by decide +kernel
theorem dX8_outcomeNow_17 : decode cX8_outcomeNow 17 = .ok (.ifCond .ne 6, 3) := by decide +kernel
theorem dX8_outcomeNow_20 : decode cX8_outcomeNow 20 = .ok (.goto 37, 3) := by decide +kernel
theorem dX8_outcomeNow_23 : decode cX8_outcomeNow 23 = .ok (.aload_n 0, 1) := by decide +kernel
theorem dX8_outcomeNow_24 : decode cX8_outcomeNow 24 = .ok (.aload_n 0, 1) := by decide +kernel
theorem dX8_outcomeNow_25 : decode cX8_outcomeNow 25 = .ok (.aload_n 0, 1) := by decide +kernel
theorem dX8_outcomeNow_26 : decode cX8_outcomeNow 26 = .ok (.aload_n 0, 1) := by decide +kernel
theorem dX8_outcomeNow_27 : decode cX8_outcomeNow 27 = .ok (.iload_n 1, 1) := by decide +kernel
theorem dX8_outcomeNow_28 : decode cX8_outcomeNow 28 = .ok (.iload_n 2, 1) := by decide +kernel
theorem dX8_outcomeNow_29 : decode cX8_outcomeNow 29 = .ok (.invokevirtual 274, 3) := by decide +kernel
theorem dX8_outcomeNow_32 : decode cX8_outcomeNow 32 = .ok (.aload_n 0, 1) := by decide +kernel
theorem dX8_outcomeNow_33 : decode cX8_outcomeNow 33 = .ok (.iload_n 2, 1) := by decide +kernel
theorem dX8_outcomeNow_34 : decode cX8_outcomeNow 34 = .ok (.invokevirtual 141, 3) := by decide +kernel
theorem dX8_outcomeNow_37 : decode cX8_outcomeNow 37 = .ok (.invokevirtual 274, 3) := by decide +kernel
theorem dX8_outcomeNow_40 : decode cX8_outcomeNow 40 = .ok (.aload_n 0, 1) := by decide +kernel
theorem dX8_outcomeNow_41 : decode cX8_outcomeNow 41 = .ok (.iload_n 2, 1) := by decide +kernel
theorem dX8_outcomeNow_42 : decode cX8_outcomeNow 42 = .ok (.invokevirtual 145, 3) := by decide +kernel
theorem dX8_outcomeNow_45 : decode cX8_outcomeNow 45 = .ok (.invokevirtual 274, 3) := by decide +kernel
theorem dX8_outcomeNow_48 : decode cX8_outcomeNow 48 = .ok (.aload_n 0, 1) := by decide +kernel
theorem dX8_outcomeNow_49 : decode cX8_outcomeNow 49 = .ok (.iload_n 2, 1) := by decide +kernel
theorem dX8_outcomeNow_50 : decode cX8_outcomeNow 50 = .ok (.invokevirtual 199, 3) := by decide +kernel
theorem dX8_outcomeNow_53 : decode cX8_outcomeNow 53 = .ok (.invokevirtual 274, 3) := by decide +kernel
theorem dX8_outcomeNow_56 : decode cX8_outcomeNow 56 = .ok (.istore_n 1, 1) := by decide +kernel
theorem dX8_outcomeNow_57 : decode cX8_outcomeNow 57 = .ok (.iinc 2 1, 3) := by decide +kernel
theorem dX8_outcomeNow_60 : decode cX8_outcomeNow 60 = .ok (.goto (-56), 3) := by decide +kernel
theorem dX8_outcomeNow_63 : decode cX8_outcomeNow 63 = .ok (.iload_n 1, 1) := by decide +kernel
theorem dX8_outcomeNow_64 : decode cX8_outcomeNow 64 = .ok (.ireturn, 1) := by decide +kernel
theorem dX8_outcome_0 : decode cX8_outcome 0 = .ok (.aload_n 0, 1) := by decide +kernel
theorem dX8_outcome_1 : decode cX8_outcome 1 = .ok (.iload_n 1, 1) := by decide +kernel
theorem dX8_outcome_2 : decode cX8_outcome 2 = .ok (.invokevirtual 228, 3) := by decide +kernel
theorem dX8_outcome_5 : decode cX8_outcome 5 = .ok (.ifCond .eq 7, 3) := by decide +kernel
theorem dX8_outcome_8 : decode cX8_outcome 8 = .ok (.iconst 0, 1) := by decide +kernel
theorem dX8_outcome_9 : decode cX8_outcome 9 = .ok (.goto 7, 3) := by decide +kernel
theorem dX8_outcome_12 : decode cX8_outcome 12 = .ok (.aload_n 0, 1) := by decide +kernel
theorem dX8_outcome_13 : decode cX8_outcome 13 = .ok (.invokevirtual 277, 3) := by decide +kernel
theorem dX8_outcome_16 : decode cX8_outcome 16 = .ok (.ireturn, 1) := by decide +kernel
theorem dX8_outcomeAnew_0 : decode cX8_outcomeAnew 0 = .ok (.aload_n 0, 1) := by decide +kernel
theorem dX8_outcomeAnew_1 : decode cX8_outcomeAnew 1 = .ok (.iload_n 1, 1) := by decide +kernel
theorem dX8_outcomeAnew_2 : decode cX8_outcomeAnew 2 = .ok (.invokevirtual 280, 3) := by decide +kernel
theorem dX8_outcomeAnew_5 : decode cX8_outcomeAnew 5 = .ok (.ireturn, 1) := by decide +kernel
theorem dX8_outcomes_0 : decode cX8_outcomes 0 = .ok (.aload_n 0, 1) := by decide +kernel
theorem dX8_outcomes_1 : decode cX8_outcomes 1 = .ok (.iconst 0, 1) := by decide +kernel
theorem dX8_outcomes_2 : decode cX8_outcomes 2 = .ok (.putfield 97, 3) := by decide +kernel
theorem dX8_outcomes_5 : decode cX8_outcomes 5 = .ok (.iload_n 1, 1) := by decide +kernel
theorem dX8_outcomes_6 : decode cX8_outcomes 6 = .ok (.invokestatic 165, 3) := by decide +kernel
theorem dX8_outcomes_9 : decode cX8_outcomes 9 = .ok (.ifCond .eq 16, 3) := by decide +kernel
theorem dX8_outcomes_12 : decode cX8_outcomes 12 = .ok (.iload_n 2, 1) := by decide +kernel
theorem dX8_outcomes_13 : decode cX8_outcomes 13 = .ok (.iconst 0, 1) := by decide +kernel
theorem dX8_outcomes_14 : decode cX8_outcomes 14 = .ok (.iconst 4, 1) := by decide +kernel
theorem dX8_outcomes_15 : decode cX8_outcomes 15 = .ok (.invokestatic 101, 3) := by decide +kernel
theorem dX8_outcomes_18 : decode cX8_outcomes 18 = .ok (.ifCond .eq 7, 3) := by decide +kernel
theorem dX8_outcomes_21 : decode cX8_outcomes 21 = .ok (.iconst 1, 1) := by decide +kernel
theorem dX8_outcomes_22 : decode cX8_outcomes 22 = .ok (.goto 8, 3) := by decide +kernel
theorem dX8_outcomes_25 : decode cX8_outcomes 25 = .ok (.aload_n 0, 1) := by decide +kernel
theorem dX8_outcomes_26 : decode cX8_outcomes 26 = .ok (.iconst 1, 1) := by decide +kernel
theorem dX8_outcomes_27 : decode cX8_outcomes 27 = .ok (.invokevirtual 172, 3) := by decide +kernel
theorem dX8_outcomes_30 : decode cX8_outcomes 30 = .ok (.ireturn, 1) := by decide +kernel
theorem dX8_areAlike_0 : decode cX8_areAlike 0 = .ok (.aload_n 0, 1) := by decide +kernel
theorem dX8_areAlike_1 : decode cX8_areAlike 1 = .ok (.iconst 0, 1) := by decide +kernel
theorem dX8_areAlike_2 : decode cX8_areAlike 2 = .ok (.putfield 97, 3) := by decide +kernel
theorem dX8_areAlike_5 : decode cX8_areAlike 5 = .ok (.iload_n 1, 1) := by decide +kernel
theorem dX8_areAlike_6 : decode cX8_areAlike 6 = .ok (.invokestatic 165, 3) := by decide +kernel
theorem dX8_areAlike_9 : decode cX8_areAlike 9 = .ok (.ifCond .eq 10, 3) := by decide +kernel
theorem dX8_areAlike_12 : decode cX8_areAlike 12 = .ok (.iload_n 2, 1) := by decide +kernel
theorem dX8_areAlike_13 : decode cX8_areAlike 13 = .ok (.invokestatic 165, 3) := by decide +kernel
theorem dX8_areAlike_16 : decode cX8_areAlike 16 = .ok (.ifCond .ne 9, 3) := by decide +kernel
theorem dX8_areAlike_19 : decode cX8_areAlike 19 = .ok (.aload_n 0, 1) := by decide +kernel
theorem dX8_areAlike_20 : decode cX8_areAlike 20 = .ok (.iconst 1, 1) := by decide +kernel
theorem dX8_areAlike_21 : decode cX8_areAlike 21 = .ok (.invokevirtual 219, 3) := by decide +kernel
theorem dX8_areAlike_24 : decode cX8_areAlike 24 = .ok (.ireturn, 1) := by decide +kernel
theorem dX8_areAlike_25 : decode cX8_areAlike 25 = .ok (.aload_n 0, 1) := by decide +kernel
theorem dX8_areAlike_26 : decode cX8_areAlike 26 = .ok (.iload_n 1, 1) := by decide +kernel
theorem dX8_areAlike_27 : decode cX8_areAlike 27 = .ok (.invokevirtual 161, 3) := by decide +kernel
theorem dX8_areAlike_30 : decode cX8_areAlike 30 = .ok (.bipush 93, 2) := by decide +kernel
theorem dX8_areAlike_32 : decode cX8_areAlike 32 = .ok (.newarray .int, 2) := by decide +kernel
theorem dX8_areAlike_34 : decode cX8_areAlike 34 = .ok (.astore_n 3, 1) := by decide +kernel
theorem dX8_areAlike_35 : decode cX8_areAlike 35 = .ok (.iconst 0, 1) := by decide +kernel
theorem dX8_areAlike_36 : decode cX8_areAlike 36 = .ok (.istore 4, 2) := by decide +kernel
theorem dX8_areAlike_38 : decode cX8_areAlike 38 = .ok (.iload 4, 2) := by decide +kernel
theorem dX8_areAlike_40 : decode cX8_areAlike 40 = .ok (.bipush 93, 2) := by decide +kernel
theorem dX8_areAlike_42 : decode cX8_areAlike 42 = .ok (.if_icmp .ge 20, 3) := by decide +kernel
theorem dX8_areAlike_45 : decode cX8_areAlike 45 = .ok (.aload_n 3, 1) := by decide +kernel
theorem dX8_areAlike_46 : decode cX8_areAlike 46 = .ok (.iload 4, 2) := by decide +kernel
theorem dX8_areAlike_48 : decode cX8_areAlike 48 = .ok (.aload_n 0, 1) := by decide +kernel
theorem dX8_areAlike_49 : decode cX8_areAlike 49 = .ok (.getfield 67, 3) := by decide +kernel
theorem dX8_areAlike_52 : decode cX8_areAlike 52 = .ok (.iload 4, 2) := by decide +kernel
theorem dX8_areAlike_54 : decode cX8_areAlike 54 = .ok (.iaload, 1) := by decide +kernel
theorem dX8_areAlike_55 : decode cX8_areAlike 55 = .ok (.iastore, 1) := by decide +kernel
theorem dX8_areAlike_56 : decode cX8_areAlike 56 = .ok (.iinc 4 1, 3) := by decide +kernel
theorem dX8_areAlike_59 : decode cX8_areAlike 59 = .ok (.goto (-21), 3) := by decide +kernel
theorem dX8_areAlike_62 : decode cX8_areAlike 62 = .ok (.aload_n 0, 1) := by decide +kernel
theorem dX8_areAlike_63 : decode cX8_areAlike 63 = .ok (.iload_n 2, 1) := by decide +kernel
theorem dX8_areAlike_64 : decode cX8_areAlike 64 = .ok (.invokevirtual 161, 3) := by decide +kernel
theorem dX8_areAlike_67 : decode cX8_areAlike 67 = .ok (.iconst 0, 1) := by decide +kernel
theorem dX8_areAlike_68 : decode cX8_areAlike 68 = .ok (.istore 4, 2) := by decide +kernel
theorem dX8_areAlike_70 : decode cX8_areAlike 70 = .ok (.iload 4, 2) := by decide +kernel
theorem dX8_areAlike_72 : decode cX8_areAlike 72 = .ok (.bipush 93, 2) := by decide +kernel
theorem dX8_areAlike_74 : decode cX8_areAlike 74 = .ok (.if_icmp .ge 25, 3) := by decide +kernel
theorem dX8_areAlike_77 : decode cX8_areAlike 77 = .ok (.aload_n 3, 1) := by decide +kernel
theorem dX8_areAlike_78 : decode cX8_areAlike 78 = .ok (.iload 4, 2) := by decide +kernel
theorem dX8_areAlike_80 : decode cX8_areAlike 80 = .ok (.iaload, 1) := by decide +kernel
theorem dX8_areAlike_81 : decode cX8_areAlike 81 = .ok (.aload_n 0, 1) := by decide +kernel
theorem dX8_areAlike_82 : decode cX8_areAlike 82 = .ok (.getfield 67, 3) := by decide +kernel
theorem dX8_areAlike_85 : decode cX8_areAlike 85 = .ok (.iload 4, 2) := by decide +kernel
theorem dX8_areAlike_87 : decode cX8_areAlike 87 = .ok (.iaload, 1) := by decide +kernel
theorem dX8_areAlike_88 : decode cX8_areAlike 88 = .ok (.if_icmp .eq 5, 3) := by decide +kernel
theorem dX8_areAlike_91 : decode cX8_areAlike 91 = .ok (.iconst 0, 1) := by decide +kernel
theorem dX8_areAlike_92 : decode cX8_areAlike 92 = .ok (.ireturn, 1) := by decide +kernel
theorem dX8_areAlike_93 : decode cX8_areAlike 93 = .ok (.iinc 4 1, 3) := by decide +kernel
theorem dX8_areAlike_96 : decode cX8_areAlike 96 = .ok (.goto (-26), 3) := by decide +kernel
theorem dX8_areAlike_99 : decode cX8_areAlike 99 = .ok (.iconst 1, 1) := by decide +kernel
theorem dX8_areAlike_100 : decode cX8_areAlike 100 = .ok (.ireturn, 1) := by decide +kernel
theorem dX8_frameShare_0 : decode cX8_frameShare 0 = .ok (.aload_n 0, 1) := by decide +kernel
theorem dX8_frameShare_1 : decode cX8_frameShare 1 = .ok (.iload_n 1, 1) := by decide +kernel
theorem dX8_frameShare_2 : decode cX8_frameShare 2 = .ok (.invokevirtual 228, 3) := by decide +kernel
theorem dX8_frameShare_5 : decode cX8_frameShare 5 = .ok (.ifCond .eq 5, 3) := by decide +kernel
theorem dX8_frameShare_8 : decode cX8_frameShare 8 = .ok (.fconst 0, 1) := by decide +kernel
theorem dX8_frameShare_9 : decode cX8_frameShare 9 = .ok (.freturn, 1) := by decide +kernel
theorem dX8_frameShare_10 : decode cX8_frameShare 10 = .ok (.iconst 0, 1) := by decide +kernel
theorem dX8_frameShare_11 : decode cX8_frameShare 11 = .ok (.istore_n 2, 1) := by decide +kernel
theorem dX8_frameShare_12 : decode cX8_frameShare 12 = .ok (.iconst 0, 1) := by decide +kernel
theorem dX8_frameShare_13 : decode cX8_frameShare 13 = .ok (.istore_n 3, 1) := by decide +kernel
theorem dX8_frameShare_14 : decode cX8_frameShare 14 = .ok (.iload_n 3, 1) := by decide +kernel
theorem dX8_frameShare_15 : decode cX8_frameShare 15 = .ok (.aload_n 0, 1) := by decide +kernel
theorem dX8_frameShare_16 : decode cX8_frameShare 16 = .ok (.getfield 119, 3) := by decide +kernel
theorem dX8_frameShare_19 : decode cX8_frameShare 19 = .ok (.if_icmp .ge 34, 3) := by decide +kernel
theorem dX8_frameShare_22 : decode cX8_frameShare 22 = .ok (.iload_n 2, 1) := by decide +kernel
theorem dX8_frameShare_23 : decode cX8_frameShare 23 = .ok (.aload_n 0, 1) := by decide +kernel
theorem dX8_frameShare_24 : decode cX8_frameShare 24 = .ok (.iload_n 3, 1) := by decide +kernel
theorem dX8_frameShare_25 : decode cX8_frameShare 25 = .ok (.invokevirtual 125, 3) := by decide +kernel
theorem dX8_frameShare_28 : decode cX8_frameShare 28 = .ok (.ifCond .eq 16, 3) := by decide +kernel
theorem dX8_frameShare_31 : decode cX8_frameShare 31 = .ok (.aload_n 0, 1) := by decide +kernel
theorem dX8_frameShare_32 : decode cX8_frameShare 32 = .ok (.getfield 22, 3) := by decide +kernel
theorem dX8_frameShare_35 : decode cX8_frameShare 35 = .ok (.iload_n 3, 1) := by decide +kernel
theorem dX8_frameShare_36 : decode cX8_frameShare 36 = .ok (.baload, 1) := by decide +kernel
theorem dX8_frameShare_37 : decode cX8_frameShare 37 = .ok (.ifCond .eq 7, 3) := by decide +kernel
theorem dX8_frameShare_40 : decode cX8_frameShare 40 = .ok (.iconst 1, 1) := by decide +kernel
theorem dX8_frameShare_41 : decode cX8_frameShare 41 = .ok (.goto 4, 3) := by decide +kernel
theorem dX8_frameShare_44 : decode cX8_frameShare 44 = .ok (.iconst 0, 1) := by decide +kernel
theorem dX8_frameShare_45 : decode cX8_frameShare 45 = .ok (.iadd, 1) := by decide +kernel
theorem dX8_frameShare_46 : decode cX8_frameShare 46 = .ok (.istore_n 2, 1) := by decide +kernel
theorem dX8_frameShare_47 : decode cX8_frameShare 47 = .ok (.iinc 3 1, 3) := by decide +kernel
theorem dX8_frameShare_50 : decode cX8_frameShare 50 = .ok (.goto (-36), 3) := by decide +kernel
theorem dX8_frameShare_53 : decode cX8_frameShare 53 = .ok (.aload_n 0, 1) := by decide +kernel
theorem dX8_frameShare_54 : decode cX8_frameShare 54 = .ok (.invokevirtual 209, 3) := by decide +kernel
theorem dX8_frameShare_57 : decode cX8_frameShare 57 = .ok (.ifCond .ne 12, 3) := by decide +kernel
theorem dX8_frameShare_60 : decode cX8_frameShare 60 = .ok (.aload_n 0, 1) := by decide +kernel
theorem dX8_frameShare_61 : decode cX8_frameShare 61 = .ok (.iconst 2, 1) := by decide +kernel
theorem dX8_frameShare_62 : decode cX8_frameShare 62 = .ok (.invokevirtual 172, 3) := by decide +kernel
theorem dX8_frameShare_65 : decode cX8_frameShare 65 = .ok (.i2f, 1) := by decide +kernel
theorem dX8_frameShare_66 : decode cX8_frameShare 66 = .ok (.goto 11, 3) := by decide +kernel
theorem dX8_frameShare_69 : decode cX8_frameShare 69 = .ok (.iload_n 2, 1) := by decide +kernel
theorem dX8_frameShare_70 : decode cX8_frameShare 70 = .ok (.i2f, 1) := by decide +kernel
theorem dX8_frameShare_71 : decode cX8_frameShare 71 = .ok (.aload_n 0, 1) := by decide +kernel
theorem dX8_frameShare_72 : decode cX8_frameShare 72 = .ok (.invokevirtual 209, 3) := by decide +kernel
theorem dX8_frameShare_75 : decode cX8_frameShare 75 = .ok (.i2f, 1) := by decide +kernel
theorem dX8_frameShare_76 : decode cX8_frameShare 76 = .ok (.fdiv, 1) := by decide +kernel
theorem dX8_frameShare_77 : decode cX8_frameShare 77 = .ok (.freturn, 1) := by decide +kernel
theorem dX8_meanRoute_0 : decode cX8_meanRoute 0 = .ok (.aload_n 0, 1) := by decide +kernel
theorem dX8_meanRoute_1 : decode cX8_meanRoute 1 = .ok (.iload_n 1, 1) := by decide +kernel
theorem dX8_meanRoute_2 : decode cX8_meanRoute 2 = .ok (.invokevirtual 228, 3) := by decide +kernel
theorem dX8_meanRoute_5 : decode cX8_meanRoute 5 = .ok (.ifCond .eq 5, 3) := by decide +kernel
theorem dX8_meanRoute_8 : decode cX8_meanRoute 8 = .ok (.dconst 0, 1) := by decide +kernel
theorem dX8_meanRoute_9 : decode cX8_meanRoute 9 = .ok (.dreturn, 1) := by decide +kernel
theorem dX8_meanRoute_10 : decode cX8_meanRoute 10 = .ok (.iconst 0, 1) := by decide +kernel
theorem dX8_meanRoute_11 : decode cX8_meanRoute 11 = .ok (.istore_n 2, 1) := by decide +kernel
theorem dX8_meanRoute_12 : decode cX8_meanRoute 12 = .ok (.iconst 0, 1) := by decide +kernel
theorem dX8_meanRoute_13 : decode cX8_meanRoute 13 = .ok (.istore_n 3, 1) := by decide +kernel
theorem dX8_meanRoute_14 : decode cX8_meanRoute 14 = .ok (.iconst 0, 1) := by decide +kernel
theorem dX8_meanRoute_15 : decode cX8_meanRoute 15 = .ok (.istore 4, 2) := by decide +kernel
theorem dX8_meanRoute_17 : decode cX8_meanRoute 17 = .ok (.iload 4, 2) := by decide +kernel
theorem dX8_meanRoute_19 : decode cX8_meanRoute 19 = .ok (.aload_n 0, 1) := by decide +kernel
theorem dX8_meanRoute_20 : decode cX8_meanRoute 20 = .ok (.getfield 122, 3) := by decide +kernel
theorem dX8_meanRoute_23 : decode cX8_meanRoute 23 = .ok (.if_icmp .ge 53, 3) := by decide +kernel
theorem dX8_meanRoute_26 : decode cX8_meanRoute 26 = .ok (.aload_n 0, 1) := by decide +kernel
theorem dX8_meanRoute_27 : decode cX8_meanRoute 27 = .ok (.iload 4, 2) := by decide +kernel
theorem dX8_meanRoute_29 : decode cX8_meanRoute 29 = .ok (.invokevirtual 135, 3) := by decide +kernel
theorem dX8_meanRoute_32 : decode cX8_meanRoute 32 = .ok (.ifCond .eq 12, 3) := by decide +kernel
theorem dX8_meanRoute_35 : decode cX8_meanRoute 35 = .ok (.aload_n 0, 1) := by decide +kernel
theorem dX8_meanRoute_36 : decode cX8_meanRoute 36 = .ok (.iload 4, 2) := by decide +kernel
theorem dX8_meanRoute_38 : decode cX8_meanRoute 38 = .ok (.invokevirtual 261, 3) := by decide +kernel
theorem dX8_meanRoute_41 : decode cX8_meanRoute 41 = .ok (.goto 5, 3) := by decide +kernel
theorem dX8_meanRoute_44 : decode cX8_meanRoute 44 = .ok (.ldc 251, 2) := by decide +kernel
theorem dX8_meanRoute_46 : decode cX8_meanRoute 46 = .ok (.istore 5, 2) := by decide +kernel
theorem dX8_meanRoute_48 : decode cX8_meanRoute 48 = .ok (.iload 5, 2) := by decide +kernel
theorem dX8_meanRoute_50 : decode cX8_meanRoute 50 = .ok (.ldc 251, 2) := by decide +kernel
theorem dX8_meanRoute_52 : decode cX8_meanRoute 52 = .ok (.if_icmp .ne 6, 3) := by decide +kernel
theorem dX8_meanRoute_55 : decode cX8_meanRoute 55 = .ok (.goto 15, 3) := by decide +kernel
theorem dX8_meanRoute_58 : decode cX8_meanRoute 58 = .ok (.iinc 2 1, 3) := by decide +kernel
theorem dX8_meanRoute_61 : decode cX8_meanRoute 61 = .ok (.iload_n 3, 1) := by decide +kernel
theorem dX8_meanRoute_62 : decode cX8_meanRoute 62 = .ok (.iload 5, 2) := by decide +kernel
theorem dX8_meanRoute_64 : decode cX8_meanRoute 64 = .ok (.sipush 1000, 3) := by decide +kernel
theorem dX8_meanRoute_67 : decode cX8_meanRoute 67 = .ok (.irem, 1) := by decide +kernel
theorem dX8_meanRoute_68 : decode cX8_meanRoute 68 = .ok (.iadd, 1) := by decide +kernel
theorem dX8_meanRoute_69 : decode cX8_meanRoute 69 = .ok (.istore_n 3, 1) := by decide +kernel
theorem dX8_meanRoute_70 : decode cX8_meanRoute 70 = .ok (.iinc 4 1, 3) := by decide +kernel
theorem dX8_meanRoute_73 : decode cX8_meanRoute 73 = .ok (.goto (-56), 3) := by decide +kernel
theorem dX8_meanRoute_76 : decode cX8_meanRoute 76 = .ok (.iload_n 2, 1) := by decide +kernel
theorem dX8_meanRoute_77 : decode cX8_meanRoute 77 = .ok (.ifCond .ne 12, 3) := by decide +kernel
theorem dX8_meanRoute_80 : decode cX8_meanRoute 80 = .ok (.aload_n 0, 1) := by decide +kernel
theorem dX8_meanRoute_81 : decode cX8_meanRoute 81 = .ok (.iconst 2, 1) := by decide +kernel
theorem dX8_meanRoute_82 : decode cX8_meanRoute 82 = .ok (.invokevirtual 172, 3) := by decide +kernel
theorem dX8_meanRoute_85 : decode cX8_meanRoute 85 = .ok (.i2d, 1) := by decide +kernel
theorem dX8_meanRoute_86 : decode cX8_meanRoute 86 = .ok (.goto 8, 3) := by decide +kernel
theorem dX8_meanRoute_89 : decode cX8_meanRoute 89 = .ok (.iload_n 3, 1) := by decide +kernel
theorem dX8_meanRoute_90 : decode cX8_meanRoute 90 = .ok (.i2d, 1) := by decide +kernel
theorem dX8_meanRoute_91 : decode cX8_meanRoute 91 = .ok (.iload_n 2, 1) := by decide +kernel
theorem dX8_meanRoute_92 : decode cX8_meanRoute 92 = .ok (.i2d, 1) := by decide +kernel
theorem dX8_meanRoute_93 : decode cX8_meanRoute 93 = .ok (.ddiv, 1) := by decide +kernel
theorem dX8_meanRoute_94 : decode cX8_meanRoute 94 = .ok (.dreturn, 1) := by decide +kernel
theorem dX8_area_0 : decode cX8_area 0 = .ok (.aload_n 0, 1) := by decide +kernel
theorem dX8_area_1 : decode cX8_area 1 = .ok (.iload_n 1, 1) := by decide +kernel
theorem dX8_area_2 : decode cX8_area 2 = .ok (.invokevirtual 228, 3) := by decide +kernel
theorem dX8_area_5 : decode cX8_area 5 = .ok (.ifCond .eq 5, 3) := by decide +kernel
theorem dX8_area_8 : decode cX8_area 8 = .ok (.lconst 0, 1) := by decide +kernel
theorem dX8_area_9 : decode cX8_area 9 = .ok (.lreturn, 1) := by decide +kernel
theorem dX8_area_10 : decode cX8_area 10 = .ok (.lconst 0, 1) := by decide +kernel
theorem dX8_area_11 : decode cX8_area 11 = .ok (.lstore_n 2, 1) := by decide +kernel
theorem dX8_area_12 : decode cX8_area 12 = .ok (.iconst 0, 1) := by decide +kernel
theorem dX8_area_13 : decode cX8_area 13 = .ok (.istore 4, 2) := by decide +kernel
theorem dX8_area_15 : decode cX8_area 15 = .ok (.iload 4, 2) := by decide +kernel
theorem dX8_area_17 : decode cX8_area 17 = .ok (.aload_n 0, 1) := by decide +kernel
theorem dX8_area_18 : decode cX8_area 18 = .ok (.getfield 119, 3) := by decide +kernel
theorem dX8_area_21 : decode cX8_area 21 = .ok (.if_icmp .ge 41, 3) := by decide +kernel
theorem dX8_area_24 : decode cX8_area 24 = .ok (.lload_n 2, 1) := by decide +kernel
theorem dX8_area_25 : decode cX8_area 25 = .ok (.aload_n 0, 1) := by decide +kernel
theorem dX8_area_26 : decode cX8_area 26 = .ok (.iload 4, 2) := by decide +kernel
theorem dX8_area_28 : decode cX8_area 28 = .ok (.invokevirtual 125, 3) := by decide +kernel
theorem dX8_area_31 : decode cX8_area 31 = .ok (.ifCond .eq 22, 3) := by decide +kernel
theorem dX8_area_34 : decode cX8_area 34 = .ok (.aload_n 0, 1) := by decide +kernel
theorem dX8_area_35 : decode cX8_area 35 = .ok (.getfield 9, 3) := by decide +kernel
theorem dX8_area_38 : decode cX8_area 38 = .ok (.iload 4, 2) := by decide +kernel
theorem dX8_area_40 : decode cX8_area 40 = .ok (.iaload, 1) := by decide +kernel
theorem dX8_area_41 : decode cX8_area 41 = .ok (.aload_n 0, 1) := by decide +kernel
theorem dX8_area_42 : decode cX8_area 42 = .ok (.getfield 13, 3) := by decide +kernel
theorem dX8_area_45 : decode cX8_area 45 = .ok (.iload 4, 2) := by decide +kernel
theorem dX8_area_47 : decode cX8_area 47 = .ok (.iaload, 1) := by decide +kernel
theorem dX8_area_48 : decode cX8_area 48 = .ok (.imul, 1) := by decide +kernel
theorem dX8_area_49 : decode cX8_area 49 = .ok (.i2l, 1) := by decide +kernel
theorem dX8_area_50 : decode cX8_area 50 = .ok (.goto 4, 3) := by decide +kernel
theorem dX8_area_53 : decode cX8_area 53 = .ok (.lconst 0, 1) := by decide +kernel
theorem dX8_area_54 : decode cX8_area 54 = .ok (.ladd, 1) := by decide +kernel
theorem dX8_area_55 : decode cX8_area 55 = .ok (.lstore_n 2, 1) := by decide +kernel
theorem dX8_area_56 : decode cX8_area 56 = .ok (.iinc 4 1, 3) := by decide +kernel
theorem dX8_area_59 : decode cX8_area 59 = .ok (.goto (-44), 3) := by decide +kernel
theorem dX8_area_62 : decode cX8_area 62 = .ok (.lload_n 2, 1) := by decide +kernel
theorem dX8_area_63 : decode cX8_area 63 = .ok (.lreturn, 1) := by decide +kernel
