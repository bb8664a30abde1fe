theorem dX8_addShape_35 : decode cX8_addShape 35 = .ok (.iload_n 2, 1) := by decide +kernel
theorem dX8_addShape_36 : decode cX8_addShape 36 = .ok (.iload_n 3, 1) := by decide +kernel
theorem dX8_addShape_37 : decode cX8_addShape 37 = .ok (.iload 4, 2) := by decide +kernel
theorem dX8_addShape_39 : decode cX8_addShape 39 = .ok (.iload 5, 2) := by decide +kernel
theorem dX8_addShape_41 : decode cX8_addShape 41 = .ok (.invokevirtual 168, 3) := by decide +kernel
theorem dX8_addShape_44 : decode cX8_addShape 44 = .ok (.ifCond .ne 9, 3) := by decide +kernel
theorem dX8_addShape_47 : decode cX8_addShape 47 = .ok (.aload_n 0, 1) := by decide +kernel
theorem dX8_addShape_48 : decode cX8_addShape 48 = .ok (.iconst 1, 1) := by decide +kernel
theorem dX8_addShape_49 : decode cX8_addShape 49 = .ok (.invokevirtual 172, 3) := by decide +kernel
theorem dX8_addShape_52 : decode cX8_addShape 52 = .ok (.ireturn, 1) := by decide +kernel
theorem dX8_addShape_53 : decode cX8_addShape 53 = .ok (.aload_n 0, 1) := by decide +kernel
theorem dX8_addShape_54 : decode cX8_addShape 54 = .ok (.getfield 119, 3) := by decide +kernel
theorem dX8_addShape_57 : decode cX8_addShape 57 = .ok (.bipush 12, 2) := by decide +kernel
theorem dX8_addShape_59 : decode cX8_addShape 59 = .ok (.if_icmp .eq 13, 3) := by decide +kernel
theorem dX8_addShape_62 : decode cX8_addShape 62 = .ok (.aload_n 0, 1) := by decide +kernel
theorem dX8_addShape_63 : decode cX8_addShape 63 = .ok (.getfield 108, 3) := by decide +kernel
theorem dX8_addShape_66 : decode cX8_addShape 66 = .ok (.sipush 250, 3) := by decide +kernel
theorem dX8_addShape_69 : decode cX8_addShape 69 = .ok (.if_icmp .ne 9, 3) := by decide +kernel
theorem dX8_addShape_72 : decode cX8_addShape 72 = .ok (.aload_n 0, 1) := by decide +kernel
theorem dX8_addShape_73 : decode cX8_addShape 73 = .ok (.iconst 2, 1) := by decide +kernel
theorem dX8_addShape_74 : decode cX8_addShape 74 = .ok (.invokevirtual 172, 3) := by decide +kernel
theorem dX8_addShape_77 : decode cX8_addShape 77 = .ok (.ireturn, 1) := by decide +kernel
theorem dX8_addShape_78 : decode cX8_addShape 78 = .ok (.aload_n 0, 1) := by decide +kernel
theorem dX8_addShape_79 : decode cX8_addShape 79 = .ok (.iload_n 1, 1) := by decide +kernel
theorem dX8_addShape_80 : decode cX8_addShape 80 = .ok (.invokevirtual 161, 3) := by decide +kernel
theorem dX8_addShape_83 : decode cX8_addShape 83 = .ok (.aload_n 0, 1) := by decide +kernel
theorem dX8_addShape_84 : decode cX8_addShape 84 = .ok (.invokevirtual 175, 3) := by decide +kernel
theorem dX8_addShape_87 : decode cX8_addShape 87 = .ok (.ifCond .ge 7, 3) := by decide +kernel
theorem dX8_addShape_90 : decode cX8_addShape 90 = .ok (.fconst 0, 1) := by decide +kernel
theorem dX8_addShape_91 : decode cX8_addShape 91 = .ok (.goto 13, 3) := by decide +kernel
theorem dX8_addShape_94 : decode cX8_addShape 94 = .ok (.aload_n 0, 1) := by decide +kernel
theorem dX8_addShape_95 : decode cX8_addShape 95 = .ok (.aload_n 0, 1) := by decide +kernel
theorem dX8_addShape_96 : decode cX8_addShape 96 = .ok (.invokevirtual 175, 3) := by decide +kernel
theorem dX8_addShape_99 : decode cX8_addShape 99 = .ok (.invokevirtual 138, 3) := by decide +kernel
theorem dX8_addShape_102 : decode cX8_addShape 102 = .ok (.fconst 1, 1) := by decide +kernel
theorem dX8_addShape_103 : decode cX8_addShape 103 = .ok (.fadd, 1) := by decide +kernel
theorem dX8_addShape_104 : decode cX8_addShape 104 = .ok (.fstore 7, 2) := by decide +kernel
theorem dX8_addShape_106 : decode cX8_addShape 106 = .ok (.aload_n 0, 1) := by decide +kernel
theorem dX8_addShape_107 : decode cX8_addShape 107 = .ok (.getfield 9, 3) := by decide +kernel
theorem dX8_addShape_110 : decode cX8_addShape 110 = .ok (.aload_n 0, 1) := by decide +kernel
theorem dX8_addShape_111 : decode cX8_addShape 111 = .ok (.getfield 119, 3) := by decide +kernel
theorem dX8_addShape_114 : decode cX8_addShape 114 = .ok (.iload 4, 2) := by decide +kernel
theorem dX8_addShape_116 : decode cX8_addShape 116 = .ok (.iastore, 1) := by decide +kernel
theorem dX8_addShape_117 : decode cX8_addShape 117 = .ok (.aload_n 0, 1) := by decide +kernel
theorem dX8_addShape_118 : decode cX8_addShape 118 = .ok (.getfield 13, 3) := by decide +kernel
theorem dX8_addShape_121 : decode cX8_addShape 121 = .ok (.aload_n 0, 1) := by decide +kernel
theorem dX8_addShape_122 : decode cX8_addShape 122 = .ok (.getfield 119, 3) := by decide +kernel
theorem dX8_addShape_125 : decode cX8_addShape 125 = .ok (.iload 5, 2) := by decide +kernel
theorem dX8_addShape_127 : decode cX8_addShape 127 = .ok (.iastore, 1) := by decide +kernel
theorem dX8_addShape_128 : decode cX8_addShape 128 = .ok (.aload_n 0, 1) := by decide +kernel
theorem dX8_addShape_129 : decode cX8_addShape 129 = .ok (.getfield 22, 3) := by decide +kernel
theorem dX8_addShape_132 : decode cX8_addShape 132 = .ok (.aload_n 0, 1) := by decide +kernel
theorem dX8_addShape_133 : decode cX8_addShape 133 = .ok (.getfield 119, 3) := by decide +kernel
theorem dX8_addShape_136 : decode cX8_addShape 136 = .ok (.iload 6, 2) := by decide +kernel
theorem dX8_addShape_138 : decode cX8_addShape 138 = .ok (.bastore, 1) := by decide +kernel
theorem dX8_addShape_139 : decode cX8_addShape 139 = .ok (.aload_n 0, 1) := by decide +kernel
theorem dX8_addShape_140 : decode cX8_addShape 140 = .ok (.aload_n 0, 1) := by decide +kernel
theorem dX8_addShape_141 : decode cX8_addShape 141 = .ok (.getfield 119, 3) := by decide +kernel
theorem dX8_addShape_144 : decode cX8_addShape 144 = .ok (.iconst 1, 1) := by decide +kernel
theorem dX8_addShape_145 : decode cX8_addShape 145 = .ok (.invokevirtual 179, 3) := by decide +kernel
theorem dX8_addShape_148 : decode cX8_addShape 148 = .ok (.aload_n 0, 1) := by decide +kernel
theorem dX8_addShape_149 : decode cX8_addShape 149 = .ok (.bipush 12, 2) := by decide +kernel
theorem dX8_addShape_151 : decode cX8_addShape 151 = .ok (.aload_n 0, 1) := by decide +kernel
theorem dX8_addShape_152 : decode cX8_addShape 152 = .ok (.getfield 119, 3) := by decide +kernel
theorem dX8_addShape_155 : decode cX8_addShape 155 = .ok (.iadd, 1) := by decide +kernel
theorem dX8_addShape_156 : decode cX8_addShape 156 = .ok (.bipush 32, 2) := by decide +kernel
theorem dX8_addShape_158 : decode cX8_addShape 158 = .ok (.iload_n 2, 1) := by decide +kernel
theorem dX8_addShape_159 : decode cX8_addShape 159 = .ok (.imul, 1) := by decide +kernel
theorem dX8_addShape_160 : decode cX8_addShape 160 = .ok (.iload_n 3, 1) := by decide +kernel
theorem dX8_addShape_161 : decode cX8_addShape 161 = .ok (.iadd, 1) := by decide +kernel
theorem dX8_addShape_162 : decode cX8_addShape 162 = .ok (.invokevirtual 179, 3) := by decide +kernel
theorem dX8_addShape_165 : decode cX8_addShape 165 = .ok (.aload_n 0, 1) := by decide +kernel
theorem dX8_addShape_166 : decode cX8_addShape 166 = .ok (.bipush 24, 2) := by decide +kernel
theorem dX8_addShape_168 : decode cX8_addShape 168 = .ok (.aload_n 0, 1) := by decide +kernel
theorem dX8_addShape_169 : decode cX8_addShape 169 = .ok (.getfield 119, 3) := by decide +kernel
theorem dX8_addShape_172 : decode cX8_addShape 172 = .ok (.iadd, 1) := by decide +kernel
theorem dX8_addShape_173 : decode cX8_addShape 173 = .ok (.fload 7, 2) := by decide +kernel
theorem dX8_addShape_175 : decode cX8_addShape 175 = .ok (.invokestatic 182, 3) := by decide +kernel
theorem dX8_addShape_178 : decode cX8_addShape 178 = .ok (.invokevirtual 179, 3) := by decide +kernel
theorem dX8_addShape_181 : decode cX8_addShape 181 = .ok (.aload_n 0, 1) := by decide +kernel
theorem dX8_addShape_182 : decode cX8_addShape 182 = .ok (.dup, 1) := by decide +kernel
theorem dX8_addShape_183 : decode cX8_addShape 183 = .ok (.getfield 119, 3) := by decide +kernel
theorem dX8_addShape_186 : decode cX8_addShape 186 = .ok (.iconst 1, 1) := by decide +kernel
theorem dX8_addShape_187 : decode cX8_addShape 187 = .ok (.iadd, 1) := by decide +kernel
theorem dX8_addShape_188 : decode cX8_addShape 188 = .ok (.putfield 119, 3) := by decide +kernel
theorem dX8_addShape_191 : decode cX8_addShape 191 = .ok (.aload_n 0, 1) := by decide +kernel
theorem dX8_addShape_192 : decode cX8_addShape 192 = .ok (.iload_n 1, 1) := by decide +kernel
theorem dX8_addShape_193 : decode cX8_addShape 193 = .ok (.iconst 1, 1) := by decide +kernel
theorem dX8_addShape_194 : decode cX8_addShape 194 = .ok (.invokevirtual 186, 3) := by decide +kernel
theorem dX8_addShape_197 : decode cX8_addShape 197 = .ok (.aload_n 0, 1) := by decide +kernel
theorem dX8_addShape_198 : decode cX8_addShape 198 = .ok (.getfield 119, 3) := by decide +kernel
theorem dX8_addShape_201 : decode cX8_addShape 201 = .ok (.iconst 1, 1) := by decide +kernel
theorem dX8_addShape_202 : decode cX8_addShape 202 = .ok (.isub, 1) := by decide +kernel
theorem dX8_addShape_203 : decode cX8_addShape 203 = .ok (.ireturn, 1) := by decide +kernel
theorem dX8_bar_0 : decode cX8_bar 0 = .ok (.aload_n 0, 1) := by decide +kernel
theorem dX8_bar_1 : decode cX8_bar 1 = .ok (.iload_n 1, 1) := by decide +kernel
theorem dX8_bar_2 : decode cX8_bar 2 = .ok (.invokevirtual 161, 3) := by decide +kernel
theorem dX8_bar_5 : decode cX8_bar 5 = .ok (.aload_n 0, 1) := by decide +kernel
theorem dX8_bar_6 : decode cX8_bar 6 = .ok (.iload_n 2, 1) := by decide +kernel
theorem dX8_bar_7 : decode cX8_bar 7 = .ok (.invokevirtual 125, 3) := by decide +kernel
theorem dX8_bar_10 : decode cX8_bar 10 = .ok (.ifCond .ne 5, 3) := by decide +kernel
theorem dX8_bar_13 : decode cX8_bar 13 = .ok (.iconst 2, 1) := by decide +kernel
theorem dX8_bar_14 : decode cX8_bar 14 = .ok (.ireturn, 1) := by decide +kernel
theorem dX8_bar_15 : decode cX8_bar 15 = .ok (.aload_n 0, 1) := by decide +kernel
theorem dX8_bar_16 : decode cX8_bar 16 = .ok (.iload_n 1, 1) := by decide +kernel
theorem dX8_bar_17 : decode cX8_bar 17 = .ok (.iload_n 2, 1) := by decide +kernel
theorem dX8_bar_18 : decode cX8_bar 18 = .ok (.invokevirtual 190, 3) := by decide +kernel
theorem dX8_bar_21 : decode cX8_bar 21 = .ok (.ifCond .eq 5, 3) := by decide +kernel
theorem dX8_bar_24 : decode cX8_bar 24 = .ok (.iconst 3, 1) := by decide +kernel
theorem dX8_bar_25 : decode cX8_bar 25 = .ok (.ireturn, 1) := by decide +kernel
theorem dX8_bar_26 : decode cX8_bar 26 = .ok (.aload_n 0, 1) := by decide +kernel
theorem dX8_bar_27 : decode cX8_bar 27 = .ok (.getfield 108, 3) := by decide +kernel
theorem dX8_bar_30 : decode cX8_bar 30 = .ok (.sipush 250, 3) := by decide +kernel
theorem dX8_bar_33 : decode cX8_bar 33 = .ok (.if_icmp .ne 7, 3) := by decide +kernel
theorem dX8_bar_36 : decode cX8_bar 36 = .ok (.iconst 4, 1) := by decide +kernel
theorem dX8_bar_37 : decode cX8_bar 37 = .ok (.goto 4, 3) := by decide +kernel
theorem dX8_bar_40 : decode cX8_bar 40 = .ok (.iconst 0, 1) := by decide +kernel
theorem dX8_bar_41 : decode cX8_bar 41 = .ok (.ireturn, 1) := by decide +kernel
theorem dX8_move_0 : decode cX8_move 0 = .ok (.aload_n 0, 1) := by decide +kernel
theorem dX8_move_1 : decode cX8_move 1 = .ok (.iconst 0, 1) := by decide +kernel
theorem dX8_move_2 : decode cX8_move 2 = .ok (.putfield 97, 3) := by decide +kernel
theorem dX8_move_5 : decode cX8_move 5 = .ok (.iload_n 2, 1) := by decide +kernel
theorem dX8_move_6 : decode cX8_move 6 = .ok (.iconst 0, 1) := by decide +kernel
theorem dX8_move_7 : decode cX8_move 7 = .ok (.aload_n 0, 1) := by decide +kernel
theorem dX8_move_8 : decode cX8_move 8 = .ok (.getfield 119, 3) := by decide +kernel
theorem dX8_move_11 : decode cX8_move 11 = .ok (.iconst 1, 1) := by decide +kernel
theorem dX8_move_12 : decode cX8_move 12 = .ok (.isub, 1) := by decide +kernel
theorem dX8_move_13 : decode cX8_move 13 = .ok (.invokestatic 101, 3) := by decide +kernel
theorem dX8_move_16 : decode cX8_move 16 = .ok (.istore 5, 2) := by decide +kernel
theorem dX8_move_18 : decode cX8_move 18 = .ok (.iload_n 1, 1) := by decide +kernel
theorem dX8_move_19 : decode cX8_move 19 = .ok (.invokestatic 165, 3) := by decide +kernel
theorem dX8_move_22 : decode cX8_move 22 = .ok (.ifCond .eq 30, 3) := by decide +kernel
theorem dX8_move_25 : decode cX8_move 25 = .ok (.iload 5, 2) := by decide +kernel
theorem dX8_move_27 : decode cX8_move 27 = .ok (.ifCond .eq 31, 3) := by decide +kernel
theorem dX8_move_30 : decode cX8_move 30 = .ok (.aload_n 0, 1) := by decide +kernel
theorem dX8_move_31 : decode cX8_move 31 = .ok (.iload_n 3, 1) := by decide +kernel
theorem dX8_move_32 : decode cX8_move 32 = .ok (.iload 4, 2) := by decide +kernel
theorem dX8_move_34 : decode cX8_move 34 = .ok (.aload_n 0, 1) := by decide +kernel
theorem dX8_move_35 : decode cX8_move 35 = .ok (.getfield 9, 3) := by decide +kernel
theorem dX8_move_38 : decode cX8_move 38 = .ok (.iload_n 2, 1) := by decide +kernel
theorem dX8_move_39 : decode cX8_move 39 = .ok (.iaload, 1) := by decide +kernel
theorem dX8_move_40 : decode cX8_move 40 = .ok (.aload_n 0, 1) := by decide +kernel
theorem dX8_move_41 : decode cX8_move 41 = .ok (.getfield 13, 3) := by decide +kernel
theorem dX8_move_44 : decode cX8_move 44 = .ok (.iload_n 2, 1) := by decide +kernel
theorem dX8_move_45 : decode cX8_move 45 = .ok (.iaload, 1) := by decide +kernel
theorem dX8_move_46 : decode cX8_move 46 = .ok (.invokevirtual 168, 3) := by decide +kernel
theorem dX8_move_49 : decode cX8_move 49 = .ok (.ifCond .ne 9, 3) := by decide +kernel
theorem dX8_move_52 : decode cX8_move 52 = .ok (.aload_n 0, 1) := by decide +kernel
theorem dX8_move_53 : decode cX8_move 53 = .ok (.iconst 1, 1) := by decide +kernel
theorem dX8_move_54 : decode cX8_move 54 = .ok (.invokevirtual 172, 3) := by decide +kernel
theorem dX8_move_57 : decode cX8_move 57 = .ok (.ireturn, 1) := by decide +kernel
theorem dX8_move_58 : decode cX8_move 58 = .ok (.aload_n 0, 1) := by decide +kernel
theorem dX8_move_59 : decode cX8_move 59 = .ok (.aload_n 0, 1) := by decide +kernel
theorem dX8_move_60 : decode cX8_move 60 = .ok (.iload_n 1, 1) := by decide +kernel
theorem dX8_move_61 : decode cX8_move 61 = .ok (.iload_n 2, 1) := by decide +kernel
theorem dX8_move_62 : decode cX8_move 62 = .ok (.invokevirtual 193, 3) := by decide +kernel
theorem dX8_move_65 : decode cX8_move 65 = .ok (.putfield 97, 3) := by decide +kernel
theorem dX8_move_68 : decode cX8_move 68 = .ok (.aload_n 0, 1) := by decide +kernel
theorem dX8_move_69 : decode cX8_move 69 = .ok (.getfield 97, 3) := by decide +kernel
theorem dX8_move_72 : decode cX8_move 72 = .ok (.ifCond .le 5, 3) := by decide +kernel
theorem dX8_move_75 : decode cX8_move 75 = .ok (.iconst 0, 1) := by decide +kernel
theorem dX8_move_76 : decode cX8_move 76 = .ok (.ireturn, 1) := by decide +kernel
theorem dX8_move_77 : decode cX8_move 77 = .ok (.iload_n 3, 1) := by decide +kernel
theorem dX8_move_78 : decode cX8_move 78 = .ok (.aload_n 0, 1) := by decide +kernel
theorem dX8_move_79 : decode cX8_move 79 = .ok (.iload_n 2, 1) := by decide +kernel
theorem dX8_move_80 : decode cX8_move 80 = .ok (.invokevirtual 141, 3) := by decide +kernel
theorem dX8_move_83 : decode cX8_move 83 = .ok (.isub, 1) := by decide +kernel
theorem dX8_move_84 : decode cX8_move 84 = .ok (.istore 6, 2) := by decide +kernel
theorem dX8_move_86 : decode cX8_move 86 = .ok (.iload 4, 2) := by decide +kernel
theorem dX8_move_88 : decode cX8_move 88 = .ok (.aload_n 0, 1) := by decide +kernel
theorem dX8_move_89 : decode cX8_move 89 = .ok (.iload_n 2, 1) := by decide +kernel
theorem dX8_move_90 : decode cX8_move 90 = .ok (.invokevirtual 145, 3) := by decide +kernel
theorem dX8_move_93 : decode cX8_move 93 = .ok (.isub, 1) := by decide +kernel
theorem dX8_move_94 : decode cX8_move 94 = .ok (.istore 7, 2) := by decide +kernel
theorem dX8_move_96 : decode cX8_move 96 = .ok (.iconst 0, 1) := by decide +kernel
theorem dX8_move_97 : decode cX8_move 97 = .ok (.istore 8, 2) := by decide +kernel
theorem dX8_move_99 : decode cX8_move 99 = .ok (.iconst 0, 1) := by decide +kernel
theorem dX8_move_100 : decode cX8_move 100 = .ok (.istore 9, 2) := by decide +kernel
theorem dX8_move_102 : decode cX8_move 102 = .ok (.iload 9, 2) := by decide +kernel
theorem dX8_move_104 : decode cX8_move 104 = .ok (.aload_n 0, 1) := by decide +kernel
theorem dX8_move_105 : decode cX8_move 105 = .ok (.getfield 119, 3) := by decide +kernel
theorem dX8_move_108 : decode cX8_move 108 = .ok (.if_icmp .ge 108, 3) := by decide +kernel
theorem dX8_move_111 : decode cX8_move 111 = .ok (.iload 9, 2) := by decide +kernel
theorem dX8_move_113 : decode cX8_move 113 = .ok (.iload_n 2, 1) := by decide +kernel
theorem dX8_move_114 : decode cX8_move 114 = .ok (.if_icmp .eq 45, 3) := by decide +kernel
theorem dX8_move_117 : decode cX8_move 117 = .ok (.aload_n 0, 1) := by decide +kernel
theorem dX8_move_118 : decode cX8_move 118 = .ok (.getfield 22, 3) := by decide +kernel
theorem dX8_move_121 : decode cX8_move 121 = .ok (.iload_n 2, 1) := by decide +kernel
theorem dX8_move_122 : decode cX8_move 122 = .ok (.baload, 1) := by decide +kernel
theorem dX8_move_123 : decode cX8_move 123 = .ok (.ifCond .eq 36, 3) := by decide +kernel
theorem dX8_move_126 : decode cX8_move 126 = .ok (.aload_n 0, 1) := by decide +kernel
theorem dX8_move_127 : decode cX8_move 127 = .ok (.iload 9, 2) := by decide +kernel
theorem dX8_move_129 : decode cX8_move 129 = .ok (.invokevirtual 125, 3) := by decide +kernel
theorem dX8_move_132 : decode cX8_move 132 = .ok (.ifCond .eq 27, 3) := by decide +kernel
theorem dX8_move_135 : decode cX8_move 135 = .ok (.aload_n 0, 1) := by decide +kernel
theorem dX8_move_136 : decode cX8_move 136 = .ok (.iload 9, 2) := by decide +kernel
theorem dX8_move_138 : decode cX8_move 138 = .ok (.iload_n 2, 1) := by decide +kernel
theorem dX8_move_139 : decode cX8_move 139 = .ok (.invokevirtual 196, 3) := by decide +kernel
theorem dX8_move_142 : decode cX8_move 142 = .ok (.ifCond .eq 17, 3) := by decide +kernel
theorem dX8_move_145 : decode cX8_move 145 = .ok (.aload_n 0, 1) := by decide +kernel
theorem dX8_move_146 : decode cX8_move 146 = .ok (.iload_n 1, 1) := by decide +kernel
theorem dX8_move_147 : decode cX8_move 147 = .ok (.iload 9, 2) := by decide +kernel
theorem dX8_move_149 : decode cX8_move 149 = .ok (.invokevirtual 190, 3) := by decide +kernel
theorem dX8_move_152 : decode cX8_move 152 = .ok (.ifCond .ne 7, 3) := by decide +kernel
theorem dX8_move_155 : decode cX8_move 155 = .ok (.iconst 1, 1) := by decide +kernel
theorem dX8_move_156 : decode cX8_move 156 = .ok (.goto 4, 3) := by decide +kernel
theorem dX8_move_159 : decode cX8_move 159 = .ok (.iconst 0, 1) := by decide +kernel
theorem dX8_move_160 : decode cX8_move 160 = .ok (.istore 10, 2) := by decide +kernel
theorem dX8_move_162 : decode cX8_move 162 = .ok (.iload 9, 2) := by decide +kernel
theorem dX8_move_164 : decode cX8_move 164 = .ok (.iload_n 2, 1) := by decide +kernel
theorem dX8_move_165 : decode cX8_move 165 = .ok (.if_icmp .eq 11, 3) := by decide +kernel
theorem dX8_move_168 : decode cX8_move 168 = .ok (.iload 10, 2) := by decide +kernel
theorem dX8_move_170 : decode cX8_move 170 = .ok (.ifCond .ne 6, 3) := by decide +kernel
theorem dX8_move_173 : decode cX8_move 173 = .ok (.goto 37, 3) := by decide +kernel
theorem dX8_move_176 : decode cX8_move 176 = .ok (.aload_n 0, 1) := by decide +kernel
theorem dX8_move_177 : decode cX8_move 177 = .ok (.bipush 12, 2) := by decide +kernel
theorem dX8_move_179 : decode cX8_move 179 = .ok (.iload 9, 2) := by decide +kernel
theorem dX8_move_181 : decode cX8_move 181 = .ok (.iadd, 1) := by decide +kernel
theorem dX8_move_182 : decode cX8_move 182 = .ok (.bipush 32, 2) := by decide +kernel
theorem dX8_move_184 : decode cX8_move 184 = .ok (.aload_n 0, 1) := by decide +kernel
theorem dX8_move_185 : decode cX8_move 185 = .ok (.iload 9, 2) := by decide +kernel
theorem dX8_move_187 : decode cX8_move 187 = .ok (.invokevirtual 141, 3) := by decide +kernel
theorem dX8_move_190 : decode cX8_move 190 = .ok (.iload 6, 2) := by decide +kernel
theorem dX8_move_192 : decode cX8_move 192 = .ok (.iadd, 1) := by decide +kernel
theorem dX8_move_193 : decode cX8_move 193 = .ok (.imul, 1) := by decide +kernel
theorem dX8_move_194 : decode cX8_move 194 = .ok (.aload_n 0, 1) := by decide +kernel
theorem dX8_move_195 : decode cX8_move 195 = .ok (.iload 9, 2) := by decide +kernel
theorem dX8_move_197 : decode cX8_move 197 = .ok (.invokevirtual 145, 3) := by decide +kernel
theorem dX8_move_200 : decode cX8_move 200 = .ok (.iadd, 1) := by decide +kernel
theorem dX8_move_201 : decode cX8_move 201 = .ok (.iload 7, 2) := by decide +kernel
theorem dX8_move_203 : decode cX8_move 203 = .ok (.iadd, 1) := by decide +kernel
theorem dX8_move_204 : decode cX8_move 204 = .ok (.invokevirtual 179, 3) := by decide +kernel
theorem dX8_move_207 : decode cX8_move 207 = .ok (.iinc 8 1, 3) := by decide +kernel
theorem dX8_move_210 : decode cX8_move 210 = .ok (.iinc 9 1, 3) := by decide +kernel
theorem dX8_move_213 : decode cX8_move 213 = .ok (.goto (-111), 3) := by decide +kernel
theorem dX8_move_216 : decode cX8_move 216 = .ok (.aload_n 0, 1) := by decide +kernel
theorem dX8_move_217 : decode cX8_move 217 = .ok (.iload_n 1, 1) := by decide +kernel
theorem dX8_move_218 : decode cX8_move 218 = .ok (.iconst 1, 1) := by decide +kernel
theorem dX8_move_219 : decode cX8_move 219 = .ok (.invokevirtual 186, 3) := by decide +kernel
theorem dX8_move_222 : decode cX8_move 222 = .ok (.iload 8, 2) := by decide +kernel
theorem dX8_move_224 : decode cX8_move 224 = .ok (.ireturn, 1) := by decide +kernel
theorem dX8_keys_0 : decode cX8_keys 0 = .ok (.aload_n 0, 1) := by decide +kernel
theorem dX8_keys_1 : decode cX8_keys 1 = .ok (.bipush 24, 2) := by decide +kernel
theorem dX8_keys_3 : decode cX8_keys 3 = .ok (.iload_n 2, 1) := by decide +kernel
theorem dX8_keys_4 : decode cX8_keys 4 = .ok (.iadd, 1) := by decide +kernel
theorem dX8_keys_5 : decode cX8_keys 5 = .ok (.fload_n 3, 1) := by decide +kernel
theorem dX8_keys_6 : decode cX8_keys 6 = .ok (.invokestatic 182, 3) := by decide +kernel
theorem dX8_keys_9 : decode cX8_keys 9 = .ok (.invokevirtual 179, 3) := by decide +kernel
theorem dX8_keys_12 : decode cX8_keys 12 = .ok (.aload_n 0, 1) := by decide +kernel
theorem dX8_keys_13 : decode cX8_keys 13 = .ok (.iload_n 1, 1) := by decide +kernel
theorem dX8_keys_14 : decode cX8_keys 14 = .ok (.iconst 1, 1) := by decide +kernel
theorem dX8_keys_15 : decode cX8_keys 15 = .ok (.invokevirtual 186, 3) := by decide +kernel
theorem dX8_keys_18 : decode cX8_keys 18 = .ok (.aload_n 0, 1) := by decide +kernel
theorem dX8_keys_19 : decode cX8_keys 19 = .ok (.iload_n 2, 1) := by decide +kernel
theorem dX8_keys_20 : decode cX8_keys 20 = .ok (.invokevirtual 199, 3) := by decide +kernel
theorem dX8_keys_23 : decode cX8_keys 23 = .ok (.ireturn, 1) := by decide +kernel
theorem dX8_raise_0 : decode cX8_raise 0 = .ok (.aload_n 0, 1) := by decide +kernel
theorem dX8_raise_1 : decode cX8_raise 1 = .ok (.iload_n 1, 1) := by decide +kernel
theorem dX8_raise_2 : decode cX8_raise 2 = .ok (.invokestatic 165, 3) := by decide +kernel
theorem dX8_raise_5 : decode cX8_raise 5 = .ok (.ifCond .eq 12, 3) := by decide +kernel
theorem dX8_raise_8 : decode cX8_raise 8 = .ok (.aload_n 0, 1) := by decide +kernel
theorem dX8_raise_9 : decode cX8_raise 9 = .ok (.iload_n 1, 1) := by decide +kernel
theorem dX8_raise_10 : decode cX8_raise 10 = .ok (.iload_n 2, 1) := by decide +kernel
theorem dX8_raise_11 : decode cX8_raise 11 = .ok (.invokevirtual 193, 3) := by decide +kernel
theorem dX8_raise_14 : decode cX8_raise 14 = .ok (.goto 4, 3) := by decide +kernel
theorem dX8_raise_17 : decode cX8_raise 17 = .ok (.iconst 1, 1) := by decide +kernel
theorem dX8_raise_18 : decode cX8_raise 18 = .ok (.putfield 97, 3) := by decide +kernel
theorem dX8_raise_21 : decode cX8_raise 21 = .ok (.aload_n 0, 1) := by decide +kernel
theorem dX8_raise_22 : decode cX8_raise 22 = .ok (.getfield 97, 3) := by decide +kernel
theorem dX8_raise_25 : decode cX8_raise 25 = .ok (.ifCond .le 7, 3) := by decide +kernel
theorem dX8_raise_28 : decode cX8_raise 28 = .ok (.iconst 0, 1) := by decide +kernel
theorem dX8_raise_29 : decode cX8_raise 29 = .ok (.goto 19, 3) := by decide +kernel
theorem dX8_raise_32 : decode cX8_raise 32 = .ok (.aload_n 0, 1) := by decide +kernel
theorem dX8_raise_33 : decode cX8_raise 33 = .ok (.iload_n 1, 1) := by decide +kernel
theorem dX8_raise_34 : decode cX8_raise 34 = .ok (.iload_n 2, 1) := by decide +kernel
theorem dX8_raise_35 : decode cX8_raise 35 = .ok (.aload_n 0, 1) := by decide +kernel
theorem dX8_raise_36 : decode cX8_raise 36 = .ok (.aload_n 0, 1) := by decide +kernel
theorem dX8_raise_37 : decode cX8_raise 37 = .ok (.invokevirtual 175, 3) := by decide +kernel
theorem dX8_raise_40 : decode cX8_raise 40 = .ok (.invokevirtual 138, 3) := by decide +kernel
theorem dX8_raise_43 : decode cX8_raise 43 = .ok (.fconst 1, 1) := by decide +kernel
theorem dX8_raise_44 : decode cX8_raise 44 = .ok (.fadd, 1) := by decide +kernel
theorem dX8_raise_45 : decode cX8_raise 45 = .ok (.invokevirtual 202, 3) := by decide +kernel
theorem dX8_raise_48 : decode cX8_raise 48 = .ok (.ireturn, 1) := by decide +kernel
theorem dX8_lower_0 : decode cX8_lower 0 = .ok (.aload_n 0, 1) := by decide +kernel
theorem dX8_lower_1 : decode cX8_lower 1 = .ok (.iload_n 1, 1) := by decide +kernel
theorem dX8_lower_2 : decode cX8_lower 2 = .ok (.invokestatic 165, 3) := by decide +kernel
theorem dX8_lower_5 : decode cX8_lower 5 = .ok (.ifCond .eq 12, 3) := by decide +kernel
theorem dX8_lower_8 : decode cX8_lower 8 = .ok (.aload_n 0, 1) := by decide +kernel
theorem dX8_lower_9 : decode cX8_lower 9 = .ok (.iload_n 1, 1) := by decide +kernel
theorem dX8_lower_10 : decode cX8_lower 10 = .ok (.iload_n 2, 1) := by decide +kernel
theorem dX8_lower_11 : decode cX8_lower 11 = .ok (.invokevirtual 193, 3) := by decide +kernel
theorem dX8_lower_14 : decode cX8_lower 14 = .ok (.goto 4, 3) := by decide +kernel
theorem dX8_lower_17 : decode cX8_lower 17 = .ok (.iconst 1, 1) := by decide +kernel
theorem dX8_lower_18 : decode cX8_lower 18 = .ok (.putfield 97, 3) := by decide +kernel
theorem dX8_lower_21 : decode cX8_lower 21 = .ok (.aload_n 0, 1) := by decide +kernel
theorem dX8_lower_22 : decode cX8_lower 22 = .ok (.getfield 97, 3) := by decide +kernel
theorem dX8_lower_25 : decode cX8_lower 25 = .ok (.ifCond .le 7, 3) := by decide +kernel
theorem dX8_lower_28 : decode cX8_lower 28 = .ok (.iconst 0, 1) := by decide +kernel
theorem dX8_lower_29 : decode cX8_lower 29 = .ok (.goto 19, 3) := by decide +kernel
theorem dX8_lower_32 : decode cX8_lower 32 = .ok (.aload_n 0, 1) := by decide +kernel
theorem dX8_lower_33 : decode cX8_lower 33 = .ok (.iload_n 1, 1) := by decide +kernel
theorem dX8_lower_34 : decode cX8_lower 34 = .ok (.iload_n 2, 1) := by decide +kernel
theorem dX8_lower_35 : decode cX8_lower 35 = .ok (.aload_n 0, 1) := by decide +kernel
theorem dX8_lower_36 : decode cX8_lower 36 = .ok (.aload_n 0, 1) := by decide +kernel
theorem dX8_lower_37 : decode cX8_lower 37 = .ok (.invokevirtual 206, 3) := by decide +kernel
theorem dX8_lower_40 : decode cX8_lower 40 = .ok (.invokevirtual 138, 3) := by decide +kernel
theorem dX8_lower_43 : decode cX8_lower 43 = .ok (.fconst 1, 1) := by decide +kernel
theorem dX8_lower_44 : decode cX8_lower 44 = .ok (.fsub, 1) := by decide +kernel
theorem dX8_lower_45 : decode cX8_lower 45 = .ok (.invokevirtual 202, 3) := by decide +kernel
theorem dX8_lower_48 : decode cX8_lower 48 = .ok (.ireturn, 1) := by decide +kernel
theorem dX8_putAbove_0 : decode cX8_putAbove 0 = .ok (.aload_n 0, 1) := by decide +kernel
theorem dX8_putAbove_1 : decode cX8_putAbove 1 = .ok (.iconst 0, 1) := by decide +kernel
theorem dX8_putAbove_2 : decode cX8_putAbove 2 = .ok (.putfield 97, 3) := by decide +kernel
theorem dX8_putAbove_5 : decode cX8_putAbove 5 = .ok (.iload_n 1, 1) := by decide +kernel
theorem dX8_putAbove_6 : decode cX8_putAbove 6 = .ok (.invokestatic 165, 3) := by decide +kernel
theorem dX8_putAbove_9 : decode cX8_putAbove 9 = .ok (.ifCond .eq 8, 3) := by decide +kernel
theorem dX8_putAbove_12 : decode cX8_putAbove 12 = .ok (.iload_n 2, 1) := by decide +kernel
theorem dX8_putAbove_13 : decode cX8_putAbove 13 = .ok (.iload_n 3, 1) := by decide +kernel
theorem dX8_putAbove_14 : decode cX8_putAbove 14 = .ok (.if_icmp .ne 9, 3) := by decide +kernel
theorem dX8_putAbove_17 : decode cX8_putAbove 17 = .ok (.aload_n 0, 1) := by decide +kernel
theorem dX8_putAbove_18 : decode cX8_putAbove 18 = .ok (.iconst 1, 1) := by decide +kernel
theorem dX8_putAbove_19 : decode cX8_putAbove 19 = .ok (.invokevirtual 172, 3) := by decide +kernel
theorem dX8_putAbove_22 : decode cX8_putAbove 22 = .ok (.ireturn, 1) := by decide +kernel
theorem dX8_putAbove_23 : decode cX8_putAbove 23 = .ok (.aload_n 0, 1) := by decide +kernel
theorem dX8_putAbove_24 : decode cX8_putAbove 24 = .ok (.iload_n 1, 1) := by decide +kernel
theorem dX8_putAbove_25 : decode cX8_putAbove 25 = .ok (.invokevirtual 161, 3) := by decide +kernel
theorem dX8_putAbove_28 : decode cX8_putAbove 28 = .ok (.aload_n 0, 1) := by decide +kernel
theorem dX8_putAbove_29 : decode cX8_putAbove 29 = .ok (.iload_n 2, 1) := by decide +kernel
theorem dX8_putAbove_30 : decode cX8_putAbove 30 = .ok (.invokevirtual 125, 3) := by decide +kernel
theorem dX8_putAbove_33 : decode cX8_putAbove 33 = .ok (.ifCond .eq 11, 3) := by decide +kernel
theorem dX8_putAbove_36 : decode cX8_putAbove 36 = .ok (.aload_n 0, 1) := by decide +kernel
theorem dX8_putAbove_37 : decode cX8_putAbove 37 = .ok (.iload_n 3, 1) := by decide +kernel
theorem dX8_putAbove_38 : decode cX8_putAbove 38 = .ok (.invokevirtual 125, 3) := by decide +kernel
theorem dX8_putAbove_41 : decode cX8_putAbove 41 = .ok (.ifCond .ne 9, 3) := by decide +kernel
theorem dX8_putAbove_44 : decode cX8_putAbove 44 = .ok (.aload_n 0, 1) := by decide +kernel
theorem dX8_putAbove_45 : decode cX8_putAbove 45 = .ok (.iconst 2, 1) := by decide +kernel
theorem dX8_putAbove_46 : decode cX8_putAbove 46 = .ok (.invokevirtual 172, 3) := by decide +kernel
theorem dX8_putAbove_49 : decode cX8_putAbove 49 = .ok (.ireturn, 1) := by decide +kernel
theorem dX8_putAbove_50 : decode cX8_putAbove 50 = .ok (.iconst (-1), 1) := by decide +kernel
theorem dX8_putAbove_51 : decode cX8_putAbove 51 = .ok (.istore 4, 2) := by decide +kernel
theorem dX8_putAbove_53 : decode cX8_putAbove 53 = .ok (.iconst 0, 1) := by decide +kernel
theorem dX8_putAbove_54 : decode cX8_putAbove 54 = .ok (.istore 5, 2) := by decide +kernel
theorem dX8_putAbove_56 : decode cX8_putAbove 56 = .ok (.iload 5, 2) := by decide +kernel
theorem dX8_putAbove_58 : decode cX8_putAbove 58 = .ok (.aload_n 0, 1) := by decide +kernel
theorem dX8_putAbove_59 : decode cX8_putAbove 59 = .ok (.getfield 119, 3) := by decide +kernel
theorem dX8_putAbove_62 : decode cX8_putAbove 62 = .ok (.if_icmp .ge 63, 3) := by decide +kernel
theorem dX8_putAbove_65 : decode cX8_putAbove 65 = .ok (.aload_n 0, 1) := by decide +kernel
theorem dX8_putAbove_66 : decode cX8_putAbove 66 = .ok (.iload 5, 2) := by decide +kernel
theorem dX8_putAbove_68 : decode cX8_putAbove 68 = .ok (.invokevirtual 125, 3) := by decide +kernel
theorem dX8_putAbove_71 : decode cX8_putAbove 71 = .ok (.ifCond .eq 44, 3) := by decide +kernel
theorem dX8_putAbove_74 : decode cX8_putAbove 74 = .ok (.aload_n 0, 1) := by decide +kernel
theorem dX8_putAbove_75 : decode cX8_putAbove 75 = .ok (.iload 5, 2) := by decide +kernel
theorem dX8_putAbove_77 : decode cX8_putAbove 77 = .ok (.invokevirtual 138, 3) := by decide +kernel
theorem dX8_putAbove_80 : decode cX8_putAbove 80 = .ok (.aload_n 0, 1) := by decide +kernel
theorem dX8_putAbove_81 : decode cX8_putAbove 81 = .ok (.iload_n 3, 1) := by decide +kernel
theorem dX8_putAbove_82 : decode cX8_putAbove 82 = .ok (.invokevirtual 138, 3) := by decide +kernel
theorem dX8_putAbove_85 : decode cX8_putAbove 85 = .ok (.fcmp .l, 1) := by decide +kernel
theorem dX8_putAbove_86 : decode cX8_putAbove 86 = .ok (.ifCond .le 29, 3) := by decide +kernel
theorem dX8_putAbove_89 : decode cX8_putAbove 89 = .ok (.iload 4, 2) := by decide +kernel
theorem dX8_putAbove_91 : decode cX8_putAbove 91 = .ok (.ifCond .lt 19, 3) := by decide +kernel
theorem dX8_putAbove_94 : decode cX8_putAbove 94 = .ok (.aload_n 0, 1) := by decide +kernel
theorem dX8_putAbove_95 : decode cX8_putAbove 95 = .ok (.iload 5, 2) := by decide +kernel
theorem dX8_putAbove_97 : decode cX8_putAbove 97 = .ok (.invokevirtual 138, 3) := by decide +kernel
theorem dX8_putAbove_100 : decode cX8_putAbove 100 = .ok (.aload_n 0, 1) := by decide +kernel
theorem dX8_putAbove_101 : decode cX8_putAbove 101 = .ok (.iload 4, 2) := by decide +kernel
theorem dX8_putAbove_103 : decode cX8_putAbove 103 = .ok (.invokevirtual 138, 3) := by decide +kernel
theorem dX8_putAbove_106 : decode cX8_putAbove 106 = .ok (.fcmp .g, 1) := by decide +kernel
theorem dX8_putAbove_107 : decode cX8_putAbove 107 = .ok (.ifCond .ge 8, 3) := by decide +kernel
theorem dX8_putAbove_110 : decode cX8_putAbove 110 = .ok (.iload 5, 2) := by decide +kernel
theorem dX8_putAbove_112 : decode cX8_putAbove 112 = .ok (.goto 5, 3) := by decide +kernel
theorem dX8_putAbove_115 : decode cX8_putAbove 115 = .ok (.iload 4, 2) := by decide +kernel
theorem dX8_putAbove_117 : decode cX8_putAbove 117 = .ok (.istore 4, 2) := by decide +kernel
theorem dX8_putAbove_119 : decode cX8_putAbove 119 = .ok (.iinc 5 1, 3) := by decide +kernel
theorem dX8_putAbove_122 : decode cX8_putAbove 122 = .ok (.goto (-66), 3) := by decide +kernel
theorem dX8_putAbove_125 : decode cX8_putAbove 125 = .ok (.iload 4, 2) := by decide +kernel
theorem dX8_putAbove_127 : decode cX8_putAbove 127 = .ok (.ifCond .ge 13, 3) := by decide +kernel
theorem dX8_putAbove_130 : decode cX8_putAbove 130 = .ok (.aload_n 0, 1) := by decide +kernel
theorem dX8_putAbove_131 : decode cX8_putAbove 131 = .ok (.iload_n 3, 1) := by decide +kernel
theorem dX8_putAbove_132 : decode cX8_putAbove 132 = .ok (.invokevirtual 138, 3) := by decide +kernel
theorem dX8_putAbove_135 : decode cX8_putAbove 135 = .ok (.fconst 1, 1) := by decide +kernel
theorem dX8_putAbove_136 : decode cX8_putAbove 136 = .ok (.fadd, 1) := by decide +kernel
theorem dX8_putAbove_137 : decode cX8_putAbove 137 = .ok (.goto 17, 3) := by decide +kernel
theorem dX8_putAbove_140 : decode cX8_putAbove 140 = .ok (.aload_n 0, 1) := by decide +kernel
theorem dX8_putAbove_141 : decode cX8_putAbove 141 = .ok (.iload_n 3, 1) := by decide +kernel
theorem dX8_putAbove_142 : decode cX8_putAbove 142 = .ok (.invokevirtual 138, 3) := by decide +kernel
theorem dX8_putAbove_145 : decode cX8_putAbove 145 = .ok (.aload_n 0, 1) := by decide +kernel
theorem dX8_putAbove_146 : decode cX8_putAbove 146 = .ok (.iload 4, 2) := by decide +kernel
theorem dX8_putAbove_148 : decode cX8_putAbove 148 = .ok (.invokevirtual 138, 3) := by decide +kernel
theorem dX8_putAbove_151 : decode cX8_putAbove 151 = .ok (.fadd, 1) := by decide +kernel
theorem dX8_putAbove_152 : decode cX8_putAbove 152 = .ok (.fconst 2, 1) := by decide +kernel
theorem dX8_putAbove_153 : decode cX8_putAbove 153 = .ok (.fdiv, 1) := by decide +kernel
theorem dX8_putAbove_154 : decode cX8_putAbove 154 = .ok (.fstore 5, 2) := by decide +kernel
theorem dX8_putAbove_156 : decode cX8_putAbove 156 = .ok (.aload_n 0, 1) := by decide +kernel
theorem dX8_putAbove_157 : decode cX8_putAbove 157 = .ok (.iload_n 1, 1) := by decide +kernel
theorem dX8_putAbove_158 : decode cX8_putAbove 158 = .ok (.iload_n 2, 1) := by decide +kernel
theorem dX8_putAbove_159 : decode cX8_putAbove 159 = .ok (.invokevirtual 190, 3) := by decide +kernel
theorem dX8_putAbove_162 : decode cX8_putAbove 162 = .ok (.ifCond .ne 31, 3) := by decide +kernel
theorem dX8_putAbove_165 : decode cX8_putAbove 165 = .ok (.fload 5, 2) := by decide +kernel
theorem dX8_putAbove_167 : decode cX8_putAbove 167 = .ok (.aload_n 0, 1) := by decide +kernel
theorem dX8_putAbove_168 : decode cX8_putAbove 168 = .ok (.iload_n 3, 1) := by decide +kernel
theorem dX8_putAbove_169 : decode cX8_putAbove 169 = .ok (.invokevirtual 138, 3) := by decide +kernel
theorem dX8_putAbove_172 : decode cX8_putAbove 172 = .ok (.fcmp .l, 1) := by decide +kernel
theorem dX8_putAbove_173 : decode cX8_putAbove 173 = .ok (.ifCond .eq 20, 3) := by decide +kernel
theorem dX8_putAbove_176 : decode cX8_putAbove 176 = .ok (.iload 4, 2) := by decide +kernel
theorem dX8_putAbove_178 : decode cX8_putAbove 178 = .ok (.ifCond .lt 21, 3) := by decide +kernel
theorem dX8_putAbove_181 : decode cX8_putAbove 181 = .ok (.fload 5, 2) := by decide +kernel
theorem dX8_putAbove_183 : decode cX8_putAbove 183 = .ok (.aload_n 0, 1) := by decide +kernel
theorem dX8_putAbove_184 : decode cX8_putAbove 184 = .ok (.iload 4, 2) := by decide +kernel
theorem dX8_putAbove_186 : decode cX8_putAbove 186 = .ok (.invokevirtual 138, 3) := by decide +kernel
theorem dX8_putAbove_189 : decode cX8_putAbove 189 = .ok (.fcmp .l, 1) := by decide +kernel
theorem dX8_putAbove_190 : decode cX8_putAbove 190 = .ok (.ifCond .ne 9, 3) := by decide +kernel
theorem dX8_putAbove_193 : decode cX8_putAbove 193 = .ok (.aload_n 0, 1) := by decide +kernel
theorem dX8_putAbove_194 : decode cX8_putAbove 194 = .ok (.iconst 3, 1) := by decide +kernel
theorem dX8_putAbove_195 : decode cX8_putAbove 195 = .ok (.invokevirtual 172, 3) := by decide +kernel
theorem dX8_putAbove_198 : decode cX8_putAbove 198 = .ok (.ireturn, 1) := by decide +kernel
theorem dX8_putAbove_199 : decode cX8_putAbove 199 = .ok (.aload_n 0, 1) := by decide +kernel
theorem dX8_putAbove_200 : decode cX8_putAbove 200 = .ok (.getfield 108, 3) := by decide +kernel
theorem dX8_putAbove_203 : decode cX8_putAbove 203 = .ok (.sipush 250, 3) := by decide +kernel
theorem dX8_putAbove_206 : decode cX8_putAbove 206 = .ok (.if_icmp .ne 11, 3) := by decide +kernel
theorem dX8_putAbove_209 : decode cX8_putAbove 209 = .ok (.aload_n 0, 1) := by decide +kernel
theorem dX8_putAbove_210 : decode cX8_putAbove 210 = .ok (.iconst 4, 1) := by decide +kernel
theorem dX8_putAbove_211 : decode cX8_putAbove 211 = .ok (.invokevirtual 172, 3) := by decide +kernel
theorem dX8_putAbove_214 : decode cX8_putAbove 214 = .ok (.goto 11, 3) := by decide +kernel
theorem dX8_putAbove_217 : decode cX8_putAbove 217 = .ok (.aload_n 0, 1) := by decide +kernel
theorem dX8_putAbove_218 : decode cX8_putAbove 218 = .ok (.iload_n 1, 1) := by decide +kernel
theorem dX8_putAbove_219 : decode cX8_putAbove 219 = .ok (.iload_n 2, 1) := by decide +kernel
theorem dX8_putAbove_220 : decode cX8_putAbove 220 = .ok (.fload 5, 2) := by decide +kernel
theorem dX8_putAbove_222 : decode cX8_putAbove 222 = .ok (.invokevirtual 202, 3) := by decide +kernel
theorem dX8_putAbove_225 : decode cX8_putAbove 225 = .ok (.ireturn, 1) := by decide +kernel
theorem dX8_remove_0 : decode cX8_remove 0 = .ok (.aload_n 0, 1) := by decide +kernel
theorem dX8_remove_1 : decode cX8_remove 1 = .ok (.iload_n 1, 1) := by decide +kernel
theorem dX8_remove_2 : decode cX8_remove 2 = .ok (.invokestatic 165, 3) := by decide +kernel
theorem dX8_remove_5 : decode cX8_remove 5 = .ok (.ifCond .eq 12, 3) := by decide +kernel
theorem dX8_remove_8 : decode cX8_remove 8 = .ok (.aload_n 0, 1) := by decide +kernel
theorem dX8_remove_9 : decode cX8_remove 9 = .ok (.iload_n 1, 1) := by decide +kernel
theorem dX8_remove_10 : decode cX8_remove 10 = .ok (.iload_n 2, 1) := by decide +kernel
theorem dX8_remove_11 : decode cX8_remove 11 = .ok (.invokevirtual 193, 3) := by decide +kernel
theorem dX8_remove_14 : decode cX8_remove 14 = .ok (.goto 4, 3) := by decide +kernel
theorem dX8_remove_17 : decode cX8_remove 17 = .ok (.iconst 1, 1) := by decide +kernel
theorem dX8_remove_18 : decode cX8_remove 18 = .ok (.putfield 97, 3) := by decide +kernel
theorem dX8_remove_21 : decode cX8_remove 21 = .ok (.aload_n 0, 1) := by decide +kernel
theorem dX8_remove_22 : decode cX8_remove 22 = .ok (.getfield 97, 3) := by decide +kernel
theorem dX8_remove_25 : decode cX8_remove 25 = .ok (.ifCond .le 5, 3) := by decide +kernel
theorem dX8_remove_28 : decode cX8_remove 28 = .ok (.iconst 0, 1) := by decide +kernel
theorem dX8_remove_29 : decode cX8_remove 29 = .ok (.ireturn, 1) := by decide +kernel
theorem dX8_remove_30 : decode cX8_remove 30 = .ok (.aload_n 0, 1) := by decide +kernel
theorem dX8_remove_31 : decode cX8_remove 31 = .ok (.iload_n 2, 1) := by decide +kernel
theorem dX8_remove_32 : decode cX8_remove 32 = .ok (.iconst 0, 1) := by decide +kernel
theorem dX8_remove_33 : decode cX8_remove 33 = .ok (.invokevirtual 179, 3) := by decide +kernel
theorem dX8_remove_36 : decode cX8_remove 36 = .ok (.aload_n 0, 1) := by decide +kernel
theorem dX8_remove_37 : decode cX8_remove 37 = .ok (.iload_n 1, 1) := by decide +kernel
theorem dX8_remove_38 : decode cX8_remove 38 = .ok (.iconst 1, 1) := by decide +kernel
theorem dX8_remove_39 : decode cX8_remove 39 = .ok (.invokevirtual 186, 3) := by decide +kernel
theorem dX8_remove_42 : decode cX8_remove 42 = .ok (.aload_n 0, 1) := by decide +kernel
theorem dX8_remove_43 : decode cX8_remove 43 = .ok (.invokevirtual 209, 3) := by decide +kernel
theorem dX8_remove_46 : decode cX8_remove 46 = .ok (.ireturn, 1) := by decide +kernel
theorem dX8_lock_0 : decode cX8_lock 0 = .ok (.aload_n 0, 1) := by decide +kernel
theorem dX8_lock_1 : decode cX8_lock 1 = .ok (.iload_n 1, 1) := by decide +kernel
theorem dX8_lock_2 : decode cX8_lock 2 = .ok (.invokestatic 165, 3) := by decide +kernel
theorem dX8_lock_5 : decode cX8_lock 5 = .ok (.ifCond .eq 12, 3) := by decide +kernel
theorem dX8_lock_8 : decode cX8_lock 8 = .ok (.aload_n 0, 1) := by decide +kernel
theorem dX8_lock_9 : decode cX8_lock 9 = .ok (.iload_n 1, 1) := by decide +kernel
theorem dX8_lock_10 : decode cX8_lock 10 = .ok (.iload_n 2, 1) := by decide +kernel
theorem dX8_lock_11 : decode cX8_lock 11 = .ok (.invokevirtual 193, 3) := by decide +kernel
theorem dX8_lock_14 : decode cX8_lock 14 = .ok (.goto 4, 3) := by decide +kernel
theorem dX8_lock_17 : decode cX8_lock 17 = .ok (.iconst 1, 1) := by decide +kernel
theorem dX8_lock_18 : decode cX8_lock 18 = .ok (.putfield 97, 3) := by decide +kernel
theorem dX8_lock_21 : decode cX8_lock 21 = .ok (.aload_n 0, 1) := by decide +kernel
theorem dX8_lock_22 : decode cX8_lock 22 = .ok (.getfield 97, 3) := by decide +kernel
theorem dX8_lock_25 : decode cX8_lock 25 = .ok (.ifCond .le 5, 3) := by decide +kernel
theorem dX8_lock_28 : decode cX8_lock 28 = .ok (.iconst 0, 1) := by decide +kernel
theorem dX8_lock_29 : decode cX8_lock 29 = .ok (.ireturn, 1) := by decide +kernel
theorem dX8_lock_30 : decode cX8_lock 30 = .ok (.aload_n 0, 1) := by decide +kernel
theorem dX8_lock_31 : decode cX8_lock 31 = .ok (.bipush 36, 2) := by decide +kernel
theorem dX8_lock_33 : decode cX8_lock 33 = .ok (.iload_n 2, 1) := by decide +kernel
theorem dX8_lock_34 : decode cX8_lock 34 = .ok (.iadd, 1) := by decide +kernel
theorem dX8_lock_35 : decode cX8_lock 35 = .ok (.iload_n 1, 1) := by decide +kernel
theorem dX8_lock_36 : decode cX8_lock 36 = .ok (.invokevirtual 179, 3) := by decide +kernel
theorem dX8_lock_39 : decode cX8_lock 39 = .ok (.aload_n 0, 1) := by decide +kernel
theorem dX8_lock_40 : decode cX8_lock 40 = .ok (.iload_n 1, 1) := by decide +kernel
theorem dX8_lock_41 : decode cX8_lock 41 = .ok (.iconst 1, 1) := by decide +kernel
theorem dX8_lock_42 : decode cX8_lock 42 = .ok (.invokevirtual 186, 3) := by decide +kernel
theorem dX8_lock_45 : decode cX8_lock 45 = .ok (.iconst 0, 1) := by decide +kernel
theorem dX8_lock_46 : decode cX8_lock 46 = .ok (.istore_n 3, 1) := by decide +kernel
theorem dX8_lock_47 : decode cX8_lock 47 = .ok (.iconst 0, 1) := by decide +kernel
theorem dX8_lock_48 : decode cX8_lock 48 = .ok (.istore 4, 2) := by decide +kernel
theorem dX8_lock_50 : decode cX8_lock 50 = .ok (.iload 4, 2) := by decide +kernel
theorem dX8_lock_52 : decode cX8_lock 52 = .ok (.aload_n 0, 1) := by decide +kernel
theorem dX8_lock_53 : decode cX8_lock 53 = .ok (.getfield 119, 3) := by decide +kernel
theorem dX8_lock_56 : decode cX8_lock 56 = .ok (.if_icmp .ge 40, 3) := by decide +kernel
theorem dX8_lock_59 : decode cX8_lock 59 = .ok (.iload_n 3, 1) := by decide +kernel
theorem dX8_lock_60 : decode cX8_lock 60 = .ok (.aload_n 0, 1) := by decide +kernel
theorem dX8_lock_61 : decode cX8_lock 61 = .ok (.iload 4, 2) := by decide +kernel
theorem dX8_lock_63 : decode cX8_lock 63 = .ok (.invokevirtual 125, 3) := by decide +kernel
theorem dX8_lock_66 : decode cX8_lock 66 = .ok (.ifCond .eq 21, 3) := by decide +kernel
theorem dX8_lock_69 : decode cX8_lock 69 = .ok (.aload_n 0, 1) := by decide +kernel
theorem dX8_lock_70 : decode cX8_lock 70 = .ok (.getfield 67, 3) := by decide +kernel
theorem dX8_lock_73 : decode cX8_lock 73 = .ok (.bipush 36, 2) := by decide +kernel
theorem dX8_lock_75 : decode cX8_lock 75 = .ok (.iload 4, 2) := by decide +kernel
theorem dX8_lock_77 : decode cX8_lock 77 = .ok (.iadd, 1) := by decide +kernel
theorem dX8_lock_78 : decode cX8_lock 78 = .ok (.iaload, 1) := by decide +kernel
theorem dX8_lock_79 : decode cX8_lock 79 = .ok (.iload_n 1, 1) := by decide +kernel
theorem dX8_lock_80 : decode cX8_lock 80 = .ok (.if_icmp .ne 7, 3) := by decide +kernel
theorem dX8_lock_83 : decode cX8_lock 83 = .ok (.iconst 1, 1) := by decide +kernel
theorem dX8_lock_84 : decode cX8_lock 84 = .ok (.goto 4, 3) := by decide +kernel
theorem dX8_lock_87 : decode cX8_lock 87 = .ok (.iconst 0, 1) := by decide +kernel
theorem dX8_lock_88 : decode cX8_lock 88 = .ok (.iadd, 1) := by decide +kernel
theorem dX8_lock_89 : decode cX8_lock 89 = .ok (.istore_n 3, 1) := by decide +kernel
theorem dX8_lock_90 : decode cX8_lock 90 = .ok (.iinc 4 1, 3) := by decide +kernel
theorem dX8_lock_93 : decode cX8_lock 93 = .ok (.goto (-43), 3) := by decide +kernel
theorem dX8_lock_96 : decode cX8_lock 96 = .ok (.iload_n 3, 1) := by decide +kernel
theorem dX8_lock_97 : decode cX8_lock 97 = .ok (.ireturn, 1) := by decide +kernel
theorem dX8_unlock_0 : decode cX8_unlock 0 = .ok (.aload_n 0, 1) := by decide +kernel
theorem dX8_unlock_1 : decode cX8_unlock 1 = .ok (.iconst 0, 1) := by decide +kernel
theorem dX8_unlock_2 : decode cX8_unlock 2 = .ok (.putfield 97, 3) := by decide +kernel
theorem dX8_unlock_5 : decode cX8_unlock 5 = .ok (.iload_n 1, 1) := by decide +kernel
theorem dX8_unlock_6 : decode cX8_unlock 6 = .ok (.invokestatic 165, 3) := by decide +kernel
theorem dX8_unlock_9 : decode cX8_unlock 9 = .ok (.ifCond .ne 9, 3) := by decide +kernel
theorem dX8_unlock_12 : decode cX8_unlock 12 = .ok (.aload_n 0, 1) := by decide +kernel
theorem dX8_unlock_13 : decode cX8_unlock 13 = .ok (.iconst 1, 1) := by decide +kernel
theorem dX8_unlock_14 : decode cX8_unlock 14 = .ok (.invokevirtual 172, 3) := by decide +kernel
theorem dX8_unlock_17 : decode cX8_unlock 17 = .ok (.ireturn, 1) := by decide +kernel
theorem dX8_unlock_18 : decode cX8_unlock 18 = .ok (.aload_n 0, 1) := by decide +kernel
theorem dX8_unlock_19 : decode cX8_unlock 19 = .ok (.iload_n 1, 1) := by decide +kernel
theorem dX8_unlock_20 : decode cX8_unlock 20 = .ok (.invokevirtual 161, 3) := by decide +kernel
theorem dX8_unlock_23 : decode cX8_unlock 23 = .ok (.aload_n 0, 1) := by decide +kernel
theorem dX8_unlock_24 : decode cX8_unlock 24 = .ok (.iload_n 2, 1) := by decide +kernel
theorem dX8_unlock_25 : decode cX8_unlock 25 = .ok (.invokevirtual 125, 3) := by decide +kernel
theorem dX8_unlock_28 : decode cX8_unlock 28 = .ok (.ifCond .ne 9, 3) := by decide +kernel
theorem dX8_unlock_31 : decode cX8_unlock 31 = .ok (.aload_n 0, 1) := by decide +kernel
theorem dX8_unlock_32 : decode cX8_unlock 32 = .ok (.iconst 2, 1) := by decide +kernel
theorem dX8_unlock_33 : decode cX8_unlock 33 = .ok (.invokevirtual 172, 3) := by decide +kernel
theorem dX8_unlock_36 : decode cX8_unlock 36 = .ok (.ireturn, 1) := by decide +kernel
theorem dX8_unlock_37 : decode cX8_unlock 37 = .ok (.aload_n 0, 1) := by decide +kernel
theorem dX8_unlock_38 : decode cX8_unlock 38 = .ok (.getfield 67, 3) := by decide +kernel
theorem dX8_unlock_41 : decode cX8_unlock 41 = .ok (.bipush 36, 2) := by decide +kernel
theorem dX8_unlock_43 : decode cX8_unlock 43 = .ok (.iload_n 2, 1) := by decide +kernel
theorem dX8_unlock_44 : decode cX8_unlock 44 = .ok (.iadd, 1) := by decide +kernel
theorem dX8_unlock_45 : decode cX8_unlock 45 = .ok (.iaload, 1) := by decide +kernel
theorem dX8_unlock_46 : decode cX8_unlock 46 = .ok (.istore_n 3, 1) := by decide +kernel
theorem dX8_unlock_47 : decode cX8_unlock 47 = .ok (.iload_n 3, 1) := by decide +kernel
theorem dX8_unlock_48 : decode cX8_unlock 48 = .ok (.iconst (-1), 1) := by decide +kernel
theorem dX8_unlock_49 : decode cX8_unlock 49 = .ok (.if_icmp .ne 9, 3) := by decide +kernel
theorem dX8_unlock_52 : decode cX8_unlock 52 = .ok (.aload_n 0, 1) := by decide +kernel
theorem dX8_unlock_53 : decode cX8_unlock 53 = .ok (.iconst 3, 1) := by decide +kernel
theorem dX8_unlock_54 : decode cX8_unlock 54 = .ok (.invokevirtual 172, 3) := by decide +kernel
theorem dX8_unlock_57 : decode cX8_unlock 57 = .ok (.ireturn, 1) := by decide +kernel
theorem dX8_unlock_58 : decode cX8_unlock 58 = .ok (.aload_n 0, 1) := by decide +kernel
theorem dX8_unlock_59 : decode cX8_unlock 59 = .ok (.getfield 108, 3) := by decide +kernel
theorem dX8_unlock_62 : decode cX8_unlock 62 = .ok (.sipush 250, 3) := by decide +kernel
theorem dX8_unlock_65 : decode cX8_unlock 65 = .ok (.if_icmp .ne 9, 3) := by decide +kernel
theorem dX8_unlock_68 : decode cX8_unlock 68 = .ok (.aload_n 0, 1) := by decide +kernel
theorem dX8_unlock_69 : decode cX8_unlock 69 = .ok (.iconst 4, 1) := by decide +kernel
theorem dX8_unlock_70 : decode cX8_unlock 70 = .ok (.invokevirtual 172, 3) := by decide +kernel
theorem dX8_unlock_73 : decode cX8_unlock 73 = .ok (.ireturn, 1) := by decide +kernel
theorem dX8_unlock_74 : decode cX8_unlock 74 = .ok (.aload_n 0, 1) := by decide +kernel
theorem dX8_unlock_75 : decode cX8_unlock 75 = .ok (.bipush 36, 2) := by decide +kernel
theorem dX8_unlock_77 : decode cX8_unlock 77 = .ok (.iload_n 2, 1) := by decide +kernel
theorem dX8_unlock_78 : decode cX8_unlock 78 = .ok (.iadd, 1) := by decide +kernel
theorem dX8_unlock_79 : decode cX8_unlock 79 = .ok (.iconst (-1), 1) := by decide +kernel
theorem dX8_unlock_80 : decode cX8_unlock 80 = .ok (.invokevirtual 179, 3) := by decide +kernel
theorem dX8_unlock_83 : decode cX8_unlock 83 = .ok (.aload_n 0, 1) := by decide +kernel
theorem dX8_unlock_84 : decode cX8_unlock 84 = .ok (.iload_n 1, 1) := by decide +kernel
theorem dX8_unlock_85 : decode cX8_unlock 85 = .ok (.iconst 1, 1) := by decide +kernel
theorem dX8_unlock_86 : decode cX8_unlock 86 = .ok (.invokevirtual 186, 3) := by decide +kernel
theorem dX8_unlock_89 : decode cX8_unlock 89 = .ok (.iload_n 3, 1) := by decide +kernel
theorem dX8_unlock_90 : decode cX8_unlock 90 = .ok (.ireturn, 1) := by decide +kernel
theorem dX8_isSide_0 : decode cX8_isSide 0 = .ok (.iload_n 0, 1) := by decide +kernel
theorem dX8_isSide_1 : decode cX8_isSide 1 = .ok (.bipush 116, 2) := by decide +kernel
theorem dX8_isSide_3 : decode cX8_isSide 3 = .ok (.if_icmp .eq 21, 3) := by decide +kernel
theorem dX8_isSide_6 : decode cX8_isSide 6 = .ok (.iload_n 0, 1) := by decide +kernel
theorem dX8_isSide_7 : decode cX8_isSide 7 = .ok (.bipush 98, 2) := by decide +kernel
theorem dX8_isSide_9 : decode cX8_isSide 9 = .ok (.if_icmp .eq 15, 3) := by decide +kernel
theorem dX8_isSide_12 : decode cX8_isSide 12 = .ok (.iload_n 0, 1) := by decide +kernel
theorem dX8_isSide_13 : decode cX8_isSide 13 = .ok (.bipush 108, 2) := by decide +kernel
theorem dX8_isSide_15 : decode cX8_isSide 15 = .ok (.if_icmp .eq 9, 3) := by decide +kernel
theorem dX8_isSide_18 : decode cX8_isSide 18 = .ok (.iload_n 0, 1) := by decide +kernel
theorem dX8_isSide_19 : decode cX8_isSide 19 = .ok (.bipush 114, 2) := by decide +kernel
theorem dX8_isSide_21 : decode cX8_isSide 21 = .ok (.if_icmp .ne 7, 3) := by decide +kernel
theorem dX8_isSide_24 : decode cX8_isSide 24 = .ok (.iconst 1, 1) := by decide +kernel
theorem dX8_isSide_25 : decode cX8_isSide 25 = .ok (.goto 4, 3) := by decide +kernel
theorem dX8_isSide_28 : decode cX8_isSide 28 = .ok (.iconst 0, 1) := by decide +kernel
theorem dX8_isSide_29 : decode cX8_isSide 29 = .ok (.ireturn, 1) := by decide +kernel
theorem dX8_connect_0 : decode cX8_connect 0 = .ok (.aload_n 0, 1) := by decide +kernel
theorem dX8_connect_1 : decode cX8_connect 1 = .ok (.iconst 0, 1) := by decide +kernel
theorem dX8_connect_2 : decode cX8_connect 2 = .ok (.putfield 97, 3) := by decide +kernel
theorem dX8_connect_5 : decode cX8_connect 5 = .ok (.iload_n 1, 1) := by decide +kernel
theorem dX8_connect_6 : decode cX8_connect 6 = .ok (.invokestatic 165, 3) := by decide +kernel
theorem dX8_connect_9 : decode cX8_connect 9 = .ok (.ifCond .eq 24, 3) := by decide +kernel
theorem dX8_connect_12 : decode cX8_connect 12 = .ok (.iload_n 3, 1) := by decide +kernel
theorem dX8_connect_13 : decode cX8_connect 13 = .ok (.invokestatic 212, 3) := by decide +kernel
theorem dX8_connect_16 : decode cX8_connect 16 = .ok (.ifCond .eq 17, 3) := by decide +kernel
theorem dX8_connect_19 : decode cX8_connect 19 = .ok (.iload 5, 2) := by decide +kernel
theorem dX8_connect_21 : decode cX8_connect 21 = .ok (.invokestatic 212, 3) := by decide +kernel
theorem dX8_connect_24 : decode cX8_connect 24 = .ok (.ifCond .eq 9, 3) := by decide +kernel
theorem dX8_connect_27 : decode cX8_connect 27 = .ok (.iload_n 2, 1) := by decide +kernel
theorem dX8_connect_28 : decode cX8_connect 28 = .ok (.iload 4, 2) := by decide +kernel
theorem dX8_connect_30 : decode cX8_connect 30 = .ok (.if_icmp .ne 9, 3) := by decide +kernel
theorem dX8_connect_33 : decode cX8_connect 33 = .ok (.aload_n 0, 1) := by decide +kernel
theorem dX8_connect_34 : decode cX8_connect 34 = .ok (.iconst 1, 1) := by decide +kernel
theorem dX8_connect_35 : decode cX8_connect 35 = .ok (.invokevirtual 172, 3) := by decide +kernel
theorem dX8_connect_38 : decode cX8_connect 38 = .ok (.ireturn, 1) := by decide +kernel
theorem dX8_connect_39 : decode cX8_connect 39 = .ok (.aload_n 0, 1) := by decide +kernel
theorem dX8_connect_40 : decode cX8_connect 40 = .ok (.iload_n 1, 1) := by decide +kernel
theorem dX8_connect_41 : decode cX8_connect 41 = .ok (.invokevirtual 161, 3) := by decide +kernel
theorem dX8_connect_44 : decode cX8_connect 44 = .ok (.aload_n 0, 1) := by decide +kernel
theorem dX8_connect_45 : decode cX8_connect 45 = .ok (.iload_n 2, 1) := by decide +kernel
theorem dX8_connect_46 : decode cX8_connect 46 = .ok (.invokevirtual 125, 3) := by decide +kernel
theorem dX8_connect_49 : decode cX8_connect 49 = .ok (.ifCond .eq 12, 3) := by decide +kernel
theorem dX8_connect_52 : decode cX8_connect 52 = .ok (.aload_n 0, 1) := by decide +kernel
theorem dX8_connect_53 : decode cX8_connect 53 = .ok (.iload 4, 2) := by decide +kernel
theorem dX8_connect_55 : decode cX8_connect 55 = .ok (.invokevirtual 125, 3) := by decide +kernel
theorem dX8_connect_58 : decode cX8_connect 58 = .ok (.ifCond .ne 9, 3) := by decide +kernel
theorem dX8_connect_61 : decode cX8_connect 61 = .ok (.aload_n 0, 1) := by decide +kernel
theorem dX8_connect_62 : decode cX8_connect 62 = .ok (.iconst 2, 1) := by decide +kernel
theorem dX8_connect_63 : decode cX8_connect 63 = .ok (.invokevirtual 172, 3) := by decide +kernel
theorem dX8_connect_66 : decode cX8_connect 66 = .ok (.ireturn, 1) := by decide +kernel
theorem dX8_connect_67 : decode cX8_connect 67 = .ok (.aload_n 0, 1) := by decide +kernel
theorem dX8_connect_68 : decode cX8_connect 68 = .ok (.getfield 122, 3) := by decide +kernel
theorem dX8_connect_71 : decode cX8_connect 71 = .ok (.bipush 8, 2) := by decide +kernel
theorem dX8_connect_73 : decode cX8_connect 73 = .ok (.if_icmp .eq 13, 3) := by decide +kernel
theorem dX8_connect_76 : decode cX8_connect 76 = .ok (.aload_n 0, 1) := by decide +kernel
theorem dX8_connect_77 : decode cX8_connect 77 = .ok (.getfield 108, 3) := by decide +kernel
theorem dX8_connect_80 : decode cX8_connect 80 = .ok (.sipush 250, 3) := by decide +kernel
theorem dX8_connect_83 : decode cX8_connect 83 = .ok (.if_icmp .ne 9, 3) := by decide +kernel
theorem dX8_connect_86 : decode cX8_connect 86 = .ok (.aload_n 0, 1) := by decide +kernel
theorem dX8_connect_87 : decode cX8_connect 87 = .ok (.iconst 3, 1) := by decide +kernel
theorem dX8_connect_88 : decode cX8_connect 88 = .ok (.invokevirtual 172, 3) := by decide +kernel
theorem dX8_connect_91 : decode cX8_connect 91 = .ok (.ireturn, 1) := by decide +kernel
theorem dX8_connect_92 : decode cX8_connect 92 = .ok (.aload_n 0, 1) := by decide +kernel
theorem dX8_connect_93 : decode cX8_connect 93 = .ok (.getfield 16, 3) := by decide +kernel
theorem dX8_connect_96 : decode cX8_connect 96 = .ok (.aload_n 0, 1) := by decide +kernel
theorem dX8_connect_97 : decode cX8_connect 97 = .ok (.getfield 122, 3) := by decide +kernel
theorem dX8_connect_100 : decode cX8_connect 100 = .ok (.iload_n 2, 1) := by decide +kernel
theorem dX8_connect_101 : decode cX8_connect 101 = .ok (.iastore, 1) := by decide +kernel
theorem dX8_connect_102 : decode cX8_connect 102 = .ok (.aload_n 0, 1) := by decide +kernel
theorem dX8_connect_103 : decode cX8_connect 103 = .ok (.getfield 19, 3) := by decide +kernel
theorem dX8_connect_106 : decode cX8_connect 106 = .ok (.aload_n 0, 1) := by decide +kernel
theorem dX8_connect_107 : decode cX8_connect 107 = .ok (.getfield 122, 3) := by decide +kernel
theorem dX8_connect_110 : decode cX8_connect 110 = .ok (.iload 4, 2) := by decide +kernel
theorem dX8_connect_112 : decode cX8_connect 112 = .ok (.iastore, 1) := by decide +kernel
theorem dX8_connect_113 : decode cX8_connect 113 = .ok (.aload_n 0, 1) := by decide +kernel
theorem dX8_connect_114 : decode cX8_connect 114 = .ok (.getfield 26, 3) := by decide +kernel
theorem dX8_connect_117 : decode cX8_connect 117 = .ok (.aload_n 0, 1) := by decide +kernel
theorem dX8_connect_118 : decode cX8_connect 118 = .ok (.getfield 122, 3) := by decide +kernel
theorem dX8_connect_121 : decode cX8_connect 121 = .ok (.iload_n 3, 1) := by decide +kernel
theorem dX8_connect_122 : decode cX8_connect 122 = .ok (.castore, 1) := by decide +kernel
theorem dX8_connect_123 : decode cX8_connect 123 = .ok (.aload_n 0, 1) := by decide +kernel
theorem dX8_connect_124 : decode cX8_connect 124 = .ok (.getfield 30, 3) := by decide +kernel
theorem dX8_connect_127 : decode cX8_connect 127 = .ok (.aload_n 0, 1) := by decide +kernel
theorem dX8_connect_128 : decode cX8_connect 128 = .ok (.getfield 122, 3) := by decide +kernel
theorem dX8_connect_131 : decode cX8_connect 131 = .ok (.iload 5, 2) := by decide +kernel
theorem dX8_connect_133 : decode cX8_connect 133 = .ok (.castore, 1) := by decide +kernel
theorem dX8_connect_134 : decode cX8_connect 134 = .ok (.aload_n 0, 1) := by decide +kernel
theorem dX8_connect_135 : decode cX8_connect 135 = .ok (.bipush 48, 2) := by decide +kernel
theorem dX8_connect_137 : decode cX8_connect 137 = .ok (.aload_n 0, 1) := by decide +kernel
theorem dX8_connect_138 : decode cX8_connect 138 = .ok (.getfield 122, 3) := by decide +kernel
theorem dX8_connect_141 : decode cX8_connect 141 = .ok (.iadd, 1) := by decide +kernel
theorem dX8_connect_142 : decode cX8_connect 142 = .ok (.iconst 1, 1) := by decide +kernel
theorem dX8_connect_143 : decode cX8_connect 143 = .ok (.invokevirtual 179, 3) := by decide +kernel
theorem dX8_connect_146 : decode cX8_connect 146 = .ok (.aload_n 0, 1) := by decide +kernel
theorem dX8_connect_147 : decode cX8_connect 147 = .ok (.dup, 1) := by decide +kernel
theorem dX8_connect_148 : decode cX8_connect 148 = .ok (.getfield 122, 3) := by decide +kernel
theorem dX8_connect_151 : decode cX8_connect 151 = .ok (.iconst 1, 1) := by decide +kernel
theorem dX8_connect_152 : decode cX8_connect 152 = .ok (.iadd, 1) := by decide +kernel
theorem dX8_connect_153 : decode cX8_connect 153 = .ok (.putfield 122, 3) := by decide +kernel
theorem dX8_connect_156 : decode cX8_connect 156 = .ok (.aload_n 0, 1) := by decide +kernel
theorem dX8_connect_157 : decode cX8_connect 157 = .ok (.iload_n 1, 1) := by decide +kernel
theorem dX8_connect_158 : decode cX8_connect 158 = .ok (.iconst 1, 1) := by decide +kernel
theorem dX8_connect_159 : decode cX8_connect 159 = .ok (.invokevirtual 186, 3) := by decide +kernel
theorem dX8_connect_162 : decode cX8_connect 162 = .ok (.aload_n 0, 1) := by decide +kernel
theorem dX8_connect_163 : decode cX8_connect 163 = .ok (.getfield 122, 3) := by decide +kernel
theorem dX8_connect_166 : decode cX8_connect 166 = .ok (.iconst 1, 1) := by decide +kernel
theorem dX8_connect_167 : decode cX8_connect 167 = .ok (.isub, 1) := by decide +kernel
theorem dX8_connect_168 : decode cX8_connect 168 = .ok (.ireturn, 1) := by decide +kernel
theorem dX8_disconnect_0 : decode cX8_disconnect 0 = .ok (.aload_n 0, 1) := by decide +kernel
theorem dX8_disconnect_1 : decode cX8_disconnect 1 = .ok (.iconst 0, 1) := by decide +kernel
theorem dX8_disconnect_2 : decode cX8_disconnect 2 = .ok (.putfield 97, 3) := by decide +kernel
theorem dX8_disconnect_5 : decode cX8_disconnect 5 = .ok (.iload_n 1, 1) := by decide +kernel
theorem dX8_disconnect_6 : decode cX8_disconnect 6 = .ok (.invokestatic 165, 3) := by decide +kernel
theorem dX8_disconnect_9 : decode cX8_disconnect 9 = .ok (.ifCond .ne 9, 3) := by decide +kernel
theorem dX8_disconnect_12 : decode cX8_disconnect 12 = .ok (.aload_n 0, 1) := by decide +kernel
theorem dX8_disconnect_13 : decode cX8_disconnect 13 = .ok (.iconst 1, 1) := by decide +kernel
theorem dX8_disconnect_14 : decode cX8_disconnect 14 = .ok (.invokevirtual 172, 3) := by decide +kernel
theorem dX8_disconnect_17 : decode cX8_disconnect 17 = .ok (.ireturn, 1) := by decide +kernel
theorem dX8_disconnect_18 : decode cX8_disconnect 18 = .ok (.aload_n 0, 1) := by decide +kernel
theorem dX8_disconnect_19 : decode cX8_disconnect 19 = .ok (.iload_n 1, 1) := by decide +kernel
theorem dX8_disconnect_20 : decode cX8_disconnect 20 = .ok (.invokevirtual 161, 3) := by decide +kernel
theorem dX8_disconnect_23 : decode cX8_disconnect 23 = .ok (.aload_n 0, 1) := by decide +kernel
theorem dX8_disconnect_24 : decode cX8_disconnect 24 = .ok (.iload_n 2, 1) := by decide +kernel
theorem dX8_disconnect_25 : decode cX8_disconnect 25 = .ok (.invokevirtual 135, 3) := by decide +kernel
theorem dX8_disconnect_28 : decode cX8_disconnect 28 = .ok (.ifCond .ne 9, 3) := by decide +kernel
theorem dX8_disconnect_31 : decode cX8_disconnect 31 = .ok (.aload_n 0, 1) := by decide +kernel
theorem dX8_disconnect_32 : decode cX8_disconnect 32 = .ok (.iconst 2, 1) := by decide +kernel
theorem dX8_disconnect_33 : decode cX8_disconnect 33 = .ok (.invokevirtual 172, 3) := by decide +kernel
theorem dX8_disconnect_36 : decode cX8_disconnect 36 = .ok (.ireturn, 1) := by decide +kernel
theorem dX8_disconnect_37 : decode cX8_disconnect 37 = .ok (.aload_n 0, 1) := by decide +kernel
theorem dX8_disconnect_38 : decode cX8_disconnect 38 = .ok (.getfield 108, 3) := by decide +kernel
theorem dX8_disconnect_41 : decode cX8_disconnect 41 = .ok (.sipush 250, 3) := by decide +kernel
theorem dX8_disconnect_44 : decode cX8_disconnect 44 = .ok (.if_icmp .ne 9, 3) := by decide +kernel
theorem dX8_disconnect_47 : decode cX8_disconnect 47 = .ok (.aload_n 0, 1) := by decide +kernel
theorem dX8_disconnect_48 : decode cX8_disconnect 48 = .ok (.iconst 3, 1) := by decide +kernel
theorem dX8_disconnect_49 : decode cX8_disconnect 49 = .ok (.invokevirtual 172, 3) := by decide +kernel
theorem dX8_disconnect_52 : decode cX8_disconnect 52 = .ok (.ireturn, 1) := by decide +kernel
theorem dX8_disconnect_53 : decode cX8_disconnect 53 = .ok (.aload_n 0, 1) := by decide +kernel
theorem dX8_disconnect_54 : decode cX8_disconnect 54 = .ok (.bipush 48, 2) := by decide +kernel
theorem dX8_disconnect_56 : decode cX8_disconnect 56 = .ok (.iload_n 2, 1) := by decide +kernel
theorem dX8_disconnect_57 : decode cX8_disconnect 57 = .ok (.iadd, 1) := by decide +kernel
theorem dX8_disconnect_58 : decode cX8_disconnect 58 = .ok (.iconst 0, 1) := by decide +kernel
theorem dX8_disconnect_59 : decode cX8_disconnect 59 = .ok (.invokevirtual 179, 3) := by decide +kernel
theorem dX8_disconnect_62 : decode cX8_disconnect 62 = .ok (.aload_n 0, 1) := by decide +kernel
theorem dX8_disconnect_63 : decode cX8_disconnect 63 = .ok (.iload_n 1, 1) := by decide +kernel
theorem dX8_disconnect_64 : decode cX8_disconnect 64 = .ok (.iconst 1, 1) := by decide +kernel
theorem dX8_disconnect_65 : decode cX8_disconnect 65 = .ok (.invokevirtual 186, 3) := by decide +kernel
theorem dX8_disconnect_68 : decode cX8_disconnect 68 = .ok (.aload_n 0, 1) := by decide +kernel
theorem dX8_disconnect_69 : decode cX8_disconnect 69 = .ok (.invokevirtual 216, 3) := by decide +kernel
theorem dX8_disconnect_72 : decode cX8_disconnect 72 = .ok (.ireturn, 1) := by decide +kernel
theorem dX8_vote_0 : decode cX8_vote 0 = .ok (.aload_n 0, 1) := by decide +kernel
theorem dX8_vote_1 : decode cX8_vote 1 = .ok (.iconst 0, 1) := by decide +kernel
theorem dX8_vote_2 : decode cX8_vote 2 = .ok (.putfield 97, 3) := by decide +kernel
theorem dX8_vote_5 : decode cX8_vote 5 = .ok (.iload_n 1, 1) := by decide +kernel
theorem dX8_vote_6 : decode cX8_vote 6 = .ok (.invokestatic 165, 3) := by decide +kernel
theorem dX8_vote_9 : decode cX8_vote 9 = .ok (.ifCond .eq 12, 3) := by decide +kernel
theorem dX8_vote_12 : decode cX8_vote 12 = .ok (.iload_n 3, 1) := by decide +kernel
theorem dX8_vote_13 : decode cX8_vote 13 = .ok (.iconst 0, 1) := by decide +kernel
theorem dX8_vote_14 : decode cX8_vote 14 = .ok (.iconst 3, 1) := by decide +kernel
theorem dX8_vote_15 : decode cX8_vote 15 = .ok (.invokestatic 101, 3) := by decide +kernel
theorem dX8_vote_18 : decode cX8_vote 18 = .ok (.ifCond .ne 9, 3) := by decide +kernel
theorem dX8_vote_21 : decode cX8_vote 21 = .ok (.aload_n 0, 1) := by decide +kernel
theorem dX8_vote_22 : decode cX8_vote 22 = .ok (.iconst 1, 1) := by decide +kernel
theorem dX8_vote_23 : decode cX8_vote 23 = .ok (.invokevirtual 172, 3) := by decide +kernel
theorem dX8_vote_26 : decode cX8_vote 26 = .ok (.ireturn, 1) := by decide +kernel
theorem dX8_vote_27 : decode cX8_vote 27 = .ok (.aload_n 0, 1) := by decide +kernel
theorem dX8_vote_28 : decode cX8_vote 28 = .ok (.iload_n 1, 1) := by decide +kernel
theorem dX8_vote_29 : decode cX8_vote 29 = .ok (.invokevirtual 161, 3) := by decide +kernel
theorem dX8_vote_32 : decode cX8_vote 32 = .ok (.aload_n 0, 1) := by decide +kernel
theorem dX8_vote_33 : decode cX8_vote 33 = .ok (.iload_n 2, 1) := by decide +kernel
theorem dX8_vote_34 : decode cX8_vote 34 = .ok (.invokevirtual 125, 3) := by decide +kernel
theorem dX8_vote_37 : decode cX8_vote 37 = .ok (.ifCond .ne 9, 3) := by decide +kernel
theorem dX8_vote_40 : decode cX8_vote 40 = .ok (.aload_n 0, 1) := by decide +kernel
theorem dX8_vote_41 : decode cX8_vote 41 = .ok (.iconst 2, 1) := by decide +kernel
theorem dX8_vote_42 : decode cX8_vote 42 = .ok (.invokevirtual 172, 3) := by decide +kernel
theorem dX8_vote_45 : decode cX8_vote 45 = .ok (.ireturn, 1) := by decide +kernel
theorem dX8_vote_46 : decode cX8_vote 46 = .ok (.bipush 56, 2) := by decide +kernel
theorem dX8_vote_48 : decode cX8_vote 48 = .ok (.bipush 12, 2) := by decide +kernel
theorem dX8_vote_50 : decode cX8_vote 50 = .ok (.iload_n 1, 1) := by decide +kernel
theorem dX8_vote_51 : decode cX8_vote 51 = .ok (.imul, 1) := by decide +kernel
theorem dX8_vote_52 : decode cX8_vote 52 = .ok (.iadd, 1) := by decide +kernel
theorem dX8_vote_53 : decode cX8_vote 53 = .ok (.istore 4, 2) := by decide +kernel
theorem dX8_vote_55 : decode cX8_vote 55 = .ok (.iload_n 3, 1) := by decide +kernel
theorem dX8_vote_56 : decode cX8_vote 56 = .ok (.aload_n 0, 1) := by decide +kernel
theorem dX8_vote_57 : decode cX8_vote 57 = .ok (.getfield 67, 3) := by decide +kernel
theorem dX8_vote_60 : decode cX8_vote 60 = .ok (.iload 4, 2) := by decide +kernel
theorem dX8_vote_62 : decode cX8_vote 62 = .ok (.iload_n 2, 1) := by decide +kernel
theorem dX8_vote_63 : decode cX8_vote 63 = .ok (.iadd, 1) := by decide +kernel
theorem dX8_vote_64 : decode cX8_vote 64 = .ok (.iaload, 1) := by decide +kernel
theorem dX8_vote_65 : decode cX8_vote 65 = .ok (.isub, 1) := by decide +kernel
theorem dX8_vote_66 : decode cX8_vote 66 = .ok (.istore 5, 2) := by decide +kernel
theorem dX8_vote_68 : decode cX8_vote 68 = .ok (.iconst 0, 1) := by decide +kernel
theorem dX8_vote_69 : decode cX8_vote 69 = .ok (.istore 6, 2) := by decide +kernel
theorem dX8_vote_71 : decode cX8_vote 71 = .ok (.iload 6, 2) := by decide +kernel
theorem dX8_vote_73 : decode cX8_vote 73 = .ok (.bipush 12, 2) := by decide +kernel
theorem dX8_vote_75 : decode cX8_vote 75 = .ok (.if_icmp .ge 24, 3) := by decide +kernel
theorem dX8_vote_78 : decode cX8_vote 78 = .ok (.iload 5, 2) := by decide +kernel
theorem dX8_vote_80 : decode cX8_vote 80 = .ok (.aload_n 0, 1) := by decide +kernel
theorem dX8_vote_81 : decode cX8_vote 81 = .ok (.getfield 67, 3) := by decide +kernel
theorem dX8_vote_84 : decode cX8_vote 84 = .ok (.iload 4, 2) := by decide +kernel
theorem dX8_vote_86 : decode cX8_vote 86 = .ok (.iload 6, 2) := by decide +kernel
theorem dX8_vote_88 : decode cX8_vote 88 = .ok (.iadd, 1) := by decide +kernel
theorem dX8_vote_89 : decode cX8_vote 89 = .ok (.iaload, 1) := by decide +kernel
theorem dX8_vote_90 : decode cX8_vote 90 = .ok (.iadd, 1) := by decide +kernel
theorem dX8_vote_91 : decode cX8_vote 91 = .ok (.istore 5, 2) := by decide +kernel
theorem dX8_vote_93 : decode cX8_vote 93 = .ok (.iinc 6 1, 3) := by decide +kernel
theorem dX8_vote_96 : decode cX8_vote 96 = .ok (.goto (-25), 3) := by decide +kernel
theorem dX8_vote_99 : decode cX8_vote 99 = .ok (.aload_n 0, 1) := by decide +kernel
theorem dX8_vote_100 : decode cX8_vote 100 = .ok (.getfield 67, 3) := by decide +kernel
theorem dX8_vote_103 : decode cX8_vote 103 = .ok (.bipush 92, 2) := by decide +kernel
theorem dX8_vote_105 : decode cX8_vote 105 = .ok (.iaload, 1) := by decide +kernel
theorem dX8_vote_106 : decode cX8_vote 106 = .ok (.iconst 1, 1) := by decide +kernel
theorem dX8_vote_107 : decode cX8_vote 107 = .ok (.if_icmp .eq 9, 3) := by decide +kernel
theorem dX8_vote_110 : decode cX8_vote 110 = .ok (.iload 5, 2) := by decide +kernel
theorem dX8_vote_112 : decode cX8_vote 112 = .ok (.iconst 5, 1) := by decide +kernel
theorem dX8_vote_113 : decode cX8_vote 113 = .ok (.if_icmp .le 9, 3) := by decide +kernel
theorem dX8_vote_116 : decode cX8_vote 116 = .ok (.aload_n 0, 1) := by decide +kernel
theorem dX8_vote_117 : decode cX8_vote 117 = .ok (.iconst 3, 1) := by decide +kernel
theorem dX8_vote_118 : decode cX8_vote 118 = .ok (.invokevirtual 172, 3) := by decide +kernel
theorem dX8_vote_121 : decode cX8_vote 121 = .ok (.ireturn, 1) := by decide +kernel
theorem dX8_vote_122 : decode cX8_vote 122 = .ok (.aload_n 0, 1) := by decide +kernel
theorem dX8_vote_123 : decode cX8_vote 123 = .ok (.getfield 108, 3) := by decide +kernel
theorem dX8_vote_126 : decode cX8_vote 126 = .ok (.sipush 250, 3) := by decide +kernel
theorem dX8_vote_129 : decode cX8_vote 129 = .ok (.if_icmp .ne 9, 3) := by decide +kernel
theorem dX8_vote_132 : decode cX8_vote 132 = .ok (.aload_n 0, 1) := by decide +kernel
theorem dX8_vote_133 : decode cX8_vote 133 = .ok (.iconst 4, 1) := by decide +kernel
theorem dX8_vote_134 : decode cX8_vote 134 = .ok (.invokevirtual 172, 3) := by decide +kernel
theorem dX8_vote_137 : decode cX8_vote 137 = .ok (.ireturn, 1) := by decide +kernel
theorem dX8_vote_138 : decode cX8_vote 138 = .ok (.aload_n 0, 1) := by decide +kernel
theorem dX8_vote_139 : decode cX8_vote 139 = .ok (.getfield 67, 3) := by decide +kernel
theorem dX8_vote_142 : decode cX8_vote 142 = .ok (.iload 4, 2) := by decide +kernel
theorem dX8_vote_144 : decode cX8_vote 144 = .ok (.iload_n 2, 1) := by decide +kernel
theorem dX8_vote_145 : decode cX8_vote 145 = .ok (.iadd, 1) := by decide +kernel
