theorem dX8_vote_146 : decode cX8_vote 146 = .ok (.iaload, 1) := by decide +kernel
theorem dX8_vote_147 : decode cX8_vote 147 = .ok (.istore 6, 2) := by decide +kernel
theorem dX8_vote_149 : decode cX8_vote 149 = .ok (.aload_n 0, 1) := by decide +kernel
theorem dX8_vote_150 : decode cX8_vote 150 = .ok (.iload 4, 2) := by decide +kernel
theorem dX8_vote_152 : decode cX8_vote 152 = .ok (.iload_n 2, 1) := by decide +kernel
theorem dX8_vote_153 : decode cX8_vote 153 = .ok (.iadd, 1) := by decide +kernel
theorem dX8_vote_154 : decode cX8_vote 154 = .ok (.iload_n 3, 1) := by decide +kernel
theorem dX8_vote_155 : decode cX8_vote 155 = .ok (.invokevirtual 179, 3) := by decide +kernel
theorem dX8_vote_158 : decode cX8_vote 158 = .ok (.aload_n 0, 1) := by decide +kernel
theorem dX8_vote_159 : decode cX8_vote 159 = .ok (.iload_n 1, 1) := by decide +kernel
theorem dX8_vote_160 : decode cX8_vote 160 = .ok (.iconst 1, 1) := by decide +kernel
theorem dX8_vote_161 : decode cX8_vote 161 = .ok (.invokevirtual 186, 3) := by decide +kernel
theorem dX8_vote_164 : decode cX8_vote 164 = .ok (.iload 6, 2) := by decide +kernel
theorem dX8_vote_166 : decode cX8_vote 166 = .ok (.ireturn, 1) := by decide +kernel
theorem dX8_show_0 : decode cX8_show 0 = .ok (.aload_n 0, 1) := by decide +kernel
theorem dX8_show_1 : decode cX8_show 1 = .ok (.iconst 0, 1) := by decide +kernel
theorem dX8_show_2 : decode cX8_show 2 = .ok (.putfield 97, 3) := by decide +kernel
theorem dX8_show_5 : decode cX8_show 5 = .ok (.iload_n 1, 1) := by decide +kernel
theorem dX8_show_6 : decode cX8_show 6 = .ok (.invokestatic 165, 3) := by decide +kernel
theorem dX8_show_9 : decode cX8_show 9 = .ok (.ifCond .ne 9, 3) := by decide +kernel
theorem dX8_show_12 : decode cX8_show 12 = .ok (.aload_n 0, 1) := by decide +kernel
theorem dX8_show_13 : decode cX8_show 13 = .ok (.iconst 1, 1) := by decide +kernel
theorem dX8_show_14 : decode cX8_show 14 = .ok (.invokevirtual 219, 3) := by decide +kernel
theorem dX8_show_17 : decode cX8_show 17 = .ok (.ireturn, 1) := by decide +kernel
theorem dX8_show_18 : decode cX8_show 18 = .ok (.aload_n 0, 1) := by decide +kernel
theorem dX8_show_19 : decode cX8_show 19 = .ok (.getfield 108, 3) := by decide +kernel
theorem dX8_show_22 : decode cX8_show 22 = .ok (.sipush 250, 3) := by decide +kernel
theorem dX8_show_25 : decode cX8_show 25 = .ok (.if_icmp .ne 9, 3) := by decide +kernel
theorem dX8_show_28 : decode cX8_show 28 = .ok (.aload_n 0, 1) := by decide +kernel
theorem dX8_show_29 : decode cX8_show 29 = .ok (.iconst 2, 1) := by decide +kernel
theorem dX8_show_30 : decode cX8_show 30 = .ok (.invokevirtual 219, 3) := by decide +kernel
theorem dX8_show_33 : decode cX8_show 33 = .ok (.ireturn, 1) := by decide +kernel
theorem dX8_show_34 : decode cX8_show 34 = .ok (.aload_n 0, 1) := by decide +kernel
theorem dX8_show_35 : decode cX8_show 35 = .ok (.iload_n 1, 1) := by decide +kernel
theorem dX8_show_36 : decode cX8_show 36 = .ok (.invokevirtual 161, 3) := by decide +kernel
theorem dX8_show_39 : decode cX8_show 39 = .ok (.aload_n 0, 1) := by decide +kernel
theorem dX8_show_40 : decode cX8_show 40 = .ok (.getfield 67, 3) := by decide +kernel
theorem dX8_show_43 : decode cX8_show 43 = .ok (.bipush 92, 2) := by decide +kernel
theorem dX8_show_45 : decode cX8_show 45 = .ok (.iaload, 1) := by decide +kernel
theorem dX8_show_46 : decode cX8_show 46 = .ok (.iconst 1, 1) := by decide +kernel
theorem dX8_show_47 : decode cX8_show 47 = .ok (.if_icmp .ne 7, 3) := by decide +kernel
theorem dX8_show_50 : decode cX8_show 50 = .ok (.iconst 1, 1) := by decide +kernel
theorem dX8_show_51 : decode cX8_show 51 = .ok (.goto 4, 3) := by decide +kernel
theorem dX8_show_54 : decode cX8_show 54 = .ok (.iconst 0, 1) := by decide +kernel
theorem dX8_show_55 : decode cX8_show 55 = .ok (.istore_n 3, 1) := by decide +kernel
theorem dX8_show_56 : decode cX8_show 56 = .ok (.aload_n 0, 1) := by decide +kernel
theorem dX8_show_57 : decode cX8_show 57 = .ok (.bipush 92, 2) := by decide +kernel
theorem dX8_show_59 : decode cX8_show 59 = .ok (.iload_n 2, 1) := by decide +kernel
theorem dX8_show_60 : decode cX8_show 60 = .ok (.ifCond .eq 7, 3) := by decide +kernel
theorem dX8_show_63 : decode cX8_show 63 = .ok (.iconst 1, 1) := by decide +kernel
theorem dX8_show_64 : decode cX8_show 64 = .ok (.goto 4, 3) := by decide +kernel
theorem dX8_show_67 : decode cX8_show 67 = .ok (.iconst 0, 1) := by decide +kernel
theorem dX8_show_68 : decode cX8_show 68 = .ok (.invokevirtual 179, 3) := by decide +kernel
theorem dX8_show_71 : decode cX8_show 71 = .ok (.aload_n 0, 1) := by decide +kernel
theorem dX8_show_72 : decode cX8_show 72 = .ok (.iload_n 1, 1) := by decide +kernel
theorem dX8_show_73 : decode cX8_show 73 = .ok (.iconst 1, 1) := by decide +kernel
theorem dX8_show_74 : decode cX8_show 74 = .ok (.invokevirtual 186, 3) := by decide +kernel
theorem dX8_show_77 : decode cX8_show 77 = .ok (.iload_n 3, 1) := by decide +kernel
theorem dX8_show_78 : decode cX8_show 78 = .ok (.ireturn, 1) := by decide +kernel
theorem dX8_takeBack_0 : decode cX8_takeBack 0 = .ok (.aload_n 0, 1) := by decide +kernel
theorem dX8_takeBack_1 : decode cX8_takeBack 1 = .ok (.iconst 0, 1) := by decide +kernel
theorem dX8_takeBack_2 : decode cX8_takeBack 2 = .ok (.putfield 97, 3) := by decide +kernel
theorem dX8_takeBack_5 : decode cX8_takeBack 5 = .ok (.iload_n 1, 1) := by decide +kernel
theorem dX8_takeBack_6 : decode cX8_takeBack 6 = .ok (.invokestatic 165, 3) := by decide +kernel
theorem dX8_takeBack_9 : decode cX8_takeBack 9 = .ok (.ifCond .ne 9, 3) := by decide +kernel
theorem dX8_takeBack_12 : decode cX8_takeBack 12 = .ok (.aload_n 0, 1) := by decide +kernel
theorem dX8_takeBack_13 : decode cX8_takeBack 13 = .ok (.iconst 1, 1) := by decide +kernel
theorem dX8_takeBack_14 : decode cX8_takeBack 14 = .ok (.invokevirtual 172, 3) := by decide +kernel
theorem dX8_takeBack_17 : decode cX8_takeBack 17 = .ok (.ireturn, 1) := by decide +kernel
theorem dX8_takeBack_18 : decode cX8_takeBack 18 = .ok (.aload_n 0, 1) := by decide +kernel
theorem dX8_takeBack_19 : decode cX8_takeBack 19 = .ok (.getfield 108, 3) := by decide +kernel
theorem dX8_takeBack_22 : decode cX8_takeBack 22 = .ok (.iconst 1, 1) := by decide +kernel
theorem dX8_takeBack_23 : decode cX8_takeBack 23 = .ok (.isub, 1) := by decide +kernel
theorem dX8_takeBack_24 : decode cX8_takeBack 24 = .ok (.istore_n 2, 1) := by decide +kernel
theorem dX8_takeBack_25 : decode cX8_takeBack 25 = .ok (.iload_n 2, 1) := by decide +kernel
theorem dX8_takeBack_26 : decode cX8_takeBack 26 = .ok (.ifCond .lt 28, 3) := by decide +kernel
theorem dX8_takeBack_29 : decode cX8_takeBack 29 = .ok (.aload_n 0, 1) := by decide +kernel
theorem dX8_takeBack_30 : decode cX8_takeBack 30 = .ok (.getfield 59, 3) := by decide +kernel
theorem dX8_takeBack_33 : decode cX8_takeBack 33 = .ok (.iload_n 2, 1) := by decide +kernel
theorem dX8_takeBack_34 : decode cX8_takeBack 34 = .ok (.baload, 1) := by decide +kernel
theorem dX8_takeBack_35 : decode cX8_takeBack 35 = .ok (.ifCond .eq 13, 3) := by decide +kernel
theorem dX8_takeBack_38 : decode cX8_takeBack 38 = .ok (.aload_n 0, 1) := by decide +kernel
theorem dX8_takeBack_39 : decode cX8_takeBack 39 = .ok (.getfield 33, 3) := by decide +kernel
theorem dX8_takeBack_42 : decode cX8_takeBack 42 = .ok (.iload_n 2, 1) := by decide +kernel
theorem dX8_takeBack_43 : decode cX8_takeBack 43 = .ok (.iaload, 1) := by decide +kernel
theorem dX8_takeBack_44 : decode cX8_takeBack 44 = .ok (.iload_n 1, 1) := by decide +kernel
theorem dX8_takeBack_45 : decode cX8_takeBack 45 = .ok (.if_icmp .eq 9, 3) := by decide +kernel
theorem dX8_takeBack_48 : decode cX8_takeBack 48 = .ok (.iinc 2 (-1), 3) := by decide +kernel
theorem dX8_takeBack_51 : decode cX8_takeBack 51 = .ok (.goto (-26), 3) := by decide +kernel
theorem dX8_takeBack_54 : decode cX8_takeBack 54 = .ok (.iload_n 2, 1) := by decide +kernel
theorem dX8_takeBack_55 : decode cX8_takeBack 55 = .ok (.ifCond .ge 9, 3) := by decide +kernel
theorem dX8_takeBack_58 : decode cX8_takeBack 58 = .ok (.aload_n 0, 1) := by decide +kernel
theorem dX8_takeBack_59 : decode cX8_takeBack 59 = .ok (.iconst 2, 1) := by decide +kernel
theorem dX8_takeBack_60 : decode cX8_takeBack 60 = .ok (.invokevirtual 172, 3) := by decide +kernel
theorem dX8_takeBack_63 : decode cX8_takeBack 63 = .ok (.ireturn, 1) := by decide +kernel
theorem dX8_takeBack_64 : decode cX8_takeBack 64 = .ok (.aload_n 0, 1) := by decide +kernel
theorem dX8_takeBack_65 : decode cX8_takeBack 65 = .ok (.getfield 108, 3) := by decide +kernel
theorem dX8_takeBack_68 : decode cX8_takeBack 68 = .ok (.sipush 250, 3) := by decide +kernel
theorem dX8_takeBack_71 : decode cX8_takeBack 71 = .ok (.if_icmp .ne 9, 3) := by decide +kernel
theorem dX8_takeBack_74 : decode cX8_takeBack 74 = .ok (.aload_n 0, 1) := by decide +kernel
theorem dX8_takeBack_75 : decode cX8_takeBack 75 = .ok (.iconst 3, 1) := by decide +kernel
theorem dX8_takeBack_76 : decode cX8_takeBack 76 = .ok (.invokevirtual 172, 3) := by decide +kernel
theorem dX8_takeBack_79 : decode cX8_takeBack 79 = .ok (.ireturn, 1) := by decide +kernel
theorem dX8_takeBack_80 : decode cX8_takeBack 80 = .ok (.aload_n 0, 1) := by decide +kernel
theorem dX8_takeBack_81 : decode cX8_takeBack 81 = .ok (.iload_n 1, 1) := by decide +kernel
theorem dX8_takeBack_82 : decode cX8_takeBack 82 = .ok (.invokevirtual 161, 3) := by decide +kernel
theorem dX8_takeBack_85 : decode cX8_takeBack 85 = .ok (.iconst 0, 1) := by decide +kernel
theorem dX8_takeBack_86 : decode cX8_takeBack 86 = .ok (.istore_n 3, 1) := by decide +kernel
theorem dX8_takeBack_87 : decode cX8_takeBack 87 = .ok (.iload_n 3, 1) := by decide +kernel
theorem dX8_takeBack_88 : decode cX8_takeBack 88 = .ok (.aload_n 0, 1) := by decide +kernel
theorem dX8_takeBack_89 : decode cX8_takeBack 89 = .ok (.getfield 39, 3) := by decide +kernel
theorem dX8_takeBack_92 : decode cX8_takeBack 92 = .ok (.iload_n 2, 1) := by decide +kernel
theorem dX8_takeBack_93 : decode cX8_takeBack 93 = .ok (.iaload, 1) := by decide +kernel
theorem dX8_takeBack_94 : decode cX8_takeBack 94 = .ok (.if_icmp .ge 54, 3) := by decide +kernel
theorem dX8_takeBack_97 : decode cX8_takeBack 97 = .ok (.aload_n 0, 1) := by decide +kernel
theorem dX8_takeBack_98 : decode cX8_takeBack 98 = .ok (.getfield 73, 3) := by decide +kernel
theorem dX8_takeBack_101 : decode cX8_takeBack 101 = .ok (.aload_n 0, 1) := by decide +kernel
theorem dX8_takeBack_102 : decode cX8_takeBack 102 = .ok (.getfield 44, 3) := by decide +kernel
theorem dX8_takeBack_105 : decode cX8_takeBack 105 = .ok (.iload_n 2, 1) := by decide +kernel
theorem dX8_takeBack_106 : decode cX8_takeBack 106 = .ok (.aaload, 1) := by decide +kernel
theorem dX8_takeBack_107 : decode cX8_takeBack 107 = .ok (.iload_n 3, 1) := by decide +kernel
theorem dX8_takeBack_108 : decode cX8_takeBack 108 = .ok (.iaload, 1) := by decide +kernel
theorem dX8_takeBack_109 : decode cX8_takeBack 109 = .ok (.iaload, 1) := by decide +kernel
theorem dX8_takeBack_110 : decode cX8_takeBack 110 = .ok (.iload_n 2, 1) := by decide +kernel
theorem dX8_takeBack_111 : decode cX8_takeBack 111 = .ok (.if_icmp .ne 31, 3) := by decide +kernel
theorem dX8_takeBack_114 : decode cX8_takeBack 114 = .ok (.aload_n 0, 1) := by decide +kernel
theorem dX8_takeBack_115 : decode cX8_takeBack 115 = .ok (.aload_n 0, 1) := by decide +kernel
theorem dX8_takeBack_116 : decode cX8_takeBack 116 = .ok (.getfield 44, 3) := by decide +kernel
theorem dX8_takeBack_119 : decode cX8_takeBack 119 = .ok (.iload_n 2, 1) := by decide +kernel
theorem dX8_takeBack_120 : decode cX8_takeBack 120 = .ok (.aaload, 1) := by decide +kernel
theorem dX8_takeBack_121 : decode cX8_takeBack 121 = .ok (.iload_n 3, 1) := by decide +kernel
theorem dX8_takeBack_122 : decode cX8_takeBack 122 = .ok (.iaload, 1) := by decide +kernel
theorem dX8_takeBack_123 : decode cX8_takeBack 123 = .ok (.aload_n 0, 1) := by decide +kernel
theorem dX8_takeBack_124 : decode cX8_takeBack 124 = .ok (.getfield 50, 3) := by decide +kernel
theorem dX8_takeBack_127 : decode cX8_takeBack 127 = .ok (.iload_n 2, 1) := by decide +kernel
theorem dX8_takeBack_128 : decode cX8_takeBack 128 = .ok (.aaload, 1) := by decide +kernel
theorem dX8_takeBack_129 : decode cX8_takeBack 129 = .ok (.iload_n 3, 1) := by decide +kernel
theorem dX8_takeBack_130 : decode cX8_takeBack 130 = .ok (.iaload, 1) := by decide +kernel
theorem dX8_takeBack_131 : decode cX8_takeBack 131 = .ok (.aload_n 0, 1) := by decide +kernel
theorem dX8_takeBack_132 : decode cX8_takeBack 132 = .ok (.getfield 56, 3) := by decide +kernel
theorem dX8_takeBack_135 : decode cX8_takeBack 135 = .ok (.iload_n 2, 1) := by decide +kernel
theorem dX8_takeBack_136 : decode cX8_takeBack 136 = .ok (.aaload, 1) := by decide +kernel
theorem dX8_takeBack_137 : decode cX8_takeBack 137 = .ok (.iload_n 3, 1) := by decide +kernel
theorem dX8_takeBack_138 : decode cX8_takeBack 138 = .ok (.iaload, 1) := by decide +kernel
theorem dX8_takeBack_139 : decode cX8_takeBack 139 = .ok (.invokevirtual 151, 3) := by decide +kernel
theorem dX8_takeBack_142 : decode cX8_takeBack 142 = .ok (.iinc 3 1, 3) := by decide +kernel
theorem dX8_takeBack_145 : decode cX8_takeBack 145 = .ok (.goto (-58), 3) := by decide +kernel
theorem dX8_takeBack_148 : decode cX8_takeBack 148 = .ok (.aload_n 0, 1) := by decide +kernel
theorem dX8_takeBack_149 : decode cX8_takeBack 149 = .ok (.getfield 59, 3) := by decide +kernel
theorem dX8_takeBack_152 : decode cX8_takeBack 152 = .ok (.iload_n 2, 1) := by decide +kernel
theorem dX8_takeBack_153 : decode cX8_takeBack 153 = .ok (.iconst 0, 1) := by decide +kernel
theorem dX8_takeBack_154 : decode cX8_takeBack 154 = .ok (.bastore, 1) := by decide +kernel
theorem dX8_takeBack_155 : decode cX8_takeBack 155 = .ok (.aload_n 0, 1) := by decide +kernel
theorem dX8_takeBack_156 : decode cX8_takeBack 156 = .ok (.getfield 148, 3) := by decide +kernel
theorem dX8_takeBack_159 : decode cX8_takeBack 159 = .ok (.istore_n 3, 1) := by decide +kernel
theorem dX8_takeBack_160 : decode cX8_takeBack 160 = .ok (.aload_n 0, 1) := by decide +kernel
theorem dX8_takeBack_161 : decode cX8_takeBack 161 = .ok (.iload_n 1, 1) := by decide +kernel
theorem dX8_takeBack_162 : decode cX8_takeBack 162 = .ok (.iconst 0, 1) := by decide +kernel
theorem dX8_takeBack_163 : decode cX8_takeBack 163 = .ok (.invokevirtual 186, 3) := by decide +kernel
theorem dX8_takeBack_166 : decode cX8_takeBack 166 = .ok (.iload_n 3, 1) := by decide +kernel
theorem dX8_takeBack_167 : decode cX8_takeBack 167 = .ok (.ireturn, 1) := by decide +kernel
theorem dX8_isOperation_0 : decode cX8_isOperation 0 = .ok (.iload_n 1, 1) := by decide +kernel
theorem dX8_isOperation_1 : decode cX8_isOperation 1 = .ok (.iconst 0, 1) := by decide +kernel
theorem dX8_isOperation_2 : decode cX8_isOperation 2 = .ok (.aload_n 0, 1) := by decide +kernel
theorem dX8_isOperation_3 : decode cX8_isOperation 3 = .ok (.getfield 108, 3) := by decide +kernel
theorem dX8_isOperation_6 : decode cX8_isOperation 6 = .ok (.iconst 1, 1) := by decide +kernel
theorem dX8_isOperation_7 : decode cX8_isOperation 7 = .ok (.isub, 1) := by decide +kernel
theorem dX8_isOperation_8 : decode cX8_isOperation 8 = .ok (.invokestatic 101, 3) := by decide +kernel
theorem dX8_isOperation_11 : decode cX8_isOperation 11 = .ok (.ireturn, 1) := by decide +kernel
theorem dX8_knownMany_0 : decode cX8_knownMany 0 = .ok (.iconst 0, 1) := by decide +kernel
theorem dX8_knownMany_1 : decode cX8_knownMany 1 = .ok (.istore_n 2, 1) := by decide +kernel
theorem dX8_knownMany_2 : decode cX8_knownMany 2 = .ok (.iconst 0, 1) := by decide +kernel
theorem dX8_knownMany_3 : decode cX8_knownMany 3 = .ok (.istore_n 3, 1) := by decide +kernel
theorem dX8_knownMany_4 : decode cX8_knownMany 4 = .ok (.iload_n 3, 1) := by decide +kernel
theorem dX8_knownMany_5 : decode cX8_knownMany 5 = .ok (.aload_n 0, 1) := by decide +kernel
theorem dX8_knownMany_6 : decode cX8_knownMany 6 = .ok (.getfield 108, 3) := by decide +kernel
theorem dX8_knownMany_9 : decode cX8_knownMany 9 = .ok (.if_icmp .ge 28, 3) := by decide +kernel
theorem dX8_knownMany_12 : decode cX8_knownMany 12 = .ok (.iload_n 2, 1) := by decide +kernel
theorem dX8_knownMany_13 : decode cX8_knownMany 13 = .ok (.aload_n 0, 1) := by decide +kernel
theorem dX8_knownMany_14 : decode cX8_knownMany 14 = .ok (.getfield 64, 3) := by decide +kernel
theorem dX8_knownMany_17 : decode cX8_knownMany 17 = .ok (.iload_n 1, 1) := by decide +kernel
theorem dX8_knownMany_18 : decode cX8_knownMany 18 = .ok (.aaload, 1) := by decide +kernel
theorem dX8_knownMany_19 : decode cX8_knownMany 19 = .ok (.iload_n 3, 1) := by decide +kernel
theorem dX8_knownMany_20 : decode cX8_knownMany 20 = .ok (.baload, 1) := by decide +kernel
theorem dX8_knownMany_21 : decode cX8_knownMany 21 = .ok (.ifCond .eq 7, 3) := by decide +kernel
theorem dX8_knownMany_24 : decode cX8_knownMany 24 = .ok (.iconst 1, 1) := by decide +kernel
theorem dX8_knownMany_25 : decode cX8_knownMany 25 = .ok (.goto 4, 3) := by decide +kernel
theorem dX8_knownMany_28 : decode cX8_knownMany 28 = .ok (.iconst 0, 1) := by decide +kernel
theorem dX8_knownMany_29 : decode cX8_knownMany 29 = .ok (.iadd, 1) := by decide +kernel
theorem dX8_knownMany_30 : decode cX8_knownMany 30 = .ok (.istore_n 2, 1) := by decide +kernel
theorem dX8_knownMany_31 : decode cX8_knownMany 31 = .ok (.iinc 3 1, 3) := by decide +kernel
theorem dX8_knownMany_34 : decode cX8_knownMany 34 = .ok (.goto (-30), 3) := by decide +kernel
theorem dX8_knownMany_37 : decode cX8_knownMany 37 = .ok (.iload_n 2, 1) := by decide +kernel
theorem dX8_knownMany_38 : decode cX8_knownMany 38 = .ok (.ireturn, 1) := by decide +kernel
theorem dX8_deliver_0 : decode cX8_deliver 0 = .ok (.aload_n 0, 1) := by decide +kernel
theorem dX8_deliver_1 : decode cX8_deliver 1 = .ok (.iconst 0, 1) := by decide +kernel
theorem dX8_deliver_2 : decode cX8_deliver 2 = .ok (.putfield 97, 3) := by decide +kernel
theorem dX8_deliver_5 : decode cX8_deliver 5 = .ok (.iload_n 1, 1) := by decide +kernel
theorem dX8_deliver_6 : decode cX8_deliver 6 = .ok (.invokestatic 165, 3) := by decide +kernel
theorem dX8_deliver_9 : decode cX8_deliver 9 = .ok (.ifCond .ne 9, 3) := by decide +kernel
theorem dX8_deliver_12 : decode cX8_deliver 12 = .ok (.aload_n 0, 1) := by decide +kernel
theorem dX8_deliver_13 : decode cX8_deliver 13 = .ok (.iconst 1, 1) := by decide +kernel
theorem dX8_deliver_14 : decode cX8_deliver 14 = .ok (.invokevirtual 172, 3) := by decide +kernel
theorem dX8_deliver_17 : decode cX8_deliver 17 = .ok (.ireturn, 1) := by decide +kernel
theorem dX8_deliver_18 : decode cX8_deliver 18 = .ok (.aload_n 0, 1) := by decide +kernel
theorem dX8_deliver_19 : decode cX8_deliver 19 = .ok (.iload_n 2, 1) := by decide +kernel
theorem dX8_deliver_20 : decode cX8_deliver 20 = .ok (.invokevirtual 222, 3) := by decide +kernel
theorem dX8_deliver_23 : decode cX8_deliver 23 = .ok (.ifCond .ne 9, 3) := by decide +kernel
theorem dX8_deliver_26 : decode cX8_deliver 26 = .ok (.aload_n 0, 1) := by decide +kernel
theorem dX8_deliver_27 : decode cX8_deliver 27 = .ok (.iconst 2, 1) := by decide +kernel
theorem dX8_deliver_28 : decode cX8_deliver 28 = .ok (.invokevirtual 172, 3) := by decide +kernel
theorem dX8_deliver_31 : decode cX8_deliver 31 = .ok (.ireturn, 1) := by decide +kernel
theorem dX8_deliver_32 : decode cX8_deliver 32 = .ok (.aload_n 0, 1) := by decide +kernel
theorem dX8_deliver_33 : decode cX8_deliver 33 = .ok (.getfield 64, 3) := by decide +kernel
theorem dX8_deliver_36 : decode cX8_deliver 36 = .ok (.iload_n 1, 1) := by decide +kernel
theorem dX8_deliver_37 : decode cX8_deliver 37 = .ok (.aaload, 1) := by decide +kernel
theorem dX8_deliver_38 : decode cX8_deliver 38 = .ok (.iload_n 2, 1) := by decide +kernel
theorem dX8_deliver_39 : decode cX8_deliver 39 = .ok (.baload, 1) := by decide +kernel
theorem dX8_deliver_40 : decode cX8_deliver 40 = .ok (.ifCond .eq 9, 3) := by decide +kernel
theorem dX8_deliver_43 : decode cX8_deliver 43 = .ok (.aload_n 0, 1) := by decide +kernel
theorem dX8_deliver_44 : decode cX8_deliver 44 = .ok (.iconst 3, 1) := by decide +kernel
theorem dX8_deliver_45 : decode cX8_deliver 45 = .ok (.invokevirtual 172, 3) := by decide +kernel
theorem dX8_deliver_48 : decode cX8_deliver 48 = .ok (.ireturn, 1) := by decide +kernel
theorem dX8_deliver_49 : decode cX8_deliver 49 = .ok (.aload_n 0, 1) := by decide +kernel
theorem dX8_deliver_50 : decode cX8_deliver 50 = .ok (.getfield 64, 3) := by decide +kernel
theorem dX8_deliver_53 : decode cX8_deliver 53 = .ok (.iload_n 1, 1) := by decide +kernel
theorem dX8_deliver_54 : decode cX8_deliver 54 = .ok (.aaload, 1) := by decide +kernel
theorem dX8_deliver_55 : decode cX8_deliver 55 = .ok (.iload_n 2, 1) := by decide +kernel
theorem dX8_deliver_56 : decode cX8_deliver 56 = .ok (.iconst 1, 1) := by decide +kernel
theorem dX8_deliver_57 : decode cX8_deliver 57 = .ok (.bastore, 1) := by decide +kernel
theorem dX8_deliver_58 : decode cX8_deliver 58 = .ok (.aload_n 0, 1) := by decide +kernel
theorem dX8_deliver_59 : decode cX8_deliver 59 = .ok (.iload_n 1, 1) := by decide +kernel
theorem dX8_deliver_60 : decode cX8_deliver 60 = .ok (.invokevirtual 225, 3) := by decide +kernel
theorem dX8_deliver_63 : decode cX8_deliver 63 = .ok (.ireturn, 1) := by decide +kernel
theorem dX8_sync_0 : decode cX8_sync 0 = .ok (.aload_n 0, 1) := by decide +kernel
theorem dX8_sync_1 : decode cX8_sync 1 = .ok (.iconst 0, 1) := by decide +kernel
theorem dX8_sync_2 : decode cX8_sync 2 = .ok (.putfield 97, 3) := by decide +kernel
theorem dX8_sync_5 : decode cX8_sync 5 = .ok (.iload_n 1, 1) := by decide +kernel
theorem dX8_sync_6 : decode cX8_sync 6 = .ok (.invokestatic 165, 3) := by decide +kernel
theorem dX8_sync_9 : decode cX8_sync 9 = .ok (.ifCond .eq 15, 3) := by decide +kernel
theorem dX8_sync_12 : decode cX8_sync 12 = .ok (.iload_n 2, 1) := by decide +kernel
theorem dX8_sync_13 : decode cX8_sync 13 = .ok (.invokestatic 165, 3) := by decide +kernel
theorem dX8_sync_16 : decode cX8_sync 16 = .ok (.ifCond .eq 8, 3) := by decide +kernel
theorem dX8_sync_19 : decode cX8_sync 19 = .ok (.iload_n 1, 1) := by decide +kernel
theorem dX8_sync_20 : decode cX8_sync 20 = .ok (.iload_n 2, 1) := by decide +kernel
theorem dX8_sync_21 : decode cX8_sync 21 = .ok (.if_icmp .ne 9, 3) := by decide +kernel
theorem dX8_sync_24 : decode cX8_sync 24 = .ok (.aload_n 0, 1) := by decide +kernel
theorem dX8_sync_25 : decode cX8_sync 25 = .ok (.iconst 1, 1) := by decide +kernel
theorem dX8_sync_26 : decode cX8_sync 26 = .ok (.invokevirtual 172, 3) := by decide +kernel
theorem dX8_sync_29 : decode cX8_sync 29 = .ok (.ireturn, 1) := by decide +kernel
theorem dX8_sync_30 : decode cX8_sync 30 = .ok (.iconst 0, 1) := by decide +kernel
theorem dX8_sync_31 : decode cX8_sync 31 = .ok (.istore_n 3, 1) := by decide +kernel
theorem dX8_sync_32 : decode cX8_sync 32 = .ok (.iconst 0, 1) := by decide +kernel
theorem dX8_sync_33 : decode cX8_sync 33 = .ok (.istore 4, 2) := by decide +kernel
theorem dX8_sync_35 : decode cX8_sync 35 = .ok (.iload 4, 2) := by decide +kernel
theorem dX8_sync_37 : decode cX8_sync 37 = .ok (.aload_n 0, 1) := by decide +kernel
theorem dX8_sync_38 : decode cX8_sync 38 = .ok (.getfield 108, 3) := by decide +kernel
theorem dX8_sync_41 : decode cX8_sync 41 = .ok (.if_icmp .ge 56, 3) := by decide +kernel
theorem dX8_sync_44 : decode cX8_sync 44 = .ok (.aload_n 0, 1) := by decide +kernel
theorem dX8_sync_45 : decode cX8_sync 45 = .ok (.getfield 64, 3) := by decide +kernel
theorem dX8_sync_48 : decode cX8_sync 48 = .ok (.iload_n 1, 1) := by decide +kernel
theorem dX8_sync_49 : decode cX8_sync 49 = .ok (.aaload, 1) := by decide +kernel
theorem dX8_sync_50 : decode cX8_sync 50 = .ok (.iload 4, 2) := by decide +kernel
theorem dX8_sync_52 : decode cX8_sync 52 = .ok (.baload, 1) := by decide +kernel
theorem dX8_sync_53 : decode cX8_sync 53 = .ok (.aload_n 0, 1) := by decide +kernel
theorem dX8_sync_54 : decode cX8_sync 54 = .ok (.getfield 64, 3) := by decide +kernel
theorem dX8_sync_57 : decode cX8_sync 57 = .ok (.iload_n 2, 1) := by decide +kernel
theorem dX8_sync_58 : decode cX8_sync 58 = .ok (.aaload, 1) := by decide +kernel
theorem dX8_sync_59 : decode cX8_sync 59 = .ok (.iload 4, 2) := by decide +kernel
theorem dX8_sync_61 : decode cX8_sync 61 = .ok (.baload, 1) := by decide +kernel
theorem dX8_sync_62 : decode cX8_sync 62 = .ok (.if_icmp .ne 6, 3) := by decide +kernel
theorem dX8_sync_65 : decode cX8_sync 65 = .ok (.goto 26, 3) := by decide +kernel
theorem dX8_sync_68 : decode cX8_sync 68 = .ok (.aload_n 0, 1) := by decide +kernel
theorem dX8_sync_69 : decode cX8_sync 69 = .ok (.getfield 64, 3) := by decide +kernel
theorem dX8_sync_72 : decode cX8_sync 72 = .ok (.iload_n 1, 1) := by decide +kernel
theorem dX8_sync_73 : decode cX8_sync 73 = .ok (.aaload, 1) := by decide +kernel
theorem dX8_sync_74 : decode cX8_sync 74 = .ok (.iload 4, 2) := by decide +kernel
theorem dX8_sync_76 : decode cX8_sync 76 = .ok (.iconst 1, 1) := by decide +kernel
theorem dX8_sync_77 : decode cX8_sync 77 = .ok (.bastore, 1) := by decide +kernel
theorem dX8_sync_78 : decode cX8_sync 78 = .ok (.aload_n 0, 1) := by decide +kernel
theorem dX8_sync_79 : decode cX8_sync 79 = .ok (.getfield 64, 3) := by decide +kernel
theorem dX8_sync_82 : decode cX8_sync 82 = .ok (.iload_n 2, 1) := by decide +kernel
theorem dX8_sync_83 : decode cX8_sync 83 = .ok (.aaload, 1) := by decide +kernel
theorem dX8_sync_84 : decode cX8_sync 84 = .ok (.iload 4, 2) := by decide +kernel
theorem dX8_sync_86 : decode cX8_sync 86 = .ok (.iconst 1, 1) := by decide +kernel
theorem dX8_sync_87 : decode cX8_sync 87 = .ok (.bastore, 1) := by decide +kernel
theorem dX8_sync_88 : decode cX8_sync 88 = .ok (.iinc 3 1, 3) := by decide +kernel
theorem dX8_sync_91 : decode cX8_sync 91 = .ok (.iinc 4 1, 3) := by decide +kernel
theorem dX8_sync_94 : decode cX8_sync 94 = .ok (.goto (-59), 3) := by decide +kernel
theorem dX8_sync_97 : decode cX8_sync 97 = .ok (.iload_n 3, 1) := by decide +kernel
theorem dX8_sync_98 : decode cX8_sync 98 = .ok (.ireturn, 1) := by decide +kernel
theorem dX8_operations_0 : decode cX8_operations 0 = .ok (.aload_n 0, 1) := by decide +kernel
theorem dX8_operations_1 : decode cX8_operations 1 = .ok (.iconst 0, 1) := by decide +kernel
theorem dX8_operations_2 : decode cX8_operations 2 = .ok (.putfield 97, 3) := by decide +kernel
theorem dX8_operations_5 : decode cX8_operations 5 = .ok (.aload_n 0, 1) := by decide +kernel
theorem dX8_operations_6 : decode cX8_operations 6 = .ok (.getfield 108, 3) := by decide +kernel
theorem dX8_operations_9 : decode cX8_operations 9 = .ok (.ireturn, 1) := by decide +kernel
theorem dX8_userOf_0 : decode cX8_userOf 0 = .ok (.aload_n 0, 1) := by decide +kernel
theorem dX8_userOf_1 : decode cX8_userOf 1 = .ok (.iconst 0, 1) := by decide +kernel
theorem dX8_userOf_2 : decode cX8_userOf 2 = .ok (.putfield 97, 3) := by decide +kernel
theorem dX8_userOf_5 : decode cX8_userOf 5 = .ok (.aload_n 0, 1) := by decide +kernel
theorem dX8_userOf_6 : decode cX8_userOf 6 = .ok (.iload_n 1, 1) := by decide +kernel
theorem dX8_userOf_7 : decode cX8_userOf 7 = .ok (.invokevirtual 222, 3) := by decide +kernel
theorem dX8_userOf_10 : decode cX8_userOf 10 = .ok (.ifCond .eq 12, 3) := by decide +kernel
theorem dX8_userOf_13 : decode cX8_userOf 13 = .ok (.aload_n 0, 1) := by decide +kernel
theorem dX8_userOf_14 : decode cX8_userOf 14 = .ok (.getfield 33, 3) := by decide +kernel
theorem dX8_userOf_17 : decode cX8_userOf 17 = .ok (.iload_n 1, 1) := by decide +kernel
theorem dX8_userOf_18 : decode cX8_userOf 18 = .ok (.iaload, 1) := by decide +kernel
theorem dX8_userOf_19 : decode cX8_userOf 19 = .ok (.goto 8, 3) := by decide +kernel
theorem dX8_userOf_22 : decode cX8_userOf 22 = .ok (.aload_n 0, 1) := by decide +kernel
theorem dX8_userOf_23 : decode cX8_userOf 23 = .ok (.iconst 1, 1) := by decide +kernel
theorem dX8_userOf_24 : decode cX8_userOf 24 = .ok (.invokevirtual 172, 3) := by decide +kernel
theorem dX8_userOf_27 : decode cX8_userOf 27 = .ok (.ireturn, 1) := by decide +kernel
theorem dX8_clockOf_0 : decode cX8_clockOf 0 = .ok (.aload_n 0, 1) := by decide +kernel
theorem dX8_clockOf_1 : decode cX8_clockOf 1 = .ok (.iconst 0, 1) := by decide +kernel
theorem dX8_clockOf_2 : decode cX8_clockOf 2 = .ok (.putfield 97, 3) := by decide +kernel
theorem dX8_clockOf_5 : decode cX8_clockOf 5 = .ok (.aload_n 0, 1) := by decide +kernel
theorem dX8_clockOf_6 : decode cX8_clockOf 6 = .ok (.iload_n 1, 1) := by decide +kernel
theorem dX8_clockOf_7 : decode cX8_clockOf 7 = .ok (.invokevirtual 222, 3) := by decide +kernel
theorem dX8_clockOf_10 : decode cX8_clockOf 10 = .ok (.ifCond .eq 12, 3) := by decide +kernel
theorem dX8_clockOf_13 : decode cX8_clockOf 13 = .ok (.aload_n 0, 1) := by decide +kernel
theorem dX8_clockOf_14 : decode cX8_clockOf 14 = .ok (.getfield 36, 3) := by decide +kernel
theorem dX8_clockOf_17 : decode cX8_clockOf 17 = .ok (.iload_n 1, 1) := by decide +kernel
theorem dX8_clockOf_18 : decode cX8_clockOf 18 = .ok (.iaload, 1) := by decide +kernel
theorem dX8_clockOf_19 : decode cX8_clockOf 19 = .ok (.goto 8, 3) := by decide +kernel
theorem dX8_clockOf_22 : decode cX8_clockOf 22 = .ok (.aload_n 0, 1) := by decide +kernel
theorem dX8_clockOf_23 : decode cX8_clockOf 23 = .ok (.iconst 1, 1) := by decide +kernel
theorem dX8_clockOf_24 : decode cX8_clockOf 24 = .ok (.invokevirtual 172, 3) := by decide +kernel
theorem dX8_clockOf_27 : decode cX8_clockOf 27 = .ok (.ireturn, 1) := by decide +kernel
theorem dX8_knows_0 : decode cX8_knows 0 = .ok (.aload_n 0, 1) := by decide +kernel
theorem dX8_knows_1 : decode cX8_knows 1 = .ok (.iconst 0, 1) := by decide +kernel
theorem dX8_knows_2 : decode cX8_knows 2 = .ok (.putfield 97, 3) := by decide +kernel
theorem dX8_knows_5 : decode cX8_knows 5 = .ok (.iload_n 1, 1) := by decide +kernel
theorem dX8_knows_6 : decode cX8_knows 6 = .ok (.invokestatic 165, 3) := by decide +kernel
theorem dX8_knows_9 : decode cX8_knows 9 = .ok (.ifCond .ne 9, 3) := by decide +kernel
theorem dX8_knows_12 : decode cX8_knows 12 = .ok (.aload_n 0, 1) := by decide +kernel
theorem dX8_knows_13 : decode cX8_knows 13 = .ok (.iconst 1, 1) := by decide +kernel
theorem dX8_knows_14 : decode cX8_knows 14 = .ok (.invokevirtual 219, 3) := by decide +kernel
theorem dX8_knows_17 : decode cX8_knows 17 = .ok (.ireturn, 1) := by decide +kernel
theorem dX8_knows_18 : decode cX8_knows 18 = .ok (.aload_n 0, 1) := by decide +kernel
theorem dX8_knows_19 : decode cX8_knows 19 = .ok (.iload_n 2, 1) := by decide +kernel
theorem dX8_knows_20 : decode cX8_knows 20 = .ok (.invokevirtual 222, 3) := by decide +kernel
theorem dX8_knows_23 : decode cX8_knows 23 = .ok (.ifCond .eq 14, 3) := by decide +kernel
theorem dX8_knows_26 : decode cX8_knows 26 = .ok (.aload_n 0, 1) := by decide +kernel
theorem dX8_knows_27 : decode cX8_knows 27 = .ok (.getfield 64, 3) := by decide +kernel
theorem dX8_knows_30 : decode cX8_knows 30 = .ok (.iload_n 1, 1) := by decide +kernel
theorem dX8_knows_31 : decode cX8_knows 31 = .ok (.aaload, 1) := by decide +kernel
theorem dX8_knows_32 : decode cX8_knows 32 = .ok (.iload_n 2, 1) := by decide +kernel
theorem dX8_knows_33 : decode cX8_knows 33 = .ok (.baload, 1) := by decide +kernel
theorem dX8_knows_34 : decode cX8_knows 34 = .ok (.goto 8, 3) := by decide +kernel
theorem dX8_knows_37 : decode cX8_knows 37 = .ok (.aload_n 0, 1) := by decide +kernel
theorem dX8_knows_38 : decode cX8_knows 38 = .ok (.iconst 2, 1) := by decide +kernel
theorem dX8_knows_39 : decode cX8_knows 39 = .ok (.invokevirtual 219, 3) := by decide +kernel
theorem dX8_knows_42 : decode cX8_knows 42 = .ok (.ireturn, 1) := by decide +kernel
theorem dX8_isNobody_0 : decode cX8_isNobody 0 = .ok (.aload_n 0, 1) := by decide +kernel
theorem dX8_isNobody_1 : decode cX8_isNobody 1 = .ok (.iload_n 1, 1) := by decide +kernel
theorem dX8_isNobody_2 : decode cX8_isNobody 2 = .ok (.invokestatic 165, 3) := by decide +kernel
theorem dX8_isNobody_5 : decode cX8_isNobody 5 = .ok (.ifCond .eq 7, 3) := by decide +kernel
theorem dX8_isNobody_8 : decode cX8_isNobody 8 = .ok (.iconst 0, 1) := by decide +kernel
theorem dX8_isNobody_9 : decode cX8_isNobody 9 = .ok (.goto 4, 3) := by decide +kernel
theorem dX8_isNobody_12 : decode cX8_isNobody 12 = .ok (.iconst 1, 1) := by decide +kernel
theorem dX8_isNobody_13 : decode cX8_isNobody 13 = .ok (.putfield 97, 3) := by decide +kernel
theorem dX8_isNobody_16 : decode cX8_isNobody 16 = .ok (.aload_n 0, 1) := by decide +kernel
theorem dX8_isNobody_17 : decode cX8_isNobody 17 = .ok (.getfield 97, 3) := by decide +kernel
theorem dX8_isNobody_20 : decode cX8_isNobody 20 = .ok (.ifCond .ne 8, 3) := by decide +kernel
theorem dX8_isNobody_23 : decode cX8_isNobody 23 = .ok (.aload_n 0, 1) := by decide +kernel
theorem dX8_isNobody_24 : decode cX8_isNobody 24 = .ok (.iload_n 1, 1) := by decide +kernel
theorem dX8_isNobody_25 : decode cX8_isNobody 25 = .ok (.invokevirtual 161, 3) := by decide +kernel
theorem dX8_isNobody_28 : decode cX8_isNobody 28 = .ok (.aload_n 0, 1) := by decide +kernel
theorem dX8_isNobody_29 : decode cX8_isNobody 29 = .ok (.getfield 97, 3) := by decide +kernel
theorem dX8_isNobody_32 : decode cX8_isNobody 32 = .ok (.ifCond .le 7, 3) := by decide +kernel
theorem dX8_isNobody_35 : decode cX8_isNobody 35 = .ok (.iconst 1, 1) := by decide +kernel
theorem dX8_isNobody_36 : decode cX8_isNobody 36 = .ok (.goto 4, 3) := by decide +kernel
theorem dX8_isNobody_39 : decode cX8_isNobody 39 = .ok (.iconst 0, 1) := by decide +kernel
theorem dX8_isNobody_40 : decode cX8_isNobody 40 = .ok (.ireturn, 1) := by decide +kernel
theorem dX8_isUnseen_0 : decode cX8_isUnseen 0 = .ok (.aload_n 0, 1) := by decide +kernel
theorem dX8_isUnseen_1 : decode cX8_isUnseen 1 = .ok (.iload_n 1, 1) := by decide +kernel
theorem dX8_isUnseen_2 : decode cX8_isUnseen 2 = .ok (.invokevirtual 228, 3) := by decide +kernel
theorem dX8_isUnseen_5 : decode cX8_isUnseen 5 = .ok (.ifCond .ne 16, 3) := by decide +kernel
theorem dX8_isUnseen_8 : decode cX8_isUnseen 8 = .ok (.aload_n 0, 1) := by decide +kernel
theorem dX8_isUnseen_9 : decode cX8_isUnseen 9 = .ok (.iload_n 2, 1) := by decide +kernel
theorem dX8_isUnseen_10 : decode cX8_isUnseen 10 = .ok (.invokevirtual 125, 3) := by decide +kernel
theorem dX8_isUnseen_13 : decode cX8_isUnseen 13 = .ok (.ifCond .ne 8, 3) := by decide +kernel
theorem dX8_isUnseen_16 : decode cX8_isUnseen 16 = .ok (.aload_n 0, 1) := by decide +kernel
theorem dX8_isUnseen_17 : decode cX8_isUnseen 17 = .ok (.iconst 2, 1) := by decide +kernel
theorem dX8_isUnseen_18 : decode cX8_isUnseen 18 = .ok (.putfield 97, 3) := by decide +kernel
theorem dX8_isUnseen_21 : decode cX8_isUnseen 21 = .ok (.aload_n 0, 1) := by decide +kernel
theorem dX8_isUnseen_22 : decode cX8_isUnseen 22 = .ok (.getfield 97, 3) := by decide +kernel
theorem dX8_isUnseen_25 : decode cX8_isUnseen 25 = .ok (.ifCond .le 7, 3) := by decide +kernel
theorem dX8_isUnseen_28 : decode cX8_isUnseen 28 = .ok (.iconst 1, 1) := by decide +kernel
theorem dX8_isUnseen_29 : decode cX8_isUnseen 29 = .ok (.goto 4, 3) := by decide +kernel
theorem dX8_isUnseen_32 : decode cX8_isUnseen 32 = .ok (.iconst 0, 1) := by decide +kernel
theorem dX8_isUnseen_33 : decode cX8_isUnseen 33 = .ok (.ireturn, 1) := by decide +kernel
theorem dX8_shapes_0 : decode cX8_shapes 0 = .ok (.aload_n 0, 1) := by decide +kernel
theorem dX8_shapes_1 : decode cX8_shapes 1 = .ok (.iload_n 1, 1) := by decide +kernel
theorem dX8_shapes_2 : decode cX8_shapes 2 = .ok (.invokevirtual 228, 3) := by decide +kernel
theorem dX8_shapes_5 : decode cX8_shapes 5 = .ok (.ifCond .eq 7, 3) := by decide +kernel
theorem dX8_shapes_8 : decode cX8_shapes 8 = .ok (.iconst 0, 1) := by decide +kernel
theorem dX8_shapes_9 : decode cX8_shapes 9 = .ok (.goto 7, 3) := by decide +kernel
theorem dX8_shapes_12 : decode cX8_shapes 12 = .ok (.aload_n 0, 1) := by decide +kernel
theorem dX8_shapes_13 : decode cX8_shapes 13 = .ok (.invokevirtual 209, 3) := by decide +kernel
theorem dX8_shapes_16 : decode cX8_shapes 16 = .ok (.ireturn, 1) := by decide +kernel
theorem dX8_sees_0 : decode cX8_sees 0 = .ok (.aload_n 0, 1) := by decide +kernel
theorem dX8_sees_1 : decode cX8_sees 1 = .ok (.iload_n 1, 1) := by decide +kernel
theorem dX8_sees_2 : decode cX8_sees 2 = .ok (.invokevirtual 228, 3) := by decide +kernel
theorem dX8_sees_5 : decode cX8_sees 5 = .ok (.ifCond .ne 15, 3) := by decide +kernel
theorem dX8_sees_8 : decode cX8_sees 8 = .ok (.aload_n 0, 1) := by decide +kernel
theorem dX8_sees_9 : decode cX8_sees 9 = .ok (.iload_n 2, 1) := by decide +kernel
theorem dX8_sees_10 : decode cX8_sees 10 = .ok (.invokevirtual 125, 3) := by decide +kernel
theorem dX8_sees_13 : decode cX8_sees 13 = .ok (.ifCond .eq 7, 3) := by decide +kernel
theorem dX8_sees_16 : decode cX8_sees 16 = .ok (.iconst 1, 1) := by decide +kernel
theorem dX8_sees_17 : decode cX8_sees 17 = .ok (.goto 4, 3) := by decide +kernel
theorem dX8_sees_20 : decode cX8_sees 20 = .ok (.iconst 0, 1) := by decide +kernel
theorem dX8_sees_21 : decode cX8_sees 21 = .ok (.ireturn, 1) := by decide +kernel
theorem dX8_columnOf_0 : decode cX8_columnOf 0 = .ok (.aload_n 0, 1) := by decide +kernel
theorem dX8_columnOf_1 : decode cX8_columnOf 1 = .ok (.iload_n 1, 1) := by decide +kernel
theorem dX8_columnOf_2 : decode cX8_columnOf 2 = .ok (.iload_n 2, 1) := by decide +kernel
theorem dX8_columnOf_3 : decode cX8_columnOf 3 = .ok (.invokevirtual 231, 3) := by decide +kernel
theorem dX8_columnOf_6 : decode cX8_columnOf 6 = .ok (.ifCond .eq 7, 3) := by decide +kernel
theorem dX8_columnOf_9 : decode cX8_columnOf 9 = .ok (.iconst 0, 1) := by decide +kernel
theorem dX8_columnOf_10 : decode cX8_columnOf 10 = .ok (.goto 8, 3) := by decide +kernel
theorem dX8_columnOf_13 : decode cX8_columnOf 13 = .ok (.aload_n 0, 1) := by decide +kernel
theorem dX8_columnOf_14 : decode cX8_columnOf 14 = .ok (.iload_n 2, 1) := by decide +kernel
theorem dX8_columnOf_15 : decode cX8_columnOf 15 = .ok (.invokevirtual 141, 3) := by decide +kernel
theorem dX8_columnOf_18 : decode cX8_columnOf 18 = .ok (.ireturn, 1) := by decide +kernel
theorem dX8_rowOf_0 : decode cX8_rowOf 0 = .ok (.aload_n 0, 1) := by decide +kernel
theorem dX8_rowOf_1 : decode cX8_rowOf 1 = .ok (.iload_n 1, 1) := by decide +kernel
theorem dX8_rowOf_2 : decode cX8_rowOf 2 = .ok (.iload_n 2, 1) := by decide +kernel
theorem dX8_rowOf_3 : decode cX8_rowOf 3 = .ok (.invokevirtual 231, 3) := by decide +kernel
theorem dX8_rowOf_6 : decode cX8_rowOf 6 = .ok (.ifCond .eq 7, 3) := by decide +kernel
theorem dX8_rowOf_9 : decode cX8_rowOf 9 = .ok (.iconst 0, 1) := by decide +kernel
theorem dX8_rowOf_10 : decode cX8_rowOf 10 = .ok (.goto 8, 3) := by decide +kernel
theorem dX8_rowOf_13 : decode cX8_rowOf 13 = .ok (.aload_n 0, 1) := by decide +kernel
theorem dX8_rowOf_14 : decode cX8_rowOf 14 = .ok (.iload_n 2, 1) := by decide +kernel
theorem dX8_rowOf_15 : decode cX8_rowOf 15 = .ok (.invokevirtual 145, 3) := by decide +kernel
theorem dX8_rowOf_18 : decode cX8_rowOf 18 = .ok (.ireturn, 1) := by decide +kernel
theorem dX8_rankOf_0 : decode cX8_rankOf 0 = .ok (.aload_n 0, 1) := by decide +kernel
theorem dX8_rankOf_1 : decode cX8_rankOf 1 = .ok (.iload_n 1, 1) := by decide +kernel
theorem dX8_rankOf_2 : decode cX8_rankOf 2 = .ok (.iload_n 2, 1) := by decide +kernel
theorem dX8_rankOf_3 : decode cX8_rankOf 3 = .ok (.invokevirtual 231, 3) := by decide +kernel
theorem dX8_rankOf_6 : decode cX8_rankOf 6 = .ok (.ifCond .eq 7, 3) := by decide +kernel
theorem dX8_rankOf_9 : decode cX8_rankOf 9 = .ok (.iconst 0, 1) := by decide +kernel
theorem dX8_rankOf_10 : decode cX8_rankOf 10 = .ok (.goto 8, 3) := by decide +kernel
theorem dX8_rankOf_13 : decode cX8_rankOf 13 = .ok (.aload_n 0, 1) := by decide +kernel
theorem dX8_rankOf_14 : decode cX8_rankOf 14 = .ok (.iload_n 2, 1) := by decide +kernel
theorem dX8_rankOf_15 : decode cX8_rankOf 15 = .ok (.invokevirtual 199, 3) := by decide +kernel
theorem dX8_rankOf_18 : decode cX8_rankOf 18 = .ok (.ireturn, 1) := by decide +kernel
theorem dX8_shapeAt_0 : decode cX8_shapeAt 0 = .ok (.aload_n 0, 1) := by decide +kernel
theorem dX8_shapeAt_1 : decode cX8_shapeAt 1 = .ok (.iload_n 1, 1) := by decide +kernel
theorem dX8_shapeAt_2 : decode cX8_shapeAt 2 = .ok (.invokevirtual 228, 3) := by decide +kernel
theorem dX8_shapeAt_5 : decode cX8_shapeAt 5 = .ok (.ifCond .eq 5, 3) := by decide +kernel
theorem dX8_shapeAt_8 : decode cX8_shapeAt 8 = .ok (.iconst 0, 1) := by decide +kernel
theorem dX8_shapeAt_9 : decode cX8_shapeAt 9 = .ok (.ireturn, 1) := by decide +kernel
theorem dX8_shapeAt_10 : decode cX8_shapeAt 10 = .ok (.iconst 0, 1) := by decide +kernel
theorem dX8_shapeAt_11 : decode cX8_shapeAt 11 = .ok (.istore_n 3, 1) := by decide +kernel
theorem dX8_shapeAt_12 : decode cX8_shapeAt 12 = .ok (.iload_n 3, 1) := by decide +kernel
theorem dX8_shapeAt_13 : decode cX8_shapeAt 13 = .ok (.aload_n 0, 1) := by decide +kernel
theorem dX8_shapeAt_14 : decode cX8_shapeAt 14 = .ok (.getfield 119, 3) := by decide +kernel
theorem dX8_shapeAt_17 : decode cX8_shapeAt 17 = .ok (.if_icmp .ge 28, 3) := by decide +kernel
theorem dX8_shapeAt_20 : decode cX8_shapeAt 20 = .ok (.aload_n 0, 1) := by decide +kernel
theorem dX8_shapeAt_21 : decode cX8_shapeAt 21 = .ok (.iload_n 3, 1) := by decide +kernel
theorem dX8_shapeAt_22 : decode cX8_shapeAt 22 = .ok (.invokevirtual 125, 3) := by decide +kernel
theorem dX8_shapeAt_25 : decode cX8_shapeAt 25 = .ok (.ifCond .eq 14, 3) := by decide +kernel
theorem dX8_shapeAt_28 : decode cX8_shapeAt 28 = .ok (.aload_n 0, 1) := by decide +kernel
theorem dX8_shapeAt_29 : decode cX8_shapeAt 29 = .ok (.iload_n 3, 1) := by decide +kernel
theorem dX8_shapeAt_30 : decode cX8_shapeAt 30 = .ok (.invokevirtual 199, 3) := by decide +kernel
theorem dX8_shapeAt_33 : decode cX8_shapeAt 33 = .ok (.iload_n 2, 1) := by decide +kernel
theorem dX8_shapeAt_34 : decode cX8_shapeAt 34 = .ok (.if_icmp .ne 5, 3) := by decide +kernel
theorem dX8_shapeAt_37 : decode cX8_shapeAt 37 = .ok (.iload_n 3, 1) := by decide +kernel
theorem dX8_shapeAt_38 : decode cX8_shapeAt 38 = .ok (.ireturn, 1) := by decide +kernel
theorem dX8_shapeAt_39 : decode cX8_shapeAt 39 = .ok (.iinc 3 1, 3) := by decide +kernel
theorem dX8_shapeAt_42 : decode cX8_shapeAt 42 = .ok (.goto (-30), 3) := by decide +kernel
theorem dX8_shapeAt_45 : decode cX8_shapeAt 45 = .ok (.aload_n 0, 1) := by decide +kernel
theorem dX8_shapeAt_46 : decode cX8_shapeAt 46 = .ok (.iconst 2, 1) := by decide +kernel
theorem dX8_shapeAt_47 : decode cX8_shapeAt 47 = .ok (.invokevirtual 172, 3) := by decide +kernel
theorem dX8_shapeAt_50 : decode cX8_shapeAt 50 = .ok (.ireturn, 1) := by decide +kernel
theorem dX8_keyOf_0 : decode cX8_keyOf 0 = .ok (.aload_n 0, 1) := by decide +kernel
theorem dX8_keyOf_1 : decode cX8_keyOf 1 = .ok (.iload_n 1, 1) := by decide +kernel
theorem dX8_keyOf_2 : decode cX8_keyOf 2 = .ok (.iload_n 2, 1) := by decide +kernel
theorem dX8_keyOf_3 : decode cX8_keyOf 3 = .ok (.invokevirtual 231, 3) := by decide +kernel
theorem dX8_keyOf_6 : decode cX8_keyOf 6 = .ok (.ifCond .eq 7, 3) := by decide +kernel
theorem dX8_keyOf_9 : decode cX8_keyOf 9 = .ok (.fconst 0, 1) := by decide +kernel
theorem dX8_keyOf_10 : decode cX8_keyOf 10 = .ok (.goto 8, 3) := by decide +kernel
theorem dX8_keyOf_13 : decode cX8_keyOf 13 = .ok (.aload_n 0, 1) := by decide +kernel
theorem dX8_keyOf_14 : decode cX8_keyOf 14 = .ok (.iload_n 2, 1) := by decide +kernel
theorem dX8_keyOf_15 : decode cX8_keyOf 15 = .ok (.invokevirtual 138, 3) := by decide +kernel
theorem dX8_keyOf_18 : decode cX8_keyOf 18 = .ok (.freturn, 1) := by decide +kernel
theorem dX8_keyBits_0 : decode cX8_keyBits 0 = .ok (.aload_n 0, 1) := by decide +kernel
theorem dX8_keyBits_1 : decode cX8_keyBits 1 = .ok (.iload_n 1, 1) := by decide +kernel
theorem dX8_keyBits_2 : decode cX8_keyBits 2 = .ok (.iload_n 2, 1) := by decide +kernel
theorem dX8_keyBits_3 : decode cX8_keyBits 3 = .ok (.invokevirtual 231, 3) := by decide +kernel
theorem dX8_keyBits_6 : decode cX8_keyBits 6 = .ok (.ifCond .eq 7, 3) := by decide +kernel
theorem dX8_keyBits_9 : decode cX8_keyBits 9 = .ok (.iconst 0, 1) := by decide +kernel
theorem dX8_keyBits_10 : decode cX8_keyBits 10 = .ok (.goto 11, 3) := by decide +kernel
theorem dX8_keyBits_13 : decode cX8_keyBits 13 = .ok (.aload_n 0, 1) := by decide +kernel
theorem dX8_keyBits_14 : decode cX8_keyBits 14 = .ok (.iload_n 2, 1) := by decide +kernel
theorem dX8_keyBits_15 : decode cX8_keyBits 15 = .ok (.invokevirtual 138, 3) := by decide +kernel
theorem dX8_keyBits_18 : decode cX8_keyBits 18 = .ok (.invokestatic 182, 3) := by decide +kernel
theorem dX8_keyBits_21 : decode cX8_keyBits 21 = .ok (.ireturn, 1) := by decide +kernel
theorem dX8_keyCut_0 : decode cX8_keyCut 0 = .ok (.aload_n 0, 1) := by decide +kernel
theorem dX8_keyCut_1 : decode cX8_keyCut 1 = .ok (.iload_n 1, 1) := by decide +kernel
theorem dX8_keyCut_2 : decode cX8_keyCut 2 = .ok (.iload_n 2, 1) := by decide +kernel
theorem dX8_keyCut_3 : decode cX8_keyCut 3 = .ok (.invokevirtual 231, 3) := by decide +kernel
theorem dX8_keyCut_6 : decode cX8_keyCut 6 = .ok (.ifCond .eq 7, 3) := by decide +kernel
theorem dX8_keyCut_9 : decode cX8_keyCut 9 = .ok (.iconst 0, 1) := by decide +kernel
theorem dX8_keyCut_10 : decode cX8_keyCut 10 = .ok (.goto 12, 3) := by decide +kernel
theorem dX8_keyCut_13 : decode cX8_keyCut 13 = .ok (.aload_n 0, 1) := by decide +kernel
theorem dX8_keyCut_14 : decode cX8_keyCut 14 = .ok (.iload_n 2, 1) := by decide +kernel
theorem dX8_keyCut_15 : decode cX8_keyCut 15 = .ok (.invokevirtual 138, 3) := by decide +kernel
theorem dX8_keyCut_18 : decode cX8_keyCut 18 = .ok (.ldc 234, 2) := by decide +kernel
theorem dX8_keyCut_20 : decode cX8_keyCut 20 = .ok (.fmul, 1) := by decide +kernel
theorem dX8_keyCut_21 : decode cX8_keyCut 21 = .ok (.f2i, 1) := by decide +kernel
theorem dX8_keyCut_22 : decode cX8_keyCut 22 = .ok (.ireturn, 1) := by decide +kernel
theorem dX8_isCovering_0 : decode cX8_isCovering 0 = .ok (.iload_n 2, 1) := by decide +kernel
theorem dX8_isCovering_1 : decode cX8_isCovering 1 = .ok (.aload_n 0, 1) := by decide +kernel
theorem dX8_isCovering_2 : decode cX8_isCovering 2 = .ok (.iload_n 1, 1) := by decide +kernel
theorem dX8_isCovering_3 : decode cX8_isCovering 3 = .ok (.invokevirtual 141, 3) := by decide +kernel
theorem dX8_isCovering_6 : decode cX8_isCovering 6 = .ok (.aload_n 0, 1) := by decide +kernel
theorem dX8_isCovering_7 : decode cX8_isCovering 7 = .ok (.iload_n 1, 1) := by decide +kernel
theorem dX8_isCovering_8 : decode cX8_isCovering 8 = .ok (.invokevirtual 141, 3) := by decide +kernel
theorem dX8_isCovering_11 : decode cX8_isCovering 11 = .ok (.aload_n 0, 1) := by decide +kernel
theorem dX8_isCovering_12 : decode cX8_isCovering 12 = .ok (.getfield 9, 3) := by decide +kernel
theorem dX8_isCovering_15 : decode cX8_isCovering 15 = .ok (.iload_n 1, 1) := by decide +kernel
theorem dX8_isCovering_16 : decode cX8_isCovering 16 = .ok (.iaload, 1) := by decide +kernel
theorem dX8_isCovering_17 : decode cX8_isCovering 17 = .ok (.iadd, 1) := by decide +kernel
theorem dX8_isCovering_18 : decode cX8_isCovering 18 = .ok (.iconst 1, 1) := by decide +kernel
theorem dX8_isCovering_19 : decode cX8_isCovering 19 = .ok (.isub, 1) := by decide +kernel
theorem dX8_isCovering_20 : decode cX8_isCovering 20 = .ok (.invokestatic 101, 3) := by decide +kernel
theorem dX8_isCovering_23 : decode cX8_isCovering 23 = .ok (.ifCond .eq 33, 3) := by decide +kernel
theorem dX8_isCovering_26 : decode cX8_isCovering 26 = .ok (.iload_n 3, 1) := by decide +kernel
theorem dX8_isCovering_27 : decode cX8_isCovering 27 = .ok (.aload_n 0, 1) := by decide +kernel
theorem dX8_isCovering_28 : decode cX8_isCovering 28 = .ok (.iload_n 1, 1) := by decide +kernel
theorem dX8_isCovering_29 : decode cX8_isCovering 29 = .ok (.invokevirtual 145, 3) := by decide +kernel
theorem dX8_isCovering_32 : decode cX8_isCovering 32 = .ok (.aload_n 0, 1) := by decide +kernel
theorem dX8_isCovering_33 : decode cX8_isCovering 33 = .ok (.iload_n 1, 1) := by decide +kernel
theorem dX8_isCovering_34 : decode cX8_isCovering 34 = .ok (.invokevirtual 145, 3) := by decide +kernel
theorem dX8_isCovering_37 : decode cX8_isCovering 37 = .ok (.aload_n 0, 1) := by decide +kernel
theorem dX8_isCovering_38 : decode cX8_isCovering 38 = .ok (.getfield 13, 3) := by decide +kernel
theorem dX8_isCovering_41 : decode cX8_isCovering 41 = .ok (.iload_n 1, 1) := by decide +kernel
theorem dX8_isCovering_42 : decode cX8_isCovering 42 = .ok (.iaload, 1) := by decide +kernel
theorem dX8_isCovering_43 : decode cX8_isCovering 43 = .ok (.iadd, 1) := by decide +kernel
theorem dX8_isCovering_44 : decode cX8_isCovering 44 = .ok (.iconst 1, 1) := by decide +kernel
theorem dX8_isCovering_45 : decode cX8_isCovering 45 = .ok (.isub, 1) := by decide +kernel
theorem dX8_isCovering_46 : decode cX8_isCovering 46 = .ok (.invokestatic 101, 3) := by decide +kernel
theorem dX8_isCovering_49 : decode cX8_isCovering 49 = .ok (.ifCond .eq 7, 3) := by decide +kernel
theorem dX8_isCovering_52 : decode cX8_isCovering 52 = .ok (.iconst 1, 1) := by decide +kernel
theorem dX8_isCovering_53 : decode cX8_isCovering 53 = .ok (.goto 4, 3) := by decide +kernel
theorem dX8_isCovering_56 : decode cX8_isCovering 56 = .ok (.iconst 0, 1) := by decide +kernel
theorem dX8_isCovering_57 : decode cX8_isCovering 57 = .ok (.ireturn, 1) := by decide +kernel
theorem dX8_topAt_0 : decode cX8_topAt 0 = .ok (.aload_n 0, 1) := by decide +kernel
theorem dX8_topAt_1 : decode cX8_topAt 1 = .ok (.iconst 0, 1) := by decide +kernel
theorem dX8_topAt_2 : decode cX8_topAt 2 = .ok (.putfield 97, 3) := by decide +kernel
theorem dX8_topAt_5 : decode cX8_topAt 5 = .ok (.iload_n 1, 1) := by decide +kernel
theorem dX8_topAt_6 : decode cX8_topAt 6 = .ok (.invokestatic 165, 3) := by decide +kernel
theorem dX8_topAt_9 : decode cX8_topAt 9 = .ok (.ifCond .eq 14, 3) := by decide +kernel
theorem dX8_topAt_12 : decode cX8_topAt 12 = .ok (.aload_n 0, 1) := by decide +kernel
theorem dX8_topAt_13 : decode cX8_topAt 13 = .ok (.iload_n 2, 1) := by decide +kernel
theorem dX8_topAt_14 : decode cX8_topAt 14 = .ok (.iload_n 3, 1) := by decide +kernel
theorem dX8_topAt_15 : decode cX8_topAt 15 = .ok (.iconst 1, 1) := by decide +kernel
theorem dX8_topAt_16 : decode cX8_topAt 16 = .ok (.iconst 1, 1) := by decide +kernel
theorem dX8_topAt_17 : decode cX8_topAt 17 = .ok (.invokevirtual 168, 3) := by decide +kernel
theorem dX8_topAt_20 : decode cX8_topAt 20 = .ok (.ifCond .ne 9, 3) := by decide +kernel
theorem dX8_topAt_23 : decode cX8_topAt 23 = .ok (.aload_n 0, 1) := by decide +kernel
theorem dX8_topAt_24 : decode cX8_topAt 24 = .ok (.iconst 1, 1) := by decide +kernel
theorem dX8_topAt_25 : decode cX8_topAt 25 = .ok (.invokevirtual 172, 3) := by decide +kernel
theorem dX8_topAt_28 : decode cX8_topAt 28 = .ok (.ireturn, 1) := by decide +kernel
theorem dX8_topAt_29 : decode cX8_topAt 29 = .ok (.aload_n 0, 1) := by decide +kernel
theorem dX8_topAt_30 : decode cX8_topAt 30 = .ok (.iload_n 1, 1) := by decide +kernel
theorem dX8_topAt_31 : decode cX8_topAt 31 = .ok (.invokevirtual 161, 3) := by decide +kernel
theorem dX8_topAt_34 : decode cX8_topAt 34 = .ok (.iconst (-1), 1) := by decide +kernel
theorem dX8_topAt_35 : decode cX8_topAt 35 = .ok (.istore 4, 2) := by decide +kernel
theorem dX8_topAt_37 : decode cX8_topAt 37 = .ok (.iconst 0, 1) := by decide +kernel
theorem dX8_topAt_38 : decode cX8_topAt 38 = .ok (.istore 5, 2) := by decide +kernel
theorem dX8_topAt_40 : decode cX8_topAt 40 = .ok (.iload 5, 2) := by decide +kernel
theorem dX8_topAt_42 : decode cX8_topAt 42 = .ok (.aload_n 0, 1) := by decide +kernel
theorem dX8_topAt_43 : decode cX8_topAt 43 = .ok (.getfield 119, 3) := by decide +kernel
theorem dX8_topAt_46 : decode cX8_topAt 46 = .ok (.if_icmp .ge 63, 3) := by decide +kernel
theorem dX8_topAt_49 : decode cX8_topAt 49 = .ok (.aload_n 0, 1) := by decide +kernel
theorem dX8_topAt_50 : decode cX8_topAt 50 = .ok (.iload 5, 2) := by decide +kernel
theorem dX8_topAt_52 : decode cX8_topAt 52 = .ok (.invokevirtual 125, 3) := by decide +kernel
theorem dX8_topAt_55 : decode cX8_topAt 55 = .ok (.ifCond .eq 48, 3) := by decide +kernel
theorem dX8_topAt_58 : decode cX8_topAt 58 = .ok (.aload_n 0, 1) := by decide +kernel
theorem dX8_topAt_59 : decode cX8_topAt 59 = .ok (.getfield 22, 3) := by decide +kernel
theorem dX8_topAt_62 : decode cX8_topAt 62 = .ok (.iload 5, 2) := by decide +kernel
theorem dX8_topAt_64 : decode cX8_topAt 64 = .ok (.baload, 1) := by decide +kernel
theorem dX8_topAt_65 : decode cX8_topAt 65 = .ok (.ifCond .ne 38, 3) := by decide +kernel
theorem dX8_topAt_68 : decode cX8_topAt 68 = .ok (.aload_n 0, 1) := by decide +kernel
theorem dX8_topAt_69 : decode cX8_topAt 69 = .ok (.iload 5, 2) := by decide +kernel
theorem dX8_topAt_71 : decode cX8_topAt 71 = .ok (.iload_n 2, 1) := by decide +kernel
theorem dX8_topAt_72 : decode cX8_topAt 72 = .ok (.iload_n 3, 1) := by decide +kernel
theorem dX8_topAt_73 : decode cX8_topAt 73 = .ok (.invokevirtual 235, 3) := by decide +kernel
theorem dX8_topAt_76 : decode cX8_topAt 76 = .ok (.ifCond .eq 27, 3) := by decide +kernel
theorem dX8_topAt_79 : decode cX8_topAt 79 = .ok (.iload 4, 2) := by decide +kernel
theorem dX8_topAt_81 : decode cX8_topAt 81 = .ok (.ifCond .lt 18, 3) := by decide +kernel
theorem dX8_topAt_84 : decode cX8_topAt 84 = .ok (.aload_n 0, 1) := by decide +kernel
theorem dX8_topAt_85 : decode cX8_topAt 85 = .ok (.iload 5, 2) := by decide +kernel
theorem dX8_topAt_87 : decode cX8_topAt 87 = .ok (.invokevirtual 199, 3) := by decide +kernel
theorem dX8_topAt_90 : decode cX8_topAt 90 = .ok (.aload_n 0, 1) := by decide +kernel
theorem dX8_topAt_91 : decode cX8_topAt 91 = .ok (.iload 4, 2) := by decide +kernel
theorem dX8_topAt_93 : decode cX8_topAt 93 = .ok (.invokevirtual 199, 3) := by decide +kernel
theorem dX8_topAt_96 : decode cX8_topAt 96 = .ok (.if_icmp .le 7, 3) := by decide +kernel
theorem dX8_topAt_99 : decode cX8_topAt 99 = .ok (.iload 5, 2) := by decide +kernel
theorem dX8_topAt_101 : decode cX8_topAt 101 = .ok (.istore 4, 2) := by decide +kernel
theorem dX8_topAt_103 : decode cX8_topAt 103 = .ok (.iinc 5 1, 3) := by decide +kernel
theorem dX8_topAt_106 : decode cX8_topAt 106 = .ok (.goto (-66), 3) := by decide +kernel
theorem dX8_topAt_109 : decode cX8_topAt 109 = .ok (.iload 4, 2) := by decide +kernel
theorem dX8_topAt_111 : decode cX8_topAt 111 = .ok (.ifCond .ge 11, 3) := by decide +kernel
theorem dX8_topAt_114 : decode cX8_topAt 114 = .ok (.aload_n 0, 1) := by decide +kernel
theorem dX8_topAt_115 : decode cX8_topAt 115 = .ok (.iconst 2, 1) := by decide +kernel
theorem dX8_topAt_116 : decode cX8_topAt 116 = .ok (.invokevirtual 172, 3) := by decide +kernel
theorem dX8_topAt_119 : decode cX8_topAt 119 = .ok (.goto 5, 3) := by decide +kernel
theorem dX8_topAt_122 : decode cX8_topAt 122 = .ok (.iload 4, 2) := by decide +kernel
theorem dX8_topAt_124 : decode cX8_topAt 124 = .ok (.ireturn, 1) := by decide +kernel
theorem dX8_lockedBy_0 : decode cX8_lockedBy 0 = .ok (.aload_n 0, 1) := by decide +kernel
theorem dX8_lockedBy_1 : decode cX8_lockedBy 1 = .ok (.iload_n 1, 1) := by decide +kernel
theorem dX8_lockedBy_2 : decode cX8_lockedBy 2 = .ok (.iload_n 2, 1) := by decide +kernel
theorem dX8_lockedBy_3 : decode cX8_lockedBy 3 = .ok (.invokevirtual 231, 3) := by decide +kernel
theorem dX8_lockedBy_6 : decode cX8_lockedBy 6 = .ok (.ifCond .eq 7, 3) := by decide +kernel
theorem dX8_lockedBy_9 : decode cX8_lockedBy 9 = .ok (.iconst 0, 1) := by decide +kernel
theorem dX8_lockedBy_10 : decode cX8_lockedBy 10 = .ok (.goto 12, 3) := by decide +kernel
theorem dX8_lockedBy_13 : decode cX8_lockedBy 13 = .ok (.aload_n 0, 1) := by decide +kernel
theorem dX8_lockedBy_14 : decode cX8_lockedBy 14 = .ok (.getfield 67, 3) := by decide +kernel
theorem dX8_lockedBy_17 : decode cX8_lockedBy 17 = .ok (.bipush 36, 2) := by decide +kernel
theorem dX8_lockedBy_19 : decode cX8_lockedBy 19 = .ok (.iload_n 2, 1) := by decide +kernel
theorem dX8_lockedBy_20 : decode cX8_lockedBy 20 = .ok (.iadd, 1) := by decide +kernel
theorem dX8_lockedBy_21 : decode cX8_lockedBy 21 = .ok (.iaload, 1) := by decide +kernel
theorem dX8_lockedBy_22 : decode cX8_lockedBy 22 = .ok (.ireturn, 1) := by decide +kernel
theorem dX8_inside_0 : decode cX8_inside 0 = .ok (.aload_n 0, 1) := by decide +kernel
theorem dX8_inside_1 : decode cX8_inside 1 = .ok (.iload_n 1, 1) := by decide +kernel
theorem dX8_inside_2 : decode cX8_inside 2 = .ok (.iload_n 2, 1) := by decide +kernel
theorem dX8_inside_3 : decode cX8_inside 3 = .ok (.invokevirtual 231, 3) := by decide +kernel
theorem dX8_inside_6 : decode cX8_inside 6 = .ok (.ifCond .eq 5, 3) := by decide +kernel
theorem dX8_inside_9 : decode cX8_inside 9 = .ok (.iconst 0, 1) := by decide +kernel
theorem dX8_inside_10 : decode cX8_inside 10 = .ok (.ireturn, 1) := by decide +kernel
theorem dX8_inside_11 : decode cX8_inside 11 = .ok (.iconst 0, 1) := by decide +kernel
theorem dX8_inside_12 : decode cX8_inside 12 = .ok (.istore_n 3, 1) := by decide +kernel
theorem dX8_inside_13 : decode cX8_inside 13 = .ok (.iconst 0, 1) := by decide +kernel
theorem dX8_inside_14 : decode cX8_inside 14 = .ok (.istore 4, 2) := by decide +kernel
theorem dX8_inside_16 : decode cX8_inside 16 = .ok (.iload 4, 2) := by decide +kernel
theorem dX8_inside_18 : decode cX8_inside 18 = .ok (.aload_n 0, 1) := by decide +kernel
theorem dX8_inside_19 : decode cX8_inside 19 = .ok (.getfield 119, 3) := by decide +kernel
theorem dX8_inside_22 : decode cX8_inside 22 = .ok (.if_icmp .ge 42, 3) := by decide +kernel
theorem dX8_inside_25 : decode cX8_inside 25 = .ok (.iload_n 3, 1) := by decide +kernel
theorem dX8_inside_26 : decode cX8_inside 26 = .ok (.iload 4, 2) := by decide +kernel
theorem dX8_inside_28 : decode cX8_inside 28 = .ok (.iload_n 2, 1) := by decide +kernel
theorem dX8_inside_29 : decode cX8_inside 29 = .ok (.if_icmp .eq 26, 3) := by decide +kernel
theorem dX8_inside_32 : decode cX8_inside 32 = .ok (.aload_n 0, 1) := by decide +kernel
theorem dX8_inside_33 : decode cX8_inside 33 = .ok (.iload 4, 2) := by decide +kernel
theorem dX8_inside_35 : decode cX8_inside 35 = .ok (.invokevirtual 125, 3) := by decide +kernel
theorem dX8_inside_38 : decode cX8_inside 38 = .ok (.ifCond .eq 17, 3) := by decide +kernel
theorem dX8_inside_41 : decode cX8_inside 41 = .ok (.aload_n 0, 1) := by decide +kernel
theorem dX8_inside_42 : decode cX8_inside 42 = .ok (.iload 4, 2) := by decide +kernel
theorem dX8_inside_44 : decode cX8_inside 44 = .ok (.iload_n 2, 1) := by decide +kernel
theorem dX8_inside_45 : decode cX8_inside 45 = .ok (.invokevirtual 196, 3) := by decide +kernel
theorem dX8_inside_48 : decode cX8_inside 48 = .ok (.ifCond .eq 7, 3) := by decide +kernel
theorem dX8_inside_51 : decode cX8_inside 51 = .ok (.iconst 1, 1) := by decide +kernel
theorem dX8_inside_52 : decode cX8_inside 52 = .ok (.goto 4, 3) := by decide +kernel
theorem dX8_inside_55 : decode cX8_inside 55 = .ok (.iconst 0, 1) := by decide +kernel
theorem dX8_inside_56 : decode cX8_inside 56 = .ok (.iadd, 1) := by decide +kernel
theorem dX8_inside_57 : decode cX8_inside 57 = .ok (.istore_n 3, 1) := by decide +kernel
theorem dX8_inside_58 : decode cX8_inside 58 = .ok (.iinc 4 1, 3) := by decide +kernel
theorem dX8_inside_61 : decode cX8_inside 61 = .ok (.goto (-45), 3) := by decide +kernel
theorem dX8_inside_64 : decode cX8_inside 64 = .ok (.iload_n 3, 1) := by decide +kernel
theorem dX8_inside_65 : decode cX8_inside 65 = .ok (.ireturn, 1) := by decide +kernel
theorem dX8_connectors_0 : decode cX8_connectors 0 = .ok (.aload_n 0, 1) := by decide +kernel
theorem dX8_connectors_1 : decode cX8_connectors 1 = .ok (.iload_n 1, 1) := by decide +kernel
theorem dX8_connectors_2 : decode cX8_connectors 2 = .ok (.invokevirtual 228, 3) := by decide +kernel
theorem dX8_connectors_5 : decode cX8_connectors 5 = .ok (.ifCond .eq 7, 3) := by decide +kernel
theorem dX8_connectors_8 : decode cX8_connectors 8 = .ok (.iconst 0, 1) := by decide +kernel
theorem dX8_connectors_9 : decode cX8_connectors 9 = .ok (.goto 7, 3) := by decide +kernel
theorem dX8_connectors_12 : decode cX8_connectors 12 = .ok (.aload_n 0, 1) := by decide +kernel
theorem dX8_connectors_13 : decode cX8_connectors 13 = .ok (.invokevirtual 216, 3) := by decide +kernel
theorem dX8_connectors_16 : decode cX8_connectors 16 = .ok (.ireturn, 1) := by decide +kernel
theorem dX8_endColumn_0 : decode cX8_endColumn 0 = .ok (.iload_n 2, 1) := by decide +kernel
theorem dX8_endColumn_1 : decode cX8_endColumn 1 = .ok (.bipush 108, 2) := by decide +kernel
theorem dX8_endColumn_3 : decode cX8_endColumn 3 = .ok (.if_icmp .ne 13, 3) := by decide +kernel
theorem dX8_endColumn_6 : decode cX8_endColumn 6 = .ok (.aload_n 0, 1) := by decide +kernel
theorem dX8_endColumn_7 : decode cX8_endColumn 7 = .ok (.iload_n 1, 1) := by decide +kernel
theorem dX8_endColumn_8 : decode cX8_endColumn 8 = .ok (.invokevirtual 141, 3) := by decide +kernel
theorem dX8_endColumn_11 : decode cX8_endColumn 11 = .ok (.iconst 1, 1) := by decide +kernel
theorem dX8_endColumn_12 : decode cX8_endColumn 12 = .ok (.isub, 1) := by decide +kernel
theorem dX8_endColumn_13 : decode cX8_endColumn 13 = .ok (.goto 40, 3) := by decide +kernel
theorem dX8_endColumn_16 : decode cX8_endColumn 16 = .ok (.iload_n 2, 1) := by decide +kernel
theorem dX8_endColumn_17 : decode cX8_endColumn 17 = .ok (.bipush 114, 2) := by decide +kernel
theorem dX8_endColumn_19 : decode cX8_endColumn 19 = .ok (.if_icmp .ne 18, 3) := by decide +kernel
theorem dX8_endColumn_22 : decode cX8_endColumn 22 = .ok (.aload_n 0, 1) := by decide +kernel
theorem dX8_endColumn_23 : decode cX8_endColumn 23 = .ok (.iload_n 1, 1) := by decide +kernel
theorem dX8_endColumn_24 : decode cX8_endColumn 24 = .ok (.invokevirtual 141, 3) := by decide +kernel
theorem dX8_endColumn_27 : decode cX8_endColumn 27 = .ok (.aload_n 0, 1) := by decide +kernel
theorem dX8_endColumn_28 : decode cX8_endColumn 28 = .ok (.getfield 9, 3) := by decide +kernel
theorem dX8_endColumn_31 : decode cX8_endColumn 31 = .ok (.iload_n 1, 1) := by decide +kernel
theorem dX8_endColumn_32 : decode cX8_endColumn 32 = .ok (.iaload, 1) := by decide +kernel
theorem dX8_endColumn_33 : decode cX8_endColumn 33 = .ok (.iadd, 1) := by decide +kernel
theorem dX8_endColumn_34 : decode cX8_endColumn 34 = .ok (.goto 19, 3) := by decide +kernel
theorem dX8_endColumn_37 : decode cX8_endColumn 37 = .ok (.aload_n 0, 1) := by decide +kernel
theorem dX8_endColumn_38 : decode cX8_endColumn 38 = .ok (.iload_n 1, 1) := by decide +kernel
theorem dX8_endColumn_39 : decode cX8_endColumn 39 = .ok (.invokevirtual 141, 3) := by decide +kernel
theorem dX8_endColumn_42 : decode cX8_endColumn 42 = .ok (.aload_n 0, 1) := by decide +kernel
theorem dX8_endColumn_43 : decode cX8_endColumn 43 = .ok (.getfield 9, 3) := by decide +kernel
theorem dX8_endColumn_46 : decode cX8_endColumn 46 = .ok (.iload_n 1, 1) := by decide +kernel
theorem dX8_endColumn_47 : decode cX8_endColumn 47 = .ok (.iaload, 1) := by decide +kernel
theorem dX8_endColumn_48 : decode cX8_endColumn 48 = .ok (.iconst 1, 1) := by decide +kernel
theorem dX8_endColumn_49 : decode cX8_endColumn 49 = .ok (.isub, 1) := by decide +kernel
theorem dX8_endColumn_50 : decode cX8_endColumn 50 = .ok (.iconst 2, 1) := by decide +kernel
theorem dX8_endColumn_51 : decode cX8_endColumn 51 = .ok (.idiv, 1) := by decide +kernel
theorem dX8_endColumn_52 : decode cX8_endColumn 52 = .ok (.iadd, 1) := by decide +kernel
theorem dX8_endColumn_53 : decode cX8_endColumn 53 = .ok (.ireturn, 1) := by decide +kernel
theorem dX8_endRow_0 : decode cX8_endRow 0 = .ok (.iload_n 2, 1) := by decide +kernel
theorem dX8_endRow_1 : decode cX8_endRow 1 = .ok (.bipush 116, 2) := by decide +kernel
theorem dX8_endRow_3 : decode cX8_endRow 3 = .ok (.if_icmp .ne 13, 3) := by decide +kernel
theorem dX8_endRow_6 : decode cX8_endRow 6 = .ok (.aload_n 0, 1) := by decide +kernel
theorem dX8_endRow_7 : decode cX8_endRow 7 = .ok (.iload_n 1, 1) := by decide +kernel
theorem dX8_endRow_8 : decode cX8_endRow 8 = .ok (.invokevirtual 145, 3) := by decide +kernel
theorem dX8_endRow_11 : decode cX8_endRow 11 = .ok (.iconst 1, 1) := by decide +kernel
theorem dX8_endRow_12 : decode cX8_endRow 12 = .ok (.isub, 1) := by decide +kernel
theorem dX8_endRow_13 : decode cX8_endRow 13 = .ok (.goto 40, 3) := by decide +kernel
theorem dX8_endRow_16 : decode cX8_endRow 16 = .ok (.iload_n 2, 1) := by decide +kernel
theorem dX8_endRow_17 : decode cX8_endRow 17 = .ok (.bipush 98, 2) := by decide +kernel
theorem dX8_endRow_19 : decode cX8_endRow 19 = .ok (.if_icmp .ne 18, 3) := by decide +kernel
theorem dX8_endRow_22 : decode cX8_endRow 22 = .ok (.aload_n 0, 1) := by decide +kernel
theorem dX8_endRow_23 : decode cX8_endRow 23 = .ok (.iload_n 1, 1) := by decide +kernel
theorem dX8_endRow_24 : decode cX8_endRow 24 = .ok (.invokevirtual 145, 3) := by decide +kernel
theorem dX8_endRow_27 : decode cX8_endRow 27 = .ok (.aload_n 0, 1) := by decide +kernel
theorem dX8_endRow_28 : decode cX8_endRow 28 = .ok (.getfield 13, 3) := by decide +kernel
theorem dX8_endRow_31 : decode cX8_endRow 31 = .ok (.iload_n 1, 1) := by decide +kernel
theorem dX8_endRow_32 : decode cX8_endRow 32 = .ok (.iaload, 1) := by decide +kernel
theorem dX8_endRow_33 : decode cX8_endRow 33 = .ok (.iadd, 1) := by decide +kernel
theorem dX8_endRow_34 : decode cX8_endRow 34 = .ok (.goto 19, 3) := by decide +kernel
theorem dX8_endRow_37 : decode cX8_endRow 37 = .ok (.aload_n 0, 1) := by decide +kernel
theorem dX8_endRow_38 : decode cX8_endRow 38 = .ok (.iload_n 1, 1) := by decide +kernel
theorem dX8_endRow_39 : decode cX8_endRow 39 = .ok (.invokevirtual 145, 3) := by decide +kernel
theorem dX8_endRow_42 : decode cX8_endRow 42 = .ok (.aload_n 0, 1) := by decide +kernel
theorem dX8_endRow_43 : decode cX8_endRow 43 = .ok (.getfield 13, 3) := by decide +kernel
theorem dX8_endRow_46 : decode cX8_endRow 46 = .ok (.iload_n 1, 1) := by decide +kernel
theorem dX8_endRow_47 : decode cX8_endRow 47 = .ok (.iaload, 1) := by decide +kernel
theorem dX8_endRow_48 : decode cX8_endRow 48 = .ok (.iconst 1, 1) := by decide +kernel
theorem dX8_endRow_49 : decode cX8_endRow 49 = .ok (.isub, 1) := by decide +kernel
theorem dX8_endRow_50 : decode cX8_endRow 50 = .ok (.iconst 2, 1) := by decide +kernel
theorem dX8_endRow_51 : decode cX8_endRow 51 = .ok (.idiv, 1) := by decide +kernel
theorem dX8_endRow_52 : decode cX8_endRow 52 = .ok (.iadd, 1) := by decide +kernel
theorem dX8_endRow_53 : decode cX8_endRow 53 = .ok (.ireturn, 1) := by decide +kernel
theorem dX8_isOpen_0 : decode cX8_isOpen 0 = .ok (.aload_n 0, 1) := by decide +kernel
theorem dX8_isOpen_1 : decode cX8_isOpen 1 = .ok (.iload_n 1, 1) := by decide +kernel
theorem dX8_isOpen_2 : decode cX8_isOpen 2 = .ok (.iload_n 2, 1) := by decide +kernel
theorem dX8_isOpen_3 : decode cX8_isOpen 3 = .ok (.iconst 1, 1) := by decide +kernel
theorem dX8_isOpen_4 : decode cX8_isOpen 4 = .ok (.iconst 1, 1) := by decide +kernel
theorem dX8_isOpen_5 : decode cX8_isOpen 5 = .ok (.invokevirtual 168, 3) := by decide +kernel
theorem dX8_isOpen_8 : decode cX8_isOpen 8 = .ok (.ifCond .eq 21, 3) := by decide +kernel
theorem dX8_isOpen_11 : decode cX8_isOpen 11 = .ok (.aload_n 0, 1) := by decide +kernel
theorem dX8_isOpen_12 : decode cX8_isOpen 12 = .ok (.getfield 91, 3) := by decide +kernel
theorem dX8_isOpen_15 : decode cX8_isOpen 15 = .ok (.bipush 24, 2) := by decide +kernel
theorem dX8_isOpen_17 : decode cX8_isOpen 17 = .ok (.iload_n 2, 1) := by decide +kernel
theorem dX8_isOpen_18 : decode cX8_isOpen 18 = .ok (.imul, 1) := by decide +kernel
theorem dX8_isOpen_19 : decode cX8_isOpen 19 = .ok (.iload_n 1, 1) := by decide +kernel
theorem dX8_isOpen_20 : decode cX8_isOpen 20 = .ok (.iadd, 1) := by decide +kernel
theorem dX8_isOpen_21 : decode cX8_isOpen 21 = .ok (.baload, 1) := by decide +kernel
theorem dX8_isOpen_22 : decode cX8_isOpen 22 = .ok (.ifCond .ne 7, 3) := by decide +kernel
theorem dX8_isOpen_25 : decode cX8_isOpen 25 = .ok (.iconst 1, 1) := by decide +kernel
theorem dX8_isOpen_26 : decode cX8_isOpen 26 = .ok (.goto 4, 3) := by decide +kernel
theorem dX8_isOpen_29 : decode cX8_isOpen 29 = .ok (.iconst 0, 1) := by decide +kernel
theorem dX8_isOpen_30 : decode cX8_isOpen 30 = .ok (.ireturn, 1) := by decide +kernel
theorem dX8_shuts_0 : decode cX8_shuts 0 = .ok (.iconst 0, 1) := by decide +kernel
theorem dX8_shuts_1 : decode cX8_shuts 1 = .ok (.istore_n 1, 1) := by decide +kernel
theorem dX8_shuts_2 : decode cX8_shuts 2 = .ok (.iload_n 1, 1) := by decide +kernel
theorem dX8_shuts_3 : decode cX8_shuts 3 = .ok (.sipush 384, 3) := by decide +kernel
theorem dX8_shuts_6 : decode cX8_shuts 6 = .ok (.if_icmp .ge 79, 3) := by decide +kernel
theorem dX8_shuts_9 : decode cX8_shuts 9 = .ok (.aload_n 0, 1) := by decide +kernel
theorem dX8_shuts_10 : decode cX8_shuts 10 = .ok (.getfield 91, 3) := by decide +kernel
theorem dX8_shuts_13 : decode cX8_shuts 13 = .ok (.iload_n 1, 1) := by decide +kernel
theorem dX8_shuts_14 : decode cX8_shuts 14 = .ok (.iconst 0, 1) := by decide +kernel
theorem dX8_shuts_15 : decode cX8_shuts 15 = .ok (.bastore, 1) := by decide +kernel
theorem dX8_shuts_16 : decode cX8_shuts 16 = .ok (.iconst 0, 1) := by decide +kernel
theorem dX8_shuts_17 : decode cX8_shuts 17 = .ok (.istore_n 2, 1) := by decide +kernel
theorem dX8_shuts_18 : decode cX8_shuts 18 = .ok (.iload_n 2, 1) := by decide +kernel
theorem dX8_shuts_19 : decode cX8_shuts 19 = .ok (.aload_n 0, 1) := by decide +kernel
theorem dX8_shuts_20 : decode cX8_shuts 20 = .ok (.getfield 119, 3) := by decide +kernel
theorem dX8_shuts_23 : decode cX8_shuts 23 = .ok (.if_icmp .ge 56, 3) := by decide +kernel
theorem dX8_shuts_26 : decode cX8_shuts 26 = .ok (.aload_n 0, 1) := by decide +kernel
theorem dX8_shuts_27 : decode cX8_shuts 27 = .ok (.getfield 91, 3) := by decide +kernel
theorem dX8_shuts_30 : decode cX8_shuts 30 = .ok (.iload_n 1, 1) := by decide +kernel
theorem dX8_shuts_31 : decode cX8_shuts 31 = .ok (.dup2, 1) := by decide +kernel
theorem dX8_shuts_32 : decode cX8_shuts 32 = .ok (.baload, 1) := by decide +kernel
theorem dX8_shuts_33 : decode cX8_shuts 33 = .ok (.aload_n 0, 1) := by decide +kernel
theorem dX8_shuts_34 : decode cX8_shuts 34 = .ok (.iload_n 2, 1) := by decide +kernel
theorem dX8_shuts_35 : decode cX8_shuts 35 = .ok (.invokevirtual 125, 3) := by decide +kernel
theorem dX8_shuts_38 : decode cX8_shuts 38 = .ok (.ifCond .eq 32, 3) := by decide +kernel
theorem dX8_shuts_41 : decode cX8_shuts 41 = .ok (.aload_n 0, 1) := by decide +kernel
theorem dX8_shuts_42 : decode cX8_shuts 42 = .ok (.getfield 22, 3) := by decide +kernel
theorem dX8_shuts_45 : decode cX8_shuts 45 = .ok (.iload_n 2, 1) := by decide +kernel
theorem dX8_shuts_46 : decode cX8_shuts 46 = .ok (.baload, 1) := by decide +kernel
theorem dX8_shuts_47 : decode cX8_shuts 47 = .ok (.ifCond .ne 23, 3) := by decide +kernel
theorem dX8_shuts_50 : decode cX8_shuts 50 = .ok (.aload_n 0, 1) := by decide +kernel
theorem dX8_shuts_51 : decode cX8_shuts 51 = .ok (.iload_n 2, 1) := by decide +kernel
theorem dX8_shuts_52 : decode cX8_shuts 52 = .ok (.iload_n 1, 1) := by decide +kernel
theorem dX8_shuts_53 : decode cX8_shuts 53 = .ok (.bipush 24, 2) := by decide +kernel
theorem dX8_shuts_55 : decode cX8_shuts 55 = .ok (.irem, 1) := by decide +kernel
theorem dX8_shuts_56 : decode cX8_shuts 56 = .ok (.iload_n 1, 1) := by decide +kernel
theorem dX8_shuts_57 : decode cX8_shuts 57 = .ok (.bipush 24, 2) := by decide +kernel
theorem dX8_shuts_59 : decode cX8_shuts 59 = .ok (.idiv, 1) := by decide +kernel
theorem dX8_shuts_60 : decode cX8_shuts 60 = .ok (.invokevirtual 235, 3) := by decide +kernel
