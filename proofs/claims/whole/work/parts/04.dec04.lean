theorem dX7_init_0 : decode cX7_init 0 = .ok (.aload_n 0, 1) := by decide +kernel
theorem dX7_init_1 : decode cX7_init 1 = .ok (.invokespecial 3, 3) := by decide +kernel
theorem dX7_init_4 : decode cX7_init 4 = .ok (.aload_n 0, 1) := by decide +kernel
theorem dX7_init_5 : decode cX7_init 5 = .ok (.new 9, 3) := by decide +kernel
theorem dX7_init_8 : decode cX7_init 8 = .ok (.dup, 1) := by decide +kernel
theorem dX7_init_9 : decode cX7_init 9 = .ok (.invokespecial 11, 3) := by decide +kernel
theorem dX7_init_12 : decode cX7_init 12 = .ok (.putfield 12, 3) := by decide +kernel
theorem dX7_init_15 : decode cX7_init 15 = .ok (.aload_n 0, 1) := by decide +kernel
theorem dX7_init_16 : decode cX7_init 16 = .ok (.new 16, 3) := by decide +kernel
theorem dX7_init_19 : decode cX7_init 19 = .ok (.dup, 1) := by decide +kernel
theorem dX7_init_20 : decode cX7_init 20 = .ok (.invokespecial 18, 3) := by decide +kernel
theorem dX7_init_23 : decode cX7_init 23 = .ok (.putfield 19, 3) := by decide +kernel
theorem dX7_init_26 : decode cX7_init 26 = .ok (.aload_n 0, 1) := by decide +kernel
theorem dX7_init_27 : decode cX7_init 27 = .ok (.iconst 3, 1) := by decide +kernel
theorem dX7_init_28 : decode cX7_init 28 = .ok (.anewarray 23, 3) := by decide +kernel
theorem dX7_init_31 : decode cX7_init 31 = .ok (.putfield 25, 3) := by decide +kernel
theorem dX7_init_34 : decode cX7_init 34 = .ok (.aload_n 0, 1) := by decide +kernel
theorem dX7_init_35 : decode cX7_init 35 = .ok (.new 29, 3) := by decide +kernel
theorem dX7_init_38 : decode cX7_init 38 = .ok (.dup, 1) := by decide +kernel
theorem dX7_init_39 : decode cX7_init 39 = .ok (.aload_n 0, 1) := by decide +kernel
theorem dX7_init_40 : decode cX7_init 40 = .ok (.getfield 12, 3) := by decide +kernel
theorem dX7_init_43 : decode cX7_init 43 = .ok (.aload_n 0, 1) := by decide +kernel
theorem dX7_init_44 : decode cX7_init 44 = .ok (.getfield 19, 3) := by decide +kernel
theorem dX7_init_47 : decode cX7_init 47 = .ok (.invokespecial 31, 3) := by decide +kernel
theorem dX7_init_50 : decode cX7_init 50 = .ok (.putfield 34, 3) := by decide +kernel
theorem dX7_init_53 : decode cX7_init 53 = .ok (.aload_n 0, 1) := by decide +kernel
theorem dX7_init_54 : decode cX7_init 54 = .ok (.new 38, 3) := by decide +kernel
theorem dX7_init_57 : decode cX7_init 57 = .ok (.dup, 1) := by decide +kernel
theorem dX7_init_58 : decode cX7_init 58 = .ok (.invokespecial 40, 3) := by decide +kernel
theorem dX7_init_61 : decode cX7_init 61 = .ok (.putfield 41, 3) := by decide +kernel
theorem dX7_init_64 : decode cX7_init 64 = .ok (.iconst 0, 1) := by decide +kernel
theorem dX7_init_65 : decode cX7_init 65 = .ok (.istore_n 1, 1) := by decide +kernel
theorem dX7_init_66 : decode cX7_init 66 = .ok (.iload_n 1, 1) := by decide +kernel
theorem dX7_init_67 : decode cX7_init 67 = .ok (.iconst 3, 1) := by decide +kernel
theorem dX7_init_68 : decode cX7_init 68 = .ok (.if_icmp .ge 31, 3) := by decide +kernel
theorem dX7_init_71 : decode cX7_init 71 = .ok (.aload_n 0, 1) := by decide +kernel
theorem dX7_init_72 : decode cX7_init 72 = .ok (.getfield 25, 3) := by decide +kernel
theorem dX7_init_75 : decode cX7_init 75 = .ok (.iload_n 1, 1) := by decide +kernel
theorem dX7_init_76 : decode cX7_init 76 = .ok (.new 23, 3) := by decide +kernel
theorem dX7_init_79 : decode cX7_init 79 = .ok (.dup, 1) := by decide +kernel
theorem dX7_init_80 : decode cX7_init 80 = .ok (.iload_n 1, 1) := by decide +kernel
theorem dX7_init_81 : decode cX7_init 81 = .ok (.aload_n 0, 1) := by decide +kernel
theorem dX7_init_82 : decode cX7_init 82 = .ok (.getfield 12, 3) := by decide +kernel
theorem dX7_init_85 : decode cX7_init 85 = .ok (.aload_n 0, 1) := by decide +kernel
theorem dX7_init_86 : decode cX7_init 86 = .ok (.getfield 19, 3) := by decide +kernel
theorem dX7_init_89 : decode cX7_init 89 = .ok (.invokespecial 45, 3) := by decide +kernel
theorem dX7_init_92 : decode cX7_init 92 = .ok (.aastore, 1) := by decide +kernel
theorem dX7_init_93 : decode cX7_init 93 = .ok (.iinc 1 1, 3) := by decide +kernel
theorem dX7_init_96 : decode cX7_init 96 = .ok (.goto (-30), 3) := by decide +kernel
theorem dX7_init_99 : decode cX7_init 99 = .ok (.return_, 1) := by decide +kernel
theorem dX7_addShape_0 : decode cX7_addShape 0 = .ok (.aload_n 0, 1) := by decide +kernel
theorem dX7_addShape_1 : decode cX7_addShape 1 = .ok (.iload_n 1, 1) := by decide +kernel
theorem dX7_addShape_2 : decode cX7_addShape 2 = .ok (.invokevirtual 48, 3) := by decide +kernel
theorem dX7_addShape_5 : decode cX7_addShape 5 = .ok (.astore 7, 2) := by decide +kernel
theorem dX7_addShape_7 : decode cX7_addShape 7 = .ok (.iload 4, 2) := by decide +kernel
theorem dX7_addShape_9 : decode cX7_addShape 9 = .ok (.invokestatic 52, 3) := by decide +kernel
theorem dX7_addShape_12 : decode cX7_addShape 12 = .ok (.ifCond .eq 23, 3) := by decide +kernel
theorem dX7_addShape_15 : decode cX7_addShape 15 = .ok (.iload 5, 2) := by decide +kernel
theorem dX7_addShape_17 : decode cX7_addShape 17 = .ok (.invokestatic 52, 3) := by decide +kernel
theorem dX7_addShape_20 : decode cX7_addShape 20 = .ok (.ifCond .eq 15, 3) := by decide +kernel
theorem dX7_addShape_23 : decode cX7_addShape 23 = .ok (.iload_n 2, 1) := by decide +kernel
theorem dX7_addShape_24 : decode cX7_addShape 24 = .ok (.iload_n 3, 1) := by decide +kernel
theorem dX7_addShape_25 : decode cX7_addShape 25 = .ok (.iload 4, 2) := by decide +kernel
theorem dX7_addShape_27 : decode cX7_addShape 27 = .ok (.iload 5, 2) := by decide +kernel
theorem dX7_addShape_29 : decode cX7_addShape 29 = .ok (.invokestatic 56, 3) := by decide +kernel
theorem dX7_addShape_32 : decode cX7_addShape 32 = .ok (.ifCond .ne 13, 3) := by decide +kernel
theorem dX7_addShape_35 : decode cX7_addShape 35 = .ok (.new 60, 3) := by decide +kernel
theorem dX7_addShape_38 : decode cX7_addShape 38 = .ok (.dup, 1) := by decide +kernel
theorem dX7_addShape_39 : decode cX7_addShape 39 = .ok (.ldc 62, 2) := by decide +kernel
theorem dX7_addShape_41 : decode cX7_addShape 41 = .ok (.invokespecial 64, 3) := by decide +kernel
theorem dX7_addShape_44 : decode cX7_addShape 44 = .ok (.athrow, 1) := by decide +kernel
theorem dX7_addShape_45 : decode cX7_addShape 45 = .ok (.aload_n 0, 1) := by decide +kernel
theorem dX7_addShape_46 : decode cX7_addShape 46 = .ok (.getfield 19, 3) := by decide +kernel
theorem dX7_addShape_49 : decode cX7_addShape 49 = .ok (.getfield 67, 3) := by decide +kernel
theorem dX7_addShape_52 : decode cX7_addShape 52 = .ok (.bipush 12, 2) := by decide +kernel
theorem dX7_addShape_54 : decode cX7_addShape 54 = .ok (.if_icmp .lt 13, 3) := by decide +kernel
theorem dX7_addShape_57 : decode cX7_addShape 57 = .ok (.new 71, 3) := by decide +kernel
theorem dX7_addShape_60 : decode cX7_addShape 60 = .ok (.dup, 1) := by decide +kernel
theorem dX7_addShape_61 : decode cX7_addShape 61 = .ok (.ldc 73, 2) := by decide +kernel
theorem dX7_addShape_63 : decode cX7_addShape 63 = .ok (.invokespecial 75, 3) := by decide +kernel
theorem dX7_addShape_66 : decode cX7_addShape 66 = .ok (.athrow, 1) := by decide +kernel
theorem dX7_addShape_67 : decode cX7_addShape 67 = .ok (.aload_n 0, 1) := by decide +kernel
theorem dX7_addShape_68 : decode cX7_addShape 68 = .ok (.invokevirtual 76, 3) := by decide +kernel
theorem dX7_addShape_71 : decode cX7_addShape 71 = .ok (.aload 7, 2) := by decide +kernel
theorem dX7_addShape_73 : decode cX7_addShape 73 = .ok (.getfield 79, 3) := by decide +kernel
theorem dX7_addShape_76 : decode cX7_addShape 76 = .ok (.invokevirtual 83, 3) := by decide +kernel
theorem dX7_addShape_79 : decode cX7_addShape 79 = .ok (.ifCond .ne 7, 3) := by decide +kernel
theorem dX7_addShape_82 : decode cX7_addShape 82 = .ok (.fconst 0, 1) := by decide +kernel
theorem dX7_addShape_83 : decode cX7_addShape 83 = .ok (.goto 13, 3) := by decide +kernel
theorem dX7_addShape_86 : decode cX7_addShape 86 = .ok (.aload 7, 2) := by decide +kernel
theorem dX7_addShape_88 : decode cX7_addShape 88 = .ok (.getfield 79, 3) := by decide +kernel
theorem dX7_addShape_91 : decode cX7_addShape 91 = .ok (.invokevirtual 89, 3) := by decide +kernel
theorem dX7_addShape_94 : decode cX7_addShape 94 = .ok (.fconst 1, 1) := by decide +kernel
theorem dX7_addShape_95 : decode cX7_addShape 95 = .ok (.fadd, 1) := by decide +kernel
theorem dX7_addShape_96 : decode cX7_addShape 96 = .ok (.fstore 8, 2) := by decide +kernel
theorem dX7_addShape_98 : decode cX7_addShape 98 = .ok (.aload_n 0, 1) := by decide +kernel
theorem dX7_addShape_99 : decode cX7_addShape 99 = .ok (.getfield 19, 3) := by decide +kernel
theorem dX7_addShape_102 : decode cX7_addShape 102 = .ok (.iload 4, 2) := by decide +kernel
theorem dX7_addShape_104 : decode cX7_addShape 104 = .ok (.iload 5, 2) := by decide +kernel
theorem dX7_addShape_106 : decode cX7_addShape 106 = .ok (.iload 6, 2) := by decide +kernel
theorem dX7_addShape_108 : decode cX7_addShape 108 = .ok (.invokevirtual 93, 3) := by decide +kernel
theorem dX7_addShape_111 : decode cX7_addShape 111 = .ok (.istore 9, 2) := by decide +kernel
theorem dX7_addShape_113 : decode cX7_addShape 113 = .ok (.aload 7, 2) := by decide +kernel
theorem dX7_addShape_115 : decode cX7_addShape 115 = .ok (.iconst 1, 1) := by decide +kernel
theorem dX7_addShape_116 : decode cX7_addShape 116 = .ok (.invokevirtual 97, 3) := by decide +kernel
theorem dX7_addShape_119 : decode cX7_addShape 119 = .ok (.aload 7, 2) := by decide +kernel
theorem dX7_addShape_121 : decode cX7_addShape 121 = .ok (.iconst 0, 1) := by decide +kernel
theorem dX7_addShape_122 : decode cX7_addShape 122 = .ok (.iload 9, 2) := by decide +kernel
theorem dX7_addShape_124 : decode cX7_addShape 124 = .ok (.iadd, 1) := by decide +kernel
theorem dX7_addShape_125 : decode cX7_addShape 125 = .ok (.fconst 1, 1) := by decide +kernel
theorem dX7_addShape_126 : decode cX7_addShape 126 = .ok (.invokevirtual 101, 3) := by decide +kernel
theorem dX7_addShape_129 : decode cX7_addShape 129 = .ok (.aload 7, 2) := by decide +kernel
theorem dX7_addShape_131 : decode cX7_addShape 131 = .ok (.bipush 12, 2) := by decide +kernel
theorem dX7_addShape_133 : decode cX7_addShape 133 = .ok (.iload 9, 2) := by decide +kernel
theorem dX7_addShape_135 : decode cX7_addShape 135 = .ok (.iadd, 1) := by decide +kernel
theorem dX7_addShape_136 : decode cX7_addShape 136 = .ok (.iload_n 2, 1) := by decide +kernel
theorem dX7_addShape_137 : decode cX7_addShape 137 = .ok (.iload_n 3, 1) := by decide +kernel
theorem dX7_addShape_138 : decode cX7_addShape 138 = .ok (.invokestatic 105, 3) := by decide +kernel
theorem dX7_addShape_141 : decode cX7_addShape 141 = .ok (.i2f, 1) := by decide +kernel
theorem dX7_addShape_142 : decode cX7_addShape 142 = .ok (.invokevirtual 101, 3) := by decide +kernel
theorem dX7_addShape_145 : decode cX7_addShape 145 = .ok (.aload 7, 2) := by decide +kernel
theorem dX7_addShape_147 : decode cX7_addShape 147 = .ok (.bipush 24, 2) := by decide +kernel
theorem dX7_addShape_149 : decode cX7_addShape 149 = .ok (.iload 9, 2) := by decide +kernel
theorem dX7_addShape_151 : decode cX7_addShape 151 = .ok (.iadd, 1) := by decide +kernel
theorem dX7_addShape_152 : decode cX7_addShape 152 = .ok (.fload 8, 2) := by decide +kernel
theorem dX7_addShape_154 : decode cX7_addShape 154 = .ok (.invokevirtual 101, 3) := by decide +kernel
theorem dX7_addShape_157 : decode cX7_addShape 157 = .ok (.aload 7, 2) := by decide +kernel
theorem dX7_addShape_159 : decode cX7_addShape 159 = .ok (.invokevirtual 109, 3) := by decide +kernel
theorem dX7_addShape_162 : decode cX7_addShape 162 = .ok (.iload 9, 2) := by decide +kernel
theorem dX7_addShape_164 : decode cX7_addShape 164 = .ok (.ireturn, 1) := by decide +kernel
theorem dX7_move_0 : decode cX7_move 0 = .ok (.aload_n 0, 1) := by decide +kernel
theorem dX7_move_1 : decode cX7_move 1 = .ok (.iload_n 1, 1) := by decide +kernel
theorem dX7_move_2 : decode cX7_move 2 = .ok (.invokevirtual 48, 3) := by decide +kernel
theorem dX7_move_5 : decode cX7_move 5 = .ok (.astore 5, 2) := by decide +kernel
theorem dX7_move_7 : decode cX7_move 7 = .ok (.aload_n 0, 1) := by decide +kernel
theorem dX7_move_8 : decode cX7_move 8 = .ok (.getfield 19, 3) := by decide +kernel
theorem dX7_move_11 : decode cX7_move 11 = .ok (.iload_n 2, 1) := by decide +kernel
theorem dX7_move_12 : decode cX7_move 12 = .ok (.invokevirtual 112, 3) := by decide +kernel
theorem dX7_move_15 : decode cX7_move 15 = .ok (.ifCond .eq 38, 3) := by decide +kernel
theorem dX7_move_18 : decode cX7_move 18 = .ok (.iload_n 3, 1) := by decide +kernel
theorem dX7_move_19 : decode cX7_move 19 = .ok (.iload 4, 2) := by decide +kernel
theorem dX7_move_21 : decode cX7_move 21 = .ok (.aload_n 0, 1) := by decide +kernel
theorem dX7_move_22 : decode cX7_move 22 = .ok (.getfield 19, 3) := by decide +kernel
theorem dX7_move_25 : decode cX7_move 25 = .ok (.iload_n 2, 1) := by decide +kernel
theorem dX7_move_26 : decode cX7_move 26 = .ok (.invokevirtual 115, 3) := by decide +kernel
theorem dX7_move_29 : decode cX7_move 29 = .ok (.aload_n 0, 1) := by decide +kernel
theorem dX7_move_30 : decode cX7_move 30 = .ok (.getfield 19, 3) := by decide +kernel
theorem dX7_move_33 : decode cX7_move 33 = .ok (.iload_n 2, 1) := by decide +kernel
theorem dX7_move_34 : decode cX7_move 34 = .ok (.invokevirtual 119, 3) := by decide +kernel
theorem dX7_move_37 : decode cX7_move 37 = .ok (.invokestatic 56, 3) := by decide +kernel
theorem dX7_move_40 : decode cX7_move 40 = .ok (.ifCond .ne 13, 3) := by decide +kernel
theorem dX7_move_43 : decode cX7_move 43 = .ok (.new 60, 3) := by decide +kernel
theorem dX7_move_46 : decode cX7_move 46 = .ok (.dup, 1) := by decide +kernel
theorem dX7_move_47 : decode cX7_move 47 = .ok (.ldc 122, 2) := by decide +kernel
theorem dX7_move_49 : decode cX7_move 49 = .ok (.invokespecial 64, 3) := by decide +kernel
theorem dX7_move_52 : decode cX7_move 52 = .ok (.athrow, 1) := by decide +kernel
theorem dX7_move_53 : decode cX7_move 53 = .ok (.aload 5, 2) := by decide +kernel
theorem dX7_move_55 : decode cX7_move 55 = .ok (.iload_n 2, 1) := by decide +kernel
theorem dX7_move_56 : decode cX7_move 56 = .ok (.invokestatic 124, 3) := by decide +kernel
theorem dX7_move_59 : decode cX7_move 59 = .ok (.aload_n 0, 1) := by decide +kernel
theorem dX7_move_60 : decode cX7_move 60 = .ok (.invokevirtual 76, 3) := by decide +kernel
theorem dX7_move_63 : decode cX7_move 63 = .ok (.aload_n 0, 1) := by decide +kernel
theorem dX7_move_64 : decode cX7_move 64 = .ok (.aload 5, 2) := by decide +kernel
theorem dX7_move_66 : decode cX7_move 66 = .ok (.iload_n 2, 1) := by decide +kernel
theorem dX7_move_67 : decode cX7_move 67 = .ok (.iload_n 3, 1) := by decide +kernel
theorem dX7_move_68 : decode cX7_move 68 = .ok (.iload 4, 2) := by decide +kernel
theorem dX7_move_70 : decode cX7_move 70 = .ok (.invokestatic 105, 3) := by decide +kernel
theorem dX7_move_73 : decode cX7_move 73 = .ok (.invokevirtual 128, 3) := by decide +kernel
theorem dX7_move_76 : decode cX7_move 76 = .ok (.ireturn, 1) := by decide +kernel
theorem dX7_raise_0 : decode cX7_raise 0 = .ok (.aload_n 0, 1) := by decide +kernel
theorem dX7_raise_1 : decode cX7_raise 1 = .ok (.iload_n 1, 1) := by decide +kernel
theorem dX7_raise_2 : decode cX7_raise 2 = .ok (.invokevirtual 48, 3) := by decide +kernel
theorem dX7_raise_5 : decode cX7_raise 5 = .ok (.astore_n 3, 1) := by decide +kernel
theorem dX7_raise_6 : decode cX7_raise 6 = .ok (.aload_n 3, 1) := by decide +kernel
theorem dX7_raise_7 : decode cX7_raise 7 = .ok (.iload_n 2, 1) := by decide +kernel
theorem dX7_raise_8 : decode cX7_raise 8 = .ok (.invokestatic 124, 3) := by decide +kernel
theorem dX7_raise_11 : decode cX7_raise 11 = .ok (.aload_n 0, 1) := by decide +kernel
theorem dX7_raise_12 : decode cX7_raise 12 = .ok (.invokevirtual 76, 3) := by decide +kernel
theorem dX7_raise_15 : decode cX7_raise 15 = .ok (.aload_n 3, 1) := by decide +kernel
theorem dX7_raise_16 : decode cX7_raise 16 = .ok (.iload_n 2, 1) := by decide +kernel
theorem dX7_raise_17 : decode cX7_raise 17 = .ok (.aload_n 3, 1) := by decide +kernel
theorem dX7_raise_18 : decode cX7_raise 18 = .ok (.getfield 79, 3) := by decide +kernel
theorem dX7_raise_21 : decode cX7_raise 21 = .ok (.invokevirtual 89, 3) := by decide +kernel
theorem dX7_raise_24 : decode cX7_raise 24 = .ok (.fconst 1, 1) := by decide +kernel
theorem dX7_raise_25 : decode cX7_raise 25 = .ok (.fadd, 1) := by decide +kernel
theorem dX7_raise_26 : decode cX7_raise 26 = .ok (.invokestatic 132, 3) := by decide +kernel
theorem dX7_raise_29 : decode cX7_raise 29 = .ok (.ireturn, 1) := by decide +kernel
theorem dX7_lower_0 : decode cX7_lower 0 = .ok (.aload_n 0, 1) := by decide +kernel
theorem dX7_lower_1 : decode cX7_lower 1 = .ok (.iload_n 1, 1) := by decide +kernel
theorem dX7_lower_2 : decode cX7_lower 2 = .ok (.invokevirtual 48, 3) := by decide +kernel
theorem dX7_lower_5 : decode cX7_lower 5 = .ok (.astore_n 3, 1) := by decide +kernel
theorem dX7_lower_6 : decode cX7_lower 6 = .ok (.aload_n 3, 1) := by decide +kernel
theorem dX7_lower_7 : decode cX7_lower 7 = .ok (.iload_n 2, 1) := by decide +kernel
theorem dX7_lower_8 : decode cX7_lower 8 = .ok (.invokestatic 124, 3) := by decide +kernel
theorem dX7_lower_11 : decode cX7_lower 11 = .ok (.aload_n 0, 1) := by decide +kernel
theorem dX7_lower_12 : decode cX7_lower 12 = .ok (.invokevirtual 76, 3) := by decide +kernel
theorem dX7_lower_15 : decode cX7_lower 15 = .ok (.aload_n 3, 1) := by decide +kernel
theorem dX7_lower_16 : decode cX7_lower 16 = .ok (.iload_n 2, 1) := by decide +kernel
theorem dX7_lower_17 : decode cX7_lower 17 = .ok (.aload_n 3, 1) := by decide +kernel
theorem dX7_lower_18 : decode cX7_lower 18 = .ok (.getfield 79, 3) := by decide +kernel
theorem dX7_lower_21 : decode cX7_lower 21 = .ok (.invokevirtual 136, 3) := by decide +kernel
theorem dX7_lower_24 : decode cX7_lower 24 = .ok (.fconst 1, 1) := by decide +kernel
theorem dX7_lower_25 : decode cX7_lower 25 = .ok (.fsub, 1) := by decide +kernel
theorem dX7_lower_26 : decode cX7_lower 26 = .ok (.invokestatic 132, 3) := by decide +kernel
theorem dX7_lower_29 : decode cX7_lower 29 = .ok (.ireturn, 1) := by decide +kernel
theorem dX7_putAbove_0 : decode cX7_putAbove 0 = .ok (.aload_n 0, 1) := by decide +kernel
theorem dX7_putAbove_1 : decode cX7_putAbove 1 = .ok (.iload_n 1, 1) := by decide +kernel
theorem dX7_putAbove_2 : decode cX7_putAbove 2 = .ok (.invokevirtual 48, 3) := by decide +kernel
theorem dX7_putAbove_5 : decode cX7_putAbove 5 = .ok (.astore 4, 2) := by decide +kernel
theorem dX7_putAbove_7 : decode cX7_putAbove 7 = .ok (.iload_n 2, 1) := by decide +kernel
theorem dX7_putAbove_8 : decode cX7_putAbove 8 = .ok (.iload_n 3, 1) := by decide +kernel
theorem dX7_putAbove_9 : decode cX7_putAbove 9 = .ok (.if_icmp .ne 13, 3) := by decide +kernel
theorem dX7_putAbove_12 : decode cX7_putAbove 12 = .ok (.new 60, 3) := by decide +kernel
theorem dX7_putAbove_15 : decode cX7_putAbove 15 = .ok (.dup, 1) := by decide +kernel
theorem dX7_putAbove_16 : decode cX7_putAbove 16 = .ok (.ldc 139, 2) := by decide +kernel
theorem dX7_putAbove_18 : decode cX7_putAbove 18 = .ok (.invokespecial 64, 3) := by decide +kernel
theorem dX7_putAbove_21 : decode cX7_putAbove 21 = .ok (.athrow, 1) := by decide +kernel
theorem dX7_putAbove_22 : decode cX7_putAbove 22 = .ok (.aload 4, 2) := by decide +kernel
theorem dX7_putAbove_24 : decode cX7_putAbove 24 = .ok (.iload_n 3, 1) := by decide +kernel
theorem dX7_putAbove_25 : decode cX7_putAbove 25 = .ok (.invokestatic 141, 3) := by decide +kernel
theorem dX7_putAbove_28 : decode cX7_putAbove 28 = .ok (.aload 4, 2) := by decide +kernel
theorem dX7_putAbove_30 : decode cX7_putAbove 30 = .ok (.iload_n 2, 1) := by decide +kernel
theorem dX7_putAbove_31 : decode cX7_putAbove 31 = .ok (.invokestatic 124, 3) := by decide +kernel
theorem dX7_putAbove_34 : decode cX7_putAbove 34 = .ok (.aload 4, 2) := by decide +kernel
theorem dX7_putAbove_36 : decode cX7_putAbove 36 = .ok (.getfield 79, 3) := by decide +kernel
theorem dX7_putAbove_39 : decode cX7_putAbove 39 = .ok (.iload_n 3, 1) := by decide +kernel
theorem dX7_putAbove_40 : decode cX7_putAbove 40 = .ok (.invokestatic 144, 3) := by decide +kernel
theorem dX7_putAbove_43 : decode cX7_putAbove 43 = .ok (.fstore 5, 2) := by decide +kernel
theorem dX7_putAbove_45 : decode cX7_putAbove 45 = .ok (.aload_n 0, 1) := by decide +kernel
theorem dX7_putAbove_46 : decode cX7_putAbove 46 = .ok (.invokevirtual 76, 3) := by decide +kernel
theorem dX7_putAbove_49 : decode cX7_putAbove 49 = .ok (.aload 4, 2) := by decide +kernel
theorem dX7_putAbove_51 : decode cX7_putAbove 51 = .ok (.iload_n 2, 1) := by decide +kernel
theorem dX7_putAbove_52 : decode cX7_putAbove 52 = .ok (.fload 5, 2) := by decide +kernel
theorem dX7_putAbove_54 : decode cX7_putAbove 54 = .ok (.invokestatic 132, 3) := by decide +kernel
theorem dX7_putAbove_57 : decode cX7_putAbove 57 = .ok (.ireturn, 1) := by decide +kernel
theorem dX7_remove_0 : decode cX7_remove 0 = .ok (.aload_n 0, 1) := by decide +kernel
theorem dX7_remove_1 : decode cX7_remove 1 = .ok (.iload_n 1, 1) := by decide +kernel
theorem dX7_remove_2 : decode cX7_remove 2 = .ok (.invokevirtual 48, 3) := by decide +kernel
theorem dX7_remove_5 : decode cX7_remove 5 = .ok (.astore_n 3, 1) := by decide +kernel
theorem dX7_remove_6 : decode cX7_remove 6 = .ok (.aload_n 3, 1) := by decide +kernel
theorem dX7_remove_7 : decode cX7_remove 7 = .ok (.iload_n 2, 1) := by decide +kernel
theorem dX7_remove_8 : decode cX7_remove 8 = .ok (.invokestatic 124, 3) := by decide +kernel
theorem dX7_remove_11 : decode cX7_remove 11 = .ok (.aload_n 0, 1) := by decide +kernel
theorem dX7_remove_12 : decode cX7_remove 12 = .ok (.invokevirtual 76, 3) := by decide +kernel
theorem dX7_remove_15 : decode cX7_remove 15 = .ok (.aload_n 3, 1) := by decide +kernel
theorem dX7_remove_16 : decode cX7_remove 16 = .ok (.iconst 0, 1) := by decide +kernel
theorem dX7_remove_17 : decode cX7_remove 17 = .ok (.iload_n 2, 1) := by decide +kernel
theorem dX7_remove_18 : decode cX7_remove 18 = .ok (.iadd, 1) := by decide +kernel
theorem dX7_remove_19 : decode cX7_remove 19 = .ok (.fconst 0, 1) := by decide +kernel
theorem dX7_remove_20 : decode cX7_remove 20 = .ok (.invokevirtual 148, 3) := by decide +kernel
theorem dX7_remove_23 : decode cX7_remove 23 = .ok (.aload_n 3, 1) := by decide +kernel
theorem dX7_remove_24 : decode cX7_remove 24 = .ok (.getfield 79, 3) := by decide +kernel
theorem dX7_remove_27 : decode cX7_remove 27 = .ok (.invokevirtual 83, 3) := by decide +kernel
theorem dX7_remove_30 : decode cX7_remove 30 = .ok (.ireturn, 1) := by decide +kernel
theorem dX7_lock_0 : decode cX7_lock 0 = .ok (.aload_n 0, 1) := by decide +kernel
theorem dX7_lock_1 : decode cX7_lock 1 = .ok (.iload_n 1, 1) := by decide +kernel
theorem dX7_lock_2 : decode cX7_lock 2 = .ok (.invokevirtual 48, 3) := by decide +kernel
theorem dX7_lock_5 : decode cX7_lock 5 = .ok (.astore_n 3, 1) := by decide +kernel
theorem dX7_lock_6 : decode cX7_lock 6 = .ok (.aload_n 3, 1) := by decide +kernel
theorem dX7_lock_7 : decode cX7_lock 7 = .ok (.iload_n 2, 1) := by decide +kernel
theorem dX7_lock_8 : decode cX7_lock 8 = .ok (.invokestatic 124, 3) := by decide +kernel
theorem dX7_lock_11 : decode cX7_lock 11 = .ok (.aload_n 0, 1) := by decide +kernel
theorem dX7_lock_12 : decode cX7_lock 12 = .ok (.invokevirtual 76, 3) := by decide +kernel
theorem dX7_lock_15 : decode cX7_lock 15 = .ok (.aload_n 3, 1) := by decide +kernel
theorem dX7_lock_16 : decode cX7_lock 16 = .ok (.bipush 36, 2) := by decide +kernel
theorem dX7_lock_18 : decode cX7_lock 18 = .ok (.iload_n 2, 1) := by decide +kernel
theorem dX7_lock_19 : decode cX7_lock 19 = .ok (.iadd, 1) := by decide +kernel
theorem dX7_lock_20 : decode cX7_lock 20 = .ok (.iload_n 1, 1) := by decide +kernel
theorem dX7_lock_21 : decode cX7_lock 21 = .ok (.iconst 1, 1) := by decide +kernel
theorem dX7_lock_22 : decode cX7_lock 22 = .ok (.iadd, 1) := by decide +kernel
theorem dX7_lock_23 : decode cX7_lock 23 = .ok (.i2f, 1) := by decide +kernel
theorem dX7_lock_24 : decode cX7_lock 24 = .ok (.invokevirtual 148, 3) := by decide +kernel
theorem dX7_lock_27 : decode cX7_lock 27 = .ok (.aload_n 3, 1) := by decide +kernel
theorem dX7_lock_28 : decode cX7_lock 28 = .ok (.getfield 79, 3) := by decide +kernel
theorem dX7_lock_31 : decode cX7_lock 31 = .ok (.iload_n 1, 1) := by decide +kernel
theorem dX7_lock_32 : decode cX7_lock 32 = .ok (.invokevirtual 151, 3) := by decide +kernel
theorem dX7_lock_35 : decode cX7_lock 35 = .ok (.ireturn, 1) := by decide +kernel
theorem dX7_unlock_0 : decode cX7_unlock 0 = .ok (.aload_n 0, 1) := by decide +kernel
theorem dX7_unlock_1 : decode cX7_unlock 1 = .ok (.iload_n 1, 1) := by decide +kernel
theorem dX7_unlock_2 : decode cX7_unlock 2 = .ok (.invokevirtual 48, 3) := by decide +kernel
theorem dX7_unlock_5 : decode cX7_unlock 5 = .ok (.astore_n 3, 1) := by decide +kernel
theorem dX7_unlock_6 : decode cX7_unlock 6 = .ok (.aload_n 3, 1) := by decide +kernel
theorem dX7_unlock_7 : decode cX7_unlock 7 = .ok (.iload_n 2, 1) := by decide +kernel
theorem dX7_unlock_8 : decode cX7_unlock 8 = .ok (.invokestatic 141, 3) := by decide +kernel
theorem dX7_unlock_11 : decode cX7_unlock 11 = .ok (.aload_n 3, 1) := by decide +kernel
theorem dX7_unlock_12 : decode cX7_unlock 12 = .ok (.getfield 79, 3) := by decide +kernel
theorem dX7_unlock_15 : decode cX7_unlock 15 = .ok (.iload_n 2, 1) := by decide +kernel
theorem dX7_unlock_16 : decode cX7_unlock 16 = .ok (.invokevirtual 154, 3) := by decide +kernel
theorem dX7_unlock_19 : decode cX7_unlock 19 = .ok (.istore 4, 2) := by decide +kernel
theorem dX7_unlock_21 : decode cX7_unlock 21 = .ok (.iload 4, 2) := by decide +kernel
theorem dX7_unlock_23 : decode cX7_unlock 23 = .ok (.iconst (-1), 1) := by decide +kernel
theorem dX7_unlock_24 : decode cX7_unlock 24 = .ok (.if_icmp .ne 13, 3) := by decide +kernel
theorem dX7_unlock_27 : decode cX7_unlock 27 = .ok (.new 157, 3) := by decide +kernel
theorem dX7_unlock_30 : decode cX7_unlock 30 = .ok (.dup, 1) := by decide +kernel
theorem dX7_unlock_31 : decode cX7_unlock 31 = .ok (.ldc 159, 2) := by decide +kernel
theorem dX7_unlock_33 : decode cX7_unlock 33 = .ok (.invokespecial 161, 3) := by decide +kernel
theorem dX7_unlock_36 : decode cX7_unlock 36 = .ok (.athrow, 1) := by decide +kernel
theorem dX7_unlock_37 : decode cX7_unlock 37 = .ok (.aload_n 0, 1) := by decide +kernel
theorem dX7_unlock_38 : decode cX7_unlock 38 = .ok (.invokevirtual 76, 3) := by decide +kernel
theorem dX7_unlock_41 : decode cX7_unlock 41 = .ok (.aload_n 3, 1) := by decide +kernel
theorem dX7_unlock_42 : decode cX7_unlock 42 = .ok (.bipush 36, 2) := by decide +kernel
theorem dX7_unlock_44 : decode cX7_unlock 44 = .ok (.iload_n 2, 1) := by decide +kernel
theorem dX7_unlock_45 : decode cX7_unlock 45 = .ok (.iadd, 1) := by decide +kernel
theorem dX7_unlock_46 : decode cX7_unlock 46 = .ok (.fconst 0, 1) := by decide +kernel
theorem dX7_unlock_47 : decode cX7_unlock 47 = .ok (.invokevirtual 148, 3) := by decide +kernel
theorem dX7_unlock_50 : decode cX7_unlock 50 = .ok (.iload 4, 2) := by decide +kernel
theorem dX7_unlock_52 : decode cX7_unlock 52 = .ok (.ireturn, 1) := by decide +kernel
theorem dX7_connect_0 : decode cX7_connect 0 = .ok (.aload_n 0, 1) := by decide +kernel
theorem dX7_connect_1 : decode cX7_connect 1 = .ok (.iload_n 1, 1) := by decide +kernel
theorem dX7_connect_2 : decode cX7_connect 2 = .ok (.invokevirtual 48, 3) := by decide +kernel
theorem dX7_connect_5 : decode cX7_connect 5 = .ok (.astore 6, 2) := by decide +kernel
theorem dX7_connect_7 : decode cX7_connect 7 = .ok (.iload_n 3, 1) := by decide +kernel
theorem dX7_connect_8 : decode cX7_connect 8 = .ok (.invokestatic 162, 3) := by decide +kernel
theorem dX7_connect_11 : decode cX7_connect 11 = .ok (.ifCond .eq 17, 3) := by decide +kernel
theorem dX7_connect_14 : decode cX7_connect 14 = .ok (.iload 5, 2) := by decide +kernel
theorem dX7_connect_16 : decode cX7_connect 16 = .ok (.invokestatic 162, 3) := by decide +kernel
theorem dX7_connect_19 : decode cX7_connect 19 = .ok (.ifCond .eq 9, 3) := by decide +kernel
theorem dX7_connect_22 : decode cX7_connect 22 = .ok (.iload_n 2, 1) := by decide +kernel
theorem dX7_connect_23 : decode cX7_connect 23 = .ok (.iload 4, 2) := by decide +kernel
theorem dX7_connect_25 : decode cX7_connect 25 = .ok (.if_icmp .ne 13, 3) := by decide +kernel
theorem dX7_connect_28 : decode cX7_connect 28 = .ok (.new 60, 3) := by decide +kernel
theorem dX7_connect_31 : decode cX7_connect 31 = .ok (.dup, 1) := by decide +kernel
theorem dX7_connect_32 : decode cX7_connect 32 = .ok (.ldc 166, 2) := by decide +kernel
theorem dX7_connect_34 : decode cX7_connect 34 = .ok (.invokespecial 64, 3) := by decide +kernel
theorem dX7_connect_37 : decode cX7_connect 37 = .ok (.athrow, 1) := by decide +kernel
theorem dX7_connect_38 : decode cX7_connect 38 = .ok (.aload 6, 2) := by decide +kernel
theorem dX7_connect_40 : decode cX7_connect 40 = .ok (.iload_n 2, 1) := by decide +kernel
theorem dX7_connect_41 : decode cX7_connect 41 = .ok (.invokestatic 141, 3) := by decide +kernel
theorem dX7_connect_44 : decode cX7_connect 44 = .ok (.aload 6, 2) := by decide +kernel
theorem dX7_connect_46 : decode cX7_connect 46 = .ok (.iload 4, 2) := by decide +kernel
theorem dX7_connect_48 : decode cX7_connect 48 = .ok (.invokestatic 141, 3) := by decide +kernel
theorem dX7_connect_51 : decode cX7_connect 51 = .ok (.aload_n 0, 1) := by decide +kernel
theorem dX7_connect_52 : decode cX7_connect 52 = .ok (.getfield 19, 3) := by decide +kernel
theorem dX7_connect_55 : decode cX7_connect 55 = .ok (.getfield 168, 3) := by decide +kernel
theorem dX7_connect_58 : decode cX7_connect 58 = .ok (.bipush 8, 2) := by decide +kernel
theorem dX7_connect_60 : decode cX7_connect 60 = .ok (.if_icmp .lt 13, 3) := by decide +kernel
theorem dX7_connect_63 : decode cX7_connect 63 = .ok (.new 71, 3) := by decide +kernel
theorem dX7_connect_66 : decode cX7_connect 66 = .ok (.dup, 1) := by decide +kernel
theorem dX7_connect_67 : decode cX7_connect 67 = .ok (.ldc 171, 2) := by decide +kernel
theorem dX7_connect_69 : decode cX7_connect 69 = .ok (.invokespecial 75, 3) := by decide +kernel
theorem dX7_connect_72 : decode cX7_connect 72 = .ok (.athrow, 1) := by decide +kernel
theorem dX7_connect_73 : decode cX7_connect 73 = .ok (.aload_n 0, 1) := by decide +kernel
theorem dX7_connect_74 : decode cX7_connect 74 = .ok (.invokevirtual 76, 3) := by decide +kernel
theorem dX7_connect_77 : decode cX7_connect 77 = .ok (.aload_n 0, 1) := by decide +kernel
theorem dX7_connect_78 : decode cX7_connect 78 = .ok (.getfield 19, 3) := by decide +kernel
theorem dX7_connect_81 : decode cX7_connect 81 = .ok (.iload_n 2, 1) := by decide +kernel
theorem dX7_connect_82 : decode cX7_connect 82 = .ok (.iload_n 3, 1) := by decide +kernel
theorem dX7_connect_83 : decode cX7_connect 83 = .ok (.iload 4, 2) := by decide +kernel
theorem dX7_connect_85 : decode cX7_connect 85 = .ok (.iload 5, 2) := by decide +kernel
theorem dX7_connect_87 : decode cX7_connect 87 = .ok (.invokevirtual 173, 3) := by decide +kernel
theorem dX7_connect_90 : decode cX7_connect 90 = .ok (.istore 7, 2) := by decide +kernel
theorem dX7_connect_92 : decode cX7_connect 92 = .ok (.aload 6, 2) := by decide +kernel
theorem dX7_connect_94 : decode cX7_connect 94 = .ok (.bipush 48, 2) := by decide +kernel
theorem dX7_connect_96 : decode cX7_connect 96 = .ok (.iload 7, 2) := by decide +kernel
theorem dX7_connect_98 : decode cX7_connect 98 = .ok (.iadd, 1) := by decide +kernel
theorem dX7_connect_99 : decode cX7_connect 99 = .ok (.fconst 1, 1) := by decide +kernel
theorem dX7_connect_100 : decode cX7_connect 100 = .ok (.invokevirtual 148, 3) := by decide +kernel
theorem dX7_connect_103 : decode cX7_connect 103 = .ok (.iload 7, 2) := by decide +kernel
theorem dX7_connect_105 : decode cX7_connect 105 = .ok (.ireturn, 1) := by decide +kernel
theorem dX7_disconnect_0 : decode cX7_disconnect 0 = .ok (.aload_n 0, 1) := by decide +kernel
theorem dX7_disconnect_1 : decode cX7_disconnect 1 = .ok (.iload_n 1, 1) := by decide +kernel
theorem dX7_disconnect_2 : decode cX7_disconnect 2 = .ok (.invokevirtual 48, 3) := by decide +kernel
theorem dX7_disconnect_5 : decode cX7_disconnect 5 = .ok (.astore_n 3, 1) := by decide +kernel
theorem dX7_disconnect_6 : decode cX7_disconnect 6 = .ok (.aload_n 3, 1) := by decide +kernel
theorem dX7_disconnect_7 : decode cX7_disconnect 7 = .ok (.iload_n 2, 1) := by decide +kernel
theorem dX7_disconnect_8 : decode cX7_disconnect 8 = .ok (.invokestatic 177, 3) := by decide +kernel
theorem dX7_disconnect_11 : decode cX7_disconnect 11 = .ok (.aload_n 0, 1) := by decide +kernel
theorem dX7_disconnect_12 : decode cX7_disconnect 12 = .ok (.invokevirtual 76, 3) := by decide +kernel
theorem dX7_disconnect_15 : decode cX7_disconnect 15 = .ok (.aload_n 3, 1) := by decide +kernel
theorem dX7_disconnect_16 : decode cX7_disconnect 16 = .ok (.bipush 48, 2) := by decide +kernel
theorem dX7_disconnect_18 : decode cX7_disconnect 18 = .ok (.iload_n 2, 1) := by decide +kernel
theorem dX7_disconnect_19 : decode cX7_disconnect 19 = .ok (.iadd, 1) := by decide +kernel
theorem dX7_disconnect_20 : decode cX7_disconnect 20 = .ok (.fconst 0, 1) := by decide +kernel
theorem dX7_disconnect_21 : decode cX7_disconnect 21 = .ok (.invokevirtual 148, 3) := by decide +kernel
theorem dX7_disconnect_24 : decode cX7_disconnect 24 = .ok (.aload_n 3, 1) := by decide +kernel
theorem dX7_disconnect_25 : decode cX7_disconnect 25 = .ok (.getfield 79, 3) := by decide +kernel
theorem dX7_disconnect_28 : decode cX7_disconnect 28 = .ok (.invokevirtual 180, 3) := by decide +kernel
theorem dX7_disconnect_31 : decode cX7_disconnect 31 = .ok (.ireturn, 1) := by decide +kernel
theorem dX7_vote_0 : decode cX7_vote 0 = .ok (.aload_n 0, 1) := by decide +kernel
theorem dX7_vote_1 : decode cX7_vote 1 = .ok (.iload_n 1, 1) := by decide +kernel
theorem dX7_vote_2 : decode cX7_vote 2 = .ok (.invokevirtual 48, 3) := by decide +kernel
theorem dX7_vote_5 : decode cX7_vote 5 = .ok (.astore 4, 2) := by decide +kernel
theorem dX7_vote_7 : decode cX7_vote 7 = .ok (.iload_n 3, 1) := by decide +kernel
theorem dX7_vote_8 : decode cX7_vote 8 = .ok (.ifCond .lt 8, 3) := by decide +kernel
theorem dX7_vote_11 : decode cX7_vote 11 = .ok (.iload_n 3, 1) := by decide +kernel
theorem dX7_vote_12 : decode cX7_vote 12 = .ok (.iconst 3, 1) := by decide +kernel
theorem dX7_vote_13 : decode cX7_vote 13 = .ok (.if_icmp .le 13, 3) := by decide +kernel
theorem dX7_vote_16 : decode cX7_vote 16 = .ok (.new 60, 3) := by decide +kernel
theorem dX7_vote_19 : decode cX7_vote 19 = .ok (.dup, 1) := by decide +kernel
theorem dX7_vote_20 : decode cX7_vote 20 = .ok (.ldc 183, 2) := by decide +kernel
theorem dX7_vote_22 : decode cX7_vote 22 = .ok (.invokespecial 64, 3) := by decide +kernel
theorem dX7_vote_25 : decode cX7_vote 25 = .ok (.athrow, 1) := by decide +kernel
theorem dX7_vote_26 : decode cX7_vote 26 = .ok (.aload 4, 2) := by decide +kernel
theorem dX7_vote_28 : decode cX7_vote 28 = .ok (.iload_n 2, 1) := by decide +kernel
theorem dX7_vote_29 : decode cX7_vote 29 = .ok (.invokestatic 141, 3) := by decide +kernel
theorem dX7_vote_32 : decode cX7_vote 32 = .ok (.aload 4, 2) := by decide +kernel
theorem dX7_vote_34 : decode cX7_vote 34 = .ok (.getfield 79, 3) := by decide +kernel
theorem dX7_vote_37 : decode cX7_vote 37 = .ok (.iload_n 1, 1) := by decide +kernel
theorem dX7_vote_38 : decode cX7_vote 38 = .ok (.iload_n 2, 1) := by decide +kernel
theorem dX7_vote_39 : decode cX7_vote 39 = .ok (.invokevirtual 185, 3) := by decide +kernel
theorem dX7_vote_42 : decode cX7_vote 42 = .ok (.istore 5, 2) := by decide +kernel
theorem dX7_vote_44 : decode cX7_vote 44 = .ok (.aload 4, 2) := by decide +kernel
theorem dX7_vote_46 : decode cX7_vote 46 = .ok (.getfield 79, 3) := by decide +kernel
theorem dX7_vote_49 : decode cX7_vote 49 = .ok (.invokevirtual 188, 3) := by decide +kernel
theorem dX7_vote_52 : decode cX7_vote 52 = .ok (.ifCond .ne 21, 3) := by decide +kernel
theorem dX7_vote_55 : decode cX7_vote 55 = .ok (.aload 4, 2) := by decide +kernel
theorem dX7_vote_57 : decode cX7_vote 57 = .ok (.getfield 79, 3) := by decide +kernel
theorem dX7_vote_60 : decode cX7_vote 60 = .ok (.iload_n 1, 1) := by decide +kernel
theorem dX7_vote_61 : decode cX7_vote 61 = .ok (.invokevirtual 192, 3) := by decide +kernel
theorem dX7_vote_64 : decode cX7_vote 64 = .ok (.iload 5, 2) := by decide +kernel
theorem dX7_vote_66 : decode cX7_vote 66 = .ok (.isub, 1) := by decide +kernel
theorem dX7_vote_67 : decode cX7_vote 67 = .ok (.iload_n 3, 1) := by decide +kernel
theorem dX7_vote_68 : decode cX7_vote 68 = .ok (.iadd, 1) := by decide +kernel
theorem dX7_vote_69 : decode cX7_vote 69 = .ok (.iconst 5, 1) := by decide +kernel
theorem dX7_vote_70 : decode cX7_vote 70 = .ok (.if_icmp .le 13, 3) := by decide +kernel
theorem dX7_vote_73 : decode cX7_vote 73 = .ok (.new 157, 3) := by decide +kernel
theorem dX7_vote_76 : decode cX7_vote 76 = .ok (.dup, 1) := by decide +kernel
theorem dX7_vote_77 : decode cX7_vote 77 = .ok (.ldc 195, 2) := by decide +kernel
theorem dX7_vote_79 : decode cX7_vote 79 = .ok (.invokespecial 161, 3) := by decide +kernel
theorem dX7_vote_82 : decode cX7_vote 82 = .ok (.athrow, 1) := by decide +kernel
theorem dX7_vote_83 : decode cX7_vote 83 = .ok (.aload_n 0, 1) := by decide +kernel
theorem dX7_vote_84 : decode cX7_vote 84 = .ok (.invokevirtual 76, 3) := by decide +kernel
theorem dX7_vote_87 : decode cX7_vote 87 = .ok (.aload 4, 2) := by decide +kernel
theorem dX7_vote_89 : decode cX7_vote 89 = .ok (.iload_n 1, 1) := by decide +kernel
theorem dX7_vote_90 : decode cX7_vote 90 = .ok (.iload_n 2, 1) := by decide +kernel
theorem dX7_vote_91 : decode cX7_vote 91 = .ok (.invokestatic 197, 3) := by decide +kernel
theorem dX7_vote_94 : decode cX7_vote 94 = .ok (.iload_n 3, 1) := by decide +kernel
theorem dX7_vote_95 : decode cX7_vote 95 = .ok (.i2f, 1) := by decide +kernel
theorem dX7_vote_96 : decode cX7_vote 96 = .ok (.invokevirtual 148, 3) := by decide +kernel
theorem dX7_vote_99 : decode cX7_vote 99 = .ok (.iload 5, 2) := by decide +kernel
theorem dX7_vote_101 : decode cX7_vote 101 = .ok (.ireturn, 1) := by decide +kernel
theorem dX7_show_0 : decode cX7_show 0 = .ok (.aload_n 0, 1) := by decide +kernel
theorem dX7_show_1 : decode cX7_show 1 = .ok (.iload_n 1, 1) := by decide +kernel
theorem dX7_show_2 : decode cX7_show 2 = .ok (.invokevirtual 48, 3) := by decide +kernel
theorem dX7_show_5 : decode cX7_show 5 = .ok (.astore_n 3, 1) := by decide +kernel
theorem dX7_show_6 : decode cX7_show 6 = .ok (.aload_n 0, 1) := by decide +kernel
theorem dX7_show_7 : decode cX7_show 7 = .ok (.invokevirtual 76, 3) := by decide +kernel
theorem dX7_show_10 : decode cX7_show 10 = .ok (.aload_n 3, 1) := by decide +kernel
theorem dX7_show_11 : decode cX7_show 11 = .ok (.getfield 79, 3) := by decide +kernel
theorem dX7_show_14 : decode cX7_show 14 = .ok (.invokevirtual 188, 3) := by decide +kernel
theorem dX7_show_17 : decode cX7_show 17 = .ok (.istore 4, 2) := by decide +kernel
theorem dX7_show_19 : decode cX7_show 19 = .ok (.aload_n 3, 1) := by decide +kernel
theorem dX7_show_20 : decode cX7_show 20 = .ok (.bipush 92, 2) := by decide +kernel
theorem dX7_show_22 : decode cX7_show 22 = .ok (.iload_n 2, 1) := by decide +kernel
theorem dX7_show_23 : decode cX7_show 23 = .ok (.ifCond .eq 7, 3) := by decide +kernel
theorem dX7_show_26 : decode cX7_show 26 = .ok (.fconst 1, 1) := by decide +kernel
theorem dX7_show_27 : decode cX7_show 27 = .ok (.goto 4, 3) := by decide +kernel
theorem dX7_show_30 : decode cX7_show 30 = .ok (.fconst 0, 1) := by decide +kernel
theorem dX7_show_31 : decode cX7_show 31 = .ok (.invokevirtual 148, 3) := by decide +kernel
theorem dX7_show_34 : decode cX7_show 34 = .ok (.iload 4, 2) := by decide +kernel
theorem dX7_show_36 : decode cX7_show 36 = .ok (.ireturn, 1) := by decide +kernel
theorem dX7_takeBack_0 : decode cX7_takeBack 0 = .ok (.aload_n 0, 1) := by decide +kernel
theorem dX7_takeBack_1 : decode cX7_takeBack 1 = .ok (.iload_n 1, 1) := by decide +kernel
theorem dX7_takeBack_2 : decode cX7_takeBack 2 = .ok (.invokevirtual 48, 3) := by decide +kernel
theorem dX7_takeBack_5 : decode cX7_takeBack 5 = .ok (.astore_n 2, 1) := by decide +kernel
theorem dX7_takeBack_6 : decode cX7_takeBack 6 = .ok (.aload_n 0, 1) := by decide +kernel
theorem dX7_takeBack_7 : decode cX7_takeBack 7 = .ok (.getfield 12, 3) := by decide +kernel
theorem dX7_takeBack_10 : decode cX7_takeBack 10 = .ok (.iload_n 1, 1) := by decide +kernel
theorem dX7_takeBack_11 : decode cX7_takeBack 11 = .ok (.invokevirtual 200, 3) := by decide +kernel
theorem dX7_takeBack_14 : decode cX7_takeBack 14 = .ok (.istore_n 3, 1) := by decide +kernel
theorem dX7_takeBack_15 : decode cX7_takeBack 15 = .ok (.iload_n 3, 1) := by decide +kernel
theorem dX7_takeBack_16 : decode cX7_takeBack 16 = .ok (.iconst (-1), 1) := by decide +kernel
theorem dX7_takeBack_17 : decode cX7_takeBack 17 = .ok (.if_icmp .ne 13, 3) := by decide +kernel
theorem dX7_takeBack_20 : decode cX7_takeBack 20 = .ok (.new 203, 3) := by decide +kernel
theorem dX7_takeBack_23 : decode cX7_takeBack 23 = .ok (.dup, 1) := by decide +kernel
theorem dX7_takeBack_24 : decode cX7_takeBack 24 = .ok (.ldc 205, 2) := by decide +kernel
theorem dX7_takeBack_26 : decode cX7_takeBack 26 = .ok (.invokespecial 207, 3) := by decide +kernel
theorem dX7_takeBack_29 : decode cX7_takeBack 29 = .ok (.athrow, 1) := by decide +kernel
theorem dX7_takeBack_30 : decode cX7_takeBack 30 = .ok (.aload_n 0, 1) := by decide +kernel
theorem dX7_takeBack_31 : decode cX7_takeBack 31 = .ok (.invokevirtual 76, 3) := by decide +kernel
theorem dX7_takeBack_34 : decode cX7_takeBack 34 = .ok (.aload_n 2, 1) := by decide +kernel
theorem dX7_takeBack_35 : decode cX7_takeBack 35 = .ok (.iload_n 3, 1) := by decide +kernel
theorem dX7_takeBack_36 : decode cX7_takeBack 36 = .ok (.invokevirtual 208, 3) := by decide +kernel
theorem dX7_takeBack_39 : decode cX7_takeBack 39 = .ok (.ireturn, 1) := by decide +kernel
theorem dX7_deliver_0 : decode cX7_deliver 0 = .ok (.aload_n 0, 1) := by decide +kernel
theorem dX7_deliver_1 : decode cX7_deliver 1 = .ok (.iload_n 1, 1) := by decide +kernel
theorem dX7_deliver_2 : decode cX7_deliver 2 = .ok (.invokevirtual 48, 3) := by decide +kernel
theorem dX7_deliver_5 : decode cX7_deliver 5 = .ok (.astore_n 3, 1) := by decide +kernel
theorem dX7_deliver_6 : decode cX7_deliver 6 = .ok (.aload_n 0, 1) := by decide +kernel
theorem dX7_deliver_7 : decode cX7_deliver 7 = .ok (.iload_n 2, 1) := by decide +kernel
theorem dX7_deliver_8 : decode cX7_deliver 8 = .ok (.invokevirtual 211, 3) := by decide +kernel
theorem dX7_deliver_11 : decode cX7_deliver 11 = .ok (.aload_n 3, 1) := by decide +kernel
theorem dX7_deliver_12 : decode cX7_deliver 12 = .ok (.iload_n 2, 1) := by decide +kernel
theorem dX7_deliver_13 : decode cX7_deliver 13 = .ok (.invokevirtual 215, 3) := by decide +kernel
theorem dX7_deliver_16 : decode cX7_deliver 16 = .ok (.ifCond .eq 13, 3) := by decide +kernel
theorem dX7_deliver_19 : decode cX7_deliver 19 = .ok (.new 71, 3) := by decide +kernel
theorem dX7_deliver_22 : decode cX7_deliver 22 = .ok (.dup, 1) := by decide +kernel
theorem dX7_deliver_23 : decode cX7_deliver 23 = .ok (.ldc 218, 2) := by decide +kernel
theorem dX7_deliver_25 : decode cX7_deliver 25 = .ok (.invokespecial 75, 3) := by decide +kernel
theorem dX7_deliver_28 : decode cX7_deliver 28 = .ok (.athrow, 1) := by decide +kernel
theorem dX7_deliver_29 : decode cX7_deliver 29 = .ok (.aload_n 3, 1) := by decide +kernel
theorem dX7_deliver_30 : decode cX7_deliver 30 = .ok (.iload_n 2, 1) := by decide +kernel
theorem dX7_deliver_31 : decode cX7_deliver 31 = .ok (.invokevirtual 220, 3) := by decide +kernel
theorem dX7_deliver_34 : decode cX7_deliver 34 = .ok (.aload_n 3, 1) := by decide +kernel
theorem dX7_deliver_35 : decode cX7_deliver 35 = .ok (.getfield 223, 3) := by decide +kernel
theorem dX7_deliver_38 : decode cX7_deliver 38 = .ok (.ireturn, 1) := by decide +kernel
theorem dX7_sync_0 : decode cX7_sync 0 = .ok (.aload_n 0, 1) := by decide +kernel
theorem dX7_sync_1 : decode cX7_sync 1 = .ok (.iload_n 1, 1) := by decide +kernel
theorem dX7_sync_2 : decode cX7_sync 2 = .ok (.invokevirtual 48, 3) := by decide +kernel
theorem dX7_sync_5 : decode cX7_sync 5 = .ok (.astore_n 3, 1) := by decide +kernel
theorem dX7_sync_6 : decode cX7_sync 6 = .ok (.aload_n 0, 1) := by decide +kernel
theorem dX7_sync_7 : decode cX7_sync 7 = .ok (.iload_n 2, 1) := by decide +kernel
theorem dX7_sync_8 : decode cX7_sync 8 = .ok (.invokevirtual 48, 3) := by decide +kernel
theorem dX7_sync_11 : decode cX7_sync 11 = .ok (.astore 4, 2) := by decide +kernel
theorem dX7_sync_13 : decode cX7_sync 13 = .ok (.iload_n 1, 1) := by decide +kernel
theorem dX7_sync_14 : decode cX7_sync 14 = .ok (.iload_n 2, 1) := by decide +kernel
theorem dX7_sync_15 : decode cX7_sync 15 = .ok (.if_icmp .ne 13, 3) := by decide +kernel
theorem dX7_sync_18 : decode cX7_sync 18 = .ok (.new 60, 3) := by decide +kernel
theorem dX7_sync_21 : decode cX7_sync 21 = .ok (.dup, 1) := by decide +kernel
theorem dX7_sync_22 : decode cX7_sync 22 = .ok (.ldc 226, 2) := by decide +kernel
theorem dX7_sync_24 : decode cX7_sync 24 = .ok (.invokespecial 64, 3) := by decide +kernel
theorem dX7_sync_27 : decode cX7_sync 27 = .ok (.athrow, 1) := by decide +kernel
theorem dX7_sync_28 : decode cX7_sync 28 = .ok (.iconst 0, 1) := by decide +kernel
theorem dX7_sync_29 : decode cX7_sync 29 = .ok (.istore 5, 2) := by decide +kernel
theorem dX7_sync_31 : decode cX7_sync 31 = .ok (.iconst 0, 1) := by decide +kernel
theorem dX7_sync_32 : decode cX7_sync 32 = .ok (.istore 6, 2) := by decide +kernel
theorem dX7_sync_34 : decode cX7_sync 34 = .ok (.iload 6, 2) := by decide +kernel
theorem dX7_sync_36 : decode cX7_sync 36 = .ok (.aload_n 0, 1) := by decide +kernel
theorem dX7_sync_37 : decode cX7_sync 37 = .ok (.getfield 12, 3) := by decide +kernel
theorem dX7_sync_40 : decode cX7_sync 40 = .ok (.getfield 228, 3) := by decide +kernel
theorem dX7_sync_43 : decode cX7_sync 43 = .ok (.if_icmp .ge 52, 3) := by decide +kernel
theorem dX7_sync_46 : decode cX7_sync 46 = .ok (.aload_n 3, 1) := by decide +kernel
theorem dX7_sync_47 : decode cX7_sync 47 = .ok (.iload 6, 2) := by decide +kernel
theorem dX7_sync_49 : decode cX7_sync 49 = .ok (.invokevirtual 215, 3) := by decide +kernel
theorem dX7_sync_52 : decode cX7_sync 52 = .ok (.aload 4, 2) := by decide +kernel
theorem dX7_sync_54 : decode cX7_sync 54 = .ok (.iload 6, 2) := by decide +kernel
theorem dX7_sync_56 : decode cX7_sync 56 = .ok (.invokevirtual 215, 3) := by decide +kernel
theorem dX7_sync_59 : decode cX7_sync 59 = .ok (.if_icmp .eq 30, 3) := by decide +kernel
theorem dX7_sync_62 : decode cX7_sync 62 = .ok (.aload_n 3, 1) := by decide +kernel
theorem dX7_sync_63 : decode cX7_sync 63 = .ok (.iload 6, 2) := by decide +kernel
theorem dX7_sync_65 : decode cX7_sync 65 = .ok (.invokevirtual 215, 3) := by decide +kernel
theorem dX7_sync_68 : decode cX7_sync 68 = .ok (.ifCond .eq 8, 3) := by decide +kernel
theorem dX7_sync_71 : decode cX7_sync 71 = .ok (.aload 4, 2) := by decide +kernel
theorem dX7_sync_73 : decode cX7_sync 73 = .ok (.goto 4, 3) := by decide +kernel
theorem dX7_sync_76 : decode cX7_sync 76 = .ok (.aload_n 3, 1) := by decide +kernel
theorem dX7_sync_77 : decode cX7_sync 77 = .ok (.astore 7, 2) := by decide +kernel
theorem dX7_sync_79 : decode cX7_sync 79 = .ok (.aload 7, 2) := by decide +kernel
theorem dX7_sync_81 : decode cX7_sync 81 = .ok (.iload 6, 2) := by decide +kernel
theorem dX7_sync_83 : decode cX7_sync 83 = .ok (.invokevirtual 220, 3) := by decide +kernel
theorem dX7_sync_86 : decode cX7_sync 86 = .ok (.iinc 5 1, 3) := by decide +kernel
theorem dX7_sync_89 : decode cX7_sync 89 = .ok (.iinc 6 1, 3) := by decide +kernel
theorem dX7_sync_92 : decode cX7_sync 92 = .ok (.goto (-58), 3) := by decide +kernel
theorem dX7_sync_95 : decode cX7_sync 95 = .ok (.iload 5, 2) := by decide +kernel
theorem dX7_sync_97 : decode cX7_sync 97 = .ok (.ireturn, 1) := by decide +kernel
theorem dX7_operations_0 : decode cX7_operations 0 = .ok (.aload_n 0, 1) := by decide +kernel
theorem dX7_operations_1 : decode cX7_operations 1 = .ok (.getfield 12, 3) := by decide +kernel
theorem dX7_operations_4 : decode cX7_operations 4 = .ok (.getfield 228, 3) := by decide +kernel
theorem dX7_operations_7 : decode cX7_operations 7 = .ok (.ireturn, 1) := by decide +kernel
theorem dX7_userOf_0 : decode cX7_userOf 0 = .ok (.aload_n 0, 1) := by decide +kernel
theorem dX7_userOf_1 : decode cX7_userOf 1 = .ok (.iload_n 1, 1) := by decide +kernel
theorem dX7_userOf_2 : decode cX7_userOf 2 = .ok (.invokevirtual 211, 3) := by decide +kernel
theorem dX7_userOf_5 : decode cX7_userOf 5 = .ok (.aload_n 0, 1) := by decide +kernel
theorem dX7_userOf_6 : decode cX7_userOf 6 = .ok (.getfield 12, 3) := by decide +kernel
theorem dX7_userOf_9 : decode cX7_userOf 9 = .ok (.iload_n 1, 1) := by decide +kernel
theorem dX7_userOf_10 : decode cX7_userOf 10 = .ok (.invokevirtual 231, 3) := by decide +kernel
theorem dX7_userOf_13 : decode cX7_userOf 13 = .ok (.ireturn, 1) := by decide +kernel
theorem dX7_clockOf_0 : decode cX7_clockOf 0 = .ok (.aload_n 0, 1) := by decide +kernel
theorem dX7_clockOf_1 : decode cX7_clockOf 1 = .ok (.iload_n 1, 1) := by decide +kernel
theorem dX7_clockOf_2 : decode cX7_clockOf 2 = .ok (.invokevirtual 211, 3) := by decide +kernel
theorem dX7_clockOf_5 : decode cX7_clockOf 5 = .ok (.aload_n 0, 1) := by decide +kernel
theorem dX7_clockOf_6 : decode cX7_clockOf 6 = .ok (.getfield 12, 3) := by decide +kernel
theorem dX7_clockOf_9 : decode cX7_clockOf 9 = .ok (.iload_n 1, 1) := by decide +kernel
theorem dX7_clockOf_10 : decode cX7_clockOf 10 = .ok (.invokevirtual 234, 3) := by decide +kernel
theorem dX7_clockOf_13 : decode cX7_clockOf 13 = .ok (.ireturn, 1) := by decide +kernel
theorem dX7_knows_0 : decode cX7_knows 0 = .ok (.aload_n 0, 1) := by decide +kernel
theorem dX7_knows_1 : decode cX7_knows 1 = .ok (.iload_n 1, 1) := by decide +kernel
theorem dX7_knows_2 : decode cX7_knows 2 = .ok (.invokevirtual 48, 3) := by decide +kernel
theorem dX7_knows_5 : decode cX7_knows 5 = .ok (.astore_n 3, 1) := by decide +kernel
theorem dX7_knows_6 : decode cX7_knows 6 = .ok (.aload_n 0, 1) := by decide +kernel
theorem dX7_knows_7 : decode cX7_knows 7 = .ok (.iload_n 2, 1) := by decide +kernel
theorem dX7_knows_8 : decode cX7_knows 8 = .ok (.invokevirtual 211, 3) := by decide +kernel
theorem dX7_knows_11 : decode cX7_knows 11 = .ok (.aload_n 3, 1) := by decide +kernel
theorem dX7_knows_12 : decode cX7_knows 12 = .ok (.iload_n 2, 1) := by decide +kernel
theorem dX7_knows_13 : decode cX7_knows 13 = .ok (.invokevirtual 215, 3) := by decide +kernel
theorem dX7_knows_16 : decode cX7_knows 16 = .ok (.ireturn, 1) := by decide +kernel
theorem dX7_shapes_0 : decode cX7_shapes 0 = .ok (.aload_n 0, 1) := by decide +kernel
theorem dX7_shapes_1 : decode cX7_shapes 1 = .ok (.iload_n 1, 1) := by decide +kernel
theorem dX7_shapes_2 : decode cX7_shapes 2 = .ok (.invokevirtual 48, 3) := by decide +kernel
theorem dX7_shapes_5 : decode cX7_shapes 5 = .ok (.getfield 79, 3) := by decide +kernel
theorem dX7_shapes_8 : decode cX7_shapes 8 = .ok (.invokevirtual 83, 3) := by decide +kernel
theorem dX7_shapes_11 : decode cX7_shapes 11 = .ok (.ireturn, 1) := by decide +kernel
theorem dX7_sees_0 : decode cX7_sees 0 = .ok (.aload_n 0, 1) := by decide +kernel
theorem dX7_sees_1 : decode cX7_sees 1 = .ok (.iload_n 1, 1) := by decide +kernel
theorem dX7_sees_2 : decode cX7_sees 2 = .ok (.invokevirtual 48, 3) := by decide +kernel
theorem dX7_sees_5 : decode cX7_sees 5 = .ok (.getfield 79, 3) := by decide +kernel
theorem dX7_sees_8 : decode cX7_sees 8 = .ok (.iload_n 2, 1) := by decide +kernel
theorem dX7_sees_9 : decode cX7_sees 9 = .ok (.invokevirtual 237, 3) := by decide +kernel
theorem dX7_sees_12 : decode cX7_sees 12 = .ok (.ireturn, 1) := by decide +kernel
theorem dX7_columnOf_0 : decode cX7_columnOf 0 = .ok (.aload_n 0, 1) := by decide +kernel
theorem dX7_columnOf_1 : decode cX7_columnOf 1 = .ok (.iload_n 1, 1) := by decide +kernel
theorem dX7_columnOf_2 : decode cX7_columnOf 2 = .ok (.iload_n 2, 1) := by decide +kernel
theorem dX7_columnOf_3 : decode cX7_columnOf 3 = .ok (.invokevirtual 240, 3) := by decide +kernel
theorem dX7_columnOf_6 : decode cX7_columnOf 6 = .ok (.iload_n 2, 1) := by decide +kernel
theorem dX7_columnOf_7 : decode cX7_columnOf 7 = .ok (.invokevirtual 244, 3) := by decide +kernel
theorem dX7_columnOf_10 : decode cX7_columnOf 10 = .ok (.ireturn, 1) := by decide +kernel
theorem dX7_rowOf_0 : decode cX7_rowOf 0 = .ok (.aload_n 0, 1) := by decide +kernel
theorem dX7_rowOf_1 : decode cX7_rowOf 1 = .ok (.iload_n 1, 1) := by decide +kernel
theorem dX7_rowOf_2 : decode cX7_rowOf 2 = .ok (.iload_n 2, 1) := by decide +kernel
theorem dX7_rowOf_3 : decode cX7_rowOf 3 = .ok (.invokevirtual 240, 3) := by decide +kernel
theorem dX7_rowOf_6 : decode cX7_rowOf 6 = .ok (.iload_n 2, 1) := by decide +kernel
theorem dX7_rowOf_7 : decode cX7_rowOf 7 = .ok (.invokevirtual 247, 3) := by decide +kernel
theorem dX7_rowOf_10 : decode cX7_rowOf 10 = .ok (.ireturn, 1) := by decide +kernel
theorem dX7_rankOf_0 : decode cX7_rankOf 0 = .ok (.aload_n 0, 1) := by decide +kernel
theorem dX7_rankOf_1 : decode cX7_rankOf 1 = .ok (.iload_n 1, 1) := by decide +kernel
theorem dX7_rankOf_2 : decode cX7_rankOf 2 = .ok (.iload_n 2, 1) := by decide +kernel
theorem dX7_rankOf_3 : decode cX7_rankOf 3 = .ok (.invokevirtual 240, 3) := by decide +kernel
theorem dX7_rankOf_6 : decode cX7_rankOf 6 = .ok (.iload_n 2, 1) := by decide +kernel
theorem dX7_rankOf_7 : decode cX7_rankOf 7 = .ok (.invokevirtual 250, 3) := by decide +kernel
theorem dX7_rankOf_10 : decode cX7_rankOf 10 = .ok (.ireturn, 1) := by decide +kernel
theorem dX7_shapeAt_0 : decode cX7_shapeAt 0 = .ok (.aload_n 0, 1) := by decide +kernel
theorem dX7_shapeAt_1 : decode cX7_shapeAt 1 = .ok (.iload_n 1, 1) := by decide +kernel
theorem dX7_shapeAt_2 : decode cX7_shapeAt 2 = .ok (.invokevirtual 48, 3) := by decide +kernel
theorem dX7_shapeAt_5 : decode cX7_shapeAt 5 = .ok (.getfield 79, 3) := by decide +kernel
theorem dX7_shapeAt_8 : decode cX7_shapeAt 8 = .ok (.iload_n 2, 1) := by decide +kernel
theorem dX7_shapeAt_9 : decode cX7_shapeAt 9 = .ok (.invokevirtual 253, 3) := by decide +kernel
theorem dX7_shapeAt_12 : decode cX7_shapeAt 12 = .ok (.istore_n 3, 1) := by decide +kernel
theorem dX7_shapeAt_13 : decode cX7_shapeAt 13 = .ok (.iload_n 3, 1) := by decide +kernel
theorem dX7_shapeAt_14 : decode cX7_shapeAt 14 = .ok (.iconst (-1), 1) := by decide +kernel
theorem dX7_shapeAt_15 : decode cX7_shapeAt 15 = .ok (.if_icmp .ne 14, 3) := by decide +kernel
theorem dX7_shapeAt_18 : decode cX7_shapeAt 18 = .ok (.new 256, 3) := by decide +kernel
theorem dX7_shapeAt_21 : decode cX7_shapeAt 21 = .ok (.dup, 1) := by decide +kernel
theorem dX7_shapeAt_22 : decode cX7_shapeAt 22 = .ok (.ldc_w 258, 3) := by decide +kernel
theorem dX7_shapeAt_25 : decode cX7_shapeAt 25 = .ok (.invokespecial 260, 3) := by decide +kernel
theorem dX7_shapeAt_28 : decode cX7_shapeAt 28 = .ok (.athrow, 1) := by decide +kernel
theorem dX7_shapeAt_29 : decode cX7_shapeAt 29 = .ok (.iload_n 3, 1) := by decide +kernel
theorem dX7_shapeAt_30 : decode cX7_shapeAt 30 = .ok (.ireturn, 1) := by decide +kernel
theorem dX7_keyOf_0 : decode cX7_keyOf 0 = .ok (.aload_n 0, 1) := by decide +kernel
theorem dX7_keyOf_1 : decode cX7_keyOf 1 = .ok (.iload_n 1, 1) := by decide +kernel
theorem dX7_keyOf_2 : decode cX7_keyOf 2 = .ok (.iload_n 2, 1) := by decide +kernel
theorem dX7_keyOf_3 : decode cX7_keyOf 3 = .ok (.invokevirtual 240, 3) := by decide +kernel
theorem dX7_keyOf_6 : decode cX7_keyOf 6 = .ok (.iload_n 2, 1) := by decide +kernel
theorem dX7_keyOf_7 : decode cX7_keyOf 7 = .ok (.invokevirtual 261, 3) := by decide +kernel
theorem dX7_keyOf_10 : decode cX7_keyOf 10 = .ok (.freturn, 1) := by decide +kernel
theorem dX7_keyBits_0 : decode cX7_keyBits 0 = .ok (.aload_n 0, 1) := by decide +kernel
theorem dX7_keyBits_1 : decode cX7_keyBits 1 = .ok (.iload_n 1, 1) := by decide +kernel
theorem dX7_keyBits_2 : decode cX7_keyBits 2 = .ok (.iload_n 2, 1) := by decide +kernel
theorem dX7_keyBits_3 : decode cX7_keyBits 3 = .ok (.invokevirtual 240, 3) := by decide +kernel
theorem dX7_keyBits_6 : decode cX7_keyBits 6 = .ok (.iload_n 2, 1) := by decide +kernel
theorem dX7_keyBits_7 : decode cX7_keyBits 7 = .ok (.invokevirtual 261, 3) := by decide +kernel
theorem dX7_keyBits_10 : decode cX7_keyBits 10 = .ok (.invokestatic 265, 3) := by decide +kernel
theorem dX7_keyBits_13 : decode cX7_keyBits 13 = .ok (.ireturn, 1) := by decide +kernel
theorem dX7_keyCut_0 : decode cX7_keyCut 0 = .ok (.aload_n 0, 1) := by decide +kernel
theorem dX7_keyCut_1 : decode cX7_keyCut 1 = .ok (.iload_n 1, 1) := by decide +kernel
theorem dX7_keyCut_2 : decode cX7_keyCut 2 = .ok (.iload_n 2, 1) := by decide +kernel
theorem dX7_keyCut_3 : decode cX7_keyCut 3 = .ok (.invokevirtual 240, 3) := by decide +kernel
theorem dX7_keyCut_6 : decode cX7_keyCut 6 = .ok (.iload_n 2, 1) := by decide +kernel
theorem dX7_keyCut_7 : decode cX7_keyCut 7 = .ok (.invokevirtual 261, 3) := by decide +kernel
theorem dX7_keyCut_10 : decode cX7_keyCut 10 = .ok (.ldc_w 269, 3) := by decide +kernel
theorem dX7_keyCut_13 : decode cX7_keyCut 13 = .ok (.fmul, 1) := by decide +kernel
theorem dX7_keyCut_14 : decode cX7_keyCut 14 = .ok (.f2i, 1) := by decide +kernel
theorem dX7_keyCut_15 : decode cX7_keyCut 15 = .ok (.ireturn, 1) := by decide +kernel
theorem dX7_topAt_0 : decode cX7_topAt 0 = .ok (.aload_n 0, 1) := by decide +kernel
theorem dX7_topAt_1 : decode cX7_topAt 1 = .ok (.iload_n 1, 1) := by decide +kernel
theorem dX7_topAt_2 : decode cX7_topAt 2 = .ok (.invokevirtual 48, 3) := by decide +kernel
theorem dX7_topAt_5 : decode cX7_topAt 5 = .ok (.astore 4, 2) := by decide +kernel
theorem dX7_topAt_7 : decode cX7_topAt 7 = .ok (.iload_n 2, 1) := by decide +kernel
theorem dX7_topAt_8 : decode cX7_topAt 8 = .ok (.iload_n 3, 1) := by decide +kernel
theorem dX7_topAt_9 : decode cX7_topAt 9 = .ok (.invokestatic 105, 3) := by decide +kernel
theorem dX7_topAt_12 : decode cX7_topAt 12 = .ok (.iconst (-1), 1) := by decide +kernel
theorem dX7_topAt_13 : decode cX7_topAt 13 = .ok (.if_icmp .ne 14, 3) := by decide +kernel
theorem dX7_topAt_16 : decode cX7_topAt 16 = .ok (.new 60, 3) := by decide +kernel
theorem dX7_topAt_19 : decode cX7_topAt 19 = .ok (.dup, 1) := by decide +kernel
theorem dX7_topAt_20 : decode cX7_topAt 20 = .ok (.ldc_w 270, 3) := by decide +kernel
theorem dX7_topAt_23 : decode cX7_topAt 23 = .ok (.invokespecial 64, 3) := by decide +kernel
theorem dX7_topAt_26 : decode cX7_topAt 26 = .ok (.athrow, 1) := by decide +kernel
theorem dX7_topAt_27 : decode cX7_topAt 27 = .ok (.aload 4, 2) := by decide +kernel
theorem dX7_topAt_29 : decode cX7_topAt 29 = .ok (.getfield 79, 3) := by decide +kernel
theorem dX7_topAt_32 : decode cX7_topAt 32 = .ok (.iload_n 2, 1) := by decide +kernel
theorem dX7_topAt_33 : decode cX7_topAt 33 = .ok (.iload_n 3, 1) := by decide +kernel
theorem dX7_topAt_34 : decode cX7_topAt 34 = .ok (.invokevirtual 272, 3) := by decide +kernel
theorem dX7_topAt_37 : decode cX7_topAt 37 = .ok (.istore 5, 2) := by decide +kernel
theorem dX7_topAt_39 : decode cX7_topAt 39 = .ok (.iload 5, 2) := by decide +kernel
theorem dX7_topAt_41 : decode cX7_topAt 41 = .ok (.iconst (-1), 1) := by decide +kernel
theorem dX7_topAt_42 : decode cX7_topAt 42 = .ok (.if_icmp .ne 14, 3) := by decide +kernel
theorem dX7_topAt_45 : decode cX7_topAt 45 = .ok (.new 203, 3) := by decide +kernel
theorem dX7_topAt_48 : decode cX7_topAt 48 = .ok (.dup, 1) := by decide +kernel
theorem dX7_topAt_49 : decode cX7_topAt 49 = .ok (.ldc_w 275, 3) := by decide +kernel
theorem dX7_topAt_52 : decode cX7_topAt 52 = .ok (.invokespecial 207, 3) := by decide +kernel
theorem dX7_topAt_55 : decode cX7_topAt 55 = .ok (.athrow, 1) := by decide +kernel
theorem dX7_topAt_56 : decode cX7_topAt 56 = .ok (.iload 5, 2) := by decide +kernel
theorem dX7_topAt_58 : decode cX7_topAt 58 = .ok (.ireturn, 1) := by decide +kernel
theorem dX7_lockedBy_0 : decode cX7_lockedBy 0 = .ok (.aload_n 0, 1) := by decide +kernel
theorem dX7_lockedBy_1 : decode cX7_lockedBy 1 = .ok (.iload_n 1, 1) := by decide +kernel
theorem dX7_lockedBy_2 : decode cX7_lockedBy 2 = .ok (.iload_n 2, 1) := by decide +kernel
theorem dX7_lockedBy_3 : decode cX7_lockedBy 3 = .ok (.invokevirtual 240, 3) := by decide +kernel
theorem dX7_lockedBy_6 : decode cX7_lockedBy 6 = .ok (.iload_n 2, 1) := by decide +kernel
theorem dX7_lockedBy_7 : decode cX7_lockedBy 7 = .ok (.invokevirtual 154, 3) := by decide +kernel
theorem dX7_lockedBy_10 : decode cX7_lockedBy 10 = .ok (.ireturn, 1) := by decide +kernel
theorem dX7_inside_0 : decode cX7_inside 0 = .ok (.aload_n 0, 1) := by decide +kernel
theorem dX7_inside_1 : decode cX7_inside 1 = .ok (.iload_n 1, 1) := by decide +kernel
theorem dX7_inside_2 : decode cX7_inside 2 = .ok (.iload_n 2, 1) := by decide +kernel
theorem dX7_inside_3 : decode cX7_inside 3 = .ok (.invokevirtual 240, 3) := by decide +kernel
theorem dX7_inside_6 : decode cX7_inside 6 = .ok (.iload_n 2, 1) := by decide +kernel
theorem dX7_inside_7 : decode cX7_inside 7 = .ok (.invokevirtual 277, 3) := by decide +kernel
theorem dX7_inside_10 : decode cX7_inside 10 = .ok (.ireturn, 1) := by decide +kernel
theorem dX7_connectors_0 : decode cX7_connectors 0 = .ok (.aload_n 0, 1) := by decide +kernel
theorem dX7_connectors_1 : decode cX7_connectors 1 = .ok (.iload_n 1, 1) := by decide +kernel
theorem dX7_connectors_2 : decode cX7_connectors 2 = .ok (.invokevirtual 48, 3) := by decide +kernel
theorem dX7_connectors_5 : decode cX7_connectors 5 = .ok (.getfield 79, 3) := by decide +kernel
theorem dX7_connectors_8 : decode cX7_connectors 8 = .ok (.invokevirtual 180, 3) := by decide +kernel
theorem dX7_connectors_11 : decode cX7_connectors 11 = .ok (.ireturn, 1) := by decide +kernel
theorem dX7_bends_0 : decode cX7_bends 0 = .ok (.aload_n 0, 1) := by decide +kernel
theorem dX7_bends_1 : decode cX7_bends 1 = .ok (.iload_n 1, 1) := by decide +kernel
theorem dX7_bends_2 : decode cX7_bends 2 = .ok (.iload_n 2, 1) := by decide +kernel
theorem dX7_bends_3 : decode cX7_bends 3 = .ok (.invokevirtual 280, 3) := by decide +kernel
theorem dX7_bends_6 : decode cX7_bends 6 = .ok (.aload_n 0, 1) := by decide +kernel
theorem dX7_bends_7 : decode cX7_bends 7 = .ok (.getfield 41, 3) := by decide +kernel
theorem dX7_bends_10 : decode cX7_bends 10 = .ok (.invokevirtual 284, 3) := by decide +kernel
theorem dX7_bends_13 : decode cX7_bends 13 = .ok (.invokestatic 287, 3) := by decide +kernel
theorem dX7_bends_16 : decode cX7_bends 16 = .ok (.ireturn, 1) := by decide +kernel
theorem dX7_bendsByRounds_0 : decode cX7_bendsByRounds 0 = .ok (.aload_n 0, 1) := by decide +kernel
theorem dX7_bendsByRounds_1 : decode cX7_bendsByRounds 1 = .ok (.iload_n 1, 1) := by decide +kernel
theorem dX7_bendsByRounds_2 : decode cX7_bendsByRounds 2 = .ok (.iload_n 2, 1) := by decide +kernel
theorem dX7_bendsByRounds_3 : decode cX7_bendsByRounds 3 = .ok (.invokevirtual 280, 3) := by decide +kernel
theorem dX7_bendsByRounds_6 : decode cX7_bendsByRounds 6 = .ok (.aload_n 0, 1) := by decide +kernel
theorem dX7_bendsByRounds_7 : decode cX7_bendsByRounds 7 = .ok (.getfield 41, 3) := by decide +kernel
theorem dX7_bendsByRounds_10 : decode cX7_bendsByRounds 10 = .ok (.invokevirtual 290, 3) := by decide +kernel
theorem dX7_bendsByRounds_13 : decode cX7_bendsByRounds 13 = .ok (.invokestatic 287, 3) := by decide +kernel
theorem dX7_bendsByRounds_16 : decode cX7_bendsByRounds 16 = .ok (.ireturn, 1) := by decide +kernel
theorem dX7_routeLength_0 : decode cX7_routeLength 0 = .ok (.aload_n 0, 1) := by decide +kernel
theorem dX7_routeLength_1 : decode cX7_routeLength 1 = .ok (.iload_n 1, 1) := by decide +kernel
theorem dX7_routeLength_2 : decode cX7_routeLength 2 = .ok (.iload_n 2, 1) := by decide +kernel
theorem dX7_routeLength_3 : decode cX7_routeLength 3 = .ok (.invokevirtual 280, 3) := by decide +kernel
theorem dX7_routeLength_6 : decode cX7_routeLength 6 = .ok (.aload_n 0, 1) := by decide +kernel
theorem dX7_routeLength_7 : decode cX7_routeLength 7 = .ok (.getfield 41, 3) := by decide +kernel
theorem dX7_routeLength_10 : decode cX7_routeLength 10 = .ok (.invokevirtual 293, 3) := by decide +kernel
theorem dX7_routeLength_13 : decode cX7_routeLength 13 = .ok (.invokestatic 287, 3) := by decide +kernel
theorem dX7_routeLength_16 : decode cX7_routeLength 16 = .ok (.ireturn, 1) := by decide +kernel
theorem dX7_ownVotes_0 : decode cX7_ownVotes 0 = .ok (.aload_n 0, 1) := by decide +kernel
theorem dX7_ownVotes_1 : decode cX7_ownVotes 1 = .ok (.iload_n 1, 1) := by decide +kernel
theorem dX7_ownVotes_2 : decode cX7_ownVotes 2 = .ok (.iload_n 2, 1) := by decide +kernel
theorem dX7_ownVotes_3 : decode cX7_ownVotes 3 = .ok (.invokevirtual 240, 3) := by decide +kernel
theorem dX7_ownVotes_6 : decode cX7_ownVotes 6 = .ok (.iload_n 1, 1) := by decide +kernel
theorem dX7_ownVotes_7 : decode cX7_ownVotes 7 = .ok (.iload_n 2, 1) := by decide +kernel
theorem dX7_ownVotes_8 : decode cX7_ownVotes 8 = .ok (.invokevirtual 185, 3) := by decide +kernel
theorem dX7_ownVotes_11 : decode cX7_ownVotes 11 = .ok (.ireturn, 1) := by decide +kernel
theorem dX7_votesFor_0 : decode cX7_votesFor 0 = .ok (.aload_n 0, 1) := by decide +kernel
theorem dX7_votesFor_1 : decode cX7_votesFor 1 = .ok (.iload_n 1, 1) := by decide +kernel
theorem dX7_votesFor_2 : decode cX7_votesFor 2 = .ok (.iload_n 2, 1) := by decide +kernel
theorem dX7_votesFor_3 : decode cX7_votesFor 3 = .ok (.invokevirtual 240, 3) := by decide +kernel
theorem dX7_votesFor_6 : decode cX7_votesFor 6 = .ok (.astore_n 3, 1) := by decide +kernel
theorem dX7_votesFor_7 : decode cX7_votesFor 7 = .ok (.aload_n 3, 1) := by decide +kernel
theorem dX7_votesFor_8 : decode cX7_votesFor 8 = .ok (.invokestatic 296, 3) := by decide +kernel
theorem dX7_votesFor_11 : decode cX7_votesFor 11 = .ok (.aload_n 3, 1) := by decide +kernel
theorem dX7_votesFor_12 : decode cX7_votesFor 12 = .ok (.iload_n 2, 1) := by decide +kernel
theorem dX7_votesFor_13 : decode cX7_votesFor 13 = .ok (.invokevirtual 300, 3) := by decide +kernel
theorem dX7_votesFor_16 : decode cX7_votesFor 16 = .ok (.ireturn, 1) := by decide +kernel
theorem dX7_winner_0 : decode cX7_winner 0 = .ok (.aload_n 0, 1) := by decide +kernel
theorem dX7_winner_1 : decode cX7_winner 1 = .ok (.iload_n 1, 1) := by decide +kernel
theorem dX7_winner_2 : decode cX7_winner 2 = .ok (.invokevirtual 48, 3) := by decide +kernel
theorem dX7_winner_5 : decode cX7_winner 5 = .ok (.getfield 79, 3) := by decide +kernel
theorem dX7_winner_8 : decode cX7_winner 8 = .ok (.astore_n 2, 1) := by decide +kernel
theorem dX7_winner_9 : decode cX7_winner 9 = .ok (.aload_n 2, 1) := by decide +kernel
theorem dX7_winner_10 : decode cX7_winner 10 = .ok (.invokestatic 296, 3) := by decide +kernel
theorem dX7_winner_13 : decode cX7_winner 13 = .ok (.aload_n 2, 1) := by decide +kernel
theorem dX7_winner_14 : decode cX7_winner 14 = .ok (.invokevirtual 303, 3) := by decide +kernel
theorem dX7_winner_17 : decode cX7_winner 17 = .ok (.istore_n 3, 1) := by decide +kernel
theorem dX7_winner_18 : decode cX7_winner 18 = .ok (.iload_n 3, 1) := by decide +kernel
theorem dX7_winner_19 : decode cX7_winner 19 = .ok (.iconst (-1), 1) := by decide +kernel
theorem dX7_winner_20 : decode cX7_winner 20 = .ok (.if_icmp .ne 14, 3) := by decide +kernel
theorem dX7_winner_23 : decode cX7_winner 23 = .ok (.new 203, 3) := by decide +kernel
theorem dX7_winner_26 : decode cX7_winner 26 = .ok (.dup, 1) := by decide +kernel
theorem dX7_winner_27 : decode cX7_winner 27 = .ok (.ldc_w 306, 3) := by decide +kernel
theorem dX7_winner_30 : decode cX7_winner 30 = .ok (.invokespecial 207, 3) := by decide +kernel
theorem dX7_winner_33 : decode cX7_winner 33 = .ok (.athrow, 1) := by decide +kernel
theorem dX7_winner_34 : decode cX7_winner 34 = .ok (.iload_n 3, 1) := by decide +kernel
theorem dX7_winner_35 : decode cX7_winner 35 = .ok (.ireturn, 1) := by decide +kernel
theorem dX7_outcome_0 : decode cX7_outcome 0 = .ok (.aload_n 0, 1) := by decide +kernel
theorem dX7_outcome_1 : decode cX7_outcome 1 = .ok (.iload_n 1, 1) := by decide +kernel
theorem dX7_outcome_2 : decode cX7_outcome 2 = .ok (.invokevirtual 48, 3) := by decide +kernel
theorem dX7_outcome_5 : decode cX7_outcome 5 = .ok (.getfield 79, 3) := by decide +kernel
theorem dX7_outcome_8 : decode cX7_outcome 8 = .ok (.invokevirtual 308, 3) := by decide +kernel
theorem dX7_outcome_11 : decode cX7_outcome 11 = .ok (.ireturn, 1) := by decide +kernel
theorem dX7_outcomeAnew_0 : decode cX7_outcomeAnew 0 = .ok (.aload_n 0, 1) := by decide +kernel
theorem dX7_outcomeAnew_1 : decode cX7_outcomeAnew 1 = .ok (.getfield 34, 3) := by decide +kernel
theorem dX7_outcomeAnew_4 : decode cX7_outcomeAnew 4 = .ok (.aload_n 0, 1) := by decide +kernel
theorem dX7_outcomeAnew_5 : decode cX7_outcomeAnew 5 = .ok (.iload_n 1, 1) := by decide +kernel
theorem dX7_outcomeAnew_6 : decode cX7_outcomeAnew 6 = .ok (.invokevirtual 48, 3) := by decide +kernel
theorem dX7_outcomeAnew_9 : decode cX7_outcomeAnew 9 = .ok (.invokevirtual 311, 3) := by decide +kernel
theorem dX7_outcomeAnew_12 : decode cX7_outcomeAnew 12 = .ok (.ireturn, 1) := by decide +kernel
theorem dX7_outcomes_0 : decode cX7_outcomes 0 = .ok (.aload_n 0, 1) := by decide +kernel
theorem dX7_outcomes_1 : decode cX7_outcomes 1 = .ok (.iload_n 1, 1) := by decide +kernel
theorem dX7_outcomes_2 : decode cX7_outcomes 2 = .ok (.invokevirtual 48, 3) := by decide +kernel
theorem dX7_outcomes_5 : decode cX7_outcomes 5 = .ok (.astore_n 3, 1) := by decide +kernel
theorem dX7_outcomes_6 : decode cX7_outcomes 6 = .ok (.iload_n 2, 1) := by decide +kernel
theorem dX7_outcomes_7 : decode cX7_outcomes 7 = .ok (.ifCond .lt 8, 3) := by decide +kernel
theorem dX7_outcomes_10 : decode cX7_outcomes 10 = .ok (.iload_n 2, 1) := by decide +kernel
theorem dX7_outcomes_11 : decode cX7_outcomes 11 = .ok (.iconst 4, 1) := by decide +kernel
theorem dX7_outcomes_12 : decode cX7_outcomes 12 = .ok (.if_icmp .le 14, 3) := by decide +kernel
theorem dX7_outcomes_15 : decode cX7_outcomes 15 = .ok (.new 60, 3) := by decide +kernel
theorem dX7_outcomes_18 : decode cX7_outcomes 18 = .ok (.dup, 1) := by decide +kernel
theorem dX7_outcomes_19 : decode cX7_outcomes 19 = .ok (.ldc_w 315, 3) := by decide +kernel
theorem dX7_outcomes_22 : decode cX7_outcomes 22 = .ok (.invokespecial 64, 3) := by decide +kernel
theorem dX7_outcomes_25 : decode cX7_outcomes 25 = .ok (.athrow, 1) := by decide +kernel
theorem dX7_outcomes_26 : decode cX7_outcomes 26 = .ok (.aload_n 0, 1) := by decide +kernel
theorem dX7_outcomes_27 : decode cX7_outcomes 27 = .ok (.getfield 34, 3) := by decide +kernel
theorem dX7_outcomes_30 : decode cX7_outcomes 30 = .ok (.aload_n 3, 1) := by decide +kernel
theorem dX7_outcomes_31 : decode cX7_outcomes 31 = .ok (.iload_n 2, 1) := by decide +kernel
theorem dX7_outcomes_32 : decode cX7_outcomes 32 = .ok (.invokevirtual 317, 3) := by decide +kernel
theorem dX7_outcomes_35 : decode cX7_outcomes 35 = .ok (.ireturn, 1) := by decide +kernel
theorem dX7_areAlike_0 : decode cX7_areAlike 0 = .ok (.aload_n 0, 1) := by decide +kernel
theorem dX7_areAlike_1 : decode cX7_areAlike 1 = .ok (.iload_n 1, 1) := by decide +kernel
theorem dX7_areAlike_2 : decode cX7_areAlike 2 = .ok (.invokevirtual 48, 3) := by decide +kernel
theorem dX7_areAlike_5 : decode cX7_areAlike 5 = .ok (.astore_n 3, 1) := by decide +kernel
theorem dX7_areAlike_6 : decode cX7_areAlike 6 = .ok (.aload_n 0, 1) := by decide +kernel
theorem dX7_areAlike_7 : decode cX7_areAlike 7 = .ok (.iload_n 2, 1) := by decide +kernel
theorem dX7_areAlike_8 : decode cX7_areAlike 8 = .ok (.invokevirtual 48, 3) := by decide +kernel
theorem dX7_areAlike_11 : decode cX7_areAlike 11 = .ok (.astore 4, 2) := by decide +kernel
theorem dX7_areAlike_13 : decode cX7_areAlike 13 = .ok (.aload_n 3, 1) := by decide +kernel
theorem dX7_areAlike_14 : decode cX7_areAlike 14 = .ok (.getfield 321, 3) := by decide +kernel
theorem dX7_areAlike_17 : decode cX7_areAlike 17 = .ok (.aload 4, 2) := by decide +kernel
theorem dX7_areAlike_19 : decode cX7_areAlike 19 = .ok (.getfield 321, 3) := by decide +kernel
theorem dX7_areAlike_22 : decode cX7_areAlike 22 = .ok (.invokevirtual 325, 3) := by decide +kernel
theorem dX7_areAlike_25 : decode cX7_areAlike 25 = .ok (.ireturn, 1) := by decide +kernel
theorem dX7_frameShare_0 : decode cX7_frameShare 0 = .ok (.aload_n 0, 1) := by decide +kernel
theorem dX7_frameShare_1 : decode cX7_frameShare 1 = .ok (.iload_n 1, 1) := by decide +kernel
theorem dX7_frameShare_2 : decode cX7_frameShare 2 = .ok (.invokevirtual 48, 3) := by decide +kernel
theorem dX7_frameShare_5 : decode cX7_frameShare 5 = .ok (.getfield 79, 3) := by decide +kernel
theorem dX7_frameShare_8 : decode cX7_frameShare 8 = .ok (.astore_n 2, 1) := by decide +kernel
theorem dX7_frameShare_9 : decode cX7_frameShare 9 = .ok (.aload_n 2, 1) := by decide +kernel
theorem dX7_frameShare_10 : decode cX7_frameShare 10 = .ok (.invokevirtual 83, 3) := by decide +kernel
theorem dX7_frameShare_13 : decode cX7_frameShare 13 = .ok (.istore_n 3, 1) := by decide +kernel
theorem dX7_frameShare_14 : decode cX7_frameShare 14 = .ok (.iload_n 3, 1) := by decide +kernel
theorem dX7_frameShare_15 : decode cX7_frameShare 15 = .ok (.ifCond .ne 14, 3) := by decide +kernel
theorem dX7_frameShare_18 : decode cX7_frameShare 18 = .ok (.new 331, 3) := by decide +kernel
theorem dX7_frameShare_21 : decode cX7_frameShare 21 = .ok (.dup, 1) := by decide +kernel
theorem dX7_frameShare_22 : decode cX7_frameShare 22 = .ok (.ldc_w 333, 3) := by decide +kernel
theorem dX7_frameShare_25 : decode cX7_frameShare 25 = .ok (.invokespecial 335, 3) := by decide +kernel
theorem dX7_frameShare_28 : decode cX7_frameShare 28 = .ok (.athrow, 1) := by decide +kernel
theorem dX7_frameShare_29 : decode cX7_frameShare 29 = .ok (.aload_n 2, 1) := by decide +kernel
theorem dX7_frameShare_30 : decode cX7_frameShare 30 = .ok (.invokevirtual 336, 3) := by decide +kernel
theorem dX7_frameShare_33 : decode cX7_frameShare 33 = .ok (.i2f, 1) := by decide +kernel
theorem dX7_frameShare_34 : decode cX7_frameShare 34 = .ok (.iload_n 3, 1) := by decide +kernel
theorem dX7_frameShare_35 : decode cX7_frameShare 35 = .ok (.i2f, 1) := by decide +kernel
theorem dX7_frameShare_36 : decode cX7_frameShare 36 = .ok (.fdiv, 1) := by decide +kernel
theorem dX7_frameShare_37 : decode cX7_frameShare 37 = .ok (.freturn, 1) := by decide +kernel
theorem dX7_meanRoute_0 : decode cX7_meanRoute 0 = .ok (.aload_n 0, 1) := by decide +kernel
theorem dX7_meanRoute_1 : decode cX7_meanRoute 1 = .ok (.iload_n 1, 1) := by decide +kernel
theorem dX7_meanRoute_2 : decode cX7_meanRoute 2 = .ok (.invokevirtual 48, 3) := by decide +kernel
theorem dX7_meanRoute_5 : decode cX7_meanRoute 5 = .ok (.getfield 79, 3) := by decide +kernel
theorem dX7_meanRoute_8 : decode cX7_meanRoute 8 = .ok (.astore_n 2, 1) := by decide +kernel
theorem dX7_meanRoute_9 : decode cX7_meanRoute 9 = .ok (.iconst 0, 1) := by decide +kernel
theorem dX7_meanRoute_10 : decode cX7_meanRoute 10 = .ok (.istore_n 3, 1) := by decide +kernel
theorem dX7_meanRoute_11 : decode cX7_meanRoute 11 = .ok (.iconst 0, 1) := by decide +kernel
theorem dX7_meanRoute_12 : decode cX7_meanRoute 12 = .ok (.istore 4, 2) := by decide +kernel
theorem dX7_meanRoute_14 : decode cX7_meanRoute 14 = .ok (.iconst 0, 1) := by decide +kernel
theorem dX7_meanRoute_15 : decode cX7_meanRoute 15 = .ok (.istore 5, 2) := by decide +kernel
theorem dX7_meanRoute_17 : decode cX7_meanRoute 17 = .ok (.iload 5, 2) := by decide +kernel
theorem dX7_meanRoute_19 : decode cX7_meanRoute 19 = .ok (.bipush 8, 2) := by decide +kernel
theorem dX7_meanRoute_21 : decode cX7_meanRoute 21 = .ok (.if_icmp .ge 51, 3) := by decide +kernel
theorem dX7_meanRoute_24 : decode cX7_meanRoute 24 = .ok (.aload_n 2, 1) := by decide +kernel
theorem dX7_meanRoute_25 : decode cX7_meanRoute 25 = .ok (.iload 5, 2) := by decide +kernel
theorem dX7_meanRoute_27 : decode cX7_meanRoute 27 = .ok (.invokevirtual 339, 3) := by decide +kernel
theorem dX7_meanRoute_30 : decode cX7_meanRoute 30 = .ok (.ifCond .eq 36, 3) := by decide +kernel
theorem dX7_meanRoute_33 : decode cX7_meanRoute 33 = .ok (.aload_n 0, 1) := by decide +kernel
theorem dX7_meanRoute_34 : decode cX7_meanRoute 34 = .ok (.getfield 41, 3) := by decide +kernel
theorem dX7_meanRoute_37 : decode cX7_meanRoute 37 = .ok (.aload_n 2, 1) := by decide +kernel
theorem dX7_meanRoute_38 : decode cX7_meanRoute 38 = .ok (.iload 5, 2) := by decide +kernel
theorem dX7_meanRoute_40 : decode cX7_meanRoute 40 = .ok (.invokevirtual 342, 3) := by decide +kernel
theorem dX7_meanRoute_43 : decode cX7_meanRoute 43 = .ok (.aload_n 0, 1) := by decide +kernel
theorem dX7_meanRoute_44 : decode cX7_meanRoute 44 = .ok (.getfield 41, 3) := by decide +kernel
theorem dX7_meanRoute_47 : decode cX7_meanRoute 47 = .ok (.invokevirtual 293, 3) := by decide +kernel
theorem dX7_meanRoute_50 : decode cX7_meanRoute 50 = .ok (.istore 6, 2) := by decide +kernel
theorem dX7_meanRoute_52 : decode cX7_meanRoute 52 = .ok (.iload 6, 2) := by decide +kernel
theorem dX7_meanRoute_54 : decode cX7_meanRoute 54 = .ok (.iconst (-1), 1) := by decide +kernel
theorem dX7_meanRoute_55 : decode cX7_meanRoute 55 = .ok (.if_icmp .eq 11, 3) := by decide +kernel
theorem dX7_meanRoute_58 : decode cX7_meanRoute 58 = .ok (.iload_n 3, 1) := by decide +kernel
theorem dX7_meanRoute_59 : decode cX7_meanRoute 59 = .ok (.iload 6, 2) := by decide +kernel
theorem dX7_meanRoute_61 : decode cX7_meanRoute 61 = .ok (.iadd, 1) := by decide +kernel
theorem dX7_meanRoute_62 : decode cX7_meanRoute 62 = .ok (.istore_n 3, 1) := by decide +kernel
theorem dX7_meanRoute_63 : decode cX7_meanRoute 63 = .ok (.iinc 4 1, 3) := by decide +kernel
theorem dX7_meanRoute_66 : decode cX7_meanRoute 66 = .ok (.iinc 5 1, 3) := by decide +kernel
theorem dX7_meanRoute_69 : decode cX7_meanRoute 69 = .ok (.goto (-52), 3) := by decide +kernel
theorem dX7_meanRoute_72 : decode cX7_meanRoute 72 = .ok (.iload 4, 2) := by decide +kernel
theorem dX7_meanRoute_74 : decode cX7_meanRoute 74 = .ok (.ifCond .ne 14, 3) := by decide +kernel
theorem dX7_meanRoute_77 : decode cX7_meanRoute 77 = .ok (.new 331, 3) := by decide +kernel
theorem dX7_meanRoute_80 : decode cX7_meanRoute 80 = .ok (.dup, 1) := by decide +kernel
theorem dX7_meanRoute_81 : decode cX7_meanRoute 81 = .ok (.ldc_w 346, 3) := by decide +kernel
theorem dX7_meanRoute_84 : decode cX7_meanRoute 84 = .ok (.invokespecial 335, 3) := by decide +kernel
theorem dX7_meanRoute_87 : decode cX7_meanRoute 87 = .ok (.athrow, 1) := by decide +kernel
theorem dX7_meanRoute_88 : decode cX7_meanRoute 88 = .ok (.iload_n 3, 1) := by decide +kernel
theorem dX7_meanRoute_89 : decode cX7_meanRoute 89 = .ok (.i2d, 1) := by decide +kernel
theorem dX7_meanRoute_90 : decode cX7_meanRoute 90 = .ok (.iload 4, 2) := by decide +kernel
theorem dX7_meanRoute_92 : decode cX7_meanRoute 92 = .ok (.i2d, 1) := by decide +kernel
theorem dX7_meanRoute_93 : decode cX7_meanRoute 93 = .ok (.ddiv, 1) := by decide +kernel
theorem dX7_meanRoute_94 : decode cX7_meanRoute 94 = .ok (.dreturn, 1) := by decide +kernel
theorem dX7_area_0 : decode cX7_area 0 = .ok (.aload_n 0, 1) := by decide +kernel
theorem dX7_area_1 : decode cX7_area 1 = .ok (.iload_n 1, 1) := by decide +kernel
theorem dX7_area_2 : decode cX7_area 2 = .ok (.invokevirtual 48, 3) := by decide +kernel
theorem dX7_area_5 : decode cX7_area 5 = .ok (.getfield 79, 3) := by decide +kernel
theorem dX7_area_8 : decode cX7_area 8 = .ok (.invokevirtual 348, 3) := by decide +kernel
theorem dX7_area_11 : decode cX7_area 11 = .ok (.lreturn, 1) := by decide +kernel
theorem dX7_needUser_0 : decode cX7_needUser 0 = .ok (.iload_n 1, 1) := by decide +kernel
theorem dX7_needUser_1 : decode cX7_needUser 1 = .ok (.ifCond .lt 21, 3) := by decide +kernel
theorem dX7_needUser_4 : decode cX7_needUser 4 = .ok (.iload_n 1, 1) := by decide +kernel
theorem dX7_needUser_5 : decode cX7_needUser 5 = .ok (.aload_n 0, 1) := by decide +kernel
theorem dX7_needUser_6 : decode cX7_needUser 6 = .ok (.getfield 25, 3) := by decide +kernel
theorem dX7_needUser_9 : decode cX7_needUser 9 = .ok (.arraylength, 1) := by decide +kernel
theorem dX7_needUser_10 : decode cX7_needUser 10 = .ok (.if_icmp .ge 12, 3) := by decide +kernel
theorem dX7_needUser_13 : decode cX7_needUser 13 = .ok (.aload_n 0, 1) := by decide +kernel
theorem dX7_needUser_14 : decode cX7_needUser 14 = .ok (.getfield 25, 3) := by decide +kernel
theorem dX7_needUser_17 : decode cX7_needUser 17 = .ok (.iload_n 1, 1) := by decide +kernel
theorem dX7_needUser_18 : decode cX7_needUser 18 = .ok (.aaload, 1) := by decide +kernel
theorem dX7_needUser_19 : decode cX7_needUser 19 = .ok (.goto 4, 3) := by decide +kernel
theorem dX7_needUser_22 : decode cX7_needUser 22 = .ok (.aconst_null, 1) := by decide +kernel
theorem dX7_needUser_23 : decode cX7_needUser 23 = .ok (.astore_n 2, 1) := by decide +kernel
theorem dX7_needUser_24 : decode cX7_needUser 24 = .ok (.aload_n 2, 1) := by decide +kernel
theorem dX7_needUser_25 : decode cX7_needUser 25 = .ok (.ifnonnull 14, 3) := by decide +kernel
theorem dX7_needUser_28 : decode cX7_needUser 28 = .ok (.new 60, 3) := by decide +kernel
theorem dX7_needUser_31 : decode cX7_needUser 31 = .ok (.dup, 1) := by decide +kernel
theorem dX7_needUser_32 : decode cX7_needUser 32 = .ok (.ldc_w 352, 3) := by decide +kernel
theorem dX7_needUser_35 : decode cX7_needUser 35 = .ok (.invokespecial 64, 3) := by decide +kernel
theorem dX7_needUser_38 : decode cX7_needUser 38 = .ok (.athrow, 1) := by decide +kernel
theorem dX7_needUser_39 : decode cX7_needUser 39 = .ok (.aload_n 2, 1) := by decide +kernel
theorem dX7_needUser_40 : decode cX7_needUser 40 = .ok (.areturn, 1) := by decide +kernel
theorem dX7_needView_0 : decode cX7_needView 0 = .ok (.aload_n 0, 1) := by decide +kernel
theorem dX7_needView_1 : decode cX7_needView 1 = .ok (.iload_n 1, 1) := by decide +kernel
theorem dX7_needView_2 : decode cX7_needView 2 = .ok (.invokevirtual 48, 3) := by decide +kernel
theorem dX7_needView_5 : decode cX7_needView 5 = .ok (.astore_n 3, 1) := by decide +kernel
theorem dX7_needView_6 : decode cX7_needView 6 = .ok (.aload_n 3, 1) := by decide +kernel
theorem dX7_needView_7 : decode cX7_needView 7 = .ok (.iload_n 2, 1) := by decide +kernel
theorem dX7_needView_8 : decode cX7_needView 8 = .ok (.invokestatic 141, 3) := by decide +kernel
theorem dX7_needView_11 : decode cX7_needView 11 = .ok (.aload_n 3, 1) := by decide +kernel
theorem dX7_needView_12 : decode cX7_needView 12 = .ok (.getfield 79, 3) := by decide +kernel
theorem dX7_needView_15 : decode cX7_needView 15 = .ok (.areturn, 1) := by decide +kernel
theorem dX7_needMap_0 : decode cX7_needMap 0 = .ok (.aload_n 0, 1) := by decide +kernel
theorem dX7_needMap_1 : decode cX7_needMap 1 = .ok (.iload_n 1, 1) := by decide +kernel
theorem dX7_needMap_2 : decode cX7_needMap 2 = .ok (.invokevirtual 48, 3) := by decide +kernel
theorem dX7_needMap_5 : decode cX7_needMap 5 = .ok (.astore_n 3, 1) := by decide +kernel
theorem dX7_needMap_6 : decode cX7_needMap 6 = .ok (.aload_n 3, 1) := by decide +kernel
theorem dX7_needMap_7 : decode cX7_needMap 7 = .ok (.iload_n 2, 1) := by decide +kernel
theorem dX7_needMap_8 : decode cX7_needMap 8 = .ok (.invokestatic 177, 3) := by decide +kernel
theorem dX7_needMap_11 : decode cX7_needMap 11 = .ok (.aload_n 0, 1) := by decide +kernel
theorem dX7_needMap_12 : decode cX7_needMap 12 = .ok (.getfield 41, 3) := by decide +kernel
theorem dX7_needMap_15 : decode cX7_needMap 15 = .ok (.aload_n 3, 1) := by decide +kernel
theorem dX7_needMap_16 : decode cX7_needMap 16 = .ok (.getfield 79, 3) := by decide +kernel
theorem dX7_needMap_19 : decode cX7_needMap 19 = .ok (.iload_n 2, 1) := by decide +kernel
theorem dX7_needMap_20 : decode cX7_needMap 20 = .ok (.invokevirtual 342, 3) := by decide +kernel
theorem dX7_needMap_23 : decode cX7_needMap 23 = .ok (.return_, 1) := by decide +kernel
theorem dX7_needRoom_0 : decode cX7_needRoom 0 = .ok (.aload_n 0, 1) := by decide +kernel
theorem dX7_needRoom_1 : decode cX7_needRoom 1 = .ok (.getfield 12, 3) := by decide +kernel
theorem dX7_needRoom_4 : decode cX7_needRoom 4 = .ok (.invokevirtual 354, 3) := by decide +kernel
theorem dX7_needRoom_7 : decode cX7_needRoom 7 = .ok (.ifCond .eq 14, 3) := by decide +kernel
theorem dX7_needRoom_10 : decode cX7_needRoom 10 = .ok (.new 71, 3) := by decide +kernel
theorem dX7_needRoom_13 : decode cX7_needRoom 13 = .ok (.dup, 1) := by decide +kernel
theorem dX7_needRoom_14 : decode cX7_needRoom 14 = .ok (.ldc_w 357, 3) := by decide +kernel
theorem dX7_needRoom_17 : decode cX7_needRoom 17 = .ok (.invokespecial 75, 3) := by decide +kernel
theorem dX7_needRoom_20 : decode cX7_needRoom 20 = .ok (.athrow, 1) := by decide +kernel
theorem dX7_needRoom_21 : decode cX7_needRoom 21 = .ok (.return_, 1) := by decide +kernel
theorem dX7_needOperation_0 : decode cX7_needOperation 0 = .ok (.iload_n 1, 1) := by decide +kernel
theorem dX7_needOperation_1 : decode cX7_needOperation 1 = .ok (.ifCond .lt 14, 3) := by decide +kernel
theorem dX7_needOperation_4 : decode cX7_needOperation 4 = .ok (.iload_n 1, 1) := by decide +kernel
theorem dX7_needOperation_5 : decode cX7_needOperation 5 = .ok (.aload_n 0, 1) := by decide +kernel
theorem dX7_needOperation_6 : decode cX7_needOperation 6 = .ok (.getfield 12, 3) := by decide +kernel
theorem dX7_needOperation_9 : decode cX7_needOperation 9 = .ok (.getfield 228, 3) := by decide +kernel
theorem dX7_needOperation_12 : decode cX7_needOperation 12 = .ok (.if_icmp .lt 14, 3) := by decide +kernel
theorem dX7_needOperation_15 : decode cX7_needOperation 15 = .ok (.new 203, 3) := by decide +kernel
theorem dX7_needOperation_18 : decode cX7_needOperation 18 = .ok (.dup, 1) := by decide +kernel
theorem dX7_needOperation_19 : decode cX7_needOperation 19 = .ok (.ldc_w 359, 3) := by decide +kernel
theorem dX7_needOperation_22 : decode cX7_needOperation 22 = .ok (.invokespecial 207, 3) := by decide +kernel
theorem dX7_needOperation_25 : decode cX7_needOperation 25 = .ok (.athrow, 1) := by decide +kernel
theorem dX7_needOperation_26 : decode cX7_needOperation 26 = .ok (.return_, 1) := by decide +kernel
theorem dX7_needSeen_0 : decode cX7_needSeen 0 = .ok (.aload_n 0, 1) := by decide +kernel
theorem dX7_needSeen_1 : decode cX7_needSeen 1 = .ok (.getfield 79, 3) := by decide +kernel
theorem dX7_needSeen_4 : decode cX7_needSeen 4 = .ok (.iload_n 1, 1) := by decide +kernel
theorem dX7_needSeen_5 : decode cX7_needSeen 5 = .ok (.invokevirtual 237, 3) := by decide +kernel
theorem dX7_needSeen_8 : decode cX7_needSeen 8 = .ok (.ifCond .ne 14, 3) := by decide +kernel
theorem dX7_needSeen_11 : decode cX7_needSeen 11 = .ok (.new 203, 3) := by decide +kernel
theorem dX7_needSeen_14 : decode cX7_needSeen 14 = .ok (.dup, 1) := by decide +kernel
theorem dX7_needSeen_15 : decode cX7_needSeen 15 = .ok (.ldc_w 361, 3) := by decide +kernel
theorem dX7_needSeen_18 : decode cX7_needSeen 18 = .ok (.invokespecial 207, 3) := by decide +kernel
theorem dX7_needSeen_21 : decode cX7_needSeen 21 = .ok (.athrow, 1) := by decide +kernel
theorem dX7_needSeen_22 : decode cX7_needSeen 22 = .ok (.return_, 1) := by decide +kernel
theorem dX7_needChangeable_0 : decode cX7_needChangeable 0 = .ok (.aload_n 0, 1) := by decide +kernel
theorem dX7_needChangeable_1 : decode cX7_needChangeable 1 = .ok (.iload_n 1, 1) := by decide +kernel
theorem dX7_needChangeable_2 : decode cX7_needChangeable 2 = .ok (.invokestatic 141, 3) := by decide +kernel
theorem dX7_needChangeable_5 : decode cX7_needChangeable 5 = .ok (.aload_n 0, 1) := by decide +kernel
theorem dX7_needChangeable_6 : decode cX7_needChangeable 6 = .ok (.getfield 79, 3) := by decide +kernel
theorem dX7_needChangeable_9 : decode cX7_needChangeable 9 = .ok (.aload_n 0, 1) := by decide +kernel
theorem dX7_needChangeable_10 : decode cX7_needChangeable 10 = .ok (.getfield 363, 3) := by decide +kernel
theorem dX7_needChangeable_13 : decode cX7_needChangeable 13 = .ok (.iload_n 1, 1) := by decide +kernel
theorem dX7_needChangeable_14 : decode cX7_needChangeable 14 = .ok (.invokevirtual 366, 3) := by decide +kernel
theorem dX7_needChangeable_17 : decode cX7_needChangeable 17 = .ok (.ifCond .eq 14, 3) := by decide +kernel
theorem dX7_needChangeable_20 : decode cX7_needChangeable 20 = .ok (.new 157, 3) := by decide +kernel
theorem dX7_needChangeable_23 : decode cX7_needChangeable 23 = .ok (.dup, 1) := by decide +kernel
theorem dX7_needChangeable_24 : decode cX7_needChangeable 24 = .ok (.ldc_w 370, 3) := by decide +kernel
theorem dX7_needChangeable_27 : decode cX7_needChangeable 27 = .ok (.invokespecial 161, 3) := by decide +kernel
theorem dX7_needChangeable_30 : decode cX7_needChangeable 30 = .ok (.athrow, 1) := by decide +kernel
theorem dX7_needChangeable_31 : decode cX7_needChangeable 31 = .ok (.return_, 1) := by decide +kernel
theorem dX7_needSeenConnector_0 : decode cX7_needSeenConnector 0 = .ok (.aload_n 0, 1) := by decide +kernel
theorem dX7_needSeenConnector_1 : decode cX7_needSeenConnector 1 = .ok (.getfield 79, 3) := by decide +kernel
theorem dX7_needSeenConnector_4 : decode cX7_needSeenConnector 4 = .ok (.iload_n 1, 1) := by decide +kernel
theorem dX7_needSeenConnector_5 : decode cX7_needSeenConnector 5 = .ok (.invokevirtual 339, 3) := by decide +kernel
theorem dX7_needSeenConnector_8 : decode cX7_needSeenConnector 8 = .ok (.ifCond .ne 14, 3) := by decide +kernel
theorem dX7_needSeenConnector_11 : decode cX7_needSeenConnector 11 = .ok (.new 203, 3) := by decide +kernel
theorem dX7_needSeenConnector_14 : decode cX7_needSeenConnector 14 = .ok (.dup, 1) := by decide +kernel
theorem dX7_needSeenConnector_15 : decode cX7_needSeenConnector 15 = .ok (.ldc_w 372, 3) := by decide +kernel
theorem dX7_needSeenConnector_18 : decode cX7_needSeenConnector 18 = .ok (.invokespecial 207, 3) := by decide +kernel
theorem dX7_needSeenConnector_21 : decode cX7_needSeenConnector 21 = .ok (.athrow, 1) := by decide +kernel
theorem dX7_needSeenConnector_22 : decode cX7_needSeenConnector 22 = .ok (.return_, 1) := by decide +kernel
theorem dX7_needShown_0 : decode cX7_needShown 0 = .ok (.aload_n 0, 1) := by decide +kernel
theorem dX7_needShown_1 : decode cX7_needShown 1 = .ok (.invokevirtual 188, 3) := by decide +kernel
theorem dX7_needShown_4 : decode cX7_needShown 4 = .ok (.ifCond .ne 14, 3) := by decide +kernel
theorem dX7_needShown_7 : decode cX7_needShown 7 = .ok (.new 157, 3) := by decide +kernel
theorem dX7_needShown_10 : decode cX7_needShown 10 = .ok (.dup, 1) := by decide +kernel
theorem dX7_needShown_11 : decode cX7_needShown 11 = .ok (.ldc_w 374, 3) := by decide +kernel
theorem dX7_needShown_14 : decode cX7_needShown 14 = .ok (.invokespecial 161, 3) := by decide +kernel
theorem dX7_needShown_17 : decode cX7_needShown 17 = .ok (.athrow, 1) := by decide +kernel
theorem dX7_needShown_18 : decode cX7_needShown 18 = .ok (.return_, 1) := by decide +kernel
theorem dX7_needWay_0 : decode cX7_needWay 0 = .ok (.iload_n 0, 1) := by decide +kernel
theorem dX7_needWay_1 : decode cX7_needWay 1 = .ok (.iconst (-1), 1) := by decide +kernel
theorem dX7_needWay_2 : decode cX7_needWay 2 = .ok (.if_icmp .ne 14, 3) := by decide +kernel
theorem dX7_needWay_5 : decode cX7_needWay 5 = .ok (.new 157, 3) := by decide +kernel
theorem dX7_needWay_8 : decode cX7_needWay 8 = .ok (.dup, 1) := by decide +kernel
theorem dX7_needWay_9 : decode cX7_needWay 9 = .ok (.ldc_w 376, 3) := by decide +kernel
theorem dX7_needWay_12 : decode cX7_needWay 12 = .ok (.invokespecial 161, 3) := by decide +kernel
theorem dX7_needWay_15 : decode cX7_needWay 15 = .ok (.athrow, 1) := by decide +kernel
theorem dX7_needWay_16 : decode cX7_needWay 16 = .ok (.iload_n 0, 1) := by decide +kernel
theorem dX7_needWay_17 : decode cX7_needWay 17 = .ok (.ireturn, 1) := by decide +kernel
theorem dX7_giveKey_0 : decode cX7_giveKey 0 = .ok (.aload_n 0, 1) := by decide +kernel
theorem dX7_giveKey_1 : decode cX7_giveKey 1 = .ok (.bipush 24, 2) := by decide +kernel
theorem dX7_giveKey_3 : decode cX7_giveKey 3 = .ok (.iload_n 1, 1) := by decide +kernel
theorem dX7_giveKey_4 : decode cX7_giveKey 4 = .ok (.iadd, 1) := by decide +kernel
theorem dX7_giveKey_5 : decode cX7_giveKey 5 = .ok (.fload_n 2, 1) := by decide +kernel
theorem dX7_giveKey_6 : decode cX7_giveKey 6 = .ok (.invokevirtual 148, 3) := by decide +kernel
theorem dX7_giveKey_9 : decode cX7_giveKey 9 = .ok (.aload_n 0, 1) := by decide +kernel
theorem dX7_giveKey_10 : decode cX7_giveKey 10 = .ok (.getfield 79, 3) := by decide +kernel
theorem dX7_giveKey_13 : decode cX7_giveKey 13 = .ok (.iload_n 1, 1) := by decide +kernel
theorem dX7_giveKey_14 : decode cX7_giveKey 14 = .ok (.invokevirtual 250, 3) := by decide +kernel
theorem dX7_giveKey_17 : decode cX7_giveKey 17 = .ok (.ireturn, 1) := by decide +kernel
theorem dX7_keyAbove_0 : decode cX7_keyAbove 0 = .ok (.aload_n 0, 1) := by decide +kernel
theorem dX7_keyAbove_1 : decode cX7_keyAbove 1 = .ok (.iload_n 1, 1) := by decide +kernel
theorem dX7_keyAbove_2 : decode cX7_keyAbove 2 = .ok (.invokevirtual 261, 3) := by decide +kernel
theorem dX7_keyAbove_5 : decode cX7_keyAbove 5 = .ok (.fstore_n 2, 1) := by decide +kernel
theorem dX7_keyAbove_6 : decode cX7_keyAbove 6 = .ok (.aload_n 0, 1) := by decide +kernel
theorem dX7_keyAbove_7 : decode cX7_keyAbove 7 = .ok (.fload_n 2, 1) := by decide +kernel
theorem dX7_keyAbove_8 : decode cX7_keyAbove 8 = .ok (.invokevirtual 378, 3) := by decide +kernel
theorem dX7_keyAbove_11 : decode cX7_keyAbove 11 = .ok (.istore_n 3, 1) := by decide +kernel
theorem dX7_keyAbove_12 : decode cX7_keyAbove 12 = .ok (.iload_n 3, 1) := by decide +kernel
theorem dX7_keyAbove_13 : decode cX7_keyAbove 13 = .ok (.iconst (-1), 1) := by decide +kernel
theorem dX7_keyAbove_14 : decode cX7_keyAbove 14 = .ok (.if_icmp .ne 7, 3) := by decide +kernel
theorem dX7_keyAbove_17 : decode cX7_keyAbove 17 = .ok (.fload_n 2, 1) := by decide +kernel
theorem dX7_keyAbove_18 : decode cX7_keyAbove 18 = .ok (.fconst 1, 1) := by decide +kernel
theorem dX7_keyAbove_19 : decode cX7_keyAbove 19 = .ok (.fadd, 1) := by decide +kernel
theorem dX7_keyAbove_20 : decode cX7_keyAbove 20 = .ok (.freturn, 1) := by decide +kernel
theorem dX7_keyAbove_21 : decode cX7_keyAbove 21 = .ok (.aload_n 0, 1) := by decide +kernel
theorem dX7_keyAbove_22 : decode cX7_keyAbove 22 = .ok (.iload_n 3, 1) := by decide +kernel
theorem dX7_keyAbove_23 : decode cX7_keyAbove 23 = .ok (.invokevirtual 261, 3) := by decide +kernel
theorem dX7_keyAbove_26 : decode cX7_keyAbove 26 = .ok (.fstore 4, 2) := by decide +kernel
theorem dX7_keyAbove_28 : decode cX7_keyAbove 28 = .ok (.fload_n 2, 1) := by decide +kernel
theorem dX7_keyAbove_29 : decode cX7_keyAbove 29 = .ok (.fload 4, 2) := by decide +kernel
theorem dX7_keyAbove_31 : decode cX7_keyAbove 31 = .ok (.fadd, 1) := by decide +kernel
theorem dX7_keyAbove_32 : decode cX7_keyAbove 32 = .ok (.fconst 2, 1) := by decide +kernel
theorem dX7_keyAbove_33 : decode cX7_keyAbove 33 = .ok (.fdiv, 1) := by decide +kernel
theorem dX7_keyAbove_34 : decode cX7_keyAbove 34 = .ok (.fstore 5, 2) := by decide +kernel
theorem dX7_keyAbove_36 : decode cX7_keyAbove 36 = .ok (.fload 5, 2) := by decide +kernel
theorem dX7_keyAbove_38 : decode cX7_keyAbove 38 = .ok (.fload_n 2, 1) := by decide +kernel
theorem dX7_keyAbove_39 : decode cX7_keyAbove 39 = .ok (.fcmp .l, 1) := by decide +kernel
theorem dX7_keyAbove_40 : decode cX7_keyAbove 40 = .ok (.ifCond .eq 11, 3) := by decide +kernel
theorem dX7_keyAbove_43 : decode cX7_keyAbove 43 = .ok (.fload 5, 2) := by decide +kernel
theorem dX7_keyAbove_45 : decode cX7_keyAbove 45 = .ok (.fload 4, 2) := by decide +kernel
theorem dX7_keyAbove_47 : decode cX7_keyAbove 47 = .ok (.fcmp .l, 1) := by decide +kernel
theorem dX7_keyAbove_48 : decode cX7_keyAbove 48 = .ok (.ifCond .ne 14, 3) := by decide +kernel
theorem dX7_keyAbove_51 : decode cX7_keyAbove 51 = .ok (.new 157, 3) := by decide +kernel
theorem dX7_keyAbove_54 : decode cX7_keyAbove 54 = .ok (.dup, 1) := by decide +kernel
theorem dX7_keyAbove_55 : decode cX7_keyAbove 55 = .ok (.ldc_w 381, 3) := by decide +kernel
theorem dX7_keyAbove_58 : decode cX7_keyAbove 58 = .ok (.invokespecial 161, 3) := by decide +kernel
theorem dX7_keyAbove_61 : decode cX7_keyAbove 61 = .ok (.athrow, 1) := by decide +kernel
theorem dX7_keyAbove_62 : decode cX7_keyAbove 62 = .ok (.fload 5, 2) := by decide +kernel
theorem dX7_keyAbove_64 : decode cX7_keyAbove 64 = .ok (.freturn, 1) := by decide +kernel
theorem dX7_carry_0 : decode cX7_carry 0 = .ok (.aload_n 1, 1) := by decide +kernel
theorem dX7_carry_1 : decode cX7_carry 1 = .ok (.getfield 79, 3) := by decide +kernel
theorem dX7_carry_4 : decode cX7_carry 4 = .ok (.astore 4, 2) := by decide +kernel
theorem dX7_carry_6 : decode cX7_carry 6 = .ok (.iload_n 3, 1) := by decide +kernel
theorem dX7_carry_7 : decode cX7_carry 7 = .ok (.aload 4, 2) := by decide +kernel
theorem dX7_carry_9 : decode cX7_carry 9 = .ok (.iload_n 2, 1) := by decide +kernel
theorem dX7_carry_10 : decode cX7_carry 10 = .ok (.invokevirtual 383, 3) := by decide +kernel
theorem dX7_carry_13 : decode cX7_carry 13 = .ok (.isub, 1) := by decide +kernel
theorem dX7_carry_14 : decode cX7_carry 14 = .ok (.istore 5, 2) := by decide +kernel
theorem dX7_carry_16 : decode cX7_carry 16 = .ok (.iconst 0, 1) := by decide +kernel
theorem dX7_carry_17 : decode cX7_carry 17 = .ok (.istore 6, 2) := by decide +kernel
theorem dX7_carry_19 : decode cX7_carry 19 = .ok (.aload_n 1, 1) := by decide +kernel
theorem dX7_carry_20 : decode cX7_carry 20 = .ok (.iconst 1, 1) := by decide +kernel
theorem dX7_carry_21 : decode cX7_carry 21 = .ok (.invokevirtual 97, 3) := by decide +kernel
theorem dX7_carry_24 : decode cX7_carry 24 = .ok (.iconst 0, 1) := by decide +kernel
theorem dX7_carry_25 : decode cX7_carry 25 = .ok (.istore 7, 2) := by decide +kernel
theorem dX7_carry_27 : decode cX7_carry 27 = .ok (.iload 7, 2) := by decide +kernel
theorem dX7_carry_29 : decode cX7_carry 29 = .ok (.bipush 12, 2) := by decide +kernel
theorem dX7_carry_31 : decode cX7_carry 31 = .ok (.if_icmp .ge 64, 3) := by decide +kernel
theorem dX7_carry_34 : decode cX7_carry 34 = .ok (.iload 7, 2) := by decide +kernel
theorem dX7_carry_36 : decode cX7_carry 36 = .ok (.iload_n 2, 1) := by decide +kernel
theorem dX7_carry_37 : decode cX7_carry 37 = .ok (.if_icmp .eq 29, 3) := by decide +kernel
theorem dX7_carry_40 : decode cX7_carry 40 = .ok (.aload_n 0, 1) := by decide +kernel
theorem dX7_carry_41 : decode cX7_carry 41 = .ok (.getfield 19, 3) := by decide +kernel
theorem dX7_carry_44 : decode cX7_carry 44 = .ok (.iload_n 2, 1) := by decide +kernel
theorem dX7_carry_45 : decode cX7_carry 45 = .ok (.invokevirtual 386, 3) := by decide +kernel
theorem dX7_carry_48 : decode cX7_carry 48 = .ok (.ifCond .eq 41, 3) := by decide +kernel
theorem dX7_carry_51 : decode cX7_carry 51 = .ok (.aload 4, 2) := by decide +kernel
theorem dX7_carry_53 : decode cX7_carry 53 = .ok (.aload_n 1, 1) := by decide +kernel
theorem dX7_carry_54 : decode cX7_carry 54 = .ok (.getfield 363, 3) := by decide +kernel
theorem dX7_carry_57 : decode cX7_carry 57 = .ok (.iload_n 2, 1) := by decide +kernel
theorem dX7_carry_58 : decode cX7_carry 58 = .ok (.iload 7, 2) := by decide +kernel
theorem dX7_carry_60 : decode cX7_carry 60 = .ok (.invokevirtual 389, 3) := by decide +kernel
theorem dX7_carry_63 : decode cX7_carry 63 = .ok (.ifCond .eq 26, 3) := by decide +kernel
theorem dX7_carry_66 : decode cX7_carry 66 = .ok (.aload_n 1, 1) := by decide +kernel
theorem dX7_carry_67 : decode cX7_carry 67 = .ok (.bipush 12, 2) := by decide +kernel
theorem dX7_carry_69 : decode cX7_carry 69 = .ok (.iload 7, 2) := by decide +kernel
theorem dX7_carry_71 : decode cX7_carry 71 = .ok (.iadd, 1) := by decide +kernel
theorem dX7_carry_72 : decode cX7_carry 72 = .ok (.aload 4, 2) := by decide +kernel
theorem dX7_carry_74 : decode cX7_carry 74 = .ok (.iload 7, 2) := by decide +kernel
theorem dX7_carry_76 : decode cX7_carry 76 = .ok (.invokevirtual 383, 3) := by decide +kernel
theorem dX7_carry_79 : decode cX7_carry 79 = .ok (.iload 5, 2) := by decide +kernel
theorem dX7_carry_81 : decode cX7_carry 81 = .ok (.iadd, 1) := by decide +kernel
theorem dX7_carry_82 : decode cX7_carry 82 = .ok (.i2f, 1) := by decide +kernel
theorem dX7_carry_83 : decode cX7_carry 83 = .ok (.invokevirtual 101, 3) := by decide +kernel
theorem dX7_carry_86 : decode cX7_carry 86 = .ok (.iinc 6 1, 3) := by decide +kernel
theorem dX7_carry_89 : decode cX7_carry 89 = .ok (.iinc 7 1, 3) := by decide +kernel
theorem dX7_carry_92 : decode cX7_carry 92 = .ok (.goto (-65), 3) := by decide +kernel
theorem dX7_carry_95 : decode cX7_carry 95 = .ok (.aload_n 1, 1) := by decide +kernel
theorem dX7_carry_96 : decode cX7_carry 96 = .ok (.invokevirtual 109, 3) := by decide +kernel
theorem dX7_carry_99 : decode cX7_carry 99 = .ok (.iload 6, 2) := by decide +kernel
theorem dX7_carry_101 : decode cX7_carry 101 = .ok (.ireturn, 1) := by decide +kernel
theorem dX7_isSide_0 : decode cX7_isSide 0 = .ok (.iload_n 0, 1) := by decide +kernel
theorem dX7_isSide_1 : decode cX7_isSide 1 = .ok (.iconst 1, 1) := by decide +kernel
theorem dX7_isSide_2 : decode cX7_isSide 2 = .ok (.if_icmp .lt 13, 3) := by decide +kernel
theorem dX7_isSide_5 : decode cX7_isSide 5 = .ok (.iload_n 0, 1) := by decide +kernel
theorem dX7_isSide_6 : decode cX7_isSide 6 = .ok (.bipush 8, 2) := by decide +kernel
theorem dX7_isSide_8 : decode cX7_isSide 8 = .ok (.if_icmp .gt 7, 3) := by decide +kernel
theorem dX7_isSide_11 : decode cX7_isSide 11 = .ok (.iconst 1, 1) := by decide +kernel
theorem dX7_isSide_12 : decode cX7_isSide 12 = .ok (.goto 4, 3) := by decide +kernel
theorem dX7_isSide_15 : decode cX7_isSide 15 = .ok (.iconst 0, 1) := by decide +kernel
theorem dX7_isSide_16 : decode cX7_isSide 16 = .ok (.ireturn, 1) := by decide +kernel
theorem dX7_isSideName_0 : decode cX7_isSideName 0 = .ok (.iload_n 0, 1) := by decide +kernel
theorem dX7_isSideName_1 : decode cX7_isSideName 1 = .ok (.bipush 116, 2) := by decide +kernel
theorem dX7_isSideName_3 : decode cX7_isSideName 3 = .ok (.if_icmp .eq 21, 3) := by decide +kernel
theorem dX7_isSideName_6 : decode cX7_isSideName 6 = .ok (.iload_n 0, 1) := by decide +kernel
theorem dX7_isSideName_7 : decode cX7_isSideName 7 = .ok (.bipush 98, 2) := by decide +kernel
theorem dX7_isSideName_9 : decode cX7_isSideName 9 = .ok (.if_icmp .eq 15, 3) := by decide +kernel
theorem dX7_isSideName_12 : decode cX7_isSideName 12 = .ok (.iload_n 0, 1) := by decide +kernel
theorem dX7_isSideName_13 : decode cX7_isSideName 13 = .ok (.bipush 108, 2) := by decide +kernel
theorem dX7_isSideName_15 : decode cX7_isSideName 15 = .ok (.if_icmp .eq 9, 3) := by decide +kernel
theorem dX7_isSideName_18 : decode cX7_isSideName 18 = .ok (.iload_n 0, 1) := by decide +kernel
theorem dX7_isSideName_19 : decode cX7_isSideName 19 = .ok (.bipush 114, 2) := by decide +kernel
theorem dX7_isSideName_21 : decode cX7_isSideName 21 = .ok (.if_icmp .ne 7, 3) := by decide +kernel
theorem dX7_isSideName_24 : decode cX7_isSideName 24 = .ok (.iconst 1, 1) := by decide +kernel
theorem dX7_isSideName_25 : decode cX7_isSideName 25 = .ok (.goto 4, 3) := by decide +kernel
theorem dX7_isSideName_28 : decode cX7_isSideName 28 = .ok (.iconst 0, 1) := by decide +kernel
theorem dX7_isSideName_29 : decode cX7_isSideName 29 = .ok (.ireturn, 1) := by decide +kernel
theorem dX7_fits_0 : decode cX7_fits 0 = .ok (.iload_n 0, 1) := by decide +kernel
theorem dX7_fits_1 : decode cX7_fits 1 = .ok (.ifCond .lt 27, 3) := by decide +kernel
theorem dX7_fits_4 : decode cX7_fits 4 = .ok (.iload_n 0, 1) := by decide +kernel
theorem dX7_fits_5 : decode cX7_fits 5 = .ok (.bipush 24, 2) := by decide +kernel
theorem dX7_fits_7 : decode cX7_fits 7 = .ok (.iload_n 2, 1) := by decide +kernel
theorem dX7_fits_8 : decode cX7_fits 8 = .ok (.isub, 1) := by decide +kernel
theorem dX7_fits_9 : decode cX7_fits 9 = .ok (.if_icmp .gt 19, 3) := by decide +kernel
theorem dX7_fits_12 : decode cX7_fits 12 = .ok (.iload_n 1, 1) := by decide +kernel
theorem dX7_fits_13 : decode cX7_fits 13 = .ok (.ifCond .lt 15, 3) := by decide +kernel
theorem dX7_fits_16 : decode cX7_fits 16 = .ok (.iload_n 1, 1) := by decide +kernel
theorem dX7_fits_17 : decode cX7_fits 17 = .ok (.bipush 16, 2) := by decide +kernel
theorem dX7_fits_19 : decode cX7_fits 19 = .ok (.iload_n 3, 1) := by decide +kernel
theorem dX7_fits_20 : decode cX7_fits 20 = .ok (.isub, 1) := by decide +kernel
theorem dX7_fits_21 : decode cX7_fits 21 = .ok (.if_icmp .gt 7, 3) := by decide +kernel
theorem dX7_fits_24 : decode cX7_fits 24 = .ok (.iconst 1, 1) := by decide +kernel
theorem dX7_fits_25 : decode cX7_fits 25 = .ok (.goto 4, 3) := by decide +kernel
theorem dX7_fits_28 : decode cX7_fits 28 = .ok (.iconst 0, 1) := by decide +kernel
theorem dX7_fits_29 : decode cX7_fits 29 = .ok (.ireturn, 1) := by decide +kernel
theorem dX7_cellAt_0 : decode cX7_cellAt 0 = .ok (.iload_n 0, 1) := by decide +kernel
theorem dX7_cellAt_1 : decode cX7_cellAt 1 = .ok (.ifCond .lt 28, 3) := by decide +kernel
theorem dX7_cellAt_4 : decode cX7_cellAt 4 = .ok (.iload_n 0, 1) := by decide +kernel
theorem dX7_cellAt_5 : decode cX7_cellAt 5 = .ok (.bipush 24, 2) := by decide +kernel
theorem dX7_cellAt_7 : decode cX7_cellAt 7 = .ok (.if_icmp .ge 22, 3) := by decide +kernel
theorem dX7_cellAt_10 : decode cX7_cellAt 10 = .ok (.iload_n 1, 1) := by decide +kernel
theorem dX7_cellAt_11 : decode cX7_cellAt 11 = .ok (.ifCond .lt 18, 3) := by decide +kernel
theorem dX7_cellAt_14 : decode cX7_cellAt 14 = .ok (.iload_n 1, 1) := by decide +kernel
theorem dX7_cellAt_15 : decode cX7_cellAt 15 = .ok (.bipush 16, 2) := by decide +kernel
theorem dX7_cellAt_17 : decode cX7_cellAt 17 = .ok (.if_icmp .ge 12, 3) := by decide +kernel
theorem dX7_cellAt_20 : decode cX7_cellAt 20 = .ok (.iload_n 1, 1) := by decide +kernel
theorem dX7_cellAt_21 : decode cX7_cellAt 21 = .ok (.bipush 24, 2) := by decide +kernel
theorem dX7_cellAt_23 : decode cX7_cellAt 23 = .ok (.imul, 1) := by decide +kernel
theorem dX7_cellAt_24 : decode cX7_cellAt 24 = .ok (.iload_n 0, 1) := by decide +kernel
theorem dX7_cellAt_25 : decode cX7_cellAt 25 = .ok (.iadd, 1) := by decide +kernel
theorem dX7_cellAt_26 : decode cX7_cellAt 26 = .ok (.goto 4, 3) := by decide +kernel
theorem dX7_cellAt_29 : decode cX7_cellAt 29 = .ok (.iconst (-1), 1) := by decide +kernel
theorem dX7_cellAt_30 : decode cX7_cellAt 30 = .ok (.ireturn, 1) := by decide +kernel
theorem dX7_voteField_0 : decode cX7_voteField 0 = .ok (.bipush 56, 2) := by decide +kernel
theorem dX7_voteField_2 : decode cX7_voteField 2 = .ok (.iload_n 0, 1) := by decide +kernel
theorem dX7_voteField_3 : decode cX7_voteField 3 = .ok (.bipush 12, 2) := by decide +kernel
theorem dX7_voteField_5 : decode cX7_voteField 5 = .ok (.imul, 1) := by decide +kernel
theorem dX7_voteField_6 : decode cX7_voteField 6 = .ok (.iadd, 1) := by decide +kernel
theorem dX7_voteField_7 : decode cX7_voteField 7 = .ok (.iload_n 1, 1) := by decide +kernel
theorem dX7_voteField_8 : decode cX7_voteField 8 = .ok (.iadd, 1) := by decide +kernel
theorem dX7_voteField_9 : decode cX7_voteField 9 = .ok (.ireturn, 1) := by decide +kernel
theorem dX7_isNegativeZero_0 : decode cX7_isNegativeZero 0 = .ok (.fload_n 0, 1) := by decide +kernel
theorem dX7_isNegativeZero_1 : decode cX7_isNegativeZero 1 = .ok (.fconst 0, 1) := by decide +kernel
theorem dX7_isNegativeZero_2 : decode cX7_isNegativeZero 2 = .ok (.fcmp .l, 1) := by decide +kernel
theorem dX7_isNegativeZero_3 : decode cX7_isNegativeZero 3 = .ok (.ifCond .ne 15, 3) := by decide +kernel
theorem dX7_isNegativeZero_6 : decode cX7_isNegativeZero 6 = .ok (.fconst 1, 1) := by decide +kernel
theorem dX7_isNegativeZero_7 : decode cX7_isNegativeZero 7 = .ok (.fload_n 0, 1) := by decide +kernel
theorem dX7_isNegativeZero_8 : decode cX7_isNegativeZero 8 = .ok (.fdiv, 1) := by decide +kernel
theorem dX7_isNegativeZero_9 : decode cX7_isNegativeZero 9 = .ok (.fconst 0, 1) := by decide +kernel
theorem dX7_isNegativeZero_10 : decode cX7_isNegativeZero 10 = .ok (.fcmp .g, 1) := by decide +kernel
theorem dX7_isNegativeZero_11 : decode cX7_isNegativeZero 11 = .ok (.ifCond .ge 7, 3) := by decide +kernel
theorem dX7_isNegativeZero_14 : decode cX7_isNegativeZero 14 = .ok (.iconst 1, 1) := by decide +kernel
theorem dX7_isNegativeZero_15 : decode cX7_isNegativeZero 15 = .ok (.goto 4, 3) := by decide +kernel
theorem dX7_isNegativeZero_18 : decode cX7_isNegativeZero 18 = .ok (.iconst 0, 1) := by decide +kernel
theorem dX7_isNegativeZero_19 : decode cX7_isNegativeZero 19 = .ok (.ireturn, 1) := by decide +kernel
theorem dX7_isSameValue_0 : decode cX7_isSameValue 0 = .ok (.fload_n 0, 1) := by decide +kernel
theorem dX7_isSameValue_1 : decode cX7_isSameValue 1 = .ok (.fload_n 1, 1) := by decide +kernel
theorem dX7_isSameValue_2 : decode cX7_isSameValue 2 = .ok (.fcmp .l, 1) := by decide +kernel
theorem dX7_isSameValue_3 : decode cX7_isSameValue 3 = .ok (.ifCond .ne 18, 3) := by decide +kernel
theorem dX7_isSameValue_6 : decode cX7_isSameValue 6 = .ok (.fload_n 0, 1) := by decide +kernel
theorem dX7_isSameValue_7 : decode cX7_isSameValue 7 = .ok (.invokestatic 393, 3) := by decide +kernel
theorem dX7_isSameValue_10 : decode cX7_isSameValue 10 = .ok (.fload_n 1, 1) := by decide +kernel
theorem dX7_isSameValue_11 : decode cX7_isSameValue 11 = .ok (.invokestatic 393, 3) := by decide +kernel
theorem dX7_isSameValue_14 : decode cX7_isSameValue 14 = .ok (.if_icmp .ne 7, 3) := by decide +kernel
theorem dX7_isSameValue_17 : decode cX7_isSameValue 17 = .ok (.iconst 1, 1) := by decide +kernel
theorem dX7_isSameValue_18 : decode cX7_isSameValue 18 = .ok (.goto 4, 3) := by decide +kernel
theorem dX7_isSameValue_21 : decode cX7_isSameValue 21 = .ok (.iconst 0, 1) := by decide +kernel
theorem dX7_isSameValue_22 : decode cX7_isSameValue 22 = .ok (.ireturn, 1) := by decide +kernel
theorem dX7_bitsOf_0 : decode cX7_bitsOf 0 = .ok (.fload_n 0, 1) := by decide +kernel
theorem dX7_bitsOf_1 : decode cX7_bitsOf 1 = .ok (.fconst 0, 1) := by decide +kernel
theorem dX7_bitsOf_2 : decode cX7_bitsOf 2 = .ok (.fcmp .l, 1) := by decide +kernel
theorem dX7_bitsOf_3 : decode cX7_bitsOf 3 = .ok (.ifCond .ne 18, 3) := by decide +kernel
theorem dX7_bitsOf_6 : decode cX7_bitsOf 6 = .ok (.fload_n 0, 1) := by decide +kernel
theorem dX7_bitsOf_7 : decode cX7_bitsOf 7 = .ok (.invokestatic 393, 3) := by decide +kernel
theorem dX7_bitsOf_10 : decode cX7_bitsOf 10 = .ok (.ifCond .eq 9, 3) := by decide +kernel
theorem dX7_bitsOf_13 : decode cX7_bitsOf 13 = .ok (.ldc_w 397, 3) := by decide +kernel
theorem dX7_bitsOf_16 : decode cX7_bitsOf 16 = .ok (.goto 4, 3) := by decide +kernel
theorem dX7_bitsOf_19 : decode cX7_bitsOf 19 = .ok (.iconst 0, 1) := by decide +kernel
theorem dX7_bitsOf_20 : decode cX7_bitsOf 20 = .ok (.ireturn, 1) := by decide +kernel
theorem dX7_bitsOf_21 : decode cX7_bitsOf 21 = .ok (.fload_n 0, 1) := by decide +kernel
theorem dX7_bitsOf_22 : decode cX7_bitsOf 22 = .ok (.fconst 0, 1) := by decide +kernel
theorem dX7_bitsOf_23 : decode cX7_bitsOf 23 = .ok (.fcmp .g, 1) := by decide +kernel
theorem dX7_bitsOf_24 : decode cX7_bitsOf 24 = .ok (.ifCond .ge 9, 3) := by decide +kernel
theorem dX7_bitsOf_27 : decode cX7_bitsOf 27 = .ok (.ldc_w 397, 3) := by decide +kernel
theorem dX7_bitsOf_30 : decode cX7_bitsOf 30 = .ok (.goto 4, 3) := by decide +kernel
theorem dX7_bitsOf_33 : decode cX7_bitsOf 33 = .ok (.iconst 0, 1) := by decide +kernel
theorem dX7_bitsOf_34 : decode cX7_bitsOf 34 = .ok (.istore_n 1, 1) := by decide +kernel
theorem dX7_bitsOf_35 : decode cX7_bitsOf 35 = .ok (.fload_n 0, 1) := by decide +kernel
theorem dX7_bitsOf_36 : decode cX7_bitsOf 36 = .ok (.fconst 0, 1) := by decide +kernel
theorem dX7_bitsOf_37 : decode cX7_bitsOf 37 = .ok (.fcmp .g, 1) := by decide +kernel
theorem dX7_bitsOf_38 : decode cX7_bitsOf 38 = .ok (.ifCond .ge 9, 3) := by decide +kernel
theorem dX7_bitsOf_41 : decode cX7_bitsOf 41 = .ok (.fload_n 0, 1) := by decide +kernel
theorem dX7_bitsOf_42 : decode cX7_bitsOf 42 = .ok (.f2d, 1) := by decide +kernel
theorem dX7_bitsOf_43 : decode cX7_bitsOf 43 = .ok (.dneg, 1) := by decide +kernel
theorem dX7_bitsOf_44 : decode cX7_bitsOf 44 = .ok (.goto 5, 3) := by decide +kernel
theorem dX7_bitsOf_47 : decode cX7_bitsOf 47 = .ok (.fload_n 0, 1) := by decide +kernel
theorem dX7_bitsOf_48 : decode cX7_bitsOf 48 = .ok (.f2d, 1) := by decide +kernel
theorem dX7_bitsOf_49 : decode cX7_bitsOf 49 = .ok (.dstore_n 2, 1) := by decide +kernel
theorem dX7_bitsOf_50 : decode cX7_bitsOf 50 = .ok (.iconst 0, 1) := by decide +kernel
theorem dX7_bitsOf_51 : decode cX7_bitsOf 51 = .ok (.istore 4, 2) := by decide +kernel
theorem dX7_bitsOf_53 : decode cX7_bitsOf 53 = .ok (.iconst 0, 1) := by decide +kernel
theorem dX7_bitsOf_54 : decode cX7_bitsOf 54 = .ok (.istore 5, 2) := by decide +kernel
theorem dX7_bitsOf_56 : decode cX7_bitsOf 56 = .ok (.iload 5, 2) := by decide +kernel
theorem dX7_bitsOf_58 : decode cX7_bitsOf 58 = .ok (.sipush 128, 3) := by decide +kernel
theorem dX7_bitsOf_61 : decode cX7_bitsOf 61 = .ok (.if_icmp .ge 26, 3) := by decide +kernel
theorem dX7_bitsOf_64 : decode cX7_bitsOf 64 = .ok (.dload_n 2, 1) := by decide +kernel
theorem dX7_bitsOf_65 : decode cX7_bitsOf 65 = .ok (.ldc2_w 398, 3) := by decide +kernel
theorem dX7_bitsOf_68 : decode cX7_bitsOf 68 = .ok (.dcmp .l, 1) := by decide +kernel
theorem dX7_bitsOf_69 : decode cX7_bitsOf 69 = .ok (.ifCond .lt 18, 3) := by decide +kernel
theorem dX7_bitsOf_72 : decode cX7_bitsOf 72 = .ok (.dload_n 2, 1) := by decide +kernel
theorem dX7_bitsOf_73 : decode cX7_bitsOf 73 = .ok (.ldc2_w 398, 3) := by decide +kernel
theorem dX7_bitsOf_76 : decode cX7_bitsOf 76 = .ok (.ddiv, 1) := by decide +kernel
theorem dX7_bitsOf_77 : decode cX7_bitsOf 77 = .ok (.dstore_n 2, 1) := by decide +kernel
theorem dX7_bitsOf_78 : decode cX7_bitsOf 78 = .ok (.iinc 4 1, 3) := by decide +kernel
theorem dX7_bitsOf_81 : decode cX7_bitsOf 81 = .ok (.iinc 5 1, 3) := by decide +kernel
theorem dX7_bitsOf_84 : decode cX7_bitsOf 84 = .ok (.goto (-28), 3) := by decide +kernel
theorem dX7_bitsOf_87 : decode cX7_bitsOf 87 = .ok (.iconst 0, 1) := by decide +kernel
theorem dX7_bitsOf_88 : decode cX7_bitsOf 88 = .ok (.istore 5, 2) := by decide +kernel
theorem dX7_bitsOf_90 : decode cX7_bitsOf 90 = .ok (.iload 5, 2) := by decide +kernel
theorem dX7_bitsOf_92 : decode cX7_bitsOf 92 = .ok (.sipush 149, 3) := by decide +kernel
theorem dX7_bitsOf_95 : decode cX7_bitsOf 95 = .ok (.if_icmp .ge 24, 3) := by decide +kernel
theorem dX7_bitsOf_98 : decode cX7_bitsOf 98 = .ok (.dload_n 2, 1) := by decide +kernel
theorem dX7_bitsOf_99 : decode cX7_bitsOf 99 = .ok (.dconst 1, 1) := by decide +kernel
theorem dX7_bitsOf_100 : decode cX7_bitsOf 100 = .ok (.dcmp .g, 1) := by decide +kernel
theorem dX7_bitsOf_101 : decode cX7_bitsOf 101 = .ok (.ifCond .ge 18, 3) := by decide +kernel
theorem dX7_bitsOf_104 : decode cX7_bitsOf 104 = .ok (.dload_n 2, 1) := by decide +kernel
theorem dX7_bitsOf_105 : decode cX7_bitsOf 105 = .ok (.ldc2_w 398, 3) := by decide +kernel
theorem dX7_bitsOf_108 : decode cX7_bitsOf 108 = .ok (.dmul, 1) := by decide +kernel
theorem dX7_bitsOf_109 : decode cX7_bitsOf 109 = .ok (.dstore_n 2, 1) := by decide +kernel
theorem dX7_bitsOf_110 : decode cX7_bitsOf 110 = .ok (.iinc 4 (-1), 3) := by decide +kernel
theorem dX7_bitsOf_113 : decode cX7_bitsOf 113 = .ok (.iinc 5 1, 3) := by decide +kernel
theorem dX7_bitsOf_116 : decode cX7_bitsOf 116 = .ok (.goto (-26), 3) := by decide +kernel
theorem dX7_bitsOf_119 : decode cX7_bitsOf 119 = .ok (.iload 4, 2) := by decide +kernel
theorem dX7_bitsOf_121 : decode cX7_bitsOf 121 = .ok (.bipush (-126), 2) := by decide +kernel
theorem dX7_bitsOf_123 : decode cX7_bitsOf 123 = .ok (.if_icmp .ge 18, 3) := by decide +kernel
theorem dX7_bitsOf_126 : decode cX7_bitsOf 126 = .ok (.iload_n 1, 1) := by decide +kernel
theorem dX7_bitsOf_127 : decode cX7_bitsOf 127 = .ok (.dload_n 2, 1) := by decide +kernel
theorem dX7_bitsOf_128 : decode cX7_bitsOf 128 = .ok (.iconst 1, 1) := by decide +kernel
theorem dX7_bitsOf_129 : decode cX7_bitsOf 129 = .ok (.iload 4, 2) := by decide +kernel
theorem dX7_bitsOf_131 : decode cX7_bitsOf 131 = .ok (.sipush 149, 3) := by decide +kernel
theorem dX7_bitsOf_134 : decode cX7_bitsOf 134 = .ok (.iadd, 1) := by decide +kernel
theorem dX7_bitsOf_135 : decode cX7_bitsOf 135 = .ok (.ishl, 1) := by decide +kernel
theorem dX7_bitsOf_136 : decode cX7_bitsOf 136 = .ok (.i2d, 1) := by decide +kernel
theorem dX7_bitsOf_137 : decode cX7_bitsOf 137 = .ok (.dmul, 1) := by decide +kernel
theorem dX7_bitsOf_138 : decode cX7_bitsOf 138 = .ok (.d2i, 1) := by decide +kernel
theorem dX7_bitsOf_139 : decode cX7_bitsOf 139 = .ok (.ior, 1) := by decide +kernel
theorem dX7_bitsOf_140 : decode cX7_bitsOf 140 = .ok (.ireturn, 1) := by decide +kernel
theorem dX7_bitsOf_141 : decode cX7_bitsOf 141 = .ok (.iload_n 1, 1) := by decide +kernel
theorem dX7_bitsOf_142 : decode cX7_bitsOf 142 = .ok (.iload 4, 2) := by decide +kernel
theorem dX7_bitsOf_144 : decode cX7_bitsOf 144 = .ok (.bipush 127, 2) := by decide +kernel
theorem dX7_bitsOf_146 : decode cX7_bitsOf 146 = .ok (.iadd, 1) := by decide +kernel
theorem dX7_bitsOf_147 : decode cX7_bitsOf 147 = .ok (.bipush 23, 2) := by decide +kernel
theorem dX7_bitsOf_149 : decode cX7_bitsOf 149 = .ok (.ishl, 1) := by decide +kernel
theorem dX7_bitsOf_150 : decode cX7_bitsOf 150 = .ok (.ior, 1) := by decide +kernel
theorem dX7_bitsOf_151 : decode cX7_bitsOf 151 = .ok (.dload_n 2, 1) := by decide +kernel
theorem dX7_bitsOf_152 : decode cX7_bitsOf 152 = .ok (.dconst 1, 1) := by decide +kernel
theorem dX7_bitsOf_153 : decode cX7_bitsOf 153 = .ok (.dsub, 1) := by decide +kernel
theorem dX7_bitsOf_154 : decode cX7_bitsOf 154 = .ok (.ldc2_w 400, 3) := by decide +kernel
theorem dX7_bitsOf_157 : decode cX7_bitsOf 157 = .ok (.dmul, 1) := by decide +kernel
theorem dX7_bitsOf_158 : decode cX7_bitsOf 158 = .ok (.d2i, 1) := by decide +kernel
theorem dX7_bitsOf_159 : decode cX7_bitsOf 159 = .ok (.ior, 1) := by decide +kernel
theorem dX7_bitsOf_160 : decode cX7_bitsOf 160 = .ok (.ireturn, 1) := by decide +kernel
theorem dX7_intAt_0 : decode cX7_intAt 0 = .ok (.iload_n 1, 1) := by decide +kernel
theorem dX7_intAt_1 : decode cX7_intAt 1 = .ok (.ifCond .lt 15, 3) := by decide +kernel
theorem dX7_intAt_4 : decode cX7_intAt 4 = .ok (.iload_n 1, 1) := by decide +kernel
theorem dX7_intAt_5 : decode cX7_intAt 5 = .ok (.aload_n 0, 1) := by decide +kernel
theorem dX7_intAt_6 : decode cX7_intAt 6 = .ok (.arraylength, 1) := by decide +kernel
theorem dX7_intAt_7 : decode cX7_intAt 7 = .ok (.if_icmp .ge 9, 3) := by decide +kernel
theorem dX7_intAt_10 : decode cX7_intAt 10 = .ok (.aload_n 0, 1) := by decide +kernel
theorem dX7_intAt_11 : decode cX7_intAt 11 = .ok (.iload_n 1, 1) := by decide +kernel
theorem dX7_intAt_12 : decode cX7_intAt 12 = .ok (.iaload, 1) := by decide +kernel
theorem dX7_intAt_13 : decode cX7_intAt 13 = .ok (.goto 4, 3) := by decide +kernel
theorem dX7_intAt_16 : decode cX7_intAt 16 = .ok (.iload_n 2, 1) := by decide +kernel
theorem dX7_intAt_17 : decode cX7_intAt 17 = .ok (.ireturn, 1) := by decide +kernel
theorem dX7_floatAt_0 : decode cX7_floatAt 0 = .ok (.iload_n 1, 1) := by decide +kernel
theorem dX7_floatAt_1 : decode cX7_floatAt 1 = .ok (.ifCond .lt 15, 3) := by decide +kernel
theorem dX7_floatAt_4 : decode cX7_floatAt 4 = .ok (.iload_n 1, 1) := by decide +kernel
theorem dX7_floatAt_5 : decode cX7_floatAt 5 = .ok (.aload_n 0, 1) := by decide +kernel
theorem dX7_floatAt_6 : decode cX7_floatAt 6 = .ok (.arraylength, 1) := by decide +kernel
theorem dX7_floatAt_7 : decode cX7_floatAt 7 = .ok (.if_icmp .ge 9, 3) := by decide +kernel
theorem dX7_floatAt_10 : decode cX7_floatAt 10 = .ok (.aload_n 0, 1) := by decide +kernel
theorem dX7_floatAt_11 : decode cX7_floatAt 11 = .ok (.iload_n 1, 1) := by decide +kernel
theorem dX7_floatAt_12 : decode cX7_floatAt 12 = .ok (.faload, 1) := by decide +kernel
theorem dX7_floatAt_13 : decode cX7_floatAt 13 = .ok (.goto 4, 3) := by decide +kernel
theorem dX7_floatAt_16 : decode cX7_floatAt 16 = .ok (.fconst 0, 1) := by decide +kernel
theorem dX7_floatAt_17 : decode cX7_floatAt 17 = .ok (.freturn, 1) := by decide +kernel
theorem dX7_isAt_0 : decode cX7_isAt 0 = .ok (.iload_n 1, 1) := by decide +kernel
theorem dX7_isAt_1 : decode cX7_isAt 1 = .ok (.ifCond .lt 19, 3) := by decide +kernel
theorem dX7_isAt_4 : decode cX7_isAt 4 = .ok (.iload_n 1, 1) := by decide +kernel
theorem dX7_isAt_5 : decode cX7_isAt 5 = .ok (.aload_n 0, 1) := by decide +kernel
theorem dX7_isAt_6 : decode cX7_isAt 6 = .ok (.arraylength, 1) := by decide +kernel
theorem dX7_isAt_7 : decode cX7_isAt 7 = .ok (.if_icmp .ge 13, 3) := by decide +kernel
theorem dX7_isAt_10 : decode cX7_isAt 10 = .ok (.aload_n 0, 1) := by decide +kernel
theorem dX7_isAt_11 : decode cX7_isAt 11 = .ok (.iload_n 1, 1) := by decide +kernel
theorem dX7_isAt_12 : decode cX7_isAt 12 = .ok (.baload, 1) := by decide +kernel
theorem dX7_isAt_13 : decode cX7_isAt 13 = .ok (.ifCond .eq 7, 3) := by decide +kernel
theorem dX7_isAt_16 : decode cX7_isAt 16 = .ok (.iconst 1, 1) := by decide +kernel
theorem dX7_isAt_17 : decode cX7_isAt 17 = .ok (.goto 4, 3) := by decide +kernel
theorem dX7_isAt_20 : decode cX7_isAt 20 = .ok (.iconst 0, 1) := by decide +kernel
theorem dX7_isAt_21 : decode cX7_isAt 21 = .ok (.ireturn, 1) := by decide +kernel
theorem dJ9_floorMod_7cf53_0 : decode cJ9_floorMod_7cf53 0 = .ok (.iload_n 0, 1) := by decide +kernel
theorem dJ9_floorMod_7cf53_1 : decode cJ9_floorMod_7cf53 1 = .ok (.iload_n 1, 1) := by decide +kernel
theorem dJ9_floorMod_7cf53_2 : decode cJ9_floorMod_7cf53 2 = .ok (.irem, 1) := by decide +kernel
theorem dJ9_floorMod_7cf53_3 : decode cJ9_floorMod_7cf53 3 = .ok (.istore_n 2, 1) := by decide +kernel
theorem dJ9_floorMod_7cf53_4 : decode cJ9_floorMod_7cf53 4 = .ok (.iload_n 0, 1) := by decide +kernel
theorem dJ9_floorMod_7cf53_5 : decode cJ9_floorMod_7cf53 5 = .ok (.iload_n 1, 1) := by decide +kernel
theorem dJ9_floorMod_7cf53_6 : decode cJ9_floorMod_7cf53 6 = .ok (.ixor, 1) := by decide +kernel
theorem dJ9_floorMod_7cf53_7 : decode cJ9_floorMod_7cf53 7 = .ok (.ifCond .ge 11, 3) := by decide +kernel
theorem dJ9_floorMod_7cf53_10 : decode cJ9_floorMod_7cf53 10 = .ok (.iload_n 2, 1) := by decide +kernel
theorem dJ9_floorMod_7cf53_11 : decode cJ9_floorMod_7cf53 11 = .ok (.ifCond .eq 7, 3) := by decide +kernel
theorem dJ9_floorMod_7cf53_14 : decode cJ9_floorMod_7cf53 14 = .ok (.iload_n 2, 1) := by decide +kernel
theorem dJ9_floorMod_7cf53_15 : decode cJ9_floorMod_7cf53 15 = .ok (.iload_n 1, 1) := by decide +kernel
theorem dJ9_floorMod_7cf53_16 : decode cJ9_floorMod_7cf53 16 = .ok (.iadd, 1) := by decide +kernel
theorem dJ9_floorMod_7cf53_17 : decode cJ9_floorMod_7cf53 17 = .ok (.ireturn, 1) := by decide +kernel
theorem dJ9_floorMod_7cf53_18 : decode cJ9_floorMod_7cf53 18 = .ok (.iload_n 2, 1) := by decide +kernel
theorem dJ9_floorMod_7cf53_19 : decode cJ9_floorMod_7cf53 19 = .ok (.ireturn, 1) := by decide +kernel
theorem dJ9_max_7cf53_0 : decode cJ9_max_7cf53 0 = .ok (.iload_n 0, 1) := by decide +kernel
theorem dJ9_max_7cf53_1 : decode cJ9_max_7cf53 1 = .ok (.iload_n 1, 1) := by decide +kernel
theorem dJ9_max_7cf53_2 : decode cJ9_max_7cf53 2 = .ok (.if_icmp .lt 7, 3) := by decide +kernel
theorem dJ9_max_7cf53_5 : decode cJ9_max_7cf53 5 = .ok (.iload_n 0, 1) := by decide +kernel
theorem dJ9_max_7cf53_6 : decode cJ9_max_7cf53 6 = .ok (.goto 4, 3) := by decide +kernel
theorem dJ9_max_7cf53_9 : decode cJ9_max_7cf53 9 = .ok (.iload_n 1, 1) := by decide +kernel
theorem dJ9_max_7cf53_10 : decode cJ9_max_7cf53 10 = .ok (.ireturn, 1) := by decide +kernel
theorem dJ9_min_7cf53_0 : decode cJ9_min_7cf53 0 = .ok (.iload_n 0, 1) := by decide +kernel
theorem dJ9_min_7cf53_1 : decode cJ9_min_7cf53 1 = .ok (.iload_n 1, 1) := by decide +kernel
theorem dJ9_min_7cf53_2 : decode cJ9_min_7cf53 2 = .ok (.if_icmp .gt 7, 3) := by decide +kernel
theorem dJ9_min_7cf53_5 : decode cJ9_min_7cf53 5 = .ok (.iload_n 0, 1) := by decide +kernel
theorem dJ9_min_7cf53_6 : decode cJ9_min_7cf53 6 = .ok (.goto 4, 3) := by decide +kernel
theorem dJ9_min_7cf53_9 : decode cJ9_min_7cf53 9 = .ok (.iload_n 1, 1) := by decide +kernel
theorem dJ9_min_7cf53_10 : decode cJ9_min_7cf53 10 = .ok (.ireturn, 1) := by decide +kernel
theorem dJxf58ca_isNaN_12338_0 : decode cJxf58ca_isNaN_12338 0 = .ok (.fload_n 0, 1) := by decide +kernel
theorem dJxf58ca_isNaN_12338_1 : decode cJxf58ca_isNaN_12338 1 = .ok (.fload_n 0, 1) := by decide +kernel
theorem dJxf58ca_isNaN_12338_2 : decode cJxf58ca_isNaN_12338 2 = .ok (.fcmp .l, 1) := by decide +kernel
theorem dJxf58ca_isNaN_12338_3 : decode cJxf58ca_isNaN_12338 3 = .ok (.ifCond .eq 7, 3) := by decide +kernel
theorem dJxf58ca_isNaN_12338_6 : decode cJxf58ca_isNaN_12338 6 = .ok (.iconst 1, 1) := by decide +kernel
theorem dJxf58ca_isNaN_12338_7 : decode cJxf58ca_isNaN_12338 7 = .ok (.goto 4, 3) := by decide +kernel
theorem dJxf58ca_isNaN_12338_10 : decode cJxf58ca_isNaN_12338 10 = .ok (.iconst 0, 1) := by decide +kernel
theorem dJxf58ca_isNaN_12338_11 : decode cJxf58ca_isNaN_12338 11 = .ok (.ireturn, 1) := by decide +kernel
theorem dJxf58ca_floatToIntBits_5c35a_0 : decode cJxf58ca_floatToIntBits_5c35a 0 = .ok (.fload_n 0, 1) := by decide +kernel
theorem dJxf58ca_floatToIntBits_5c35a_1 : decode cJxf58ca_floatToIntBits_5c35a 1 = .ok (.invokestatic 59, 3) := by decide +kernel
theorem dJxf58ca_floatToIntBits_5c35a_4 : decode cJxf58ca_floatToIntBits_5c35a 4 = .ok (.ifCond .ne 8, 3) := by decide +kernel
theorem dJxf58ca_floatToIntBits_5c35a_7 : decode cJxf58ca_floatToIntBits_5c35a 7 = .ok (.fload_n 0, 1) := by decide +kernel
theorem dJxf58ca_floatToIntBits_5c35a_8 : decode cJxf58ca_floatToIntBits_5c35a 8 = .ok (.invokestatic 74, 3) := by decide +kernel
theorem dJxf58ca_floatToIntBits_5c35a_11 : decode cJxf58ca_floatToIntBits_5c35a 11 = .ok (.ireturn, 1) := by decide +kernel
theorem dJxf58ca_floatToIntBits_5c35a_12 : decode cJxf58ca_floatToIntBits_5c35a 12 = .ok (.ldc 77, 2) := by decide +kernel
theorem dJxf58ca_floatToIntBits_5c35a_14 : decode cJxf58ca_floatToIntBits_5c35a 14 = .ok (.ireturn, 1) := by decide +kernel
