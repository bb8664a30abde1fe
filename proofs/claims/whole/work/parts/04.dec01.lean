theorem dX0_init_0 : decode cX0_init 0 = .ok (.aload_n 0, 1) := by decide +kernel
theorem dX0_init_1 : decode cX0_init 1 = .ok (.invokespecial 3, 3) := by decide +kernel
theorem dX0_init_4 : decode cX0_init 4 = .ok (.aload_n 0, 1) := by decide +kernel
theorem dX0_init_5 : decode cX0_init 5 = .ok (.bipush 93, 2) := by decide +kernel
theorem dX0_init_7 : decode cX0_init 7 = .ok (.newarray .float, 2) := by decide +kernel
theorem dX0_init_9 : decode cX0_init 9 = .ok (.putfield 9, 3) := by decide +kernel
theorem dX0_init_12 : decode cX0_init 12 = .ok (.aload_n 0, 1) := by decide +kernel
theorem dX0_init_13 : decode cX0_init 13 = .ok (.bipush 93, 2) := by decide +kernel
theorem dX0_init_15 : decode cX0_init 15 = .ok (.newarray .int, 2) := by decide +kernel
theorem dX0_init_17 : decode cX0_init 17 = .ok (.putfield 15, 3) := by decide +kernel
theorem dX0_init_20 : decode cX0_init 20 = .ok (.aload_n 0, 1) := by decide +kernel
theorem dX0_init_21 : decode cX0_init 21 = .ok (.bipush 93, 2) := by decide +kernel
theorem dX0_init_23 : decode cX0_init 23 = .ok (.newarray .int, 2) := by decide +kernel
theorem dX0_init_25 : decode cX0_init 25 = .ok (.putfield 19, 3) := by decide +kernel
theorem dX0_init_28 : decode cX0_init 28 = .ok (.aload_n 0, 1) := by decide +kernel
theorem dX0_init_29 : decode cX0_init 29 = .ok (.aload_n 1, 1) := by decide +kernel
theorem dX0_init_30 : decode cX0_init 30 = .ok (.putfield 22, 3) := by decide +kernel
theorem dX0_init_33 : decode cX0_init 33 = .ok (.iconst 0, 1) := by decide +kernel
theorem dX0_init_34 : decode cX0_init 34 = .ok (.istore_n 2, 1) := by decide +kernel
theorem dX0_init_35 : decode cX0_init 35 = .ok (.iload_n 2, 1) := by decide +kernel
theorem dX0_init_36 : decode cX0_init 36 = .ok (.bipush 93, 2) := by decide +kernel
theorem dX0_init_38 : decode cX0_init 38 = .ok (.if_icmp .ge 23, 3) := by decide +kernel
theorem dX0_init_41 : decode cX0_init 41 = .ok (.aload_n 0, 1) := by decide +kernel
theorem dX0_init_42 : decode cX0_init 42 = .ok (.getfield 15, 3) := by decide +kernel
theorem dX0_init_45 : decode cX0_init 45 = .ok (.iload_n 2, 1) := by decide +kernel
theorem dX0_init_46 : decode cX0_init 46 = .ok (.iconst (-1), 1) := by decide +kernel
theorem dX0_init_47 : decode cX0_init 47 = .ok (.iastore, 1) := by decide +kernel
theorem dX0_init_48 : decode cX0_init 48 = .ok (.aload_n 0, 1) := by decide +kernel
theorem dX0_init_49 : decode cX0_init 49 = .ok (.getfield 19, 3) := by decide +kernel
theorem dX0_init_52 : decode cX0_init 52 = .ok (.iload_n 2, 1) := by decide +kernel
theorem dX0_init_53 : decode cX0_init 53 = .ok (.iconst (-1), 1) := by decide +kernel
theorem dX0_init_54 : decode cX0_init 54 = .ok (.iastore, 1) := by decide +kernel
theorem dX0_init_55 : decode cX0_init 55 = .ok (.iinc 2 1, 3) := by decide +kernel
theorem dX0_init_58 : decode cX0_init 58 = .ok (.goto (-23), 3) := by decide +kernel
theorem dX0_init_61 : decode cX0_init 61 = .ok (.return_, 1) := by decide +kernel
theorem dX0_empty_0 : decode cX0_empty 0 = .ok (.iconst 0, 1) := by decide +kernel
theorem dX0_empty_1 : decode cX0_empty 1 = .ok (.istore_n 1, 1) := by decide +kernel
theorem dX0_empty_2 : decode cX0_empty 2 = .ok (.iload_n 1, 1) := by decide +kernel
theorem dX0_empty_3 : decode cX0_empty 3 = .ok (.bipush 93, 2) := by decide +kernel
theorem dX0_empty_5 : decode cX0_empty 5 = .ok (.if_icmp .ge 30, 3) := by decide +kernel
theorem dX0_empty_8 : decode cX0_empty 8 = .ok (.aload_n 0, 1) := by decide +kernel
theorem dX0_empty_9 : decode cX0_empty 9 = .ok (.getfield 9, 3) := by decide +kernel
theorem dX0_empty_12 : decode cX0_empty 12 = .ok (.iload_n 1, 1) := by decide +kernel
theorem dX0_empty_13 : decode cX0_empty 13 = .ok (.fconst 0, 1) := by decide +kernel
theorem dX0_empty_14 : decode cX0_empty 14 = .ok (.fastore, 1) := by decide +kernel
theorem dX0_empty_15 : decode cX0_empty 15 = .ok (.aload_n 0, 1) := by decide +kernel
theorem dX0_empty_16 : decode cX0_empty 16 = .ok (.getfield 15, 3) := by decide +kernel
theorem dX0_empty_19 : decode cX0_empty 19 = .ok (.iload_n 1, 1) := by decide +kernel
theorem dX0_empty_20 : decode cX0_empty 20 = .ok (.iconst (-1), 1) := by decide +kernel
theorem dX0_empty_21 : decode cX0_empty 21 = .ok (.iastore, 1) := by decide +kernel
theorem dX0_empty_22 : decode cX0_empty 22 = .ok (.aload_n 0, 1) := by decide +kernel
theorem dX0_empty_23 : decode cX0_empty 23 = .ok (.getfield 19, 3) := by decide +kernel
theorem dX0_empty_26 : decode cX0_empty 26 = .ok (.iload_n 1, 1) := by decide +kernel
theorem dX0_empty_27 : decode cX0_empty 27 = .ok (.iconst (-1), 1) := by decide +kernel
theorem dX0_empty_28 : decode cX0_empty 28 = .ok (.iastore, 1) := by decide +kernel
theorem dX0_empty_29 : decode cX0_empty 29 = .ok (.iinc 1 1, 3) := by decide +kernel
theorem dX0_empty_32 : decode cX0_empty 32 = .ok (.goto (-30), 3) := by decide +kernel
theorem dX0_empty_35 : decode cX0_empty 35 = .ok (.return_, 1) := by decide +kernel
theorem dX0_copy_0 : decode cX0_copy 0 = .ok (.iconst 0, 1) := by decide +kernel
theorem dX0_copy_1 : decode cX0_copy 1 = .ok (.istore_n 2, 1) := by decide +kernel
theorem dX0_copy_2 : decode cX0_copy 2 = .ok (.iload_n 2, 1) := by decide +kernel
theorem dX0_copy_3 : decode cX0_copy 3 = .ok (.bipush 93, 2) := by decide +kernel
theorem dX0_copy_5 : decode cX0_copy 5 = .ok (.if_icmp .ge 45, 3) := by decide +kernel
theorem dX0_copy_8 : decode cX0_copy 8 = .ok (.aload_n 0, 1) := by decide +kernel
theorem dX0_copy_9 : decode cX0_copy 9 = .ok (.getfield 9, 3) := by decide +kernel
theorem dX0_copy_12 : decode cX0_copy 12 = .ok (.iload_n 2, 1) := by decide +kernel
theorem dX0_copy_13 : decode cX0_copy 13 = .ok (.aload_n 1, 1) := by decide +kernel
theorem dX0_copy_14 : decode cX0_copy 14 = .ok (.getfield 9, 3) := by decide +kernel
theorem dX0_copy_17 : decode cX0_copy 17 = .ok (.iload_n 2, 1) := by decide +kernel
theorem dX0_copy_18 : decode cX0_copy 18 = .ok (.faload, 1) := by decide +kernel
theorem dX0_copy_19 : decode cX0_copy 19 = .ok (.fastore, 1) := by decide +kernel
theorem dX0_copy_20 : decode cX0_copy 20 = .ok (.aload_n 0, 1) := by decide +kernel
theorem dX0_copy_21 : decode cX0_copy 21 = .ok (.getfield 15, 3) := by decide +kernel
theorem dX0_copy_24 : decode cX0_copy 24 = .ok (.iload_n 2, 1) := by decide +kernel
theorem dX0_copy_25 : decode cX0_copy 25 = .ok (.aload_n 1, 1) := by decide +kernel
theorem dX0_copy_26 : decode cX0_copy 26 = .ok (.getfield 15, 3) := by decide +kernel
theorem dX0_copy_29 : decode cX0_copy 29 = .ok (.iload_n 2, 1) := by decide +kernel
theorem dX0_copy_30 : decode cX0_copy 30 = .ok (.iaload, 1) := by decide +kernel
theorem dX0_copy_31 : decode cX0_copy 31 = .ok (.iastore, 1) := by decide +kernel
theorem dX0_copy_32 : decode cX0_copy 32 = .ok (.aload_n 0, 1) := by decide +kernel
theorem dX0_copy_33 : decode cX0_copy 33 = .ok (.getfield 19, 3) := by decide +kernel
theorem dX0_copy_36 : decode cX0_copy 36 = .ok (.iload_n 2, 1) := by decide +kernel
theorem dX0_copy_37 : decode cX0_copy 37 = .ok (.aload_n 1, 1) := by decide +kernel
theorem dX0_copy_38 : decode cX0_copy 38 = .ok (.getfield 19, 3) := by decide +kernel
theorem dX0_copy_41 : decode cX0_copy 41 = .ok (.iload_n 2, 1) := by decide +kernel
theorem dX0_copy_42 : decode cX0_copy 42 = .ok (.iaload, 1) := by decide +kernel
theorem dX0_copy_43 : decode cX0_copy 43 = .ok (.iastore, 1) := by decide +kernel
theorem dX0_copy_44 : decode cX0_copy 44 = .ok (.iinc 2 1, 3) := by decide +kernel
theorem dX0_copy_47 : decode cX0_copy 47 = .ok (.goto (-45), 3) := by decide +kernel
theorem dX0_copy_50 : decode cX0_copy 50 = .ok (.return_, 1) := by decide +kernel
theorem dX0_take_0 : decode cX0_take 0 = .ok (.aload_n 0, 1) := by decide +kernel
theorem dX0_take_1 : decode cX0_take 1 = .ok (.getfield 22, 3) := by decide +kernel
theorem dX0_take_4 : decode cX0_take 4 = .ok (.iload_n 1, 1) := by decide +kernel
theorem dX0_take_5 : decode cX0_take 5 = .ok (.invokevirtual 26, 3) := by decide +kernel
theorem dX0_take_8 : decode cX0_take 8 = .ok (.istore_n 2, 1) := by decide +kernel
theorem dX0_take_9 : decode cX0_take 9 = .ok (.aload_n 0, 1) := by decide +kernel
theorem dX0_take_10 : decode cX0_take 10 = .ok (.getfield 22, 3) := by decide +kernel
theorem dX0_take_13 : decode cX0_take 13 = .ok (.iload_n 1, 1) := by decide +kernel
theorem dX0_take_14 : decode cX0_take 14 = .ok (.invokevirtual 32, 3) := by decide +kernel
theorem dX0_take_17 : decode cX0_take 17 = .ok (.istore_n 3, 1) := by decide +kernel
theorem dX0_take_18 : decode cX0_take 18 = .ok (.iload_n 3, 1) := by decide +kernel
theorem dX0_take_19 : decode cX0_take 19 = .ok (.iload_n 2, 1) := by decide +kernel
theorem dX0_take_20 : decode cX0_take 20 = .ok (.if_icmp .ge 98, 3) := by decide +kernel
theorem dX0_take_23 : decode cX0_take 23 = .ok (.aload_n 0, 1) := by decide +kernel
theorem dX0_take_24 : decode cX0_take 24 = .ok (.getfield 22, 3) := by decide +kernel
theorem dX0_take_27 : decode cX0_take 27 = .ok (.getfield 35, 3) := by decide +kernel
theorem dX0_take_30 : decode cX0_take 30 = .ok (.iload_n 3, 1) := by decide +kernel
theorem dX0_take_31 : decode cX0_take 31 = .ok (.iconst (-1), 1) := by decide +kernel
theorem dX0_take_32 : decode cX0_take 32 = .ok (.invokestatic 38, 3) := by decide +kernel
theorem dX0_take_35 : decode cX0_take 35 = .ok (.istore 4, 2) := by decide +kernel
theorem dX0_take_37 : decode cX0_take 37 = .ok (.iload 4, 2) := by decide +kernel
theorem dX0_take_39 : decode cX0_take 39 = .ok (.ifCond .lt 73, 3) := by decide +kernel
theorem dX0_take_42 : decode cX0_take 42 = .ok (.iload 4, 2) := by decide +kernel
theorem dX0_take_44 : decode cX0_take 44 = .ok (.bipush 93, 2) := by decide +kernel
theorem dX0_take_46 : decode cX0_take 46 = .ok (.if_icmp .ge 66, 3) := by decide +kernel
theorem dX0_take_49 : decode cX0_take 49 = .ok (.aload_n 0, 1) := by decide +kernel
theorem dX0_take_50 : decode cX0_take 50 = .ok (.getfield 22, 3) := by decide +kernel
theorem dX0_take_53 : decode cX0_take 53 = .ok (.iload_n 1, 1) := by decide +kernel
theorem dX0_take_54 : decode cX0_take 54 = .ok (.aload_n 0, 1) := by decide +kernel
theorem dX0_take_55 : decode cX0_take 55 = .ok (.getfield 19, 3) := by decide +kernel
theorem dX0_take_58 : decode cX0_take 58 = .ok (.iload 4, 2) := by decide +kernel
theorem dX0_take_60 : decode cX0_take 60 = .ok (.iaload, 1) := by decide +kernel
theorem dX0_take_61 : decode cX0_take 61 = .ok (.invokevirtual 42, 3) := by decide +kernel
theorem dX0_take_64 : decode cX0_take 64 = .ok (.ifCond .eq 48, 3) := by decide +kernel
theorem dX0_take_67 : decode cX0_take 67 = .ok (.aload_n 0, 1) := by decide +kernel
theorem dX0_take_68 : decode cX0_take 68 = .ok (.getfield 9, 3) := by decide +kernel
theorem dX0_take_71 : decode cX0_take 71 = .ok (.iload 4, 2) := by decide +kernel
theorem dX0_take_73 : decode cX0_take 73 = .ok (.aload_n 0, 1) := by decide +kernel
theorem dX0_take_74 : decode cX0_take 74 = .ok (.getfield 22, 3) := by decide +kernel
theorem dX0_take_77 : decode cX0_take 77 = .ok (.getfield 46, 3) := by decide +kernel
theorem dX0_take_80 : decode cX0_take 80 = .ok (.iload_n 3, 1) := by decide +kernel
theorem dX0_take_81 : decode cX0_take 81 = .ok (.invokestatic 47, 3) := by decide +kernel
theorem dX0_take_84 : decode cX0_take 84 = .ok (.fastore, 1) := by decide +kernel
theorem dX0_take_85 : decode cX0_take 85 = .ok (.aload_n 0, 1) := by decide +kernel
theorem dX0_take_86 : decode cX0_take 86 = .ok (.getfield 15, 3) := by decide +kernel
theorem dX0_take_89 : decode cX0_take 89 = .ok (.iload 4, 2) := by decide +kernel
theorem dX0_take_91 : decode cX0_take 91 = .ok (.aload_n 0, 1) := by decide +kernel
theorem dX0_take_92 : decode cX0_take 92 = .ok (.getfield 22, 3) := by decide +kernel
theorem dX0_take_95 : decode cX0_take 95 = .ok (.getfield 51, 3) := by decide +kernel
theorem dX0_take_98 : decode cX0_take 98 = .ok (.iload_n 3, 1) := by decide +kernel
theorem dX0_take_99 : decode cX0_take 99 = .ok (.iconst (-1), 1) := by decide +kernel
theorem dX0_take_100 : decode cX0_take 100 = .ok (.invokestatic 38, 3) := by decide +kernel
theorem dX0_take_103 : decode cX0_take 103 = .ok (.iastore, 1) := by decide +kernel
theorem dX0_take_104 : decode cX0_take 104 = .ok (.aload_n 0, 1) := by decide +kernel
theorem dX0_take_105 : decode cX0_take 105 = .ok (.getfield 19, 3) := by decide +kernel
theorem dX0_take_108 : decode cX0_take 108 = .ok (.iload 4, 2) := by decide +kernel
theorem dX0_take_110 : decode cX0_take 110 = .ok (.iload_n 1, 1) := by decide +kernel
theorem dX0_take_111 : decode cX0_take 111 = .ok (.iastore, 1) := by decide +kernel
theorem dX0_take_112 : decode cX0_take 112 = .ok (.iinc 3 1, 3) := by decide +kernel
theorem dX0_take_115 : decode cX0_take 115 = .ok (.goto (-97), 3) := by decide +kernel
theorem dX0_take_118 : decode cX0_take 118 = .ok (.return_, 1) := by decide +kernel
theorem dX0_valueAt_0 : decode cX0_valueAt 0 = .ok (.iload_n 1, 1) := by decide +kernel
theorem dX0_valueAt_1 : decode cX0_valueAt 1 = .ok (.ifCond .lt 18, 3) := by decide +kernel
theorem dX0_valueAt_4 : decode cX0_valueAt 4 = .ok (.iload_n 1, 1) := by decide +kernel
theorem dX0_valueAt_5 : decode cX0_valueAt 5 = .ok (.bipush 93, 2) := by decide +kernel
theorem dX0_valueAt_7 : decode cX0_valueAt 7 = .ok (.if_icmp .ge 12, 3) := by decide +kernel
theorem dX0_valueAt_10 : decode cX0_valueAt 10 = .ok (.aload_n 0, 1) := by decide +kernel
theorem dX0_valueAt_11 : decode cX0_valueAt 11 = .ok (.getfield 9, 3) := by decide +kernel
theorem dX0_valueAt_14 : decode cX0_valueAt 14 = .ok (.iload_n 1, 1) := by decide +kernel
theorem dX0_valueAt_15 : decode cX0_valueAt 15 = .ok (.faload, 1) := by decide +kernel
theorem dX0_valueAt_16 : decode cX0_valueAt 16 = .ok (.goto 4, 3) := by decide +kernel
theorem dX0_valueAt_19 : decode cX0_valueAt 19 = .ok (.fconst 0, 1) := by decide +kernel
theorem dX0_valueAt_20 : decode cX0_valueAt 20 = .ok (.freturn, 1) := by decide +kernel
theorem dX0_stemAt_0 : decode cX0_stemAt 0 = .ok (.iload_n 1, 1) := by decide +kernel
theorem dX0_stemAt_1 : decode cX0_stemAt 1 = .ok (.ifCond .lt 18, 3) := by decide +kernel
theorem dX0_stemAt_4 : decode cX0_stemAt 4 = .ok (.iload_n 1, 1) := by decide +kernel
theorem dX0_stemAt_5 : decode cX0_stemAt 5 = .ok (.bipush 93, 2) := by decide +kernel
theorem dX0_stemAt_7 : decode cX0_stemAt 7 = .ok (.if_icmp .ge 12, 3) := by decide +kernel
theorem dX0_stemAt_10 : decode cX0_stemAt 10 = .ok (.aload_n 0, 1) := by decide +kernel
theorem dX0_stemAt_11 : decode cX0_stemAt 11 = .ok (.getfield 15, 3) := by decide +kernel
theorem dX0_stemAt_14 : decode cX0_stemAt 14 = .ok (.iload_n 1, 1) := by decide +kernel
theorem dX0_stemAt_15 : decode cX0_stemAt 15 = .ok (.iaload, 1) := by decide +kernel
theorem dX0_stemAt_16 : decode cX0_stemAt 16 = .ok (.goto 4, 3) := by decide +kernel
theorem dX0_stemAt_19 : decode cX0_stemAt 19 = .ok (.iconst (-1), 1) := by decide +kernel
theorem dX0_stemAt_20 : decode cX0_stemAt 20 = .ok (.ireturn, 1) := by decide +kernel
theorem dX0_hasSameValues_0 : decode cX0_hasSameValues 0 = .ok (.iconst 0, 1) := by decide +kernel
theorem dX0_hasSameValues_1 : decode cX0_hasSameValues 1 = .ok (.istore_n 2, 1) := by decide +kernel
theorem dX0_hasSameValues_2 : decode cX0_hasSameValues 2 = .ok (.iload_n 2, 1) := by decide +kernel
theorem dX0_hasSameValues_3 : decode cX0_hasSameValues 3 = .ok (.bipush 93, 2) := by decide +kernel
theorem dX0_hasSameValues_5 : decode cX0_hasSameValues 5 = .ok (.if_icmp .ge 29, 3) := by decide +kernel
theorem dX0_hasSameValues_8 : decode cX0_hasSameValues 8 = .ok (.aload_n 0, 1) := by decide +kernel
theorem dX0_hasSameValues_9 : decode cX0_hasSameValues 9 = .ok (.getfield 9, 3) := by decide +kernel
theorem dX0_hasSameValues_12 : decode cX0_hasSameValues 12 = .ok (.iload_n 2, 1) := by decide +kernel
theorem dX0_hasSameValues_13 : decode cX0_hasSameValues 13 = .ok (.faload, 1) := by decide +kernel
theorem dX0_hasSameValues_14 : decode cX0_hasSameValues 14 = .ok (.aload_n 1, 1) := by decide +kernel
theorem dX0_hasSameValues_15 : decode cX0_hasSameValues 15 = .ok (.getfield 9, 3) := by decide +kernel
theorem dX0_hasSameValues_18 : decode cX0_hasSameValues 18 = .ok (.iload_n 2, 1) := by decide +kernel
theorem dX0_hasSameValues_19 : decode cX0_hasSameValues 19 = .ok (.faload, 1) := by decide +kernel
theorem dX0_hasSameValues_20 : decode cX0_hasSameValues 20 = .ok (.invokestatic 52, 3) := by decide +kernel
theorem dX0_hasSameValues_23 : decode cX0_hasSameValues 23 = .ok (.ifCond .ne 5, 3) := by decide +kernel
theorem dX0_hasSameValues_26 : decode cX0_hasSameValues 26 = .ok (.iconst 0, 1) := by decide +kernel
theorem dX0_hasSameValues_27 : decode cX0_hasSameValues 27 = .ok (.ireturn, 1) := by decide +kernel
theorem dX0_hasSameValues_28 : decode cX0_hasSameValues 28 = .ok (.iinc 2 1, 3) := by decide +kernel
theorem dX0_hasSameValues_31 : decode cX0_hasSameValues 31 = .ok (.goto (-29), 3) := by decide +kernel
theorem dX0_hasSameValues_34 : decode cX0_hasSameValues 34 = .ok (.iconst 1, 1) := by decide +kernel
theorem dX0_hasSameValues_35 : decode cX0_hasSameValues 35 = .ok (.ireturn, 1) := by decide +kernel
theorem dX1_init_0 : decode cX1_init 0 = .ok (.aload_n 0, 1) := by decide +kernel
theorem dX1_init_1 : decode cX1_init 1 = .ok (.invokespecial 3, 3) := by decide +kernel
theorem dX1_init_4 : decode cX1_init 4 = .ok (.aload_n 0, 1) := by decide +kernel
theorem dX1_init_5 : decode cX1_init 5 = .ok (.sipush 250, 3) := by decide +kernel
theorem dX1_init_8 : decode cX1_init 8 = .ok (.newarray .int, 2) := by decide +kernel
theorem dX1_init_10 : decode cX1_init 10 = .ok (.putfield 9, 3) := by decide +kernel
theorem dX1_init_13 : decode cX1_init 13 = .ok (.aload_n 0, 1) := by decide +kernel
theorem dX1_init_14 : decode cX1_init 14 = .ok (.sipush 250, 3) := by decide +kernel
theorem dX1_init_17 : decode cX1_init 17 = .ok (.newarray .int, 2) := by decide +kernel
theorem dX1_init_19 : decode cX1_init 19 = .ok (.putfield 15, 3) := by decide +kernel
theorem dX1_init_22 : decode cX1_init 22 = .ok (.aload_n 0, 1) := by decide +kernel
theorem dX1_init_23 : decode cX1_init 23 = .ok (.sipush 250, 3) := by decide +kernel
theorem dX1_init_26 : decode cX1_init 26 = .ok (.newarray .boolean, 2) := by decide +kernel
theorem dX1_init_28 : decode cX1_init 28 = .ok (.putfield 18, 3) := by decide +kernel
theorem dX1_init_31 : decode cX1_init 31 = .ok (.aload_n 0, 1) := by decide +kernel
theorem dX1_init_32 : decode cX1_init 32 = .ok (.sipush 250, 3) := by decide +kernel
theorem dX1_init_35 : decode cX1_init 35 = .ok (.newarray .int, 2) := by decide +kernel
theorem dX1_init_37 : decode cX1_init 37 = .ok (.putfield 22, 3) := by decide +kernel
theorem dX1_init_40 : decode cX1_init 40 = .ok (.aload_n 0, 1) := by decide +kernel
theorem dX1_init_41 : decode cX1_init 41 = .ok (.sipush 250, 3) := by decide +kernel
theorem dX1_init_44 : decode cX1_init 44 = .ok (.newarray .int, 2) := by decide +kernel
theorem dX1_init_46 : decode cX1_init 46 = .ok (.putfield 25, 3) := by decide +kernel
theorem dX1_init_49 : decode cX1_init 49 = .ok (.aload_n 0, 1) := by decide +kernel
theorem dX1_init_50 : decode cX1_init 50 = .ok (.sipush 250, 3) := by decide +kernel
theorem dX1_init_53 : decode cX1_init 53 = .ok (.newarray .int, 2) := by decide +kernel
theorem dX1_init_55 : decode cX1_init 55 = .ok (.putfield 28, 3) := by decide +kernel
theorem dX1_init_58 : decode cX1_init 58 = .ok (.aload_n 0, 1) := by decide +kernel
theorem dX1_init_59 : decode cX1_init 59 = .ok (.sipush 3000, 3) := by decide +kernel
theorem dX1_init_62 : decode cX1_init 62 = .ok (.newarray .int, 2) := by decide +kernel
theorem dX1_init_64 : decode cX1_init 64 = .ok (.putfield 31, 3) := by decide +kernel
theorem dX1_init_67 : decode cX1_init 67 = .ok (.aload_n 0, 1) := by decide +kernel
theorem dX1_init_68 : decode cX1_init 68 = .ok (.sipush 3000, 3) := by decide +kernel
theorem dX1_init_71 : decode cX1_init 71 = .ok (.newarray .float, 2) := by decide +kernel
theorem dX1_init_73 : decode cX1_init 73 = .ok (.putfield 34, 3) := by decide +kernel
theorem dX1_init_76 : decode cX1_init 76 = .ok (.aload_n 0, 1) := by decide +kernel
theorem dX1_init_77 : decode cX1_init 77 = .ok (.sipush 3000, 3) := by decide +kernel
theorem dX1_init_80 : decode cX1_init 80 = .ok (.newarray .int, 2) := by decide +kernel
theorem dX1_init_82 : decode cX1_init 82 = .ok (.putfield 38, 3) := by decide +kernel
theorem dX1_init_85 : decode cX1_init 85 = .ok (.aload_n 0, 1) := by decide +kernel
theorem dX1_init_86 : decode cX1_init 86 = .ok (.sipush 3000, 3) := by decide +kernel
theorem dX1_init_89 : decode cX1_init 89 = .ok (.newarray .float, 2) := by decide +kernel
theorem dX1_init_91 : decode cX1_init 91 = .ok (.putfield 41, 3) := by decide +kernel
theorem dX1_init_94 : decode cX1_init 94 = .ok (.aload_n 0, 1) := by decide +kernel
theorem dX1_init_95 : decode cX1_init 95 = .ok (.sipush 3000, 3) := by decide +kernel
theorem dX1_init_98 : decode cX1_init 98 = .ok (.newarray .int, 2) := by decide +kernel
theorem dX1_init_100 : decode cX1_init 100 = .ok (.putfield 44, 3) := by decide +kernel
theorem dX1_init_103 : decode cX1_init 103 = .ok (.return_, 1) := by decide +kernel
theorem dX1_isFull_0 : decode cX1_isFull 0 = .ok (.aload_n 0, 1) := by decide +kernel
theorem dX1_isFull_1 : decode cX1_isFull 1 = .ok (.getfield 47, 3) := by decide +kernel
theorem dX1_isFull_4 : decode cX1_isFull 4 = .ok (.sipush 250, 3) := by decide +kernel
theorem dX1_isFull_7 : decode cX1_isFull 7 = .ok (.if_icmp .lt 7, 3) := by decide +kernel
theorem dX1_isFull_10 : decode cX1_isFull 10 = .ok (.iconst 1, 1) := by decide +kernel
theorem dX1_isFull_11 : decode cX1_isFull 11 = .ok (.goto 4, 3) := by decide +kernel
theorem dX1_isFull_14 : decode cX1_isFull 14 = .ok (.iconst 0, 1) := by decide +kernel
theorem dX1_isFull_15 : decode cX1_isFull 15 = .ok (.ireturn, 1) := by decide +kernel
theorem dX1_open_0 : decode cX1_open 0 = .ok (.aload_n 0, 1) := by decide +kernel
theorem dX1_open_1 : decode cX1_open 1 = .ok (.getfield 47, 3) := by decide +kernel
theorem dX1_open_4 : decode cX1_open 4 = .ok (.istore 4, 2) := by decide +kernel
theorem dX1_open_6 : decode cX1_open 6 = .ok (.iload 4, 2) := by decide +kernel
theorem dX1_open_8 : decode cX1_open 8 = .ok (.ifCond .lt 11, 3) := by decide +kernel
theorem dX1_open_11 : decode cX1_open 11 = .ok (.iload 4, 2) := by decide +kernel
theorem dX1_open_13 : decode cX1_open 13 = .ok (.sipush 250, 3) := by decide +kernel
theorem dX1_open_16 : decode cX1_open 16 = .ok (.if_icmp .lt 5, 3) := by decide +kernel
theorem dX1_open_19 : decode cX1_open 19 = .ok (.iconst (-1), 1) := by decide +kernel
theorem dX1_open_20 : decode cX1_open 20 = .ok (.ireturn, 1) := by decide +kernel
theorem dX1_open_21 : decode cX1_open 21 = .ok (.aload_n 0, 1) := by decide +kernel
theorem dX1_open_22 : decode cX1_open 22 = .ok (.getfield 9, 3) := by decide +kernel
theorem dX1_open_25 : decode cX1_open 25 = .ok (.iload 4, 2) := by decide +kernel
theorem dX1_open_27 : decode cX1_open 27 = .ok (.iload_n 1, 1) := by decide +kernel
theorem dX1_open_28 : decode cX1_open 28 = .ok (.iastore, 1) := by decide +kernel
theorem dX1_open_29 : decode cX1_open 29 = .ok (.aload_n 0, 1) := by decide +kernel
theorem dX1_open_30 : decode cX1_open 30 = .ok (.getfield 15, 3) := by decide +kernel
theorem dX1_open_33 : decode cX1_open 33 = .ok (.iload 4, 2) := by decide +kernel
theorem dX1_open_35 : decode cX1_open 35 = .ok (.iload_n 2, 1) := by decide +kernel
theorem dX1_open_36 : decode cX1_open 36 = .ok (.iastore, 1) := by decide +kernel
theorem dX1_open_37 : decode cX1_open 37 = .ok (.aload_n 0, 1) := by decide +kernel
theorem dX1_open_38 : decode cX1_open 38 = .ok (.getfield 18, 3) := by decide +kernel
theorem dX1_open_41 : decode cX1_open 41 = .ok (.iload 4, 2) := by decide +kernel
theorem dX1_open_43 : decode cX1_open 43 = .ok (.iload_n 3, 1) := by decide +kernel
theorem dX1_open_44 : decode cX1_open 44 = .ok (.bastore, 1) := by decide +kernel
theorem dX1_open_45 : decode cX1_open 45 = .ok (.aload_n 0, 1) := by decide +kernel
theorem dX1_open_46 : decode cX1_open 46 = .ok (.getfield 22, 3) := by decide +kernel
theorem dX1_open_49 : decode cX1_open 49 = .ok (.iload 4, 2) := by decide +kernel
theorem dX1_open_51 : decode cX1_open 51 = .ok (.aload_n 0, 1) := by decide +kernel
theorem dX1_open_52 : decode cX1_open 52 = .ok (.getfield 51, 3) := by decide +kernel
theorem dX1_open_55 : decode cX1_open 55 = .ok (.iastore, 1) := by decide +kernel
theorem dX1_open_56 : decode cX1_open 56 = .ok (.aload_n 0, 1) := by decide +kernel
theorem dX1_open_57 : decode cX1_open 57 = .ok (.getfield 25, 3) := by decide +kernel
theorem dX1_open_60 : decode cX1_open 60 = .ok (.iload 4, 2) := by decide +kernel
theorem dX1_open_62 : decode cX1_open 62 = .ok (.aload_n 0, 1) := by decide +kernel
theorem dX1_open_63 : decode cX1_open 63 = .ok (.getfield 51, 3) := by decide +kernel
theorem dX1_open_66 : decode cX1_open 66 = .ok (.iastore, 1) := by decide +kernel
theorem dX1_open_67 : decode cX1_open 67 = .ok (.aload_n 0, 1) := by decide +kernel
theorem dX1_open_68 : decode cX1_open 68 = .ok (.dup, 1) := by decide +kernel
theorem dX1_open_69 : decode cX1_open 69 = .ok (.getfield 47, 3) := by decide +kernel
theorem dX1_open_72 : decode cX1_open 72 = .ok (.iconst 1, 1) := by decide +kernel
theorem dX1_open_73 : decode cX1_open 73 = .ok (.iadd, 1) := by decide +kernel
theorem dX1_open_74 : decode cX1_open 74 = .ok (.putfield 47, 3) := by decide +kernel
theorem dX1_open_77 : decode cX1_open 77 = .ok (.aload_n 0, 1) := by decide +kernel
theorem dX1_open_78 : decode cX1_open 78 = .ok (.iload 4, 2) := by decide +kernel
theorem dX1_open_80 : decode cX1_open 80 = .ok (.invokevirtual 54, 3) := by decide +kernel
theorem dX1_open_83 : decode cX1_open 83 = .ok (.iload 4, 2) := by decide +kernel
theorem dX1_open_85 : decode cX1_open 85 = .ok (.ireturn, 1) := by decide +kernel
theorem dX1_fileByTime_0 : decode cX1_fileByTime 0 = .ok (.aload_n 0, 1) := by decide +kernel
theorem dX1_fileByTime_1 : decode cX1_fileByTime 1 = .ok (.getfield 47, 3) := by decide +kernel
theorem dX1_fileByTime_4 : decode cX1_fileByTime 4 = .ok (.iconst 1, 1) := by decide +kernel
theorem dX1_fileByTime_5 : decode cX1_fileByTime 5 = .ok (.isub, 1) := by decide +kernel
theorem dX1_fileByTime_6 : decode cX1_fileByTime 6 = .ok (.istore_n 2, 1) := by decide +kernel
theorem dX1_fileByTime_7 : decode cX1_fileByTime 7 = .ok (.aload_n 0, 1) := by decide +kernel
theorem dX1_fileByTime_8 : decode cX1_fileByTime 8 = .ok (.getfield 47, 3) := by decide +kernel
theorem dX1_fileByTime_11 : decode cX1_fileByTime 11 = .ok (.iconst 2, 1) := by decide +kernel
theorem dX1_fileByTime_12 : decode cX1_fileByTime 12 = .ok (.isub, 1) := by decide +kernel
theorem dX1_fileByTime_13 : decode cX1_fileByTime 13 = .ok (.istore_n 3, 1) := by decide +kernel
theorem dX1_fileByTime_14 : decode cX1_fileByTime 14 = .ok (.iload_n 3, 1) := by decide +kernel
theorem dX1_fileByTime_15 : decode cX1_fileByTime 15 = .ok (.ifCond .lt 51, 3) := by decide +kernel
theorem dX1_fileByTime_18 : decode cX1_fileByTime 18 = .ok (.iload_n 3, 1) := by decide +kernel
theorem dX1_fileByTime_19 : decode cX1_fileByTime 19 = .ok (.iconst 1, 1) := by decide +kernel
theorem dX1_fileByTime_20 : decode cX1_fileByTime 20 = .ok (.iadd, 1) := by decide +kernel
theorem dX1_fileByTime_21 : decode cX1_fileByTime 21 = .ok (.sipush 250, 3) := by decide +kernel
theorem dX1_fileByTime_24 : decode cX1_fileByTime 24 = .ok (.if_icmp .ge 42, 3) := by decide +kernel
theorem dX1_fileByTime_27 : decode cX1_fileByTime 27 = .ok (.aload_n 0, 1) := by decide +kernel
theorem dX1_fileByTime_28 : decode cX1_fileByTime 28 = .ok (.aload_n 0, 1) := by decide +kernel
theorem dX1_fileByTime_29 : decode cX1_fileByTime 29 = .ok (.getfield 28, 3) := by decide +kernel
theorem dX1_fileByTime_32 : decode cX1_fileByTime 32 = .ok (.iload_n 3, 1) := by decide +kernel
theorem dX1_fileByTime_33 : decode cX1_fileByTime 33 = .ok (.iaload, 1) := by decide +kernel
theorem dX1_fileByTime_34 : decode cX1_fileByTime 34 = .ok (.iload_n 1, 1) := by decide +kernel
theorem dX1_fileByTime_35 : decode cX1_fileByTime 35 = .ok (.invokevirtual 58, 3) := by decide +kernel
theorem dX1_fileByTime_38 : decode cX1_fileByTime 38 = .ok (.ifCond .ne 6, 3) := by decide +kernel
theorem dX1_fileByTime_41 : decode cX1_fileByTime 41 = .ok (.goto 25, 3) := by decide +kernel
theorem dX1_fileByTime_44 : decode cX1_fileByTime 44 = .ok (.aload_n 0, 1) := by decide +kernel
theorem dX1_fileByTime_45 : decode cX1_fileByTime 45 = .ok (.getfield 28, 3) := by decide +kernel
theorem dX1_fileByTime_48 : decode cX1_fileByTime 48 = .ok (.iload_n 3, 1) := by decide +kernel
theorem dX1_fileByTime_49 : decode cX1_fileByTime 49 = .ok (.iconst 1, 1) := by decide +kernel
theorem dX1_fileByTime_50 : decode cX1_fileByTime 50 = .ok (.iadd, 1) := by decide +kernel
theorem dX1_fileByTime_51 : decode cX1_fileByTime 51 = .ok (.aload_n 0, 1) := by decide +kernel
theorem dX1_fileByTime_52 : decode cX1_fileByTime 52 = .ok (.getfield 28, 3) := by decide +kernel
theorem dX1_fileByTime_55 : decode cX1_fileByTime 55 = .ok (.iload_n 3, 1) := by decide +kernel
theorem dX1_fileByTime_56 : decode cX1_fileByTime 56 = .ok (.iaload, 1) := by decide +kernel
theorem dX1_fileByTime_57 : decode cX1_fileByTime 57 = .ok (.iastore, 1) := by decide +kernel
theorem dX1_fileByTime_58 : decode cX1_fileByTime 58 = .ok (.iload_n 3, 1) := by decide +kernel
theorem dX1_fileByTime_59 : decode cX1_fileByTime 59 = .ok (.istore_n 2, 1) := by decide +kernel
theorem dX1_fileByTime_60 : decode cX1_fileByTime 60 = .ok (.iinc 3 (-1), 3) := by decide +kernel
theorem dX1_fileByTime_63 : decode cX1_fileByTime 63 = .ok (.goto (-49), 3) := by decide +kernel
theorem dX1_fileByTime_66 : decode cX1_fileByTime 66 = .ok (.iload_n 2, 1) := by decide +kernel
theorem dX1_fileByTime_67 : decode cX1_fileByTime 67 = .ok (.ifCond .lt 17, 3) := by decide +kernel
theorem dX1_fileByTime_70 : decode cX1_fileByTime 70 = .ok (.iload_n 2, 1) := by decide +kernel
theorem dX1_fileByTime_71 : decode cX1_fileByTime 71 = .ok (.sipush 250, 3) := by decide +kernel
theorem dX1_fileByTime_74 : decode cX1_fileByTime 74 = .ok (.if_icmp .ge 10, 3) := by decide +kernel
theorem dX1_fileByTime_77 : decode cX1_fileByTime 77 = .ok (.aload_n 0, 1) := by decide +kernel
theorem dX1_fileByTime_78 : decode cX1_fileByTime 78 = .ok (.getfield 28, 3) := by decide +kernel
theorem dX1_fileByTime_81 : decode cX1_fileByTime 81 = .ok (.iload_n 2, 1) := by decide +kernel
theorem dX1_fileByTime_82 : decode cX1_fileByTime 82 = .ok (.iload_n 1, 1) := by decide +kernel
theorem dX1_fileByTime_83 : decode cX1_fileByTime 83 = .ok (.iastore, 1) := by decide +kernel
theorem dX1_fileByTime_84 : decode cX1_fileByTime 84 = .ok (.return_, 1) := by decide +kernel
theorem dX1_add_0 : decode cX1_add 0 = .ok (.aload_n 0, 1) := by decide +kernel
theorem dX1_add_1 : decode cX1_add 1 = .ok (.getfield 47, 3) := by decide +kernel
theorem dX1_add_4 : decode cX1_add 4 = .ok (.iconst 1, 1) := by decide +kernel
theorem dX1_add_5 : decode cX1_add 5 = .ok (.isub, 1) := by decide +kernel
theorem dX1_add_6 : decode cX1_add 6 = .ok (.istore 4, 2) := by decide +kernel
theorem dX1_add_8 : decode cX1_add 8 = .ok (.aload_n 0, 1) := by decide +kernel
theorem dX1_add_9 : decode cX1_add 9 = .ok (.getfield 51, 3) := by decide +kernel
theorem dX1_add_12 : decode cX1_add 12 = .ok (.ifCond .lt 77, 3) := by decide +kernel
theorem dX1_add_15 : decode cX1_add 15 = .ok (.aload_n 0, 1) := by decide +kernel
theorem dX1_add_16 : decode cX1_add 16 = .ok (.getfield 51, 3) := by decide +kernel
theorem dX1_add_19 : decode cX1_add 19 = .ok (.sipush 3000, 3) := by decide +kernel
theorem dX1_add_22 : decode cX1_add 22 = .ok (.if_icmp .ge 67, 3) := by decide +kernel
theorem dX1_add_25 : decode cX1_add 25 = .ok (.iload 4, 2) := by decide +kernel
theorem dX1_add_27 : decode cX1_add 27 = .ok (.ifCond .lt 62, 3) := by decide +kernel
theorem dX1_add_30 : decode cX1_add 30 = .ok (.iload 4, 2) := by decide +kernel
theorem dX1_add_32 : decode cX1_add 32 = .ok (.sipush 250, 3) := by decide +kernel
theorem dX1_add_35 : decode cX1_add 35 = .ok (.if_icmp .ge 54, 3) := by decide +kernel
theorem dX1_add_38 : decode cX1_add 38 = .ok (.aload_n 0, 1) := by decide +kernel
theorem dX1_add_39 : decode cX1_add 39 = .ok (.getfield 31, 3) := by decide +kernel
theorem dX1_add_42 : decode cX1_add 42 = .ok (.aload_n 0, 1) := by decide +kernel
theorem dX1_add_43 : decode cX1_add 43 = .ok (.getfield 51, 3) := by decide +kernel
theorem dX1_add_46 : decode cX1_add 46 = .ok (.iload_n 1, 1) := by decide +kernel
theorem dX1_add_47 : decode cX1_add 47 = .ok (.iastore, 1) := by decide +kernel
theorem dX1_add_48 : decode cX1_add 48 = .ok (.aload_n 0, 1) := by decide +kernel
theorem dX1_add_49 : decode cX1_add 49 = .ok (.getfield 34, 3) := by decide +kernel
theorem dX1_add_52 : decode cX1_add 52 = .ok (.aload_n 0, 1) := by decide +kernel
theorem dX1_add_53 : decode cX1_add 53 = .ok (.getfield 51, 3) := by decide +kernel
theorem dX1_add_56 : decode cX1_add 56 = .ok (.fload_n 2, 1) := by decide +kernel
theorem dX1_add_57 : decode cX1_add 57 = .ok (.fastore, 1) := by decide +kernel
theorem dX1_add_58 : decode cX1_add 58 = .ok (.aload_n 0, 1) := by decide +kernel
theorem dX1_add_59 : decode cX1_add 59 = .ok (.getfield 38, 3) := by decide +kernel
theorem dX1_add_62 : decode cX1_add 62 = .ok (.aload_n 0, 1) := by decide +kernel
theorem dX1_add_63 : decode cX1_add 63 = .ok (.getfield 51, 3) := by decide +kernel
theorem dX1_add_66 : decode cX1_add 66 = .ok (.iload_n 3, 1) := by decide +kernel
theorem dX1_add_67 : decode cX1_add 67 = .ok (.iastore, 1) := by decide +kernel
theorem dX1_add_68 : decode cX1_add 68 = .ok (.aload_n 0, 1) := by decide +kernel
theorem dX1_add_69 : decode cX1_add 69 = .ok (.dup, 1) := by decide +kernel
theorem dX1_add_70 : decode cX1_add 70 = .ok (.getfield 51, 3) := by decide +kernel
theorem dX1_add_73 : decode cX1_add 73 = .ok (.iconst 1, 1) := by decide +kernel
theorem dX1_add_74 : decode cX1_add 74 = .ok (.iadd, 1) := by decide +kernel
theorem dX1_add_75 : decode cX1_add 75 = .ok (.putfield 51, 3) := by decide +kernel
theorem dX1_add_78 : decode cX1_add 78 = .ok (.aload_n 0, 1) := by decide +kernel
theorem dX1_add_79 : decode cX1_add 79 = .ok (.getfield 25, 3) := by decide +kernel
theorem dX1_add_82 : decode cX1_add 82 = .ok (.iload 4, 2) := by decide +kernel
theorem dX1_add_84 : decode cX1_add 84 = .ok (.aload_n 0, 1) := by decide +kernel
theorem dX1_add_85 : decode cX1_add 85 = .ok (.getfield 51, 3) := by decide +kernel
theorem dX1_add_88 : decode cX1_add 88 = .ok (.iastore, 1) := by decide +kernel
theorem dX1_add_89 : decode cX1_add 89 = .ok (.return_, 1) := by decide +kernel
theorem dX1_remember_0 : decode cX1_remember 0 = .ok (.aload_n 0, 1) := by decide +kernel
theorem dX1_remember_1 : decode cX1_remember 1 = .ok (.getfield 51, 3) := by decide +kernel
theorem dX1_remember_4 : decode cX1_remember 4 = .ok (.iconst 1, 1) := by decide +kernel
theorem dX1_remember_5 : decode cX1_remember 5 = .ok (.isub, 1) := by decide +kernel
theorem dX1_remember_6 : decode cX1_remember 6 = .ok (.istore_n 3, 1) := by decide +kernel
theorem dX1_remember_7 : decode cX1_remember 7 = .ok (.iload_n 3, 1) := by decide +kernel
theorem dX1_remember_8 : decode cX1_remember 8 = .ok (.ifCond .lt 24, 3) := by decide +kernel
theorem dX1_remember_11 : decode cX1_remember 11 = .ok (.iload_n 3, 1) := by decide +kernel
theorem dX1_remember_12 : decode cX1_remember 12 = .ok (.sipush 3000, 3) := by decide +kernel
theorem dX1_remember_15 : decode cX1_remember 15 = .ok (.if_icmp .ge 17, 3) := by decide +kernel
theorem dX1_remember_18 : decode cX1_remember 18 = .ok (.aload_n 0, 1) := by decide +kernel
theorem dX1_remember_19 : decode cX1_remember 19 = .ok (.getfield 41, 3) := by decide +kernel
theorem dX1_remember_22 : decode cX1_remember 22 = .ok (.iload_n 3, 1) := by decide +kernel
theorem dX1_remember_23 : decode cX1_remember 23 = .ok (.fload_n 1, 1) := by decide +kernel
theorem dX1_remember_24 : decode cX1_remember 24 = .ok (.fastore, 1) := by decide +kernel
theorem dX1_remember_25 : decode cX1_remember 25 = .ok (.aload_n 0, 1) := by decide +kernel
theorem dX1_remember_26 : decode cX1_remember 26 = .ok (.getfield 44, 3) := by decide +kernel
theorem dX1_remember_29 : decode cX1_remember 29 = .ok (.iload_n 3, 1) := by decide +kernel
theorem dX1_remember_30 : decode cX1_remember 30 = .ok (.iload_n 2, 1) := by decide +kernel
theorem dX1_remember_31 : decode cX1_remember 31 = .ok (.iastore, 1) := by decide +kernel
theorem dX1_remember_32 : decode cX1_remember 32 = .ok (.return_, 1) := by decide +kernel
theorem dX1_isLater_0 : decode cX1_isLater 0 = .ok (.iload_n 1, 1) := by decide +kernel
theorem dX1_isLater_1 : decode cX1_isLater 1 = .ok (.ifCond .lt 10, 3) := by decide +kernel
theorem dX1_isLater_4 : decode cX1_isLater 4 = .ok (.iload_n 1, 1) := by decide +kernel
theorem dX1_isLater_5 : decode cX1_isLater 5 = .ok (.sipush 250, 3) := by decide +kernel
theorem dX1_isLater_8 : decode cX1_isLater 8 = .ok (.if_icmp .lt 5, 3) := by decide +kernel
theorem dX1_isLater_11 : decode cX1_isLater 11 = .ok (.iconst 0, 1) := by decide +kernel
theorem dX1_isLater_12 : decode cX1_isLater 12 = .ok (.ireturn, 1) := by decide +kernel
theorem dX1_isLater_13 : decode cX1_isLater 13 = .ok (.iload_n 2, 1) := by decide +kernel
theorem dX1_isLater_14 : decode cX1_isLater 14 = .ok (.ifCond .lt 10, 3) := by decide +kernel
theorem dX1_isLater_17 : decode cX1_isLater 17 = .ok (.iload_n 2, 1) := by decide +kernel
theorem dX1_isLater_18 : decode cX1_isLater 18 = .ok (.sipush 250, 3) := by decide +kernel
theorem dX1_isLater_21 : decode cX1_isLater 21 = .ok (.if_icmp .lt 5, 3) := by decide +kernel
theorem dX1_isLater_24 : decode cX1_isLater 24 = .ok (.iconst 1, 1) := by decide +kernel
theorem dX1_isLater_25 : decode cX1_isLater 25 = .ok (.ireturn, 1) := by decide +kernel
theorem dX1_isLater_26 : decode cX1_isLater 26 = .ok (.aload_n 0, 1) := by decide +kernel
theorem dX1_isLater_27 : decode cX1_isLater 27 = .ok (.getfield 15, 3) := by decide +kernel
theorem dX1_isLater_30 : decode cX1_isLater 30 = .ok (.iload_n 1, 1) := by decide +kernel
theorem dX1_isLater_31 : decode cX1_isLater 31 = .ok (.iaload, 1) := by decide +kernel
theorem dX1_isLater_32 : decode cX1_isLater 32 = .ok (.aload_n 0, 1) := by decide +kernel
theorem dX1_isLater_33 : decode cX1_isLater 33 = .ok (.getfield 15, 3) := by decide +kernel
theorem dX1_isLater_36 : decode cX1_isLater 36 = .ok (.iload_n 2, 1) := by decide +kernel
theorem dX1_isLater_37 : decode cX1_isLater 37 = .ok (.iaload, 1) := by decide +kernel
theorem dX1_isLater_38 : decode cX1_isLater 38 = .ok (.isub, 1) := by decide +kernel
theorem dX1_isLater_39 : decode cX1_isLater 39 = .ok (.istore_n 3, 1) := by decide +kernel
theorem dX1_isLater_40 : decode cX1_isLater 40 = .ok (.iload_n 3, 1) := by decide +kernel
theorem dX1_isLater_41 : decode cX1_isLater 41 = .ok (.ifCond .gt 22, 3) := by decide +kernel
theorem dX1_isLater_44 : decode cX1_isLater 44 = .ok (.iload_n 3, 1) := by decide +kernel
theorem dX1_isLater_45 : decode cX1_isLater 45 = .ok (.ifCond .ne 22, 3) := by decide +kernel
theorem dX1_isLater_48 : decode cX1_isLater 48 = .ok (.aload_n 0, 1) := by decide +kernel
theorem dX1_isLater_49 : decode cX1_isLater 49 = .ok (.getfield 9, 3) := by decide +kernel
theorem dX1_isLater_52 : decode cX1_isLater 52 = .ok (.iload_n 1, 1) := by decide +kernel
theorem dX1_isLater_53 : decode cX1_isLater 53 = .ok (.iaload, 1) := by decide +kernel
theorem dX1_isLater_54 : decode cX1_isLater 54 = .ok (.aload_n 0, 1) := by decide +kernel
theorem dX1_isLater_55 : decode cX1_isLater 55 = .ok (.getfield 9, 3) := by decide +kernel
theorem dX1_isLater_58 : decode cX1_isLater 58 = .ok (.iload_n 2, 1) := by decide +kernel
theorem dX1_isLater_59 : decode cX1_isLater 59 = .ok (.iaload, 1) := by decide +kernel
theorem dX1_isLater_60 : decode cX1_isLater 60 = .ok (.if_icmp .le 7, 3) := by decide +kernel
theorem dX1_isLater_63 : decode cX1_isLater 63 = .ok (.iconst 1, 1) := by decide +kernel
theorem dX1_isLater_64 : decode cX1_isLater 64 = .ok (.goto 4, 3) := by decide +kernel
theorem dX1_isLater_67 : decode cX1_isLater 67 = .ok (.iconst 0, 1) := by decide +kernel
theorem dX1_isLater_68 : decode cX1_isLater 68 = .ok (.ireturn, 1) := by decide +kernel
theorem dX1_lastOpenStepOf_0 : decode cX1_lastOpenStepOf 0 = .ok (.aload_n 0, 1) := by decide +kernel
theorem dX1_lastOpenStepOf_1 : decode cX1_lastOpenStepOf 1 = .ok (.getfield 47, 3) := by decide +kernel
theorem dX1_lastOpenStepOf_4 : decode cX1_lastOpenStepOf 4 = .ok (.iconst 1, 1) := by decide +kernel
theorem dX1_lastOpenStepOf_5 : decode cX1_lastOpenStepOf 5 = .ok (.isub, 1) := by decide +kernel
theorem dX1_lastOpenStepOf_6 : decode cX1_lastOpenStepOf 6 = .ok (.istore_n 2, 1) := by decide +kernel
theorem dX1_lastOpenStepOf_7 : decode cX1_lastOpenStepOf 7 = .ok (.iload_n 2, 1) := by decide +kernel
theorem dX1_lastOpenStepOf_8 : decode cX1_lastOpenStepOf 8 = .ok (.ifCond .lt 31, 3) := by decide +kernel
theorem dX1_lastOpenStepOf_11 : decode cX1_lastOpenStepOf 11 = .ok (.aload_n 0, 1) := by decide +kernel
theorem dX1_lastOpenStepOf_12 : decode cX1_lastOpenStepOf 12 = .ok (.getfield 18, 3) := by decide +kernel
theorem dX1_lastOpenStepOf_15 : decode cX1_lastOpenStepOf 15 = .ok (.iload_n 2, 1) := by decide +kernel
theorem dX1_lastOpenStepOf_16 : decode cX1_lastOpenStepOf 16 = .ok (.invokestatic 62, 3) := by decide +kernel
theorem dX1_lastOpenStepOf_19 : decode cX1_lastOpenStepOf 19 = .ok (.ifCond .eq 14, 3) := by decide +kernel
theorem dX1_lastOpenStepOf_22 : decode cX1_lastOpenStepOf 22 = .ok (.aload_n 0, 1) := by decide +kernel
theorem dX1_lastOpenStepOf_23 : decode cX1_lastOpenStepOf 23 = .ok (.iload_n 2, 1) := by decide +kernel
theorem dX1_lastOpenStepOf_24 : decode cX1_lastOpenStepOf 24 = .ok (.invokevirtual 66, 3) := by decide +kernel
theorem dX1_lastOpenStepOf_27 : decode cX1_lastOpenStepOf 27 = .ok (.iload_n 1, 1) := by decide +kernel
theorem dX1_lastOpenStepOf_28 : decode cX1_lastOpenStepOf 28 = .ok (.if_icmp .ne 5, 3) := by decide +kernel
theorem dX1_lastOpenStepOf_31 : decode cX1_lastOpenStepOf 31 = .ok (.iload_n 2, 1) := by decide +kernel
theorem dX1_lastOpenStepOf_32 : decode cX1_lastOpenStepOf 32 = .ok (.ireturn, 1) := by decide +kernel
theorem dX1_lastOpenStepOf_33 : decode cX1_lastOpenStepOf 33 = .ok (.iinc 2 (-1), 3) := by decide +kernel
theorem dX1_lastOpenStepOf_36 : decode cX1_lastOpenStepOf 36 = .ok (.goto (-29), 3) := by decide +kernel
theorem dX1_lastOpenStepOf_39 : decode cX1_lastOpenStepOf 39 = .ok (.iconst (-1), 1) := by decide +kernel
theorem dX1_lastOpenStepOf_40 : decode cX1_lastOpenStepOf 40 = .ok (.ireturn, 1) := by decide +kernel
theorem dX1_close_0 : decode cX1_close 0 = .ok (.iload_n 1, 1) := by decide +kernel
theorem dX1_close_1 : decode cX1_close 1 = .ok (.ifCond .lt 17, 3) := by decide +kernel
theorem dX1_close_4 : decode cX1_close 4 = .ok (.iload_n 1, 1) := by decide +kernel
theorem dX1_close_5 : decode cX1_close 5 = .ok (.sipush 250, 3) := by decide +kernel
theorem dX1_close_8 : decode cX1_close 8 = .ok (.if_icmp .ge 10, 3) := by decide +kernel
theorem dX1_close_11 : decode cX1_close 11 = .ok (.aload_n 0, 1) := by decide +kernel
theorem dX1_close_12 : decode cX1_close 12 = .ok (.getfield 18, 3) := by decide +kernel
theorem dX1_close_15 : decode cX1_close 15 = .ok (.iload_n 1, 1) := by decide +kernel
theorem dX1_close_16 : decode cX1_close 16 = .ok (.iconst 0, 1) := by decide +kernel
theorem dX1_close_17 : decode cX1_close 17 = .ok (.bastore, 1) := by decide +kernel
theorem dX1_close_18 : decode cX1_close 18 = .ok (.return_, 1) := by decide +kernel
theorem dX1_userAt_0 : decode cX1_userAt 0 = .ok (.aload_n 0, 1) := by decide +kernel
theorem dX1_userAt_1 : decode cX1_userAt 1 = .ok (.getfield 9, 3) := by decide +kernel
theorem dX1_userAt_4 : decode cX1_userAt 4 = .ok (.iload_n 1, 1) := by decide +kernel
theorem dX1_userAt_5 : decode cX1_userAt 5 = .ok (.iconst (-1), 1) := by decide +kernel
theorem dX1_userAt_6 : decode cX1_userAt 6 = .ok (.invokestatic 70, 3) := by decide +kernel
theorem dX1_userAt_9 : decode cX1_userAt 9 = .ok (.ireturn, 1) := by decide +kernel
theorem dX1_clockAt_0 : decode cX1_clockAt 0 = .ok (.aload_n 0, 1) := by decide +kernel
theorem dX1_clockAt_1 : decode cX1_clockAt 1 = .ok (.getfield 15, 3) := by decide +kernel
theorem dX1_clockAt_4 : decode cX1_clockAt 4 = .ok (.iload_n 1, 1) := by decide +kernel
theorem dX1_clockAt_5 : decode cX1_clockAt 5 = .ok (.iconst 0, 1) := by decide +kernel
theorem dX1_clockAt_6 : decode cX1_clockAt 6 = .ok (.invokestatic 70, 3) := by decide +kernel
theorem dX1_clockAt_9 : decode cX1_clockAt 9 = .ok (.ireturn, 1) := by decide +kernel
theorem dX1_operationAtTime_0 : decode cX1_operationAtTime 0 = .ok (.aload_n 0, 1) := by decide +kernel
theorem dX1_operationAtTime_1 : decode cX1_operationAtTime 1 = .ok (.getfield 28, 3) := by decide +kernel
theorem dX1_operationAtTime_4 : decode cX1_operationAtTime 4 = .ok (.iload_n 1, 1) := by decide +kernel
theorem dX1_operationAtTime_5 : decode cX1_operationAtTime 5 = .ok (.iconst (-1), 1) := by decide +kernel
theorem dX1_operationAtTime_6 : decode cX1_operationAtTime 6 = .ok (.invokestatic 70, 3) := by decide +kernel
theorem dX1_operationAtTime_9 : decode cX1_operationAtTime 9 = .ok (.ireturn, 1) := by decide +kernel
theorem dX1_firstRowOf_0 : decode cX1_firstRowOf 0 = .ok (.iload_n 1, 1) := by decide +kernel
theorem dX1_firstRowOf_1 : decode cX1_firstRowOf 1 = .ok (.ifCond .lt 19, 3) := by decide +kernel
theorem dX1_firstRowOf_4 : decode cX1_firstRowOf 4 = .ok (.iload_n 1, 1) := by decide +kernel
theorem dX1_firstRowOf_5 : decode cX1_firstRowOf 5 = .ok (.sipush 250, 3) := by decide +kernel
theorem dX1_firstRowOf_8 : decode cX1_firstRowOf 8 = .ok (.if_icmp .ge 12, 3) := by decide +kernel
theorem dX1_firstRowOf_11 : decode cX1_firstRowOf 11 = .ok (.aload_n 0, 1) := by decide +kernel
theorem dX1_firstRowOf_12 : decode cX1_firstRowOf 12 = .ok (.getfield 22, 3) := by decide +kernel
theorem dX1_firstRowOf_15 : decode cX1_firstRowOf 15 = .ok (.iload_n 1, 1) := by decide +kernel
theorem dX1_firstRowOf_16 : decode cX1_firstRowOf 16 = .ok (.iaload, 1) := by decide +kernel
theorem dX1_firstRowOf_17 : decode cX1_firstRowOf 17 = .ok (.goto 4, 3) := by decide +kernel
theorem dX1_firstRowOf_20 : decode cX1_firstRowOf 20 = .ok (.iconst 0, 1) := by decide +kernel
theorem dX1_firstRowOf_21 : decode cX1_firstRowOf 21 = .ok (.ireturn, 1) := by decide +kernel
theorem dX1_endRowOf_0 : decode cX1_endRowOf 0 = .ok (.iload_n 1, 1) := by decide +kernel
theorem dX1_endRowOf_1 : decode cX1_endRowOf 1 = .ok (.ifCond .lt 19, 3) := by decide +kernel
theorem dX1_endRowOf_4 : decode cX1_endRowOf 4 = .ok (.iload_n 1, 1) := by decide +kernel
theorem dX1_endRowOf_5 : decode cX1_endRowOf 5 = .ok (.sipush 250, 3) := by decide +kernel
theorem dX1_endRowOf_8 : decode cX1_endRowOf 8 = .ok (.if_icmp .ge 12, 3) := by decide +kernel
theorem dX1_endRowOf_11 : decode cX1_endRowOf 11 = .ok (.aload_n 0, 1) := by decide +kernel
theorem dX1_endRowOf_12 : decode cX1_endRowOf 12 = .ok (.getfield 25, 3) := by decide +kernel
theorem dX1_endRowOf_15 : decode cX1_endRowOf 15 = .ok (.iload_n 1, 1) := by decide +kernel
theorem dX1_endRowOf_16 : decode cX1_endRowOf 16 = .ok (.iaload, 1) := by decide +kernel
theorem dX1_endRowOf_17 : decode cX1_endRowOf 17 = .ok (.goto 4, 3) := by decide +kernel
theorem dX1_endRowOf_20 : decode cX1_endRowOf 20 = .ok (.iconst 0, 1) := by decide +kernel
theorem dX1_endRowOf_21 : decode cX1_endRowOf 21 = .ok (.ireturn, 1) := by decide +kernel
