theorem dX3_init_0 : decode cX3_init 0 = .ok (.aload_n 0, 1) := by decide +kernel
theorem dX3_init_1 : decode cX3_init 1 = .ok (.invokespecial 3, 3) := by decide +kernel
theorem dX3_init_4 : decode cX3_init 4 = .ok (.aload_n 0, 1) := by decide +kernel
theorem dX3_init_5 : decode cX3_init 5 = .ok (.sipush 250, 3) := by decide +kernel
theorem dX3_init_8 : decode cX3_init 8 = .ok (.newarray .int, 2) := by decide +kernel
theorem dX3_init_10 : decode cX3_init 10 = .ok (.putfield 9, 3) := by decide +kernel
theorem dX3_init_13 : decode cX3_init 13 = .ok (.aload_n 0, 1) := by decide +kernel
theorem dX3_init_14 : decode cX3_init 14 = .ok (.iconst 4, 1) := by decide +kernel
theorem dX3_init_15 : decode cX3_init 15 = .ok (.newarray .int, 2) := by decide +kernel
theorem dX3_init_17 : decode cX3_init 17 = .ok (.putfield 15, 3) := by decide +kernel
theorem dX3_init_20 : decode cX3_init 20 = .ok (.aload_n 0, 1) := by decide +kernel
theorem dX3_init_21 : decode cX3_init 21 = .ok (.bipush 24, 2) := by decide +kernel
theorem dX3_init_23 : decode cX3_init 23 = .ok (.newarray .int, 2) := by decide +kernel
theorem dX3_init_25 : decode cX3_init 25 = .ok (.putfield 18, 3) := by decide +kernel
theorem dX3_init_28 : decode cX3_init 28 = .ok (.aload_n 0, 1) := by decide +kernel
theorem dX3_init_29 : decode cX3_init 29 = .ok (.aload_n 1, 1) := by decide +kernel
theorem dX3_init_30 : decode cX3_init 30 = .ok (.putfield 21, 3) := by decide +kernel
theorem dX3_init_33 : decode cX3_init 33 = .ok (.aload_n 0, 1) := by decide +kernel
theorem dX3_init_34 : decode cX3_init 34 = .ok (.new 25, 3) := by decide +kernel
theorem dX3_init_37 : decode cX3_init 37 = .ok (.dup, 1) := by decide +kernel
theorem dX3_init_38 : decode cX3_init 38 = .ok (.aload_n 1, 1) := by decide +kernel
theorem dX3_init_39 : decode cX3_init 39 = .ok (.invokespecial 27, 3) := by decide +kernel
theorem dX3_init_42 : decode cX3_init 42 = .ok (.putfield 30, 3) := by decide +kernel
theorem dX3_init_45 : decode cX3_init 45 = .ok (.aload_n 0, 1) := by decide +kernel
theorem dX3_init_46 : decode cX3_init 46 = .ok (.new 25, 3) := by decide +kernel
theorem dX3_init_49 : decode cX3_init 49 = .ok (.dup, 1) := by decide +kernel
theorem dX3_init_50 : decode cX3_init 50 = .ok (.aload_n 1, 1) := by decide +kernel
theorem dX3_init_51 : decode cX3_init 51 = .ok (.invokespecial 27, 3) := by decide +kernel
theorem dX3_init_54 : decode cX3_init 54 = .ok (.putfield 34, 3) := by decide +kernel
theorem dX3_init_57 : decode cX3_init 57 = .ok (.aload_n 0, 1) := by decide +kernel
theorem dX3_init_58 : decode cX3_init 58 = .ok (.new 37, 3) := by decide +kernel
theorem dX3_init_61 : decode cX3_init 61 = .ok (.dup, 1) := by decide +kernel
theorem dX3_init_62 : decode cX3_init 62 = .ok (.aload_n 0, 1) := by decide +kernel
theorem dX3_init_63 : decode cX3_init 63 = .ok (.getfield 34, 3) := by decide +kernel
theorem dX3_init_66 : decode cX3_init 66 = .ok (.aload_n 2, 1) := by decide +kernel
theorem dX3_init_67 : decode cX3_init 67 = .ok (.invokespecial 39, 3) := by decide +kernel
theorem dX3_init_70 : decode cX3_init 70 = .ok (.putfield 42, 3) := by decide +kernel
theorem dX3_init_73 : decode cX3_init 73 = .ok (.return_, 1) := by decide +kernel
theorem dX3_sumUpAnew_0 : decode cX3_sumUpAnew 0 = .ok (.aload_n 0, 1) := by decide +kernel
theorem dX3_sumUpAnew_1 : decode cX3_sumUpAnew 1 = .ok (.aload_n 1, 1) := by decide +kernel
theorem dX3_sumUpAnew_2 : decode cX3_sumUpAnew 2 = .ok (.invokevirtual 46, 3) := by decide +kernel
theorem dX3_sumUpAnew_5 : decode cX3_sumUpAnew 5 = .ok (.aload_n 0, 1) := by decide +kernel
theorem dX3_sumUpAnew_6 : decode cX3_sumUpAnew 6 = .ok (.getfield 34, 3) := by decide +kernel
theorem dX3_sumUpAnew_9 : decode cX3_sumUpAnew 9 = .ok (.invokevirtual 50, 3) := by decide +kernel
theorem dX3_sumUpAnew_12 : decode cX3_sumUpAnew 12 = .ok (.iconst 0, 1) := by decide +kernel
theorem dX3_sumUpAnew_13 : decode cX3_sumUpAnew 13 = .ok (.istore_n 2, 1) := by decide +kernel
theorem dX3_sumUpAnew_14 : decode cX3_sumUpAnew 14 = .ok (.iload_n 2, 1) := by decide +kernel
theorem dX3_sumUpAnew_15 : decode cX3_sumUpAnew 15 = .ok (.aload_n 0, 1) := by decide +kernel
theorem dX3_sumUpAnew_16 : decode cX3_sumUpAnew 16 = .ok (.getfield 53, 3) := by decide +kernel
theorem dX3_sumUpAnew_19 : decode cX3_sumUpAnew 19 = .ok (.if_icmp .ge 25, 3) := by decide +kernel
theorem dX3_sumUpAnew_22 : decode cX3_sumUpAnew 22 = .ok (.aload_n 0, 1) := by decide +kernel
theorem dX3_sumUpAnew_23 : decode cX3_sumUpAnew 23 = .ok (.getfield 34, 3) := by decide +kernel
theorem dX3_sumUpAnew_26 : decode cX3_sumUpAnew 26 = .ok (.aload_n 0, 1) := by decide +kernel
theorem dX3_sumUpAnew_27 : decode cX3_sumUpAnew 27 = .ok (.getfield 9, 3) := by decide +kernel
theorem dX3_sumUpAnew_30 : decode cX3_sumUpAnew 30 = .ok (.iload_n 2, 1) := by decide +kernel
theorem dX3_sumUpAnew_31 : decode cX3_sumUpAnew 31 = .ok (.iconst (-1), 1) := by decide +kernel
theorem dX3_sumUpAnew_32 : decode cX3_sumUpAnew 32 = .ok (.invokestatic 57, 3) := by decide +kernel
theorem dX3_sumUpAnew_35 : decode cX3_sumUpAnew 35 = .ok (.invokevirtual 61, 3) := by decide +kernel
theorem dX3_sumUpAnew_38 : decode cX3_sumUpAnew 38 = .ok (.iinc 2 1, 3) := by decide +kernel
theorem dX3_sumUpAnew_41 : decode cX3_sumUpAnew 41 = .ok (.goto (-27), 3) := by decide +kernel
theorem dX3_sumUpAnew_44 : decode cX3_sumUpAnew 44 = .ok (.aload_n 0, 1) := by decide +kernel
theorem dX3_sumUpAnew_45 : decode cX3_sumUpAnew 45 = .ok (.getfield 42, 3) := by decide +kernel
theorem dX3_sumUpAnew_48 : decode cX3_sumUpAnew 48 = .ok (.invokevirtual 65, 3) := by decide +kernel
theorem dX3_sumUpAnew_51 : decode cX3_sumUpAnew 51 = .ok (.ireturn, 1) := by decide +kernel
theorem dX3_countDifferent_0 : decode cX3_countDifferent 0 = .ok (.aload_n 0, 1) := by decide +kernel
theorem dX3_countDifferent_1 : decode cX3_countDifferent 1 = .ok (.aload_n 1, 1) := by decide +kernel
theorem dX3_countDifferent_2 : decode cX3_countDifferent 2 = .ok (.invokevirtual 46, 3) := by decide +kernel
theorem dX3_countDifferent_5 : decode cX3_countDifferent 5 = .ok (.iload_n 2, 1) := by decide +kernel
theorem dX3_countDifferent_6 : decode cX3_countDifferent 6 = .ok (.aload_n 0, 1) := by decide +kernel
theorem dX3_countDifferent_7 : decode cX3_countDifferent 7 = .ok (.getfield 53, 3) := by decide +kernel
theorem dX3_countDifferent_10 : decode cX3_countDifferent 10 = .ok (.invokestatic 69, 3) := by decide +kernel
theorem dX3_countDifferent_13 : decode cX3_countDifferent 13 = .ok (.istore_n 3, 1) := by decide +kernel
theorem dX3_countDifferent_14 : decode cX3_countDifferent 14 = .ok (.aload_n 0, 1) := by decide +kernel
theorem dX3_countDifferent_15 : decode cX3_countDifferent 15 = .ok (.getfield 30, 3) := by decide +kernel
theorem dX3_countDifferent_18 : decode cX3_countDifferent 18 = .ok (.invokevirtual 50, 3) := by decide +kernel
theorem dX3_countDifferent_21 : decode cX3_countDifferent 21 = .ok (.iconst 0, 1) := by decide +kernel
theorem dX3_countDifferent_22 : decode cX3_countDifferent 22 = .ok (.istore 4, 2) := by decide +kernel
theorem dX3_countDifferent_24 : decode cX3_countDifferent 24 = .ok (.iload 4, 2) := by decide +kernel
theorem dX3_countDifferent_26 : decode cX3_countDifferent 26 = .ok (.aload_n 0, 1) := by decide +kernel
theorem dX3_countDifferent_27 : decode cX3_countDifferent 27 = .ok (.getfield 53, 3) := by decide +kernel
theorem dX3_countDifferent_30 : decode cX3_countDifferent 30 = .ok (.iload_n 3, 1) := by decide +kernel
theorem dX3_countDifferent_31 : decode cX3_countDifferent 31 = .ok (.isub, 1) := by decide +kernel
theorem dX3_countDifferent_32 : decode cX3_countDifferent 32 = .ok (.if_icmp .ge 26, 3) := by decide +kernel
theorem dX3_countDifferent_35 : decode cX3_countDifferent 35 = .ok (.aload_n 0, 1) := by decide +kernel
theorem dX3_countDifferent_36 : decode cX3_countDifferent 36 = .ok (.getfield 30, 3) := by decide +kernel
theorem dX3_countDifferent_39 : decode cX3_countDifferent 39 = .ok (.aload_n 0, 1) := by decide +kernel
theorem dX3_countDifferent_40 : decode cX3_countDifferent 40 = .ok (.getfield 9, 3) := by decide +kernel
theorem dX3_countDifferent_43 : decode cX3_countDifferent 43 = .ok (.iload 4, 2) := by decide +kernel
theorem dX3_countDifferent_45 : decode cX3_countDifferent 45 = .ok (.iconst (-1), 1) := by decide +kernel
theorem dX3_countDifferent_46 : decode cX3_countDifferent 46 = .ok (.invokestatic 57, 3) := by decide +kernel
theorem dX3_countDifferent_49 : decode cX3_countDifferent 49 = .ok (.invokevirtual 61, 3) := by decide +kernel
theorem dX3_countDifferent_52 : decode cX3_countDifferent 52 = .ok (.iinc 4 1, 3) := by decide +kernel
theorem dX3_countDifferent_55 : decode cX3_countDifferent 55 = .ok (.goto (-31), 3) := by decide +kernel
theorem dX3_countDifferent_58 : decode cX3_countDifferent 58 = .ok (.iconst 1, 1) := by decide +kernel
theorem dX3_countDifferent_59 : decode cX3_countDifferent 59 = .ok (.istore 4, 2) := by decide +kernel
theorem dX3_countDifferent_61 : decode cX3_countDifferent 61 = .ok (.iconst 2, 1) := by decide +kernel
theorem dX3_countDifferent_62 : decode cX3_countDifferent 62 = .ok (.istore 5, 2) := by decide +kernel
theorem dX3_countDifferent_64 : decode cX3_countDifferent 64 = .ok (.iload 5, 2) := by decide +kernel
theorem dX3_countDifferent_66 : decode cX3_countDifferent 66 = .ok (.iload_n 3, 1) := by decide +kernel
theorem dX3_countDifferent_67 : decode cX3_countDifferent 67 = .ok (.if_icmp .gt 16, 3) := by decide +kernel
theorem dX3_countDifferent_70 : decode cX3_countDifferent 70 = .ok (.iload 4, 2) := by decide +kernel
theorem dX3_countDifferent_72 : decode cX3_countDifferent 72 = .ok (.iload 5, 2) := by decide +kernel
theorem dX3_countDifferent_74 : decode cX3_countDifferent 74 = .ok (.imul, 1) := by decide +kernel
theorem dX3_countDifferent_75 : decode cX3_countDifferent 75 = .ok (.istore 4, 2) := by decide +kernel
theorem dX3_countDifferent_77 : decode cX3_countDifferent 77 = .ok (.iinc 5 1, 3) := by decide +kernel
theorem dX3_countDifferent_80 : decode cX3_countDifferent 80 = .ok (.goto (-16), 3) := by decide +kernel
theorem dX3_countDifferent_83 : decode cX3_countDifferent 83 = .ok (.iconst 0, 1) := by decide +kernel
theorem dX3_countDifferent_84 : decode cX3_countDifferent 84 = .ok (.istore 5, 2) := by decide +kernel
theorem dX3_countDifferent_86 : decode cX3_countDifferent 86 = .ok (.iconst 0, 1) := by decide +kernel
theorem dX3_countDifferent_87 : decode cX3_countDifferent 87 = .ok (.istore 6, 2) := by decide +kernel
theorem dX3_countDifferent_89 : decode cX3_countDifferent 89 = .ok (.iload 6, 2) := by decide +kernel
theorem dX3_countDifferent_91 : decode cX3_countDifferent 91 = .ok (.iload 4, 2) := by decide +kernel
theorem dX3_countDifferent_93 : decode cX3_countDifferent 93 = .ok (.if_icmp .ge 42, 3) := by decide +kernel
theorem dX3_countDifferent_96 : decode cX3_countDifferent 96 = .ok (.aload_n 0, 1) := by decide +kernel
theorem dX3_countDifferent_97 : decode cX3_countDifferent 97 = .ok (.getfield 34, 3) := by decide +kernel
theorem dX3_countDifferent_100 : decode cX3_countDifferent 100 = .ok (.aload_n 0, 1) := by decide +kernel
theorem dX3_countDifferent_101 : decode cX3_countDifferent 101 = .ok (.getfield 30, 3) := by decide +kernel
theorem dX3_countDifferent_104 : decode cX3_countDifferent 104 = .ok (.invokevirtual 75, 3) := by decide +kernel
theorem dX3_countDifferent_107 : decode cX3_countDifferent 107 = .ok (.aload_n 0, 1) := by decide +kernel
theorem dX3_countDifferent_108 : decode cX3_countDifferent 108 = .ok (.iload 6, 2) := by decide +kernel
theorem dX3_countDifferent_110 : decode cX3_countDifferent 110 = .ok (.iload_n 3, 1) := by decide +kernel
theorem dX3_countDifferent_111 : decode cX3_countDifferent 111 = .ok (.invokevirtual 79, 3) := by decide +kernel
theorem dX3_countDifferent_114 : decode cX3_countDifferent 114 = .ok (.aload_n 0, 1) := by decide +kernel
theorem dX3_countDifferent_115 : decode cX3_countDifferent 115 = .ok (.iload 5, 2) := by decide +kernel
theorem dX3_countDifferent_117 : decode cX3_countDifferent 117 = .ok (.aload_n 0, 1) := by decide +kernel
theorem dX3_countDifferent_118 : decode cX3_countDifferent 118 = .ok (.getfield 42, 3) := by decide +kernel
theorem dX3_countDifferent_121 : decode cX3_countDifferent 121 = .ok (.invokevirtual 65, 3) := by decide +kernel
theorem dX3_countDifferent_124 : decode cX3_countDifferent 124 = .ok (.invokevirtual 83, 3) := by decide +kernel
theorem dX3_countDifferent_127 : decode cX3_countDifferent 127 = .ok (.istore 5, 2) := by decide +kernel
theorem dX3_countDifferent_129 : decode cX3_countDifferent 129 = .ok (.iinc 6 1, 3) := by decide +kernel
theorem dX3_countDifferent_132 : decode cX3_countDifferent 132 = .ok (.goto (-43), 3) := by decide +kernel
theorem dX3_countDifferent_135 : decode cX3_countDifferent 135 = .ok (.iload 5, 2) := by decide +kernel
theorem dX3_countDifferent_137 : decode cX3_countDifferent 137 = .ok (.ireturn, 1) := by decide +kernel
theorem dX3_listKnown_0 : decode cX3_listKnown 0 = .ok (.aload_n 0, 1) := by decide +kernel
theorem dX3_listKnown_1 : decode cX3_listKnown 1 = .ok (.iconst 0, 1) := by decide +kernel
theorem dX3_listKnown_2 : decode cX3_listKnown 2 = .ok (.putfield 53, 3) := by decide +kernel
theorem dX3_listKnown_5 : decode cX3_listKnown 5 = .ok (.iconst 0, 1) := by decide +kernel
theorem dX3_listKnown_6 : decode cX3_listKnown 6 = .ok (.istore_n 2, 1) := by decide +kernel
theorem dX3_listKnown_7 : decode cX3_listKnown 7 = .ok (.iload_n 2, 1) := by decide +kernel
theorem dX3_listKnown_8 : decode cX3_listKnown 8 = .ok (.aload_n 0, 1) := by decide +kernel
theorem dX3_listKnown_9 : decode cX3_listKnown 9 = .ok (.getfield 21, 3) := by decide +kernel
theorem dX3_listKnown_12 : decode cX3_listKnown 12 = .ok (.getfield 86, 3) := by decide +kernel
theorem dX3_listKnown_15 : decode cX3_listKnown 15 = .ok (.if_icmp .ge 56, 3) := by decide +kernel
theorem dX3_listKnown_18 : decode cX3_listKnown 18 = .ok (.aload_n 0, 1) := by decide +kernel
theorem dX3_listKnown_19 : decode cX3_listKnown 19 = .ok (.getfield 21, 3) := by decide +kernel
theorem dX3_listKnown_22 : decode cX3_listKnown 22 = .ok (.iload_n 2, 1) := by decide +kernel
theorem dX3_listKnown_23 : decode cX3_listKnown 23 = .ok (.invokevirtual 91, 3) := by decide +kernel
theorem dX3_listKnown_26 : decode cX3_listKnown 26 = .ok (.istore_n 3, 1) := by decide +kernel
theorem dX3_listKnown_27 : decode cX3_listKnown 27 = .ok (.aload_n 1, 1) := by decide +kernel
theorem dX3_listKnown_28 : decode cX3_listKnown 28 = .ok (.iload_n 3, 1) := by decide +kernel
theorem dX3_listKnown_29 : decode cX3_listKnown 29 = .ok (.invokevirtual 95, 3) := by decide +kernel
theorem dX3_listKnown_32 : decode cX3_listKnown 32 = .ok (.ifCond .eq 33, 3) := by decide +kernel
theorem dX3_listKnown_35 : decode cX3_listKnown 35 = .ok (.aload_n 0, 1) := by decide +kernel
theorem dX3_listKnown_36 : decode cX3_listKnown 36 = .ok (.getfield 53, 3) := by decide +kernel
theorem dX3_listKnown_39 : decode cX3_listKnown 39 = .ok (.sipush 250, 3) := by decide +kernel
theorem dX3_listKnown_42 : decode cX3_listKnown 42 = .ok (.if_icmp .ge 23, 3) := by decide +kernel
theorem dX3_listKnown_45 : decode cX3_listKnown 45 = .ok (.aload_n 0, 1) := by decide +kernel
theorem dX3_listKnown_46 : decode cX3_listKnown 46 = .ok (.getfield 9, 3) := by decide +kernel
theorem dX3_listKnown_49 : decode cX3_listKnown 49 = .ok (.aload_n 0, 1) := by decide +kernel
theorem dX3_listKnown_50 : decode cX3_listKnown 50 = .ok (.getfield 53, 3) := by decide +kernel
theorem dX3_listKnown_53 : decode cX3_listKnown 53 = .ok (.iload_n 3, 1) := by decide +kernel
theorem dX3_listKnown_54 : decode cX3_listKnown 54 = .ok (.iastore, 1) := by decide +kernel
theorem dX3_listKnown_55 : decode cX3_listKnown 55 = .ok (.aload_n 0, 1) := by decide +kernel
theorem dX3_listKnown_56 : decode cX3_listKnown 56 = .ok (.dup, 1) := by decide +kernel
theorem dX3_listKnown_57 : decode cX3_listKnown 57 = .ok (.getfield 53, 3) := by decide +kernel
theorem dX3_listKnown_60 : decode cX3_listKnown 60 = .ok (.iconst 1, 1) := by decide +kernel
theorem dX3_listKnown_61 : decode cX3_listKnown 61 = .ok (.iadd, 1) := by decide +kernel
theorem dX3_listKnown_62 : decode cX3_listKnown 62 = .ok (.putfield 53, 3) := by decide +kernel
theorem dX3_listKnown_65 : decode cX3_listKnown 65 = .ok (.iinc 2 1, 3) := by decide +kernel
theorem dX3_listKnown_68 : decode cX3_listKnown 68 = .ok (.goto (-61), 3) := by decide +kernel
theorem dX3_listKnown_71 : decode cX3_listKnown 71 = .ok (.return_, 1) := by decide +kernel
theorem dX3_mix_0 : decode cX3_mix 0 = .ok (.iconst 0, 1) := by decide +kernel
theorem dX3_mix_1 : decode cX3_mix 1 = .ok (.istore_n 3, 1) := by decide +kernel
theorem dX3_mix_2 : decode cX3_mix 2 = .ok (.iload_n 3, 1) := by decide +kernel
theorem dX3_mix_3 : decode cX3_mix 3 = .ok (.iload_n 2, 1) := by decide +kernel
theorem dX3_mix_4 : decode cX3_mix 4 = .ok (.if_icmp .ge 36, 3) := by decide +kernel
theorem dX3_mix_7 : decode cX3_mix 7 = .ok (.iload_n 3, 1) := by decide +kernel
theorem dX3_mix_8 : decode cX3_mix 8 = .ok (.iconst 4, 1) := by decide +kernel
theorem dX3_mix_9 : decode cX3_mix 9 = .ok (.if_icmp .ge 31, 3) := by decide +kernel
theorem dX3_mix_12 : decode cX3_mix 12 = .ok (.aload_n 0, 1) := by decide +kernel
theorem dX3_mix_13 : decode cX3_mix 13 = .ok (.getfield 15, 3) := by decide +kernel
theorem dX3_mix_16 : decode cX3_mix 16 = .ok (.iload_n 3, 1) := by decide +kernel
theorem dX3_mix_17 : decode cX3_mix 17 = .ok (.aload_n 0, 1) := by decide +kernel
theorem dX3_mix_18 : decode cX3_mix 18 = .ok (.getfield 9, 3) := by decide +kernel
theorem dX3_mix_21 : decode cX3_mix 21 = .ok (.aload_n 0, 1) := by decide +kernel
theorem dX3_mix_22 : decode cX3_mix 22 = .ok (.getfield 53, 3) := by decide +kernel
theorem dX3_mix_25 : decode cX3_mix 25 = .ok (.iload_n 2, 1) := by decide +kernel
theorem dX3_mix_26 : decode cX3_mix 26 = .ok (.isub, 1) := by decide +kernel
theorem dX3_mix_27 : decode cX3_mix 27 = .ok (.iload_n 3, 1) := by decide +kernel
theorem dX3_mix_28 : decode cX3_mix 28 = .ok (.iadd, 1) := by decide +kernel
theorem dX3_mix_29 : decode cX3_mix 29 = .ok (.iconst (-1), 1) := by decide +kernel
theorem dX3_mix_30 : decode cX3_mix 30 = .ok (.invokestatic 57, 3) := by decide +kernel
theorem dX3_mix_33 : decode cX3_mix 33 = .ok (.iastore, 1) := by decide +kernel
theorem dX3_mix_34 : decode cX3_mix 34 = .ok (.iinc 3 1, 3) := by decide +kernel
theorem dX3_mix_37 : decode cX3_mix 37 = .ok (.goto (-35), 3) := by decide +kernel
theorem dX3_mix_40 : decode cX3_mix 40 = .ok (.iload_n 1, 1) := by decide +kernel
theorem dX3_mix_41 : decode cX3_mix 41 = .ok (.istore_n 3, 1) := by decide +kernel
theorem dX3_mix_42 : decode cX3_mix 42 = .ok (.iload_n 2, 1) := by decide +kernel
theorem dX3_mix_43 : decode cX3_mix 43 = .ok (.iconst 4, 1) := by decide +kernel
theorem dX3_mix_44 : decode cX3_mix 44 = .ok (.invokestatic 69, 3) := by decide +kernel
theorem dX3_mix_47 : decode cX3_mix 47 = .ok (.istore 4, 2) := by decide +kernel
theorem dX3_mix_49 : decode cX3_mix 49 = .ok (.iload 4, 2) := by decide +kernel
theorem dX3_mix_51 : decode cX3_mix 51 = .ok (.iconst 1, 1) := by decide +kernel
theorem dX3_mix_52 : decode cX3_mix 52 = .ok (.if_icmp .lt 69, 3) := by decide +kernel
theorem dX3_mix_55 : decode cX3_mix 55 = .ok (.iload_n 3, 1) := by decide +kernel
theorem dX3_mix_56 : decode cX3_mix 56 = .ok (.iload 4, 2) := by decide +kernel
theorem dX3_mix_58 : decode cX3_mix 58 = .ok (.invokestatic 101, 3) := by decide +kernel
theorem dX3_mix_61 : decode cX3_mix 61 = .ok (.istore 5, 2) := by decide +kernel
theorem dX3_mix_63 : decode cX3_mix 63 = .ok (.iload_n 3, 1) := by decide +kernel
theorem dX3_mix_64 : decode cX3_mix 64 = .ok (.iload 4, 2) := by decide +kernel
theorem dX3_mix_66 : decode cX3_mix 66 = .ok (.idiv, 1) := by decide +kernel
theorem dX3_mix_67 : decode cX3_mix 67 = .ok (.istore_n 3, 1) := by decide +kernel
theorem dX3_mix_68 : decode cX3_mix 68 = .ok (.iload 5, 2) := by decide +kernel
theorem dX3_mix_70 : decode cX3_mix 70 = .ok (.ifCond .lt 45, 3) := by decide +kernel
theorem dX3_mix_73 : decode cX3_mix 73 = .ok (.iload 5, 2) := by decide +kernel
theorem dX3_mix_75 : decode cX3_mix 75 = .ok (.iconst 4, 1) := by decide +kernel
theorem dX3_mix_76 : decode cX3_mix 76 = .ok (.if_icmp .ge 39, 3) := by decide +kernel
theorem dX3_mix_79 : decode cX3_mix 79 = .ok (.iload 4, 2) := by decide +kernel
theorem dX3_mix_81 : decode cX3_mix 81 = .ok (.iconst 4, 1) := by decide +kernel
theorem dX3_mix_82 : decode cX3_mix 82 = .ok (.if_icmp .gt 33, 3) := by decide +kernel
theorem dX3_mix_85 : decode cX3_mix 85 = .ok (.aload_n 0, 1) := by decide +kernel
theorem dX3_mix_86 : decode cX3_mix 86 = .ok (.getfield 34, 3) := by decide +kernel
theorem dX3_mix_89 : decode cX3_mix 89 = .ok (.aload_n 0, 1) := by decide +kernel
theorem dX3_mix_90 : decode cX3_mix 90 = .ok (.getfield 15, 3) := by decide +kernel
theorem dX3_mix_93 : decode cX3_mix 93 = .ok (.iload 5, 2) := by decide +kernel
theorem dX3_mix_95 : decode cX3_mix 95 = .ok (.iaload, 1) := by decide +kernel
theorem dX3_mix_96 : decode cX3_mix 96 = .ok (.invokevirtual 61, 3) := by decide +kernel
theorem dX3_mix_99 : decode cX3_mix 99 = .ok (.aload_n 0, 1) := by decide +kernel
theorem dX3_mix_100 : decode cX3_mix 100 = .ok (.getfield 15, 3) := by decide +kernel
theorem dX3_mix_103 : decode cX3_mix 103 = .ok (.iload 5, 2) := by decide +kernel
theorem dX3_mix_105 : decode cX3_mix 105 = .ok (.aload_n 0, 1) := by decide +kernel
theorem dX3_mix_106 : decode cX3_mix 106 = .ok (.getfield 15, 3) := by decide +kernel
theorem dX3_mix_109 : decode cX3_mix 109 = .ok (.iload 4, 2) := by decide +kernel
theorem dX3_mix_111 : decode cX3_mix 111 = .ok (.iconst 1, 1) := by decide +kernel
theorem dX3_mix_112 : decode cX3_mix 112 = .ok (.isub, 1) := by decide +kernel
theorem dX3_mix_113 : decode cX3_mix 113 = .ok (.iaload, 1) := by decide +kernel
theorem dX3_mix_114 : decode cX3_mix 114 = .ok (.iastore, 1) := by decide +kernel
theorem dX3_mix_115 : decode cX3_mix 115 = .ok (.iinc 4 (-1), 3) := by decide +kernel
theorem dX3_mix_118 : decode cX3_mix 118 = .ok (.goto (-69), 3) := by decide +kernel
theorem dX3_mix_121 : decode cX3_mix 121 = .ok (.return_, 1) := by decide +kernel
theorem dX3_collect_0 : decode cX3_collect 0 = .ok (.iconst 0, 1) := by decide +kernel
theorem dX3_collect_1 : decode cX3_collect 1 = .ok (.istore_n 3, 1) := by decide +kernel
theorem dX3_collect_2 : decode cX3_collect 2 = .ok (.iload_n 3, 1) := by decide +kernel
theorem dX3_collect_3 : decode cX3_collect 3 = .ok (.iload_n 1, 1) := by decide +kernel
theorem dX3_collect_4 : decode cX3_collect 4 = .ok (.if_icmp .ge 27, 3) := by decide +kernel
theorem dX3_collect_7 : decode cX3_collect 7 = .ok (.iload_n 3, 1) := by decide +kernel
theorem dX3_collect_8 : decode cX3_collect 8 = .ok (.bipush 24, 2) := by decide +kernel
theorem dX3_collect_10 : decode cX3_collect 10 = .ok (.if_icmp .ge 21, 3) := by decide +kernel
theorem dX3_collect_13 : decode cX3_collect 13 = .ok (.aload_n 0, 1) := by decide +kernel
theorem dX3_collect_14 : decode cX3_collect 14 = .ok (.getfield 18, 3) := by decide +kernel
theorem dX3_collect_17 : decode cX3_collect 17 = .ok (.iload_n 3, 1) := by decide +kernel
theorem dX3_collect_18 : decode cX3_collect 18 = .ok (.iaload, 1) := by decide +kernel
theorem dX3_collect_19 : decode cX3_collect 19 = .ok (.iload_n 2, 1) := by decide +kernel
theorem dX3_collect_20 : decode cX3_collect 20 = .ok (.if_icmp .ne 5, 3) := by decide +kernel
theorem dX3_collect_23 : decode cX3_collect 23 = .ok (.iload_n 1, 1) := by decide +kernel
theorem dX3_collect_24 : decode cX3_collect 24 = .ok (.ireturn, 1) := by decide +kernel
theorem dX3_collect_25 : decode cX3_collect 25 = .ok (.iinc 3 1, 3) := by decide +kernel
theorem dX3_collect_28 : decode cX3_collect 28 = .ok (.goto (-26), 3) := by decide +kernel
theorem dX3_collect_31 : decode cX3_collect 31 = .ok (.iload_n 1, 1) := by decide +kernel
theorem dX3_collect_32 : decode cX3_collect 32 = .ok (.ifCond .lt 16, 3) := by decide +kernel
theorem dX3_collect_35 : decode cX3_collect 35 = .ok (.iload_n 1, 1) := by decide +kernel
theorem dX3_collect_36 : decode cX3_collect 36 = .ok (.bipush 24, 2) := by decide +kernel
theorem dX3_collect_38 : decode cX3_collect 38 = .ok (.if_icmp .ge 10, 3) := by decide +kernel
theorem dX3_collect_41 : decode cX3_collect 41 = .ok (.aload_n 0, 1) := by decide +kernel
theorem dX3_collect_42 : decode cX3_collect 42 = .ok (.getfield 18, 3) := by decide +kernel
theorem dX3_collect_45 : decode cX3_collect 45 = .ok (.iload_n 1, 1) := by decide +kernel
theorem dX3_collect_46 : decode cX3_collect 46 = .ok (.iload_n 2, 1) := by decide +kernel
theorem dX3_collect_47 : decode cX3_collect 47 = .ok (.iastore, 1) := by decide +kernel
theorem dX3_collect_48 : decode cX3_collect 48 = .ok (.iload_n 1, 1) := by decide +kernel
theorem dX3_collect_49 : decode cX3_collect 49 = .ok (.iconst 1, 1) := by decide +kernel
theorem dX3_collect_50 : decode cX3_collect 50 = .ok (.iadd, 1) := by decide +kernel
theorem dX3_collect_51 : decode cX3_collect 51 = .ok (.ireturn, 1) := by decide +kernel
theorem dX4_init_0 : decode cX4_init 0 = .ok (.aload_n 0, 1) := by decide +kernel
theorem dX4_init_1 : decode cX4_init 1 = .ok (.invokespecial 3, 3) := by decide +kernel
theorem dX4_init_4 : decode cX4_init 4 = .ok (.aload_n 0, 1) := by decide +kernel
theorem dX4_init_5 : decode cX4_init 5 = .ok (.sipush 384, 3) := by decide +kernel
theorem dX4_init_8 : decode cX4_init 8 = .ok (.newarray .boolean, 2) := by decide +kernel
theorem dX4_init_10 : decode cX4_init 10 = .ok (.putfield 9, 3) := by decide +kernel
theorem dX4_init_13 : decode cX4_init 13 = .ok (.aload_n 0, 1) := by decide +kernel
theorem dX4_init_14 : decode cX4_init 14 = .ok (.sipush 768, 3) := by decide +kernel
theorem dX4_init_17 : decode cX4_init 17 = .ok (.newarray .int, 2) := by decide +kernel
theorem dX4_init_19 : decode cX4_init 19 = .ok (.putfield 15, 3) := by decide +kernel
theorem dX4_init_22 : decode cX4_init 22 = .ok (.aload_n 0, 1) := by decide +kernel
theorem dX4_init_23 : decode cX4_init 23 = .ok (.sipush 768, 3) := by decide +kernel
theorem dX4_init_26 : decode cX4_init 26 = .ok (.newarray .int, 2) := by decide +kernel
theorem dX4_init_28 : decode cX4_init 28 = .ok (.putfield 19, 3) := by decide +kernel
theorem dX4_init_31 : decode cX4_init 31 = .ok (.aload_n 0, 1) := by decide +kernel
theorem dX4_init_32 : decode cX4_init 32 = .ok (.sipush 768, 3) := by decide +kernel
theorem dX4_init_35 : decode cX4_init 35 = .ok (.newarray .int, 2) := by decide +kernel
theorem dX4_init_37 : decode cX4_init 37 = .ok (.putfield 22, 3) := by decide +kernel
theorem dX4_init_40 : decode cX4_init 40 = .ok (.aload_n 0, 1) := by decide +kernel
theorem dX4_init_41 : decode cX4_init 41 = .ok (.sipush 768, 3) := by decide +kernel
theorem dX4_init_44 : decode cX4_init 44 = .ok (.newarray .int, 2) := by decide +kernel
theorem dX4_init_46 : decode cX4_init 46 = .ok (.putfield 25, 3) := by decide +kernel
theorem dX4_init_49 : decode cX4_init 49 = .ok (.aload_n 0, 1) := by decide +kernel
theorem dX4_init_50 : decode cX4_init 50 = .ok (.iconst (-1), 1) := by decide +kernel
theorem dX4_init_51 : decode cX4_init 51 = .ok (.putfield 28, 3) := by decide +kernel
theorem dX4_init_54 : decode cX4_init 54 = .ok (.aload_n 0, 1) := by decide +kernel
theorem dX4_init_55 : decode cX4_init 55 = .ok (.iconst (-1), 1) := by decide +kernel
theorem dX4_init_56 : decode cX4_init 56 = .ok (.putfield 32, 3) := by decide +kernel
theorem dX4_init_59 : decode cX4_init 59 = .ok (.return_, 1) := by decide +kernel
theorem dX4_draw_0 : decode cX4_draw 0 = .ok (.iconst 0, 1) := by decide +kernel
theorem dX4_draw_1 : decode cX4_draw 1 = .ok (.istore_n 3, 1) := by decide +kernel
theorem dX4_draw_2 : decode cX4_draw 2 = .ok (.iload_n 3, 1) := by decide +kernel
theorem dX4_draw_3 : decode cX4_draw 3 = .ok (.sipush 384, 3) := by decide +kernel
theorem dX4_draw_6 : decode cX4_draw 6 = .ok (.if_icmp .ge 16, 3) := by decide +kernel
theorem dX4_draw_9 : decode cX4_draw 9 = .ok (.aload_n 0, 1) := by decide +kernel
theorem dX4_draw_10 : decode cX4_draw 10 = .ok (.getfield 9, 3) := by decide +kernel
theorem dX4_draw_13 : decode cX4_draw 13 = .ok (.iload_n 3, 1) := by decide +kernel
theorem dX4_draw_14 : decode cX4_draw 14 = .ok (.iconst 1, 1) := by decide +kernel
theorem dX4_draw_15 : decode cX4_draw 15 = .ok (.bastore, 1) := by decide +kernel
theorem dX4_draw_16 : decode cX4_draw 16 = .ok (.iinc 3 1, 3) := by decide +kernel
theorem dX4_draw_19 : decode cX4_draw 19 = .ok (.goto (-17), 3) := by decide +kernel
theorem dX4_draw_22 : decode cX4_draw 22 = .ok (.iconst 0, 1) := by decide +kernel
theorem dX4_draw_23 : decode cX4_draw 23 = .ok (.istore_n 3, 1) := by decide +kernel
theorem dX4_draw_24 : decode cX4_draw 24 = .ok (.iload_n 3, 1) := by decide +kernel
theorem dX4_draw_25 : decode cX4_draw 25 = .ok (.bipush 12, 2) := by decide +kernel
theorem dX4_draw_27 : decode cX4_draw 27 = .ok (.if_icmp .ge 34, 3) := by decide +kernel
theorem dX4_draw_30 : decode cX4_draw 30 = .ok (.aload_n 1, 1) := by decide +kernel
theorem dX4_draw_31 : decode cX4_draw 31 = .ok (.iload_n 3, 1) := by decide +kernel
theorem dX4_draw_32 : decode cX4_draw 32 = .ok (.invokevirtual 35, 3) := by decide +kernel
theorem dX4_draw_35 : decode cX4_draw 35 = .ok (.ifCond .eq 20, 3) := by decide +kernel
theorem dX4_draw_38 : decode cX4_draw 38 = .ok (.aload_n 1, 1) := by decide +kernel
theorem dX4_draw_39 : decode cX4_draw 39 = .ok (.getfield 41, 3) := by decide +kernel
theorem dX4_draw_42 : decode cX4_draw 42 = .ok (.iload_n 3, 1) := by decide +kernel
theorem dX4_draw_43 : decode cX4_draw 43 = .ok (.invokevirtual 45, 3) := by decide +kernel
theorem dX4_draw_46 : decode cX4_draw 46 = .ok (.ifCond .ne 9, 3) := by decide +kernel
theorem dX4_draw_49 : decode cX4_draw 49 = .ok (.aload_n 0, 1) := by decide +kernel
theorem dX4_draw_50 : decode cX4_draw 50 = .ok (.aload_n 1, 1) := by decide +kernel
theorem dX4_draw_51 : decode cX4_draw 51 = .ok (.iload_n 3, 1) := by decide +kernel
theorem dX4_draw_52 : decode cX4_draw 52 = .ok (.invokevirtual 50, 3) := by decide +kernel
theorem dX4_draw_55 : decode cX4_draw 55 = .ok (.iinc 3 1, 3) := by decide +kernel
theorem dX4_draw_58 : decode cX4_draw 58 = .ok (.goto (-34), 3) := by decide +kernel
theorem dX4_draw_61 : decode cX4_draw 61 = .ok (.aload_n 0, 1) := by decide +kernel
theorem dX4_draw_62 : decode cX4_draw 62 = .ok (.aload_n 1, 1) := by decide +kernel
theorem dX4_draw_63 : decode cX4_draw 63 = .ok (.iload_n 2, 1) := by decide +kernel
theorem dX4_draw_64 : decode cX4_draw 64 = .ok (.iconst 1, 1) := by decide +kernel
theorem dX4_draw_65 : decode cX4_draw 65 = .ok (.invokevirtual 54, 3) := by decide +kernel
theorem dX4_draw_68 : decode cX4_draw 68 = .ok (.putfield 28, 3) := by decide +kernel
theorem dX4_draw_71 : decode cX4_draw 71 = .ok (.aload_n 0, 1) := by decide +kernel
theorem dX4_draw_72 : decode cX4_draw 72 = .ok (.aload_n 1, 1) := by decide +kernel
theorem dX4_draw_73 : decode cX4_draw 73 = .ok (.iload_n 2, 1) := by decide +kernel
theorem dX4_draw_74 : decode cX4_draw 74 = .ok (.iconst 0, 1) := by decide +kernel
theorem dX4_draw_75 : decode cX4_draw 75 = .ok (.invokevirtual 54, 3) := by decide +kernel
theorem dX4_draw_78 : decode cX4_draw 78 = .ok (.putfield 32, 3) := by decide +kernel
theorem dX4_draw_81 : decode cX4_draw 81 = .ok (.return_, 1) := by decide +kernel
theorem dX4_block_0 : decode cX4_block 0 = .ok (.aload_n 1, 1) := by decide +kernel
theorem dX4_block_1 : decode cX4_block 1 = .ok (.getfield 41, 3) := by decide +kernel
theorem dX4_block_4 : decode cX4_block 4 = .ok (.iload_n 2, 1) := by decide +kernel
theorem dX4_block_5 : decode cX4_block 5 = .ok (.invokevirtual 58, 3) := by decide +kernel
theorem dX4_block_8 : decode cX4_block 8 = .ok (.istore_n 3, 1) := by decide +kernel
theorem dX4_block_9 : decode cX4_block 9 = .ok (.aload_n 1, 1) := by decide +kernel
theorem dX4_block_10 : decode cX4_block 10 = .ok (.getfield 41, 3) := by decide +kernel
theorem dX4_block_13 : decode cX4_block 13 = .ok (.iload_n 2, 1) := by decide +kernel
theorem dX4_block_14 : decode cX4_block 14 = .ok (.invokevirtual 62, 3) := by decide +kernel
theorem dX4_block_17 : decode cX4_block 17 = .ok (.istore 4, 2) := by decide +kernel
theorem dX4_block_19 : decode cX4_block 19 = .ok (.iconst 0, 1) := by decide +kernel
theorem dX4_block_20 : decode cX4_block 20 = .ok (.istore 5, 2) := by decide +kernel
theorem dX4_block_22 : decode cX4_block 22 = .ok (.iload 5, 2) := by decide +kernel
theorem dX4_block_24 : decode cX4_block 24 = .ok (.iload_n 3, 1) := by decide +kernel
theorem dX4_block_25 : decode cX4_block 25 = .ok (.if_icmp .ge 67, 3) := by decide +kernel
theorem dX4_block_28 : decode cX4_block 28 = .ok (.iconst 0, 1) := by decide +kernel
theorem dX4_block_29 : decode cX4_block 29 = .ok (.istore 6, 2) := by decide +kernel
theorem dX4_block_31 : decode cX4_block 31 = .ok (.iload 6, 2) := by decide +kernel
theorem dX4_block_33 : decode cX4_block 33 = .ok (.iload 4, 2) := by decide +kernel
theorem dX4_block_35 : decode cX4_block 35 = .ok (.if_icmp .ge 51, 3) := by decide +kernel
theorem dX4_block_38 : decode cX4_block 38 = .ok (.aload_n 1, 1) := by decide +kernel
theorem dX4_block_39 : decode cX4_block 39 = .ok (.iload_n 2, 1) := by decide +kernel
theorem dX4_block_40 : decode cX4_block 40 = .ok (.invokevirtual 65, 3) := by decide +kernel
theorem dX4_block_43 : decode cX4_block 43 = .ok (.iload 5, 2) := by decide +kernel
theorem dX4_block_45 : decode cX4_block 45 = .ok (.iadd, 1) := by decide +kernel
theorem dX4_block_46 : decode cX4_block 46 = .ok (.aload_n 1, 1) := by decide +kernel
theorem dX4_block_47 : decode cX4_block 47 = .ok (.iload_n 2, 1) := by decide +kernel
theorem dX4_block_48 : decode cX4_block 48 = .ok (.invokevirtual 68, 3) := by decide +kernel
theorem dX4_block_51 : decode cX4_block 51 = .ok (.iload 6, 2) := by decide +kernel
theorem dX4_block_53 : decode cX4_block 53 = .ok (.iadd, 1) := by decide +kernel
theorem dX4_block_54 : decode cX4_block 54 = .ok (.invokestatic 71, 3) := by decide +kernel
theorem dX4_block_57 : decode cX4_block 57 = .ok (.istore 7, 2) := by decide +kernel
theorem dX4_block_59 : decode cX4_block 59 = .ok (.iload 7, 2) := by decide +kernel
theorem dX4_block_61 : decode cX4_block 61 = .ok (.ifCond .lt 19, 3) := by decide +kernel
theorem dX4_block_64 : decode cX4_block 64 = .ok (.iload 7, 2) := by decide +kernel
theorem dX4_block_66 : decode cX4_block 66 = .ok (.sipush 384, 3) := by decide +kernel
theorem dX4_block_69 : decode cX4_block 69 = .ok (.if_icmp .ge 11, 3) := by decide +kernel
theorem dX4_block_72 : decode cX4_block 72 = .ok (.aload_n 0, 1) := by decide +kernel
theorem dX4_block_73 : decode cX4_block 73 = .ok (.getfield 9, 3) := by decide +kernel
theorem dX4_block_76 : decode cX4_block 76 = .ok (.iload 7, 2) := by decide +kernel
theorem dX4_block_78 : decode cX4_block 78 = .ok (.iconst 0, 1) := by decide +kernel
theorem dX4_block_79 : decode cX4_block 79 = .ok (.bastore, 1) := by decide +kernel
theorem dX4_block_80 : decode cX4_block 80 = .ok (.iinc 6 1, 3) := by decide +kernel
theorem dX4_block_83 : decode cX4_block 83 = .ok (.goto (-52), 3) := by decide +kernel
theorem dX4_block_86 : decode cX4_block 86 = .ok (.iinc 5 1, 3) := by decide +kernel
theorem dX4_block_89 : decode cX4_block 89 = .ok (.goto (-67), 3) := by decide +kernel
theorem dX4_block_92 : decode cX4_block 92 = .ok (.return_, 1) := by decide +kernel
theorem dX4_fewestTurns_0 : decode cX4_fewestTurns 0 = .ok (.aload_n 0, 1) := by decide +kernel
theorem dX4_fewestTurns_1 : decode cX4_fewestTurns 1 = .ok (.getfield 9, 3) := by decide +kernel
theorem dX4_fewestTurns_4 : decode cX4_fewestTurns 4 = .ok (.aload_n 0, 1) := by decide +kernel
theorem dX4_fewestTurns_5 : decode cX4_fewestTurns 5 = .ok (.getfield 28, 3) := by decide +kernel
theorem dX4_fewestTurns_8 : decode cX4_fewestTurns 8 = .ok (.invokestatic 75, 3) := by decide +kernel
theorem dX4_fewestTurns_11 : decode cX4_fewestTurns 11 = .ok (.ifCond .eq 17, 3) := by decide +kernel
theorem dX4_fewestTurns_14 : decode cX4_fewestTurns 14 = .ok (.aload_n 0, 1) := by decide +kernel
theorem dX4_fewestTurns_15 : decode cX4_fewestTurns 15 = .ok (.getfield 9, 3) := by decide +kernel
theorem dX4_fewestTurns_18 : decode cX4_fewestTurns 18 = .ok (.aload_n 0, 1) := by decide +kernel
theorem dX4_fewestTurns_19 : decode cX4_fewestTurns 19 = .ok (.getfield 32, 3) := by decide +kernel
theorem dX4_fewestTurns_22 : decode cX4_fewestTurns 22 = .ok (.invokestatic 75, 3) := by decide +kernel
theorem dX4_fewestTurns_25 : decode cX4_fewestTurns 25 = .ok (.ifCond .ne 5, 3) := by decide +kernel
theorem dX4_fewestTurns_28 : decode cX4_fewestTurns 28 = .ok (.iconst (-1), 1) := by decide +kernel
theorem dX4_fewestTurns_29 : decode cX4_fewestTurns 29 = .ok (.ireturn, 1) := by decide +kernel
theorem dX4_fewestTurns_30 : decode cX4_fewestTurns 30 = .ok (.aload_n 0, 1) := by decide +kernel
theorem dX4_fewestTurns_31 : decode cX4_fewestTurns 31 = .ok (.invokevirtual 79, 3) := by decide +kernel
theorem dX4_fewestTurns_34 : decode cX4_fewestTurns 34 = .ok (.aload_n 0, 1) := by decide +kernel
theorem dX4_fewestTurns_35 : decode cX4_fewestTurns 35 = .ok (.iconst 0, 1) := by decide +kernel
theorem dX4_fewestTurns_36 : decode cX4_fewestTurns 36 = .ok (.putfield 82, 3) := by decide +kernel
theorem dX4_fewestTurns_39 : decode cX4_fewestTurns 39 = .ok (.aload_n 0, 1) := by decide +kernel
theorem dX4_fewestTurns_40 : decode cX4_fewestTurns 40 = .ok (.iconst 0, 1) := by decide +kernel
theorem dX4_fewestTurns_41 : decode cX4_fewestTurns 41 = .ok (.putfield 85, 3) := by decide +kernel
theorem dX4_fewestTurns_44 : decode cX4_fewestTurns 44 = .ok (.aload_n 0, 1) := by decide +kernel
theorem dX4_fewestTurns_45 : decode cX4_fewestTurns 45 = .ok (.aload_n 0, 1) := by decide +kernel
theorem dX4_fewestTurns_46 : decode cX4_fewestTurns 46 = .ok (.getfield 28, 3) := by decide +kernel
theorem dX4_fewestTurns_49 : decode cX4_fewestTurns 49 = .ok (.iconst 2, 1) := by decide +kernel
theorem dX4_fewestTurns_50 : decode cX4_fewestTurns 50 = .ok (.imul, 1) := by decide +kernel
theorem dX4_fewestTurns_51 : decode cX4_fewestTurns 51 = .ok (.invokevirtual 88, 3) := by decide +kernel
theorem dX4_fewestTurns_54 : decode cX4_fewestTurns 54 = .ok (.aload_n 0, 1) := by decide +kernel
theorem dX4_fewestTurns_55 : decode cX4_fewestTurns 55 = .ok (.aload_n 0, 1) := by decide +kernel
theorem dX4_fewestTurns_56 : decode cX4_fewestTurns 56 = .ok (.getfield 28, 3) := by decide +kernel
theorem dX4_fewestTurns_59 : decode cX4_fewestTurns 59 = .ok (.iconst 2, 1) := by decide +kernel
theorem dX4_fewestTurns_60 : decode cX4_fewestTurns 60 = .ok (.imul, 1) := by decide +kernel
theorem dX4_fewestTurns_61 : decode cX4_fewestTurns 61 = .ok (.iconst 1, 1) := by decide +kernel
theorem dX4_fewestTurns_62 : decode cX4_fewestTurns 62 = .ok (.iadd, 1) := by decide +kernel
theorem dX4_fewestTurns_63 : decode cX4_fewestTurns 63 = .ok (.invokevirtual 88, 3) := by decide +kernel
theorem dX4_fewestTurns_66 : decode cX4_fewestTurns 66 = .ok (.iconst 0, 1) := by decide +kernel
theorem dX4_fewestTurns_67 : decode cX4_fewestTurns 67 = .ok (.istore_n 1, 1) := by decide +kernel
theorem dX4_fewestTurns_68 : decode cX4_fewestTurns 68 = .ok (.iload_n 1, 1) := by decide +kernel
theorem dX4_fewestTurns_69 : decode cX4_fewestTurns 69 = .ok (.sipush 768, 3) := by decide +kernel
theorem dX4_fewestTurns_72 : decode cX4_fewestTurns 72 = .ok (.if_icmp .ge 64, 3) := by decide +kernel
theorem dX4_fewestTurns_75 : decode cX4_fewestTurns 75 = .ok (.aload_n 0, 1) := by decide +kernel
theorem dX4_fewestTurns_76 : decode cX4_fewestTurns 76 = .ok (.getfield 82, 3) := by decide +kernel
theorem dX4_fewestTurns_79 : decode cX4_fewestTurns 79 = .ok (.ifCond .le 57, 3) := by decide +kernel
theorem dX4_fewestTurns_82 : decode cX4_fewestTurns 82 = .ok (.iconst 0, 1) := by decide +kernel
theorem dX4_fewestTurns_83 : decode cX4_fewestTurns 83 = .ok (.istore_n 2, 1) := by decide +kernel
theorem dX4_fewestTurns_84 : decode cX4_fewestTurns 84 = .ok (.iload_n 2, 1) := by decide +kernel
theorem dX4_fewestTurns_85 : decode cX4_fewestTurns 85 = .ok (.aload_n 0, 1) := by decide +kernel
theorem dX4_fewestTurns_86 : decode cX4_fewestTurns 86 = .ok (.getfield 82, 3) := by decide +kernel
theorem dX4_fewestTurns_89 : decode cX4_fewestTurns 89 = .ok (.if_icmp .ge 27, 3) := by decide +kernel
theorem dX4_fewestTurns_92 : decode cX4_fewestTurns 92 = .ok (.iload_n 2, 1) := by decide +kernel
theorem dX4_fewestTurns_93 : decode cX4_fewestTurns 93 = .ok (.sipush 768, 3) := by decide +kernel
theorem dX4_fewestTurns_96 : decode cX4_fewestTurns 96 = .ok (.if_icmp .ge 20, 3) := by decide +kernel
theorem dX4_fewestTurns_99 : decode cX4_fewestTurns 99 = .ok (.aload_n 0, 1) := by decide +kernel
theorem dX4_fewestTurns_100 : decode cX4_fewestTurns 100 = .ok (.aload_n 0, 1) := by decide +kernel
theorem dX4_fewestTurns_101 : decode cX4_fewestTurns 101 = .ok (.getfield 22, 3) := by decide +kernel
theorem dX4_fewestTurns_104 : decode cX4_fewestTurns 104 = .ok (.iload_n 2, 1) := by decide +kernel
theorem dX4_fewestTurns_105 : decode cX4_fewestTurns 105 = .ok (.iaload, 1) := by decide +kernel
theorem dX4_fewestTurns_106 : decode cX4_fewestTurns 106 = .ok (.iload_n 1, 1) := by decide +kernel
theorem dX4_fewestTurns_107 : decode cX4_fewestTurns 107 = .ok (.invokevirtual 92, 3) := by decide +kernel
theorem dX4_fewestTurns_110 : decode cX4_fewestTurns 110 = .ok (.iinc 2 1, 3) := by decide +kernel
theorem dX4_fewestTurns_113 : decode cX4_fewestTurns 113 = .ok (.goto (-29), 3) := by decide +kernel
theorem dX4_fewestTurns_116 : decode cX4_fewestTurns 116 = .ok (.aload_n 0, 1) := by decide +kernel
theorem dX4_fewestTurns_117 : decode cX4_fewestTurns 117 = .ok (.invokevirtual 96, 3) := by decide +kernel
theorem dX4_fewestTurns_120 : decode cX4_fewestTurns 120 = .ok (.iload_n 1, 1) := by decide +kernel
theorem dX4_fewestTurns_121 : decode cX4_fewestTurns 121 = .ok (.if_icmp .ne 5, 3) := by decide +kernel
theorem dX4_fewestTurns_124 : decode cX4_fewestTurns 124 = .ok (.iload_n 1, 1) := by decide +kernel
theorem dX4_fewestTurns_125 : decode cX4_fewestTurns 125 = .ok (.ireturn, 1) := by decide +kernel
theorem dX4_fewestTurns_126 : decode cX4_fewestTurns 126 = .ok (.aload_n 0, 1) := by decide +kernel
theorem dX4_fewestTurns_127 : decode cX4_fewestTurns 127 = .ok (.invokevirtual 100, 3) := by decide +kernel
theorem dX4_fewestTurns_130 : decode cX4_fewestTurns 130 = .ok (.iinc 1 1, 3) := by decide +kernel
theorem dX4_fewestTurns_133 : decode cX4_fewestTurns 133 = .ok (.goto (-65), 3) := by decide +kernel
theorem dX4_fewestTurns_136 : decode cX4_fewestTurns 136 = .ok (.iconst (-1), 1) := by decide +kernel
theorem dX4_fewestTurns_137 : decode cX4_fewestTurns 137 = .ok (.ireturn, 1) := by decide +kernel
theorem dX4_startAnew_0 : decode cX4_startAnew 0 = .ok (.iconst 0, 1) := by decide +kernel
theorem dX4_startAnew_1 : decode cX4_startAnew 1 = .ok (.istore_n 1, 1) := by decide +kernel
theorem dX4_startAnew_2 : decode cX4_startAnew 2 = .ok (.iload_n 1, 1) := by decide +kernel
theorem dX4_startAnew_3 : decode cX4_startAnew 3 = .ok (.sipush 768, 3) := by decide +kernel
theorem dX4_startAnew_6 : decode cX4_startAnew 6 = .ok (.if_icmp .ge 17, 3) := by decide +kernel
theorem dX4_startAnew_9 : decode cX4_startAnew 9 = .ok (.aload_n 0, 1) := by decide +kernel
theorem dX4_startAnew_10 : decode cX4_startAnew 10 = .ok (.getfield 15, 3) := by decide +kernel
theorem dX4_startAnew_13 : decode cX4_startAnew 13 = .ok (.iload_n 1, 1) := by decide +kernel
theorem dX4_startAnew_14 : decode cX4_startAnew 14 = .ok (.ldc 103, 2) := by decide +kernel
theorem dX4_startAnew_16 : decode cX4_startAnew 16 = .ok (.iastore, 1) := by decide +kernel
theorem dX4_startAnew_17 : decode cX4_startAnew 17 = .ok (.iinc 1 1, 3) := by decide +kernel
theorem dX4_startAnew_20 : decode cX4_startAnew 20 = .ok (.goto (-18), 3) := by decide +kernel
theorem dX4_startAnew_23 : decode cX4_startAnew 23 = .ok (.aload_n 0, 1) := by decide +kernel
theorem dX4_startAnew_24 : decode cX4_startAnew 24 = .ok (.getfield 28, 3) := by decide +kernel
theorem dX4_startAnew_27 : decode cX4_startAnew 27 = .ok (.ifCond .lt 39, 3) := by decide +kernel
theorem dX4_startAnew_30 : decode cX4_startAnew 30 = .ok (.aload_n 0, 1) := by decide +kernel
theorem dX4_startAnew_31 : decode cX4_startAnew 31 = .ok (.getfield 28, 3) := by decide +kernel
theorem dX4_startAnew_34 : decode cX4_startAnew 34 = .ok (.sipush 384, 3) := by decide +kernel
theorem dX4_startAnew_37 : decode cX4_startAnew 37 = .ok (.if_icmp .ge 29, 3) := by decide +kernel
theorem dX4_startAnew_40 : decode cX4_startAnew 40 = .ok (.aload_n 0, 1) := by decide +kernel
theorem dX4_startAnew_41 : decode cX4_startAnew 41 = .ok (.getfield 15, 3) := by decide +kernel
theorem dX4_startAnew_44 : decode cX4_startAnew 44 = .ok (.aload_n 0, 1) := by decide +kernel
theorem dX4_startAnew_45 : decode cX4_startAnew 45 = .ok (.getfield 28, 3) := by decide +kernel
theorem dX4_startAnew_48 : decode cX4_startAnew 48 = .ok (.iconst 2, 1) := by decide +kernel
theorem dX4_startAnew_49 : decode cX4_startAnew 49 = .ok (.imul, 1) := by decide +kernel
theorem dX4_startAnew_50 : decode cX4_startAnew 50 = .ok (.iconst 0, 1) := by decide +kernel
theorem dX4_startAnew_51 : decode cX4_startAnew 51 = .ok (.iastore, 1) := by decide +kernel
theorem dX4_startAnew_52 : decode cX4_startAnew 52 = .ok (.aload_n 0, 1) := by decide +kernel
theorem dX4_startAnew_53 : decode cX4_startAnew 53 = .ok (.getfield 15, 3) := by decide +kernel
theorem dX4_startAnew_56 : decode cX4_startAnew 56 = .ok (.aload_n 0, 1) := by decide +kernel
theorem dX4_startAnew_57 : decode cX4_startAnew 57 = .ok (.getfield 28, 3) := by decide +kernel
theorem dX4_startAnew_60 : decode cX4_startAnew 60 = .ok (.iconst 2, 1) := by decide +kernel
theorem dX4_startAnew_61 : decode cX4_startAnew 61 = .ok (.imul, 1) := by decide +kernel
theorem dX4_startAnew_62 : decode cX4_startAnew 62 = .ok (.iconst 1, 1) := by decide +kernel
theorem dX4_startAnew_63 : decode cX4_startAnew 63 = .ok (.iadd, 1) := by decide +kernel
theorem dX4_startAnew_64 : decode cX4_startAnew 64 = .ok (.iconst 0, 1) := by decide +kernel
theorem dX4_startAnew_65 : decode cX4_startAnew 65 = .ok (.iastore, 1) := by decide +kernel
theorem dX4_startAnew_66 : decode cX4_startAnew 66 = .ok (.return_, 1) := by decide +kernel
theorem dX4_turnsAtEnd_0 : decode cX4_turnsAtEnd 0 = .ok (.aload_n 0, 1) := by decide +kernel
theorem dX4_turnsAtEnd_1 : decode cX4_turnsAtEnd 1 = .ok (.getfield 15, 3) := by decide +kernel
theorem dX4_turnsAtEnd_4 : decode cX4_turnsAtEnd 4 = .ok (.aload_n 0, 1) := by decide +kernel
theorem dX4_turnsAtEnd_5 : decode cX4_turnsAtEnd 5 = .ok (.getfield 32, 3) := by decide +kernel
theorem dX4_turnsAtEnd_8 : decode cX4_turnsAtEnd 8 = .ok (.iconst 2, 1) := by decide +kernel
theorem dX4_turnsAtEnd_9 : decode cX4_turnsAtEnd 9 = .ok (.imul, 1) := by decide +kernel
theorem dX4_turnsAtEnd_10 : decode cX4_turnsAtEnd 10 = .ok (.ldc 103, 2) := by decide +kernel
theorem dX4_turnsAtEnd_12 : decode cX4_turnsAtEnd 12 = .ok (.invokestatic 104, 3) := by decide +kernel
theorem dX4_turnsAtEnd_15 : decode cX4_turnsAtEnd 15 = .ok (.aload_n 0, 1) := by decide +kernel
theorem dX4_turnsAtEnd_16 : decode cX4_turnsAtEnd 16 = .ok (.getfield 15, 3) := by decide +kernel
theorem dX4_turnsAtEnd_19 : decode cX4_turnsAtEnd 19 = .ok (.aload_n 0, 1) := by decide +kernel
theorem dX4_turnsAtEnd_20 : decode cX4_turnsAtEnd 20 = .ok (.getfield 32, 3) := by decide +kernel
theorem dX4_turnsAtEnd_23 : decode cX4_turnsAtEnd 23 = .ok (.iconst 2, 1) := by decide +kernel
theorem dX4_turnsAtEnd_24 : decode cX4_turnsAtEnd 24 = .ok (.imul, 1) := by decide +kernel
theorem dX4_turnsAtEnd_25 : decode cX4_turnsAtEnd 25 = .ok (.iconst 1, 1) := by decide +kernel
theorem dX4_turnsAtEnd_26 : decode cX4_turnsAtEnd 26 = .ok (.iadd, 1) := by decide +kernel
theorem dX4_turnsAtEnd_27 : decode cX4_turnsAtEnd 27 = .ok (.ldc 103, 2) := by decide +kernel
theorem dX4_turnsAtEnd_29 : decode cX4_turnsAtEnd 29 = .ok (.invokestatic 104, 3) := by decide +kernel
theorem dX4_turnsAtEnd_32 : decode cX4_turnsAtEnd 32 = .ok (.invokestatic 108, 3) := by decide +kernel
theorem dX4_turnsAtEnd_35 : decode cX4_turnsAtEnd 35 = .ok (.ireturn, 1) := by decide +kernel
theorem dX4_turnPage_0 : decode cX4_turnPage 0 = .ok (.aload_n 0, 1) := by decide +kernel
theorem dX4_turnPage_1 : decode cX4_turnPage 1 = .ok (.getfield 22, 3) := by decide +kernel
theorem dX4_turnPage_4 : decode cX4_turnPage 4 = .ok (.astore_n 1, 1) := by decide +kernel
theorem dX4_turnPage_5 : decode cX4_turnPage 5 = .ok (.aload_n 0, 1) := by decide +kernel
theorem dX4_turnPage_6 : decode cX4_turnPage 6 = .ok (.aload_n 0, 1) := by decide +kernel
theorem dX4_turnPage_7 : decode cX4_turnPage 7 = .ok (.getfield 25, 3) := by decide +kernel
theorem dX4_turnPage_10 : decode cX4_turnPage 10 = .ok (.putfield 22, 3) := by decide +kernel
theorem dX4_turnPage_13 : decode cX4_turnPage 13 = .ok (.aload_n 0, 1) := by decide +kernel
theorem dX4_turnPage_14 : decode cX4_turnPage 14 = .ok (.aload_n 0, 1) := by decide +kernel
theorem dX4_turnPage_15 : decode cX4_turnPage 15 = .ok (.getfield 85, 3) := by decide +kernel
theorem dX4_turnPage_18 : decode cX4_turnPage 18 = .ok (.putfield 82, 3) := by decide +kernel
theorem dX4_turnPage_21 : decode cX4_turnPage 21 = .ok (.aload_n 0, 1) := by decide +kernel
theorem dX4_turnPage_22 : decode cX4_turnPage 22 = .ok (.aload_n 1, 1) := by decide +kernel
theorem dX4_turnPage_23 : decode cX4_turnPage 23 = .ok (.putfield 25, 3) := by decide +kernel
theorem dX4_turnPage_26 : decode cX4_turnPage 26 = .ok (.aload_n 0, 1) := by decide +kernel
theorem dX4_turnPage_27 : decode cX4_turnPage 27 = .ok (.iconst 0, 1) := by decide +kernel
theorem dX4_turnPage_28 : decode cX4_turnPage 28 = .ok (.putfield 85, 3) := by decide +kernel
theorem dX4_turnPage_31 : decode cX4_turnPage 31 = .ok (.return_, 1) := by decide +kernel
theorem dX4_pushHere_0 : decode cX4_pushHere 0 = .ok (.aload_n 0, 1) := by decide +kernel
theorem dX4_pushHere_1 : decode cX4_pushHere 1 = .ok (.getfield 82, 3) := by decide +kernel
theorem dX4_pushHere_4 : decode cX4_pushHere 4 = .ok (.ifCond .lt 35, 3) := by decide +kernel
theorem dX4_pushHere_7 : decode cX4_pushHere 7 = .ok (.aload_n 0, 1) := by decide +kernel
theorem dX4_pushHere_8 : decode cX4_pushHere 8 = .ok (.getfield 82, 3) := by decide +kernel
theorem dX4_pushHere_11 : decode cX4_pushHere 11 = .ok (.aload_n 0, 1) := by decide +kernel
theorem dX4_pushHere_12 : decode cX4_pushHere 12 = .ok (.getfield 22, 3) := by decide +kernel
theorem dX4_pushHere_15 : decode cX4_pushHere 15 = .ok (.arraylength, 1) := by decide +kernel
theorem dX4_pushHere_16 : decode cX4_pushHere 16 = .ok (.if_icmp .ge 23, 3) := by decide +kernel
theorem dX4_pushHere_19 : decode cX4_pushHere 19 = .ok (.aload_n 0, 1) := by decide +kernel
theorem dX4_pushHere_20 : decode cX4_pushHere 20 = .ok (.getfield 22, 3) := by decide +kernel
theorem dX4_pushHere_23 : decode cX4_pushHere 23 = .ok (.aload_n 0, 1) := by decide +kernel
theorem dX4_pushHere_24 : decode cX4_pushHere 24 = .ok (.getfield 82, 3) := by decide +kernel
theorem dX4_pushHere_27 : decode cX4_pushHere 27 = .ok (.iload_n 1, 1) := by decide +kernel
theorem dX4_pushHere_28 : decode cX4_pushHere 28 = .ok (.iastore, 1) := by decide +kernel
theorem dX4_pushHere_29 : decode cX4_pushHere 29 = .ok (.aload_n 0, 1) := by decide +kernel
theorem dX4_pushHere_30 : decode cX4_pushHere 30 = .ok (.dup, 1) := by decide +kernel
theorem dX4_pushHere_31 : decode cX4_pushHere 31 = .ok (.getfield 82, 3) := by decide +kernel
theorem dX4_pushHere_34 : decode cX4_pushHere 34 = .ok (.iconst 1, 1) := by decide +kernel
theorem dX4_pushHere_35 : decode cX4_pushHere 35 = .ok (.iadd, 1) := by decide +kernel
theorem dX4_pushHere_36 : decode cX4_pushHere 36 = .ok (.putfield 82, 3) := by decide +kernel
theorem dX4_pushHere_39 : decode cX4_pushHere 39 = .ok (.return_, 1) := by decide +kernel
theorem dX4_pushLater_0 : decode cX4_pushLater 0 = .ok (.aload_n 0, 1) := by decide +kernel
theorem dX4_pushLater_1 : decode cX4_pushLater 1 = .ok (.getfield 85, 3) := by decide +kernel
theorem dX4_pushLater_4 : decode cX4_pushLater 4 = .ok (.ifCond .lt 35, 3) := by decide +kernel
theorem dX4_pushLater_7 : decode cX4_pushLater 7 = .ok (.aload_n 0, 1) := by decide +kernel
theorem dX4_pushLater_8 : decode cX4_pushLater 8 = .ok (.getfield 85, 3) := by decide +kernel
theorem dX4_pushLater_11 : decode cX4_pushLater 11 = .ok (.aload_n 0, 1) := by decide +kernel
theorem dX4_pushLater_12 : decode cX4_pushLater 12 = .ok (.getfield 25, 3) := by decide +kernel
theorem dX4_pushLater_15 : decode cX4_pushLater 15 = .ok (.arraylength, 1) := by decide +kernel
theorem dX4_pushLater_16 : decode cX4_pushLater 16 = .ok (.if_icmp .ge 23, 3) := by decide +kernel
theorem dX4_pushLater_19 : decode cX4_pushLater 19 = .ok (.aload_n 0, 1) := by decide +kernel
theorem dX4_pushLater_20 : decode cX4_pushLater 20 = .ok (.getfield 25, 3) := by decide +kernel
theorem dX4_pushLater_23 : decode cX4_pushLater 23 = .ok (.aload_n 0, 1) := by decide +kernel
theorem dX4_pushLater_24 : decode cX4_pushLater 24 = .ok (.getfield 85, 3) := by decide +kernel
theorem dX4_pushLater_27 : decode cX4_pushLater 27 = .ok (.iload_n 1, 1) := by decide +kernel
theorem dX4_pushLater_28 : decode cX4_pushLater 28 = .ok (.iastore, 1) := by decide +kernel
theorem dX4_pushLater_29 : decode cX4_pushLater 29 = .ok (.aload_n 0, 1) := by decide +kernel
theorem dX4_pushLater_30 : decode cX4_pushLater 30 = .ok (.dup, 1) := by decide +kernel
theorem dX4_pushLater_31 : decode cX4_pushLater 31 = .ok (.getfield 85, 3) := by decide +kernel
theorem dX4_pushLater_34 : decode cX4_pushLater 34 = .ok (.iconst 1, 1) := by decide +kernel
theorem dX4_pushLater_35 : decode cX4_pushLater 35 = .ok (.iadd, 1) := by decide +kernel
theorem dX4_pushLater_36 : decode cX4_pushLater 36 = .ok (.putfield 85, 3) := by decide +kernel
theorem dX4_pushLater_39 : decode cX4_pushLater 39 = .ok (.return_, 1) := by decide +kernel
theorem dX4_goOn_0 : decode cX4_goOn 0 = .ok (.aload_n 0, 1) := by decide +kernel
theorem dX4_goOn_1 : decode cX4_goOn 1 = .ok (.getfield 15, 3) := by decide +kernel
theorem dX4_goOn_4 : decode cX4_goOn 4 = .ok (.iload_n 1, 1) := by decide +kernel
theorem dX4_goOn_5 : decode cX4_goOn 5 = .ok (.ldc 103, 2) := by decide +kernel
theorem dX4_goOn_7 : decode cX4_goOn 7 = .ok (.invokestatic 104, 3) := by decide +kernel
theorem dX4_goOn_10 : decode cX4_goOn 10 = .ok (.iload_n 2, 1) := by decide +kernel
theorem dX4_goOn_11 : decode cX4_goOn 11 = .ok (.if_icmp .eq 4, 3) := by decide +kernel
theorem dX4_goOn_14 : decode cX4_goOn 14 = .ok (.return_, 1) := by decide +kernel
theorem dX4_goOn_15 : decode cX4_goOn 15 = .ok (.iconst 0, 1) := by decide +kernel
theorem dX4_goOn_16 : decode cX4_goOn 16 = .ok (.istore_n 3, 1) := by decide +kernel
theorem dX4_goOn_17 : decode cX4_goOn 17 = .ok (.iload_n 3, 1) := by decide +kernel
theorem dX4_goOn_18 : decode cX4_goOn 18 = .ok (.iconst 4, 1) := by decide +kernel
theorem dX4_goOn_19 : decode cX4_goOn 19 = .ok (.if_icmp .ge 93, 3) := by decide +kernel
theorem dX4_goOn_22 : decode cX4_goOn 22 = .ok (.aload_n 0, 1) := by decide +kernel
theorem dX4_goOn_23 : decode cX4_goOn 23 = .ok (.iload_n 1, 1) := by decide +kernel
theorem dX4_goOn_24 : decode cX4_goOn 24 = .ok (.iconst 2, 1) := by decide +kernel
theorem dX4_goOn_25 : decode cX4_goOn 25 = .ok (.idiv, 1) := by decide +kernel
theorem dX4_goOn_26 : decode cX4_goOn 26 = .ok (.iload_n 3, 1) := by decide +kernel
theorem dX4_goOn_27 : decode cX4_goOn 27 = .ok (.invokevirtual 113, 3) := by decide +kernel
theorem dX4_goOn_30 : decode cX4_goOn 30 = .ok (.istore 4, 2) := by decide +kernel
theorem dX4_goOn_32 : decode cX4_goOn 32 = .ok (.iload 4, 2) := by decide +kernel
theorem dX4_goOn_34 : decode cX4_goOn 34 = .ok (.iconst 2, 1) := by decide +kernel
theorem dX4_goOn_35 : decode cX4_goOn 35 = .ok (.irem, 1) := by decide +kernel
theorem dX4_goOn_36 : decode cX4_goOn 36 = .ok (.iload_n 1, 1) := by decide +kernel
theorem dX4_goOn_37 : decode cX4_goOn 37 = .ok (.iconst 2, 1) := by decide +kernel
theorem dX4_goOn_38 : decode cX4_goOn 38 = .ok (.irem, 1) := by decide +kernel
theorem dX4_goOn_39 : decode cX4_goOn 39 = .ok (.if_icmp .ne 7, 3) := by decide +kernel
theorem dX4_goOn_42 : decode cX4_goOn 42 = .ok (.iload_n 2, 1) := by decide +kernel
theorem dX4_goOn_43 : decode cX4_goOn 43 = .ok (.goto 6, 3) := by decide +kernel
theorem dX4_goOn_46 : decode cX4_goOn 46 = .ok (.iload_n 2, 1) := by decide +kernel
theorem dX4_goOn_47 : decode cX4_goOn 47 = .ok (.iconst 1, 1) := by decide +kernel
theorem dX4_goOn_48 : decode cX4_goOn 48 = .ok (.iadd, 1) := by decide +kernel
theorem dX4_goOn_49 : decode cX4_goOn 49 = .ok (.istore 5, 2) := by decide +kernel
theorem dX4_goOn_51 : decode cX4_goOn 51 = .ok (.iload 4, 2) := by decide +kernel
theorem dX4_goOn_53 : decode cX4_goOn 53 = .ok (.ifCond .lt 53, 3) := by decide +kernel
theorem dX4_goOn_56 : decode cX4_goOn 56 = .ok (.iload 4, 2) := by decide +kernel
theorem dX4_goOn_58 : decode cX4_goOn 58 = .ok (.sipush 768, 3) := by decide +kernel
theorem dX4_goOn_61 : decode cX4_goOn 61 = .ok (.if_icmp .ge 45, 3) := by decide +kernel
theorem dX4_goOn_64 : decode cX4_goOn 64 = .ok (.iload 5, 2) := by decide +kernel
theorem dX4_goOn_66 : decode cX4_goOn 66 = .ok (.aload_n 0, 1) := by decide +kernel
theorem dX4_goOn_67 : decode cX4_goOn 67 = .ok (.getfield 15, 3) := by decide +kernel
theorem dX4_goOn_70 : decode cX4_goOn 70 = .ok (.iload 4, 2) := by decide +kernel
theorem dX4_goOn_72 : decode cX4_goOn 72 = .ok (.iaload, 1) := by decide +kernel
theorem dX4_goOn_73 : decode cX4_goOn 73 = .ok (.if_icmp .ge 33, 3) := by decide +kernel
theorem dX4_goOn_76 : decode cX4_goOn 76 = .ok (.aload_n 0, 1) := by decide +kernel
theorem dX4_goOn_77 : decode cX4_goOn 77 = .ok (.getfield 15, 3) := by decide +kernel
theorem dX4_goOn_80 : decode cX4_goOn 80 = .ok (.iload 4, 2) := by decide +kernel
theorem dX4_goOn_82 : decode cX4_goOn 82 = .ok (.iload 5, 2) := by decide +kernel
theorem dX4_goOn_84 : decode cX4_goOn 84 = .ok (.iastore, 1) := by decide +kernel
theorem dX4_goOn_85 : decode cX4_goOn 85 = .ok (.iload 5, 2) := by decide +kernel
theorem dX4_goOn_87 : decode cX4_goOn 87 = .ok (.iload_n 2, 1) := by decide +kernel
theorem dX4_goOn_88 : decode cX4_goOn 88 = .ok (.if_icmp .ne 12, 3) := by decide +kernel
theorem dX4_goOn_91 : decode cX4_goOn 91 = .ok (.aload_n 0, 1) := by decide +kernel
theorem dX4_goOn_92 : decode cX4_goOn 92 = .ok (.iload 4, 2) := by decide +kernel
theorem dX4_goOn_94 : decode cX4_goOn 94 = .ok (.invokevirtual 88, 3) := by decide +kernel
theorem dX4_goOn_97 : decode cX4_goOn 97 = .ok (.goto 9, 3) := by decide +kernel
theorem dX4_goOn_100 : decode cX4_goOn 100 = .ok (.aload_n 0, 1) := by decide +kernel
theorem dX4_goOn_101 : decode cX4_goOn 101 = .ok (.iload 4, 2) := by decide +kernel
theorem dX4_goOn_103 : decode cX4_goOn 103 = .ok (.invokevirtual 116, 3) := by decide +kernel
theorem dX4_goOn_106 : decode cX4_goOn 106 = .ok (.iinc 3 1, 3) := by decide +kernel
theorem dX4_goOn_109 : decode cX4_goOn 109 = .ok (.goto (-92), 3) := by decide +kernel
theorem dX4_goOn_112 : decode cX4_goOn 112 = .ok (.return_, 1) := by decide +kernel
theorem dX4_spotBeside_0 : decode cX4_spotBeside 0 = .ok (.iload_n 1, 1) := by decide +kernel
theorem dX4_spotBeside_1 : decode cX4_spotBeside 1 = .ok (.iload_n 2, 1) := by decide +kernel
theorem dX4_spotBeside_2 : decode cX4_spotBeside 2 = .ok (.invokestatic 119, 3) := by decide +kernel
theorem dX4_spotBeside_5 : decode cX4_spotBeside 5 = .ok (.istore_n 3, 1) := by decide +kernel
theorem dX4_spotBeside_6 : decode cX4_spotBeside 6 = .ok (.aload_n 0, 1) := by decide +kernel
theorem dX4_spotBeside_7 : decode cX4_spotBeside 7 = .ok (.getfield 9, 3) := by decide +kernel
theorem dX4_spotBeside_10 : decode cX4_spotBeside 10 = .ok (.iload_n 3, 1) := by decide +kernel
theorem dX4_spotBeside_11 : decode cX4_spotBeside 11 = .ok (.invokestatic 75, 3) := by decide +kernel
theorem dX4_spotBeside_14 : decode cX4_spotBeside 14 = .ok (.ifCond .eq 13, 3) := by decide +kernel
theorem dX4_spotBeside_17 : decode cX4_spotBeside 17 = .ok (.iload_n 3, 1) := by decide +kernel
theorem dX4_spotBeside_18 : decode cX4_spotBeside 18 = .ok (.iconst 2, 1) := by decide +kernel
theorem dX4_spotBeside_19 : decode cX4_spotBeside 19 = .ok (.imul, 1) := by decide +kernel
theorem dX4_spotBeside_20 : decode cX4_spotBeside 20 = .ok (.iload_n 2, 1) := by decide +kernel
theorem dX4_spotBeside_21 : decode cX4_spotBeside 21 = .ok (.iconst 2, 1) := by decide +kernel
theorem dX4_spotBeside_22 : decode cX4_spotBeside 22 = .ok (.idiv, 1) := by decide +kernel
theorem dX4_spotBeside_23 : decode cX4_spotBeside 23 = .ok (.iadd, 1) := by decide +kernel
theorem dX4_spotBeside_24 : decode cX4_spotBeside 24 = .ok (.goto 4, 3) := by decide +kernel
theorem dX4_spotBeside_27 : decode cX4_spotBeside 27 = .ok (.iconst (-1), 1) := by decide +kernel
theorem dX4_spotBeside_28 : decode cX4_spotBeside 28 = .ok (.ireturn, 1) := by decide +kernel
theorem dX4_cellBeside_0 : decode cX4_cellBeside 0 = .ok (.iload_n 0, 1) := by decide +kernel
theorem dX4_cellBeside_1 : decode cX4_cellBeside 1 = .ok (.bipush 24, 2) := by decide +kernel
theorem dX4_cellBeside_3 : decode cX4_cellBeside 3 = .ok (.irem, 1) := by decide +kernel
theorem dX4_cellBeside_4 : decode cX4_cellBeside 4 = .ok (.istore_n 2, 1) := by decide +kernel
theorem dX4_cellBeside_5 : decode cX4_cellBeside 5 = .ok (.iload_n 0, 1) := by decide +kernel
theorem dX4_cellBeside_6 : decode cX4_cellBeside 6 = .ok (.bipush 24, 2) := by decide +kernel
theorem dX4_cellBeside_8 : decode cX4_cellBeside 8 = .ok (.idiv, 1) := by decide +kernel
theorem dX4_cellBeside_9 : decode cX4_cellBeside 9 = .ok (.istore_n 3, 1) := by decide +kernel
theorem dX4_cellBeside_10 : decode cX4_cellBeside 10 = .ok (.iload_n 1, 1) := by decide +kernel
theorem dX4_cellBeside_11 : decode cX4_cellBeside 11 = .ok (.tableswitch 49 0 2 #[25, 33, 41], 25) := by decide +kernel
theorem dX4_cellBeside_36 : decode cX4_cellBeside 36 = .ok (.iload_n 2, 1) := by decide +kernel
theorem dX4_cellBeside_37 : decode cX4_cellBeside 37 = .ok (.iconst 1, 1) := by decide +kernel
theorem dX4_cellBeside_38 : decode cX4_cellBeside 38 = .ok (.isub, 1) := by decide +kernel
theorem dX4_cellBeside_39 : decode cX4_cellBeside 39 = .ok (.iload_n 3, 1) := by decide +kernel
theorem dX4_cellBeside_40 : decode cX4_cellBeside 40 = .ok (.invokestatic 71, 3) := by decide +kernel
theorem dX4_cellBeside_43 : decode cX4_cellBeside 43 = .ok (.ireturn, 1) := by decide +kernel
theorem dX4_cellBeside_44 : decode cX4_cellBeside 44 = .ok (.iload_n 2, 1) := by decide +kernel
theorem dX4_cellBeside_45 : decode cX4_cellBeside 45 = .ok (.iconst 1, 1) := by decide +kernel
theorem dX4_cellBeside_46 : decode cX4_cellBeside 46 = .ok (.iadd, 1) := by decide +kernel
theorem dX4_cellBeside_47 : decode cX4_cellBeside 47 = .ok (.iload_n 3, 1) := by decide +kernel
theorem dX4_cellBeside_48 : decode cX4_cellBeside 48 = .ok (.invokestatic 71, 3) := by decide +kernel
theorem dX4_cellBeside_51 : decode cX4_cellBeside 51 = .ok (.ireturn, 1) := by decide +kernel
theorem dX4_cellBeside_52 : decode cX4_cellBeside 52 = .ok (.iload_n 2, 1) := by decide +kernel
theorem dX4_cellBeside_53 : decode cX4_cellBeside 53 = .ok (.iload_n 3, 1) := by decide +kernel
theorem dX4_cellBeside_54 : decode cX4_cellBeside 54 = .ok (.iconst 1, 1) := by decide +kernel
theorem dX4_cellBeside_55 : decode cX4_cellBeside 55 = .ok (.isub, 1) := by decide +kernel
theorem dX4_cellBeside_56 : decode cX4_cellBeside 56 = .ok (.invokestatic 71, 3) := by decide +kernel
theorem dX4_cellBeside_59 : decode cX4_cellBeside 59 = .ok (.ireturn, 1) := by decide +kernel
theorem dX4_cellBeside_60 : decode cX4_cellBeside 60 = .ok (.iload_n 2, 1) := by decide +kernel
theorem dX4_cellBeside_61 : decode cX4_cellBeside 61 = .ok (.iload_n 3, 1) := by decide +kernel
theorem dX4_cellBeside_62 : decode cX4_cellBeside 62 = .ok (.iconst 1, 1) := by decide +kernel
theorem dX4_cellBeside_63 : decode cX4_cellBeside 63 = .ok (.iadd, 1) := by decide +kernel
theorem dX4_cellBeside_64 : decode cX4_cellBeside 64 = .ok (.invokestatic 71, 3) := by decide +kernel
theorem dX4_cellBeside_67 : decode cX4_cellBeside 67 = .ok (.ireturn, 1) := by decide +kernel
theorem dX4_fewestTurnsByRounds_0 : decode cX4_fewestTurnsByRounds 0 = .ok (.aload_n 0, 1) := by decide +kernel
theorem dX4_fewestTurnsByRounds_1 : decode cX4_fewestTurnsByRounds 1 = .ok (.getfield 9, 3) := by decide +kernel
theorem dX4_fewestTurnsByRounds_4 : decode cX4_fewestTurnsByRounds 4 = .ok (.aload_n 0, 1) := by decide +kernel
theorem dX4_fewestTurnsByRounds_5 : decode cX4_fewestTurnsByRounds 5 = .ok (.getfield 28, 3) := by decide +kernel
theorem dX4_fewestTurnsByRounds_8 : decode cX4_fewestTurnsByRounds 8 = .ok (.invokestatic 75, 3) := by decide +kernel
theorem dX4_fewestTurnsByRounds_11 : decode cX4_fewestTurnsByRounds 11 = .ok (.ifCond .eq 17, 3) := by decide +kernel
theorem dX4_fewestTurnsByRounds_14 : decode cX4_fewestTurnsByRounds 14 = .ok (.aload_n 0, 1) := by decide +kernel
theorem dX4_fewestTurnsByRounds_15 : decode cX4_fewestTurnsByRounds 15 = .ok (.getfield 9, 3) := by decide +kernel
theorem dX4_fewestTurnsByRounds_18 : decode cX4_fewestTurnsByRounds 18 = .ok (.aload_n 0, 1) := by decide +kernel
theorem dX4_fewestTurnsByRounds_19 : decode cX4_fewestTurnsByRounds 19 = .ok (.getfield 32, 3) := by decide +kernel
theorem dX4_fewestTurnsByRounds_22 : decode cX4_fewestTurnsByRounds 22 = .ok (.invokestatic 75, 3) := by decide +kernel
theorem dX4_fewestTurnsByRounds_25 : decode cX4_fewestTurnsByRounds 25 = .ok (.ifCond .ne 5, 3) := by decide +kernel
theorem dX4_fewestTurnsByRounds_28 : decode cX4_fewestTurnsByRounds 28 = .ok (.iconst (-1), 1) := by decide +kernel
theorem dX4_fewestTurnsByRounds_29 : decode cX4_fewestTurnsByRounds 29 = .ok (.ireturn, 1) := by decide +kernel
theorem dX4_fewestTurnsByRounds_30 : decode cX4_fewestTurnsByRounds 30 = .ok (.aload_n 0, 1) := by decide +kernel
theorem dX4_fewestTurnsByRounds_31 : decode cX4_fewestTurnsByRounds 31 = .ok (.invokevirtual 79, 3) := by decide +kernel
theorem dX4_fewestTurnsByRounds_34 : decode cX4_fewestTurnsByRounds 34 = .ok (.iconst 1, 1) := by decide +kernel
theorem dX4_fewestTurnsByRounds_35 : decode cX4_fewestTurnsByRounds 35 = .ok (.istore_n 1, 1) := by decide +kernel
theorem dX4_fewestTurnsByRounds_36 : decode cX4_fewestTurnsByRounds 36 = .ok (.iconst 0, 1) := by decide +kernel
theorem dX4_fewestTurnsByRounds_37 : decode cX4_fewestTurnsByRounds 37 = .ok (.istore_n 2, 1) := by decide +kernel
theorem dX4_fewestTurnsByRounds_38 : decode cX4_fewestTurnsByRounds 38 = .ok (.iload_n 2, 1) := by decide +kernel
theorem dX4_fewestTurnsByRounds_39 : decode cX4_fewestTurnsByRounds 39 = .ok (.sipush 768, 3) := by decide +kernel
theorem dX4_fewestTurnsByRounds_42 : decode cX4_fewestTurnsByRounds 42 = .ok (.if_icmp .ge 49, 3) := by decide +kernel
theorem dX4_fewestTurnsByRounds_45 : decode cX4_fewestTurnsByRounds 45 = .ok (.iload_n 1, 1) := by decide +kernel
theorem dX4_fewestTurnsByRounds_46 : decode cX4_fewestTurnsByRounds 46 = .ok (.ifCond .eq 45, 3) := by decide +kernel
theorem dX4_fewestTurnsByRounds_49 : decode cX4_fewestTurnsByRounds 49 = .ok (.iconst 0, 1) := by decide +kernel
theorem dX4_fewestTurnsByRounds_50 : decode cX4_fewestTurnsByRounds 50 = .ok (.istore_n 1, 1) := by decide +kernel
theorem dX4_fewestTurnsByRounds_51 : decode cX4_fewestTurnsByRounds 51 = .ok (.iconst 0, 1) := by decide +kernel
theorem dX4_fewestTurnsByRounds_52 : decode cX4_fewestTurnsByRounds 52 = .ok (.istore_n 3, 1) := by decide +kernel
theorem dX4_fewestTurnsByRounds_53 : decode cX4_fewestTurnsByRounds 53 = .ok (.iload_n 3, 1) := by decide +kernel
theorem dX4_fewestTurnsByRounds_54 : decode cX4_fewestTurnsByRounds 54 = .ok (.sipush 384, 3) := by decide +kernel
theorem dX4_fewestTurnsByRounds_57 : decode cX4_fewestTurnsByRounds 57 = .ok (.if_icmp .ge 28, 3) := by decide +kernel
theorem dX4_fewestTurnsByRounds_60 : decode cX4_fewestTurnsByRounds 60 = .ok (.aload_n 0, 1) := by decide +kernel
theorem dX4_fewestTurnsByRounds_61 : decode cX4_fewestTurnsByRounds 61 = .ok (.getfield 9, 3) := by decide +kernel
theorem dX4_fewestTurnsByRounds_64 : decode cX4_fewestTurnsByRounds 64 = .ok (.iload_n 3, 1) := by decide +kernel
theorem dX4_fewestTurnsByRounds_65 : decode cX4_fewestTurnsByRounds 65 = .ok (.baload, 1) := by decide +kernel
theorem dX4_fewestTurnsByRounds_66 : decode cX4_fewestTurnsByRounds 66 = .ok (.ifCond .eq 13, 3) := by decide +kernel
theorem dX4_fewestTurnsByRounds_69 : decode cX4_fewestTurnsByRounds 69 = .ok (.aload_n 0, 1) := by decide +kernel
theorem dX4_fewestTurnsByRounds_70 : decode cX4_fewestTurnsByRounds 70 = .ok (.iload_n 3, 1) := by decide +kernel
theorem dX4_fewestTurnsByRounds_71 : decode cX4_fewestTurnsByRounds 71 = .ok (.invokevirtual 122, 3) := by decide +kernel
theorem dX4_fewestTurnsByRounds_74 : decode cX4_fewestTurnsByRounds 74 = .ok (.ifCond .eq 5, 3) := by decide +kernel
theorem dX4_fewestTurnsByRounds_77 : decode cX4_fewestTurnsByRounds 77 = .ok (.iconst 1, 1) := by decide +kernel
theorem dX4_fewestTurnsByRounds_78 : decode cX4_fewestTurnsByRounds 78 = .ok (.istore_n 1, 1) := by decide +kernel
theorem dX4_fewestTurnsByRounds_79 : decode cX4_fewestTurnsByRounds 79 = .ok (.iinc 3 1, 3) := by decide +kernel
theorem dX4_fewestTurnsByRounds_82 : decode cX4_fewestTurnsByRounds 82 = .ok (.goto (-29), 3) := by decide +kernel
theorem dX4_fewestTurnsByRounds_85 : decode cX4_fewestTurnsByRounds 85 = .ok (.iinc 2 1, 3) := by decide +kernel
theorem dX4_fewestTurnsByRounds_88 : decode cX4_fewestTurnsByRounds 88 = .ok (.goto (-50), 3) := by decide +kernel
theorem dX4_fewestTurnsByRounds_91 : decode cX4_fewestTurnsByRounds 91 = .ok (.aload_n 0, 1) := by decide +kernel
theorem dX4_fewestTurnsByRounds_92 : decode cX4_fewestTurnsByRounds 92 = .ok (.invokevirtual 96, 3) := by decide +kernel
theorem dX4_fewestTurnsByRounds_95 : decode cX4_fewestTurnsByRounds 95 = .ok (.ldc 103, 2) := by decide +kernel
theorem dX4_fewestTurnsByRounds_97 : decode cX4_fewestTurnsByRounds 97 = .ok (.if_icmp .ge 10, 3) := by decide +kernel
theorem dX4_fewestTurnsByRounds_100 : decode cX4_fewestTurnsByRounds 100 = .ok (.aload_n 0, 1) := by decide +kernel
theorem dX4_fewestTurnsByRounds_101 : decode cX4_fewestTurnsByRounds 101 = .ok (.invokevirtual 96, 3) := by decide +kernel
theorem dX4_fewestTurnsByRounds_104 : decode cX4_fewestTurnsByRounds 104 = .ok (.goto 4, 3) := by decide +kernel
theorem dX4_fewestTurnsByRounds_107 : decode cX4_fewestTurnsByRounds 107 = .ok (.iconst (-1), 1) := by decide +kernel
theorem dX4_fewestTurnsByRounds_108 : decode cX4_fewestTurnsByRounds 108 = .ok (.ireturn, 1) := by decide +kernel
theorem dX4_improve_0 : decode cX4_improve 0 = .ok (.iconst 0, 1) := by decide +kernel
theorem dX4_improve_1 : decode cX4_improve 1 = .ok (.istore_n 2, 1) := by decide +kernel
theorem dX4_improve_2 : decode cX4_improve 2 = .ok (.iconst 0, 1) := by decide +kernel
theorem dX4_improve_3 : decode cX4_improve 3 = .ok (.istore_n 3, 1) := by decide +kernel
theorem dX4_improve_4 : decode cX4_improve 4 = .ok (.iload_n 3, 1) := by decide +kernel
theorem dX4_improve_5 : decode cX4_improve 5 = .ok (.iconst 4, 1) := by decide +kernel
theorem dX4_improve_6 : decode cX4_improve 6 = .ok (.if_icmp .ge 126, 3) := by decide +kernel
theorem dX4_improve_9 : decode cX4_improve 9 = .ok (.iload_n 1, 1) := by decide +kernel
theorem dX4_improve_10 : decode cX4_improve 10 = .ok (.iload_n 3, 1) := by decide +kernel
theorem dX4_improve_11 : decode cX4_improve 11 = .ok (.invokestatic 119, 3) := by decide +kernel
theorem dX4_improve_14 : decode cX4_improve 14 = .ok (.istore 4, 2) := by decide +kernel
theorem dX4_improve_16 : decode cX4_improve 16 = .ok (.iload_n 3, 1) := by decide +kernel
theorem dX4_improve_17 : decode cX4_improve 17 = .ok (.iconst 2, 1) := by decide +kernel
theorem dX4_improve_18 : decode cX4_improve 18 = .ok (.idiv, 1) := by decide +kernel
theorem dX4_improve_19 : decode cX4_improve 19 = .ok (.istore 5, 2) := by decide +kernel
theorem dX4_improve_21 : decode cX4_improve 21 = .ok (.iload_n 1, 1) := by decide +kernel
theorem dX4_improve_22 : decode cX4_improve 22 = .ok (.iconst 2, 1) := by decide +kernel
theorem dX4_improve_23 : decode cX4_improve 23 = .ok (.imul, 1) := by decide +kernel
theorem dX4_improve_24 : decode cX4_improve 24 = .ok (.iload 5, 2) := by decide +kernel
theorem dX4_improve_26 : decode cX4_improve 26 = .ok (.iadd, 1) := by decide +kernel
theorem dX4_improve_27 : decode cX4_improve 27 = .ok (.istore 6, 2) := by decide +kernel
theorem dX4_improve_29 : decode cX4_improve 29 = .ok (.aload_n 0, 1) := by decide +kernel
theorem dX4_improve_30 : decode cX4_improve 30 = .ok (.getfield 9, 3) := by decide +kernel
theorem dX4_improve_33 : decode cX4_improve 33 = .ok (.iload 4, 2) := by decide +kernel
theorem dX4_improve_35 : decode cX4_improve 35 = .ok (.invokestatic 75, 3) := by decide +kernel
theorem dX4_improve_38 : decode cX4_improve 38 = .ok (.ifCond .eq 88, 3) := by decide +kernel
theorem dX4_improve_41 : decode cX4_improve 41 = .ok (.iload 6, 2) := by decide +kernel
theorem dX4_improve_43 : decode cX4_improve 43 = .ok (.ifCond .lt 83, 3) := by decide +kernel
theorem dX4_improve_46 : decode cX4_improve 46 = .ok (.iload 6, 2) := by decide +kernel
theorem dX4_improve_48 : decode cX4_improve 48 = .ok (.sipush 768, 3) := by decide +kernel
theorem dX4_improve_51 : decode cX4_improve 51 = .ok (.if_icmp .ge 75, 3) := by decide +kernel
theorem dX4_improve_54 : decode cX4_improve 54 = .ok (.aload_n 0, 1) := by decide +kernel
theorem dX4_improve_55 : decode cX4_improve 55 = .ok (.getfield 15, 3) := by decide +kernel
theorem dX4_improve_58 : decode cX4_improve 58 = .ok (.iload 4, 2) := by decide +kernel
theorem dX4_improve_60 : decode cX4_improve 60 = .ok (.iconst 2, 1) := by decide +kernel
theorem dX4_improve_61 : decode cX4_improve 61 = .ok (.imul, 1) := by decide +kernel
theorem dX4_improve_62 : decode cX4_improve 62 = .ok (.iload 5, 2) := by decide +kernel
theorem dX4_improve_64 : decode cX4_improve 64 = .ok (.iadd, 1) := by decide +kernel
theorem dX4_improve_65 : decode cX4_improve 65 = .ok (.ldc 103, 2) := by decide +kernel
theorem dX4_improve_67 : decode cX4_improve 67 = .ok (.invokestatic 104, 3) := by decide +kernel
theorem dX4_improve_70 : decode cX4_improve 70 = .ok (.istore 7, 2) := by decide +kernel
theorem dX4_improve_72 : decode cX4_improve 72 = .ok (.aload_n 0, 1) := by decide +kernel
theorem dX4_improve_73 : decode cX4_improve 73 = .ok (.getfield 15, 3) := by decide +kernel
theorem dX4_improve_76 : decode cX4_improve 76 = .ok (.iload 4, 2) := by decide +kernel
theorem dX4_improve_78 : decode cX4_improve 78 = .ok (.iconst 2, 1) := by decide +kernel
theorem dX4_improve_79 : decode cX4_improve 79 = .ok (.imul, 1) := by decide +kernel
theorem dX4_improve_80 : decode cX4_improve 80 = .ok (.iconst 1, 1) := by decide +kernel
theorem dX4_improve_81 : decode cX4_improve 81 = .ok (.iadd, 1) := by decide +kernel
theorem dX4_improve_82 : decode cX4_improve 82 = .ok (.iload 5, 2) := by decide +kernel
theorem dX4_improve_84 : decode cX4_improve 84 = .ok (.isub, 1) := by decide +kernel
theorem dX4_improve_85 : decode cX4_improve 85 = .ok (.ldc 103, 2) := by decide +kernel
theorem dX4_improve_87 : decode cX4_improve 87 = .ok (.invokestatic 104, 3) := by decide +kernel
theorem dX4_improve_90 : decode cX4_improve 90 = .ok (.iconst 1, 1) := by decide +kernel
theorem dX4_improve_91 : decode cX4_improve 91 = .ok (.iadd, 1) := by decide +kernel
theorem dX4_improve_92 : decode cX4_improve 92 = .ok (.istore 8, 2) := by decide +kernel
theorem dX4_improve_94 : decode cX4_improve 94 = .ok (.iload 7, 2) := by decide +kernel
theorem dX4_improve_96 : decode cX4_improve 96 = .ok (.iload 8, 2) := by decide +kernel
theorem dX4_improve_98 : decode cX4_improve 98 = .ok (.invokestatic 108, 3) := by decide +kernel
theorem dX4_improve_101 : decode cX4_improve 101 = .ok (.istore 9, 2) := by decide +kernel
theorem dX4_improve_103 : decode cX4_improve 103 = .ok (.iload 9, 2) := by decide +kernel
theorem dX4_improve_105 : decode cX4_improve 105 = .ok (.aload_n 0, 1) := by decide +kernel
theorem dX4_improve_106 : decode cX4_improve 106 = .ok (.getfield 15, 3) := by decide +kernel
theorem dX4_improve_109 : decode cX4_improve 109 = .ok (.iload 6, 2) := by decide +kernel
theorem dX4_improve_111 : decode cX4_improve 111 = .ok (.iaload, 1) := by decide +kernel
theorem dX4_improve_112 : decode cX4_improve 112 = .ok (.if_icmp .ge 14, 3) := by decide +kernel
theorem dX4_improve_115 : decode cX4_improve 115 = .ok (.aload_n 0, 1) := by decide +kernel
theorem dX4_improve_116 : decode cX4_improve 116 = .ok (.getfield 15, 3) := by decide +kernel
theorem dX4_improve_119 : decode cX4_improve 119 = .ok (.iload 6, 2) := by decide +kernel
theorem dX4_improve_121 : decode cX4_improve 121 = .ok (.iload 9, 2) := by decide +kernel
theorem dX4_improve_123 : decode cX4_improve 123 = .ok (.iastore, 1) := by decide +kernel
theorem dX4_improve_124 : decode cX4_improve 124 = .ok (.iconst 1, 1) := by decide +kernel
theorem dX4_improve_125 : decode cX4_improve 125 = .ok (.istore_n 2, 1) := by decide +kernel
theorem dX4_improve_126 : decode cX4_improve 126 = .ok (.iinc 3 1, 3) := by decide +kernel
theorem dX4_improve_129 : decode cX4_improve 129 = .ok (.goto (-125), 3) := by decide +kernel
theorem dX4_improve_132 : decode cX4_improve 132 = .ok (.iload_n 2, 1) := by decide +kernel
theorem dX4_improve_133 : decode cX4_improve 133 = .ok (.ireturn, 1) := by decide +kernel
theorem dX4_fewestCells_0 : decode cX4_fewestCells 0 = .ok (.aload_n 0, 1) := by decide +kernel
theorem dX4_fewestCells_1 : decode cX4_fewestCells 1 = .ok (.invokevirtual 125, 3) := by decide +kernel
theorem dX4_fewestCells_4 : decode cX4_fewestCells 4 = .ok (.istore_n 1, 1) := by decide +kernel
theorem dX4_fewestCells_5 : decode cX4_fewestCells 5 = .ok (.iload_n 1, 1) := by decide +kernel
theorem dX4_fewestCells_6 : decode cX4_fewestCells 6 = .ok (.iconst (-1), 1) := by decide +kernel
theorem dX4_fewestCells_7 : decode cX4_fewestCells 7 = .ok (.if_icmp .ne 5, 3) := by decide +kernel
theorem dX4_fewestCells_10 : decode cX4_fewestCells 10 = .ok (.iconst (-1), 1) := by decide +kernel
theorem dX4_fewestCells_11 : decode cX4_fewestCells 11 = .ok (.ireturn, 1) := by decide +kernel
theorem dX4_fewestCells_12 : decode cX4_fewestCells 12 = .ok (.iconst 0, 1) := by decide +kernel
theorem dX4_fewestCells_13 : decode cX4_fewestCells 13 = .ok (.istore_n 2, 1) := by decide +kernel
theorem dX4_fewestCells_14 : decode cX4_fewestCells 14 = .ok (.iload_n 2, 1) := by decide +kernel
theorem dX4_fewestCells_15 : decode cX4_fewestCells 15 = .ok (.sipush 768, 3) := by decide +kernel
theorem dX4_fewestCells_18 : decode cX4_fewestCells 18 = .ok (.if_icmp .ge 16, 3) := by decide +kernel
theorem dX4_fewestCells_21 : decode cX4_fewestCells 21 = .ok (.aload_n 0, 1) := by decide +kernel
theorem dX4_fewestCells_22 : decode cX4_fewestCells 22 = .ok (.getfield 19, 3) := by decide +kernel
theorem dX4_fewestCells_25 : decode cX4_fewestCells 25 = .ok (.iload_n 2, 1) := by decide +kernel
theorem dX4_fewestCells_26 : decode cX4_fewestCells 26 = .ok (.iconst 0, 1) := by decide +kernel
theorem dX4_fewestCells_27 : decode cX4_fewestCells 27 = .ok (.iastore, 1) := by decide +kernel
theorem dX4_fewestCells_28 : decode cX4_fewestCells 28 = .ok (.iinc 2 1, 3) := by decide +kernel
theorem dX4_fewestCells_31 : decode cX4_fewestCells 31 = .ok (.goto (-17), 3) := by decide +kernel
theorem dX4_fewestCells_34 : decode cX4_fewestCells 34 = .ok (.aload_n 0, 1) := by decide +kernel
theorem dX4_fewestCells_35 : decode cX4_fewestCells 35 = .ok (.iconst 0, 1) := by decide +kernel
theorem dX4_fewestCells_36 : decode cX4_fewestCells 36 = .ok (.putfield 82, 3) := by decide +kernel
theorem dX4_fewestCells_39 : decode cX4_fewestCells 39 = .ok (.aload_n 0, 1) := by decide +kernel
theorem dX4_fewestCells_40 : decode cX4_fewestCells 40 = .ok (.aload_n 0, 1) := by decide +kernel
theorem dX4_fewestCells_41 : decode cX4_fewestCells 41 = .ok (.getfield 28, 3) := by decide +kernel
theorem dX4_fewestCells_44 : decode cX4_fewestCells 44 = .ok (.iconst 2, 1) := by decide +kernel
theorem dX4_fewestCells_45 : decode cX4_fewestCells 45 = .ok (.imul, 1) := by decide +kernel
theorem dX4_fewestCells_46 : decode cX4_fewestCells 46 = .ok (.iconst 1, 1) := by decide +kernel
theorem dX4_fewestCells_47 : decode cX4_fewestCells 47 = .ok (.invokevirtual 128, 3) := by decide +kernel
theorem dX4_fewestCells_50 : decode cX4_fewestCells 50 = .ok (.aload_n 0, 1) := by decide +kernel
theorem dX4_fewestCells_51 : decode cX4_fewestCells 51 = .ok (.aload_n 0, 1) := by decide +kernel
theorem dX4_fewestCells_52 : decode cX4_fewestCells 52 = .ok (.getfield 28, 3) := by decide +kernel
theorem dX4_fewestCells_55 : decode cX4_fewestCells 55 = .ok (.iconst 2, 1) := by decide +kernel
theorem dX4_fewestCells_56 : decode cX4_fewestCells 56 = .ok (.imul, 1) := by decide +kernel
theorem dX4_fewestCells_57 : decode cX4_fewestCells 57 = .ok (.iconst 1, 1) := by decide +kernel
theorem dX4_fewestCells_58 : decode cX4_fewestCells 58 = .ok (.iadd, 1) := by decide +kernel
theorem dX4_fewestCells_59 : decode cX4_fewestCells 59 = .ok (.iconst 1, 1) := by decide +kernel
theorem dX4_fewestCells_60 : decode cX4_fewestCells 60 = .ok (.invokevirtual 128, 3) := by decide +kernel
theorem dX4_fewestCells_63 : decode cX4_fewestCells 63 = .ok (.iconst 0, 1) := by decide +kernel
theorem dX4_fewestCells_64 : decode cX4_fewestCells 64 = .ok (.istore_n 2, 1) := by decide +kernel
theorem dX4_fewestCells_65 : decode cX4_fewestCells 65 = .ok (.iload_n 2, 1) := by decide +kernel
theorem dX4_fewestCells_66 : decode cX4_fewestCells 66 = .ok (.aload_n 0, 1) := by decide +kernel
theorem dX4_fewestCells_67 : decode cX4_fewestCells 67 = .ok (.getfield 82, 3) := by decide +kernel
theorem dX4_fewestCells_70 : decode cX4_fewestCells 70 = .ok (.if_icmp .ge 62, 3) := by decide +kernel
theorem dX4_fewestCells_73 : decode cX4_fewestCells 73 = .ok (.iload_n 2, 1) := by decide +kernel
theorem dX4_fewestCells_74 : decode cX4_fewestCells 74 = .ok (.sipush 768, 3) := by decide +kernel
theorem dX4_fewestCells_77 : decode cX4_fewestCells 77 = .ok (.if_icmp .ge 55, 3) := by decide +kernel
theorem dX4_fewestCells_80 : decode cX4_fewestCells 80 = .ok (.aload_n 0, 1) := by decide +kernel
theorem dX4_fewestCells_81 : decode cX4_fewestCells 81 = .ok (.getfield 22, 3) := by decide +kernel
theorem dX4_fewestCells_84 : decode cX4_fewestCells 84 = .ok (.iload_n 2, 1) := by decide +kernel
theorem dX4_fewestCells_85 : decode cX4_fewestCells 85 = .ok (.iaload, 1) := by decide +kernel
theorem dX4_fewestCells_86 : decode cX4_fewestCells 86 = .ok (.istore_n 3, 1) := by decide +kernel
theorem dX4_fewestCells_87 : decode cX4_fewestCells 87 = .ok (.iload_n 3, 1) := by decide +kernel
theorem dX4_fewestCells_88 : decode cX4_fewestCells 88 = .ok (.iconst 2, 1) := by decide +kernel
theorem dX4_fewestCells_89 : decode cX4_fewestCells 89 = .ok (.idiv, 1) := by decide +kernel
theorem dX4_fewestCells_90 : decode cX4_fewestCells 90 = .ok (.aload_n 0, 1) := by decide +kernel
theorem dX4_fewestCells_91 : decode cX4_fewestCells 91 = .ok (.getfield 32, 3) := by decide +kernel
theorem dX4_fewestCells_94 : decode cX4_fewestCells 94 = .ok (.if_icmp .ne 27, 3) := by decide +kernel
theorem dX4_fewestCells_97 : decode cX4_fewestCells 97 = .ok (.aload_n 0, 1) := by decide +kernel
theorem dX4_fewestCells_98 : decode cX4_fewestCells 98 = .ok (.getfield 15, 3) := by decide +kernel
theorem dX4_fewestCells_101 : decode cX4_fewestCells 101 = .ok (.iload_n 3, 1) := by decide +kernel
theorem dX4_fewestCells_102 : decode cX4_fewestCells 102 = .ok (.ldc 103, 2) := by decide +kernel
theorem dX4_fewestCells_104 : decode cX4_fewestCells 104 = .ok (.invokestatic 104, 3) := by decide +kernel
theorem dX4_fewestCells_107 : decode cX4_fewestCells 107 = .ok (.iload_n 1, 1) := by decide +kernel
theorem dX4_fewestCells_108 : decode cX4_fewestCells 108 = .ok (.if_icmp .ne 13, 3) := by decide +kernel
theorem dX4_fewestCells_111 : decode cX4_fewestCells 111 = .ok (.aload_n 0, 1) := by decide +kernel
theorem dX4_fewestCells_112 : decode cX4_fewestCells 112 = .ok (.getfield 19, 3) := by decide +kernel
theorem dX4_fewestCells_115 : decode cX4_fewestCells 115 = .ok (.iload_n 3, 1) := by decide +kernel
theorem dX4_fewestCells_116 : decode cX4_fewestCells 116 = .ok (.iconst (-1), 1) := by decide +kernel
theorem dX4_fewestCells_117 : decode cX4_fewestCells 117 = .ok (.invokestatic 104, 3) := by decide +kernel
theorem dX4_fewestCells_120 : decode cX4_fewestCells 120 = .ok (.ireturn, 1) := by decide +kernel
theorem dX4_fewestCells_121 : decode cX4_fewestCells 121 = .ok (.aload_n 0, 1) := by decide +kernel
theorem dX4_fewestCells_122 : decode cX4_fewestCells 122 = .ok (.iload_n 3, 1) := by decide +kernel
theorem dX4_fewestCells_123 : decode cX4_fewestCells 123 = .ok (.invokevirtual 131, 3) := by decide +kernel
theorem dX4_fewestCells_126 : decode cX4_fewestCells 126 = .ok (.iinc 2 1, 3) := by decide +kernel
theorem dX4_fewestCells_129 : decode cX4_fewestCells 129 = .ok (.goto (-64), 3) := by decide +kernel
theorem dX4_fewestCells_132 : decode cX4_fewestCells 132 = .ok (.iconst (-1), 1) := by decide +kernel
theorem dX4_fewestCells_133 : decode cX4_fewestCells 133 = .ok (.ireturn, 1) := by decide +kernel
theorem dX4_countOn_0 : decode cX4_countOn 0 = .ok (.aload_n 0, 1) := by decide +kernel
theorem dX4_countOn_1 : decode cX4_countOn 1 = .ok (.getfield 15, 3) := by decide +kernel
theorem dX4_countOn_4 : decode cX4_countOn 4 = .ok (.iload_n 1, 1) := by decide +kernel
theorem dX4_countOn_5 : decode cX4_countOn 5 = .ok (.ldc 103, 2) := by decide +kernel
theorem dX4_countOn_7 : decode cX4_countOn 7 = .ok (.invokestatic 104, 3) := by decide +kernel
theorem dX4_countOn_10 : decode cX4_countOn 10 = .ok (.istore_n 2, 1) := by decide +kernel
theorem dX4_countOn_11 : decode cX4_countOn 11 = .ok (.aload_n 0, 1) := by decide +kernel
theorem dX4_countOn_12 : decode cX4_countOn 12 = .ok (.getfield 19, 3) := by decide +kernel
theorem dX4_countOn_15 : decode cX4_countOn 15 = .ok (.iload_n 1, 1) := by decide +kernel
theorem dX4_countOn_16 : decode cX4_countOn 16 = .ok (.iconst 0, 1) := by decide +kernel
theorem dX4_countOn_17 : decode cX4_countOn 17 = .ok (.invokestatic 104, 3) := by decide +kernel
theorem dX4_countOn_20 : decode cX4_countOn 20 = .ok (.istore_n 3, 1) := by decide +kernel
theorem dX4_countOn_21 : decode cX4_countOn 21 = .ok (.iconst 0, 1) := by decide +kernel
theorem dX4_countOn_22 : decode cX4_countOn 22 = .ok (.istore 4, 2) := by decide +kernel
theorem dX4_countOn_24 : decode cX4_countOn 24 = .ok (.iload 4, 2) := by decide +kernel
theorem dX4_countOn_26 : decode cX4_countOn 26 = .ok (.iconst 4, 1) := by decide +kernel
theorem dX4_countOn_27 : decode cX4_countOn 27 = .ok (.if_icmp .ge 64, 3) := by decide +kernel
theorem dX4_countOn_30 : decode cX4_countOn 30 = .ok (.aload_n 0, 1) := by decide +kernel
theorem dX4_countOn_31 : decode cX4_countOn 31 = .ok (.iload_n 1, 1) := by decide +kernel
theorem dX4_countOn_32 : decode cX4_countOn 32 = .ok (.iconst 2, 1) := by decide +kernel
theorem dX4_countOn_33 : decode cX4_countOn 33 = .ok (.idiv, 1) := by decide +kernel
theorem dX4_countOn_34 : decode cX4_countOn 34 = .ok (.iload 4, 2) := by decide +kernel
theorem dX4_countOn_36 : decode cX4_countOn 36 = .ok (.invokevirtual 113, 3) := by decide +kernel
theorem dX4_countOn_39 : decode cX4_countOn 39 = .ok (.istore 5, 2) := by decide +kernel
theorem dX4_countOn_41 : decode cX4_countOn 41 = .ok (.iload 5, 2) := by decide +kernel
theorem dX4_countOn_43 : decode cX4_countOn 43 = .ok (.iconst 2, 1) := by decide +kernel
theorem dX4_countOn_44 : decode cX4_countOn 44 = .ok (.irem, 1) := by decide +kernel
theorem dX4_countOn_45 : decode cX4_countOn 45 = .ok (.iload_n 1, 1) := by decide +kernel
theorem dX4_countOn_46 : decode cX4_countOn 46 = .ok (.iconst 2, 1) := by decide +kernel
theorem dX4_countOn_47 : decode cX4_countOn 47 = .ok (.irem, 1) := by decide +kernel
theorem dX4_countOn_48 : decode cX4_countOn 48 = .ok (.if_icmp .ne 7, 3) := by decide +kernel
theorem dX4_countOn_51 : decode cX4_countOn 51 = .ok (.iload_n 2, 1) := by decide +kernel
theorem dX4_countOn_52 : decode cX4_countOn 52 = .ok (.goto 6, 3) := by decide +kernel
theorem dX4_countOn_55 : decode cX4_countOn 55 = .ok (.iload_n 2, 1) := by decide +kernel
theorem dX4_countOn_56 : decode cX4_countOn 56 = .ok (.iconst 1, 1) := by decide +kernel
theorem dX4_countOn_57 : decode cX4_countOn 57 = .ok (.iadd, 1) := by decide +kernel
theorem dX4_countOn_58 : decode cX4_countOn 58 = .ok (.istore 6, 2) := by decide +kernel
theorem dX4_countOn_60 : decode cX4_countOn 60 = .ok (.aload_n 0, 1) := by decide +kernel
theorem dX4_countOn_61 : decode cX4_countOn 61 = .ok (.getfield 15, 3) := by decide +kernel
theorem dX4_countOn_64 : decode cX4_countOn 64 = .ok (.iload 5, 2) := by decide +kernel
theorem dX4_countOn_66 : decode cX4_countOn 66 = .ok (.ldc 103, 2) := by decide +kernel
theorem dX4_countOn_68 : decode cX4_countOn 68 = .ok (.invokestatic 104, 3) := by decide +kernel
theorem dX4_countOn_71 : decode cX4_countOn 71 = .ok (.iload 6, 2) := by decide +kernel
theorem dX4_countOn_73 : decode cX4_countOn 73 = .ok (.if_icmp .ne 12, 3) := by decide +kernel
theorem dX4_countOn_76 : decode cX4_countOn 76 = .ok (.aload_n 0, 1) := by decide +kernel
theorem dX4_countOn_77 : decode cX4_countOn 77 = .ok (.iload 5, 2) := by decide +kernel
theorem dX4_countOn_79 : decode cX4_countOn 79 = .ok (.iload_n 3, 1) := by decide +kernel
theorem dX4_countOn_80 : decode cX4_countOn 80 = .ok (.iconst 1, 1) := by decide +kernel
theorem dX4_countOn_81 : decode cX4_countOn 81 = .ok (.iadd, 1) := by decide +kernel
theorem dX4_countOn_82 : decode cX4_countOn 82 = .ok (.invokevirtual 128, 3) := by decide +kernel
theorem dX4_countOn_85 : decode cX4_countOn 85 = .ok (.iinc 4 1, 3) := by decide +kernel
theorem dX4_countOn_88 : decode cX4_countOn 88 = .ok (.goto (-64), 3) := by decide +kernel
theorem dX4_countOn_91 : decode cX4_countOn 91 = .ok (.return_, 1) := by decide +kernel
theorem dX4_count_0 : decode cX4_count 0 = .ok (.iload_n 1, 1) := by decide +kernel
theorem dX4_count_1 : decode cX4_count 1 = .ok (.ifCond .lt 31, 3) := by decide +kernel
theorem dX4_count_4 : decode cX4_count 4 = .ok (.iload_n 1, 1) := by decide +kernel
theorem dX4_count_5 : decode cX4_count 5 = .ok (.sipush 768, 3) := by decide +kernel
theorem dX4_count_8 : decode cX4_count 8 = .ok (.if_icmp .ge 24, 3) := by decide +kernel
theorem dX4_count_11 : decode cX4_count 11 = .ok (.aload_n 0, 1) := by decide +kernel
theorem dX4_count_12 : decode cX4_count 12 = .ok (.getfield 19, 3) := by decide +kernel
theorem dX4_count_15 : decode cX4_count 15 = .ok (.iload_n 1, 1) := by decide +kernel
theorem dX4_count_16 : decode cX4_count 16 = .ok (.iaload, 1) := by decide +kernel
theorem dX4_count_17 : decode cX4_count 17 = .ok (.ifCond .ne 15, 3) := by decide +kernel
theorem dX4_count_20 : decode cX4_count 20 = .ok (.aload_n 0, 1) := by decide +kernel
theorem dX4_count_21 : decode cX4_count 21 = .ok (.getfield 19, 3) := by decide +kernel
theorem dX4_count_24 : decode cX4_count 24 = .ok (.iload_n 1, 1) := by decide +kernel
theorem dX4_count_25 : decode cX4_count 25 = .ok (.iload_n 2, 1) := by decide +kernel
theorem dX4_count_26 : decode cX4_count 26 = .ok (.iastore, 1) := by decide +kernel
theorem dX4_count_27 : decode cX4_count 27 = .ok (.aload_n 0, 1) := by decide +kernel
theorem dX4_count_28 : decode cX4_count 28 = .ok (.iload_n 1, 1) := by decide +kernel
theorem dX4_count_29 : decode cX4_count 29 = .ok (.invokevirtual 88, 3) := by decide +kernel
theorem dX4_count_32 : decode cX4_count 32 = .ok (.return_, 1) := by decide +kernel
