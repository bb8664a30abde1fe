theorem dX2_init_0 : decode cX2_init 0 = .ok (.aload_n 0, 1) := by decide +kernel
theorem dX2_init_1 : decode cX2_init 1 = .ok (.invokespecial 3, 3) := by decide +kernel
theorem dX2_init_4 : decode cX2_init 4 = .ok (.aload_n 0, 1) := by decide +kernel
theorem dX2_init_5 : decode cX2_init 5 = .ok (.bipush 12, 2) := by decide +kernel
theorem dX2_init_7 : decode cX2_init 7 = .ok (.newarray .int, 2) := by decide +kernel
theorem dX2_init_9 : decode cX2_init 9 = .ok (.putfield 9, 3) := by decide +kernel
theorem dX2_init_12 : decode cX2_init 12 = .ok (.aload_n 0, 1) := by decide +kernel
theorem dX2_init_13 : decode cX2_init 13 = .ok (.bipush 12, 2) := by decide +kernel
theorem dX2_init_15 : decode cX2_init 15 = .ok (.newarray .int, 2) := by decide +kernel
theorem dX2_init_17 : decode cX2_init 17 = .ok (.putfield 15, 3) := by decide +kernel
theorem dX2_init_20 : decode cX2_init 20 = .ok (.aload_n 0, 1) := by decide +kernel
theorem dX2_init_21 : decode cX2_init 21 = .ok (.bipush 12, 2) := by decide +kernel
theorem dX2_init_23 : decode cX2_init 23 = .ok (.newarray .boolean, 2) := by decide +kernel
theorem dX2_init_25 : decode cX2_init 25 = .ok (.putfield 18, 3) := by decide +kernel
theorem dX2_init_28 : decode cX2_init 28 = .ok (.aload_n 0, 1) := by decide +kernel
theorem dX2_init_29 : decode cX2_init 29 = .ok (.bipush 8, 2) := by decide +kernel
theorem dX2_init_31 : decode cX2_init 31 = .ok (.newarray .int, 2) := by decide +kernel
theorem dX2_init_33 : decode cX2_init 33 = .ok (.putfield 22, 3) := by decide +kernel
theorem dX2_init_36 : decode cX2_init 36 = .ok (.aload_n 0, 1) := by decide +kernel
theorem dX2_init_37 : decode cX2_init 37 = .ok (.bipush 8, 2) := by decide +kernel
theorem dX2_init_39 : decode cX2_init 39 = .ok (.newarray .int, 2) := by decide +kernel
theorem dX2_init_41 : decode cX2_init 41 = .ok (.putfield 25, 3) := by decide +kernel
theorem dX2_init_44 : decode cX2_init 44 = .ok (.aload_n 0, 1) := by decide +kernel
theorem dX2_init_45 : decode cX2_init 45 = .ok (.bipush 8, 2) := by decide +kernel
theorem dX2_init_47 : decode cX2_init 47 = .ok (.newarray .char, 2) := by decide +kernel
theorem dX2_init_49 : decode cX2_init 49 = .ok (.putfield 28, 3) := by decide +kernel
theorem dX2_init_52 : decode cX2_init 52 = .ok (.aload_n 0, 1) := by decide +kernel
theorem dX2_init_53 : decode cX2_init 53 = .ok (.bipush 8, 2) := by decide +kernel
theorem dX2_init_55 : decode cX2_init 55 = .ok (.newarray .char, 2) := by decide +kernel
theorem dX2_init_57 : decode cX2_init 57 = .ok (.putfield 32, 3) := by decide +kernel
theorem dX2_init_60 : decode cX2_init 60 = .ok (.return_, 1) := by decide +kernel
theorem dX2_makeShape_0 : decode cX2_makeShape 0 = .ok (.aload_n 0, 1) := by decide +kernel
theorem dX2_makeShape_1 : decode cX2_makeShape 1 = .ok (.getfield 35, 3) := by decide +kernel
theorem dX2_makeShape_4 : decode cX2_makeShape 4 = .ok (.istore 4, 2) := by decide +kernel
theorem dX2_makeShape_6 : decode cX2_makeShape 6 = .ok (.iload 4, 2) := by decide +kernel
theorem dX2_makeShape_8 : decode cX2_makeShape 8 = .ok (.ifCond .lt 44, 3) := by decide +kernel
theorem dX2_makeShape_11 : decode cX2_makeShape 11 = .ok (.iload 4, 2) := by decide +kernel
theorem dX2_makeShape_13 : decode cX2_makeShape 13 = .ok (.bipush 12, 2) := by decide +kernel
theorem dX2_makeShape_15 : decode cX2_makeShape 15 = .ok (.if_icmp .ge 37, 3) := by decide +kernel
theorem dX2_makeShape_18 : decode cX2_makeShape 18 = .ok (.aload_n 0, 1) := by decide +kernel
theorem dX2_makeShape_19 : decode cX2_makeShape 19 = .ok (.getfield 9, 3) := by decide +kernel
theorem dX2_makeShape_22 : decode cX2_makeShape 22 = .ok (.iload 4, 2) := by decide +kernel
theorem dX2_makeShape_24 : decode cX2_makeShape 24 = .ok (.iload_n 1, 1) := by decide +kernel
theorem dX2_makeShape_25 : decode cX2_makeShape 25 = .ok (.iastore, 1) := by decide +kernel
theorem dX2_makeShape_26 : decode cX2_makeShape 26 = .ok (.aload_n 0, 1) := by decide +kernel
theorem dX2_makeShape_27 : decode cX2_makeShape 27 = .ok (.getfield 15, 3) := by decide +kernel
theorem dX2_makeShape_30 : decode cX2_makeShape 30 = .ok (.iload 4, 2) := by decide +kernel
theorem dX2_makeShape_32 : decode cX2_makeShape 32 = .ok (.iload_n 2, 1) := by decide +kernel
theorem dX2_makeShape_33 : decode cX2_makeShape 33 = .ok (.iastore, 1) := by decide +kernel
theorem dX2_makeShape_34 : decode cX2_makeShape 34 = .ok (.aload_n 0, 1) := by decide +kernel
theorem dX2_makeShape_35 : decode cX2_makeShape 35 = .ok (.getfield 18, 3) := by decide +kernel
theorem dX2_makeShape_38 : decode cX2_makeShape 38 = .ok (.iload 4, 2) := by decide +kernel
theorem dX2_makeShape_40 : decode cX2_makeShape 40 = .ok (.iload_n 3, 1) := by decide +kernel
theorem dX2_makeShape_41 : decode cX2_makeShape 41 = .ok (.bastore, 1) := by decide +kernel
theorem dX2_makeShape_42 : decode cX2_makeShape 42 = .ok (.aload_n 0, 1) := by decide +kernel
theorem dX2_makeShape_43 : decode cX2_makeShape 43 = .ok (.dup, 1) := by decide +kernel
theorem dX2_makeShape_44 : decode cX2_makeShape 44 = .ok (.getfield 35, 3) := by decide +kernel
theorem dX2_makeShape_47 : decode cX2_makeShape 47 = .ok (.iconst 1, 1) := by decide +kernel
theorem dX2_makeShape_48 : decode cX2_makeShape 48 = .ok (.iadd, 1) := by decide +kernel
theorem dX2_makeShape_49 : decode cX2_makeShape 49 = .ok (.putfield 35, 3) := by decide +kernel
theorem dX2_makeShape_52 : decode cX2_makeShape 52 = .ok (.iload 4, 2) := by decide +kernel
theorem dX2_makeShape_54 : decode cX2_makeShape 54 = .ok (.ireturn, 1) := by decide +kernel
theorem dX2_makeConnector_0 : decode cX2_makeConnector 0 = .ok (.aload_n 0, 1) := by decide +kernel
theorem dX2_makeConnector_1 : decode cX2_makeConnector 1 = .ok (.getfield 39, 3) := by decide +kernel
theorem dX2_makeConnector_4 : decode cX2_makeConnector 4 = .ok (.istore 5, 2) := by decide +kernel
theorem dX2_makeConnector_6 : decode cX2_makeConnector 6 = .ok (.iload 5, 2) := by decide +kernel
theorem dX2_makeConnector_8 : decode cX2_makeConnector 8 = .ok (.ifCond .lt 53, 3) := by decide +kernel
theorem dX2_makeConnector_11 : decode cX2_makeConnector 11 = .ok (.iload 5, 2) := by decide +kernel
theorem dX2_makeConnector_13 : decode cX2_makeConnector 13 = .ok (.bipush 8, 2) := by decide +kernel
theorem dX2_makeConnector_15 : decode cX2_makeConnector 15 = .ok (.if_icmp .ge 46, 3) := by decide +kernel
theorem dX2_makeConnector_18 : decode cX2_makeConnector 18 = .ok (.aload_n 0, 1) := by decide +kernel
theorem dX2_makeConnector_19 : decode cX2_makeConnector 19 = .ok (.getfield 22, 3) := by decide +kernel
theorem dX2_makeConnector_22 : decode cX2_makeConnector 22 = .ok (.iload 5, 2) := by decide +kernel
theorem dX2_makeConnector_24 : decode cX2_makeConnector 24 = .ok (.iload_n 1, 1) := by decide +kernel
theorem dX2_makeConnector_25 : decode cX2_makeConnector 25 = .ok (.iastore, 1) := by decide +kernel
theorem dX2_makeConnector_26 : decode cX2_makeConnector 26 = .ok (.aload_n 0, 1) := by decide +kernel
theorem dX2_makeConnector_27 : decode cX2_makeConnector 27 = .ok (.getfield 28, 3) := by decide +kernel
theorem dX2_makeConnector_30 : decode cX2_makeConnector 30 = .ok (.iload 5, 2) := by decide +kernel
theorem dX2_makeConnector_32 : decode cX2_makeConnector 32 = .ok (.iload_n 2, 1) := by decide +kernel
theorem dX2_makeConnector_33 : decode cX2_makeConnector 33 = .ok (.castore, 1) := by decide +kernel
theorem dX2_makeConnector_34 : decode cX2_makeConnector 34 = .ok (.aload_n 0, 1) := by decide +kernel
theorem dX2_makeConnector_35 : decode cX2_makeConnector 35 = .ok (.getfield 25, 3) := by decide +kernel
theorem dX2_makeConnector_38 : decode cX2_makeConnector 38 = .ok (.iload 5, 2) := by decide +kernel
theorem dX2_makeConnector_40 : decode cX2_makeConnector 40 = .ok (.iload_n 3, 1) := by decide +kernel
theorem dX2_makeConnector_41 : decode cX2_makeConnector 41 = .ok (.iastore, 1) := by decide +kernel
theorem dX2_makeConnector_42 : decode cX2_makeConnector 42 = .ok (.aload_n 0, 1) := by decide +kernel
theorem dX2_makeConnector_43 : decode cX2_makeConnector 43 = .ok (.getfield 32, 3) := by decide +kernel
theorem dX2_makeConnector_46 : decode cX2_makeConnector 46 = .ok (.iload 5, 2) := by decide +kernel
theorem dX2_makeConnector_48 : decode cX2_makeConnector 48 = .ok (.iload 4, 2) := by decide +kernel
theorem dX2_makeConnector_50 : decode cX2_makeConnector 50 = .ok (.castore, 1) := by decide +kernel
theorem dX2_makeConnector_51 : decode cX2_makeConnector 51 = .ok (.aload_n 0, 1) := by decide +kernel
theorem dX2_makeConnector_52 : decode cX2_makeConnector 52 = .ok (.dup, 1) := by decide +kernel
theorem dX2_makeConnector_53 : decode cX2_makeConnector 53 = .ok (.getfield 39, 3) := by decide +kernel
theorem dX2_makeConnector_56 : decode cX2_makeConnector 56 = .ok (.iconst 1, 1) := by decide +kernel
theorem dX2_makeConnector_57 : decode cX2_makeConnector 57 = .ok (.iadd, 1) := by decide +kernel
theorem dX2_makeConnector_58 : decode cX2_makeConnector 58 = .ok (.putfield 39, 3) := by decide +kernel
theorem dX2_makeConnector_61 : decode cX2_makeConnector 61 = .ok (.iload 5, 2) := by decide +kernel
theorem dX2_makeConnector_63 : decode cX2_makeConnector 63 = .ok (.ireturn, 1) := by decide +kernel
theorem dX2_hasShape_0 : decode cX2_hasShape 0 = .ok (.iload_n 1, 1) := by decide +kernel
theorem dX2_hasShape_1 : decode cX2_hasShape 1 = .ok (.ifCond .lt 15, 3) := by decide +kernel
theorem dX2_hasShape_4 : decode cX2_hasShape 4 = .ok (.iload_n 1, 1) := by decide +kernel
theorem dX2_hasShape_5 : decode cX2_hasShape 5 = .ok (.aload_n 0, 1) := by decide +kernel
theorem dX2_hasShape_6 : decode cX2_hasShape 6 = .ok (.getfield 35, 3) := by decide +kernel
theorem dX2_hasShape_9 : decode cX2_hasShape 9 = .ok (.if_icmp .ge 7, 3) := by decide +kernel
theorem dX2_hasShape_12 : decode cX2_hasShape 12 = .ok (.iconst 1, 1) := by decide +kernel
theorem dX2_hasShape_13 : decode cX2_hasShape 13 = .ok (.goto 4, 3) := by decide +kernel
theorem dX2_hasShape_16 : decode cX2_hasShape 16 = .ok (.iconst 0, 1) := by decide +kernel
theorem dX2_hasShape_17 : decode cX2_hasShape 17 = .ok (.ireturn, 1) := by decide +kernel
theorem dX2_hasConnector_0 : decode cX2_hasConnector 0 = .ok (.iload_n 1, 1) := by decide +kernel
theorem dX2_hasConnector_1 : decode cX2_hasConnector 1 = .ok (.ifCond .lt 15, 3) := by decide +kernel
theorem dX2_hasConnector_4 : decode cX2_hasConnector 4 = .ok (.iload_n 1, 1) := by decide +kernel
theorem dX2_hasConnector_5 : decode cX2_hasConnector 5 = .ok (.aload_n 0, 1) := by decide +kernel
theorem dX2_hasConnector_6 : decode cX2_hasConnector 6 = .ok (.getfield 39, 3) := by decide +kernel
theorem dX2_hasConnector_9 : decode cX2_hasConnector 9 = .ok (.if_icmp .ge 7, 3) := by decide +kernel
theorem dX2_hasConnector_12 : decode cX2_hasConnector 12 = .ok (.iconst 1, 1) := by decide +kernel
theorem dX2_hasConnector_13 : decode cX2_hasConnector 13 = .ok (.goto 4, 3) := by decide +kernel
theorem dX2_hasConnector_16 : decode cX2_hasConnector 16 = .ok (.iconst 0, 1) := by decide +kernel
theorem dX2_hasConnector_17 : decode cX2_hasConnector 17 = .ok (.ireturn, 1) := by decide +kernel
theorem dX2_widthAt_0 : decode cX2_widthAt 0 = .ok (.aload_n 0, 1) := by decide +kernel
theorem dX2_widthAt_1 : decode cX2_widthAt 1 = .ok (.getfield 9, 3) := by decide +kernel
theorem dX2_widthAt_4 : decode cX2_widthAt 4 = .ok (.iload_n 1, 1) := by decide +kernel
theorem dX2_widthAt_5 : decode cX2_widthAt 5 = .ok (.iconst 1, 1) := by decide +kernel
theorem dX2_widthAt_6 : decode cX2_widthAt 6 = .ok (.invokestatic 42, 3) := by decide +kernel
theorem dX2_widthAt_9 : decode cX2_widthAt 9 = .ok (.ireturn, 1) := by decide +kernel
theorem dX2_heightAt_0 : decode cX2_heightAt 0 = .ok (.aload_n 0, 1) := by decide +kernel
theorem dX2_heightAt_1 : decode cX2_heightAt 1 = .ok (.getfield 15, 3) := by decide +kernel
theorem dX2_heightAt_4 : decode cX2_heightAt 4 = .ok (.iload_n 1, 1) := by decide +kernel
theorem dX2_heightAt_5 : decode cX2_heightAt 5 = .ok (.iconst 1, 1) := by decide +kernel
theorem dX2_heightAt_6 : decode cX2_heightAt 6 = .ok (.invokestatic 42, 3) := by decide +kernel
theorem dX2_heightAt_9 : decode cX2_heightAt 9 = .ok (.ireturn, 1) := by decide +kernel
theorem dX2_isFrameAt_0 : decode cX2_isFrameAt 0 = .ok (.aload_n 0, 1) := by decide +kernel
theorem dX2_isFrameAt_1 : decode cX2_isFrameAt 1 = .ok (.getfield 18, 3) := by decide +kernel
theorem dX2_isFrameAt_4 : decode cX2_isFrameAt 4 = .ok (.iload_n 1, 1) := by decide +kernel
theorem dX2_isFrameAt_5 : decode cX2_isFrameAt 5 = .ok (.invokestatic 46, 3) := by decide +kernel
theorem dX2_isFrameAt_8 : decode cX2_isFrameAt 8 = .ok (.ireturn, 1) := by decide +kernel
theorem dX2_shapeOfEnd_0 : decode cX2_shapeOfEnd 0 = .ok (.iload_n 2, 1) := by decide +kernel
theorem dX2_shapeOfEnd_1 : decode cX2_shapeOfEnd 1 = .ok (.ifCond .eq 10, 3) := by decide +kernel
theorem dX2_shapeOfEnd_4 : decode cX2_shapeOfEnd 4 = .ok (.aload_n 0, 1) := by decide +kernel
theorem dX2_shapeOfEnd_5 : decode cX2_shapeOfEnd 5 = .ok (.getfield 22, 3) := by decide +kernel
theorem dX2_shapeOfEnd_8 : decode cX2_shapeOfEnd 8 = .ok (.goto 7, 3) := by decide +kernel
theorem dX2_shapeOfEnd_11 : decode cX2_shapeOfEnd 11 = .ok (.aload_n 0, 1) := by decide +kernel
theorem dX2_shapeOfEnd_12 : decode cX2_shapeOfEnd 12 = .ok (.getfield 25, 3) := by decide +kernel
theorem dX2_shapeOfEnd_15 : decode cX2_shapeOfEnd 15 = .ok (.iload_n 1, 1) := by decide +kernel
theorem dX2_shapeOfEnd_16 : decode cX2_shapeOfEnd 16 = .ok (.iconst (-1), 1) := by decide +kernel
theorem dX2_shapeOfEnd_17 : decode cX2_shapeOfEnd 17 = .ok (.invokestatic 42, 3) := by decide +kernel
theorem dX2_shapeOfEnd_20 : decode cX2_shapeOfEnd 20 = .ok (.ireturn, 1) := by decide +kernel
theorem dX2_sideOfEnd_0 : decode cX2_sideOfEnd 0 = .ok (.iload_n 2, 1) := by decide +kernel
theorem dX2_sideOfEnd_1 : decode cX2_sideOfEnd 1 = .ok (.ifCond .eq 10, 3) := by decide +kernel
theorem dX2_sideOfEnd_4 : decode cX2_sideOfEnd 4 = .ok (.aload_n 0, 1) := by decide +kernel
theorem dX2_sideOfEnd_5 : decode cX2_sideOfEnd 5 = .ok (.getfield 28, 3) := by decide +kernel
theorem dX2_sideOfEnd_8 : decode cX2_sideOfEnd 8 = .ok (.goto 7, 3) := by decide +kernel
theorem dX2_sideOfEnd_11 : decode cX2_sideOfEnd 11 = .ok (.aload_n 0, 1) := by decide +kernel
theorem dX2_sideOfEnd_12 : decode cX2_sideOfEnd 12 = .ok (.getfield 32, 3) := by decide +kernel
theorem dX2_sideOfEnd_15 : decode cX2_sideOfEnd 15 = .ok (.astore_n 3, 1) := by decide +kernel
theorem dX2_sideOfEnd_16 : decode cX2_sideOfEnd 16 = .ok (.iload_n 1, 1) := by decide +kernel
theorem dX2_sideOfEnd_17 : decode cX2_sideOfEnd 17 = .ok (.ifCond .lt 15, 3) := by decide +kernel
theorem dX2_sideOfEnd_20 : decode cX2_sideOfEnd 20 = .ok (.iload_n 1, 1) := by decide +kernel
theorem dX2_sideOfEnd_21 : decode cX2_sideOfEnd 21 = .ok (.aload_n 3, 1) := by decide +kernel
theorem dX2_sideOfEnd_22 : decode cX2_sideOfEnd 22 = .ok (.arraylength, 1) := by decide +kernel
theorem dX2_sideOfEnd_23 : decode cX2_sideOfEnd 23 = .ok (.if_icmp .ge 9, 3) := by decide +kernel
theorem dX2_sideOfEnd_26 : decode cX2_sideOfEnd 26 = .ok (.aload_n 3, 1) := by decide +kernel
theorem dX2_sideOfEnd_27 : decode cX2_sideOfEnd 27 = .ok (.iload_n 1, 1) := by decide +kernel
theorem dX2_sideOfEnd_28 : decode cX2_sideOfEnd 28 = .ok (.caload, 1) := by decide +kernel
theorem dX2_sideOfEnd_29 : decode cX2_sideOfEnd 29 = .ok (.goto 5, 3) := by decide +kernel
theorem dX2_sideOfEnd_32 : decode cX2_sideOfEnd 32 = .ok (.bipush 116, 2) := by decide +kernel
theorem dX2_sideOfEnd_34 : decode cX2_sideOfEnd 34 = .ok (.ireturn, 1) := by decide +kernel
theorem dX5_init_0 : decode cX5_init 0 = .ok (.aload_n 0, 1) := by decide +kernel
theorem dX5_init_1 : decode cX5_init 1 = .ok (.invokespecial 3, 3) := by decide +kernel
theorem dX5_init_4 : decode cX5_init 4 = .ok (.aload_n 0, 1) := by decide +kernel
theorem dX5_init_5 : decode cX5_init 5 = .ok (.sipush 250, 3) := by decide +kernel
theorem dX5_init_8 : decode cX5_init 8 = .ok (.newarray .boolean, 2) := by decide +kernel
theorem dX5_init_10 : decode cX5_init 10 = .ok (.putfield 9, 3) := by decide +kernel
theorem dX5_init_13 : decode cX5_init 13 = .ok (.aload_n 0, 1) := by decide +kernel
theorem dX5_init_14 : decode cX5_init 14 = .ok (.iconst (-1), 1) := by decide +kernel
theorem dX5_init_15 : decode cX5_init 15 = .ok (.putfield 15, 3) := by decide +kernel
theorem dX5_init_18 : decode cX5_init 18 = .ok (.aload_n 0, 1) := by decide +kernel
theorem dX5_init_19 : decode cX5_init 19 = .ok (.iload_n 1, 1) := by decide +kernel
theorem dX5_init_20 : decode cX5_init 20 = .ok (.putfield 19, 3) := by decide +kernel
theorem dX5_init_23 : decode cX5_init 23 = .ok (.aload_n 0, 1) := by decide +kernel
theorem dX5_init_24 : decode cX5_init 24 = .ok (.aload_n 2, 1) := by decide +kernel
theorem dX5_init_25 : decode cX5_init 25 = .ok (.putfield 22, 3) := by decide +kernel
theorem dX5_init_28 : decode cX5_init 28 = .ok (.aload_n 0, 1) := by decide +kernel
theorem dX5_init_29 : decode cX5_init 29 = .ok (.new 26, 3) := by decide +kernel
theorem dX5_init_32 : decode cX5_init 32 = .ok (.dup, 1) := by decide +kernel
theorem dX5_init_33 : decode cX5_init 33 = .ok (.aload_n 2, 1) := by decide +kernel
theorem dX5_init_34 : decode cX5_init 34 = .ok (.invokespecial 28, 3) := by decide +kernel
theorem dX5_init_37 : decode cX5_init 37 = .ok (.putfield 31, 3) := by decide +kernel
theorem dX5_init_40 : decode cX5_init 40 = .ok (.aload_n 0, 1) := by decide +kernel
theorem dX5_init_41 : decode cX5_init 41 = .ok (.new 35, 3) := by decide +kernel
theorem dX5_init_44 : decode cX5_init 44 = .ok (.dup, 1) := by decide +kernel
theorem dX5_init_45 : decode cX5_init 45 = .ok (.aload_n 0, 1) := by decide +kernel
theorem dX5_init_46 : decode cX5_init 46 = .ok (.getfield 31, 3) := by decide +kernel
theorem dX5_init_49 : decode cX5_init 49 = .ok (.aload_n 3, 1) := by decide +kernel
theorem dX5_init_50 : decode cX5_init 50 = .ok (.invokespecial 37, 3) := by decide +kernel
theorem dX5_init_53 : decode cX5_init 53 = .ok (.putfield 40, 3) := by decide +kernel
theorem dX5_init_56 : decode cX5_init 56 = .ok (.return_, 1) := by decide +kernel
theorem dX5_isKnown_0 : decode cX5_isKnown 0 = .ok (.aload_n 0, 1) := by decide +kernel
theorem dX5_isKnown_1 : decode cX5_isKnown 1 = .ok (.getfield 9, 3) := by decide +kernel
theorem dX5_isKnown_4 : decode cX5_isKnown 4 = .ok (.iload_n 1, 1) := by decide +kernel
theorem dX5_isKnown_5 : decode cX5_isKnown 5 = .ok (.invokestatic 44, 3) := by decide +kernel
theorem dX5_isKnown_8 : decode cX5_isKnown 8 = .ok (.ireturn, 1) := by decide +kernel
theorem dX5_learn_0 : decode cX5_learn 0 = .ok (.iload_n 1, 1) := by decide +kernel
theorem dX5_learn_1 : decode cX5_learn 1 = .ok (.ifCond .lt 10, 3) := by decide +kernel
theorem dX5_learn_4 : decode cX5_learn 4 = .ok (.iload_n 1, 1) := by decide +kernel
theorem dX5_learn_5 : decode cX5_learn 5 = .ok (.sipush 250, 3) := by decide +kernel
theorem dX5_learn_8 : decode cX5_learn 8 = .ok (.if_icmp .lt 4, 3) := by decide +kernel
theorem dX5_learn_11 : decode cX5_learn 11 = .ok (.return_, 1) := by decide +kernel
theorem dX5_learn_12 : decode cX5_learn 12 = .ok (.aload_n 0, 1) := by decide +kernel
theorem dX5_learn_13 : decode cX5_learn 13 = .ok (.getfield 9, 3) := by decide +kernel
theorem dX5_learn_16 : decode cX5_learn 16 = .ok (.iload_n 1, 1) := by decide +kernel
theorem dX5_learn_17 : decode cX5_learn 17 = .ok (.iconst 1, 1) := by decide +kernel
theorem dX5_learn_18 : decode cX5_learn 18 = .ok (.bastore, 1) := by decide +kernel
theorem dX5_learn_19 : decode cX5_learn 19 = .ok (.aload_n 0, 1) := by decide +kernel
theorem dX5_learn_20 : decode cX5_learn 20 = .ok (.dup, 1) := by decide +kernel
theorem dX5_learn_21 : decode cX5_learn 21 = .ok (.getfield 48, 3) := by decide +kernel
theorem dX5_learn_24 : decode cX5_learn 24 = .ok (.iconst 1, 1) := by decide +kernel
theorem dX5_learn_25 : decode cX5_learn 25 = .ok (.iadd, 1) := by decide +kernel
theorem dX5_learn_26 : decode cX5_learn 26 = .ok (.putfield 48, 3) := by decide +kernel
theorem dX5_learn_29 : decode cX5_learn 29 = .ok (.aload_n 0, 1) := by decide +kernel
theorem dX5_learn_30 : decode cX5_learn 30 = .ok (.aload_n 0, 1) := by decide +kernel
theorem dX5_learn_31 : decode cX5_learn 31 = .ok (.getfield 51, 3) := by decide +kernel
theorem dX5_learn_34 : decode cX5_learn 34 = .ok (.aload_n 0, 1) := by decide +kernel
theorem dX5_learn_35 : decode cX5_learn 35 = .ok (.getfield 22, 3) := by decide +kernel
theorem dX5_learn_38 : decode cX5_learn 38 = .ok (.iload_n 1, 1) := by decide +kernel
theorem dX5_learn_39 : decode cX5_learn 39 = .ok (.invokevirtual 54, 3) := by decide +kernel
theorem dX5_learn_42 : decode cX5_learn 42 = .ok (.invokestatic 60, 3) := by decide +kernel
theorem dX5_learn_45 : decode cX5_learn 45 = .ok (.putfield 51, 3) := by decide +kernel
theorem dX5_learn_48 : decode cX5_learn 48 = .ok (.aload_n 0, 1) := by decide +kernel
theorem dX5_learn_49 : decode cX5_learn 49 = .ok (.getfield 31, 3) := by decide +kernel
theorem dX5_learn_52 : decode cX5_learn 52 = .ok (.iload_n 1, 1) := by decide +kernel
theorem dX5_learn_53 : decode cX5_learn 53 = .ok (.invokevirtual 66, 3) := by decide +kernel
theorem dX5_learn_56 : decode cX5_learn 56 = .ok (.return_, 1) := by decide +kernel
theorem dX5_begin_0 : decode cX5_begin 0 = .ok (.aload_n 0, 1) := by decide +kernel
theorem dX5_begin_1 : decode cX5_begin 1 = .ok (.aload_n 0, 1) := by decide +kernel
theorem dX5_begin_2 : decode cX5_begin 2 = .ok (.getfield 22, 3) := by decide +kernel
theorem dX5_begin_5 : decode cX5_begin 5 = .ok (.aload_n 0, 1) := by decide +kernel
theorem dX5_begin_6 : decode cX5_begin 6 = .ok (.getfield 19, 3) := by decide +kernel
theorem dX5_begin_9 : decode cX5_begin 9 = .ok (.aload_n 0, 1) := by decide +kernel
theorem dX5_begin_10 : decode cX5_begin 10 = .ok (.getfield 51, 3) := by decide +kernel
theorem dX5_begin_13 : decode cX5_begin 13 = .ok (.iconst 1, 1) := by decide +kernel
theorem dX5_begin_14 : decode cX5_begin 14 = .ok (.iadd, 1) := by decide +kernel
theorem dX5_begin_15 : decode cX5_begin 15 = .ok (.iload_n 1, 1) := by decide +kernel
theorem dX5_begin_16 : decode cX5_begin 16 = .ok (.invokevirtual 70, 3) := by decide +kernel
theorem dX5_begin_19 : decode cX5_begin 19 = .ok (.putfield 15, 3) := by decide +kernel
theorem dX5_begin_22 : decode cX5_begin 22 = .ok (.return_, 1) := by decide +kernel
theorem dX5_write_0 : decode cX5_write 0 = .ok (.aload_n 0, 1) := by decide +kernel
theorem dX5_write_1 : decode cX5_write 1 = .ok (.getfield 22, 3) := by decide +kernel
theorem dX5_write_4 : decode cX5_write 4 = .ok (.iload_n 1, 1) := by decide +kernel
theorem dX5_write_5 : decode cX5_write 5 = .ok (.fload_n 2, 1) := by decide +kernel
theorem dX5_write_6 : decode cX5_write 6 = .ok (.aload_n 0, 1) := by decide +kernel
theorem dX5_write_7 : decode cX5_write 7 = .ok (.getfield 15, 3) := by decide +kernel
theorem dX5_write_10 : decode cX5_write 10 = .ok (.invokevirtual 74, 3) := by decide +kernel
theorem dX5_write_13 : decode cX5_write 13 = .ok (.aload_n 0, 1) := by decide +kernel
theorem dX5_write_14 : decode cX5_write 14 = .ok (.getfield 22, 3) := by decide +kernel
theorem dX5_write_17 : decode cX5_write 17 = .ok (.aload_n 0, 1) := by decide +kernel
theorem dX5_write_18 : decode cX5_write 18 = .ok (.getfield 31, 3) := by decide +kernel
theorem dX5_write_21 : decode cX5_write 21 = .ok (.iload_n 1, 1) := by decide +kernel
theorem dX5_write_22 : decode cX5_write 22 = .ok (.invokevirtual 78, 3) := by decide +kernel
theorem dX5_write_25 : decode cX5_write 25 = .ok (.aload_n 0, 1) := by decide +kernel
theorem dX5_write_26 : decode cX5_write 26 = .ok (.getfield 31, 3) := by decide +kernel
theorem dX5_write_29 : decode cX5_write 29 = .ok (.iload_n 1, 1) := by decide +kernel
theorem dX5_write_30 : decode cX5_write 30 = .ok (.invokevirtual 82, 3) := by decide +kernel
theorem dX5_write_33 : decode cX5_write 33 = .ok (.invokevirtual 85, 3) := by decide +kernel
theorem dX5_write_36 : decode cX5_write 36 = .ok (.return_, 1) := by decide +kernel
theorem dX5_end_0 : decode cX5_end 0 = .ok (.aload_n 0, 1) := by decide +kernel
theorem dX5_end_1 : decode cX5_end 1 = .ok (.aload_n 0, 1) := by decide +kernel
theorem dX5_end_2 : decode cX5_end 2 = .ok (.getfield 15, 3) := by decide +kernel
theorem dX5_end_5 : decode cX5_end 5 = .ok (.invokevirtual 89, 3) := by decide +kernel
theorem dX5_end_8 : decode cX5_end 8 = .ok (.return_, 1) := by decide +kernel
theorem dX5_step_0 : decode cX5_step 0 = .ok (.aload_n 0, 1) := by decide +kernel
theorem dX5_step_1 : decode cX5_step 1 = .ok (.iconst 1, 1) := by decide +kernel
theorem dX5_step_2 : decode cX5_step 2 = .ok (.invokevirtual 92, 3) := by decide +kernel
theorem dX5_step_5 : decode cX5_step 5 = .ok (.aload_n 0, 1) := by decide +kernel
theorem dX5_step_6 : decode cX5_step 6 = .ok (.iload_n 1, 1) := by decide +kernel
theorem dX5_step_7 : decode cX5_step 7 = .ok (.fload_n 2, 1) := by decide +kernel
theorem dX5_step_8 : decode cX5_step 8 = .ok (.invokevirtual 96, 3) := by decide +kernel
theorem dX5_step_11 : decode cX5_step 11 = .ok (.aload_n 0, 1) := by decide +kernel
theorem dX5_step_12 : decode cX5_step 12 = .ok (.invokevirtual 100, 3) := by decide +kernel
theorem dX5_step_15 : decode cX5_step 15 = .ok (.return_, 1) := by decide +kernel
theorem dX5_undo_0 : decode cX5_undo 0 = .ok (.iconst 0, 1) := by decide +kernel
theorem dX5_undo_1 : decode cX5_undo 1 = .ok (.istore_n 2, 1) := by decide +kernel
theorem dX5_undo_2 : decode cX5_undo 2 = .ok (.aload_n 0, 1) := by decide +kernel
theorem dX5_undo_3 : decode cX5_undo 3 = .ok (.getfield 22, 3) := by decide +kernel
theorem dX5_undo_6 : decode cX5_undo 6 = .ok (.iload_n 1, 1) := by decide +kernel
theorem dX5_undo_7 : decode cX5_undo 7 = .ok (.invokevirtual 103, 3) := by decide +kernel
theorem dX5_undo_10 : decode cX5_undo 10 = .ok (.aload_n 0, 1) := by decide +kernel
theorem dX5_undo_11 : decode cX5_undo 11 = .ok (.iconst 0, 1) := by decide +kernel
theorem dX5_undo_12 : decode cX5_undo 12 = .ok (.invokevirtual 92, 3) := by decide +kernel
theorem dX5_undo_15 : decode cX5_undo 15 = .ok (.aload_n 0, 1) := by decide +kernel
theorem dX5_undo_16 : decode cX5_undo 16 = .ok (.getfield 22, 3) := by decide +kernel
theorem dX5_undo_19 : decode cX5_undo 19 = .ok (.iload_n 1, 1) := by decide +kernel
theorem dX5_undo_20 : decode cX5_undo 20 = .ok (.invokevirtual 106, 3) := by decide +kernel
theorem dX5_undo_23 : decode cX5_undo 23 = .ok (.istore_n 3, 1) := by decide +kernel
theorem dX5_undo_24 : decode cX5_undo 24 = .ok (.aload_n 0, 1) := by decide +kernel
theorem dX5_undo_25 : decode cX5_undo 25 = .ok (.getfield 22, 3) := by decide +kernel
theorem dX5_undo_28 : decode cX5_undo 28 = .ok (.iload_n 1, 1) := by decide +kernel
theorem dX5_undo_29 : decode cX5_undo 29 = .ok (.invokevirtual 109, 3) := by decide +kernel
theorem dX5_undo_32 : decode cX5_undo 32 = .ok (.istore 4, 2) := by decide +kernel
theorem dX5_undo_34 : decode cX5_undo 34 = .ok (.iload 4, 2) := by decide +kernel
theorem dX5_undo_36 : decode cX5_undo 36 = .ok (.iload_n 3, 1) := by decide +kernel
theorem dX5_undo_37 : decode cX5_undo 37 = .ok (.if_icmp .ge 74, 3) := by decide +kernel
theorem dX5_undo_40 : decode cX5_undo 40 = .ok (.aload_n 0, 1) := by decide +kernel
theorem dX5_undo_41 : decode cX5_undo 41 = .ok (.getfield 22, 3) := by decide +kernel
theorem dX5_undo_44 : decode cX5_undo 44 = .ok (.getfield 112, 3) := by decide +kernel
theorem dX5_undo_47 : decode cX5_undo 47 = .ok (.iload 4, 2) := by decide +kernel
theorem dX5_undo_49 : decode cX5_undo 49 = .ok (.iconst (-1), 1) := by decide +kernel
theorem dX5_undo_50 : decode cX5_undo 50 = .ok (.invokestatic 116, 3) := by decide +kernel
theorem dX5_undo_53 : decode cX5_undo 53 = .ok (.istore 5, 2) := by decide +kernel
theorem dX5_undo_55 : decode cX5_undo 55 = .ok (.aload_n 0, 1) := by decide +kernel
theorem dX5_undo_56 : decode cX5_undo 56 = .ok (.getfield 31, 3) := by decide +kernel
theorem dX5_undo_59 : decode cX5_undo 59 = .ok (.iload 5, 2) := by decide +kernel
theorem dX5_undo_61 : decode cX5_undo 61 = .ok (.invokevirtual 82, 3) := by decide +kernel
theorem dX5_undo_64 : decode cX5_undo 64 = .ok (.iload_n 1, 1) := by decide +kernel
theorem dX5_undo_65 : decode cX5_undo 65 = .ok (.if_icmp .ne 40, 3) := by decide +kernel
theorem dX5_undo_68 : decode cX5_undo 68 = .ok (.aload_n 0, 1) := by decide +kernel
theorem dX5_undo_69 : decode cX5_undo 69 = .ok (.getfield 22, 3) := by decide +kernel
theorem dX5_undo_72 : decode cX5_undo 72 = .ok (.iload 5, 2) := by decide +kernel
theorem dX5_undo_74 : decode cX5_undo 74 = .ok (.aload_n 0, 1) := by decide +kernel
theorem dX5_undo_75 : decode cX5_undo 75 = .ok (.getfield 22, 3) := by decide +kernel
theorem dX5_undo_78 : decode cX5_undo 78 = .ok (.getfield 120, 3) := by decide +kernel
theorem dX5_undo_81 : decode cX5_undo 81 = .ok (.iload 4, 2) := by decide +kernel
theorem dX5_undo_83 : decode cX5_undo 83 = .ok (.invokestatic 124, 3) := by decide +kernel
theorem dX5_undo_86 : decode cX5_undo 86 = .ok (.aload_n 0, 1) := by decide +kernel
theorem dX5_undo_87 : decode cX5_undo 87 = .ok (.getfield 22, 3) := by decide +kernel
theorem dX5_undo_90 : decode cX5_undo 90 = .ok (.getfield 128, 3) := by decide +kernel
theorem dX5_undo_93 : decode cX5_undo 93 = .ok (.iload 4, 2) := by decide +kernel
theorem dX5_undo_95 : decode cX5_undo 95 = .ok (.iconst (-1), 1) := by decide +kernel
theorem dX5_undo_96 : decode cX5_undo 96 = .ok (.invokestatic 116, 3) := by decide +kernel
theorem dX5_undo_99 : decode cX5_undo 99 = .ok (.invokevirtual 74, 3) := by decide +kernel
theorem dX5_undo_102 : decode cX5_undo 102 = .ok (.iinc 2 1, 3) := by decide +kernel
theorem dX5_undo_105 : decode cX5_undo 105 = .ok (.iinc 4 1, 3) := by decide +kernel
theorem dX5_undo_108 : decode cX5_undo 108 = .ok (.goto (-74), 3) := by decide +kernel
theorem dX5_undo_111 : decode cX5_undo 111 = .ok (.aload_n 0, 1) := by decide +kernel
theorem dX5_undo_112 : decode cX5_undo 112 = .ok (.invokevirtual 100, 3) := by decide +kernel
theorem dX5_undo_115 : decode cX5_undo 115 = .ok (.iload_n 2, 1) := by decide +kernel
theorem dX5_undo_116 : decode cX5_undo 116 = .ok (.ireturn, 1) := by decide +kernel
theorem dX6_init_0 : decode cX6_init 0 = .ok (.aload_n 0, 1) := by decide +kernel
theorem dX6_init_1 : decode cX6_init 1 = .ok (.invokespecial 3, 3) := by decide +kernel
theorem dX6_init_4 : decode cX6_init 4 = .ok (.aload_n 0, 1) := by decide +kernel
theorem dX6_init_5 : decode cX6_init 5 = .ok (.aload_n 1, 1) := by decide +kernel
theorem dX6_init_6 : decode cX6_init 6 = .ok (.putfield 9, 3) := by decide +kernel
theorem dX6_init_9 : decode cX6_init 9 = .ok (.aload_n 0, 1) := by decide +kernel
theorem dX6_init_10 : decode cX6_init 10 = .ok (.aload_n 2, 1) := by decide +kernel
theorem dX6_init_11 : decode cX6_init 11 = .ok (.putfield 15, 3) := by decide +kernel
theorem dX6_init_14 : decode cX6_init 14 = .ok (.return_, 1) := by decide +kernel
theorem dX6_isSeen_0 : decode cX6_isSeen 0 = .ok (.aload_n 0, 1) := by decide +kernel
theorem dX6_isSeen_1 : decode cX6_isSeen 1 = .ok (.getfield 15, 3) := by decide +kernel
theorem dX6_isSeen_4 : decode cX6_isSeen 4 = .ok (.iload_n 1, 1) := by decide +kernel
theorem dX6_isSeen_5 : decode cX6_isSeen 5 = .ok (.invokevirtual 19, 3) := by decide +kernel
theorem dX6_isSeen_8 : decode cX6_isSeen 8 = .ok (.ifCond .eq 22, 3) := by decide +kernel
theorem dX6_isSeen_11 : decode cX6_isSeen 11 = .ok (.aload_n 0, 1) := by decide +kernel
theorem dX6_isSeen_12 : decode cX6_isSeen 12 = .ok (.getfield 9, 3) := by decide +kernel
theorem dX6_isSeen_15 : decode cX6_isSeen 15 = .ok (.iconst 0, 1) := by decide +kernel
theorem dX6_isSeen_16 : decode cX6_isSeen 16 = .ok (.iload_n 1, 1) := by decide +kernel
theorem dX6_isSeen_17 : decode cX6_isSeen 17 = .ok (.iadd, 1) := by decide +kernel
theorem dX6_isSeen_18 : decode cX6_isSeen 18 = .ok (.invokevirtual 25, 3) := by decide +kernel
theorem dX6_isSeen_21 : decode cX6_isSeen 21 = .ok (.fconst 0, 1) := by decide +kernel
theorem dX6_isSeen_22 : decode cX6_isSeen 22 = .ok (.fcmp .l, 1) := by decide +kernel
theorem dX6_isSeen_23 : decode cX6_isSeen 23 = .ok (.ifCond .eq 7, 3) := by decide +kernel
theorem dX6_isSeen_26 : decode cX6_isSeen 26 = .ok (.iconst 1, 1) := by decide +kernel
theorem dX6_isSeen_27 : decode cX6_isSeen 27 = .ok (.goto 4, 3) := by decide +kernel
theorem dX6_isSeen_30 : decode cX6_isSeen 30 = .ok (.iconst 0, 1) := by decide +kernel
theorem dX6_isSeen_31 : decode cX6_isSeen 31 = .ok (.ireturn, 1) := by decide +kernel
theorem dX6_countShapes_0 : decode cX6_countShapes 0 = .ok (.iconst 0, 1) := by decide +kernel
theorem dX6_countShapes_1 : decode cX6_countShapes 1 = .ok (.istore_n 1, 1) := by decide +kernel
theorem dX6_countShapes_2 : decode cX6_countShapes 2 = .ok (.iconst 0, 1) := by decide +kernel
theorem dX6_countShapes_3 : decode cX6_countShapes 3 = .ok (.istore_n 2, 1) := by decide +kernel
theorem dX6_countShapes_4 : decode cX6_countShapes 4 = .ok (.iload_n 2, 1) := by decide +kernel
theorem dX6_countShapes_5 : decode cX6_countShapes 5 = .ok (.bipush 12, 2) := by decide +kernel
theorem dX6_countShapes_7 : decode cX6_countShapes 7 = .ok (.if_icmp .ge 20, 3) := by decide +kernel
theorem dX6_countShapes_10 : decode cX6_countShapes 10 = .ok (.aload_n 0, 1) := by decide +kernel
theorem dX6_countShapes_11 : decode cX6_countShapes 11 = .ok (.iload_n 2, 1) := by decide +kernel
theorem dX6_countShapes_12 : decode cX6_countShapes 12 = .ok (.invokevirtual 31, 3) := by decide +kernel
theorem dX6_countShapes_15 : decode cX6_countShapes 15 = .ok (.ifCond .eq 6, 3) := by decide +kernel
theorem dX6_countShapes_18 : decode cX6_countShapes 18 = .ok (.iinc 1 1, 3) := by decide +kernel
theorem dX6_countShapes_21 : decode cX6_countShapes 21 = .ok (.iinc 2 1, 3) := by decide +kernel
theorem dX6_countShapes_24 : decode cX6_countShapes 24 = .ok (.goto (-20), 3) := by decide +kernel
theorem dX6_countShapes_27 : decode cX6_countShapes 27 = .ok (.iload_n 1, 1) := by decide +kernel
theorem dX6_countShapes_28 : decode cX6_countShapes 28 = .ok (.ireturn, 1) := by decide +kernel
theorem dX6_countFrames_0 : decode cX6_countFrames 0 = .ok (.iconst 0, 1) := by decide +kernel
theorem dX6_countFrames_1 : decode cX6_countFrames 1 = .ok (.istore_n 1, 1) := by decide +kernel
theorem dX6_countFrames_2 : decode cX6_countFrames 2 = .ok (.iconst 0, 1) := by decide +kernel
theorem dX6_countFrames_3 : decode cX6_countFrames 3 = .ok (.istore_n 2, 1) := by decide +kernel
theorem dX6_countFrames_4 : decode cX6_countFrames 4 = .ok (.iload_n 2, 1) := by decide +kernel
theorem dX6_countFrames_5 : decode cX6_countFrames 5 = .ok (.bipush 12, 2) := by decide +kernel
theorem dX6_countFrames_7 : decode cX6_countFrames 7 = .ok (.if_icmp .ge 31, 3) := by decide +kernel
theorem dX6_countFrames_10 : decode cX6_countFrames 10 = .ok (.aload_n 0, 1) := by decide +kernel
theorem dX6_countFrames_11 : decode cX6_countFrames 11 = .ok (.iload_n 2, 1) := by decide +kernel
theorem dX6_countFrames_12 : decode cX6_countFrames 12 = .ok (.invokevirtual 31, 3) := by decide +kernel
theorem dX6_countFrames_15 : decode cX6_countFrames 15 = .ok (.ifCond .eq 17, 3) := by decide +kernel
theorem dX6_countFrames_18 : decode cX6_countFrames 18 = .ok (.aload_n 0, 1) := by decide +kernel
theorem dX6_countFrames_19 : decode cX6_countFrames 19 = .ok (.getfield 15, 3) := by decide +kernel
theorem dX6_countFrames_22 : decode cX6_countFrames 22 = .ok (.iload_n 2, 1) := by decide +kernel
theorem dX6_countFrames_23 : decode cX6_countFrames 23 = .ok (.invokevirtual 34, 3) := by decide +kernel
theorem dX6_countFrames_26 : decode cX6_countFrames 26 = .ok (.ifCond .eq 6, 3) := by decide +kernel
theorem dX6_countFrames_29 : decode cX6_countFrames 29 = .ok (.iinc 1 1, 3) := by decide +kernel
theorem dX6_countFrames_32 : decode cX6_countFrames 32 = .ok (.iinc 2 1, 3) := by decide +kernel
theorem dX6_countFrames_35 : decode cX6_countFrames 35 = .ok (.goto (-31), 3) := by decide +kernel
theorem dX6_countFrames_38 : decode cX6_countFrames 38 = .ok (.iload_n 1, 1) := by decide +kernel
theorem dX6_countFrames_39 : decode cX6_countFrames 39 = .ok (.ireturn, 1) := by decide +kernel
theorem dX6_sumOfAreas_0 : decode cX6_sumOfAreas 0 = .ok (.lconst 0, 1) := by decide +kernel
theorem dX6_sumOfAreas_1 : decode cX6_sumOfAreas 1 = .ok (.lstore_n 1, 1) := by decide +kernel
theorem dX6_sumOfAreas_2 : decode cX6_sumOfAreas 2 = .ok (.iconst 0, 1) := by decide +kernel
theorem dX6_sumOfAreas_3 : decode cX6_sumOfAreas 3 = .ok (.istore_n 3, 1) := by decide +kernel
theorem dX6_sumOfAreas_4 : decode cX6_sumOfAreas 4 = .ok (.iload_n 3, 1) := by decide +kernel
theorem dX6_sumOfAreas_5 : decode cX6_sumOfAreas 5 = .ok (.bipush 12, 2) := by decide +kernel
theorem dX6_sumOfAreas_7 : decode cX6_sumOfAreas 7 = .ok (.if_icmp .ge 39, 3) := by decide +kernel
theorem dX6_sumOfAreas_10 : decode cX6_sumOfAreas 10 = .ok (.aload_n 0, 1) := by decide +kernel
theorem dX6_sumOfAreas_11 : decode cX6_sumOfAreas 11 = .ok (.iload_n 3, 1) := by decide +kernel
theorem dX6_sumOfAreas_12 : decode cX6_sumOfAreas 12 = .ok (.invokevirtual 31, 3) := by decide +kernel
theorem dX6_sumOfAreas_15 : decode cX6_sumOfAreas 15 = .ok (.ifCond .eq 25, 3) := by decide +kernel
theorem dX6_sumOfAreas_18 : decode cX6_sumOfAreas 18 = .ok (.lload_n 1, 1) := by decide +kernel
theorem dX6_sumOfAreas_19 : decode cX6_sumOfAreas 19 = .ok (.aload_n 0, 1) := by decide +kernel
theorem dX6_sumOfAreas_20 : decode cX6_sumOfAreas 20 = .ok (.getfield 15, 3) := by decide +kernel
theorem dX6_sumOfAreas_23 : decode cX6_sumOfAreas 23 = .ok (.iload_n 3, 1) := by decide +kernel
theorem dX6_sumOfAreas_24 : decode cX6_sumOfAreas 24 = .ok (.invokevirtual 37, 3) := by decide +kernel
theorem dX6_sumOfAreas_27 : decode cX6_sumOfAreas 27 = .ok (.i2l, 1) := by decide +kernel
theorem dX6_sumOfAreas_28 : decode cX6_sumOfAreas 28 = .ok (.aload_n 0, 1) := by decide +kernel
theorem dX6_sumOfAreas_29 : decode cX6_sumOfAreas 29 = .ok (.getfield 15, 3) := by decide +kernel
theorem dX6_sumOfAreas_32 : decode cX6_sumOfAreas 32 = .ok (.iload_n 3, 1) := by decide +kernel
theorem dX6_sumOfAreas_33 : decode cX6_sumOfAreas 33 = .ok (.invokevirtual 41, 3) := by decide +kernel
theorem dX6_sumOfAreas_36 : decode cX6_sumOfAreas 36 = .ok (.i2l, 1) := by decide +kernel
theorem dX6_sumOfAreas_37 : decode cX6_sumOfAreas 37 = .ok (.lmul, 1) := by decide +kernel
theorem dX6_sumOfAreas_38 : decode cX6_sumOfAreas 38 = .ok (.ladd, 1) := by decide +kernel
theorem dX6_sumOfAreas_39 : decode cX6_sumOfAreas 39 = .ok (.lstore_n 1, 1) := by decide +kernel
theorem dX6_sumOfAreas_40 : decode cX6_sumOfAreas 40 = .ok (.iinc 3 1, 3) := by decide +kernel
theorem dX6_sumOfAreas_43 : decode cX6_sumOfAreas 43 = .ok (.goto (-39), 3) := by decide +kernel
theorem dX6_sumOfAreas_46 : decode cX6_sumOfAreas 46 = .ok (.lload_n 1, 1) := by decide +kernel
theorem dX6_sumOfAreas_47 : decode cX6_sumOfAreas 47 = .ok (.lreturn, 1) := by decide +kernel
theorem dX6_cellUnder_0 : decode cX6_cellUnder 0 = .ok (.aload_n 0, 1) := by decide +kernel
theorem dX6_cellUnder_1 : decode cX6_cellUnder 1 = .ok (.getfield 9, 3) := by decide +kernel
theorem dX6_cellUnder_4 : decode cX6_cellUnder 4 = .ok (.bipush 12, 2) := by decide +kernel
theorem dX6_cellUnder_6 : decode cX6_cellUnder 6 = .ok (.iload_n 1, 1) := by decide +kernel
theorem dX6_cellUnder_7 : decode cX6_cellUnder 7 = .ok (.iadd, 1) := by decide +kernel
theorem dX6_cellUnder_8 : decode cX6_cellUnder 8 = .ok (.invokevirtual 25, 3) := by decide +kernel
theorem dX6_cellUnder_11 : decode cX6_cellUnder 11 = .ok (.f2i, 1) := by decide +kernel
theorem dX6_cellUnder_12 : decode cX6_cellUnder 12 = .ok (.ireturn, 1) := by decide +kernel
theorem dX6_columnAt_0 : decode cX6_columnAt 0 = .ok (.aload_n 0, 1) := by decide +kernel
theorem dX6_columnAt_1 : decode cX6_columnAt 1 = .ok (.getfield 9, 3) := by decide +kernel
theorem dX6_columnAt_4 : decode cX6_columnAt 4 = .ok (.bipush 12, 2) := by decide +kernel
theorem dX6_columnAt_6 : decode cX6_columnAt 6 = .ok (.iload_n 1, 1) := by decide +kernel
theorem dX6_columnAt_7 : decode cX6_columnAt 7 = .ok (.iadd, 1) := by decide +kernel
theorem dX6_columnAt_8 : decode cX6_columnAt 8 = .ok (.invokevirtual 25, 3) := by decide +kernel
theorem dX6_columnAt_11 : decode cX6_columnAt 11 = .ok (.f2i, 1) := by decide +kernel
theorem dX6_columnAt_12 : decode cX6_columnAt 12 = .ok (.bipush 24, 2) := by decide +kernel
theorem dX6_columnAt_14 : decode cX6_columnAt 14 = .ok (.irem, 1) := by decide +kernel
theorem dX6_columnAt_15 : decode cX6_columnAt 15 = .ok (.ireturn, 1) := by decide +kernel
theorem dX6_rowAt_0 : decode cX6_rowAt 0 = .ok (.aload_n 0, 1) := by decide +kernel
theorem dX6_rowAt_1 : decode cX6_rowAt 1 = .ok (.getfield 9, 3) := by decide +kernel
theorem dX6_rowAt_4 : decode cX6_rowAt 4 = .ok (.bipush 12, 2) := by decide +kernel
theorem dX6_rowAt_6 : decode cX6_rowAt 6 = .ok (.iload_n 1, 1) := by decide +kernel
theorem dX6_rowAt_7 : decode cX6_rowAt 7 = .ok (.iadd, 1) := by decide +kernel
theorem dX6_rowAt_8 : decode cX6_rowAt 8 = .ok (.invokevirtual 25, 3) := by decide +kernel
theorem dX6_rowAt_11 : decode cX6_rowAt 11 = .ok (.f2i, 1) := by decide +kernel
theorem dX6_rowAt_12 : decode cX6_rowAt 12 = .ok (.bipush 24, 2) := by decide +kernel
theorem dX6_rowAt_14 : decode cX6_rowAt 14 = .ok (.idiv, 1) := by decide +kernel
theorem dX6_rowAt_15 : decode cX6_rowAt 15 = .ok (.ireturn, 1) := by decide +kernel
theorem dX6_keyAt_0 : decode cX6_keyAt 0 = .ok (.aload_n 0, 1) := by decide +kernel
theorem dX6_keyAt_1 : decode cX6_keyAt 1 = .ok (.getfield 9, 3) := by decide +kernel
theorem dX6_keyAt_4 : decode cX6_keyAt 4 = .ok (.bipush 24, 2) := by decide +kernel
theorem dX6_keyAt_6 : decode cX6_keyAt 6 = .ok (.iload_n 1, 1) := by decide +kernel
theorem dX6_keyAt_7 : decode cX6_keyAt 7 = .ok (.iadd, 1) := by decide +kernel
theorem dX6_keyAt_8 : decode cX6_keyAt 8 = .ok (.invokevirtual 25, 3) := by decide +kernel
theorem dX6_keyAt_11 : decode cX6_keyAt 11 = .ok (.freturn, 1) := by decide +kernel
theorem dX6_greatestKey_0 : decode cX6_greatestKey 0 = .ok (.aload_n 0, 1) := by decide +kernel
theorem dX6_greatestKey_1 : decode cX6_greatestKey 1 = .ok (.aload_n 0, 1) := by decide +kernel
theorem dX6_greatestKey_2 : decode cX6_greatestKey 2 = .ok (.invokevirtual 44, 3) := by decide +kernel
theorem dX6_greatestKey_5 : decode cX6_greatestKey 5 = .ok (.iconst 1, 1) := by decide +kernel
theorem dX6_greatestKey_6 : decode cX6_greatestKey 6 = .ok (.isub, 1) := by decide +kernel
theorem dX6_greatestKey_7 : decode cX6_greatestKey 7 = .ok (.invokevirtual 48, 3) := by decide +kernel
theorem dX6_greatestKey_10 : decode cX6_greatestKey 10 = .ok (.istore_n 1, 1) := by decide +kernel
theorem dX6_greatestKey_11 : decode cX6_greatestKey 11 = .ok (.iload_n 1, 1) := by decide +kernel
theorem dX6_greatestKey_12 : decode cX6_greatestKey 12 = .ok (.iconst (-1), 1) := by decide +kernel
theorem dX6_greatestKey_13 : decode cX6_greatestKey 13 = .ok (.if_icmp .ne 7, 3) := by decide +kernel
theorem dX6_greatestKey_16 : decode cX6_greatestKey 16 = .ok (.fconst 0, 1) := by decide +kernel
theorem dX6_greatestKey_17 : decode cX6_greatestKey 17 = .ok (.goto 8, 3) := by decide +kernel
theorem dX6_greatestKey_20 : decode cX6_greatestKey 20 = .ok (.aload_n 0, 1) := by decide +kernel
theorem dX6_greatestKey_21 : decode cX6_greatestKey 21 = .ok (.iload_n 1, 1) := by decide +kernel
theorem dX6_greatestKey_22 : decode cX6_greatestKey 22 = .ok (.invokevirtual 51, 3) := by decide +kernel
theorem dX6_greatestKey_25 : decode cX6_greatestKey 25 = .ok (.freturn, 1) := by decide +kernel
theorem dX6_lowestKey_0 : decode cX6_lowestKey 0 = .ok (.aload_n 0, 1) := by decide +kernel
theorem dX6_lowestKey_1 : decode cX6_lowestKey 1 = .ok (.iconst 0, 1) := by decide +kernel
theorem dX6_lowestKey_2 : decode cX6_lowestKey 2 = .ok (.invokevirtual 48, 3) := by decide +kernel
theorem dX6_lowestKey_5 : decode cX6_lowestKey 5 = .ok (.istore_n 1, 1) := by decide +kernel
theorem dX6_lowestKey_6 : decode cX6_lowestKey 6 = .ok (.iload_n 1, 1) := by decide +kernel
theorem dX6_lowestKey_7 : decode cX6_lowestKey 7 = .ok (.iconst (-1), 1) := by decide +kernel
theorem dX6_lowestKey_8 : decode cX6_lowestKey 8 = .ok (.if_icmp .ne 7, 3) := by decide +kernel
theorem dX6_lowestKey_11 : decode cX6_lowestKey 11 = .ok (.fconst 0, 1) := by decide +kernel
theorem dX6_lowestKey_12 : decode cX6_lowestKey 12 = .ok (.goto 8, 3) := by decide +kernel
theorem dX6_lowestKey_15 : decode cX6_lowestKey 15 = .ok (.aload_n 0, 1) := by decide +kernel
theorem dX6_lowestKey_16 : decode cX6_lowestKey 16 = .ok (.iload_n 1, 1) := by decide +kernel
theorem dX6_lowestKey_17 : decode cX6_lowestKey 17 = .ok (.invokevirtual 51, 3) := by decide +kernel
theorem dX6_lowestKey_20 : decode cX6_lowestKey 20 = .ok (.freturn, 1) := by decide +kernel
theorem dX6_nextAbove_0 : decode cX6_nextAbove 0 = .ok (.iconst (-1), 1) := by decide +kernel
theorem dX6_nextAbove_1 : decode cX6_nextAbove 1 = .ok (.istore_n 2, 1) := by decide +kernel
theorem dX6_nextAbove_2 : decode cX6_nextAbove 2 = .ok (.iconst 0, 1) := by decide +kernel
theorem dX6_nextAbove_3 : decode cX6_nextAbove 3 = .ok (.istore_n 3, 1) := by decide +kernel
theorem dX6_nextAbove_4 : decode cX6_nextAbove 4 = .ok (.iload_n 3, 1) := by decide +kernel
theorem dX6_nextAbove_5 : decode cX6_nextAbove 5 = .ok (.bipush 12, 2) := by decide +kernel
theorem dX6_nextAbove_7 : decode cX6_nextAbove 7 = .ok (.if_icmp .ge 48, 3) := by decide +kernel
theorem dX6_nextAbove_10 : decode cX6_nextAbove 10 = .ok (.aload_n 0, 1) := by decide +kernel
theorem dX6_nextAbove_11 : decode cX6_nextAbove 11 = .ok (.iload_n 3, 1) := by decide +kernel
theorem dX6_nextAbove_12 : decode cX6_nextAbove 12 = .ok (.invokevirtual 31, 3) := by decide +kernel
theorem dX6_nextAbove_15 : decode cX6_nextAbove 15 = .ok (.ifCond .eq 34, 3) := by decide +kernel
theorem dX6_nextAbove_18 : decode cX6_nextAbove 18 = .ok (.aload_n 0, 1) := by decide +kernel
theorem dX6_nextAbove_19 : decode cX6_nextAbove 19 = .ok (.iload_n 3, 1) := by decide +kernel
theorem dX6_nextAbove_20 : decode cX6_nextAbove 20 = .ok (.invokevirtual 51, 3) := by decide +kernel
theorem dX6_nextAbove_23 : decode cX6_nextAbove 23 = .ok (.fload_n 1, 1) := by decide +kernel
theorem dX6_nextAbove_24 : decode cX6_nextAbove 24 = .ok (.fcmp .l, 1) := by decide +kernel
theorem dX6_nextAbove_25 : decode cX6_nextAbove 25 = .ok (.ifCond .le 24, 3) := by decide +kernel
theorem dX6_nextAbove_28 : decode cX6_nextAbove 28 = .ok (.iload_n 2, 1) := by decide +kernel
theorem dX6_nextAbove_29 : decode cX6_nextAbove 29 = .ok (.iconst (-1), 1) := by decide +kernel
theorem dX6_nextAbove_30 : decode cX6_nextAbove 30 = .ok (.if_icmp .eq 17, 3) := by decide +kernel
theorem dX6_nextAbove_33 : decode cX6_nextAbove 33 = .ok (.aload_n 0, 1) := by decide +kernel
theorem dX6_nextAbove_34 : decode cX6_nextAbove 34 = .ok (.iload_n 3, 1) := by decide +kernel
theorem dX6_nextAbove_35 : decode cX6_nextAbove 35 = .ok (.invokevirtual 51, 3) := by decide +kernel
theorem dX6_nextAbove_38 : decode cX6_nextAbove 38 = .ok (.aload_n 0, 1) := by decide +kernel
theorem dX6_nextAbove_39 : decode cX6_nextAbove 39 = .ok (.iload_n 2, 1) := by decide +kernel
theorem dX6_nextAbove_40 : decode cX6_nextAbove 40 = .ok (.invokevirtual 51, 3) := by decide +kernel
theorem dX6_nextAbove_43 : decode cX6_nextAbove 43 = .ok (.fcmp .g, 1) := by decide +kernel
theorem dX6_nextAbove_44 : decode cX6_nextAbove 44 = .ok (.ifCond .ge 5, 3) := by decide +kernel
theorem dX6_nextAbove_47 : decode cX6_nextAbove 47 = .ok (.iload_n 3, 1) := by decide +kernel
theorem dX6_nextAbove_48 : decode cX6_nextAbove 48 = .ok (.istore_n 2, 1) := by decide +kernel
theorem dX6_nextAbove_49 : decode cX6_nextAbove 49 = .ok (.iinc 3 1, 3) := by decide +kernel
theorem dX6_nextAbove_52 : decode cX6_nextAbove 52 = .ok (.goto (-48), 3) := by decide +kernel
theorem dX6_nextAbove_55 : decode cX6_nextAbove 55 = .ok (.iload_n 2, 1) := by decide +kernel
theorem dX6_nextAbove_56 : decode cX6_nextAbove 56 = .ok (.ireturn, 1) := by decide +kernel
theorem dX6_isBelow_0 : decode cX6_isBelow 0 = .ok (.aload_n 0, 1) := by decide +kernel
theorem dX6_isBelow_1 : decode cX6_isBelow 1 = .ok (.iload_n 1, 1) := by decide +kernel
theorem dX6_isBelow_2 : decode cX6_isBelow 2 = .ok (.invokevirtual 51, 3) := by decide +kernel
theorem dX6_isBelow_5 : decode cX6_isBelow 5 = .ok (.fstore_n 3, 1) := by decide +kernel
theorem dX6_isBelow_6 : decode cX6_isBelow 6 = .ok (.aload_n 0, 1) := by decide +kernel
theorem dX6_isBelow_7 : decode cX6_isBelow 7 = .ok (.iload_n 2, 1) := by decide +kernel
theorem dX6_isBelow_8 : decode cX6_isBelow 8 = .ok (.invokevirtual 51, 3) := by decide +kernel
theorem dX6_isBelow_11 : decode cX6_isBelow 11 = .ok (.fstore 4, 2) := by decide +kernel
theorem dX6_isBelow_13 : decode cX6_isBelow 13 = .ok (.fload_n 3, 1) := by decide +kernel
theorem dX6_isBelow_14 : decode cX6_isBelow 14 = .ok (.fload 4, 2) := by decide +kernel
theorem dX6_isBelow_16 : decode cX6_isBelow 16 = .ok (.fcmp .g, 1) := by decide +kernel
theorem dX6_isBelow_17 : decode cX6_isBelow 17 = .ok (.ifCond .lt 15, 3) := by decide +kernel
theorem dX6_isBelow_20 : decode cX6_isBelow 20 = .ok (.fload_n 3, 1) := by decide +kernel
theorem dX6_isBelow_21 : decode cX6_isBelow 21 = .ok (.fload 4, 2) := by decide +kernel
theorem dX6_isBelow_23 : decode cX6_isBelow 23 = .ok (.fcmp .l, 1) := by decide +kernel
theorem dX6_isBelow_24 : decode cX6_isBelow 24 = .ok (.ifCond .ne 12, 3) := by decide +kernel
theorem dX6_isBelow_27 : decode cX6_isBelow 27 = .ok (.iload_n 1, 1) := by decide +kernel
theorem dX6_isBelow_28 : decode cX6_isBelow 28 = .ok (.iload_n 2, 1) := by decide +kernel
theorem dX6_isBelow_29 : decode cX6_isBelow 29 = .ok (.if_icmp .ge 7, 3) := by decide +kernel
theorem dX6_isBelow_32 : decode cX6_isBelow 32 = .ok (.iconst 1, 1) := by decide +kernel
theorem dX6_isBelow_33 : decode cX6_isBelow 33 = .ok (.goto 4, 3) := by decide +kernel
theorem dX6_isBelow_36 : decode cX6_isBelow 36 = .ok (.iconst 0, 1) := by decide +kernel
theorem dX6_isBelow_37 : decode cX6_isBelow 37 = .ok (.ireturn, 1) := by decide +kernel
theorem dX6_rankAt_0 : decode cX6_rankAt 0 = .ok (.iconst 0, 1) := by decide +kernel
theorem dX6_rankAt_1 : decode cX6_rankAt 1 = .ok (.istore_n 2, 1) := by decide +kernel
theorem dX6_rankAt_2 : decode cX6_rankAt 2 = .ok (.iconst 0, 1) := by decide +kernel
theorem dX6_rankAt_3 : decode cX6_rankAt 3 = .ok (.istore_n 3, 1) := by decide +kernel
theorem dX6_rankAt_4 : decode cX6_rankAt 4 = .ok (.iload_n 3, 1) := by decide +kernel
theorem dX6_rankAt_5 : decode cX6_rankAt 5 = .ok (.bipush 12, 2) := by decide +kernel
theorem dX6_rankAt_7 : decode cX6_rankAt 7 = .ok (.if_icmp .ge 29, 3) := by decide +kernel
theorem dX6_rankAt_10 : decode cX6_rankAt 10 = .ok (.aload_n 0, 1) := by decide +kernel
theorem dX6_rankAt_11 : decode cX6_rankAt 11 = .ok (.iload_n 3, 1) := by decide +kernel
theorem dX6_rankAt_12 : decode cX6_rankAt 12 = .ok (.invokevirtual 31, 3) := by decide +kernel
theorem dX6_rankAt_15 : decode cX6_rankAt 15 = .ok (.ifCond .eq 15, 3) := by decide +kernel
theorem dX6_rankAt_18 : decode cX6_rankAt 18 = .ok (.aload_n 0, 1) := by decide +kernel
theorem dX6_rankAt_19 : decode cX6_rankAt 19 = .ok (.iload_n 3, 1) := by decide +kernel
theorem dX6_rankAt_20 : decode cX6_rankAt 20 = .ok (.iload_n 1, 1) := by decide +kernel
theorem dX6_rankAt_21 : decode cX6_rankAt 21 = .ok (.invokevirtual 54, 3) := by decide +kernel
theorem dX6_rankAt_24 : decode cX6_rankAt 24 = .ok (.ifCond .eq 6, 3) := by decide +kernel
theorem dX6_rankAt_27 : decode cX6_rankAt 27 = .ok (.iinc 2 1, 3) := by decide +kernel
theorem dX6_rankAt_30 : decode cX6_rankAt 30 = .ok (.iinc 3 1, 3) := by decide +kernel
theorem dX6_rankAt_33 : decode cX6_rankAt 33 = .ok (.goto (-29), 3) := by decide +kernel
theorem dX6_rankAt_36 : decode cX6_rankAt 36 = .ok (.iload_n 2, 1) := by decide +kernel
theorem dX6_rankAt_37 : decode cX6_rankAt 37 = .ok (.ireturn, 1) := by decide +kernel
theorem dX6_shapeWithRank_0 : decode cX6_shapeWithRank 0 = .ok (.iconst 0, 1) := by decide +kernel
theorem dX6_shapeWithRank_1 : decode cX6_shapeWithRank 1 = .ok (.istore_n 2, 1) := by decide +kernel
theorem dX6_shapeWithRank_2 : decode cX6_shapeWithRank 2 = .ok (.iload_n 2, 1) := by decide +kernel
theorem dX6_shapeWithRank_3 : decode cX6_shapeWithRank 3 = .ok (.bipush 12, 2) := by decide +kernel
theorem dX6_shapeWithRank_5 : decode cX6_shapeWithRank 5 = .ok (.if_icmp .ge 28, 3) := by decide +kernel
theorem dX6_shapeWithRank_8 : decode cX6_shapeWithRank 8 = .ok (.aload_n 0, 1) := by decide +kernel
theorem dX6_shapeWithRank_9 : decode cX6_shapeWithRank 9 = .ok (.iload_n 2, 1) := by decide +kernel
theorem dX6_shapeWithRank_10 : decode cX6_shapeWithRank 10 = .ok (.invokevirtual 31, 3) := by decide +kernel
theorem dX6_shapeWithRank_13 : decode cX6_shapeWithRank 13 = .ok (.ifCond .eq 14, 3) := by decide +kernel
theorem dX6_shapeWithRank_16 : decode cX6_shapeWithRank 16 = .ok (.aload_n 0, 1) := by decide +kernel
theorem dX6_shapeWithRank_17 : decode cX6_shapeWithRank 17 = .ok (.iload_n 2, 1) := by decide +kernel
theorem dX6_shapeWithRank_18 : decode cX6_shapeWithRank 18 = .ok (.invokevirtual 58, 3) := by decide +kernel
theorem dX6_shapeWithRank_21 : decode cX6_shapeWithRank 21 = .ok (.iload_n 1, 1) := by decide +kernel
theorem dX6_shapeWithRank_22 : decode cX6_shapeWithRank 22 = .ok (.if_icmp .ne 5, 3) := by decide +kernel
theorem dX6_shapeWithRank_25 : decode cX6_shapeWithRank 25 = .ok (.iload_n 2, 1) := by decide +kernel
theorem dX6_shapeWithRank_26 : decode cX6_shapeWithRank 26 = .ok (.ireturn, 1) := by decide +kernel
theorem dX6_shapeWithRank_27 : decode cX6_shapeWithRank 27 = .ok (.iinc 2 1, 3) := by decide +kernel
theorem dX6_shapeWithRank_30 : decode cX6_shapeWithRank 30 = .ok (.goto (-28), 3) := by decide +kernel
theorem dX6_shapeWithRank_33 : decode cX6_shapeWithRank 33 = .ok (.iconst (-1), 1) := by decide +kernel
theorem dX6_shapeWithRank_34 : decode cX6_shapeWithRank 34 = .ok (.ireturn, 1) := by decide +kernel
theorem dX6_isOver_0 : decode cX6_isOver 0 = .ok (.iload_n 2, 1) := by decide +kernel
theorem dX6_isOver_1 : decode cX6_isOver 1 = .ok (.aload_n 0, 1) := by decide +kernel
theorem dX6_isOver_2 : decode cX6_isOver 2 = .ok (.iload_n 1, 1) := by decide +kernel
theorem dX6_isOver_3 : decode cX6_isOver 3 = .ok (.invokevirtual 61, 3) := by decide +kernel
theorem dX6_isOver_6 : decode cX6_isOver 6 = .ok (.isub, 1) := by decide +kernel
theorem dX6_isOver_7 : decode cX6_isOver 7 = .ok (.istore 4, 2) := by decide +kernel
theorem dX6_isOver_9 : decode cX6_isOver 9 = .ok (.iload_n 3, 1) := by decide +kernel
theorem dX6_isOver_10 : decode cX6_isOver 10 = .ok (.aload_n 0, 1) := by decide +kernel
theorem dX6_isOver_11 : decode cX6_isOver 11 = .ok (.iload_n 1, 1) := by decide +kernel
theorem dX6_isOver_12 : decode cX6_isOver 12 = .ok (.invokevirtual 64, 3) := by decide +kernel
theorem dX6_isOver_15 : decode cX6_isOver 15 = .ok (.isub, 1) := by decide +kernel
theorem dX6_isOver_16 : decode cX6_isOver 16 = .ok (.istore 5, 2) := by decide +kernel
theorem dX6_isOver_18 : decode cX6_isOver 18 = .ok (.iload 4, 2) := by decide +kernel
theorem dX6_isOver_20 : decode cX6_isOver 20 = .ok (.ifCond .lt 38, 3) := by decide +kernel
theorem dX6_isOver_23 : decode cX6_isOver 23 = .ok (.iload 4, 2) := by decide +kernel
theorem dX6_isOver_25 : decode cX6_isOver 25 = .ok (.aload_n 0, 1) := by decide +kernel
theorem dX6_isOver_26 : decode cX6_isOver 26 = .ok (.getfield 15, 3) := by decide +kernel
theorem dX6_isOver_29 : decode cX6_isOver 29 = .ok (.iload_n 1, 1) := by decide +kernel
theorem dX6_isOver_30 : decode cX6_isOver 30 = .ok (.invokevirtual 37, 3) := by decide +kernel
theorem dX6_isOver_33 : decode cX6_isOver 33 = .ok (.if_icmp .ge 25, 3) := by decide +kernel
theorem dX6_isOver_36 : decode cX6_isOver 36 = .ok (.iload 5, 2) := by decide +kernel
theorem dX6_isOver_38 : decode cX6_isOver 38 = .ok (.ifCond .lt 20, 3) := by decide +kernel
theorem dX6_isOver_41 : decode cX6_isOver 41 = .ok (.iload 5, 2) := by decide +kernel
theorem dX6_isOver_43 : decode cX6_isOver 43 = .ok (.aload_n 0, 1) := by decide +kernel
theorem dX6_isOver_44 : decode cX6_isOver 44 = .ok (.getfield 15, 3) := by decide +kernel
theorem dX6_isOver_47 : decode cX6_isOver 47 = .ok (.iload_n 1, 1) := by decide +kernel
theorem dX6_isOver_48 : decode cX6_isOver 48 = .ok (.invokevirtual 41, 3) := by decide +kernel
theorem dX6_isOver_51 : decode cX6_isOver 51 = .ok (.if_icmp .ge 7, 3) := by decide +kernel
theorem dX6_isOver_54 : decode cX6_isOver 54 = .ok (.iconst 1, 1) := by decide +kernel
theorem dX6_isOver_55 : decode cX6_isOver 55 = .ok (.goto 4, 3) := by decide +kernel
theorem dX6_isOver_58 : decode cX6_isOver 58 = .ok (.iconst 0, 1) := by decide +kernel
theorem dX6_isOver_59 : decode cX6_isOver 59 = .ok (.ireturn, 1) := by decide +kernel
theorem dX6_covers_0 : decode cX6_covers 0 = .ok (.aload_n 0, 1) := by decide +kernel
theorem dX6_covers_1 : decode cX6_covers 1 = .ok (.iload_n 2, 1) := by decide +kernel
theorem dX6_covers_2 : decode cX6_covers 2 = .ok (.invokevirtual 61, 3) := by decide +kernel
theorem dX6_covers_5 : decode cX6_covers 5 = .ok (.aload_n 0, 1) := by decide +kernel
theorem dX6_covers_6 : decode cX6_covers 6 = .ok (.getfield 15, 3) := by decide +kernel
theorem dX6_covers_9 : decode cX6_covers 9 = .ok (.iload_n 2, 1) := by decide +kernel
theorem dX6_covers_10 : decode cX6_covers 10 = .ok (.invokevirtual 37, 3) := by decide +kernel
theorem dX6_covers_13 : decode cX6_covers 13 = .ok (.iadd, 1) := by decide +kernel
theorem dX6_covers_14 : decode cX6_covers 14 = .ok (.iconst 1, 1) := by decide +kernel
theorem dX6_covers_15 : decode cX6_covers 15 = .ok (.isub, 1) := by decide +kernel
theorem dX6_covers_16 : decode cX6_covers 16 = .ok (.istore_n 3, 1) := by decide +kernel
theorem dX6_covers_17 : decode cX6_covers 17 = .ok (.aload_n 0, 1) := by decide +kernel
theorem dX6_covers_18 : decode cX6_covers 18 = .ok (.iload_n 2, 1) := by decide +kernel
theorem dX6_covers_19 : decode cX6_covers 19 = .ok (.invokevirtual 64, 3) := by decide +kernel
theorem dX6_covers_22 : decode cX6_covers 22 = .ok (.aload_n 0, 1) := by decide +kernel
theorem dX6_covers_23 : decode cX6_covers 23 = .ok (.getfield 15, 3) := by decide +kernel
theorem dX6_covers_26 : decode cX6_covers 26 = .ok (.iload_n 2, 1) := by decide +kernel
theorem dX6_covers_27 : decode cX6_covers 27 = .ok (.invokevirtual 41, 3) := by decide +kernel
theorem dX6_covers_30 : decode cX6_covers 30 = .ok (.iadd, 1) := by decide +kernel
theorem dX6_covers_31 : decode cX6_covers 31 = .ok (.iconst 1, 1) := by decide +kernel
theorem dX6_covers_32 : decode cX6_covers 32 = .ok (.isub, 1) := by decide +kernel
theorem dX6_covers_33 : decode cX6_covers 33 = .ok (.istore 4, 2) := by decide +kernel
theorem dX6_covers_35 : decode cX6_covers 35 = .ok (.aload_n 0, 1) := by decide +kernel
theorem dX6_covers_36 : decode cX6_covers 36 = .ok (.iload_n 1, 1) := by decide +kernel
theorem dX6_covers_37 : decode cX6_covers 37 = .ok (.aload_n 0, 1) := by decide +kernel
theorem dX6_covers_38 : decode cX6_covers 38 = .ok (.iload_n 2, 1) := by decide +kernel
theorem dX6_covers_39 : decode cX6_covers 39 = .ok (.invokevirtual 61, 3) := by decide +kernel
theorem dX6_covers_42 : decode cX6_covers 42 = .ok (.aload_n 0, 1) := by decide +kernel
theorem dX6_covers_43 : decode cX6_covers 43 = .ok (.iload_n 2, 1) := by decide +kernel
theorem dX6_covers_44 : decode cX6_covers 44 = .ok (.invokevirtual 64, 3) := by decide +kernel
theorem dX6_covers_47 : decode cX6_covers 47 = .ok (.invokevirtual 67, 3) := by decide +kernel
theorem dX6_covers_50 : decode cX6_covers 50 = .ok (.ifCond .eq 18, 3) := by decide +kernel
theorem dX6_covers_53 : decode cX6_covers 53 = .ok (.aload_n 0, 1) := by decide +kernel
theorem dX6_covers_54 : decode cX6_covers 54 = .ok (.iload_n 1, 1) := by decide +kernel
theorem dX6_covers_55 : decode cX6_covers 55 = .ok (.iload_n 3, 1) := by decide +kernel
theorem dX6_covers_56 : decode cX6_covers 56 = .ok (.iload 4, 2) := by decide +kernel
theorem dX6_covers_58 : decode cX6_covers 58 = .ok (.invokevirtual 67, 3) := by decide +kernel
theorem dX6_covers_61 : decode cX6_covers 61 = .ok (.ifCond .eq 7, 3) := by decide +kernel
theorem dX6_covers_64 : decode cX6_covers 64 = .ok (.iconst 1, 1) := by decide +kernel
theorem dX6_covers_65 : decode cX6_covers 65 = .ok (.goto 4, 3) := by decide +kernel
theorem dX6_covers_68 : decode cX6_covers 68 = .ok (.iconst 0, 1) := by decide +kernel
theorem dX6_covers_69 : decode cX6_covers 69 = .ok (.ireturn, 1) := by decide +kernel
theorem dX6_countCovered_0 : decode cX6_countCovered 0 = .ok (.iconst 0, 1) := by decide +kernel
theorem dX6_countCovered_1 : decode cX6_countCovered 1 = .ok (.istore_n 2, 1) := by decide +kernel
theorem dX6_countCovered_2 : decode cX6_countCovered 2 = .ok (.iconst 0, 1) := by decide +kernel
theorem dX6_countCovered_3 : decode cX6_countCovered 3 = .ok (.istore_n 3, 1) := by decide +kernel
theorem dX6_countCovered_4 : decode cX6_countCovered 4 = .ok (.iload_n 3, 1) := by decide +kernel
theorem dX6_countCovered_5 : decode cX6_countCovered 5 = .ok (.bipush 12, 2) := by decide +kernel
theorem dX6_countCovered_7 : decode cX6_countCovered 7 = .ok (.if_icmp .ge 34, 3) := by decide +kernel
theorem dX6_countCovered_10 : decode cX6_countCovered 10 = .ok (.iload_n 3, 1) := by decide +kernel
theorem dX6_countCovered_11 : decode cX6_countCovered 11 = .ok (.iload_n 1, 1) := by decide +kernel
theorem dX6_countCovered_12 : decode cX6_countCovered 12 = .ok (.if_icmp .eq 23, 3) := by decide +kernel
theorem dX6_countCovered_15 : decode cX6_countCovered 15 = .ok (.aload_n 0, 1) := by decide +kernel
theorem dX6_countCovered_16 : decode cX6_countCovered 16 = .ok (.iload_n 3, 1) := by decide +kernel
theorem dX6_countCovered_17 : decode cX6_countCovered 17 = .ok (.invokevirtual 31, 3) := by decide +kernel
theorem dX6_countCovered_20 : decode cX6_countCovered 20 = .ok (.ifCond .eq 15, 3) := by decide +kernel
theorem dX6_countCovered_23 : decode cX6_countCovered 23 = .ok (.aload_n 0, 1) := by decide +kernel
theorem dX6_countCovered_24 : decode cX6_countCovered 24 = .ok (.iload_n 1, 1) := by decide +kernel
theorem dX6_countCovered_25 : decode cX6_countCovered 25 = .ok (.iload_n 3, 1) := by decide +kernel
theorem dX6_countCovered_26 : decode cX6_countCovered 26 = .ok (.invokevirtual 71, 3) := by decide +kernel
theorem dX6_countCovered_29 : decode cX6_countCovered 29 = .ok (.ifCond .eq 6, 3) := by decide +kernel
theorem dX6_countCovered_32 : decode cX6_countCovered 32 = .ok (.iinc 2 1, 3) := by decide +kernel
theorem dX6_countCovered_35 : decode cX6_countCovered 35 = .ok (.iinc 3 1, 3) := by decide +kernel
theorem dX6_countCovered_38 : decode cX6_countCovered 38 = .ok (.goto (-34), 3) := by decide +kernel
theorem dX6_countCovered_41 : decode cX6_countCovered 41 = .ok (.iload_n 2, 1) := by decide +kernel
theorem dX6_countCovered_42 : decode cX6_countCovered 42 = .ok (.ireturn, 1) := by decide +kernel
theorem dX6_isCarried_0 : decode cX6_isCarried 0 = .ok (.aload_n 0, 1) := by decide +kernel
theorem dX6_isCarried_1 : decode cX6_isCarried 1 = .ok (.iload_n 3, 1) := by decide +kernel
theorem dX6_isCarried_2 : decode cX6_isCarried 2 = .ok (.invokevirtual 31, 3) := by decide +kernel
theorem dX6_isCarried_5 : decode cX6_isCarried 5 = .ok (.ifCond .eq 25, 3) := by decide +kernel
theorem dX6_isCarried_8 : decode cX6_isCarried 8 = .ok (.aload_n 0, 1) := by decide +kernel
theorem dX6_isCarried_9 : decode cX6_isCarried 9 = .ok (.iload_n 2, 1) := by decide +kernel
theorem dX6_isCarried_10 : decode cX6_isCarried 10 = .ok (.iload_n 3, 1) := by decide +kernel
theorem dX6_isCarried_11 : decode cX6_isCarried 11 = .ok (.invokevirtual 71, 3) := by decide +kernel
theorem dX6_isCarried_14 : decode cX6_isCarried 14 = .ok (.ifCond .eq 16, 3) := by decide +kernel
theorem dX6_isCarried_17 : decode cX6_isCarried 17 = .ok (.aload_n 0, 1) := by decide +kernel
theorem dX6_isCarried_18 : decode cX6_isCarried 18 = .ok (.iload_n 1, 1) := by decide +kernel
theorem dX6_isCarried_19 : decode cX6_isCarried 19 = .ok (.iload_n 3, 1) := by decide +kernel
theorem dX6_isCarried_20 : decode cX6_isCarried 20 = .ok (.invokevirtual 74, 3) := by decide +kernel
theorem dX6_isCarried_23 : decode cX6_isCarried 23 = .ok (.ifCond .ne 7, 3) := by decide +kernel
theorem dX6_isCarried_26 : decode cX6_isCarried 26 = .ok (.iconst 1, 1) := by decide +kernel
theorem dX6_isCarried_27 : decode cX6_isCarried 27 = .ok (.goto 4, 3) := by decide +kernel
theorem dX6_isCarried_30 : decode cX6_isCarried 30 = .ok (.iconst 0, 1) := by decide +kernel
theorem dX6_isCarried_31 : decode cX6_isCarried 31 = .ok (.ireturn, 1) := by decide +kernel
theorem dX6_topOn_0 : decode cX6_topOn 0 = .ok (.iconst (-1), 1) := by decide +kernel
theorem dX6_topOn_1 : decode cX6_topOn 1 = .ok (.istore_n 3, 1) := by decide +kernel
theorem dX6_topOn_2 : decode cX6_topOn 2 = .ok (.iconst 0, 1) := by decide +kernel
theorem dX6_topOn_3 : decode cX6_topOn 3 = .ok (.istore 4, 2) := by decide +kernel
theorem dX6_topOn_5 : decode cX6_topOn 5 = .ok (.iload 4, 2) := by decide +kernel
theorem dX6_topOn_7 : decode cX6_topOn 7 = .ok (.bipush 12, 2) := by decide +kernel
theorem dX6_topOn_9 : decode cX6_topOn 9 = .ok (.if_icmp .ge 59, 3) := by decide +kernel
theorem dX6_topOn_12 : decode cX6_topOn 12 = .ok (.aload_n 0, 1) := by decide +kernel
theorem dX6_topOn_13 : decode cX6_topOn 13 = .ok (.iload 4, 2) := by decide +kernel
theorem dX6_topOn_15 : decode cX6_topOn 15 = .ok (.invokevirtual 31, 3) := by decide +kernel
theorem dX6_topOn_18 : decode cX6_topOn 18 = .ok (.ifCond .eq 44, 3) := by decide +kernel
theorem dX6_topOn_21 : decode cX6_topOn 21 = .ok (.aload_n 0, 1) := by decide +kernel
theorem dX6_topOn_22 : decode cX6_topOn 22 = .ok (.getfield 15, 3) := by decide +kernel
theorem dX6_topOn_25 : decode cX6_topOn 25 = .ok (.iload 4, 2) := by decide +kernel
theorem dX6_topOn_27 : decode cX6_topOn 27 = .ok (.invokevirtual 34, 3) := by decide +kernel
theorem dX6_topOn_30 : decode cX6_topOn 30 = .ok (.ifCond .ne 32, 3) := by decide +kernel
theorem dX6_topOn_33 : decode cX6_topOn 33 = .ok (.aload_n 0, 1) := by decide +kernel
theorem dX6_topOn_34 : decode cX6_topOn 34 = .ok (.iload 4, 2) := by decide +kernel
theorem dX6_topOn_36 : decode cX6_topOn 36 = .ok (.iload_n 1, 1) := by decide +kernel
theorem dX6_topOn_37 : decode cX6_topOn 37 = .ok (.iload_n 2, 1) := by decide +kernel
theorem dX6_topOn_38 : decode cX6_topOn 38 = .ok (.invokevirtual 67, 3) := by decide +kernel
theorem dX6_topOn_41 : decode cX6_topOn 41 = .ok (.ifCond .eq 21, 3) := by decide +kernel
theorem dX6_topOn_44 : decode cX6_topOn 44 = .ok (.iload_n 3, 1) := by decide +kernel
theorem dX6_topOn_45 : decode cX6_topOn 45 = .ok (.iconst (-1), 1) := by decide +kernel
theorem dX6_topOn_46 : decode cX6_topOn 46 = .ok (.if_icmp .eq 13, 3) := by decide +kernel
theorem dX6_topOn_49 : decode cX6_topOn 49 = .ok (.aload_n 0, 1) := by decide +kernel
theorem dX6_topOn_50 : decode cX6_topOn 50 = .ok (.iload_n 3, 1) := by decide +kernel
theorem dX6_topOn_51 : decode cX6_topOn 51 = .ok (.iload 4, 2) := by decide +kernel
theorem dX6_topOn_53 : decode cX6_topOn 53 = .ok (.invokevirtual 54, 3) := by decide +kernel
theorem dX6_topOn_56 : decode cX6_topOn 56 = .ok (.ifCond .eq 6, 3) := by decide +kernel
theorem dX6_topOn_59 : decode cX6_topOn 59 = .ok (.iload 4, 2) := by decide +kernel
theorem dX6_topOn_61 : decode cX6_topOn 61 = .ok (.istore_n 3, 1) := by decide +kernel
theorem dX6_topOn_62 : decode cX6_topOn 62 = .ok (.iinc 4 1, 3) := by decide +kernel
theorem dX6_topOn_65 : decode cX6_topOn 65 = .ok (.goto (-60), 3) := by decide +kernel
theorem dX6_topOn_68 : decode cX6_topOn 68 = .ok (.iload_n 3, 1) := by decide +kernel
theorem dX6_topOn_69 : decode cX6_topOn 69 = .ok (.ireturn, 1) := by decide +kernel
theorem dX6_lockerAt_0 : decode cX6_lockerAt 0 = .ok (.aload_n 0, 1) := by decide +kernel
theorem dX6_lockerAt_1 : decode cX6_lockerAt 1 = .ok (.getfield 9, 3) := by decide +kernel
theorem dX6_lockerAt_4 : decode cX6_lockerAt 4 = .ok (.bipush 36, 2) := by decide +kernel
theorem dX6_lockerAt_6 : decode cX6_lockerAt 6 = .ok (.iload_n 1, 1) := by decide +kernel
theorem dX6_lockerAt_7 : decode cX6_lockerAt 7 = .ok (.iadd, 1) := by decide +kernel
theorem dX6_lockerAt_8 : decode cX6_lockerAt 8 = .ok (.invokevirtual 25, 3) := by decide +kernel
theorem dX6_lockerAt_11 : decode cX6_lockerAt 11 = .ok (.f2i, 1) := by decide +kernel
theorem dX6_lockerAt_12 : decode cX6_lockerAt 12 = .ok (.iconst 1, 1) := by decide +kernel
theorem dX6_lockerAt_13 : decode cX6_lockerAt 13 = .ok (.isub, 1) := by decide +kernel
theorem dX6_lockerAt_14 : decode cX6_lockerAt 14 = .ok (.ireturn, 1) := by decide +kernel
theorem dX6_isLockedByOther_0 : decode cX6_isLockedByOther 0 = .ok (.aload_n 0, 1) := by decide +kernel
theorem dX6_isLockedByOther_1 : decode cX6_isLockedByOther 1 = .ok (.iload_n 2, 1) := by decide +kernel
theorem dX6_isLockedByOther_2 : decode cX6_isLockedByOther 2 = .ok (.invokevirtual 77, 3) := by decide +kernel
theorem dX6_isLockedByOther_5 : decode cX6_isLockedByOther 5 = .ok (.istore_n 3, 1) := by decide +kernel
theorem dX6_isLockedByOther_6 : decode cX6_isLockedByOther 6 = .ok (.iload_n 3, 1) := by decide +kernel
theorem dX6_isLockedByOther_7 : decode cX6_isLockedByOther 7 = .ok (.iconst (-1), 1) := by decide +kernel
theorem dX6_isLockedByOther_8 : decode cX6_isLockedByOther 8 = .ok (.if_icmp .eq 12, 3) := by decide +kernel
theorem dX6_isLockedByOther_11 : decode cX6_isLockedByOther 11 = .ok (.iload_n 3, 1) := by decide +kernel
theorem dX6_isLockedByOther_12 : decode cX6_isLockedByOther 12 = .ok (.iload_n 1, 1) := by decide +kernel
theorem dX6_isLockedByOther_13 : decode cX6_isLockedByOther 13 = .ok (.if_icmp .eq 7, 3) := by decide +kernel
theorem dX6_isLockedByOther_16 : decode cX6_isLockedByOther 16 = .ok (.iconst 1, 1) := by decide +kernel
theorem dX6_isLockedByOther_17 : decode cX6_isLockedByOther 17 = .ok (.goto 4, 3) := by decide +kernel
theorem dX6_isLockedByOther_20 : decode cX6_isLockedByOther 20 = .ok (.iconst 0, 1) := by decide +kernel
theorem dX6_isLockedByOther_21 : decode cX6_isLockedByOther 21 = .ok (.ireturn, 1) := by decide +kernel
theorem dX6_countLockedBy_0 : decode cX6_countLockedBy 0 = .ok (.iconst 0, 1) := by decide +kernel
theorem dX6_countLockedBy_1 : decode cX6_countLockedBy 1 = .ok (.istore_n 2, 1) := by decide +kernel
theorem dX6_countLockedBy_2 : decode cX6_countLockedBy 2 = .ok (.iconst 0, 1) := by decide +kernel
theorem dX6_countLockedBy_3 : decode cX6_countLockedBy 3 = .ok (.istore_n 3, 1) := by decide +kernel
theorem dX6_countLockedBy_4 : decode cX6_countLockedBy 4 = .ok (.iload_n 3, 1) := by decide +kernel
theorem dX6_countLockedBy_5 : decode cX6_countLockedBy 5 = .ok (.bipush 12, 2) := by decide +kernel
theorem dX6_countLockedBy_7 : decode cX6_countLockedBy 7 = .ok (.if_icmp .ge 29, 3) := by decide +kernel
theorem dX6_countLockedBy_10 : decode cX6_countLockedBy 10 = .ok (.aload_n 0, 1) := by decide +kernel
theorem dX6_countLockedBy_11 : decode cX6_countLockedBy 11 = .ok (.iload_n 3, 1) := by decide +kernel
theorem dX6_countLockedBy_12 : decode cX6_countLockedBy 12 = .ok (.invokevirtual 31, 3) := by decide +kernel
theorem dX6_countLockedBy_15 : decode cX6_countLockedBy 15 = .ok (.ifCond .eq 15, 3) := by decide +kernel
theorem dX6_countLockedBy_18 : decode cX6_countLockedBy 18 = .ok (.aload_n 0, 1) := by decide +kernel
theorem dX6_countLockedBy_19 : decode cX6_countLockedBy 19 = .ok (.iload_n 3, 1) := by decide +kernel
theorem dX6_countLockedBy_20 : decode cX6_countLockedBy 20 = .ok (.invokevirtual 77, 3) := by decide +kernel
theorem dX6_countLockedBy_23 : decode cX6_countLockedBy 23 = .ok (.iload_n 1, 1) := by decide +kernel
theorem dX6_countLockedBy_24 : decode cX6_countLockedBy 24 = .ok (.if_icmp .ne 6, 3) := by decide +kernel
theorem dX6_countLockedBy_27 : decode cX6_countLockedBy 27 = .ok (.iinc 2 1, 3) := by decide +kernel
theorem dX6_countLockedBy_30 : decode cX6_countLockedBy 30 = .ok (.iinc 3 1, 3) := by decide +kernel
theorem dX6_countLockedBy_33 : decode cX6_countLockedBy 33 = .ok (.goto (-29), 3) := by decide +kernel
theorem dX6_countLockedBy_36 : decode cX6_countLockedBy 36 = .ok (.iload_n 2, 1) := by decide +kernel
theorem dX6_countLockedBy_37 : decode cX6_countLockedBy 37 = .ok (.ireturn, 1) := by decide +kernel
theorem dX6_isSeenConnector_0 : decode cX6_isSeenConnector 0 = .ok (.aload_n 0, 1) := by decide +kernel
theorem dX6_isSeenConnector_1 : decode cX6_isSeenConnector 1 = .ok (.getfield 15, 3) := by decide +kernel
theorem dX6_isSeenConnector_4 : decode cX6_isSeenConnector 4 = .ok (.iload_n 1, 1) := by decide +kernel
theorem dX6_isSeenConnector_5 : decode cX6_isSeenConnector 5 = .ok (.invokevirtual 80, 3) := by decide +kernel
theorem dX6_isSeenConnector_8 : decode cX6_isSeenConnector 8 = .ok (.ifCond .eq 55, 3) := by decide +kernel
theorem dX6_isSeenConnector_11 : decode cX6_isSeenConnector 11 = .ok (.aload_n 0, 1) := by decide +kernel
theorem dX6_isSeenConnector_12 : decode cX6_isSeenConnector 12 = .ok (.getfield 9, 3) := by decide +kernel
theorem dX6_isSeenConnector_15 : decode cX6_isSeenConnector 15 = .ok (.bipush 48, 2) := by decide +kernel
theorem dX6_isSeenConnector_17 : decode cX6_isSeenConnector 17 = .ok (.iload_n 1, 1) := by decide +kernel
theorem dX6_isSeenConnector_18 : decode cX6_isSeenConnector 18 = .ok (.iadd, 1) := by decide +kernel
theorem dX6_isSeenConnector_19 : decode cX6_isSeenConnector 19 = .ok (.invokevirtual 25, 3) := by decide +kernel
theorem dX6_isSeenConnector_22 : decode cX6_isSeenConnector 22 = .ok (.fconst 0, 1) := by decide +kernel
theorem dX6_isSeenConnector_23 : decode cX6_isSeenConnector 23 = .ok (.fcmp .l, 1) := by decide +kernel
theorem dX6_isSeenConnector_24 : decode cX6_isSeenConnector 24 = .ok (.ifCond .eq 39, 3) := by decide +kernel
theorem dX6_isSeenConnector_27 : decode cX6_isSeenConnector 27 = .ok (.aload_n 0, 1) := by decide +kernel
theorem dX6_isSeenConnector_28 : decode cX6_isSeenConnector 28 = .ok (.aload_n 0, 1) := by decide +kernel
theorem dX6_isSeenConnector_29 : decode cX6_isSeenConnector 29 = .ok (.getfield 15, 3) := by decide +kernel
theorem dX6_isSeenConnector_32 : decode cX6_isSeenConnector 32 = .ok (.iload_n 1, 1) := by decide +kernel
theorem dX6_isSeenConnector_33 : decode cX6_isSeenConnector 33 = .ok (.iconst 1, 1) := by decide +kernel
theorem dX6_isSeenConnector_34 : decode cX6_isSeenConnector 34 = .ok (.invokevirtual 83, 3) := by decide +kernel
theorem dX6_isSeenConnector_37 : decode cX6_isSeenConnector 37 = .ok (.invokevirtual 31, 3) := by decide +kernel
theorem dX6_isSeenConnector_40 : decode cX6_isSeenConnector 40 = .ok (.ifCond .eq 23, 3) := by decide +kernel
theorem dX6_isSeenConnector_43 : decode cX6_isSeenConnector 43 = .ok (.aload_n 0, 1) := by decide +kernel
theorem dX6_isSeenConnector_44 : decode cX6_isSeenConnector 44 = .ok (.aload_n 0, 1) := by decide +kernel
theorem dX6_isSeenConnector_45 : decode cX6_isSeenConnector 45 = .ok (.getfield 15, 3) := by decide +kernel
theorem dX6_isSeenConnector_48 : decode cX6_isSeenConnector 48 = .ok (.iload_n 1, 1) := by decide +kernel
theorem dX6_isSeenConnector_49 : decode cX6_isSeenConnector 49 = .ok (.iconst 0, 1) := by decide +kernel
theorem dX6_isSeenConnector_50 : decode cX6_isSeenConnector 50 = .ok (.invokevirtual 83, 3) := by decide +kernel
theorem dX6_isSeenConnector_53 : decode cX6_isSeenConnector 53 = .ok (.invokevirtual 31, 3) := by decide +kernel
theorem dX6_isSeenConnector_56 : decode cX6_isSeenConnector 56 = .ok (.ifCond .eq 7, 3) := by decide +kernel
theorem dX6_isSeenConnector_59 : decode cX6_isSeenConnector 59 = .ok (.iconst 1, 1) := by decide +kernel
theorem dX6_isSeenConnector_60 : decode cX6_isSeenConnector 60 = .ok (.goto 4, 3) := by decide +kernel
theorem dX6_isSeenConnector_63 : decode cX6_isSeenConnector 63 = .ok (.iconst 0, 1) := by decide +kernel
theorem dX6_isSeenConnector_64 : decode cX6_isSeenConnector 64 = .ok (.ireturn, 1) := by decide +kernel
theorem dX6_countConnectors_0 : decode cX6_countConnectors 0 = .ok (.iconst 0, 1) := by decide +kernel
theorem dX6_countConnectors_1 : decode cX6_countConnectors 1 = .ok (.istore_n 1, 1) := by decide +kernel
theorem dX6_countConnectors_2 : decode cX6_countConnectors 2 = .ok (.iconst 0, 1) := by decide +kernel
theorem dX6_countConnectors_3 : decode cX6_countConnectors 3 = .ok (.istore_n 2, 1) := by decide +kernel
theorem dX6_countConnectors_4 : decode cX6_countConnectors 4 = .ok (.iload_n 2, 1) := by decide +kernel
theorem dX6_countConnectors_5 : decode cX6_countConnectors 5 = .ok (.bipush 8, 2) := by decide +kernel
theorem dX6_countConnectors_7 : decode cX6_countConnectors 7 = .ok (.if_icmp .ge 20, 3) := by decide +kernel
theorem dX6_countConnectors_10 : decode cX6_countConnectors 10 = .ok (.aload_n 0, 1) := by decide +kernel
theorem dX6_countConnectors_11 : decode cX6_countConnectors 11 = .ok (.iload_n 2, 1) := by decide +kernel
theorem dX6_countConnectors_12 : decode cX6_countConnectors 12 = .ok (.invokevirtual 87, 3) := by decide +kernel
theorem dX6_countConnectors_15 : decode cX6_countConnectors 15 = .ok (.ifCond .eq 6, 3) := by decide +kernel
theorem dX6_countConnectors_18 : decode cX6_countConnectors 18 = .ok (.iinc 1 1, 3) := by decide +kernel
theorem dX6_countConnectors_21 : decode cX6_countConnectors 21 = .ok (.iinc 2 1, 3) := by decide +kernel
theorem dX6_countConnectors_24 : decode cX6_countConnectors 24 = .ok (.goto (-20), 3) := by decide +kernel
theorem dX6_countConnectors_27 : decode cX6_countConnectors 27 = .ok (.iload_n 1, 1) := by decide +kernel
theorem dX6_countConnectors_28 : decode cX6_countConnectors 28 = .ok (.ireturn, 1) := by decide +kernel
theorem dX6_endOf_0 : decode cX6_endOf 0 = .ok (.aload_n 0, 1) := by decide +kernel
theorem dX6_endOf_1 : decode cX6_endOf 1 = .ok (.getfield 15, 3) := by decide +kernel
theorem dX6_endOf_4 : decode cX6_endOf 4 = .ok (.iload_n 1, 1) := by decide +kernel
theorem dX6_endOf_5 : decode cX6_endOf 5 = .ok (.iload_n 2, 1) := by decide +kernel
theorem dX6_endOf_6 : decode cX6_endOf 6 = .ok (.invokevirtual 83, 3) := by decide +kernel
theorem dX6_endOf_9 : decode cX6_endOf 9 = .ok (.istore_n 3, 1) := by decide +kernel
theorem dX6_endOf_10 : decode cX6_endOf 10 = .ok (.aload_n 0, 1) := by decide +kernel
theorem dX6_endOf_11 : decode cX6_endOf 11 = .ok (.iload_n 3, 1) := by decide +kernel
theorem dX6_endOf_12 : decode cX6_endOf 12 = .ok (.invokevirtual 61, 3) := by decide +kernel
theorem dX6_endOf_15 : decode cX6_endOf 15 = .ok (.istore 4, 2) := by decide +kernel
theorem dX6_endOf_17 : decode cX6_endOf 17 = .ok (.aload_n 0, 1) := by decide +kernel
theorem dX6_endOf_18 : decode cX6_endOf 18 = .ok (.iload_n 3, 1) := by decide +kernel
theorem dX6_endOf_19 : decode cX6_endOf 19 = .ok (.invokevirtual 64, 3) := by decide +kernel
theorem dX6_endOf_22 : decode cX6_endOf 22 = .ok (.istore 5, 2) := by decide +kernel
theorem dX6_endOf_24 : decode cX6_endOf 24 = .ok (.aload_n 0, 1) := by decide +kernel
theorem dX6_endOf_25 : decode cX6_endOf 25 = .ok (.getfield 15, 3) := by decide +kernel
theorem dX6_endOf_28 : decode cX6_endOf 28 = .ok (.iload_n 3, 1) := by decide +kernel
theorem dX6_endOf_29 : decode cX6_endOf 29 = .ok (.invokevirtual 37, 3) := by decide +kernel
theorem dX6_endOf_32 : decode cX6_endOf 32 = .ok (.istore 6, 2) := by decide +kernel
theorem dX6_endOf_34 : decode cX6_endOf 34 = .ok (.aload_n 0, 1) := by decide +kernel
theorem dX6_endOf_35 : decode cX6_endOf 35 = .ok (.getfield 15, 3) := by decide +kernel
theorem dX6_endOf_38 : decode cX6_endOf 38 = .ok (.iload_n 3, 1) := by decide +kernel
theorem dX6_endOf_39 : decode cX6_endOf 39 = .ok (.invokevirtual 41, 3) := by decide +kernel
theorem dX6_endOf_42 : decode cX6_endOf 42 = .ok (.istore 7, 2) := by decide +kernel
theorem dX6_endOf_44 : decode cX6_endOf 44 = .ok (.aload_n 0, 1) := by decide +kernel
theorem dX6_endOf_45 : decode cX6_endOf 45 = .ok (.getfield 15, 3) := by decide +kernel
theorem dX6_endOf_48 : decode cX6_endOf 48 = .ok (.iload_n 1, 1) := by decide +kernel
theorem dX6_endOf_49 : decode cX6_endOf 49 = .ok (.iload_n 2, 1) := by decide +kernel
theorem dX6_endOf_50 : decode cX6_endOf 50 = .ok (.invokevirtual 90, 3) := by decide +kernel
theorem dX6_endOf_53 : decode cX6_endOf 53 = .ok (.istore 8, 2) := by decide +kernel
theorem dX6_endOf_55 : decode cX6_endOf 55 = .ok (.iload 8, 2) := by decide +kernel
theorem dX6_endOf_57 : decode cX6_endOf 57 = .ok (.bipush 116, 2) := by decide +kernel
theorem dX6_endOf_59 : decode cX6_endOf 59 = .ok (.if_icmp .ne 20, 3) := by decide +kernel
theorem dX6_endOf_62 : decode cX6_endOf 62 = .ok (.iload 4, 2) := by decide +kernel
theorem dX6_endOf_64 : decode cX6_endOf 64 = .ok (.iload 6, 2) := by decide +kernel
theorem dX6_endOf_66 : decode cX6_endOf 66 = .ok (.iconst 1, 1) := by decide +kernel
theorem dX6_endOf_67 : decode cX6_endOf 67 = .ok (.isub, 1) := by decide +kernel
theorem dX6_endOf_68 : decode cX6_endOf 68 = .ok (.iconst 2, 1) := by decide +kernel
theorem dX6_endOf_69 : decode cX6_endOf 69 = .ok (.idiv, 1) := by decide +kernel
theorem dX6_endOf_70 : decode cX6_endOf 70 = .ok (.iadd, 1) := by decide +kernel
theorem dX6_endOf_71 : decode cX6_endOf 71 = .ok (.iload 5, 2) := by decide +kernel
theorem dX6_endOf_73 : decode cX6_endOf 73 = .ok (.iconst 1, 1) := by decide +kernel
theorem dX6_endOf_74 : decode cX6_endOf 74 = .ok (.isub, 1) := by decide +kernel
theorem dX6_endOf_75 : decode cX6_endOf 75 = .ok (.invokestatic 94, 3) := by decide +kernel
theorem dX6_endOf_78 : decode cX6_endOf 78 = .ok (.ireturn, 1) := by decide +kernel
theorem dX6_endOf_79 : decode cX6_endOf 79 = .ok (.iload 8, 2) := by decide +kernel
theorem dX6_endOf_81 : decode cX6_endOf 81 = .ok (.bipush 98, 2) := by decide +kernel
theorem dX6_endOf_83 : decode cX6_endOf 83 = .ok (.if_icmp .ne 21, 3) := by decide +kernel
theorem dX6_endOf_86 : decode cX6_endOf 86 = .ok (.iload 4, 2) := by decide +kernel
theorem dX6_endOf_88 : decode cX6_endOf 88 = .ok (.iload 6, 2) := by decide +kernel
theorem dX6_endOf_90 : decode cX6_endOf 90 = .ok (.iconst 1, 1) := by decide +kernel
theorem dX6_endOf_91 : decode cX6_endOf 91 = .ok (.isub, 1) := by decide +kernel
theorem dX6_endOf_92 : decode cX6_endOf 92 = .ok (.iconst 2, 1) := by decide +kernel
theorem dX6_endOf_93 : decode cX6_endOf 93 = .ok (.idiv, 1) := by decide +kernel
theorem dX6_endOf_94 : decode cX6_endOf 94 = .ok (.iadd, 1) := by decide +kernel
theorem dX6_endOf_95 : decode cX6_endOf 95 = .ok (.iload 5, 2) := by decide +kernel
theorem dX6_endOf_97 : decode cX6_endOf 97 = .ok (.iload 7, 2) := by decide +kernel
theorem dX6_endOf_99 : decode cX6_endOf 99 = .ok (.iadd, 1) := by decide +kernel
theorem dX6_endOf_100 : decode cX6_endOf 100 = .ok (.invokestatic 94, 3) := by decide +kernel
theorem dX6_endOf_103 : decode cX6_endOf 103 = .ok (.ireturn, 1) := by decide +kernel
theorem dX6_endOf_104 : decode cX6_endOf 104 = .ok (.iload 5, 2) := by decide +kernel
theorem dX6_endOf_106 : decode cX6_endOf 106 = .ok (.iload 7, 2) := by decide +kernel
theorem dX6_endOf_108 : decode cX6_endOf 108 = .ok (.iconst 1, 1) := by decide +kernel
theorem dX6_endOf_109 : decode cX6_endOf 109 = .ok (.isub, 1) := by decide +kernel
theorem dX6_endOf_110 : decode cX6_endOf 110 = .ok (.iconst 2, 1) := by decide +kernel
theorem dX6_endOf_111 : decode cX6_endOf 111 = .ok (.idiv, 1) := by decide +kernel
theorem dX6_endOf_112 : decode cX6_endOf 112 = .ok (.iadd, 1) := by decide +kernel
theorem dX6_endOf_113 : decode cX6_endOf 113 = .ok (.istore 9, 2) := by decide +kernel
theorem dX6_endOf_115 : decode cX6_endOf 115 = .ok (.iload 8, 2) := by decide +kernel
theorem dX6_endOf_117 : decode cX6_endOf 117 = .ok (.bipush 108, 2) := by decide +kernel
theorem dX6_endOf_119 : decode cX6_endOf 119 = .ok (.if_icmp .ne 15, 3) := by decide +kernel
theorem dX6_endOf_122 : decode cX6_endOf 122 = .ok (.iload 4, 2) := by decide +kernel
theorem dX6_endOf_124 : decode cX6_endOf 124 = .ok (.iconst 1, 1) := by decide +kernel
theorem dX6_endOf_125 : decode cX6_endOf 125 = .ok (.isub, 1) := by decide +kernel
theorem dX6_endOf_126 : decode cX6_endOf 126 = .ok (.iload 9, 2) := by decide +kernel
theorem dX6_endOf_128 : decode cX6_endOf 128 = .ok (.invokestatic 94, 3) := by decide +kernel
theorem dX6_endOf_131 : decode cX6_endOf 131 = .ok (.goto 13, 3) := by decide +kernel
theorem dX6_endOf_134 : decode cX6_endOf 134 = .ok (.iload 4, 2) := by decide +kernel
theorem dX6_endOf_136 : decode cX6_endOf 136 = .ok (.iload 6, 2) := by decide +kernel
theorem dX6_endOf_138 : decode cX6_endOf 138 = .ok (.iadd, 1) := by decide +kernel
theorem dX6_endOf_139 : decode cX6_endOf 139 = .ok (.iload 9, 2) := by decide +kernel
theorem dX6_endOf_141 : decode cX6_endOf 141 = .ok (.invokestatic 94, 3) := by decide +kernel
theorem dX6_endOf_144 : decode cX6_endOf 144 = .ok (.ireturn, 1) := by decide +kernel
theorem dX6_areVotesShown_0 : decode cX6_areVotesShown 0 = .ok (.aload_n 0, 1) := by decide +kernel
theorem dX6_areVotesShown_1 : decode cX6_areVotesShown 1 = .ok (.getfield 9, 3) := by decide +kernel
theorem dX6_areVotesShown_4 : decode cX6_areVotesShown 4 = .ok (.bipush 92, 2) := by decide +kernel
theorem dX6_areVotesShown_6 : decode cX6_areVotesShown 6 = .ok (.invokevirtual 25, 3) := by decide +kernel
theorem dX6_areVotesShown_9 : decode cX6_areVotesShown 9 = .ok (.fconst 0, 1) := by decide +kernel
theorem dX6_areVotesShown_10 : decode cX6_areVotesShown 10 = .ok (.fcmp .l, 1) := by decide +kernel
theorem dX6_areVotesShown_11 : decode cX6_areVotesShown 11 = .ok (.ifCond .eq 7, 3) := by decide +kernel
theorem dX6_areVotesShown_14 : decode cX6_areVotesShown 14 = .ok (.iconst 1, 1) := by decide +kernel
theorem dX6_areVotesShown_15 : decode cX6_areVotesShown 15 = .ok (.goto 4, 3) := by decide +kernel
theorem dX6_areVotesShown_18 : decode cX6_areVotesShown 18 = .ok (.iconst 0, 1) := by decide +kernel
theorem dX6_areVotesShown_19 : decode cX6_areVotesShown 19 = .ok (.ireturn, 1) := by decide +kernel
theorem dX6_votesBy_0 : decode cX6_votesBy 0 = .ok (.aload_n 0, 1) := by decide +kernel
theorem dX6_votesBy_1 : decode cX6_votesBy 1 = .ok (.getfield 9, 3) := by decide +kernel
theorem dX6_votesBy_4 : decode cX6_votesBy 4 = .ok (.iload_n 1, 1) := by decide +kernel
theorem dX6_votesBy_5 : decode cX6_votesBy 5 = .ok (.iload_n 2, 1) := by decide +kernel
theorem dX6_votesBy_6 : decode cX6_votesBy 6 = .ok (.invokestatic 98, 3) := by decide +kernel
theorem dX6_votesBy_9 : decode cX6_votesBy 9 = .ok (.invokevirtual 25, 3) := by decide +kernel
theorem dX6_votesBy_12 : decode cX6_votesBy 12 = .ok (.f2i, 1) := by decide +kernel
theorem dX6_votesBy_13 : decode cX6_votesBy 13 = .ok (.ireturn, 1) := by decide +kernel
theorem dX6_allVotesBy_0 : decode cX6_allVotesBy 0 = .ok (.iconst 0, 1) := by decide +kernel
theorem dX6_allVotesBy_1 : decode cX6_allVotesBy 1 = .ok (.istore_n 2, 1) := by decide +kernel
theorem dX6_allVotesBy_2 : decode cX6_allVotesBy 2 = .ok (.iconst 0, 1) := by decide +kernel
theorem dX6_allVotesBy_3 : decode cX6_allVotesBy 3 = .ok (.istore_n 3, 1) := by decide +kernel
theorem dX6_allVotesBy_4 : decode cX6_allVotesBy 4 = .ok (.iload_n 3, 1) := by decide +kernel
theorem dX6_allVotesBy_5 : decode cX6_allVotesBy 5 = .ok (.bipush 12, 2) := by decide +kernel
theorem dX6_allVotesBy_7 : decode cX6_allVotesBy 7 = .ok (.if_icmp .ge 18, 3) := by decide +kernel
theorem dX6_allVotesBy_10 : decode cX6_allVotesBy 10 = .ok (.iload_n 2, 1) := by decide +kernel
theorem dX6_allVotesBy_11 : decode cX6_allVotesBy 11 = .ok (.aload_n 0, 1) := by decide +kernel
theorem dX6_allVotesBy_12 : decode cX6_allVotesBy 12 = .ok (.iload_n 1, 1) := by decide +kernel
theorem dX6_allVotesBy_13 : decode cX6_allVotesBy 13 = .ok (.iload_n 3, 1) := by decide +kernel
theorem dX6_allVotesBy_14 : decode cX6_allVotesBy 14 = .ok (.invokevirtual 101, 3) := by decide +kernel
theorem dX6_allVotesBy_17 : decode cX6_allVotesBy 17 = .ok (.iadd, 1) := by decide +kernel
theorem dX6_allVotesBy_18 : decode cX6_allVotesBy 18 = .ok (.istore_n 2, 1) := by decide +kernel
theorem dX6_allVotesBy_19 : decode cX6_allVotesBy 19 = .ok (.iinc 3 1, 3) := by decide +kernel
theorem dX6_allVotesBy_22 : decode cX6_allVotesBy 22 = .ok (.goto (-18), 3) := by decide +kernel
theorem dX6_allVotesBy_25 : decode cX6_allVotesBy 25 = .ok (.iload_n 2, 1) := by decide +kernel
theorem dX6_allVotesBy_26 : decode cX6_allVotesBy 26 = .ok (.ireturn, 1) := by decide +kernel
theorem dX6_allVotesFor_0 : decode cX6_allVotesFor 0 = .ok (.iconst 0, 1) := by decide +kernel
theorem dX6_allVotesFor_1 : decode cX6_allVotesFor 1 = .ok (.istore_n 2, 1) := by decide +kernel
theorem dX6_allVotesFor_2 : decode cX6_allVotesFor 2 = .ok (.iconst 0, 1) := by decide +kernel
theorem dX6_allVotesFor_3 : decode cX6_allVotesFor 3 = .ok (.istore_n 3, 1) := by decide +kernel
theorem dX6_allVotesFor_4 : decode cX6_allVotesFor 4 = .ok (.iload_n 3, 1) := by decide +kernel
theorem dX6_allVotesFor_5 : decode cX6_allVotesFor 5 = .ok (.iconst 3, 1) := by decide +kernel
theorem dX6_allVotesFor_6 : decode cX6_allVotesFor 6 = .ok (.if_icmp .ge 18, 3) := by decide +kernel
theorem dX6_allVotesFor_9 : decode cX6_allVotesFor 9 = .ok (.iload_n 2, 1) := by decide +kernel
theorem dX6_allVotesFor_10 : decode cX6_allVotesFor 10 = .ok (.aload_n 0, 1) := by decide +kernel
theorem dX6_allVotesFor_11 : decode cX6_allVotesFor 11 = .ok (.iload_n 3, 1) := by decide +kernel
theorem dX6_allVotesFor_12 : decode cX6_allVotesFor 12 = .ok (.iload_n 1, 1) := by decide +kernel
theorem dX6_allVotesFor_13 : decode cX6_allVotesFor 13 = .ok (.invokevirtual 101, 3) := by decide +kernel
theorem dX6_allVotesFor_16 : decode cX6_allVotesFor 16 = .ok (.iadd, 1) := by decide +kernel
theorem dX6_allVotesFor_17 : decode cX6_allVotesFor 17 = .ok (.istore_n 2, 1) := by decide +kernel
theorem dX6_allVotesFor_18 : decode cX6_allVotesFor 18 = .ok (.iinc 3 1, 3) := by decide +kernel
theorem dX6_allVotesFor_21 : decode cX6_allVotesFor 21 = .ok (.goto (-17), 3) := by decide +kernel
theorem dX6_allVotesFor_24 : decode cX6_allVotesFor 24 = .ok (.iload_n 2, 1) := by decide +kernel
theorem dX6_allVotesFor_25 : decode cX6_allVotesFor 25 = .ok (.ireturn, 1) := by decide +kernel
theorem dX6_mostVoted_0 : decode cX6_mostVoted 0 = .ok (.iconst (-1), 1) := by decide +kernel
theorem dX6_mostVoted_1 : decode cX6_mostVoted 1 = .ok (.istore_n 1, 1) := by decide +kernel
theorem dX6_mostVoted_2 : decode cX6_mostVoted 2 = .ok (.iconst 0, 1) := by decide +kernel
theorem dX6_mostVoted_3 : decode cX6_mostVoted 3 = .ok (.istore_n 2, 1) := by decide +kernel
theorem dX6_mostVoted_4 : decode cX6_mostVoted 4 = .ok (.iconst 0, 1) := by decide +kernel
theorem dX6_mostVoted_5 : decode cX6_mostVoted 5 = .ok (.istore_n 3, 1) := by decide +kernel
theorem dX6_mostVoted_6 : decode cX6_mostVoted 6 = .ok (.iload_n 3, 1) := by decide +kernel
theorem dX6_mostVoted_7 : decode cX6_mostVoted 7 = .ok (.bipush 12, 2) := by decide +kernel
theorem dX6_mostVoted_9 : decode cX6_mostVoted 9 = .ok (.if_icmp .ge 34, 3) := by decide +kernel
theorem dX6_mostVoted_12 : decode cX6_mostVoted 12 = .ok (.aload_n 0, 1) := by decide +kernel
theorem dX6_mostVoted_13 : decode cX6_mostVoted 13 = .ok (.iload_n 3, 1) := by decide +kernel
theorem dX6_mostVoted_14 : decode cX6_mostVoted 14 = .ok (.invokevirtual 31, 3) := by decide +kernel
theorem dX6_mostVoted_17 : decode cX6_mostVoted 17 = .ok (.ifCond .eq 20, 3) := by decide +kernel
theorem dX6_mostVoted_20 : decode cX6_mostVoted 20 = .ok (.aload_n 0, 1) := by decide +kernel
theorem dX6_mostVoted_21 : decode cX6_mostVoted 21 = .ok (.iload_n 3, 1) := by decide +kernel
theorem dX6_mostVoted_22 : decode cX6_mostVoted 22 = .ok (.invokevirtual 104, 3) := by decide +kernel
theorem dX6_mostVoted_25 : decode cX6_mostVoted 25 = .ok (.iload_n 2, 1) := by decide +kernel
theorem dX6_mostVoted_26 : decode cX6_mostVoted 26 = .ok (.if_icmp .le 11, 3) := by decide +kernel
theorem dX6_mostVoted_29 : decode cX6_mostVoted 29 = .ok (.iload_n 3, 1) := by decide +kernel
theorem dX6_mostVoted_30 : decode cX6_mostVoted 30 = .ok (.istore_n 1, 1) := by decide +kernel
theorem dX6_mostVoted_31 : decode cX6_mostVoted 31 = .ok (.aload_n 0, 1) := by decide +kernel
theorem dX6_mostVoted_32 : decode cX6_mostVoted 32 = .ok (.iload_n 3, 1) := by decide +kernel
theorem dX6_mostVoted_33 : decode cX6_mostVoted 33 = .ok (.invokevirtual 104, 3) := by decide +kernel
theorem dX6_mostVoted_36 : decode cX6_mostVoted 36 = .ok (.istore_n 2, 1) := by decide +kernel
theorem dX6_mostVoted_37 : decode cX6_mostVoted 37 = .ok (.iinc 3 1, 3) := by decide +kernel
theorem dX6_mostVoted_40 : decode cX6_mostVoted 40 = .ok (.goto (-34), 3) := by decide +kernel
theorem dX6_mostVoted_43 : decode cX6_mostVoted 43 = .ok (.iload_n 1, 1) := by decide +kernel
theorem dX6_mostVoted_44 : decode cX6_mostVoted 44 = .ok (.ireturn, 1) := by decide +kernel
theorem dX6_sumUp_0 : decode cX6_sumUp 0 = .ok (.iconst 0, 1) := by decide +kernel
theorem dX6_sumUp_1 : decode cX6_sumUp 1 = .ok (.istore_n 1, 1) := by decide +kernel
theorem dX6_sumUp_2 : decode cX6_sumUp 2 = .ok (.iconst 0, 1) := by decide +kernel
theorem dX6_sumUp_3 : decode cX6_sumUp 3 = .ok (.istore_n 2, 1) := by decide +kernel
theorem dX6_sumUp_4 : decode cX6_sumUp 4 = .ok (.iload_n 2, 1) := by decide +kernel
theorem dX6_sumUp_5 : decode cX6_sumUp 5 = .ok (.bipush 12, 2) := by decide +kernel
theorem dX6_sumUp_7 : decode cX6_sumUp 7 = .ok (.if_icmp .ge 53, 3) := by decide +kernel
theorem dX6_sumUp_10 : decode cX6_sumUp 10 = .ok (.aload_n 0, 1) := by decide +kernel
theorem dX6_sumUp_11 : decode cX6_sumUp 11 = .ok (.iload_n 2, 1) := by decide +kernel
theorem dX6_sumUp_12 : decode cX6_sumUp 12 = .ok (.invokevirtual 31, 3) := by decide +kernel
theorem dX6_sumUp_15 : decode cX6_sumUp 15 = .ok (.ifCond .eq 39, 3) := by decide +kernel
theorem dX6_sumUp_18 : decode cX6_sumUp 18 = .ok (.iload_n 1, 1) := by decide +kernel
theorem dX6_sumUp_19 : decode cX6_sumUp 19 = .ok (.iload_n 2, 1) := by decide +kernel
theorem dX6_sumUp_20 : decode cX6_sumUp 20 = .ok (.invokestatic 107, 3) := by decide +kernel
theorem dX6_sumUp_23 : decode cX6_sumUp 23 = .ok (.istore_n 1, 1) := by decide +kernel
theorem dX6_sumUp_24 : decode cX6_sumUp 24 = .ok (.iload_n 1, 1) := by decide +kernel
theorem dX6_sumUp_25 : decode cX6_sumUp 25 = .ok (.aload_n 0, 1) := by decide +kernel
theorem dX6_sumUp_26 : decode cX6_sumUp 26 = .ok (.iload_n 2, 1) := by decide +kernel
theorem dX6_sumUp_27 : decode cX6_sumUp 27 = .ok (.invokevirtual 61, 3) := by decide +kernel
theorem dX6_sumUp_30 : decode cX6_sumUp 30 = .ok (.invokestatic 107, 3) := by decide +kernel
theorem dX6_sumUp_33 : decode cX6_sumUp 33 = .ok (.istore_n 1, 1) := by decide +kernel
theorem dX6_sumUp_34 : decode cX6_sumUp 34 = .ok (.iload_n 1, 1) := by decide +kernel
theorem dX6_sumUp_35 : decode cX6_sumUp 35 = .ok (.aload_n 0, 1) := by decide +kernel
theorem dX6_sumUp_36 : decode cX6_sumUp 36 = .ok (.iload_n 2, 1) := by decide +kernel
theorem dX6_sumUp_37 : decode cX6_sumUp 37 = .ok (.invokevirtual 64, 3) := by decide +kernel
theorem dX6_sumUp_40 : decode cX6_sumUp 40 = .ok (.invokestatic 107, 3) := by decide +kernel
theorem dX6_sumUp_43 : decode cX6_sumUp 43 = .ok (.istore_n 1, 1) := by decide +kernel
theorem dX6_sumUp_44 : decode cX6_sumUp 44 = .ok (.iload_n 1, 1) := by decide +kernel
theorem dX6_sumUp_45 : decode cX6_sumUp 45 = .ok (.aload_n 0, 1) := by decide +kernel
theorem dX6_sumUp_46 : decode cX6_sumUp 46 = .ok (.iload_n 2, 1) := by decide +kernel
theorem dX6_sumUp_47 : decode cX6_sumUp 47 = .ok (.invokevirtual 58, 3) := by decide +kernel
theorem dX6_sumUp_50 : decode cX6_sumUp 50 = .ok (.invokestatic 107, 3) := by decide +kernel
theorem dX6_sumUp_53 : decode cX6_sumUp 53 = .ok (.istore_n 1, 1) := by decide +kernel
theorem dX6_sumUp_54 : decode cX6_sumUp 54 = .ok (.iinc 2 1, 3) := by decide +kernel
theorem dX6_sumUp_57 : decode cX6_sumUp 57 = .ok (.goto (-53), 3) := by decide +kernel
theorem dX6_sumUp_60 : decode cX6_sumUp 60 = .ok (.iload_n 1, 1) := by decide +kernel
theorem dX6_sumUp_61 : decode cX6_sumUp 61 = .ok (.ireturn, 1) := by decide +kernel
theorem dX6_join_0 : decode cX6_join 0 = .ok (.iload_n 0, 1) := by decide +kernel
theorem dX6_join_1 : decode cX6_join 1 = .ok (.bipush 31, 2) := by decide +kernel
theorem dX6_join_3 : decode cX6_join 3 = .ok (.imul, 1) := by decide +kernel
theorem dX6_join_4 : decode cX6_join 4 = .ok (.iload_n 1, 1) := by decide +kernel
theorem dX6_join_5 : decode cX6_join 5 = .ok (.iadd, 1) := by decide +kernel
theorem dX6_join_6 : decode cX6_join 6 = .ok (.iconst 1, 1) := by decide +kernel
theorem dX6_join_7 : decode cX6_join 7 = .ok (.iadd, 1) := by decide +kernel
theorem dX6_join_8 : decode cX6_join 8 = .ok (.ldc 110, 2) := by decide +kernel
theorem dX6_join_10 : decode cX6_join 10 = .ok (.irem, 1) := by decide +kernel
theorem dX6_join_11 : decode cX6_join 11 = .ok (.ireturn, 1) := by decide +kernel
