theorem dL_addShape_0 : decode cL_addShape 0 = .ok (.aload 7, 2) := by decide +kernel
theorem dL_addShape_2 : decode cL_addShape 2 = .ok (.iconst 0, 1) := by decide +kernel
theorem dL_addShape_3 : decode cL_addShape 3 = .ok (.aload_n 0, 1) := by decide +kernel
theorem dL_addShape_4 : decode cL_addShape 4 = .ok (.iload_n 1, 1) := by decide +kernel
theorem dL_addShape_5 : decode cL_addShape 5 = .ok (.iload_n 2, 1) := by decide +kernel
theorem dL_addShape_6 : decode cL_addShape 6 = .ok (.iload_n 3, 1) := by decide +kernel
theorem dL_addShape_7 : decode cL_addShape 7 = .ok (.iload 4, 2) := by decide +kernel
theorem dL_addShape_9 : decode cL_addShape 9 = .ok (.iload 5, 2) := by decide +kernel
theorem dL_addShape_11 : decode cL_addShape 11 = .ok (.iload 6, 2) := by decide +kernel
theorem dL_addShape_13 : decode cL_addShape 13 = .ok (.invokevirtual 7, 3) := by decide +kernel
theorem dL_addShape_16 : decode cL_addShape 16 = .ok (.i2l, 1) := by decide +kernel
theorem dL_addShape_17 : decode cL_addShape 17 = .ok (.lastore, 1) := by decide +kernel
theorem dL_addShape_18 : decode cL_addShape 18 = .ok (.goto 11, 3) := by decide +kernel
theorem dL_addShape_21 : decode cL_addShape 21 = .ok (.astore 8, 2) := by decide +kernel
theorem dL_addShape_23 : decode cL_addShape 23 = .ok (.iconst 1, 1) := by decide +kernel
theorem dL_addShape_24 : decode cL_addShape 24 = .ok (.ireturn, 1) := by decide +kernel
theorem dL_addShape_25 : decode cL_addShape 25 = .ok (.astore 8, 2) := by decide +kernel
theorem dL_addShape_27 : decode cL_addShape 27 = .ok (.iconst 2, 1) := by decide +kernel
theorem dL_addShape_28 : decode cL_addShape 28 = .ok (.ireturn, 1) := by decide +kernel
theorem dL_addShape_29 : decode cL_addShape 29 = .ok (.iconst 0, 1) := by decide +kernel
theorem dL_addShape_30 : decode cL_addShape 30 = .ok (.ireturn, 1) := by decide +kernel
theorem dL_move_0 : decode cL_move 0 = .ok (.aload 5, 2) := by decide +kernel
theorem dL_move_2 : decode cL_move 2 = .ok (.iconst 0, 1) := by decide +kernel
theorem dL_move_3 : decode cL_move 3 = .ok (.aload_n 0, 1) := by decide +kernel
theorem dL_move_4 : decode cL_move 4 = .ok (.iload_n 1, 1) := by decide +kernel
theorem dL_move_5 : decode cL_move 5 = .ok (.iload_n 2, 1) := by decide +kernel
theorem dL_move_6 : decode cL_move 6 = .ok (.iload_n 3, 1) := by decide +kernel
theorem dL_move_7 : decode cL_move 7 = .ok (.iload 4, 2) := by decide +kernel
theorem dL_move_9 : decode cL_move 9 = .ok (.invokevirtual 17, 3) := by decide +kernel
theorem dL_move_12 : decode cL_move 12 = .ok (.i2l, 1) := by decide +kernel
theorem dL_move_13 : decode cL_move 13 = .ok (.lastore, 1) := by decide +kernel
theorem dL_move_14 : decode cL_move 14 = .ok (.goto 19, 3) := by decide +kernel
theorem dL_move_17 : decode cL_move 17 = .ok (.astore 6, 2) := by decide +kernel
theorem dL_move_19 : decode cL_move 19 = .ok (.iconst 1, 1) := by decide +kernel
theorem dL_move_20 : decode cL_move 20 = .ok (.ireturn, 1) := by decide +kernel
theorem dL_move_21 : decode cL_move 21 = .ok (.astore 6, 2) := by decide +kernel
theorem dL_move_23 : decode cL_move 23 = .ok (.iconst 2, 1) := by decide +kernel
theorem dL_move_24 : decode cL_move 24 = .ok (.ireturn, 1) := by decide +kernel
theorem dL_move_25 : decode cL_move 25 = .ok (.astore 6, 2) := by decide +kernel
theorem dL_move_27 : decode cL_move 27 = .ok (.iconst 3, 1) := by decide +kernel
theorem dL_move_28 : decode cL_move 28 = .ok (.ireturn, 1) := by decide +kernel
theorem dL_move_29 : decode cL_move 29 = .ok (.astore 6, 2) := by decide +kernel
theorem dL_move_31 : decode cL_move 31 = .ok (.iconst 4, 1) := by decide +kernel
theorem dL_move_32 : decode cL_move 32 = .ok (.ireturn, 1) := by decide +kernel
theorem dL_move_33 : decode cL_move 33 = .ok (.iconst 0, 1) := by decide +kernel
theorem dL_move_34 : decode cL_move 34 = .ok (.ireturn, 1) := by decide +kernel
theorem dL_raise_0 : decode cL_raise 0 = .ok (.aload_n 3, 1) := by decide +kernel
theorem dL_raise_1 : decode cL_raise 1 = .ok (.iconst 0, 1) := by decide +kernel
theorem dL_raise_2 : decode cL_raise 2 = .ok (.aload_n 0, 1) := by decide +kernel
theorem dL_raise_3 : decode cL_raise 3 = .ok (.iload_n 1, 1) := by decide +kernel
theorem dL_raise_4 : decode cL_raise 4 = .ok (.iload_n 2, 1) := by decide +kernel
theorem dL_raise_5 : decode cL_raise 5 = .ok (.invokevirtual 25, 3) := by decide +kernel
theorem dL_raise_8 : decode cL_raise 8 = .ok (.i2l, 1) := by decide +kernel
theorem dL_raise_9 : decode cL_raise 9 = .ok (.lastore, 1) := by decide +kernel
theorem dL_raise_10 : decode cL_raise 10 = .ok (.goto 19, 3) := by decide +kernel
theorem dL_raise_13 : decode cL_raise 13 = .ok (.astore 4, 2) := by decide +kernel
theorem dL_raise_15 : decode cL_raise 15 = .ok (.iconst 1, 1) := by decide +kernel
theorem dL_raise_16 : decode cL_raise 16 = .ok (.ireturn, 1) := by decide +kernel
theorem dL_raise_17 : decode cL_raise 17 = .ok (.astore 4, 2) := by decide +kernel
theorem dL_raise_19 : decode cL_raise 19 = .ok (.iconst 2, 1) := by decide +kernel
theorem dL_raise_20 : decode cL_raise 20 = .ok (.ireturn, 1) := by decide +kernel
theorem dL_raise_21 : decode cL_raise 21 = .ok (.astore 4, 2) := by decide +kernel
theorem dL_raise_23 : decode cL_raise 23 = .ok (.iconst 3, 1) := by decide +kernel
theorem dL_raise_24 : decode cL_raise 24 = .ok (.ireturn, 1) := by decide +kernel
theorem dL_raise_25 : decode cL_raise 25 = .ok (.astore 4, 2) := by decide +kernel
theorem dL_raise_27 : decode cL_raise 27 = .ok (.iconst 4, 1) := by decide +kernel
theorem dL_raise_28 : decode cL_raise 28 = .ok (.ireturn, 1) := by decide +kernel
theorem dL_raise_29 : decode cL_raise 29 = .ok (.iconst 0, 1) := by decide +kernel
theorem dL_raise_30 : decode cL_raise 30 = .ok (.ireturn, 1) := by decide +kernel
theorem dL_lower_0 : decode cL_lower 0 = .ok (.aload_n 3, 1) := by decide +kernel
theorem dL_lower_1 : decode cL_lower 1 = .ok (.iconst 0, 1) := by decide +kernel
theorem dL_lower_2 : decode cL_lower 2 = .ok (.aload_n 0, 1) := by decide +kernel
theorem dL_lower_3 : decode cL_lower 3 = .ok (.iload_n 1, 1) := by decide +kernel
theorem dL_lower_4 : decode cL_lower 4 = .ok (.iload_n 2, 1) := by decide +kernel
theorem dL_lower_5 : decode cL_lower 5 = .ok (.invokevirtual 29, 3) := by decide +kernel
theorem dL_lower_8 : decode cL_lower 8 = .ok (.i2l, 1) := by decide +kernel
theorem dL_lower_9 : decode cL_lower 9 = .ok (.lastore, 1) := by decide +kernel
theorem dL_lower_10 : decode cL_lower 10 = .ok (.goto 19, 3) := by decide +kernel
theorem dL_lower_13 : decode cL_lower 13 = .ok (.astore 4, 2) := by decide +kernel
theorem dL_lower_15 : decode cL_lower 15 = .ok (.iconst 1, 1) := by decide +kernel
theorem dL_lower_16 : decode cL_lower 16 = .ok (.ireturn, 1) := by decide +kernel
theorem dL_lower_17 : decode cL_lower 17 = .ok (.astore 4, 2) := by decide +kernel
theorem dL_lower_19 : decode cL_lower 19 = .ok (.iconst 2, 1) := by decide +kernel
theorem dL_lower_20 : decode cL_lower 20 = .ok (.ireturn, 1) := by decide +kernel
theorem dL_lower_21 : decode cL_lower 21 = .ok (.astore 4, 2) := by decide +kernel
theorem dL_lower_23 : decode cL_lower 23 = .ok (.iconst 3, 1) := by decide +kernel
theorem dL_lower_24 : decode cL_lower 24 = .ok (.ireturn, 1) := by decide +kernel
theorem dL_lower_25 : decode cL_lower 25 = .ok (.astore 4, 2) := by decide +kernel
theorem dL_lower_27 : decode cL_lower 27 = .ok (.iconst 4, 1) := by decide +kernel
theorem dL_lower_28 : decode cL_lower 28 = .ok (.ireturn, 1) := by decide +kernel
theorem dL_lower_29 : decode cL_lower 29 = .ok (.iconst 0, 1) := by decide +kernel
theorem dL_lower_30 : decode cL_lower 30 = .ok (.ireturn, 1) := by decide +kernel
theorem dL_putAbove_0 : decode cL_putAbove 0 = .ok (.aload 4, 2) := by decide +kernel
theorem dL_putAbove_2 : decode cL_putAbove 2 = .ok (.iconst 0, 1) := by decide +kernel
theorem dL_putAbove_3 : decode cL_putAbove 3 = .ok (.aload_n 0, 1) := by decide +kernel
theorem dL_putAbove_4 : decode cL_putAbove 4 = .ok (.iload_n 1, 1) := by decide +kernel
theorem dL_putAbove_5 : decode cL_putAbove 5 = .ok (.iload_n 2, 1) := by decide +kernel
theorem dL_putAbove_6 : decode cL_putAbove 6 = .ok (.iload_n 3, 1) := by decide +kernel
theorem dL_putAbove_7 : decode cL_putAbove 7 = .ok (.invokevirtual 32, 3) := by decide +kernel
theorem dL_putAbove_10 : decode cL_putAbove 10 = .ok (.i2l, 1) := by decide +kernel
theorem dL_putAbove_11 : decode cL_putAbove 11 = .ok (.lastore, 1) := by decide +kernel
theorem dL_putAbove_12 : decode cL_putAbove 12 = .ok (.goto 19, 3) := by decide +kernel
theorem dL_putAbove_15 : decode cL_putAbove 15 = .ok (.astore 5, 2) := by decide +kernel
theorem dL_putAbove_17 : decode cL_putAbove 17 = .ok (.iconst 1, 1) := by decide +kernel
theorem dL_putAbove_18 : decode cL_putAbove 18 = .ok (.ireturn, 1) := by decide +kernel
theorem dL_putAbove_19 : decode cL_putAbove 19 = .ok (.astore 5, 2) := by decide +kernel
theorem dL_putAbove_21 : decode cL_putAbove 21 = .ok (.iconst 2, 1) := by decide +kernel
theorem dL_putAbove_22 : decode cL_putAbove 22 = .ok (.ireturn, 1) := by decide +kernel
theorem dL_putAbove_23 : decode cL_putAbove 23 = .ok (.astore 5, 2) := by decide +kernel
theorem dL_putAbove_25 : decode cL_putAbove 25 = .ok (.iconst 3, 1) := by decide +kernel
theorem dL_putAbove_26 : decode cL_putAbove 26 = .ok (.ireturn, 1) := by decide +kernel
theorem dL_putAbove_27 : decode cL_putAbove 27 = .ok (.astore 5, 2) := by decide +kernel
theorem dL_putAbove_29 : decode cL_putAbove 29 = .ok (.iconst 4, 1) := by decide +kernel
theorem dL_putAbove_30 : decode cL_putAbove 30 = .ok (.ireturn, 1) := by decide +kernel
theorem dL_putAbove_31 : decode cL_putAbove 31 = .ok (.iconst 0, 1) := by decide +kernel
theorem dL_putAbove_32 : decode cL_putAbove 32 = .ok (.ireturn, 1) := by decide +kernel
theorem dL_remove_0 : decode cL_remove 0 = .ok (.aload_n 3, 1) := by decide +kernel
theorem dL_remove_1 : decode cL_remove 1 = .ok (.iconst 0, 1) := by decide +kernel
theorem dL_remove_2 : decode cL_remove 2 = .ok (.aload_n 0, 1) := by decide +kernel
theorem dL_remove_3 : decode cL_remove 3 = .ok (.iload_n 1, 1) := by decide +kernel
theorem dL_remove_4 : decode cL_remove 4 = .ok (.iload_n 2, 1) := by decide +kernel
theorem dL_remove_5 : decode cL_remove 5 = .ok (.invokevirtual 36, 3) := by decide +kernel
theorem dL_remove_8 : decode cL_remove 8 = .ok (.i2l, 1) := by decide +kernel
theorem dL_remove_9 : decode cL_remove 9 = .ok (.lastore, 1) := by decide +kernel
theorem dL_remove_10 : decode cL_remove 10 = .ok (.goto 19, 3) := by decide +kernel
theorem dL_remove_13 : decode cL_remove 13 = .ok (.astore 4, 2) := by decide +kernel
theorem dL_remove_15 : decode cL_remove 15 = .ok (.iconst 1, 1) := by decide +kernel
theorem dL_remove_16 : decode cL_remove 16 = .ok (.ireturn, 1) := by decide +kernel
theorem dL_remove_17 : decode cL_remove 17 = .ok (.astore 4, 2) := by decide +kernel
theorem dL_remove_19 : decode cL_remove 19 = .ok (.iconst 2, 1) := by decide +kernel
theorem dL_remove_20 : decode cL_remove 20 = .ok (.ireturn, 1) := by decide +kernel
theorem dL_remove_21 : decode cL_remove 21 = .ok (.astore 4, 2) := by decide +kernel
theorem dL_remove_23 : decode cL_remove 23 = .ok (.iconst 3, 1) := by decide +kernel
theorem dL_remove_24 : decode cL_remove 24 = .ok (.ireturn, 1) := by decide +kernel
theorem dL_remove_25 : decode cL_remove 25 = .ok (.astore 4, 2) := by decide +kernel
theorem dL_remove_27 : decode cL_remove 27 = .ok (.iconst 4, 1) := by decide +kernel
theorem dL_remove_28 : decode cL_remove 28 = .ok (.ireturn, 1) := by decide +kernel
theorem dL_remove_29 : decode cL_remove 29 = .ok (.iconst 0, 1) := by decide +kernel
theorem dL_remove_30 : decode cL_remove 30 = .ok (.ireturn, 1) := by decide +kernel
theorem dL_lock_0 : decode cL_lock 0 = .ok (.aload_n 3, 1) := by decide +kernel
theorem dL_lock_1 : decode cL_lock 1 = .ok (.iconst 0, 1) := by decide +kernel
theorem dL_lock_2 : decode cL_lock 2 = .ok (.aload_n 0, 1) := by decide +kernel
theorem dL_lock_3 : decode cL_lock 3 = .ok (.iload_n 1, 1) := by decide +kernel
theorem dL_lock_4 : decode cL_lock 4 = .ok (.iload_n 2, 1) := by decide +kernel
theorem dL_lock_5 : decode cL_lock 5 = .ok (.invokevirtual 39, 3) := by decide +kernel
theorem dL_lock_8 : decode cL_lock 8 = .ok (.i2l, 1) := by decide +kernel
theorem dL_lock_9 : decode cL_lock 9 = .ok (.lastore, 1) := by decide +kernel
theorem dL_lock_10 : decode cL_lock 10 = .ok (.goto 19, 3) := by decide +kernel
theorem dL_lock_13 : decode cL_lock 13 = .ok (.astore 4, 2) := by decide +kernel
theorem dL_lock_15 : decode cL_lock 15 = .ok (.iconst 1, 1) := by decide +kernel
theorem dL_lock_16 : decode cL_lock 16 = .ok (.ireturn, 1) := by decide +kernel
theorem dL_lock_17 : decode cL_lock 17 = .ok (.astore 4, 2) := by decide +kernel
theorem dL_lock_19 : decode cL_lock 19 = .ok (.iconst 2, 1) := by decide +kernel
theorem dL_lock_20 : decode cL_lock 20 = .ok (.ireturn, 1) := by decide +kernel
theorem dL_lock_21 : decode cL_lock 21 = .ok (.astore 4, 2) := by decide +kernel
theorem dL_lock_23 : decode cL_lock 23 = .ok (.iconst 3, 1) := by decide +kernel
theorem dL_lock_24 : decode cL_lock 24 = .ok (.ireturn, 1) := by decide +kernel
theorem dL_lock_25 : decode cL_lock 25 = .ok (.astore 4, 2) := by decide +kernel
theorem dL_lock_27 : decode cL_lock 27 = .ok (.iconst 4, 1) := by decide +kernel
theorem dL_lock_28 : decode cL_lock 28 = .ok (.ireturn, 1) := by decide +kernel
theorem dL_lock_29 : decode cL_lock 29 = .ok (.iconst 0, 1) := by decide +kernel
theorem dL_lock_30 : decode cL_lock 30 = .ok (.ireturn, 1) := by decide +kernel
theorem dL_unlock_0 : decode cL_unlock 0 = .ok (.aload_n 3, 1) := by decide +kernel
theorem dL_unlock_1 : decode cL_unlock 1 = .ok (.iconst 0, 1) := by decide +kernel
theorem dL_unlock_2 : decode cL_unlock 2 = .ok (.aload_n 0, 1) := by decide +kernel
theorem dL_unlock_3 : decode cL_unlock 3 = .ok (.iload_n 1, 1) := by decide +kernel
theorem dL_unlock_4 : decode cL_unlock 4 = .ok (.iload_n 2, 1) := by decide +kernel
theorem dL_unlock_5 : decode cL_unlock 5 = .ok (.invokevirtual 42, 3) := by decide +kernel
theorem dL_unlock_8 : decode cL_unlock 8 = .ok (.i2l, 1) := by decide +kernel
theorem dL_unlock_9 : decode cL_unlock 9 = .ok (.lastore, 1) := by decide +kernel
theorem dL_unlock_10 : decode cL_unlock 10 = .ok (.goto 19, 3) := by decide +kernel
theorem dL_unlock_13 : decode cL_unlock 13 = .ok (.astore 4, 2) := by decide +kernel
theorem dL_unlock_15 : decode cL_unlock 15 = .ok (.iconst 1, 1) := by decide +kernel
theorem dL_unlock_16 : decode cL_unlock 16 = .ok (.ireturn, 1) := by decide +kernel
theorem dL_unlock_17 : decode cL_unlock 17 = .ok (.astore 4, 2) := by decide +kernel
theorem dL_unlock_19 : decode cL_unlock 19 = .ok (.iconst 2, 1) := by decide +kernel
theorem dL_unlock_20 : decode cL_unlock 20 = .ok (.ireturn, 1) := by decide +kernel
theorem dL_unlock_21 : decode cL_unlock 21 = .ok (.astore 4, 2) := by decide +kernel
theorem dL_unlock_23 : decode cL_unlock 23 = .ok (.iconst 3, 1) := by decide +kernel
theorem dL_unlock_24 : decode cL_unlock 24 = .ok (.ireturn, 1) := by decide +kernel
theorem dL_unlock_25 : decode cL_unlock 25 = .ok (.astore 4, 2) := by decide +kernel
theorem dL_unlock_27 : decode cL_unlock 27 = .ok (.iconst 4, 1) := by decide +kernel
theorem dL_unlock_28 : decode cL_unlock 28 = .ok (.ireturn, 1) := by decide +kernel
theorem dL_unlock_29 : decode cL_unlock 29 = .ok (.iconst 0, 1) := by decide +kernel
theorem dL_unlock_30 : decode cL_unlock 30 = .ok (.ireturn, 1) := by decide +kernel
theorem dL_connect_0 : decode cL_connect 0 = .ok (.aload 6, 2) := by decide +kernel
theorem dL_connect_2 : decode cL_connect 2 = .ok (.iconst 0, 1) := by decide +kernel
theorem dL_connect_3 : decode cL_connect 3 = .ok (.aload_n 0, 1) := by decide +kernel
theorem dL_connect_4 : decode cL_connect 4 = .ok (.iload_n 1, 1) := by decide +kernel
theorem dL_connect_5 : decode cL_connect 5 = .ok (.iload_n 2, 1) := by decide +kernel
theorem dL_connect_6 : decode cL_connect 6 = .ok (.iload_n 3, 1) := by decide +kernel
theorem dL_connect_7 : decode cL_connect 7 = .ok (.iload 4, 2) := by decide +kernel
theorem dL_connect_9 : decode cL_connect 9 = .ok (.iload 5, 2) := by decide +kernel
theorem dL_connect_11 : decode cL_connect 11 = .ok (.invokevirtual 45, 3) := by decide +kernel
theorem dL_connect_14 : decode cL_connect 14 = .ok (.i2l, 1) := by decide +kernel
theorem dL_connect_15 : decode cL_connect 15 = .ok (.lastore, 1) := by decide +kernel
theorem dL_connect_16 : decode cL_connect 16 = .ok (.goto 15, 3) := by decide +kernel
theorem dL_connect_19 : decode cL_connect 19 = .ok (.astore 7, 2) := by decide +kernel
theorem dL_connect_21 : decode cL_connect 21 = .ok (.iconst 1, 1) := by decide +kernel
theorem dL_connect_22 : decode cL_connect 22 = .ok (.ireturn, 1) := by decide +kernel
theorem dL_connect_23 : decode cL_connect 23 = .ok (.astore 7, 2) := by decide +kernel
theorem dL_connect_25 : decode cL_connect 25 = .ok (.iconst 2, 1) := by decide +kernel
theorem dL_connect_26 : decode cL_connect 26 = .ok (.ireturn, 1) := by decide +kernel
theorem dL_connect_27 : decode cL_connect 27 = .ok (.astore 7, 2) := by decide +kernel
theorem dL_connect_29 : decode cL_connect 29 = .ok (.iconst 3, 1) := by decide +kernel
theorem dL_connect_30 : decode cL_connect 30 = .ok (.ireturn, 1) := by decide +kernel
theorem dL_connect_31 : decode cL_connect 31 = .ok (.iconst 0, 1) := by decide +kernel
theorem dL_connect_32 : decode cL_connect 32 = .ok (.ireturn, 1) := by decide +kernel
theorem dL_disconnect_0 : decode cL_disconnect 0 = .ok (.aload_n 3, 1) := by decide +kernel
theorem dL_disconnect_1 : decode cL_disconnect 1 = .ok (.iconst 0, 1) := by decide +kernel
theorem dL_disconnect_2 : decode cL_disconnect 2 = .ok (.aload_n 0, 1) := by decide +kernel
theorem dL_disconnect_3 : decode cL_disconnect 3 = .ok (.iload_n 1, 1) := by decide +kernel
theorem dL_disconnect_4 : decode cL_disconnect 4 = .ok (.iload_n 2, 1) := by decide +kernel
theorem dL_disconnect_5 : decode cL_disconnect 5 = .ok (.invokevirtual 49, 3) := by decide +kernel
theorem dL_disconnect_8 : decode cL_disconnect 8 = .ok (.i2l, 1) := by decide +kernel
theorem dL_disconnect_9 : decode cL_disconnect 9 = .ok (.lastore, 1) := by decide +kernel
theorem dL_disconnect_10 : decode cL_disconnect 10 = .ok (.goto 15, 3) := by decide +kernel
theorem dL_disconnect_13 : decode cL_disconnect 13 = .ok (.astore 4, 2) := by decide +kernel
theorem dL_disconnect_15 : decode cL_disconnect 15 = .ok (.iconst 1, 1) := by decide +kernel
theorem dL_disconnect_16 : decode cL_disconnect 16 = .ok (.ireturn, 1) := by decide +kernel
theorem dL_disconnect_17 : decode cL_disconnect 17 = .ok (.astore 4, 2) := by decide +kernel
theorem dL_disconnect_19 : decode cL_disconnect 19 = .ok (.iconst 2, 1) := by decide +kernel
theorem dL_disconnect_20 : decode cL_disconnect 20 = .ok (.ireturn, 1) := by decide +kernel
theorem dL_disconnect_21 : decode cL_disconnect 21 = .ok (.astore 4, 2) := by decide +kernel
theorem dL_disconnect_23 : decode cL_disconnect 23 = .ok (.iconst 3, 1) := by decide +kernel
theorem dL_disconnect_24 : decode cL_disconnect 24 = .ok (.ireturn, 1) := by decide +kernel
theorem dL_disconnect_25 : decode cL_disconnect 25 = .ok (.iconst 0, 1) := by decide +kernel
theorem dL_disconnect_26 : decode cL_disconnect 26 = .ok (.ireturn, 1) := by decide +kernel
theorem dL_vote_0 : decode cL_vote 0 = .ok (.aload 4, 2) := by decide +kernel
theorem dL_vote_2 : decode cL_vote 2 = .ok (.iconst 0, 1) := by decide +kernel
theorem dL_vote_3 : decode cL_vote 3 = .ok (.aload_n 0, 1) := by decide +kernel
theorem dL_vote_4 : decode cL_vote 4 = .ok (.iload_n 1, 1) := by decide +kernel
theorem dL_vote_5 : decode cL_vote 5 = .ok (.iload_n 2, 1) := by decide +kernel
theorem dL_vote_6 : decode cL_vote 6 = .ok (.iload_n 3, 1) := by decide +kernel
theorem dL_vote_7 : decode cL_vote 7 = .ok (.invokevirtual 52, 3) := by decide +kernel
theorem dL_vote_10 : decode cL_vote 10 = .ok (.i2l, 1) := by decide +kernel
theorem dL_vote_11 : decode cL_vote 11 = .ok (.lastore, 1) := by decide +kernel
theorem dL_vote_12 : decode cL_vote 12 = .ok (.goto 19, 3) := by decide +kernel
theorem dL_vote_15 : decode cL_vote 15 = .ok (.astore 5, 2) := by decide +kernel
theorem dL_vote_17 : decode cL_vote 17 = .ok (.iconst 1, 1) := by decide +kernel
theorem dL_vote_18 : decode cL_vote 18 = .ok (.ireturn, 1) := by decide +kernel
theorem dL_vote_19 : decode cL_vote 19 = .ok (.astore 5, 2) := by decide +kernel
theorem dL_vote_21 : decode cL_vote 21 = .ok (.iconst 2, 1) := by decide +kernel
theorem dL_vote_22 : decode cL_vote 22 = .ok (.ireturn, 1) := by decide +kernel
theorem dL_vote_23 : decode cL_vote 23 = .ok (.astore 5, 2) := by decide +kernel
theorem dL_vote_25 : decode cL_vote 25 = .ok (.iconst 3, 1) := by decide +kernel
theorem dL_vote_26 : decode cL_vote 26 = .ok (.ireturn, 1) := by decide +kernel
theorem dL_vote_27 : decode cL_vote 27 = .ok (.astore 5, 2) := by decide +kernel
theorem dL_vote_29 : decode cL_vote 29 = .ok (.iconst 4, 1) := by decide +kernel
theorem dL_vote_30 : decode cL_vote 30 = .ok (.ireturn, 1) := by decide +kernel
theorem dL_vote_31 : decode cL_vote 31 = .ok (.iconst 0, 1) := by decide +kernel
theorem dL_vote_32 : decode cL_vote 32 = .ok (.ireturn, 1) := by decide +kernel
theorem dL_show_0 : decode cL_show 0 = .ok (.aload_n 3, 1) := by decide +kernel
theorem dL_show_1 : decode cL_show 1 = .ok (.iconst 0, 1) := by decide +kernel
theorem dL_show_2 : decode cL_show 2 = .ok (.aload_n 0, 1) := by decide +kernel
theorem dL_show_3 : decode cL_show 3 = .ok (.iload_n 1, 1) := by decide +kernel
theorem dL_show_4 : decode cL_show 4 = .ok (.iload_n 2, 1) := by decide +kernel
theorem dL_show_5 : decode cL_show 5 = .ok (.invokevirtual 55, 3) := by decide +kernel
theorem dL_show_8 : decode cL_show 8 = .ok (.ifCond .eq 7, 3) := by decide +kernel
theorem dL_show_11 : decode cL_show 11 = .ok (.lconst 1, 1) := by decide +kernel
theorem dL_show_12 : decode cL_show 12 = .ok (.goto 4, 3) := by decide +kernel
theorem dL_show_15 : decode cL_show 15 = .ok (.lconst 0, 1) := by decide +kernel
theorem dL_show_16 : decode cL_show 16 = .ok (.lastore, 1) := by decide +kernel
theorem dL_show_17 : decode cL_show 17 = .ok (.goto 11, 3) := by decide +kernel
theorem dL_show_20 : decode cL_show 20 = .ok (.astore 4, 2) := by decide +kernel
theorem dL_show_22 : decode cL_show 22 = .ok (.iconst 1, 1) := by decide +kernel
theorem dL_show_23 : decode cL_show 23 = .ok (.ireturn, 1) := by decide +kernel
theorem dL_show_24 : decode cL_show 24 = .ok (.astore 4, 2) := by decide +kernel
theorem dL_show_26 : decode cL_show 26 = .ok (.iconst 2, 1) := by decide +kernel
theorem dL_show_27 : decode cL_show 27 = .ok (.ireturn, 1) := by decide +kernel
theorem dL_show_28 : decode cL_show 28 = .ok (.iconst 0, 1) := by decide +kernel
theorem dL_show_29 : decode cL_show 29 = .ok (.ireturn, 1) := by decide +kernel
theorem dL_takeBack_0 : decode cL_takeBack 0 = .ok (.aload_n 2, 1) := by decide +kernel
theorem dL_takeBack_1 : decode cL_takeBack 1 = .ok (.iconst 0, 1) := by decide +kernel
theorem dL_takeBack_2 : decode cL_takeBack 2 = .ok (.aload_n 0, 1) := by decide +kernel
theorem dL_takeBack_3 : decode cL_takeBack 3 = .ok (.iload_n 1, 1) := by decide +kernel
theorem dL_takeBack_4 : decode cL_takeBack 4 = .ok (.invokevirtual 59, 3) := by decide +kernel
theorem dL_takeBack_7 : decode cL_takeBack 7 = .ok (.i2l, 1) := by decide +kernel
theorem dL_takeBack_8 : decode cL_takeBack 8 = .ok (.lastore, 1) := by decide +kernel
theorem dL_takeBack_9 : decode cL_takeBack 9 = .ok (.goto 12, 3) := by decide +kernel
theorem dL_takeBack_12 : decode cL_takeBack 12 = .ok (.astore_n 3, 1) := by decide +kernel
theorem dL_takeBack_13 : decode cL_takeBack 13 = .ok (.iconst 1, 1) := by decide +kernel
theorem dL_takeBack_14 : decode cL_takeBack 14 = .ok (.ireturn, 1) := by decide +kernel
theorem dL_takeBack_15 : decode cL_takeBack 15 = .ok (.astore_n 3, 1) := by decide +kernel
theorem dL_takeBack_16 : decode cL_takeBack 16 = .ok (.iconst 2, 1) := by decide +kernel
theorem dL_takeBack_17 : decode cL_takeBack 17 = .ok (.ireturn, 1) := by decide +kernel
theorem dL_takeBack_18 : decode cL_takeBack 18 = .ok (.astore_n 3, 1) := by decide +kernel
theorem dL_takeBack_19 : decode cL_takeBack 19 = .ok (.iconst 3, 1) := by decide +kernel
theorem dL_takeBack_20 : decode cL_takeBack 20 = .ok (.ireturn, 1) := by decide +kernel
theorem dL_takeBack_21 : decode cL_takeBack 21 = .ok (.iconst 0, 1) := by decide +kernel
theorem dL_takeBack_22 : decode cL_takeBack 22 = .ok (.ireturn, 1) := by decide +kernel
theorem dL_deliver_0 : decode cL_deliver 0 = .ok (.aload_n 3, 1) := by decide +kernel
theorem dL_deliver_1 : decode cL_deliver 1 = .ok (.iconst 0, 1) := by decide +kernel
theorem dL_deliver_2 : decode cL_deliver 2 = .ok (.aload_n 0, 1) := by decide +kernel
theorem dL_deliver_3 : decode cL_deliver 3 = .ok (.iload_n 1, 1) := by decide +kernel
theorem dL_deliver_4 : decode cL_deliver 4 = .ok (.iload_n 2, 1) := by decide +kernel
theorem dL_deliver_5 : decode cL_deliver 5 = .ok (.invokevirtual 63, 3) := by decide +kernel
theorem dL_deliver_8 : decode cL_deliver 8 = .ok (.i2l, 1) := by decide +kernel
theorem dL_deliver_9 : decode cL_deliver 9 = .ok (.lastore, 1) := by decide +kernel
theorem dL_deliver_10 : decode cL_deliver 10 = .ok (.goto 15, 3) := by decide +kernel
theorem dL_deliver_13 : decode cL_deliver 13 = .ok (.astore 4, 2) := by decide +kernel
theorem dL_deliver_15 : decode cL_deliver 15 = .ok (.iconst 1, 1) := by decide +kernel
theorem dL_deliver_16 : decode cL_deliver 16 = .ok (.ireturn, 1) := by decide +kernel
theorem dL_deliver_17 : decode cL_deliver 17 = .ok (.astore 4, 2) := by decide +kernel
theorem dL_deliver_19 : decode cL_deliver 19 = .ok (.iconst 2, 1) := by decide +kernel
theorem dL_deliver_20 : decode cL_deliver 20 = .ok (.ireturn, 1) := by decide +kernel
theorem dL_deliver_21 : decode cL_deliver 21 = .ok (.astore 4, 2) := by decide +kernel
theorem dL_deliver_23 : decode cL_deliver 23 = .ok (.iconst 3, 1) := by decide +kernel
theorem dL_deliver_24 : decode cL_deliver 24 = .ok (.ireturn, 1) := by decide +kernel
theorem dL_deliver_25 : decode cL_deliver 25 = .ok (.iconst 0, 1) := by decide +kernel
theorem dL_deliver_26 : decode cL_deliver 26 = .ok (.ireturn, 1) := by decide +kernel
theorem dL_sync_0 : decode cL_sync 0 = .ok (.aload_n 3, 1) := by decide +kernel
theorem dL_sync_1 : decode cL_sync 1 = .ok (.iconst 0, 1) := by decide +kernel
theorem dL_sync_2 : decode cL_sync 2 = .ok (.aload_n 0, 1) := by decide +kernel
theorem dL_sync_3 : decode cL_sync 3 = .ok (.iload_n 1, 1) := by decide +kernel
theorem dL_sync_4 : decode cL_sync 4 = .ok (.iload_n 2, 1) := by decide +kernel
theorem dL_sync_5 : decode cL_sync 5 = .ok (.invokevirtual 66, 3) := by decide +kernel
theorem dL_sync_8 : decode cL_sync 8 = .ok (.i2l, 1) := by decide +kernel
theorem dL_sync_9 : decode cL_sync 9 = .ok (.lastore, 1) := by decide +kernel
theorem dL_sync_10 : decode cL_sync 10 = .ok (.goto 7, 3) := by decide +kernel
theorem dL_sync_13 : decode cL_sync 13 = .ok (.astore 4, 2) := by decide +kernel
theorem dL_sync_15 : decode cL_sync 15 = .ok (.iconst 1, 1) := by decide +kernel
theorem dL_sync_16 : decode cL_sync 16 = .ok (.ireturn, 1) := by decide +kernel
theorem dL_sync_17 : decode cL_sync 17 = .ok (.iconst 0, 1) := by decide +kernel
theorem dL_sync_18 : decode cL_sync 18 = .ok (.ireturn, 1) := by decide +kernel
theorem dL_userOf_0 : decode cL_userOf 0 = .ok (.aload_n 2, 1) := by decide +kernel
theorem dL_userOf_1 : decode cL_userOf 1 = .ok (.iconst 0, 1) := by decide +kernel
theorem dL_userOf_2 : decode cL_userOf 2 = .ok (.aload_n 0, 1) := by decide +kernel
theorem dL_userOf_3 : decode cL_userOf 3 = .ok (.iload_n 1, 1) := by decide +kernel
theorem dL_userOf_4 : decode cL_userOf 4 = .ok (.invokevirtual 69, 3) := by decide +kernel
theorem dL_userOf_7 : decode cL_userOf 7 = .ok (.i2l, 1) := by decide +kernel
theorem dL_userOf_8 : decode cL_userOf 8 = .ok (.lastore, 1) := by decide +kernel
theorem dL_userOf_9 : decode cL_userOf 9 = .ok (.goto 6, 3) := by decide +kernel
theorem dL_userOf_12 : decode cL_userOf 12 = .ok (.astore_n 3, 1) := by decide +kernel
theorem dL_userOf_13 : decode cL_userOf 13 = .ok (.iconst 1, 1) := by decide +kernel
theorem dL_userOf_14 : decode cL_userOf 14 = .ok (.ireturn, 1) := by decide +kernel
theorem dL_userOf_15 : decode cL_userOf 15 = .ok (.iconst 0, 1) := by decide +kernel
theorem dL_userOf_16 : decode cL_userOf 16 = .ok (.ireturn, 1) := by decide +kernel
theorem dL_clockOf_0 : decode cL_clockOf 0 = .ok (.aload_n 2, 1) := by decide +kernel
theorem dL_clockOf_1 : decode cL_clockOf 1 = .ok (.iconst 0, 1) := by decide +kernel
theorem dL_clockOf_2 : decode cL_clockOf 2 = .ok (.aload_n 0, 1) := by decide +kernel
theorem dL_clockOf_3 : decode cL_clockOf 3 = .ok (.iload_n 1, 1) := by decide +kernel
theorem dL_clockOf_4 : decode cL_clockOf 4 = .ok (.invokevirtual 72, 3) := by decide +kernel
theorem dL_clockOf_7 : decode cL_clockOf 7 = .ok (.i2l, 1) := by decide +kernel
theorem dL_clockOf_8 : decode cL_clockOf 8 = .ok (.lastore, 1) := by decide +kernel
theorem dL_clockOf_9 : decode cL_clockOf 9 = .ok (.goto 6, 3) := by decide +kernel
theorem dL_clockOf_12 : decode cL_clockOf 12 = .ok (.astore_n 3, 1) := by decide +kernel
theorem dL_clockOf_13 : decode cL_clockOf 13 = .ok (.iconst 1, 1) := by decide +kernel
theorem dL_clockOf_14 : decode cL_clockOf 14 = .ok (.ireturn, 1) := by decide +kernel
theorem dL_clockOf_15 : decode cL_clockOf 15 = .ok (.iconst 0, 1) := by decide +kernel
theorem dL_clockOf_16 : decode cL_clockOf 16 = .ok (.ireturn, 1) := by decide +kernel
theorem dL_knows_0 : decode cL_knows 0 = .ok (.aload_n 3, 1) := by decide +kernel
theorem dL_knows_1 : decode cL_knows 1 = .ok (.iconst 0, 1) := by decide +kernel
theorem dL_knows_2 : decode cL_knows 2 = .ok (.aload_n 0, 1) := by decide +kernel
theorem dL_knows_3 : decode cL_knows 3 = .ok (.iload_n 1, 1) := by decide +kernel
theorem dL_knows_4 : decode cL_knows 4 = .ok (.iload_n 2, 1) := by decide +kernel
theorem dL_knows_5 : decode cL_knows 5 = .ok (.invokevirtual 75, 3) := by decide +kernel
theorem dL_knows_8 : decode cL_knows 8 = .ok (.ifCond .eq 7, 3) := by decide +kernel
theorem dL_knows_11 : decode cL_knows 11 = .ok (.lconst 1, 1) := by decide +kernel
theorem dL_knows_12 : decode cL_knows 12 = .ok (.goto 4, 3) := by decide +kernel
theorem dL_knows_15 : decode cL_knows 15 = .ok (.lconst 0, 1) := by decide +kernel
theorem dL_knows_16 : decode cL_knows 16 = .ok (.lastore, 1) := by decide +kernel
theorem dL_knows_17 : decode cL_knows 17 = .ok (.goto 11, 3) := by decide +kernel
theorem dL_knows_20 : decode cL_knows 20 = .ok (.astore 4, 2) := by decide +kernel
theorem dL_knows_22 : decode cL_knows 22 = .ok (.iconst 1, 1) := by decide +kernel
theorem dL_knows_23 : decode cL_knows 23 = .ok (.ireturn, 1) := by decide +kernel
theorem dL_knows_24 : decode cL_knows 24 = .ok (.astore 4, 2) := by decide +kernel
theorem dL_knows_26 : decode cL_knows 26 = .ok (.iconst 2, 1) := by decide +kernel
theorem dL_knows_27 : decode cL_knows 27 = .ok (.ireturn, 1) := by decide +kernel
theorem dL_knows_28 : decode cL_knows 28 = .ok (.iconst 0, 1) := by decide +kernel
theorem dL_knows_29 : decode cL_knows 29 = .ok (.ireturn, 1) := by decide +kernel
theorem dL_shapes_0 : decode cL_shapes 0 = .ok (.aload_n 2, 1) := by decide +kernel
theorem dL_shapes_1 : decode cL_shapes 1 = .ok (.iconst 0, 1) := by decide +kernel
theorem dL_shapes_2 : decode cL_shapes 2 = .ok (.aload_n 0, 1) := by decide +kernel
theorem dL_shapes_3 : decode cL_shapes 3 = .ok (.iload_n 1, 1) := by decide +kernel
theorem dL_shapes_4 : decode cL_shapes 4 = .ok (.invokevirtual 79, 3) := by decide +kernel
theorem dL_shapes_7 : decode cL_shapes 7 = .ok (.i2l, 1) := by decide +kernel
theorem dL_shapes_8 : decode cL_shapes 8 = .ok (.lastore, 1) := by decide +kernel
theorem dL_shapes_9 : decode cL_shapes 9 = .ok (.goto 6, 3) := by decide +kernel
theorem dL_shapes_12 : decode cL_shapes 12 = .ok (.astore_n 3, 1) := by decide +kernel
theorem dL_shapes_13 : decode cL_shapes 13 = .ok (.iconst 1, 1) := by decide +kernel
theorem dL_shapes_14 : decode cL_shapes 14 = .ok (.ireturn, 1) := by decide +kernel
theorem dL_shapes_15 : decode cL_shapes 15 = .ok (.iconst 0, 1) := by decide +kernel
theorem dL_shapes_16 : decode cL_shapes 16 = .ok (.ireturn, 1) := by decide +kernel
theorem dL_sees_0 : decode cL_sees 0 = .ok (.aload_n 3, 1) := by decide +kernel
theorem dL_sees_1 : decode cL_sees 1 = .ok (.iconst 0, 1) := by decide +kernel
theorem dL_sees_2 : decode cL_sees 2 = .ok (.aload_n 0, 1) := by decide +kernel
theorem dL_sees_3 : decode cL_sees 3 = .ok (.iload_n 1, 1) := by decide +kernel
theorem dL_sees_4 : decode cL_sees 4 = .ok (.iload_n 2, 1) := by decide +kernel
theorem dL_sees_5 : decode cL_sees 5 = .ok (.invokevirtual 82, 3) := by decide +kernel
theorem dL_sees_8 : decode cL_sees 8 = .ok (.ifCond .eq 7, 3) := by decide +kernel
theorem dL_sees_11 : decode cL_sees 11 = .ok (.lconst 1, 1) := by decide +kernel
theorem dL_sees_12 : decode cL_sees 12 = .ok (.goto 4, 3) := by decide +kernel
theorem dL_sees_15 : decode cL_sees 15 = .ok (.lconst 0, 1) := by decide +kernel
theorem dL_sees_16 : decode cL_sees 16 = .ok (.lastore, 1) := by decide +kernel
theorem dL_sees_17 : decode cL_sees 17 = .ok (.goto 7, 3) := by decide +kernel
theorem dL_sees_20 : decode cL_sees 20 = .ok (.astore 4, 2) := by decide +kernel
theorem dL_sees_22 : decode cL_sees 22 = .ok (.iconst 1, 1) := by decide +kernel
theorem dL_sees_23 : decode cL_sees 23 = .ok (.ireturn, 1) := by decide +kernel
theorem dL_sees_24 : decode cL_sees 24 = .ok (.iconst 0, 1) := by decide +kernel
theorem dL_sees_25 : decode cL_sees 25 = .ok (.ireturn, 1) := by decide +kernel
theorem dL_columnOf_0 : decode cL_columnOf 0 = .ok (.aload_n 3, 1) := by decide +kernel
theorem dL_columnOf_1 : decode cL_columnOf 1 = .ok (.iconst 0, 1) := by decide +kernel
theorem dL_columnOf_2 : decode cL_columnOf 2 = .ok (.aload_n 0, 1) := by decide +kernel
theorem dL_columnOf_3 : decode cL_columnOf 3 = .ok (.iload_n 1, 1) := by decide +kernel
theorem dL_columnOf_4 : decode cL_columnOf 4 = .ok (.iload_n 2, 1) := by decide +kernel
theorem dL_columnOf_5 : decode cL_columnOf 5 = .ok (.invokevirtual 85, 3) := by decide +kernel
theorem dL_columnOf_8 : decode cL_columnOf 8 = .ok (.i2l, 1) := by decide +kernel
theorem dL_columnOf_9 : decode cL_columnOf 9 = .ok (.lastore, 1) := by decide +kernel
theorem dL_columnOf_10 : decode cL_columnOf 10 = .ok (.goto 11, 3) := by decide +kernel
theorem dL_columnOf_13 : decode cL_columnOf 13 = .ok (.astore 4, 2) := by decide +kernel
theorem dL_columnOf_15 : decode cL_columnOf 15 = .ok (.iconst 1, 1) := by decide +kernel
theorem dL_columnOf_16 : decode cL_columnOf 16 = .ok (.ireturn, 1) := by decide +kernel
theorem dL_columnOf_17 : decode cL_columnOf 17 = .ok (.astore 4, 2) := by decide +kernel
theorem dL_columnOf_19 : decode cL_columnOf 19 = .ok (.iconst 2, 1) := by decide +kernel
theorem dL_columnOf_20 : decode cL_columnOf 20 = .ok (.ireturn, 1) := by decide +kernel
theorem dL_columnOf_21 : decode cL_columnOf 21 = .ok (.iconst 0, 1) := by decide +kernel
theorem dL_columnOf_22 : decode cL_columnOf 22 = .ok (.ireturn, 1) := by decide +kernel
theorem dL_rowOf_0 : decode cL_rowOf 0 = .ok (.aload_n 3, 1) := by decide +kernel
theorem dL_rowOf_1 : decode cL_rowOf 1 = .ok (.iconst 0, 1) := by decide +kernel
theorem dL_rowOf_2 : decode cL_rowOf 2 = .ok (.aload_n 0, 1) := by decide +kernel
theorem dL_rowOf_3 : decode cL_rowOf 3 = .ok (.iload_n 1, 1) := by decide +kernel
theorem dL_rowOf_4 : decode cL_rowOf 4 = .ok (.iload_n 2, 1) := by decide +kernel
theorem dL_rowOf_5 : decode cL_rowOf 5 = .ok (.invokevirtual 88, 3) := by decide +kernel
theorem dL_rowOf_8 : decode cL_rowOf 8 = .ok (.i2l, 1) := by decide +kernel
theorem dL_rowOf_9 : decode cL_rowOf 9 = .ok (.lastore, 1) := by decide +kernel
theorem dL_rowOf_10 : decode cL_rowOf 10 = .ok (.goto 11, 3) := by decide +kernel
theorem dL_rowOf_13 : decode cL_rowOf 13 = .ok (.astore 4, 2) := by decide +kernel
theorem dL_rowOf_15 : decode cL_rowOf 15 = .ok (.iconst 1, 1) := by decide +kernel
theorem dL_rowOf_16 : decode cL_rowOf 16 = .ok (.ireturn, 1) := by decide +kernel
theorem dL_rowOf_17 : decode cL_rowOf 17 = .ok (.astore 4, 2) := by decide +kernel
theorem dL_rowOf_19 : decode cL_rowOf 19 = .ok (.iconst 2, 1) := by decide +kernel
theorem dL_rowOf_20 : decode cL_rowOf 20 = .ok (.ireturn, 1) := by decide +kernel
theorem dL_rowOf_21 : decode cL_rowOf 21 = .ok (.iconst 0, 1) := by decide +kernel
theorem dL_rowOf_22 : decode cL_rowOf 22 = .ok (.ireturn, 1) := by decide +kernel
theorem dL_rankOf_0 : decode cL_rankOf 0 = .ok (.aload_n 3, 1) := by decide +kernel
theorem dL_rankOf_1 : decode cL_rankOf 1 = .ok (.iconst 0, 1) := by decide +kernel
theorem dL_rankOf_2 : decode cL_rankOf 2 = .ok (.aload_n 0, 1) := by decide +kernel
theorem dL_rankOf_3 : decode cL_rankOf 3 = .ok (.iload_n 1, 1) := by decide +kernel
theorem dL_rankOf_4 : decode cL_rankOf 4 = .ok (.iload_n 2, 1) := by decide +kernel
theorem dL_rankOf_5 : decode cL_rankOf 5 = .ok (.invokevirtual 91, 3) := by decide +kernel
theorem dL_rankOf_8 : decode cL_rankOf 8 = .ok (.i2l, 1) := by decide +kernel
theorem dL_rankOf_9 : decode cL_rankOf 9 = .ok (.lastore, 1) := by decide +kernel
theorem dL_rankOf_10 : decode cL_rankOf 10 = .ok (.goto 11, 3) := by decide +kernel
theorem dL_rankOf_13 : decode cL_rankOf 13 = .ok (.astore 4, 2) := by decide +kernel
theorem dL_rankOf_15 : decode cL_rankOf 15 = .ok (.iconst 1, 1) := by decide +kernel
theorem dL_rankOf_16 : decode cL_rankOf 16 = .ok (.ireturn, 1) := by decide +kernel
theorem dL_rankOf_17 : decode cL_rankOf 17 = .ok (.astore 4, 2) := by decide +kernel
theorem dL_rankOf_19 : decode cL_rankOf 19 = .ok (.iconst 2, 1) := by decide +kernel
theorem dL_rankOf_20 : decode cL_rankOf 20 = .ok (.ireturn, 1) := by decide +kernel
theorem dL_rankOf_21 : decode cL_rankOf 21 = .ok (.iconst 0, 1) := by decide +kernel
theorem dL_rankOf_22 : decode cL_rankOf 22 = .ok (.ireturn, 1) := by decide +kernel
theorem dL_shapeAt_0 : decode cL_shapeAt 0 = .ok (.aload_n 3, 1) := by decide +kernel
theorem dL_shapeAt_1 : decode cL_shapeAt 1 = .ok (.iconst 0, 1) := by decide +kernel
theorem dL_shapeAt_2 : decode cL_shapeAt 2 = .ok (.aload_n 0, 1) := by decide +kernel
theorem dL_shapeAt_3 : decode cL_shapeAt 3 = .ok (.iload_n 1, 1) := by decide +kernel
theorem dL_shapeAt_4 : decode cL_shapeAt 4 = .ok (.iload_n 2, 1) := by decide +kernel
theorem dL_shapeAt_5 : decode cL_shapeAt 5 = .ok (.invokevirtual 94, 3) := by decide +kernel
theorem dL_shapeAt_8 : decode cL_shapeAt 8 = .ok (.i2l, 1) := by decide +kernel
theorem dL_shapeAt_9 : decode cL_shapeAt 9 = .ok (.lastore, 1) := by decide +kernel
theorem dL_shapeAt_10 : decode cL_shapeAt 10 = .ok (.goto 11, 3) := by decide +kernel
theorem dL_shapeAt_13 : decode cL_shapeAt 13 = .ok (.astore 4, 2) := by decide +kernel
theorem dL_shapeAt_15 : decode cL_shapeAt 15 = .ok (.iconst 1, 1) := by decide +kernel
theorem dL_shapeAt_16 : decode cL_shapeAt 16 = .ok (.ireturn, 1) := by decide +kernel
theorem dL_shapeAt_17 : decode cL_shapeAt 17 = .ok (.astore 4, 2) := by decide +kernel
theorem dL_shapeAt_19 : decode cL_shapeAt 19 = .ok (.iconst 2, 1) := by decide +kernel
theorem dL_shapeAt_20 : decode cL_shapeAt 20 = .ok (.ireturn, 1) := by decide +kernel
theorem dL_shapeAt_21 : decode cL_shapeAt 21 = .ok (.iconst 0, 1) := by decide +kernel
theorem dL_shapeAt_22 : decode cL_shapeAt 22 = .ok (.ireturn, 1) := by decide +kernel
theorem dL_keyOf_0 : decode cL_keyOf 0 = .ok (.aload_n 3, 1) := by decide +kernel
theorem dL_keyOf_1 : decode cL_keyOf 1 = .ok (.iconst 0, 1) := by decide +kernel
theorem dL_keyOf_2 : decode cL_keyOf 2 = .ok (.aload_n 0, 1) := by decide +kernel
theorem dL_keyOf_3 : decode cL_keyOf 3 = .ok (.iload_n 1, 1) := by decide +kernel
theorem dL_keyOf_4 : decode cL_keyOf 4 = .ok (.iload_n 2, 1) := by decide +kernel
theorem dL_keyOf_5 : decode cL_keyOf 5 = .ok (.invokevirtual 99, 3) := by decide +kernel
theorem dL_keyOf_8 : decode cL_keyOf 8 = .ok (.f2d, 1) := by decide +kernel
theorem dL_keyOf_9 : decode cL_keyOf 9 = .ok (.dastore, 1) := by decide +kernel
theorem dL_keyOf_10 : decode cL_keyOf 10 = .ok (.goto 11, 3) := by decide +kernel
theorem dL_keyOf_13 : decode cL_keyOf 13 = .ok (.astore 4, 2) := by decide +kernel
theorem dL_keyOf_15 : decode cL_keyOf 15 = .ok (.iconst 1, 1) := by decide +kernel
theorem dL_keyOf_16 : decode cL_keyOf 16 = .ok (.ireturn, 1) := by decide +kernel
theorem dL_keyOf_17 : decode cL_keyOf 17 = .ok (.astore 4, 2) := by decide +kernel
theorem dL_keyOf_19 : decode cL_keyOf 19 = .ok (.iconst 2, 1) := by decide +kernel
theorem dL_keyOf_20 : decode cL_keyOf 20 = .ok (.ireturn, 1) := by decide +kernel
theorem dL_keyOf_21 : decode cL_keyOf 21 = .ok (.iconst 0, 1) := by decide +kernel
theorem dL_keyOf_22 : decode cL_keyOf 22 = .ok (.ireturn, 1) := by decide +kernel
theorem dL_keyBits_0 : decode cL_keyBits 0 = .ok (.aload_n 3, 1) := by decide +kernel
theorem dL_keyBits_1 : decode cL_keyBits 1 = .ok (.iconst 0, 1) := by decide +kernel
theorem dL_keyBits_2 : decode cL_keyBits 2 = .ok (.aload_n 0, 1) := by decide +kernel
theorem dL_keyBits_3 : decode cL_keyBits 3 = .ok (.iload_n 1, 1) := by decide +kernel
theorem dL_keyBits_4 : decode cL_keyBits 4 = .ok (.iload_n 2, 1) := by decide +kernel
theorem dL_keyBits_5 : decode cL_keyBits 5 = .ok (.invokevirtual 103, 3) := by decide +kernel
theorem dL_keyBits_8 : decode cL_keyBits 8 = .ok (.i2l, 1) := by decide +kernel
theorem dL_keyBits_9 : decode cL_keyBits 9 = .ok (.lastore, 1) := by decide +kernel
theorem dL_keyBits_10 : decode cL_keyBits 10 = .ok (.goto 11, 3) := by decide +kernel
theorem dL_keyBits_13 : decode cL_keyBits 13 = .ok (.astore 4, 2) := by decide +kernel
theorem dL_keyBits_15 : decode cL_keyBits 15 = .ok (.iconst 1, 1) := by decide +kernel
theorem dL_keyBits_16 : decode cL_keyBits 16 = .ok (.ireturn, 1) := by decide +kernel
theorem dL_keyBits_17 : decode cL_keyBits 17 = .ok (.astore 4, 2) := by decide +kernel
theorem dL_keyBits_19 : decode cL_keyBits 19 = .ok (.iconst 2, 1) := by decide +kernel
theorem dL_keyBits_20 : decode cL_keyBits 20 = .ok (.ireturn, 1) := by decide +kernel
theorem dL_keyBits_21 : decode cL_keyBits 21 = .ok (.iconst 0, 1) := by decide +kernel
theorem dL_keyBits_22 : decode cL_keyBits 22 = .ok (.ireturn, 1) := by decide +kernel
theorem dL_keyCut_0 : decode cL_keyCut 0 = .ok (.aload_n 3, 1) := by decide +kernel
theorem dL_keyCut_1 : decode cL_keyCut 1 = .ok (.iconst 0, 1) := by decide +kernel
theorem dL_keyCut_2 : decode cL_keyCut 2 = .ok (.aload_n 0, 1) := by decide +kernel
theorem dL_keyCut_3 : decode cL_keyCut 3 = .ok (.iload_n 1, 1) := by decide +kernel
theorem dL_keyCut_4 : decode cL_keyCut 4 = .ok (.iload_n 2, 1) := by decide +kernel
theorem dL_keyCut_5 : decode cL_keyCut 5 = .ok (.invokevirtual 106, 3) := by decide +kernel
theorem dL_keyCut_8 : decode cL_keyCut 8 = .ok (.i2l, 1) := by decide +kernel
theorem dL_keyCut_9 : decode cL_keyCut 9 = .ok (.lastore, 1) := by decide +kernel
theorem dL_keyCut_10 : decode cL_keyCut 10 = .ok (.goto 11, 3) := by decide +kernel
theorem dL_keyCut_13 : decode cL_keyCut 13 = .ok (.astore 4, 2) := by decide +kernel
theorem dL_keyCut_15 : decode cL_keyCut 15 = .ok (.iconst 1, 1) := by decide +kernel
theorem dL_keyCut_16 : decode cL_keyCut 16 = .ok (.ireturn, 1) := by decide +kernel
theorem dL_keyCut_17 : decode cL_keyCut 17 = .ok (.astore 4, 2) := by decide +kernel
theorem dL_keyCut_19 : decode cL_keyCut 19 = .ok (.iconst 2, 1) := by decide +kernel
theorem dL_keyCut_20 : decode cL_keyCut 20 = .ok (.ireturn, 1) := by decide +kernel
theorem dL_keyCut_21 : decode cL_keyCut 21 = .ok (.iconst 0, 1) := by decide +kernel
theorem dL_keyCut_22 : decode cL_keyCut 22 = .ok (.ireturn, 1) := by decide +kernel
theorem dL_topAt_0 : decode cL_topAt 0 = .ok (.aload 4, 2) := by decide +kernel
theorem dL_topAt_2 : decode cL_topAt 2 = .ok (.iconst 0, 1) := by decide +kernel
theorem dL_topAt_3 : decode cL_topAt 3 = .ok (.aload_n 0, 1) := by decide +kernel
theorem dL_topAt_4 : decode cL_topAt 4 = .ok (.iload_n 1, 1) := by decide +kernel
theorem dL_topAt_5 : decode cL_topAt 5 = .ok (.iload_n 2, 1) := by decide +kernel
theorem dL_topAt_6 : decode cL_topAt 6 = .ok (.iload_n 3, 1) := by decide +kernel
theorem dL_topAt_7 : decode cL_topAt 7 = .ok (.invokevirtual 109, 3) := by decide +kernel
theorem dL_topAt_10 : decode cL_topAt 10 = .ok (.i2l, 1) := by decide +kernel
theorem dL_topAt_11 : decode cL_topAt 11 = .ok (.lastore, 1) := by decide +kernel
theorem dL_topAt_12 : decode cL_topAt 12 = .ok (.goto 11, 3) := by decide +kernel
theorem dL_topAt_15 : decode cL_topAt 15 = .ok (.astore 5, 2) := by decide +kernel
theorem dL_topAt_17 : decode cL_topAt 17 = .ok (.iconst 1, 1) := by decide +kernel
theorem dL_topAt_18 : decode cL_topAt 18 = .ok (.ireturn, 1) := by decide +kernel
theorem dL_topAt_19 : decode cL_topAt 19 = .ok (.astore 5, 2) := by decide +kernel
theorem dL_topAt_21 : decode cL_topAt 21 = .ok (.iconst 2, 1) := by decide +kernel
theorem dL_topAt_22 : decode cL_topAt 22 = .ok (.ireturn, 1) := by decide +kernel
theorem dL_topAt_23 : decode cL_topAt 23 = .ok (.iconst 0, 1) := by decide +kernel
theorem dL_topAt_24 : decode cL_topAt 24 = .ok (.ireturn, 1) := by decide +kernel
theorem dL_lockedBy_0 : decode cL_lockedBy 0 = .ok (.aload_n 3, 1) := by decide +kernel
theorem dL_lockedBy_1 : decode cL_lockedBy 1 = .ok (.iconst 0, 1) := by decide +kernel
theorem dL_lockedBy_2 : decode cL_lockedBy 2 = .ok (.aload_n 0, 1) := by decide +kernel
theorem dL_lockedBy_3 : decode cL_lockedBy 3 = .ok (.iload_n 1, 1) := by decide +kernel
theorem dL_lockedBy_4 : decode cL_lockedBy 4 = .ok (.iload_n 2, 1) := by decide +kernel
theorem dL_lockedBy_5 : decode cL_lockedBy 5 = .ok (.invokevirtual 112, 3) := by decide +kernel
theorem dL_lockedBy_8 : decode cL_lockedBy 8 = .ok (.i2l, 1) := by decide +kernel
theorem dL_lockedBy_9 : decode cL_lockedBy 9 = .ok (.lastore, 1) := by decide +kernel
theorem dL_lockedBy_10 : decode cL_lockedBy 10 = .ok (.goto 11, 3) := by decide +kernel
theorem dL_lockedBy_13 : decode cL_lockedBy 13 = .ok (.astore 4, 2) := by decide +kernel
theorem dL_lockedBy_15 : decode cL_lockedBy 15 = .ok (.iconst 1, 1) := by decide +kernel
theorem dL_lockedBy_16 : decode cL_lockedBy 16 = .ok (.ireturn, 1) := by decide +kernel
theorem dL_lockedBy_17 : decode cL_lockedBy 17 = .ok (.astore 4, 2) := by decide +kernel
theorem dL_lockedBy_19 : decode cL_lockedBy 19 = .ok (.iconst 2, 1) := by decide +kernel
theorem dL_lockedBy_20 : decode cL_lockedBy 20 = .ok (.ireturn, 1) := by decide +kernel
theorem dL_lockedBy_21 : decode cL_lockedBy 21 = .ok (.iconst 0, 1) := by decide +kernel
theorem dL_lockedBy_22 : decode cL_lockedBy 22 = .ok (.ireturn, 1) := by decide +kernel
theorem dL_inside_0 : decode cL_inside 0 = .ok (.aload_n 3, 1) := by decide +kernel
theorem dL_inside_1 : decode cL_inside 1 = .ok (.iconst 0, 1) := by decide +kernel
theorem dL_inside_2 : decode cL_inside 2 = .ok (.aload_n 0, 1) := by decide +kernel
theorem dL_inside_3 : decode cL_inside 3 = .ok (.iload_n 1, 1) := by decide +kernel
theorem dL_inside_4 : decode cL_inside 4 = .ok (.iload_n 2, 1) := by decide +kernel
theorem dL_inside_5 : decode cL_inside 5 = .ok (.invokevirtual 115, 3) := by decide +kernel
theorem dL_inside_8 : decode cL_inside 8 = .ok (.i2l, 1) := by decide +kernel
theorem dL_inside_9 : decode cL_inside 9 = .ok (.lastore, 1) := by decide +kernel
theorem dL_inside_10 : decode cL_inside 10 = .ok (.goto 11, 3) := by decide +kernel
theorem dL_inside_13 : decode cL_inside 13 = .ok (.astore 4, 2) := by decide +kernel
theorem dL_inside_15 : decode cL_inside 15 = .ok (.iconst 1, 1) := by decide +kernel
theorem dL_inside_16 : decode cL_inside 16 = .ok (.ireturn, 1) := by decide +kernel
theorem dL_inside_17 : decode cL_inside 17 = .ok (.astore 4, 2) := by decide +kernel
theorem dL_inside_19 : decode cL_inside 19 = .ok (.iconst 2, 1) := by decide +kernel
theorem dL_inside_20 : decode cL_inside 20 = .ok (.ireturn, 1) := by decide +kernel
theorem dL_inside_21 : decode cL_inside 21 = .ok (.iconst 0, 1) := by decide +kernel
theorem dL_inside_22 : decode cL_inside 22 = .ok (.ireturn, 1) := by decide +kernel
theorem dL_connectors_0 : decode cL_connectors 0 = .ok (.aload_n 2, 1) := by decide +kernel
theorem dL_connectors_1 : decode cL_connectors 1 = .ok (.iconst 0, 1) := by decide +kernel
theorem dL_connectors_2 : decode cL_connectors 2 = .ok (.aload_n 0, 1) := by decide +kernel
theorem dL_connectors_3 : decode cL_connectors 3 = .ok (.iload_n 1, 1) := by decide +kernel
theorem dL_connectors_4 : decode cL_connectors 4 = .ok (.invokevirtual 118, 3) := by decide +kernel
theorem dL_connectors_7 : decode cL_connectors 7 = .ok (.i2l, 1) := by decide +kernel
theorem dL_connectors_8 : decode cL_connectors 8 = .ok (.lastore, 1) := by decide +kernel
theorem dL_connectors_9 : decode cL_connectors 9 = .ok (.goto 6, 3) := by decide +kernel
theorem dL_connectors_12 : decode cL_connectors 12 = .ok (.astore_n 3, 1) := by decide +kernel
theorem dL_connectors_13 : decode cL_connectors 13 = .ok (.iconst 1, 1) := by decide +kernel
theorem dL_connectors_14 : decode cL_connectors 14 = .ok (.ireturn, 1) := by decide +kernel
theorem dL_connectors_15 : decode cL_connectors 15 = .ok (.iconst 0, 1) := by decide +kernel
theorem dL_connectors_16 : decode cL_connectors 16 = .ok (.ireturn, 1) := by decide +kernel
theorem dL_bends_0 : decode cL_bends 0 = .ok (.aload_n 3, 1) := by decide +kernel
theorem dL_bends_1 : decode cL_bends 1 = .ok (.iconst 0, 1) := by decide +kernel
theorem dL_bends_2 : decode cL_bends 2 = .ok (.aload_n 0, 1) := by decide +kernel
theorem dL_bends_3 : decode cL_bends 3 = .ok (.iload_n 1, 1) := by decide +kernel
theorem dL_bends_4 : decode cL_bends 4 = .ok (.iload_n 2, 1) := by decide +kernel
theorem dL_bends_5 : decode cL_bends 5 = .ok (.invokevirtual 121, 3) := by decide +kernel
theorem dL_bends_8 : decode cL_bends 8 = .ok (.i2l, 1) := by decide +kernel
theorem dL_bends_9 : decode cL_bends 9 = .ok (.lastore, 1) := by decide +kernel
theorem dL_bends_10 : decode cL_bends 10 = .ok (.goto 15, 3) := by decide +kernel
theorem dL_bends_13 : decode cL_bends 13 = .ok (.astore 4, 2) := by decide +kernel
theorem dL_bends_15 : decode cL_bends 15 = .ok (.iconst 1, 1) := by decide +kernel
theorem dL_bends_16 : decode cL_bends 16 = .ok (.ireturn, 1) := by decide +kernel
theorem dL_bends_17 : decode cL_bends 17 = .ok (.astore 4, 2) := by decide +kernel
theorem dL_bends_19 : decode cL_bends 19 = .ok (.iconst 2, 1) := by decide +kernel
theorem dL_bends_20 : decode cL_bends 20 = .ok (.ireturn, 1) := by decide +kernel
