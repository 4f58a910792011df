theorem dX0_init_0 : decode cX0_init 0 = .ok (.aload_n 0, 1) := by decide +kernel
theorem dX0_init_1 : decode cX0_init 1 = .ok (.invokespecial 3, 3) := by decide +kernel
theorem dX0_init_4 : decode cX0_init 4 = .ok (.return_, 1) := by decide +kernel
theorem dX0_lookFor_0 : decode cX0_lookFor 0 = .ok (.aload_n 0, 1) := by decide +kernel
theorem dX0_lookFor_1 : decode cX0_lookFor 1 = .ok (.iload_n 1, 1) := by decide +kernel
theorem dX0_lookFor_2 : decode cX0_lookFor 2 = .ok (.putfield 9, 3) := by decide +kernel
theorem dX0_lookFor_5 : decode cX0_lookFor 5 = .ok (.aload_n 0, 1) := by decide +kernel
theorem dX0_lookFor_6 : decode cX0_lookFor 6 = .ok (.iconst 0, 1) := by decide +kernel
theorem dX0_lookFor_7 : decode cX0_lookFor 7 = .ok (.putfield 15, 3) := by decide +kernel
theorem dX0_lookFor_10 : decode cX0_lookFor 10 = .ok (.aload_n 0, 1) := by decide +kernel
theorem dX0_lookFor_11 : decode cX0_lookFor 11 = .ok (.iconst 0, 1) := by decide +kernel
theorem dX0_lookFor_12 : decode cX0_lookFor 12 = .ok (.putfield 18, 3) := by decide +kernel
theorem dX0_lookFor_15 : decode cX0_lookFor 15 = .ok (.aload_n 0, 1) := by decide +kernel
theorem dX0_lookFor_16 : decode cX0_lookFor 16 = .ok (.iconst (-1), 1) := by decide +kernel
theorem dX0_lookFor_17 : decode cX0_lookFor 17 = .ok (.putfield 21, 3) := by decide +kernel
theorem dX0_lookFor_20 : decode cX0_lookFor 20 = .ok (.return_, 1) := by decide +kernel
theorem dX0_put_0 : decode cX0_put 0 = .ok (.iload_n 1, 1) := by decide +kernel
theorem dX0_put_1 : decode cX0_put 1 = .ok (.sipush 255, 3) := by decide +kernel
theorem dX0_put_4 : decode cX0_put 4 = .ok (.iand, 1) := by decide +kernel
theorem dX0_put_5 : decode cX0_put 5 = .ok (.istore_n 2, 1) := by decide +kernel
theorem dX0_put_6 : decode cX0_put 6 = .ok (.aload_n 0, 1) := by decide +kernel
theorem dX0_put_7 : decode cX0_put 7 = .ok (.getfield 15, 3) := by decide +kernel
theorem dX0_put_10 : decode cX0_put 10 = .ok (.aload_n 0, 1) := by decide +kernel
theorem dX0_put_11 : decode cX0_put 11 = .ok (.getfield 9, 3) := by decide +kernel
theorem dX0_put_14 : decode cX0_put 14 = .ok (.if_icmp .ne 8, 3) := by decide +kernel
theorem dX0_put_17 : decode cX0_put 17 = .ok (.aload_n 0, 1) := by decide +kernel
theorem dX0_put_18 : decode cX0_put 18 = .ok (.iload_n 2, 1) := by decide +kernel
theorem dX0_put_19 : decode cX0_put 19 = .ok (.putfield 21, 3) := by decide +kernel
theorem dX0_put_22 : decode cX0_put 22 = .ok (.aload_n 0, 1) := by decide +kernel
theorem dX0_put_23 : decode cX0_put 23 = .ok (.dup, 1) := by decide +kernel
theorem dX0_put_24 : decode cX0_put 24 = .ok (.getfield 15, 3) := by decide +kernel
theorem dX0_put_27 : decode cX0_put 27 = .ok (.iconst 1, 1) := by decide +kernel
theorem dX0_put_28 : decode cX0_put 28 = .ok (.iadd, 1) := by decide +kernel
theorem dX0_put_29 : decode cX0_put 29 = .ok (.putfield 15, 3) := by decide +kernel
theorem dX0_put_32 : decode cX0_put 32 = .ok (.aload_n 0, 1) := by decide +kernel
theorem dX0_put_33 : decode cX0_put 33 = .ok (.aload_n 0, 1) := by decide +kernel
theorem dX0_put_34 : decode cX0_put 34 = .ok (.getfield 18, 3) := by decide +kernel
theorem dX0_put_37 : decode cX0_put 37 = .ok (.iconst 3, 1) := by decide +kernel
theorem dX0_put_38 : decode cX0_put 38 = .ok (.ishl, 1) := by decide +kernel
theorem dX0_put_39 : decode cX0_put 39 = .ok (.aload_n 0, 1) := by decide +kernel
theorem dX0_put_40 : decode cX0_put 40 = .ok (.getfield 18, 3) := by decide +kernel
theorem dX0_put_43 : decode cX0_put 43 = .ok (.bipush 13, 2) := by decide +kernel
theorem dX0_put_45 : decode cX0_put 45 = .ok (.ishr, 1) := by decide +kernel
theorem dX0_put_46 : decode cX0_put 46 = .ok (.ior, 1) := by decide +kernel
theorem dX0_put_47 : decode cX0_put 47 = .ok (.ldc 24, 2) := by decide +kernel
theorem dX0_put_49 : decode cX0_put 49 = .ok (.iand, 1) := by decide +kernel
theorem dX0_put_50 : decode cX0_put 50 = .ok (.iload_n 2, 1) := by decide +kernel
theorem dX0_put_51 : decode cX0_put 51 = .ok (.ixor, 1) := by decide +kernel
theorem dX0_put_52 : decode cX0_put 52 = .ok (.putfield 18, 3) := by decide +kernel
theorem dX0_put_55 : decode cX0_put 55 = .ok (.return_, 1) := by decide +kernel
theorem dX0_putTwo_0 : decode cX0_putTwo 0 = .ok (.aload_n 0, 1) := by decide +kernel
theorem dX0_putTwo_1 : decode cX0_putTwo 1 = .ok (.iload_n 1, 1) := by decide +kernel
theorem dX0_putTwo_2 : decode cX0_putTwo 2 = .ok (.bipush 8, 2) := by decide +kernel
theorem dX0_putTwo_4 : decode cX0_putTwo 4 = .ok (.ishr, 1) := by decide +kernel
theorem dX0_putTwo_5 : decode cX0_putTwo 5 = .ok (.invokevirtual 25, 3) := by decide +kernel
theorem dX0_putTwo_8 : decode cX0_putTwo 8 = .ok (.aload_n 0, 1) := by decide +kernel
theorem dX0_putTwo_9 : decode cX0_putTwo 9 = .ok (.iload_n 1, 1) := by decide +kernel
theorem dX0_putTwo_10 : decode cX0_putTwo 10 = .ok (.invokevirtual 25, 3) := by decide +kernel
theorem dX0_putTwo_13 : decode cX0_putTwo 13 = .ok (.return_, 1) := by decide +kernel
theorem dX0_putFour_0 : decode cX0_putFour 0 = .ok (.aload_n 0, 1) := by decide +kernel
theorem dX0_putFour_1 : decode cX0_putFour 1 = .ok (.iload_n 1, 1) := by decide +kernel
theorem dX0_putFour_2 : decode cX0_putFour 2 = .ok (.bipush 16, 2) := by decide +kernel
theorem dX0_putFour_4 : decode cX0_putFour 4 = .ok (.ishr, 1) := by decide +kernel
theorem dX0_putFour_5 : decode cX0_putFour 5 = .ok (.invokevirtual 29, 3) := by decide +kernel
theorem dX0_putFour_8 : decode cX0_putFour 8 = .ok (.aload_n 0, 1) := by decide +kernel
theorem dX0_putFour_9 : decode cX0_putFour 9 = .ok (.iload_n 1, 1) := by decide +kernel
theorem dX0_putFour_10 : decode cX0_putFour 10 = .ok (.invokevirtual 29, 3) := by decide +kernel
theorem dX0_putFour_13 : decode cX0_putFour 13 = .ok (.return_, 1) := by decide +kernel
theorem dX0_putCheck_0 : decode cX0_putCheck 0 = .ok (.aload_n 0, 1) := by decide +kernel
theorem dX0_putCheck_1 : decode cX0_putCheck 1 = .ok (.aload_n 0, 1) := by decide +kernel
theorem dX0_putCheck_2 : decode cX0_putCheck 2 = .ok (.getfield 18, 3) := by decide +kernel
theorem dX0_putCheck_5 : decode cX0_putCheck 5 = .ok (.invokevirtual 29, 3) := by decide +kernel
theorem dX0_putCheck_8 : decode cX0_putCheck 8 = .ok (.return_, 1) := by decide +kernel
theorem dX1_init_0 : decode cX1_init 0 = .ok (.aload_n 0, 1) := by decide +kernel
theorem dX1_init_1 : decode cX1_init 1 = .ok (.invokespecial 1, 3) := by decide +kernel
theorem dX1_init_4 : decode cX1_init 4 = .ok (.aload_n 0, 1) := by decide +kernel
theorem dX1_init_5 : decode cX1_init 5 = .ok (.iload_n 1, 1) := by decide +kernel
theorem dX1_init_6 : decode cX1_init 6 = .ok (.putfield 7, 3) := by decide +kernel
theorem dX1_init_9 : decode cX1_init 9 = .ok (.aload_n 0, 1) := by decide +kernel
theorem dX1_init_10 : decode cX1_init 10 = .ok (.iload_n 2, 1) := by decide +kernel
theorem dX1_init_11 : decode cX1_init 11 = .ok (.putfield 13, 3) := by decide +kernel
theorem dX1_init_14 : decode cX1_init 14 = .ok (.aload_n 0, 1) := by decide +kernel
theorem dX1_init_15 : decode cX1_init 15 = .ok (.iload_n 3, 1) := by decide +kernel
theorem dX1_init_16 : decode cX1_init 16 = .ok (.putfield 16, 3) := by decide +kernel
theorem dX1_init_19 : decode cX1_init 19 = .ok (.aload_n 0, 1) := by decide +kernel
theorem dX1_init_20 : decode cX1_init 20 = .ok (.iload 4, 2) := by decide +kernel
theorem dX1_init_22 : decode cX1_init 22 = .ok (.putfield 19, 3) := by decide +kernel
theorem dX1_init_25 : decode cX1_init 25 = .ok (.return_, 1) := by decide +kernel
theorem dX1_kind_0 : decode cX1_kind 0 = .ok (.aload_n 0, 1) := by decide +kernel
theorem dX1_kind_1 : decode cX1_kind 1 = .ok (.getfield 7, 3) := by decide +kernel
theorem dX1_kind_4 : decode cX1_kind 4 = .ok (.ireturn, 1) := by decide +kernel
theorem dX1_from_0 : decode cX1_from 0 = .ok (.aload_n 0, 1) := by decide +kernel
theorem dX1_from_1 : decode cX1_from 1 = .ok (.getfield 13, 3) := by decide +kernel
theorem dX1_from_4 : decode cX1_from 4 = .ok (.ireturn, 1) := by decide +kernel
theorem dX1_to_0 : decode cX1_to 0 = .ok (.aload_n 0, 1) := by decide +kernel
theorem dX1_to_1 : decode cX1_to 1 = .ok (.getfield 16, 3) := by decide +kernel
theorem dX1_to_4 : decode cX1_to 4 = .ok (.ireturn, 1) := by decide +kernel
theorem dX1_transaction_0 : decode cX1_transaction 0 = .ok (.aload_n 0, 1) := by decide +kernel
theorem dX1_transaction_1 : decode cX1_transaction 1 = .ok (.getfield 19, 3) := by decide +kernel
theorem dX1_transaction_4 : decode cX1_transaction 4 = .ok (.ireturn, 1) := by decide +kernel
theorem dX2_init_0 : decode cX2_init 0 = .ok (.aload_n 0, 1) := by decide +kernel
theorem dX2_init_1 : decode cX2_init 1 = .ok (.invokespecial 3, 3) := by decide +kernel
theorem dX2_init_4 : decode cX2_init 4 = .ok (.aload_n 0, 1) := by decide +kernel
theorem dX2_init_5 : decode cX2_init 5 = .ok (.iconst 5, 1) := by decide +kernel
theorem dX2_init_6 : decode cX2_init 6 = .ok (.newarray .int, 2) := by decide +kernel
theorem dX2_init_8 : decode cX2_init 8 = .ok (.putfield 9, 3) := by decide +kernel
theorem dX2_init_11 : decode cX2_init 11 = .ok (.aload_n 0, 1) := by decide +kernel
theorem dX2_init_12 : decode cX2_init 12 = .ok (.bipush 20, 2) := by decide +kernel
theorem dX2_init_14 : decode cX2_init 14 = .ok (.newarray .int, 2) := by decide +kernel
theorem dX2_init_16 : decode cX2_init 16 = .ok (.putfield 15, 3) := by decide +kernel
theorem dX2_init_19 : decode cX2_init 19 = .ok (.aload_n 0, 1) := by decide +kernel
theorem dX2_init_20 : decode cX2_init 20 = .ok (.sipush 200, 3) := by decide +kernel
theorem dX2_init_23 : decode cX2_init 23 = .ok (.newarray .int, 2) := by decide +kernel
theorem dX2_init_25 : decode cX2_init 25 = .ok (.putfield 18, 3) := by decide +kernel
theorem dX2_init_28 : decode cX2_init 28 = .ok (.return_, 1) := by decide +kernel
theorem dX2_clear_0 : decode cX2_clear 0 = .ok (.aload_n 0, 1) := by decide +kernel
theorem dX2_clear_1 : decode cX2_clear 1 = .ok (.iconst 1, 1) := by decide +kernel
theorem dX2_clear_2 : decode cX2_clear 2 = .ok (.putfield 21, 3) := by decide +kernel
theorem dX2_clear_5 : decode cX2_clear 5 = .ok (.aload_n 0, 1) := by decide +kernel
theorem dX2_clear_6 : decode cX2_clear 6 = .ok (.iconst 0, 1) := by decide +kernel
theorem dX2_clear_7 : decode cX2_clear 7 = .ok (.putfield 25, 3) := by decide +kernel
theorem dX2_clear_10 : decode cX2_clear 10 = .ok (.iconst 0, 1) := by decide +kernel
theorem dX2_clear_11 : decode cX2_clear 11 = .ok (.istore_n 1, 1) := by decide +kernel
theorem dX2_clear_12 : decode cX2_clear 12 = .ok (.iload_n 1, 1) := by decide +kernel
theorem dX2_clear_13 : decode cX2_clear 13 = .ok (.iconst 5, 1) := by decide +kernel
theorem dX2_clear_14 : decode cX2_clear 14 = .ok (.if_icmp .ge 16, 3) := by decide +kernel
theorem dX2_clear_17 : decode cX2_clear 17 = .ok (.aload_n 0, 1) := by decide +kernel
theorem dX2_clear_18 : decode cX2_clear 18 = .ok (.getfield 9, 3) := by decide +kernel
theorem dX2_clear_21 : decode cX2_clear 21 = .ok (.iload_n 1, 1) := by decide +kernel
theorem dX2_clear_22 : decode cX2_clear 22 = .ok (.iconst 0, 1) := by decide +kernel
theorem dX2_clear_23 : decode cX2_clear 23 = .ok (.iastore, 1) := by decide +kernel
theorem dX2_clear_24 : decode cX2_clear 24 = .ok (.iinc 1 1, 3) := by decide +kernel
theorem dX2_clear_27 : decode cX2_clear 27 = .ok (.goto (-15), 3) := by decide +kernel
theorem dX2_clear_30 : decode cX2_clear 30 = .ok (.iconst 0, 1) := by decide +kernel
theorem dX2_clear_31 : decode cX2_clear 31 = .ok (.istore_n 1, 1) := by decide +kernel
theorem dX2_clear_32 : decode cX2_clear 32 = .ok (.iload_n 1, 1) := by decide +kernel
theorem dX2_clear_33 : decode cX2_clear 33 = .ok (.bipush 20, 2) := by decide +kernel
theorem dX2_clear_35 : decode cX2_clear 35 = .ok (.if_icmp .ge 16, 3) := by decide +kernel
theorem dX2_clear_38 : decode cX2_clear 38 = .ok (.aload_n 0, 1) := by decide +kernel
theorem dX2_clear_39 : decode cX2_clear 39 = .ok (.getfield 15, 3) := by decide +kernel
theorem dX2_clear_42 : decode cX2_clear 42 = .ok (.iload_n 1, 1) := by decide +kernel
theorem dX2_clear_43 : decode cX2_clear 43 = .ok (.iconst (-1), 1) := by decide +kernel
theorem dX2_clear_44 : decode cX2_clear 44 = .ok (.iastore, 1) := by decide +kernel
theorem dX2_clear_45 : decode cX2_clear 45 = .ok (.iinc 1 1, 3) := by decide +kernel
theorem dX2_clear_48 : decode cX2_clear 48 = .ok (.goto (-16), 3) := by decide +kernel
theorem dX2_clear_51 : decode cX2_clear 51 = .ok (.return_, 1) := by decide +kernel
theorem dX2_take_0 : decode cX2_take 0 = .ok (.aload_n 0, 1) := by decide +kernel
theorem dX2_take_1 : decode cX2_take 1 = .ok (.getfield 18, 3) := by decide +kernel
theorem dX2_take_4 : decode cX2_take 4 = .ok (.aload_n 0, 1) := by decide +kernel
theorem dX2_take_5 : decode cX2_take 5 = .ok (.getfield 25, 3) := by decide +kernel
theorem dX2_take_8 : decode cX2_take 8 = .ok (.aload_n 1, 1) := by decide +kernel
theorem dX2_take_9 : decode cX2_take 9 = .ok (.getfield 29, 3) := by decide +kernel
theorem dX2_take_12 : decode cX2_take 12 = .ok (.iastore, 1) := by decide +kernel
theorem dX2_take_13 : decode cX2_take 13 = .ok (.aload_n 0, 1) := by decide +kernel
theorem dX2_take_14 : decode cX2_take 14 = .ok (.dup, 1) := by decide +kernel
theorem dX2_take_15 : decode cX2_take 15 = .ok (.getfield 25, 3) := by decide +kernel
theorem dX2_take_18 : decode cX2_take 18 = .ok (.iconst 1, 1) := by decide +kernel
theorem dX2_take_19 : decode cX2_take 19 = .ok (.iadd, 1) := by decide +kernel
theorem dX2_take_20 : decode cX2_take 20 = .ok (.putfield 25, 3) := by decide +kernel
theorem dX2_take_23 : decode cX2_take 23 = .ok (.aload_n 0, 1) := by decide +kernel
theorem dX2_take_24 : decode cX2_take 24 = .ok (.getfield 9, 3) := by decide +kernel
theorem dX2_take_27 : decode cX2_take 27 = .ok (.aload_n 1, 1) := by decide +kernel
theorem dX2_take_28 : decode cX2_take 28 = .ok (.getfield 34, 3) := by decide +kernel
theorem dX2_take_31 : decode cX2_take 31 = .ok (.dup2, 1) := by decide +kernel
theorem dX2_take_32 : decode cX2_take 32 = .ok (.iaload, 1) := by decide +kernel
theorem dX2_take_33 : decode cX2_take 33 = .ok (.iconst 1, 1) := by decide +kernel
theorem dX2_take_34 : decode cX2_take 34 = .ok (.iadd, 1) := by decide +kernel
theorem dX2_take_35 : decode cX2_take 35 = .ok (.iastore, 1) := by decide +kernel
theorem dX2_take_36 : decode cX2_take 36 = .ok (.aload_n 0, 1) := by decide +kernel
theorem dX2_take_37 : decode cX2_take 37 = .ok (.aload_n 1, 1) := by decide +kernel
theorem dX2_take_38 : decode cX2_take 38 = .ok (.getfield 29, 3) := by decide +kernel
theorem dX2_take_41 : decode cX2_take 41 = .ok (.invokevirtual 37, 3) := by decide +kernel
theorem dX2_take_44 : decode cX2_take 44 = .ok (.return_, 1) := by decide +kernel
theorem dX2_unlock_0 : decode cX2_unlock 0 = .ok (.iconst 0, 1) := by decide +kernel
theorem dX2_unlock_1 : decode cX2_unlock 1 = .ok (.istore_n 2, 1) := by decide +kernel
theorem dX2_unlock_2 : decode cX2_unlock 2 = .ok (.iload_n 2, 1) := by decide +kernel
theorem dX2_unlock_3 : decode cX2_unlock 3 = .ok (.bipush 20, 2) := by decide +kernel
theorem dX2_unlock_5 : decode cX2_unlock 5 = .ok (.if_icmp .ge 26, 3) := by decide +kernel
theorem dX2_unlock_8 : decode cX2_unlock 8 = .ok (.aload_n 0, 1) := by decide +kernel
theorem dX2_unlock_9 : decode cX2_unlock 9 = .ok (.getfield 15, 3) := by decide +kernel
theorem dX2_unlock_12 : decode cX2_unlock 12 = .ok (.iload_n 2, 1) := by decide +kernel
theorem dX2_unlock_13 : decode cX2_unlock 13 = .ok (.iaload, 1) := by decide +kernel
theorem dX2_unlock_14 : decode cX2_unlock 14 = .ok (.iload_n 1, 1) := by decide +kernel
theorem dX2_unlock_15 : decode cX2_unlock 15 = .ok (.if_icmp .ne 10, 3) := by decide +kernel
theorem dX2_unlock_18 : decode cX2_unlock 18 = .ok (.aload_n 0, 1) := by decide +kernel
theorem dX2_unlock_19 : decode cX2_unlock 19 = .ok (.getfield 15, 3) := by decide +kernel
theorem dX2_unlock_22 : decode cX2_unlock 22 = .ok (.iload_n 2, 1) := by decide +kernel
theorem dX2_unlock_23 : decode cX2_unlock 23 = .ok (.iconst (-1), 1) := by decide +kernel
theorem dX2_unlock_24 : decode cX2_unlock 24 = .ok (.iastore, 1) := by decide +kernel
theorem dX2_unlock_25 : decode cX2_unlock 25 = .ok (.iinc 2 1, 3) := by decide +kernel
theorem dX2_unlock_28 : decode cX2_unlock 28 = .ok (.goto (-26), 3) := by decide +kernel
theorem dX2_unlock_31 : decode cX2_unlock 31 = .ok (.return_, 1) := by decide +kernel
theorem dX2_isReadyFor_0 : decode cX2_isReadyFor 0 = .ok (.aload_n 1, 1) := by decide +kernel
theorem dX2_isReadyFor_1 : decode cX2_isReadyFor 1 = .ok (.getfield 41, 3) := by decide +kernel
theorem dX2_isReadyFor_4 : decode cX2_isReadyFor 4 = .ok (.aload_n 0, 1) := by decide +kernel
theorem dX2_isReadyFor_5 : decode cX2_isReadyFor 5 = .ok (.getfield 9, 3) := by decide +kernel
theorem dX2_isReadyFor_8 : decode cX2_isReadyFor 8 = .ok (.aload_n 1, 1) := by decide +kernel
theorem dX2_isReadyFor_9 : decode cX2_isReadyFor 9 = .ok (.getfield 34, 3) := by decide +kernel
theorem dX2_isReadyFor_12 : decode cX2_isReadyFor 12 = .ok (.iaload, 1) := by decide +kernel
theorem dX2_isReadyFor_13 : decode cX2_isReadyFor 13 = .ok (.iconst 1, 1) := by decide +kernel
theorem dX2_isReadyFor_14 : decode cX2_isReadyFor 14 = .ok (.iadd, 1) := by decide +kernel
theorem dX2_isReadyFor_15 : decode cX2_isReadyFor 15 = .ok (.if_icmp .eq 5, 3) := by decide +kernel
theorem dX2_isReadyFor_18 : decode cX2_isReadyFor 18 = .ok (.iconst 0, 1) := by decide +kernel
theorem dX2_isReadyFor_19 : decode cX2_isReadyFor 19 = .ok (.ireturn, 1) := by decide +kernel
theorem dX2_isReadyFor_20 : decode cX2_isReadyFor 20 = .ok (.iconst 0, 1) := by decide +kernel
theorem dX2_isReadyFor_21 : decode cX2_isReadyFor 21 = .ok (.istore_n 2, 1) := by decide +kernel
theorem dX2_isReadyFor_22 : decode cX2_isReadyFor 22 = .ok (.iload_n 2, 1) := by decide +kernel
theorem dX2_isReadyFor_23 : decode cX2_isReadyFor 23 = .ok (.iconst 5, 1) := by decide +kernel
theorem dX2_isReadyFor_24 : decode cX2_isReadyFor 24 = .ok (.if_icmp .ge 26, 3) := by decide +kernel
theorem dX2_isReadyFor_27 : decode cX2_isReadyFor 27 = .ok (.aload_n 1, 1) := by decide +kernel
theorem dX2_isReadyFor_28 : decode cX2_isReadyFor 28 = .ok (.getfield 44, 3) := by decide +kernel
theorem dX2_isReadyFor_31 : decode cX2_isReadyFor 31 = .ok (.iload_n 2, 1) := by decide +kernel
theorem dX2_isReadyFor_32 : decode cX2_isReadyFor 32 = .ok (.iaload, 1) := by decide +kernel
theorem dX2_isReadyFor_33 : decode cX2_isReadyFor 33 = .ok (.aload_n 0, 1) := by decide +kernel
theorem dX2_isReadyFor_34 : decode cX2_isReadyFor 34 = .ok (.getfield 9, 3) := by decide +kernel
theorem dX2_isReadyFor_37 : decode cX2_isReadyFor 37 = .ok (.iload_n 2, 1) := by decide +kernel
theorem dX2_isReadyFor_38 : decode cX2_isReadyFor 38 = .ok (.iaload, 1) := by decide +kernel
theorem dX2_isReadyFor_39 : decode cX2_isReadyFor 39 = .ok (.if_icmp .le 5, 3) := by decide +kernel
theorem dX2_isReadyFor_42 : decode cX2_isReadyFor 42 = .ok (.iconst 0, 1) := by decide +kernel
theorem dX2_isReadyFor_43 : decode cX2_isReadyFor 43 = .ok (.ireturn, 1) := by decide +kernel
theorem dX2_isReadyFor_44 : decode cX2_isReadyFor 44 = .ok (.iinc 2 1, 3) := by decide +kernel
theorem dX2_isReadyFor_47 : decode cX2_isReadyFor 47 = .ok (.goto (-25), 3) := by decide +kernel
theorem dX2_isReadyFor_50 : decode cX2_isReadyFor 50 = .ok (.iconst 1, 1) := by decide +kernel
theorem dX2_isReadyFor_51 : decode cX2_isReadyFor 51 = .ok (.ireturn, 1) := by decide +kernel
theorem dX3_init_0 : decode cX3_init 0 = .ok (.aload_n 0, 1) := by decide +kernel
theorem dX3_init_1 : decode cX3_init 1 = .ok (.invokespecial 3, 3) := by decide +kernel
theorem dX3_init_4 : decode cX3_init 4 = .ok (.aload_n 0, 1) := by decide +kernel
theorem dX3_init_5 : decode cX3_init 5 = .ok (.iconst 5, 1) := by decide +kernel
theorem dX3_init_6 : decode cX3_init 6 = .ok (.newarray .int, 2) := by decide +kernel
theorem dX3_init_8 : decode cX3_init 8 = .ok (.putfield 9, 3) := by decide +kernel
theorem dX3_init_11 : decode cX3_init 11 = .ok (.aload_n 0, 1) := by decide +kernel
theorem dX3_init_12 : decode cX3_init 12 = .ok (.bipush 20, 2) := by decide +kernel
theorem dX3_init_14 : decode cX3_init 14 = .ok (.newarray .int, 2) := by decide +kernel
theorem dX3_init_16 : decode cX3_init 16 = .ok (.putfield 15, 3) := by decide +kernel
theorem dX3_init_19 : decode cX3_init 19 = .ok (.aload_n 0, 1) := by decide +kernel
theorem dX3_init_20 : decode cX3_init 20 = .ok (.bipush 20, 2) := by decide +kernel
theorem dX3_init_22 : decode cX3_init 22 = .ok (.newarray .int, 2) := by decide +kernel
theorem dX3_init_24 : decode cX3_init 24 = .ok (.putfield 18, 3) := by decide +kernel
theorem dX3_init_27 : decode cX3_init 27 = .ok (.aload_n 0, 1) := by decide +kernel
theorem dX3_init_28 : decode cX3_init 28 = .ok (.bipush 20, 2) := by decide +kernel
theorem dX3_init_30 : decode cX3_init 30 = .ok (.newarray .int, 2) := by decide +kernel
theorem dX3_init_32 : decode cX3_init 32 = .ok (.putfield 21, 3) := by decide +kernel
theorem dX3_init_35 : decode cX3_init 35 = .ok (.return_, 1) := by decide +kernel
theorem dX3_startAt_0 : decode cX3_startAt 0 = .ok (.aload_n 0, 1) := by decide +kernel
theorem dX3_startAt_1 : decode cX3_startAt 1 = .ok (.iload_n 1, 1) := by decide +kernel
theorem dX3_startAt_2 : decode cX3_startAt 2 = .ok (.putfield 24, 3) := by decide +kernel
theorem dX3_startAt_5 : decode cX3_startAt 5 = .ok (.aload_n 0, 1) := by decide +kernel
theorem dX3_startAt_6 : decode cX3_startAt 6 = .ok (.iload_n 2, 1) := by decide +kernel
theorem dX3_startAt_7 : decode cX3_startAt 7 = .ok (.putfield 28, 3) := by decide +kernel
theorem dX3_startAt_10 : decode cX3_startAt 10 = .ok (.aload_n 0, 1) := by decide +kernel
theorem dX3_startAt_11 : decode cX3_startAt 11 = .ok (.iconst 0, 1) := by decide +kernel
theorem dX3_startAt_12 : decode cX3_startAt 12 = .ok (.putfield 31, 3) := by decide +kernel
theorem dX3_startAt_15 : decode cX3_startAt 15 = .ok (.aload_n 0, 1) := by decide +kernel
theorem dX3_startAt_16 : decode cX3_startAt 16 = .ok (.iconst 0, 1) := by decide +kernel
theorem dX3_startAt_17 : decode cX3_startAt 17 = .ok (.putfield 34, 3) := by decide +kernel
theorem dX3_startAt_20 : decode cX3_startAt 20 = .ok (.iconst 0, 1) := by decide +kernel
theorem dX3_startAt_21 : decode cX3_startAt 21 = .ok (.istore 4, 2) := by decide +kernel
theorem dX3_startAt_23 : decode cX3_startAt 23 = .ok (.iload 4, 2) := by decide +kernel
theorem dX3_startAt_25 : decode cX3_startAt 25 = .ok (.iconst 5, 1) := by decide +kernel
theorem dX3_startAt_26 : decode cX3_startAt 26 = .ok (.if_icmp .ge 20, 3) := by decide +kernel
theorem dX3_startAt_29 : decode cX3_startAt 29 = .ok (.aload_n 0, 1) := by decide +kernel
theorem dX3_startAt_30 : decode cX3_startAt 30 = .ok (.getfield 9, 3) := by decide +kernel
theorem dX3_startAt_33 : decode cX3_startAt 33 = .ok (.iload 4, 2) := by decide +kernel
theorem dX3_startAt_35 : decode cX3_startAt 35 = .ok (.aload_n 3, 1) := by decide +kernel
theorem dX3_startAt_36 : decode cX3_startAt 36 = .ok (.iload 4, 2) := by decide +kernel
theorem dX3_startAt_38 : decode cX3_startAt 38 = .ok (.iaload, 1) := by decide +kernel
theorem dX3_startAt_39 : decode cX3_startAt 39 = .ok (.iastore, 1) := by decide +kernel
theorem dX3_startAt_40 : decode cX3_startAt 40 = .ok (.iinc 4 1, 3) := by decide +kernel
theorem dX3_startAt_43 : decode cX3_startAt 43 = .ok (.goto (-20), 3) := by decide +kernel
theorem dX3_startAt_46 : decode cX3_startAt 46 = .ok (.aload_n 0, 1) := by decide +kernel
theorem dX3_startAt_47 : decode cX3_startAt 47 = .ok (.iconst 0, 1) := by decide +kernel
theorem dX3_startAt_48 : decode cX3_startAt 48 = .ok (.putfield 37, 3) := by decide +kernel
theorem dX3_startAt_51 : decode cX3_startAt 51 = .ok (.aload_n 0, 1) := by decide +kernel
theorem dX3_startAt_52 : decode cX3_startAt 52 = .ok (.iconst 0, 1) := by decide +kernel
theorem dX3_startAt_53 : decode cX3_startAt 53 = .ok (.putfield 40, 3) := by decide +kernel
theorem dX3_startAt_56 : decode cX3_startAt 56 = .ok (.aload_n 0, 1) := by decide +kernel
theorem dX3_startAt_57 : decode cX3_startAt 57 = .ok (.iconst 0, 1) := by decide +kernel
theorem dX3_startAt_58 : decode cX3_startAt 58 = .ok (.putfield 43, 3) := by decide +kernel
theorem dX3_startAt_61 : decode cX3_startAt 61 = .ok (.aload_n 0, 1) := by decide +kernel
theorem dX3_startAt_62 : decode cX3_startAt 62 = .ok (.iconst 0, 1) := by decide +kernel
theorem dX3_startAt_63 : decode cX3_startAt 63 = .ok (.putfield 46, 3) := by decide +kernel
theorem dX3_startAt_66 : decode cX3_startAt 66 = .ok (.aload_n 0, 1) := by decide +kernel
theorem dX3_startAt_67 : decode cX3_startAt 67 = .ok (.iconst 0, 1) := by decide +kernel
theorem dX3_startAt_68 : decode cX3_startAt 68 = .ok (.putfield 49, 3) := by decide +kernel
theorem dX3_startAt_71 : decode cX3_startAt 71 = .ok (.aload_n 0, 1) := by decide +kernel
theorem dX3_startAt_72 : decode cX3_startAt 72 = .ok (.iconst 0, 1) := by decide +kernel
theorem dX3_startAt_73 : decode cX3_startAt 73 = .ok (.putfield 52, 3) := by decide +kernel
theorem dX3_startAt_76 : decode cX3_startAt 76 = .ok (.aload_n 0, 1) := by decide +kernel
theorem dX3_startAt_77 : decode cX3_startAt 77 = .ok (.iconst 0, 1) := by decide +kernel
theorem dX3_startAt_78 : decode cX3_startAt 78 = .ok (.putfield 55, 3) := by decide +kernel
theorem dX3_startAt_81 : decode cX3_startAt 81 = .ok (.aload_n 0, 1) := by decide +kernel
theorem dX3_startAt_82 : decode cX3_startAt 82 = .ok (.iconst 0, 1) := by decide +kernel
theorem dX3_startAt_83 : decode cX3_startAt 83 = .ok (.putfield 58, 3) := by decide +kernel
theorem dX3_startAt_86 : decode cX3_startAt 86 = .ok (.return_, 1) := by decide +kernel
theorem dX3_wrote_0 : decode cX3_wrote 0 = .ok (.aload_n 0, 1) := by decide +kernel
theorem dX3_wrote_1 : decode cX3_wrote 1 = .ok (.getfield 37, 3) := by decide +kernel
theorem dX3_wrote_4 : decode cX3_wrote 4 = .ok (.iload_n 1, 1) := by decide +kernel
theorem dX3_wrote_5 : decode cX3_wrote 5 = .ok (.invokestatic 62, 3) := by decide +kernel
theorem dX3_wrote_8 : decode cX3_wrote 8 = .ok (.ireturn, 1) := by decide +kernel
theorem dX3_writtenCount_0 : decode cX3_writtenCount 0 = .ok (.aload_n 0, 1) := by decide +kernel
theorem dX3_writtenCount_1 : decode cX3_writtenCount 1 = .ok (.getfield 37, 3) := by decide +kernel
theorem dX3_writtenCount_4 : decode cX3_writtenCount 4 = .ok (.invokestatic 66, 3) := by decide +kernel
theorem dX3_writtenCount_7 : decode cX3_writtenCount 7 = .ok (.ireturn, 1) := by decide +kernel
theorem dX3_isSeenFrom_0 : decode cX3_isSeenFrom 0 = .ok (.aload_n 0, 1) := by decide +kernel
theorem dX3_isSeenFrom_1 : decode cX3_isSeenFrom 1 = .ok (.getfield 34, 3) := by decide +kernel
theorem dX3_isSeenFrom_4 : decode cX3_isSeenFrom 4 = .ok (.aload_n 1, 1) := by decide +kernel
theorem dX3_isSeenFrom_5 : decode cX3_isSeenFrom 5 = .ok (.aload_n 0, 1) := by decide +kernel
theorem dX3_isSeenFrom_6 : decode cX3_isSeenFrom 6 = .ok (.getfield 28, 3) := by decide +kernel
theorem dX3_isSeenFrom_9 : decode cX3_isSeenFrom 9 = .ok (.iaload, 1) := by decide +kernel
theorem dX3_isSeenFrom_10 : decode cX3_isSeenFrom 10 = .ok (.if_icmp .gt 7, 3) := by decide +kernel
theorem dX3_isSeenFrom_13 : decode cX3_isSeenFrom 13 = .ok (.iconst 1, 1) := by decide +kernel
theorem dX3_isSeenFrom_14 : decode cX3_isSeenFrom 14 = .ok (.goto 4, 3) := by decide +kernel
theorem dX3_isSeenFrom_17 : decode cX3_isSeenFrom 17 = .ok (.iconst 0, 1) := by decide +kernel
theorem dX3_isSeenFrom_18 : decode cX3_isSeenFrom 18 = .ok (.ireturn, 1) := by decide +kernel
theorem dX3_changeOf_0 : decode cX3_changeOf 0 = .ok (.iconst 0, 1) := by decide +kernel
theorem dX3_changeOf_1 : decode cX3_changeOf 1 = .ok (.istore_n 2, 1) := by decide +kernel
theorem dX3_changeOf_2 : decode cX3_changeOf 2 = .ok (.iconst 0, 1) := by decide +kernel
theorem dX3_changeOf_3 : decode cX3_changeOf 3 = .ok (.istore_n 3, 1) := by decide +kernel
theorem dX3_changeOf_4 : decode cX3_changeOf 4 = .ok (.iload_n 3, 1) := by decide +kernel
theorem dX3_changeOf_5 : decode cX3_changeOf 5 = .ok (.aload_n 0, 1) := by decide +kernel
theorem dX3_changeOf_6 : decode cX3_changeOf 6 = .ok (.getfield 40, 3) := by decide +kernel
theorem dX3_changeOf_9 : decode cX3_changeOf 9 = .ok (.if_icmp .ge 28, 3) := by decide +kernel
theorem dX3_changeOf_12 : decode cX3_changeOf 12 = .ok (.aload_n 0, 1) := by decide +kernel
theorem dX3_changeOf_13 : decode cX3_changeOf 13 = .ok (.getfield 18, 3) := by decide +kernel
theorem dX3_changeOf_16 : decode cX3_changeOf 16 = .ok (.iload_n 3, 1) := by decide +kernel
theorem dX3_changeOf_17 : decode cX3_changeOf 17 = .ok (.iaload, 1) := by decide +kernel
theorem dX3_changeOf_18 : decode cX3_changeOf 18 = .ok (.iload_n 1, 1) := by decide +kernel
theorem dX3_changeOf_19 : decode cX3_changeOf 19 = .ok (.if_icmp .ne 12, 3) := by decide +kernel
theorem dX3_changeOf_22 : decode cX3_changeOf 22 = .ok (.iload_n 2, 1) := by decide +kernel
theorem dX3_changeOf_23 : decode cX3_changeOf 23 = .ok (.aload_n 0, 1) := by decide +kernel
theorem dX3_changeOf_24 : decode cX3_changeOf 24 = .ok (.getfield 21, 3) := by decide +kernel
theorem dX3_changeOf_27 : decode cX3_changeOf 27 = .ok (.iload_n 3, 1) := by decide +kernel
theorem dX3_changeOf_28 : decode cX3_changeOf 28 = .ok (.iaload, 1) := by decide +kernel
theorem dX3_changeOf_29 : decode cX3_changeOf 29 = .ok (.iadd, 1) := by decide +kernel
theorem dX3_changeOf_30 : decode cX3_changeOf 30 = .ok (.istore_n 2, 1) := by decide +kernel
theorem dX3_changeOf_31 : decode cX3_changeOf 31 = .ok (.iinc 3 1, 3) := by decide +kernel
theorem dX3_changeOf_34 : decode cX3_changeOf 34 = .ok (.goto (-30), 3) := by decide +kernel
theorem dX3_changeOf_37 : decode cX3_changeOf 37 = .ok (.iload_n 2, 1) := by decide +kernel
theorem dX3_changeOf_38 : decode cX3_changeOf 38 = .ok (.ireturn, 1) := by decide +kernel
theorem dX4_init_0 : decode cX4_init 0 = .ok (.aload_n 0, 1) := by decide +kernel
theorem dX4_init_1 : decode cX4_init 1 = .ok (.invokespecial 1, 3) := by decide +kernel
theorem dX4_init_4 : decode cX4_init 4 = .ok (.aload_n 0, 1) := by decide +kernel
theorem dX4_init_5 : decode cX4_init 5 = .ok (.iconst 5, 1) := by decide +kernel
theorem dX4_init_6 : decode cX4_init 6 = .ok (.anewarray 9, 3) := by decide +kernel
theorem dX4_init_9 : decode cX4_init 9 = .ok (.putfield 11, 3) := by decide +kernel
theorem dX4_init_12 : decode cX4_init 12 = .ok (.iconst 0, 1) := by decide +kernel
theorem dX4_init_13 : decode cX4_init 13 = .ok (.istore_n 1, 1) := by decide +kernel
theorem dX4_init_14 : decode cX4_init 14 = .ok (.iload_n 1, 1) := by decide +kernel
theorem dX4_init_15 : decode cX4_init 15 = .ok (.iconst 5, 1) := by decide +kernel
theorem dX4_init_16 : decode cX4_init 16 = .ok (.if_icmp .ge 22, 3) := by decide +kernel
theorem dX4_init_19 : decode cX4_init 19 = .ok (.aload_n 0, 1) := by decide +kernel
theorem dX4_init_20 : decode cX4_init 20 = .ok (.getfield 11, 3) := by decide +kernel
theorem dX4_init_23 : decode cX4_init 23 = .ok (.iload_n 1, 1) := by decide +kernel
theorem dX4_init_24 : decode cX4_init 24 = .ok (.new 9, 3) := by decide +kernel
theorem dX4_init_27 : decode cX4_init 27 = .ok (.dup, 1) := by decide +kernel
theorem dX4_init_28 : decode cX4_init 28 = .ok (.invokespecial 15, 3) := by decide +kernel
theorem dX4_init_31 : decode cX4_init 31 = .ok (.aastore, 1) := by decide +kernel
theorem dX4_init_32 : decode cX4_init 32 = .ok (.iinc 1 1, 3) := by decide +kernel
theorem dX4_init_35 : decode cX4_init 35 = .ok (.goto (-21), 3) := by decide +kernel
theorem dX4_init_38 : decode cX4_init 38 = .ok (.aload_n 0, 1) := by decide +kernel
theorem dX4_init_39 : decode cX4_init 39 = .ok (.new 16, 3) := by decide +kernel
theorem dX4_init_42 : decode cX4_init 42 = .ok (.dup, 1) := by decide +kernel
theorem dX4_init_43 : decode cX4_init 43 = .ok (.invokespecial 18, 3) := by decide +kernel
theorem dX4_init_46 : decode cX4_init 46 = .ok (.putfield 19, 3) := by decide +kernel
theorem dX4_init_49 : decode cX4_init 49 = .ok (.aload_n 0, 1) := by decide +kernel
theorem dX4_init_50 : decode cX4_init 50 = .ok (.new 16, 3) := by decide +kernel
theorem dX4_init_53 : decode cX4_init 53 = .ok (.dup, 1) := by decide +kernel
theorem dX4_init_54 : decode cX4_init 54 = .ok (.invokespecial 18, 3) := by decide +kernel
theorem dX4_init_57 : decode cX4_init 57 = .ok (.putfield 23, 3) := by decide +kernel
theorem dX4_init_60 : decode cX4_init 60 = .ok (.aload_n 0, 1) := by decide +kernel
theorem dX4_init_61 : decode cX4_init 61 = .ok (.new 26, 3) := by decide +kernel
theorem dX4_init_64 : decode cX4_init 64 = .ok (.dup, 1) := by decide +kernel
theorem dX4_init_65 : decode cX4_init 65 = .ok (.invokespecial 28, 3) := by decide +kernel
theorem dX4_init_68 : decode cX4_init 68 = .ok (.putfield 29, 3) := by decide +kernel
theorem dX4_init_71 : decode cX4_init 71 = .ok (.aload_n 0, 1) := by decide +kernel
theorem dX4_init_72 : decode cX4_init 72 = .ok (.iconst 2, 1) := by decide +kernel
theorem dX4_init_73 : decode cX4_init 73 = .ok (.invokevirtual 33, 3) := by decide +kernel
theorem dX4_init_76 : decode cX4_init 76 = .ok (.return_, 1) := by decide +kernel
theorem dX4_open_0 : decode cX4_open 0 = .ok (.iload_n 1, 1) := by decide +kernel
theorem dX4_open_1 : decode cX4_open 1 = .ok (.iconst 2, 1) := by decide +kernel
theorem dX4_open_2 : decode cX4_open 2 = .ok (.if_icmp .lt 12, 3) := by decide +kernel
theorem dX4_open_5 : decode cX4_open 5 = .ok (.iload_n 1, 1) := by decide +kernel
theorem dX4_open_6 : decode cX4_open 6 = .ok (.iconst 5, 1) := by decide +kernel
theorem dX4_open_7 : decode cX4_open 7 = .ok (.if_icmp .gt 7, 3) := by decide +kernel
theorem dX4_open_10 : decode cX4_open 10 = .ok (.iconst 1, 1) := by decide +kernel
theorem dX4_open_11 : decode cX4_open 11 = .ok (.goto 4, 3) := by decide +kernel
theorem dX4_open_14 : decode cX4_open 14 = .ok (.iconst 0, 1) := by decide +kernel
theorem dX4_open_15 : decode cX4_open 15 = .ok (.invokestatic 37, 3) := by decide +kernel
theorem dX4_open_18 : decode cX4_open 18 = .ok (.aload_n 0, 1) := by decide +kernel
theorem dX4_open_19 : decode cX4_open 19 = .ok (.iload_n 1, 1) := by decide +kernel
theorem dX4_open_20 : decode cX4_open 20 = .ok (.invokevirtual 33, 3) := by decide +kernel
theorem dX4_open_23 : decode cX4_open 23 = .ok (.return_, 1) := by decide +kernel
theorem dX4_begin_0 : decode cX4_begin 0 = .ok (.aload_n 0, 1) := by decide +kernel
theorem dX4_begin_1 : decode cX4_begin 1 = .ok (.iload_n 1, 1) := by decide +kernel
theorem dX4_begin_2 : decode cX4_begin 2 = .ok (.invokevirtual 41, 3) := by decide +kernel
theorem dX4_begin_5 : decode cX4_begin 5 = .ok (.aload_n 0, 1) := by decide +kernel
theorem dX4_begin_6 : decode cX4_begin 6 = .ok (.getfield 11, 3) := by decide +kernel
theorem dX4_begin_9 : decode cX4_begin 9 = .ok (.iload_n 1, 1) := by decide +kernel
theorem dX4_begin_10 : decode cX4_begin 10 = .ok (.aaload, 1) := by decide +kernel
theorem dX4_begin_11 : decode cX4_begin 11 = .ok (.getfield 44, 3) := by decide +kernel
theorem dX4_begin_14 : decode cX4_begin 14 = .ok (.ifCond .eq 17, 3) := by decide +kernel
theorem dX4_begin_17 : decode cX4_begin 17 = .ok (.aload_n 0, 1) := by decide +kernel
theorem dX4_begin_18 : decode cX4_begin 18 = .ok (.getfield 48, 3) := by decide +kernel
theorem dX4_begin_21 : decode cX4_begin 21 = .ok (.sipush 200, 3) := by decide +kernel
theorem dX4_begin_24 : decode cX4_begin 24 = .ok (.if_icmp .ge 7, 3) := by decide +kernel
theorem dX4_begin_27 : decode cX4_begin 27 = .ok (.iconst 1, 1) := by decide +kernel
theorem dX4_begin_28 : decode cX4_begin 28 = .ok (.goto 4, 3) := by decide +kernel
theorem dX4_begin_31 : decode cX4_begin 31 = .ok (.iconst 0, 1) := by decide +kernel
theorem dX4_begin_32 : decode cX4_begin 32 = .ok (.invokestatic 52, 3) := by decide +kernel
theorem dX4_begin_35 : decode cX4_begin 35 = .ok (.aload_n 0, 1) := by decide +kernel
theorem dX4_begin_36 : decode cX4_begin 36 = .ok (.getfield 48, 3) := by decide +kernel
theorem dX4_begin_39 : decode cX4_begin 39 = .ok (.aload_n 0, 1) := by decide +kernel
theorem dX4_begin_40 : decode cX4_begin 40 = .ok (.getfield 19, 3) := by decide +kernel
theorem dX4_begin_43 : decode cX4_begin 43 = .ok (.invokevirtual 55, 3) := by decide +kernel
theorem dX4_begin_46 : decode cX4_begin 46 = .ok (.if_icmp .ne 18, 3) := by decide +kernel
theorem dX4_begin_49 : decode cX4_begin 49 = .ok (.aload_n 0, 1) := by decide +kernel
theorem dX4_begin_50 : decode cX4_begin 50 = .ok (.getfield 19, 3) := by decide +kernel
theorem dX4_begin_53 : decode cX4_begin 53 = .ok (.new 59, 3) := by decide +kernel
theorem dX4_begin_56 : decode cX4_begin 56 = .ok (.dup, 1) := by decide +kernel
theorem dX4_begin_57 : decode cX4_begin 57 = .ok (.invokespecial 61, 3) := by decide +kernel
theorem dX4_begin_60 : decode cX4_begin 60 = .ok (.invokevirtual 62, 3) := by decide +kernel
theorem dX4_begin_63 : decode cX4_begin 63 = .ok (.pop, 1) := by decide +kernel
theorem dX4_begin_64 : decode cX4_begin 64 = .ok (.aload_n 0, 1) := by decide +kernel
theorem dX4_begin_65 : decode cX4_begin 65 = .ok (.getfield 19, 3) := by decide +kernel
theorem dX4_begin_68 : decode cX4_begin 68 = .ok (.aload_n 0, 1) := by decide +kernel
theorem dX4_begin_69 : decode cX4_begin 69 = .ok (.getfield 48, 3) := by decide +kernel
theorem dX4_begin_72 : decode cX4_begin 72 = .ok (.invokevirtual 66, 3) := by decide +kernel
theorem dX4_begin_75 : decode cX4_begin 75 = .ok (.checkcast 59, 3) := by decide +kernel
theorem dX4_begin_78 : decode cX4_begin 78 = .ok (.aload_n 0, 1) := by decide +kernel
theorem dX4_begin_79 : decode cX4_begin 79 = .ok (.getfield 48, 3) := by decide +kernel
theorem dX4_begin_82 : decode cX4_begin 82 = .ok (.iload_n 1, 1) := by decide +kernel
theorem dX4_begin_83 : decode cX4_begin 83 = .ok (.aload_n 0, 1) := by decide +kernel
theorem dX4_begin_84 : decode cX4_begin 84 = .ok (.getfield 11, 3) := by decide +kernel
theorem dX4_begin_87 : decode cX4_begin 87 = .ok (.iload_n 1, 1) := by decide +kernel
theorem dX4_begin_88 : decode cX4_begin 88 = .ok (.aaload, 1) := by decide +kernel
theorem dX4_begin_89 : decode cX4_begin 89 = .ok (.getfield 70, 3) := by decide +kernel
theorem dX4_begin_92 : decode cX4_begin 92 = .ok (.invokevirtual 74, 3) := by decide +kernel
theorem dX4_begin_95 : decode cX4_begin 95 = .ok (.aload_n 0, 1) := by decide +kernel
theorem dX4_begin_96 : decode cX4_begin 96 = .ok (.dup, 1) := by decide +kernel
theorem dX4_begin_97 : decode cX4_begin 97 = .ok (.getfield 48, 3) := by decide +kernel
theorem dX4_begin_100 : decode cX4_begin 100 = .ok (.iconst 1, 1) := by decide +kernel
theorem dX4_begin_101 : decode cX4_begin 101 = .ok (.iadd, 1) := by decide +kernel
theorem dX4_begin_102 : decode cX4_begin 102 = .ok (.putfield 48, 3) := by decide +kernel
theorem dX4_begin_105 : decode cX4_begin 105 = .ok (.aload_n 0, 1) := by decide +kernel
theorem dX4_begin_106 : decode cX4_begin 106 = .ok (.getfield 48, 3) := by decide +kernel
theorem dX4_begin_109 : decode cX4_begin 109 = .ok (.iconst 1, 1) := by decide +kernel
theorem dX4_begin_110 : decode cX4_begin 110 = .ok (.isub, 1) := by decide +kernel
theorem dX4_begin_111 : decode cX4_begin 111 = .ok (.ireturn, 1) := by decide +kernel
theorem dX4_read_0 : decode cX4_read 0 = .ok (.aload_n 0, 1) := by decide +kernel
theorem dX4_read_1 : decode cX4_read 1 = .ok (.iload_n 1, 1) := by decide +kernel
theorem dX4_read_2 : decode cX4_read 2 = .ok (.invokevirtual 78, 3) := by decide +kernel
theorem dX4_read_5 : decode cX4_read 5 = .ok (.iload_n 2, 1) := by decide +kernel
theorem dX4_read_6 : decode cX4_read 6 = .ok (.invokestatic 81, 3) := by decide +kernel
theorem dX4_read_9 : decode cX4_read 9 = .ok (.aload_n 0, 1) := by decide +kernel
theorem dX4_read_10 : decode cX4_read 10 = .ok (.getfield 19, 3) := by decide +kernel
theorem dX4_read_13 : decode cX4_read 13 = .ok (.iload_n 1, 1) := by decide +kernel
theorem dX4_read_14 : decode cX4_read 14 = .ok (.invokevirtual 66, 3) := by decide +kernel
theorem dX4_read_17 : decode cX4_read 17 = .ok (.checkcast 59, 3) := by decide +kernel
theorem dX4_read_20 : decode cX4_read 20 = .ok (.astore_n 3, 1) := by decide +kernel
theorem dX4_read_21 : decode cX4_read 21 = .ok (.aload_n 3, 1) := by decide +kernel
theorem dX4_read_22 : decode cX4_read 22 = .ok (.invokestatic 84, 3) := by decide +kernel
theorem dX4_read_25 : decode cX4_read 25 = .ok (.aload_n 3, 1) := by decide +kernel
theorem dX4_read_26 : decode cX4_read 26 = .ok (.iload_n 2, 1) := by decide +kernel
theorem dX4_read_27 : decode cX4_read 27 = .ok (.invokevirtual 88, 3) := by decide +kernel
theorem dX4_read_30 : decode cX4_read 30 = .ok (.ifCond .eq 12, 3) := by decide +kernel
theorem dX4_read_33 : decode cX4_read 33 = .ok (.aload_n 3, 1) := by decide +kernel
theorem dX4_read_34 : decode cX4_read 34 = .ok (.getfield 92, 3) := by decide +kernel
theorem dX4_read_37 : decode cX4_read 37 = .ok (.iload_n 2, 1) := by decide +kernel
theorem dX4_read_38 : decode cX4_read 38 = .ok (.iaload, 1) := by decide +kernel
theorem dX4_read_39 : decode cX4_read 39 = .ok (.goto 21, 3) := by decide +kernel
theorem dX4_read_42 : decode cX4_read 42 = .ok (.aload_n 0, 1) := by decide +kernel
theorem dX4_read_43 : decode cX4_read 43 = .ok (.aload_n 0, 1) := by decide +kernel
theorem dX4_read_44 : decode cX4_read 44 = .ok (.getfield 11, 3) := by decide +kernel
theorem dX4_read_47 : decode cX4_read 47 = .ok (.aload_n 3, 1) := by decide +kernel
theorem dX4_read_48 : decode cX4_read 48 = .ok (.getfield 95, 3) := by decide +kernel
theorem dX4_read_51 : decode cX4_read 51 = .ok (.aaload, 1) := by decide +kernel
theorem dX4_read_52 : decode cX4_read 52 = .ok (.aload_n 3, 1) := by decide +kernel
theorem dX4_read_53 : decode cX4_read 53 = .ok (.getfield 98, 3) := by decide +kernel
theorem dX4_read_56 : decode cX4_read 56 = .ok (.iload_n 2, 1) := by decide +kernel
theorem dX4_read_57 : decode cX4_read 57 = .ok (.invokevirtual 101, 3) := by decide +kernel
theorem dX4_read_60 : decode cX4_read 60 = .ok (.ireturn, 1) := by decide +kernel
theorem dX4_write_0 : decode cX4_write 0 = .ok (.aload_n 0, 1) := by decide +kernel
theorem dX4_write_1 : decode cX4_write 1 = .ok (.iload_n 1, 1) := by decide +kernel
theorem dX4_write_2 : decode cX4_write 2 = .ok (.invokevirtual 78, 3) := by decide +kernel
theorem dX4_write_5 : decode cX4_write 5 = .ok (.iload_n 2, 1) := by decide +kernel
theorem dX4_write_6 : decode cX4_write 6 = .ok (.invokestatic 81, 3) := by decide +kernel
theorem dX4_write_9 : decode cX4_write 9 = .ok (.aload_n 0, 1) := by decide +kernel
theorem dX4_write_10 : decode cX4_write 10 = .ok (.getfield 19, 3) := by decide +kernel
theorem dX4_write_13 : decode cX4_write 13 = .ok (.iload_n 1, 1) := by decide +kernel
theorem dX4_write_14 : decode cX4_write 14 = .ok (.invokevirtual 66, 3) := by decide +kernel
theorem dX4_write_17 : decode cX4_write 17 = .ok (.checkcast 59, 3) := by decide +kernel
theorem dX4_write_20 : decode cX4_write 20 = .ok (.astore 4, 2) := by decide +kernel
theorem dX4_write_22 : decode cX4_write 22 = .ok (.aload 4, 2) := by decide +kernel
theorem dX4_write_24 : decode cX4_write 24 = .ok (.invokestatic 84, 3) := by decide +kernel
theorem dX4_write_27 : decode cX4_write 27 = .ok (.aload 4, 2) := by decide +kernel
theorem dX4_write_29 : decode cX4_write 29 = .ok (.iload_n 2, 1) := by decide +kernel
theorem dX4_write_30 : decode cX4_write 30 = .ok (.invokevirtual 88, 3) := by decide +kernel
theorem dX4_write_33 : decode cX4_write 33 = .ok (.ifCond .ne 13, 3) := by decide +kernel
theorem dX4_write_36 : decode cX4_write 36 = .ok (.aload 4, 2) := by decide +kernel
theorem dX4_write_38 : decode cX4_write 38 = .ok (.invokevirtual 105, 3) := by decide +kernel
theorem dX4_write_41 : decode cX4_write 41 = .ok (.bipush 10, 2) := by decide +kernel
theorem dX4_write_43 : decode cX4_write 43 = .ok (.if_icmp .ge 7, 3) := by decide +kernel
theorem dX4_write_46 : decode cX4_write 46 = .ok (.iconst 1, 1) := by decide +kernel
theorem dX4_write_47 : decode cX4_write 47 = .ok (.goto 4, 3) := by decide +kernel
theorem dX4_write_50 : decode cX4_write 50 = .ok (.iconst 0, 1) := by decide +kernel
theorem dX4_write_51 : decode cX4_write 51 = .ok (.invokestatic 52, 3) := by decide +kernel
theorem dX4_write_54 : decode cX4_write 54 = .ok (.aload 4, 2) := by decide +kernel
theorem dX4_write_56 : decode cX4_write 56 = .ok (.dup, 1) := by decide +kernel
theorem dX4_write_57 : decode cX4_write 57 = .ok (.getfield 108, 3) := by decide +kernel
theorem dX4_write_60 : decode cX4_write 60 = .ok (.iconst 1, 1) := by decide +kernel
theorem dX4_write_61 : decode cX4_write 61 = .ok (.iload_n 2, 1) := by decide +kernel
theorem dX4_write_62 : decode cX4_write 62 = .ok (.ishl, 1) := by decide +kernel
theorem dX4_write_63 : decode cX4_write 63 = .ok (.ior, 1) := by decide +kernel
theorem dX4_write_64 : decode cX4_write 64 = .ok (.putfield 108, 3) := by decide +kernel
theorem dX4_write_67 : decode cX4_write 67 = .ok (.aload 4, 2) := by decide +kernel
theorem dX4_write_69 : decode cX4_write 69 = .ok (.getfield 92, 3) := by decide +kernel
theorem dX4_write_72 : decode cX4_write 72 = .ok (.iload_n 2, 1) := by decide +kernel
theorem dX4_write_73 : decode cX4_write 73 = .ok (.iload_n 3, 1) := by decide +kernel
theorem dX4_write_74 : decode cX4_write 74 = .ok (.iastore, 1) := by decide +kernel
theorem dX4_write_75 : decode cX4_write 75 = .ok (.aload 4, 2) := by decide +kernel
theorem dX4_write_77 : decode cX4_write 77 = .ok (.invokevirtual 105, 3) := by decide +kernel
theorem dX4_write_80 : decode cX4_write 80 = .ok (.ireturn, 1) := by decide +kernel
theorem dX4_change_0 : decode cX4_change 0 = .ok (.aload_n 0, 1) := by decide +kernel
theorem dX4_change_1 : decode cX4_change 1 = .ok (.iload_n 1, 1) := by decide +kernel
theorem dX4_change_2 : decode cX4_change 2 = .ok (.invokevirtual 78, 3) := by decide +kernel
theorem dX4_change_5 : decode cX4_change 5 = .ok (.iload_n 2, 1) := by decide +kernel
theorem dX4_change_6 : decode cX4_change 6 = .ok (.iload_n 3, 1) := by decide +kernel
theorem dX4_change_7 : decode cX4_change 7 = .ok (.invokestatic 111, 3) := by decide +kernel
theorem dX4_change_10 : decode cX4_change 10 = .ok (.iload 4, 2) := by decide +kernel
theorem dX4_change_12 : decode cX4_change 12 = .ok (.iconst 1, 1) := by decide +kernel
theorem dX4_change_13 : decode cX4_change 13 = .ok (.if_icmp .eq 9, 3) := by decide +kernel
theorem dX4_change_16 : decode cX4_change 16 = .ok (.iload 4, 2) := by decide +kernel
theorem dX4_change_18 : decode cX4_change 18 = .ok (.iconst (-1), 1) := by decide +kernel
theorem dX4_change_19 : decode cX4_change 19 = .ok (.if_icmp .ne 7, 3) := by decide +kernel
theorem dX4_change_22 : decode cX4_change 22 = .ok (.iconst 1, 1) := by decide +kernel
theorem dX4_change_23 : decode cX4_change 23 = .ok (.goto 4, 3) := by decide +kernel
theorem dX4_change_26 : decode cX4_change 26 = .ok (.iconst 0, 1) := by decide +kernel
theorem dX4_change_27 : decode cX4_change 27 = .ok (.invokestatic 37, 3) := by decide +kernel
theorem dX4_change_30 : decode cX4_change 30 = .ok (.aload_n 0, 1) := by decide +kernel
theorem dX4_change_31 : decode cX4_change 31 = .ok (.getfield 19, 3) := by decide +kernel
theorem dX4_change_34 : decode cX4_change 34 = .ok (.iload_n 1, 1) := by decide +kernel
theorem dX4_change_35 : decode cX4_change 35 = .ok (.invokevirtual 66, 3) := by decide +kernel
theorem dX4_change_38 : decode cX4_change 38 = .ok (.checkcast 59, 3) := by decide +kernel
theorem dX4_change_41 : decode cX4_change 41 = .ok (.astore 5, 2) := by decide +kernel
theorem dX4_change_43 : decode cX4_change 43 = .ok (.aload 5, 2) := by decide +kernel
theorem dX4_change_45 : decode cX4_change 45 = .ok (.invokestatic 84, 3) := by decide +kernel
theorem dX4_change_48 : decode cX4_change 48 = .ok (.aload 5, 2) := by decide +kernel
theorem dX4_change_50 : decode cX4_change 50 = .ok (.getfield 115, 3) := by decide +kernel
theorem dX4_change_53 : decode cX4_change 53 = .ok (.bipush 20, 2) := by decide +kernel
theorem dX4_change_55 : decode cX4_change 55 = .ok (.if_icmp .ge 7, 3) := by decide +kernel
theorem dX4_change_58 : decode cX4_change 58 = .ok (.iconst 1, 1) := by decide +kernel
theorem dX4_change_59 : decode cX4_change 59 = .ok (.goto 4, 3) := by decide +kernel
theorem dX4_change_62 : decode cX4_change 62 = .ok (.iconst 0, 1) := by decide +kernel
theorem dX4_change_63 : decode cX4_change 63 = .ok (.invokestatic 52, 3) := by decide +kernel
theorem dX4_change_66 : decode cX4_change 66 = .ok (.aload 5, 2) := by decide +kernel
theorem dX4_change_68 : decode cX4_change 68 = .ok (.getfield 118, 3) := by decide +kernel
theorem dX4_change_71 : decode cX4_change 71 = .ok (.aload 5, 2) := by decide +kernel
theorem dX4_change_73 : decode cX4_change 73 = .ok (.getfield 115, 3) := by decide +kernel
theorem dX4_change_76 : decode cX4_change 76 = .ok (.iload_n 2, 1) := by decide +kernel
theorem dX4_change_77 : decode cX4_change 77 = .ok (.iload_n 3, 1) := by decide +kernel
theorem dX4_change_78 : decode cX4_change 78 = .ok (.invokestatic 121, 3) := by decide +kernel
theorem dX4_change_81 : decode cX4_change 81 = .ok (.iastore, 1) := by decide +kernel
theorem dX4_change_82 : decode cX4_change 82 = .ok (.aload 5, 2) := by decide +kernel
theorem dX4_change_84 : decode cX4_change 84 = .ok (.getfield 125, 3) := by decide +kernel
theorem dX4_change_87 : decode cX4_change 87 = .ok (.aload 5, 2) := by decide +kernel
theorem dX4_change_89 : decode cX4_change 89 = .ok (.getfield 115, 3) := by decide +kernel
theorem dX4_change_92 : decode cX4_change 92 = .ok (.iload 4, 2) := by decide +kernel
theorem dX4_change_94 : decode cX4_change 94 = .ok (.iastore, 1) := by decide +kernel
theorem dX4_change_95 : decode cX4_change 95 = .ok (.aload 5, 2) := by decide +kernel
theorem dX4_change_97 : decode cX4_change 97 = .ok (.dup, 1) := by decide +kernel
theorem dX4_change_98 : decode cX4_change 98 = .ok (.getfield 115, 3) := by decide +kernel
theorem dX4_change_101 : decode cX4_change 101 = .ok (.iconst 1, 1) := by decide +kernel
theorem dX4_change_102 : decode cX4_change 102 = .ok (.iadd, 1) := by decide +kernel
theorem dX4_change_103 : decode cX4_change 103 = .ok (.putfield 115, 3) := by decide +kernel
theorem dX4_change_106 : decode cX4_change 106 = .ok (.aload 5, 2) := by decide +kernel
theorem dX4_change_108 : decode cX4_change 108 = .ok (.getfield 115, 3) := by decide +kernel
theorem dX4_change_111 : decode cX4_change 111 = .ok (.ireturn, 1) := by decide +kernel
theorem dX4_count_0 : decode cX4_count 0 = .ok (.aload_n 0, 1) := by decide +kernel
theorem dX4_count_1 : decode cX4_count 1 = .ok (.iload_n 1, 1) := by decide +kernel
theorem dX4_count_2 : decode cX4_count 2 = .ok (.invokevirtual 78, 3) := by decide +kernel
theorem dX4_count_5 : decode cX4_count 5 = .ok (.iload_n 2, 1) := by decide +kernel
theorem dX4_count_6 : decode cX4_count 6 = .ok (.iload_n 3, 1) := by decide +kernel
theorem dX4_count_7 : decode cX4_count 7 = .ok (.invokestatic 111, 3) := by decide +kernel
theorem dX4_count_10 : decode cX4_count 10 = .ok (.aload_n 0, 1) := by decide +kernel
theorem dX4_count_11 : decode cX4_count 11 = .ok (.getfield 19, 3) := by decide +kernel
theorem dX4_count_14 : decode cX4_count 14 = .ok (.iload_n 1, 1) := by decide +kernel
theorem dX4_count_15 : decode cX4_count 15 = .ok (.invokevirtual 66, 3) := by decide +kernel
theorem dX4_count_18 : decode cX4_count 18 = .ok (.checkcast 59, 3) := by decide +kernel
theorem dX4_count_21 : decode cX4_count 21 = .ok (.astore 4, 2) := by decide +kernel
theorem dX4_count_23 : decode cX4_count 23 = .ok (.aload 4, 2) := by decide +kernel
theorem dX4_count_25 : decode cX4_count 25 = .ok (.invokestatic 84, 3) := by decide +kernel
theorem dX4_count_28 : decode cX4_count 28 = .ok (.iload_n 2, 1) := by decide +kernel
theorem dX4_count_29 : decode cX4_count 29 = .ok (.iload_n 3, 1) := by decide +kernel
theorem dX4_count_30 : decode cX4_count 30 = .ok (.invokestatic 121, 3) := by decide +kernel
theorem dX4_count_33 : decode cX4_count 33 = .ok (.istore 5, 2) := by decide +kernel
theorem dX4_count_35 : decode cX4_count 35 = .ok (.aload 4, 2) := by decide +kernel
theorem dX4_count_37 : decode cX4_count 37 = .ok (.iload 5, 2) := by decide +kernel
theorem dX4_count_39 : decode cX4_count 39 = .ok (.invokevirtual 128, 3) := by decide +kernel
theorem dX4_count_42 : decode cX4_count 42 = .ok (.aload_n 0, 1) := by decide +kernel
theorem dX4_count_43 : decode cX4_count 43 = .ok (.aload 4, 2) := by decide +kernel
theorem dX4_count_45 : decode cX4_count 45 = .ok (.iload 5, 2) := by decide +kernel
theorem dX4_count_47 : decode cX4_count 47 = .ok (.invokevirtual 132, 3) := by decide +kernel
theorem dX4_count_50 : decode cX4_count 50 = .ok (.iadd, 1) := by decide +kernel
theorem dX4_count_51 : decode cX4_count 51 = .ok (.ireturn, 1) := by decide +kernel
theorem dX4_commit_0 : decode cX4_commit 0 = .ok (.aload_n 0, 1) := by decide +kernel
theorem dX4_commit_1 : decode cX4_commit 1 = .ok (.iload_n 1, 1) := by decide +kernel
theorem dX4_commit_2 : decode cX4_commit 2 = .ok (.invokevirtual 78, 3) := by decide +kernel
theorem dX4_commit_5 : decode cX4_commit 5 = .ok (.aload_n 0, 1) := by decide +kernel
theorem dX4_commit_6 : decode cX4_commit 6 = .ok (.getfield 19, 3) := by decide +kernel
theorem dX4_commit_9 : decode cX4_commit 9 = .ok (.iload_n 1, 1) := by decide +kernel
theorem dX4_commit_10 : decode cX4_commit 10 = .ok (.invokevirtual 66, 3) := by decide +kernel
theorem dX4_commit_13 : decode cX4_commit 13 = .ok (.checkcast 59, 3) := by decide +kernel
theorem dX4_commit_16 : decode cX4_commit 16 = .ok (.astore_n 2, 1) := by decide +kernel
theorem dX4_commit_17 : decode cX4_commit 17 = .ok (.aload_n 2, 1) := by decide +kernel
theorem dX4_commit_18 : decode cX4_commit 18 = .ok (.invokestatic 84, 3) := by decide +kernel
theorem dX4_commit_21 : decode cX4_commit 21 = .ok (.aload_n 0, 1) := by decide +kernel
theorem dX4_commit_22 : decode cX4_commit 22 = .ok (.aload_n 2, 1) := by decide +kernel
theorem dX4_commit_23 : decode cX4_commit 23 = .ok (.invokevirtual 136, 3) := by decide +kernel
theorem dX4_commit_26 : decode cX4_commit 26 = .ok (.aload_n 2, 1) := by decide +kernel
theorem dX4_commit_27 : decode cX4_commit 27 = .ok (.getfield 95, 3) := by decide +kernel
theorem dX4_commit_30 : decode cX4_commit 30 = .ok (.invokestatic 140, 3) := by decide +kernel
theorem dX4_commit_33 : decode cX4_commit 33 = .ok (.iconst (-1), 1) := by decide +kernel
theorem dX4_commit_34 : decode cX4_commit 34 = .ok (.ixor, 1) := by decide +kernel
theorem dX4_commit_35 : decode cX4_commit 35 = .ok (.iand, 1) := by decide +kernel
theorem dX4_commit_36 : decode cX4_commit 36 = .ok (.istore_n 3, 1) := by decide +kernel
theorem dX4_commit_37 : decode cX4_commit 37 = .ok (.aload_n 0, 1) := by decide +kernel
theorem dX4_commit_38 : decode cX4_commit 38 = .ok (.aload_n 2, 1) := by decide +kernel
theorem dX4_commit_39 : decode cX4_commit 39 = .ok (.aload_n 2, 1) := by decide +kernel
theorem dX4_commit_40 : decode cX4_commit 40 = .ok (.getfield 95, 3) := by decide +kernel
theorem dX4_commit_43 : decode cX4_commit 43 = .ok (.invokevirtual 143, 3) := by decide +kernel
theorem dX4_commit_46 : decode cX4_commit 46 = .ok (.ifCond .ne 11, 3) := by decide +kernel
theorem dX4_commit_49 : decode cX4_commit 49 = .ok (.aload_n 2, 1) := by decide +kernel
theorem dX4_commit_50 : decode cX4_commit 50 = .ok (.iconst 3, 1) := by decide +kernel
theorem dX4_commit_51 : decode cX4_commit 51 = .ok (.putfield 147, 3) := by decide +kernel
theorem dX4_commit_54 : decode cX4_commit 54 = .ok (.goto 21, 3) := by decide +kernel
theorem dX4_commit_57 : decode cX4_commit 57 = .ok (.iload_n 3, 1) := by decide +kernel
theorem dX4_commit_58 : decode cX4_commit 58 = .ok (.ifCond .ne 11, 3) := by decide +kernel
theorem dX4_commit_61 : decode cX4_commit 61 = .ok (.aload_n 0, 1) := by decide +kernel
theorem dX4_commit_62 : decode cX4_commit 62 = .ok (.aload_n 2, 1) := by decide +kernel
theorem dX4_commit_63 : decode cX4_commit 63 = .ok (.invokevirtual 150, 3) := by decide +kernel
theorem dX4_commit_66 : decode cX4_commit 66 = .ok (.goto 9, 3) := by decide +kernel
theorem dX4_commit_69 : decode cX4_commit 69 = .ok (.aload_n 0, 1) := by decide +kernel
theorem dX4_commit_70 : decode cX4_commit 70 = .ok (.aload_n 2, 1) := by decide +kernel
theorem dX4_commit_71 : decode cX4_commit 71 = .ok (.iload_n 3, 1) := by decide +kernel
theorem dX4_commit_72 : decode cX4_commit 72 = .ok (.invokevirtual 153, 3) := by decide +kernel
theorem dX4_commit_75 : decode cX4_commit 75 = .ok (.aload_n 2, 1) := by decide +kernel
theorem dX4_commit_76 : decode cX4_commit 76 = .ok (.getfield 147, 3) := by decide +kernel
theorem dX4_commit_79 : decode cX4_commit 79 = .ok (.ireturn, 1) := by decide +kernel
theorem dX4_abort_0 : decode cX4_abort 0 = .ok (.aload_n 0, 1) := by decide +kernel
theorem dX4_abort_1 : decode cX4_abort 1 = .ok (.iload_n 1, 1) := by decide +kernel
theorem dX4_abort_2 : decode cX4_abort 2 = .ok (.invokevirtual 78, 3) := by decide +kernel
theorem dX4_abort_5 : decode cX4_abort 5 = .ok (.aload_n 0, 1) := by decide +kernel
theorem dX4_abort_6 : decode cX4_abort 6 = .ok (.getfield 19, 3) := by decide +kernel
theorem dX4_abort_9 : decode cX4_abort 9 = .ok (.iload_n 1, 1) := by decide +kernel
theorem dX4_abort_10 : decode cX4_abort 10 = .ok (.invokevirtual 66, 3) := by decide +kernel
theorem dX4_abort_13 : decode cX4_abort 13 = .ok (.checkcast 59, 3) := by decide +kernel
theorem dX4_abort_16 : decode cX4_abort 16 = .ok (.astore_n 2, 1) := by decide +kernel
theorem dX4_abort_17 : decode cX4_abort 17 = .ok (.aload_n 2, 1) := by decide +kernel
theorem dX4_abort_18 : decode cX4_abort 18 = .ok (.invokestatic 84, 3) := by decide +kernel
theorem dX4_abort_21 : decode cX4_abort 21 = .ok (.aload_n 2, 1) := by decide +kernel
theorem dX4_abort_22 : decode cX4_abort 22 = .ok (.iconst 3, 1) := by decide +kernel
theorem dX4_abort_23 : decode cX4_abort 23 = .ok (.putfield 147, 3) := by decide +kernel
theorem dX4_abort_26 : decode cX4_abort 26 = .ok (.return_, 1) := by decide +kernel
theorem dX4_again_0 : decode cX4_again 0 = .ok (.aload_n 0, 1) := by decide +kernel
theorem dX4_again_1 : decode cX4_again 1 = .ok (.iload_n 1, 1) := by decide +kernel
theorem dX4_again_2 : decode cX4_again 2 = .ok (.invokevirtual 78, 3) := by decide +kernel
theorem dX4_again_5 : decode cX4_again 5 = .ok (.aload_n 0, 1) := by decide +kernel
theorem dX4_again_6 : decode cX4_again 6 = .ok (.getfield 19, 3) := by decide +kernel
theorem dX4_again_9 : decode cX4_again 9 = .ok (.iload_n 1, 1) := by decide +kernel
theorem dX4_again_10 : decode cX4_again 10 = .ok (.invokevirtual 66, 3) := by decide +kernel
theorem dX4_again_13 : decode cX4_again 13 = .ok (.checkcast 59, 3) := by decide +kernel
theorem dX4_again_16 : decode cX4_again 16 = .ok (.astore_n 2, 1) := by decide +kernel
theorem dX4_again_17 : decode cX4_again 17 = .ok (.aload_n 0, 1) := by decide +kernel
theorem dX4_again_18 : decode cX4_again 18 = .ok (.getfield 11, 3) := by decide +kernel
theorem dX4_again_21 : decode cX4_again 21 = .ok (.aload_n 2, 1) := by decide +kernel
theorem dX4_again_22 : decode cX4_again 22 = .ok (.getfield 95, 3) := by decide +kernel
theorem dX4_again_25 : decode cX4_again 25 = .ok (.aaload, 1) := by decide +kernel
theorem dX4_again_26 : decode cX4_again 26 = .ok (.getfield 44, 3) := by decide +kernel
theorem dX4_again_29 : decode cX4_again 29 = .ok (.invokestatic 52, 3) := by decide +kernel
theorem dX4_again_32 : decode cX4_again 32 = .ok (.aload_n 2, 1) := by decide +kernel
theorem dX4_again_33 : decode cX4_again 33 = .ok (.getfield 147, 3) := by decide +kernel
theorem dX4_again_36 : decode cX4_again 36 = .ok (.tableswitch 79 1 4 #[32, 50, 68, 68], 32) := by decide +kernel
theorem dX4_again_68 : decode cX4_again 68 = .ok (.aload_n 0, 1) := by decide +kernel
theorem dX4_again_69 : decode cX4_again 69 = .ok (.iconst 1, 1) := by decide +kernel
theorem dX4_again_70 : decode cX4_again 70 = .ok (.aload_n 2, 1) := by decide +kernel
theorem dX4_again_71 : decode cX4_again 71 = .ok (.aload_n 2, 1) := by decide +kernel
theorem dX4_again_72 : decode cX4_again 72 = .ok (.getfield 157, 3) := by decide +kernel
theorem dX4_again_75 : decode cX4_again 75 = .ok (.aload_n 2, 1) := by decide +kernel
theorem dX4_again_76 : decode cX4_again 76 = .ok (.getfield 160, 3) := by decide +kernel
theorem dX4_again_79 : decode cX4_again 79 = .ok (.iconst (-1), 1) := by decide +kernel
theorem dX4_again_80 : decode cX4_again 80 = .ok (.ixor, 1) := by decide +kernel
theorem dX4_again_81 : decode cX4_again 81 = .ok (.iand, 1) := by decide +kernel
theorem dX4_again_82 : decode cX4_again 82 = .ok (.invokevirtual 163, 3) := by decide +kernel
theorem dX4_again_85 : decode cX4_again 85 = .ok (.ireturn, 1) := by decide +kernel
theorem dX4_again_86 : decode cX4_again 86 = .ok (.aload_n 0, 1) := by decide +kernel
theorem dX4_again_87 : decode cX4_again 87 = .ok (.iconst 5, 1) := by decide +kernel
theorem dX4_again_88 : decode cX4_again 88 = .ok (.aload_n 2, 1) := by decide +kernel
theorem dX4_again_89 : decode cX4_again 89 = .ok (.aload_n 0, 1) := by decide +kernel
theorem dX4_again_90 : decode cX4_again 90 = .ok (.invokevirtual 167, 3) := by decide +kernel
theorem dX4_again_93 : decode cX4_again 93 = .ok (.aload_n 2, 1) := by decide +kernel
theorem dX4_again_94 : decode cX4_again 94 = .ok (.getfield 170, 3) := by decide +kernel
theorem dX4_again_97 : decode cX4_again 97 = .ok (.iconst (-1), 1) := by decide +kernel
theorem dX4_again_98 : decode cX4_again 98 = .ok (.ixor, 1) := by decide +kernel
theorem dX4_again_99 : decode cX4_again 99 = .ok (.iand, 1) := by decide +kernel
theorem dX4_again_100 : decode cX4_again 100 = .ok (.invokevirtual 163, 3) := by decide +kernel
theorem dX4_again_103 : decode cX4_again 103 = .ok (.ireturn, 1) := by decide +kernel
theorem dX4_again_104 : decode cX4_again 104 = .ok (.aload_n 0, 1) := by decide +kernel
theorem dX4_again_105 : decode cX4_again 105 = .ok (.iconst 4, 1) := by decide +kernel
theorem dX4_again_106 : decode cX4_again 106 = .ok (.aload_n 2, 1) := by decide +kernel
theorem dX4_again_107 : decode cX4_again 107 = .ok (.aload_n 2, 1) := by decide +kernel
theorem dX4_again_108 : decode cX4_again 108 = .ok (.getfield 157, 3) := by decide +kernel
theorem dX4_again_111 : decode cX4_again 111 = .ok (.invokevirtual 163, 3) := by decide +kernel
theorem dX4_again_114 : decode cX4_again 114 = .ok (.ireturn, 1) := by decide +kernel
theorem dX4_again_115 : decode cX4_again 115 = .ok (.iconst 0, 1) := by decide +kernel
theorem dX4_again_116 : decode cX4_again 116 = .ok (.ireturn, 1) := by decide +kernel
theorem dX4_deliver_0 : decode cX4_deliver 0 = .ok (.aload_n 0, 1) := by decide +kernel
theorem dX4_deliver_1 : decode cX4_deliver 1 = .ok (.iload_n 1, 1) := by decide +kernel
theorem dX4_deliver_2 : decode cX4_deliver 2 = .ok (.invokevirtual 173, 3) := by decide +kernel
theorem dX4_deliver_5 : decode cX4_deliver 5 = .ok (.aload_n 0, 1) := by decide +kernel
theorem dX4_deliver_6 : decode cX4_deliver 6 = .ok (.getfield 23, 3) := by decide +kernel
theorem dX4_deliver_9 : decode cX4_deliver 9 = .ok (.iload_n 1, 1) := by decide +kernel
theorem dX4_deliver_10 : decode cX4_deliver 10 = .ok (.invokevirtual 176, 3) := by decide +kernel
theorem dX4_deliver_13 : decode cX4_deliver 13 = .ok (.checkcast 179, 3) := by decide +kernel
theorem dX4_deliver_16 : decode cX4_deliver 16 = .ok (.astore_n 2, 1) := by decide +kernel
theorem dX4_deliver_17 : decode cX4_deliver 17 = .ok (.aload_n 0, 1) := by decide +kernel
theorem dX4_deliver_18 : decode cX4_deliver 18 = .ok (.getfield 11, 3) := by decide +kernel
theorem dX4_deliver_21 : decode cX4_deliver 21 = .ok (.aload_n 2, 1) := by decide +kernel
theorem dX4_deliver_22 : decode cX4_deliver 22 = .ok (.invokevirtual 181, 3) := by decide +kernel
theorem dX4_deliver_25 : decode cX4_deliver 25 = .ok (.aaload, 1) := by decide +kernel
theorem dX4_deliver_26 : decode cX4_deliver 26 = .ok (.getfield 44, 3) := by decide +kernel
theorem dX4_deliver_29 : decode cX4_deliver 29 = .ok (.ifCond .ne 5, 3) := by decide +kernel
theorem dX4_deliver_32 : decode cX4_deliver 32 = .ok (.iconst 0, 1) := by decide +kernel
theorem dX4_deliver_33 : decode cX4_deliver 33 = .ok (.ireturn, 1) := by decide +kernel
theorem dX4_deliver_34 : decode cX4_deliver 34 = .ok (.aload_n 0, 1) := by decide +kernel
theorem dX4_deliver_35 : decode cX4_deliver 35 = .ok (.aload_n 2, 1) := by decide +kernel
theorem dX4_deliver_36 : decode cX4_deliver 36 = .ok (.aload_n 0, 1) := by decide +kernel
theorem dX4_deliver_37 : decode cX4_deliver 37 = .ok (.getfield 19, 3) := by decide +kernel
theorem dX4_deliver_40 : decode cX4_deliver 40 = .ok (.aload_n 2, 1) := by decide +kernel
theorem dX4_deliver_41 : decode cX4_deliver 41 = .ok (.invokevirtual 184, 3) := by decide +kernel
theorem dX4_deliver_44 : decode cX4_deliver 44 = .ok (.invokevirtual 66, 3) := by decide +kernel
theorem dX4_deliver_47 : decode cX4_deliver 47 = .ok (.checkcast 59, 3) := by decide +kernel
theorem dX4_deliver_50 : decode cX4_deliver 50 = .ok (.invokevirtual 187, 3) := by decide +kernel
theorem dX4_deliver_53 : decode cX4_deliver 53 = .ok (.ireturn, 1) := by decide +kernel
theorem dX4_drop_0 : decode cX4_drop 0 = .ok (.aload_n 0, 1) := by decide +kernel
theorem dX4_drop_1 : decode cX4_drop 1 = .ok (.iload_n 1, 1) := by decide +kernel
theorem dX4_drop_2 : decode cX4_drop 2 = .ok (.invokevirtual 173, 3) := by decide +kernel
theorem dX4_drop_5 : decode cX4_drop 5 = .ok (.aload_n 0, 1) := by decide +kernel
theorem dX4_drop_6 : decode cX4_drop 6 = .ok (.getfield 23, 3) := by decide +kernel
theorem dX4_drop_9 : decode cX4_drop 9 = .ok (.iload_n 1, 1) := by decide +kernel
theorem dX4_drop_10 : decode cX4_drop 10 = .ok (.invokevirtual 176, 3) := by decide +kernel
theorem dX4_drop_13 : decode cX4_drop 13 = .ok (.checkcast 179, 3) := by decide +kernel
theorem dX4_drop_16 : decode cX4_drop 16 = .ok (.invokevirtual 191, 3) := by decide +kernel
theorem dX4_drop_19 : decode cX4_drop 19 = .ok (.ireturn, 1) := by decide +kernel
theorem dX4_copy_0 : decode cX4_copy 0 = .ok (.aload_n 0, 1) := by decide +kernel
theorem dX4_copy_1 : decode cX4_copy 1 = .ok (.iload_n 1, 1) := by decide +kernel
theorem dX4_copy_2 : decode cX4_copy 2 = .ok (.invokevirtual 173, 3) := by decide +kernel
theorem dX4_copy_5 : decode cX4_copy 5 = .ok (.aload_n 0, 1) := by decide +kernel
theorem dX4_copy_6 : decode cX4_copy 6 = .ok (.invokevirtual 194, 3) := by decide +kernel
theorem dX4_copy_9 : decode cX4_copy 9 = .ok (.ifCond .ne 5, 3) := by decide +kernel
theorem dX4_copy_12 : decode cX4_copy 12 = .ok (.iconst 0, 1) := by decide +kernel
theorem dX4_copy_13 : decode cX4_copy 13 = .ok (.ireturn, 1) := by decide +kernel
theorem dX4_copy_14 : decode cX4_copy 14 = .ok (.aload_n 0, 1) := by decide +kernel
theorem dX4_copy_15 : decode cX4_copy 15 = .ok (.getfield 23, 3) := by decide +kernel
theorem dX4_copy_18 : decode cX4_copy 18 = .ok (.aload_n 0, 1) := by decide +kernel
theorem dX4_copy_19 : decode cX4_copy 19 = .ok (.getfield 23, 3) := by decide +kernel
theorem dX4_copy_22 : decode cX4_copy 22 = .ok (.iload_n 1, 1) := by decide +kernel
theorem dX4_copy_23 : decode cX4_copy 23 = .ok (.invokevirtual 66, 3) := by decide +kernel
theorem dX4_copy_26 : decode cX4_copy 26 = .ok (.checkcast 179, 3) := by decide +kernel
theorem dX4_copy_29 : decode cX4_copy 29 = .ok (.invokevirtual 62, 3) := by decide +kernel
theorem dX4_copy_32 : decode cX4_copy 32 = .ok (.pop, 1) := by decide +kernel
theorem dX4_copy_33 : decode cX4_copy 33 = .ok (.iconst 1, 1) := by decide +kernel
theorem dX4_copy_34 : decode cX4_copy 34 = .ok (.ireturn, 1) := by decide +kernel
theorem dX4_byteOf_0 : decode cX4_byteOf 0 = .ok (.aload_n 0, 1) := by decide +kernel
theorem dX4_byteOf_1 : decode cX4_byteOf 1 = .ok (.iload_n 1, 1) := by decide +kernel
theorem dX4_byteOf_2 : decode cX4_byteOf 2 = .ok (.invokevirtual 173, 3) := by decide +kernel
theorem dX4_byteOf_5 : decode cX4_byteOf 5 = .ok (.aload_n 0, 1) := by decide +kernel
theorem dX4_byteOf_6 : decode cX4_byteOf 6 = .ok (.getfield 23, 3) := by decide +kernel
theorem dX4_byteOf_9 : decode cX4_byteOf 9 = .ok (.iload_n 1, 1) := by decide +kernel
theorem dX4_byteOf_10 : decode cX4_byteOf 10 = .ok (.invokevirtual 66, 3) := by decide +kernel
theorem dX4_byteOf_13 : decode cX4_byteOf 13 = .ok (.checkcast 179, 3) := by decide +kernel
theorem dX4_byteOf_16 : decode cX4_byteOf 16 = .ok (.astore_n 3, 1) := by decide +kernel
theorem dX4_byteOf_17 : decode cX4_byteOf 17 = .ok (.aload_n 0, 1) := by decide +kernel
theorem dX4_byteOf_18 : decode cX4_byteOf 18 = .ok (.getfield 29, 3) := by decide +kernel
theorem dX4_byteOf_21 : decode cX4_byteOf 21 = .ok (.iload_n 2, 1) := by decide +kernel
theorem dX4_byteOf_22 : decode cX4_byteOf 22 = .ok (.invokevirtual 198, 3) := by decide +kernel
theorem dX4_byteOf_25 : decode cX4_byteOf 25 = .ok (.aload_n 0, 1) := by decide +kernel
theorem dX4_byteOf_26 : decode cX4_byteOf 26 = .ok (.aload_n 3, 1) := by decide +kernel
theorem dX4_byteOf_27 : decode cX4_byteOf 27 = .ok (.aload_n 0, 1) := by decide +kernel
theorem dX4_byteOf_28 : decode cX4_byteOf 28 = .ok (.getfield 19, 3) := by decide +kernel
theorem dX4_byteOf_31 : decode cX4_byteOf 31 = .ok (.aload_n 3, 1) := by decide +kernel
theorem dX4_byteOf_32 : decode cX4_byteOf 32 = .ok (.invokevirtual 184, 3) := by decide +kernel
theorem dX4_byteOf_35 : decode cX4_byteOf 35 = .ok (.invokevirtual 66, 3) := by decide +kernel
theorem dX4_byteOf_38 : decode cX4_byteOf 38 = .ok (.checkcast 59, 3) := by decide +kernel
theorem dX4_byteOf_41 : decode cX4_byteOf 41 = .ok (.invokevirtual 201, 3) := by decide +kernel
theorem dX4_byteOf_44 : decode cX4_byteOf 44 = .ok (.aload_n 0, 1) := by decide +kernel
theorem dX4_byteOf_45 : decode cX4_byteOf 45 = .ok (.getfield 29, 3) := by decide +kernel
theorem dX4_byteOf_48 : decode cX4_byteOf 48 = .ok (.getfield 205, 3) := by decide +kernel
theorem dX4_byteOf_51 : decode cX4_byteOf 51 = .ok (.ireturn, 1) := by decide +kernel
theorem dX4_crash_0 : decode cX4_crash 0 = .ok (.aload_n 0, 1) := by decide +kernel
theorem dX4_crash_1 : decode cX4_crash 1 = .ok (.iload_n 1, 1) := by decide +kernel
theorem dX4_crash_2 : decode cX4_crash 2 = .ok (.invokevirtual 41, 3) := by decide +kernel
theorem dX4_crash_5 : decode cX4_crash 5 = .ok (.aload_n 0, 1) := by decide +kernel
theorem dX4_crash_6 : decode cX4_crash 6 = .ok (.getfield 11, 3) := by decide +kernel
theorem dX4_crash_9 : decode cX4_crash 9 = .ok (.iload_n 1, 1) := by decide +kernel
theorem dX4_crash_10 : decode cX4_crash 10 = .ok (.aaload, 1) := by decide +kernel
theorem dX4_crash_11 : decode cX4_crash 11 = .ok (.getfield 44, 3) := by decide +kernel
theorem dX4_crash_14 : decode cX4_crash 14 = .ok (.invokestatic 52, 3) := by decide +kernel
theorem dX4_crash_17 : decode cX4_crash 17 = .ok (.aload_n 0, 1) := by decide +kernel
theorem dX4_crash_18 : decode cX4_crash 18 = .ok (.getfield 11, 3) := by decide +kernel
theorem dX4_crash_21 : decode cX4_crash 21 = .ok (.iload_n 1, 1) := by decide +kernel
theorem dX4_crash_22 : decode cX4_crash 22 = .ok (.aaload, 1) := by decide +kernel
theorem dX4_crash_23 : decode cX4_crash 23 = .ok (.iconst 0, 1) := by decide +kernel
theorem dX4_crash_24 : decode cX4_crash 24 = .ok (.putfield 44, 3) := by decide +kernel
theorem dX4_crash_27 : decode cX4_crash 27 = .ok (.iconst 0, 1) := by decide +kernel
theorem dX4_crash_28 : decode cX4_crash 28 = .ok (.istore_n 2, 1) := by decide +kernel
theorem dX4_crash_29 : decode cX4_crash 29 = .ok (.iload_n 2, 1) := by decide +kernel
theorem dX4_crash_30 : decode cX4_crash 30 = .ok (.aload_n 0, 1) := by decide +kernel
theorem dX4_crash_31 : decode cX4_crash 31 = .ok (.getfield 48, 3) := by decide +kernel
theorem dX4_crash_34 : decode cX4_crash 34 = .ok (.if_icmp .ge 48, 3) := by decide +kernel
theorem dX4_crash_37 : decode cX4_crash 37 = .ok (.aload_n 0, 1) := by decide +kernel
theorem dX4_crash_38 : decode cX4_crash 38 = .ok (.getfield 19, 3) := by decide +kernel
theorem dX4_crash_41 : decode cX4_crash 41 = .ok (.iload_n 2, 1) := by decide +kernel
theorem dX4_crash_42 : decode cX4_crash 42 = .ok (.invokevirtual 66, 3) := by decide +kernel
theorem dX4_crash_45 : decode cX4_crash 45 = .ok (.checkcast 59, 3) := by decide +kernel
theorem dX4_crash_48 : decode cX4_crash 48 = .ok (.astore_n 3, 1) := by decide +kernel
theorem dX4_crash_49 : decode cX4_crash 49 = .ok (.aload_n 3, 1) := by decide +kernel
theorem dX4_crash_50 : decode cX4_crash 50 = .ok (.dup, 1) := by decide +kernel
theorem dX4_crash_51 : decode cX4_crash 51 = .ok (.getfield 208, 3) := by decide +kernel
theorem dX4_crash_54 : decode cX4_crash 54 = .ok (.iload_n 1, 1) := by decide +kernel
theorem dX4_crash_55 : decode cX4_crash 55 = .ok (.invokestatic 140, 3) := by decide +kernel
theorem dX4_crash_58 : decode cX4_crash 58 = .ok (.iconst (-1), 1) := by decide +kernel
theorem dX4_crash_59 : decode cX4_crash 59 = .ok (.ixor, 1) := by decide +kernel
theorem dX4_crash_60 : decode cX4_crash 60 = .ok (.iand, 1) := by decide +kernel
theorem dX4_crash_61 : decode cX4_crash 61 = .ok (.putfield 208, 3) := by decide +kernel
theorem dX4_crash_64 : decode cX4_crash 64 = .ok (.aload_n 3, 1) := by decide +kernel
theorem dX4_crash_65 : decode cX4_crash 65 = .ok (.getfield 95, 3) := by decide +kernel
theorem dX4_crash_68 : decode cX4_crash 68 = .ok (.iload_n 1, 1) := by decide +kernel
theorem dX4_crash_69 : decode cX4_crash 69 = .ok (.if_icmp .ne 7, 3) := by decide +kernel
theorem dX4_crash_72 : decode cX4_crash 72 = .ok (.aload_n 3, 1) := by decide +kernel
theorem dX4_crash_73 : decode cX4_crash 73 = .ok (.invokestatic 211, 3) := by decide +kernel
theorem dX4_crash_76 : decode cX4_crash 76 = .ok (.iinc 2 1, 3) := by decide +kernel
theorem dX4_crash_79 : decode cX4_crash 79 = .ok (.goto (-50), 3) := by decide +kernel
theorem dX4_crash_82 : decode cX4_crash 82 = .ok (.return_, 1) := by decide +kernel
theorem dX4_restart_0 : decode cX4_restart 0 = .ok (.aload_n 0, 1) := by decide +kernel
theorem dX4_restart_1 : decode cX4_restart 1 = .ok (.iload_n 1, 1) := by decide +kernel
theorem dX4_restart_2 : decode cX4_restart 2 = .ok (.invokevirtual 41, 3) := by decide +kernel
theorem dX4_restart_5 : decode cX4_restart 5 = .ok (.aload_n 0, 1) := by decide +kernel
theorem dX4_restart_6 : decode cX4_restart 6 = .ok (.getfield 11, 3) := by decide +kernel
theorem dX4_restart_9 : decode cX4_restart 9 = .ok (.iload_n 1, 1) := by decide +kernel
theorem dX4_restart_10 : decode cX4_restart 10 = .ok (.aaload, 1) := by decide +kernel
theorem dX4_restart_11 : decode cX4_restart 11 = .ok (.getfield 44, 3) := by decide +kernel
theorem dX4_restart_14 : decode cX4_restart 14 = .ok (.ifCond .ne 7, 3) := by decide +kernel
theorem dX4_restart_17 : decode cX4_restart 17 = .ok (.iconst 1, 1) := by decide +kernel
theorem dX4_restart_18 : decode cX4_restart 18 = .ok (.goto 4, 3) := by decide +kernel
theorem dX4_restart_21 : decode cX4_restart 21 = .ok (.iconst 0, 1) := by decide +kernel
theorem dX4_restart_22 : decode cX4_restart 22 = .ok (.invokestatic 52, 3) := by decide +kernel
theorem dX4_restart_25 : decode cX4_restart 25 = .ok (.aload_n 0, 1) := by decide +kernel
theorem dX4_restart_26 : decode cX4_restart 26 = .ok (.getfield 11, 3) := by decide +kernel
theorem dX4_restart_29 : decode cX4_restart 29 = .ok (.iload_n 1, 1) := by decide +kernel
theorem dX4_restart_30 : decode cX4_restart 30 = .ok (.aaload, 1) := by decide +kernel
theorem dX4_restart_31 : decode cX4_restart 31 = .ok (.iconst 1, 1) := by decide +kernel
theorem dX4_restart_32 : decode cX4_restart 32 = .ok (.putfield 44, 3) := by decide +kernel
theorem dX4_restart_35 : decode cX4_restart 35 = .ok (.iconst 0, 1) := by decide +kernel
theorem dX4_restart_36 : decode cX4_restart 36 = .ok (.istore_n 2, 1) := by decide +kernel
theorem dX4_restart_37 : decode cX4_restart 37 = .ok (.iload_n 2, 1) := by decide +kernel
theorem dX4_restart_38 : decode cX4_restart 38 = .ok (.aload_n 0, 1) := by decide +kernel
theorem dX4_restart_39 : decode cX4_restart 39 = .ok (.getfield 48, 3) := by decide +kernel
theorem dX4_restart_42 : decode cX4_restart 42 = .ok (.if_icmp .ge 46, 3) := by decide +kernel
theorem dX4_restart_45 : decode cX4_restart 45 = .ok (.aload_n 0, 1) := by decide +kernel
theorem dX4_restart_46 : decode cX4_restart 46 = .ok (.getfield 19, 3) := by decide +kernel
theorem dX4_restart_49 : decode cX4_restart 49 = .ok (.iload_n 2, 1) := by decide +kernel
theorem dX4_restart_50 : decode cX4_restart 50 = .ok (.invokevirtual 66, 3) := by decide +kernel
theorem dX4_restart_53 : decode cX4_restart 53 = .ok (.checkcast 59, 3) := by decide +kernel
theorem dX4_restart_56 : decode cX4_restart 56 = .ok (.astore_n 3, 1) := by decide +kernel
theorem dX4_restart_57 : decode cX4_restart 57 = .ok (.aload_n 3, 1) := by decide +kernel
theorem dX4_restart_58 : decode cX4_restart 58 = .ok (.getfield 95, 3) := by decide +kernel
theorem dX4_restart_61 : decode cX4_restart 61 = .ok (.iload_n 1, 1) := by decide +kernel
theorem dX4_restart_62 : decode cX4_restart 62 = .ok (.if_icmp .ne 20, 3) := by decide +kernel
theorem dX4_restart_65 : decode cX4_restart 65 = .ok (.aload_n 3, 1) := by decide +kernel
theorem dX4_restart_66 : decode cX4_restart 66 = .ok (.getfield 214, 3) := by decide +kernel
theorem dX4_restart_69 : decode cX4_restart 69 = .ok (.ifCond .eq 13, 3) := by decide +kernel
theorem dX4_restart_72 : decode cX4_restart 72 = .ok (.aload_n 3, 1) := by decide +kernel
theorem dX4_restart_73 : decode cX4_restart 73 = .ok (.iconst 0, 1) := by decide +kernel
theorem dX4_restart_74 : decode cX4_restart 74 = .ok (.putfield 214, 3) := by decide +kernel
theorem dX4_restart_77 : decode cX4_restart 77 = .ok (.aload_n 0, 1) := by decide +kernel
theorem dX4_restart_78 : decode cX4_restart 78 = .ok (.aload_n 3, 1) := by decide +kernel
theorem dX4_restart_79 : decode cX4_restart 79 = .ok (.invokevirtual 217, 3) := by decide +kernel
theorem dX4_restart_82 : decode cX4_restart 82 = .ok (.iinc 2 1, 3) := by decide +kernel
theorem dX4_restart_85 : decode cX4_restart 85 = .ok (.goto (-48), 3) := by decide +kernel
theorem dX4_restart_88 : decode cX4_restart 88 = .ok (.return_, 1) := by decide +kernel
theorem dX4_about_0 : decode cX4_about 0 = .ok (.aload_n 0, 1) := by decide +kernel
theorem dX4_about_1 : decode cX4_about 1 = .ok (.iload_n 1, 1) := by decide +kernel
theorem dX4_about_2 : decode cX4_about 2 = .ok (.invokevirtual 78, 3) := by decide +kernel
theorem dX4_about_5 : decode cX4_about 5 = .ok (.aload_n 0, 1) := by decide +kernel
theorem dX4_about_6 : decode cX4_about 6 = .ok (.getfield 19, 3) := by decide +kernel
theorem dX4_about_9 : decode cX4_about 9 = .ok (.iload_n 1, 1) := by decide +kernel
theorem dX4_about_10 : decode cX4_about 10 = .ok (.invokevirtual 66, 3) := by decide +kernel
theorem dX4_about_13 : decode cX4_about 13 = .ok (.checkcast 59, 3) := by decide +kernel
theorem dX4_about_16 : decode cX4_about 16 = .ok (.astore_n 3, 1) := by decide +kernel
theorem dX4_about_17 : decode cX4_about 17 = .ok (.iload_n 2, 1) := by decide +kernel
theorem dX4_about_18 : decode cX4_about 18 = .ok (.tableswitch 65 0 4 #[34, 39, 44, 49, 57], 34) := by decide +kernel
theorem dX4_about_52 : decode cX4_about 52 = .ok (.aload_n 3, 1) := by decide +kernel
theorem dX4_about_53 : decode cX4_about 53 = .ok (.getfield 147, 3) := by decide +kernel
theorem dX4_about_56 : decode cX4_about 56 = .ok (.ireturn, 1) := by decide +kernel
theorem dX4_about_57 : decode cX4_about 57 = .ok (.aload_n 3, 1) := by decide +kernel
theorem dX4_about_58 : decode cX4_about 58 = .ok (.getfield 95, 3) := by decide +kernel
theorem dX4_about_61 : decode cX4_about 61 = .ok (.ireturn, 1) := by decide +kernel
theorem dX4_about_62 : decode cX4_about 62 = .ok (.aload_n 3, 1) := by decide +kernel
theorem dX4_about_63 : decode cX4_about 63 = .ok (.getfield 220, 3) := by decide +kernel
theorem dX4_about_66 : decode cX4_about 66 = .ok (.ireturn, 1) := by decide +kernel
theorem dX4_about_67 : decode cX4_about 67 = .ok (.aload_n 3, 1) := by decide +kernel
theorem dX4_about_68 : decode cX4_about 68 = .ok (.getfield 170, 3) := by decide +kernel
theorem dX4_about_71 : decode cX4_about 71 = .ok (.invokestatic 223, 3) := by decide +kernel
theorem dX4_about_74 : decode cX4_about 74 = .ok (.ireturn, 1) := by decide +kernel
theorem dX4_about_75 : decode cX4_about 75 = .ok (.aload_n 3, 1) := by decide +kernel
theorem dX4_about_76 : decode cX4_about 76 = .ok (.getfield 160, 3) := by decide +kernel
theorem dX4_about_79 : decode cX4_about 79 = .ok (.invokestatic 223, 3) := by decide +kernel
theorem dX4_about_82 : decode cX4_about 82 = .ok (.ireturn, 1) := by decide +kernel
theorem dX4_about_83 : decode cX4_about 83 = .ok (.new 228, 3) := by decide +kernel
theorem dX4_about_86 : decode cX4_about 86 = .ok (.dup, 1) := by decide +kernel
theorem dX4_about_87 : decode cX4_about 87 = .ok (.ldc 230, 2) := by decide +kernel
theorem dX4_about_89 : decode cX4_about 89 = .ok (.invokespecial 232, 3) := by decide +kernel
theorem dX4_about_92 : decode cX4_about 92 = .ok (.athrow, 1) := by decide +kernel
theorem dX4_vector_0 : decode cX4_vector 0 = .ok (.aload_n 0, 1) := by decide +kernel
theorem dX4_vector_1 : decode cX4_vector 1 = .ok (.iload_n 1, 1) := by decide +kernel
theorem dX4_vector_2 : decode cX4_vector 2 = .ok (.invokevirtual 41, 3) := by decide +kernel
theorem dX4_vector_5 : decode cX4_vector 5 = .ok (.aload_n 0, 1) := by decide +kernel
theorem dX4_vector_6 : decode cX4_vector 6 = .ok (.iload_n 2, 1) := by decide +kernel
theorem dX4_vector_7 : decode cX4_vector 7 = .ok (.invokevirtual 41, 3) := by decide +kernel
theorem dX4_vector_10 : decode cX4_vector 10 = .ok (.aload_n 0, 1) := by decide +kernel
theorem dX4_vector_11 : decode cX4_vector 11 = .ok (.getfield 11, 3) := by decide +kernel
theorem dX4_vector_14 : decode cX4_vector 14 = .ok (.iload_n 1, 1) := by decide +kernel
theorem dX4_vector_15 : decode cX4_vector 15 = .ok (.aaload, 1) := by decide +kernel
theorem dX4_vector_16 : decode cX4_vector 16 = .ok (.getfield 70, 3) := by decide +kernel
theorem dX4_vector_19 : decode cX4_vector 19 = .ok (.iload_n 2, 1) := by decide +kernel
theorem dX4_vector_20 : decode cX4_vector 20 = .ok (.iaload, 1) := by decide +kernel
theorem dX4_vector_21 : decode cX4_vector 21 = .ok (.ireturn, 1) := by decide +kernel
theorem dX4_value_0 : decode cX4_value 0 = .ok (.aload_n 0, 1) := by decide +kernel
theorem dX4_value_1 : decode cX4_value 1 = .ok (.iload_n 1, 1) := by decide +kernel
theorem dX4_value_2 : decode cX4_value 2 = .ok (.invokevirtual 41, 3) := by decide +kernel
theorem dX4_value_5 : decode cX4_value 5 = .ok (.iload_n 2, 1) := by decide +kernel
theorem dX4_value_6 : decode cX4_value 6 = .ok (.invokestatic 81, 3) := by decide +kernel
theorem dX4_value_9 : decode cX4_value 9 = .ok (.aload_n 0, 1) := by decide +kernel
theorem dX4_value_10 : decode cX4_value 10 = .ok (.aload_n 0, 1) := by decide +kernel
theorem dX4_value_11 : decode cX4_value 11 = .ok (.getfield 11, 3) := by decide +kernel
theorem dX4_value_14 : decode cX4_value 14 = .ok (.iload_n 1, 1) := by decide +kernel
theorem dX4_value_15 : decode cX4_value 15 = .ok (.aaload, 1) := by decide +kernel
theorem dX4_value_16 : decode cX4_value 16 = .ok (.aload_n 0, 1) := by decide +kernel
theorem dX4_value_17 : decode cX4_value 17 = .ok (.getfield 11, 3) := by decide +kernel
theorem dX4_value_20 : decode cX4_value 20 = .ok (.iload_n 1, 1) := by decide +kernel
theorem dX4_value_21 : decode cX4_value 21 = .ok (.aaload, 1) := by decide +kernel
theorem dX4_value_22 : decode cX4_value 22 = .ok (.getfield 70, 3) := by decide +kernel
theorem dX4_value_25 : decode cX4_value 25 = .ok (.iload_n 2, 1) := by decide +kernel
theorem dX4_value_26 : decode cX4_value 26 = .ok (.invokevirtual 101, 3) := by decide +kernel
theorem dX4_value_29 : decode cX4_value 29 = .ok (.ireturn, 1) := by decide +kernel
theorem dX4_locked_0 : decode cX4_locked 0 = .ok (.aload_n 0, 1) := by decide +kernel
theorem dX4_locked_1 : decode cX4_locked 1 = .ok (.iload_n 1, 1) := by decide +kernel
theorem dX4_locked_2 : decode cX4_locked 2 = .ok (.invokevirtual 41, 3) := by decide +kernel
theorem dX4_locked_5 : decode cX4_locked 5 = .ok (.iload_n 2, 1) := by decide +kernel
theorem dX4_locked_6 : decode cX4_locked 6 = .ok (.invokestatic 81, 3) := by decide +kernel
theorem dX4_locked_9 : decode cX4_locked 9 = .ok (.aload_n 0, 1) := by decide +kernel
theorem dX4_locked_10 : decode cX4_locked 10 = .ok (.getfield 11, 3) := by decide +kernel
theorem dX4_locked_13 : decode cX4_locked 13 = .ok (.iload_n 1, 1) := by decide +kernel
theorem dX4_locked_14 : decode cX4_locked 14 = .ok (.aaload, 1) := by decide +kernel
theorem dX4_locked_15 : decode cX4_locked 15 = .ok (.getfield 235, 3) := by decide +kernel
theorem dX4_locked_18 : decode cX4_locked 18 = .ok (.iload_n 2, 1) := by decide +kernel
theorem dX4_locked_19 : decode cX4_locked 19 = .ok (.iaload, 1) := by decide +kernel
theorem dX4_locked_20 : decode cX4_locked 20 = .ok (.ireturn, 1) := by decide +kernel
theorem dX4_total_0 : decode cX4_total 0 = .ok (.iload_n 1, 1) := by decide +kernel
theorem dX4_total_1 : decode cX4_total 1 = .ok (.tableswitch 63 0 4 #[35, 40, 48, 53, 58], 35) := by decide +kernel
theorem dX4_total_36 : decode cX4_total 36 = .ok (.aload_n 0, 1) := by decide +kernel
theorem dX4_total_37 : decode cX4_total 37 = .ok (.getfield 48, 3) := by decide +kernel
theorem dX4_total_40 : decode cX4_total 40 = .ok (.ireturn, 1) := by decide +kernel
theorem dX4_total_41 : decode cX4_total 41 = .ok (.aload_n 0, 1) := by decide +kernel
theorem dX4_total_42 : decode cX4_total 42 = .ok (.getfield 23, 3) := by decide +kernel
theorem dX4_total_45 : decode cX4_total 45 = .ok (.invokevirtual 55, 3) := by decide +kernel
theorem dX4_total_48 : decode cX4_total 48 = .ok (.ireturn, 1) := by decide +kernel
theorem dX4_total_49 : decode cX4_total 49 = .ok (.aload_n 0, 1) := by decide +kernel
theorem dX4_total_50 : decode cX4_total 50 = .ok (.getfield 238, 3) := by decide +kernel
theorem dX4_total_53 : decode cX4_total 53 = .ok (.ireturn, 1) := by decide +kernel
theorem dX4_total_54 : decode cX4_total 54 = .ok (.aload_n 0, 1) := by decide +kernel
theorem dX4_total_55 : decode cX4_total 55 = .ok (.invokevirtual 241, 3) := by decide +kernel
theorem dX4_total_58 : decode cX4_total 58 = .ok (.ireturn, 1) := by decide +kernel
theorem dX4_total_59 : decode cX4_total 59 = .ok (.aload_n 0, 1) := by decide +kernel
theorem dX4_total_60 : decode cX4_total 60 = .ok (.invokevirtual 244, 3) := by decide +kernel
theorem dX4_total_63 : decode cX4_total 63 = .ok (.ireturn, 1) := by decide +kernel
theorem dX4_total_64 : decode cX4_total 64 = .ok (.new 228, 3) := by decide +kernel
theorem dX4_total_67 : decode cX4_total 67 = .ok (.dup, 1) := by decide +kernel
theorem dX4_total_68 : decode cX4_total 68 = .ok (.ldc 230, 2) := by decide +kernel
theorem dX4_total_70 : decode cX4_total 70 = .ok (.invokespecial 232, 3) := by decide +kernel
theorem dX4_total_73 : decode cX4_total 73 = .ok (.athrow, 1) := by decide +kernel
theorem dX4_startAfresh_0 : decode cX4_startAfresh 0 = .ok (.iconst 0, 1) := by decide +kernel
theorem dX4_startAfresh_1 : decode cX4_startAfresh 1 = .ok (.istore_n 2, 1) := by decide +kernel
theorem dX4_startAfresh_2 : decode cX4_startAfresh 2 = .ok (.iload_n 2, 1) := by decide +kernel
theorem dX4_startAfresh_3 : decode cX4_startAfresh 3 = .ok (.iconst 5, 1) := by decide +kernel
theorem dX4_startAfresh_4 : decode cX4_startAfresh 4 = .ok (.if_icmp .ge 18, 3) := by decide +kernel
theorem dX4_startAfresh_7 : decode cX4_startAfresh 7 = .ok (.aload_n 0, 1) := by decide +kernel
theorem dX4_startAfresh_8 : decode cX4_startAfresh 8 = .ok (.getfield 11, 3) := by decide +kernel
theorem dX4_startAfresh_11 : decode cX4_startAfresh 11 = .ok (.iload_n 2, 1) := by decide +kernel
theorem dX4_startAfresh_12 : decode cX4_startAfresh 12 = .ok (.aaload, 1) := by decide +kernel
theorem dX4_startAfresh_13 : decode cX4_startAfresh 13 = .ok (.invokevirtual 247, 3) := by decide +kernel
theorem dX4_startAfresh_16 : decode cX4_startAfresh 16 = .ok (.iinc 2 1, 3) := by decide +kernel
theorem dX4_startAfresh_19 : decode cX4_startAfresh 19 = .ok (.goto (-17), 3) := by decide +kernel
theorem dX4_startAfresh_22 : decode cX4_startAfresh 22 = .ok (.aload_n 0, 1) := by decide +kernel
theorem dX4_startAfresh_23 : decode cX4_startAfresh 23 = .ok (.getfield 23, 3) := by decide +kernel
theorem dX4_startAfresh_26 : decode cX4_startAfresh 26 = .ok (.invokevirtual 250, 3) := by decide +kernel
theorem dX4_startAfresh_29 : decode cX4_startAfresh 29 = .ok (.aload_n 0, 1) := by decide +kernel
theorem dX4_startAfresh_30 : decode cX4_startAfresh 30 = .ok (.iload_n 1, 1) := by decide +kernel
theorem dX4_startAfresh_31 : decode cX4_startAfresh 31 = .ok (.putfield 251, 3) := by decide +kernel
theorem dX4_startAfresh_34 : decode cX4_startAfresh 34 = .ok (.aload_n 0, 1) := by decide +kernel
theorem dX4_startAfresh_35 : decode cX4_startAfresh 35 = .ok (.iconst 0, 1) := by decide +kernel
theorem dX4_startAfresh_36 : decode cX4_startAfresh 36 = .ok (.putfield 48, 3) := by decide +kernel
theorem dX4_startAfresh_39 : decode cX4_startAfresh 39 = .ok (.aload_n 0, 1) := by decide +kernel
theorem dX4_startAfresh_40 : decode cX4_startAfresh 40 = .ok (.iconst 0, 1) := by decide +kernel
theorem dX4_startAfresh_41 : decode cX4_startAfresh 41 = .ok (.putfield 238, 3) := by decide +kernel
theorem dX4_startAfresh_44 : decode cX4_startAfresh 44 = .ok (.return_, 1) := by decide +kernel
theorem dX4_needArgument_0 : decode cX4_needArgument 0 = .ok (.iload_n 0, 1) := by decide +kernel
theorem dX4_needArgument_1 : decode cX4_needArgument 1 = .ok (.ifCond .ne 13, 3) := by decide +kernel
theorem dX4_needArgument_4 : decode cX4_needArgument 4 = .ok (.new 228, 3) := by decide +kernel
theorem dX4_needArgument_7 : decode cX4_needArgument 7 = .ok (.dup, 1) := by decide +kernel
theorem dX4_needArgument_8 : decode cX4_needArgument 8 = .ok (.ldc 254, 2) := by decide +kernel
theorem dX4_needArgument_10 : decode cX4_needArgument 10 = .ok (.invokespecial 232, 3) := by decide +kernel
theorem dX4_needArgument_13 : decode cX4_needArgument 13 = .ok (.athrow, 1) := by decide +kernel
theorem dX4_needArgument_14 : decode cX4_needArgument 14 = .ok (.return_, 1) := by decide +kernel
theorem dX4_needState_0 : decode cX4_needState 0 = .ok (.iload_n 0, 1) := by decide +kernel
theorem dX4_needState_1 : decode cX4_needState 1 = .ok (.ifCond .ne 14, 3) := by decide +kernel
theorem dX4_needState_4 : decode cX4_needState 4 = .ok (.new 256, 3) := by decide +kernel
theorem dX4_needState_7 : decode cX4_needState 7 = .ok (.dup, 1) := by decide +kernel
theorem dX4_needState_8 : decode cX4_needState 8 = .ok (.ldc_w 258, 3) := by decide +kernel
theorem dX4_needState_11 : decode cX4_needState 11 = .ok (.invokespecial 260, 3) := by decide +kernel
theorem dX4_needState_14 : decode cX4_needState 14 = .ok (.athrow, 1) := by decide +kernel
theorem dX4_needState_15 : decode cX4_needState 15 = .ok (.return_, 1) := by decide +kernel
theorem dX4_needSite_0 : decode cX4_needSite 0 = .ok (.iload_n 1, 1) := by decide +kernel
theorem dX4_needSite_1 : decode cX4_needSite 1 = .ok (.ifCond .lt 15, 3) := by decide +kernel
theorem dX4_needSite_4 : decode cX4_needSite 4 = .ok (.iload_n 1, 1) := by decide +kernel
theorem dX4_needSite_5 : decode cX4_needSite 5 = .ok (.aload_n 0, 1) := by decide +kernel
theorem dX4_needSite_6 : decode cX4_needSite 6 = .ok (.getfield 251, 3) := by decide +kernel
theorem dX4_needSite_9 : decode cX4_needSite 9 = .ok (.if_icmp .ge 7, 3) := by decide +kernel
theorem dX4_needSite_12 : decode cX4_needSite 12 = .ok (.iconst 1, 1) := by decide +kernel
theorem dX4_needSite_13 : decode cX4_needSite 13 = .ok (.goto 4, 3) := by decide +kernel
theorem dX4_needSite_16 : decode cX4_needSite 16 = .ok (.iconst 0, 1) := by decide +kernel
theorem dX4_needSite_17 : decode cX4_needSite 17 = .ok (.invokestatic 37, 3) := by decide +kernel
theorem dX4_needSite_20 : decode cX4_needSite 20 = .ok (.return_, 1) := by decide +kernel
theorem dX4_needTransaction_0 : decode cX4_needTransaction 0 = .ok (.iload_n 1, 1) := by decide +kernel
theorem dX4_needTransaction_1 : decode cX4_needTransaction 1 = .ok (.ifCond .lt 15, 3) := by decide +kernel
theorem dX4_needTransaction_4 : decode cX4_needTransaction 4 = .ok (.iload_n 1, 1) := by decide +kernel
theorem dX4_needTransaction_5 : decode cX4_needTransaction 5 = .ok (.aload_n 0, 1) := by decide +kernel
theorem dX4_needTransaction_6 : decode cX4_needTransaction 6 = .ok (.getfield 48, 3) := by decide +kernel
theorem dX4_needTransaction_9 : decode cX4_needTransaction 9 = .ok (.if_icmp .ge 7, 3) := by decide +kernel
theorem dX4_needTransaction_12 : decode cX4_needTransaction 12 = .ok (.iconst 1, 1) := by decide +kernel
theorem dX4_needTransaction_13 : decode cX4_needTransaction 13 = .ok (.goto 4, 3) := by decide +kernel
theorem dX4_needTransaction_16 : decode cX4_needTransaction 16 = .ok (.iconst 0, 1) := by decide +kernel
theorem dX4_needTransaction_17 : decode cX4_needTransaction 17 = .ok (.invokestatic 37, 3) := by decide +kernel
theorem dX4_needTransaction_20 : decode cX4_needTransaction 20 = .ok (.return_, 1) := by decide +kernel
theorem dX4_needObject_0 : decode cX4_needObject 0 = .ok (.iload_n 0, 1) := by decide +kernel
theorem dX4_needObject_1 : decode cX4_needObject 1 = .ok (.ifCond .lt 13, 3) := by decide +kernel
theorem dX4_needObject_4 : decode cX4_needObject 4 = .ok (.iload_n 0, 1) := by decide +kernel
theorem dX4_needObject_5 : decode cX4_needObject 5 = .ok (.bipush 20, 2) := by decide +kernel
theorem dX4_needObject_7 : decode cX4_needObject 7 = .ok (.if_icmp .ge 7, 3) := by decide +kernel
theorem dX4_needObject_10 : decode cX4_needObject 10 = .ok (.iconst 1, 1) := by decide +kernel
theorem dX4_needObject_11 : decode cX4_needObject 11 = .ok (.goto 4, 3) := by decide +kernel
theorem dX4_needObject_14 : decode cX4_needObject 14 = .ok (.iconst 0, 1) := by decide +kernel
theorem dX4_needObject_15 : decode cX4_needObject 15 = .ok (.invokestatic 37, 3) := by decide +kernel
theorem dX4_needObject_18 : decode cX4_needObject 18 = .ok (.return_, 1) := by decide +kernel
theorem dX4_needElement_0 : decode cX4_needElement 0 = .ok (.iload_n 0, 1) := by decide +kernel
theorem dX4_needElement_1 : decode cX4_needElement 1 = .ok (.ifCond .lt 22, 3) := by decide +kernel
theorem dX4_needElement_4 : decode cX4_needElement 4 = .ok (.iload_n 0, 1) := by decide +kernel
theorem dX4_needElement_5 : decode cX4_needElement 5 = .ok (.iconst 5, 1) := by decide +kernel
theorem dX4_needElement_6 : decode cX4_needElement 6 = .ok (.if_icmp .ge 17, 3) := by decide +kernel
theorem dX4_needElement_9 : decode cX4_needElement 9 = .ok (.iload_n 1, 1) := by decide +kernel
theorem dX4_needElement_10 : decode cX4_needElement 10 = .ok (.ifCond .lt 13, 3) := by decide +kernel
theorem dX4_needElement_13 : decode cX4_needElement 13 = .ok (.iload_n 1, 1) := by decide +kernel
theorem dX4_needElement_14 : decode cX4_needElement 14 = .ok (.bipush 8, 2) := by decide +kernel
theorem dX4_needElement_16 : decode cX4_needElement 16 = .ok (.if_icmp .ge 7, 3) := by decide +kernel
theorem dX4_needElement_19 : decode cX4_needElement 19 = .ok (.iconst 1, 1) := by decide +kernel
theorem dX4_needElement_20 : decode cX4_needElement 20 = .ok (.goto 4, 3) := by decide +kernel
theorem dX4_needElement_23 : decode cX4_needElement 23 = .ok (.iconst 0, 1) := by decide +kernel
theorem dX4_needElement_24 : decode cX4_needElement 24 = .ok (.invokestatic 37, 3) := by decide +kernel
theorem dX4_needElement_27 : decode cX4_needElement 27 = .ok (.return_, 1) := by decide +kernel
theorem dX4_needLetter_0 : decode cX4_needLetter 0 = .ok (.iload_n 1, 1) := by decide +kernel
theorem dX4_needLetter_1 : decode cX4_needLetter 1 = .ok (.ifCond .lt 18, 3) := by decide +kernel
theorem dX4_needLetter_4 : decode cX4_needLetter 4 = .ok (.iload_n 1, 1) := by decide +kernel
theorem dX4_needLetter_5 : decode cX4_needLetter 5 = .ok (.aload_n 0, 1) := by decide +kernel
theorem dX4_needLetter_6 : decode cX4_needLetter 6 = .ok (.getfield 23, 3) := by decide +kernel
theorem dX4_needLetter_9 : decode cX4_needLetter 9 = .ok (.invokevirtual 55, 3) := by decide +kernel
theorem dX4_needLetter_12 : decode cX4_needLetter 12 = .ok (.if_icmp .ge 7, 3) := by decide +kernel
theorem dX4_needLetter_15 : decode cX4_needLetter 15 = .ok (.iconst 1, 1) := by decide +kernel
theorem dX4_needLetter_16 : decode cX4_needLetter 16 = .ok (.goto 4, 3) := by decide +kernel
theorem dX4_needLetter_19 : decode cX4_needLetter 19 = .ok (.iconst 0, 1) := by decide +kernel
theorem dX4_needLetter_20 : decode cX4_needLetter 20 = .ok (.invokestatic 37, 3) := by decide +kernel
theorem dX4_needLetter_23 : decode cX4_needLetter 23 = .ok (.return_, 1) := by decide +kernel
theorem dX4_needGoingOn_0 : decode cX4_needGoingOn 0 = .ok (.aload_n 0, 1) := by decide +kernel
theorem dX4_needGoingOn_1 : decode cX4_needGoingOn 1 = .ok (.getfield 147, 3) := by decide +kernel
theorem dX4_needGoingOn_4 : decode cX4_needGoingOn 4 = .ok (.ifCond .ne 7, 3) := by decide +kernel
theorem dX4_needGoingOn_7 : decode cX4_needGoingOn 7 = .ok (.iconst 1, 1) := by decide +kernel
theorem dX4_needGoingOn_8 : decode cX4_needGoingOn 8 = .ok (.goto 4, 3) := by decide +kernel
theorem dX4_needGoingOn_11 : decode cX4_needGoingOn 11 = .ok (.iconst 0, 1) := by decide +kernel
theorem dX4_needGoingOn_12 : decode cX4_needGoingOn 12 = .ok (.invokestatic 52, 3) := by decide +kernel
theorem dX4_needGoingOn_15 : decode cX4_needGoingOn 15 = .ok (.return_, 1) := by decide +kernel
theorem dX4_bit_0 : decode cX4_bit 0 = .ok (.iconst 1, 1) := by decide +kernel
theorem dX4_bit_1 : decode cX4_bit 1 = .ok (.iload_n 0, 1) := by decide +kernel
theorem dX4_bit_2 : decode cX4_bit 2 = .ok (.ishl, 1) := by decide +kernel
theorem dX4_bit_3 : decode cX4_bit 3 = .ok (.ireturn, 1) := by decide +kernel
theorem dX4_has_0 : decode cX4_has 0 = .ok (.iload_n 0, 1) := by decide +kernel
theorem dX4_has_1 : decode cX4_has 1 = .ok (.iload_n 1, 1) := by decide +kernel
theorem dX4_has_2 : decode cX4_has 2 = .ok (.ishr, 1) := by decide +kernel
theorem dX4_has_3 : decode cX4_has 3 = .ok (.iconst 1, 1) := by decide +kernel
theorem dX4_has_4 : decode cX4_has 4 = .ok (.iand, 1) := by decide +kernel
theorem dX4_has_5 : decode cX4_has 5 = .ok (.ifCond .eq 7, 3) := by decide +kernel
theorem dX4_has_8 : decode cX4_has 8 = .ok (.iconst 1, 1) := by decide +kernel
theorem dX4_has_9 : decode cX4_has 9 = .ok (.goto 4, 3) := by decide +kernel
theorem dX4_has_12 : decode cX4_has 12 = .ok (.iconst 0, 1) := by decide +kernel
theorem dX4_has_13 : decode cX4_has 13 = .ok (.ireturn, 1) := by decide +kernel
theorem dX4_allSites_0 : decode cX4_allSites 0 = .ok (.aload_n 0, 1) := by decide +kernel
theorem dX4_allSites_1 : decode cX4_allSites 1 = .ok (.getfield 251, 3) := by decide +kernel
theorem dX4_allSites_4 : decode cX4_allSites 4 = .ok (.invokestatic 140, 3) := by decide +kernel
theorem dX4_allSites_7 : decode cX4_allSites 7 = .ok (.iconst 1, 1) := by decide +kernel
theorem dX4_allSites_8 : decode cX4_allSites 8 = .ok (.isub, 1) := by decide +kernel
theorem dX4_allSites_9 : decode cX4_allSites 9 = .ok (.ireturn, 1) := by decide +kernel
theorem dX4_homeOf_0 : decode cX4_homeOf 0 = .ok (.iload_n 1, 1) := by decide +kernel
theorem dX4_homeOf_1 : decode cX4_homeOf 1 = .ok (.aload_n 0, 1) := by decide +kernel
theorem dX4_homeOf_2 : decode cX4_homeOf 2 = .ok (.getfield 251, 3) := by decide +kernel
theorem dX4_homeOf_5 : decode cX4_homeOf 5 = .ok (.irem, 1) := by decide +kernel
theorem dX4_homeOf_6 : decode cX4_homeOf 6 = .ok (.ireturn, 1) := by decide +kernel
theorem dX4_homesOf_0 : decode cX4_homesOf 0 = .ok (.iconst 0, 1) := by decide +kernel
theorem dX4_homesOf_1 : decode cX4_homesOf 1 = .ok (.istore_n 2, 1) := by decide +kernel
theorem dX4_homesOf_2 : decode cX4_homesOf 2 = .ok (.iconst 0, 1) := by decide +kernel
theorem dX4_homesOf_3 : decode cX4_homesOf 3 = .ok (.istore_n 3, 1) := by decide +kernel
theorem dX4_homesOf_4 : decode cX4_homesOf 4 = .ok (.iload_n 3, 1) := by decide +kernel
theorem dX4_homesOf_5 : decode cX4_homesOf 5 = .ok (.bipush 20, 2) := by decide +kernel
theorem dX4_homesOf_7 : decode cX4_homesOf 7 = .ok (.if_icmp .ge 28, 3) := by decide +kernel
theorem dX4_homesOf_10 : decode cX4_homesOf 10 = .ok (.aload_n 1, 1) := by decide +kernel
theorem dX4_homesOf_11 : decode cX4_homesOf 11 = .ok (.iload_n 3, 1) := by decide +kernel
theorem dX4_homesOf_12 : decode cX4_homesOf 12 = .ok (.invokevirtual 88, 3) := by decide +kernel
theorem dX4_homesOf_15 : decode cX4_homesOf 15 = .ok (.ifCond .eq 14, 3) := by decide +kernel
theorem dX4_homesOf_18 : decode cX4_homesOf 18 = .ok (.iload_n 2, 1) := by decide +kernel
theorem dX4_homesOf_19 : decode cX4_homesOf 19 = .ok (.aload_n 0, 1) := by decide +kernel
theorem dX4_homesOf_20 : decode cX4_homesOf 20 = .ok (.iload_n 3, 1) := by decide +kernel
theorem dX4_homesOf_21 : decode cX4_homesOf 21 = .ok (.invokevirtual 261, 3) := by decide +kernel
theorem dX4_homesOf_24 : decode cX4_homesOf 24 = .ok (.invokestatic 140, 3) := by decide +kernel
theorem dX4_homesOf_27 : decode cX4_homesOf 27 = .ok (.ior, 1) := by decide +kernel
theorem dX4_homesOf_28 : decode cX4_homesOf 28 = .ok (.istore_n 2, 1) := by decide +kernel
theorem dX4_homesOf_29 : decode cX4_homesOf 29 = .ok (.iinc 3 1, 3) := by decide +kernel
theorem dX4_homesOf_32 : decode cX4_homesOf 32 = .ok (.goto (-28), 3) := by decide +kernel
theorem dX4_homesOf_35 : decode cX4_homesOf 35 = .ok (.iload_n 2, 1) := by decide +kernel
theorem dX4_homesOf_36 : decode cX4_homesOf 36 = .ok (.ireturn, 1) := by decide +kernel
theorem dX4_hasWithHome_0 : decode cX4_hasWithHome 0 = .ok (.aload_n 1, 1) := by decide +kernel
theorem dX4_hasWithHome_1 : decode cX4_hasWithHome 1 = .ok (.iload_n 2, 1) := by decide +kernel
theorem dX4_hasWithHome_2 : decode cX4_hasWithHome 2 = .ok (.invokevirtual 88, 3) := by decide +kernel
theorem dX4_hasWithHome_5 : decode cX4_hasWithHome 5 = .ok (.ifCond .eq 16, 3) := by decide +kernel
theorem dX4_hasWithHome_8 : decode cX4_hasWithHome 8 = .ok (.aload_n 0, 1) := by decide +kernel
theorem dX4_hasWithHome_9 : decode cX4_hasWithHome 9 = .ok (.iload_n 2, 1) := by decide +kernel
theorem dX4_hasWithHome_10 : decode cX4_hasWithHome 10 = .ok (.invokevirtual 261, 3) := by decide +kernel
theorem dX4_hasWithHome_13 : decode cX4_hasWithHome 13 = .ok (.iload_n 3, 1) := by decide +kernel
theorem dX4_hasWithHome_14 : decode cX4_hasWithHome 14 = .ok (.if_icmp .ne 7, 3) := by decide +kernel
theorem dX4_hasWithHome_17 : decode cX4_hasWithHome 17 = .ok (.iconst 1, 1) := by decide +kernel
theorem dX4_hasWithHome_18 : decode cX4_hasWithHome 18 = .ok (.goto 4, 3) := by decide +kernel
theorem dX4_hasWithHome_21 : decode cX4_hasWithHome 21 = .ok (.iconst 0, 1) := by decide +kernel
theorem dX4_hasWithHome_22 : decode cX4_hasWithHome 22 = .ok (.ireturn, 1) := by decide +kernel
theorem dX4_cellOf_0 : decode cX4_cellOf 0 = .ok (.bipush 8, 2) := by decide +kernel
theorem dX4_cellOf_2 : decode cX4_cellOf 2 = .ok (.iload_n 0, 1) := by decide +kernel
theorem dX4_cellOf_3 : decode cX4_cellOf 3 = .ok (.imul, 1) := by decide +kernel
theorem dX4_cellOf_4 : decode cX4_cellOf 4 = .ok (.iload_n 1, 1) := by decide +kernel
theorem dX4_cellOf_5 : decode cX4_cellOf 5 = .ok (.iadd, 1) := by decide +kernel
theorem dX4_cellOf_6 : decode cX4_cellOf 6 = .ok (.ireturn, 1) := by decide +kernel
theorem dX4_latestSeen_0 : decode cX4_latestSeen 0 = .ok (.aload_n 1, 1) := by decide +kernel
theorem dX4_latestSeen_1 : decode cX4_latestSeen 1 = .ok (.getfield 264, 3) := by decide +kernel
theorem dX4_latestSeen_4 : decode cX4_latestSeen 4 = .ok (.iconst 1, 1) := by decide +kernel
theorem dX4_latestSeen_5 : decode cX4_latestSeen 5 = .ok (.isub, 1) := by decide +kernel
theorem dX4_latestSeen_6 : decode cX4_latestSeen 6 = .ok (.istore 4, 2) := by decide +kernel
theorem dX4_latestSeen_8 : decode cX4_latestSeen 8 = .ok (.iload 4, 2) := by decide +kernel
theorem dX4_latestSeen_10 : decode cX4_latestSeen 10 = .ok (.ifCond .lt 54, 3) := by decide +kernel
theorem dX4_latestSeen_13 : decode cX4_latestSeen 13 = .ok (.aload_n 0, 1) := by decide +kernel
theorem dX4_latestSeen_14 : decode cX4_latestSeen 14 = .ok (.getfield 19, 3) := by decide +kernel
theorem dX4_latestSeen_17 : decode cX4_latestSeen 17 = .ok (.aload_n 1, 1) := by decide +kernel
theorem dX4_latestSeen_18 : decode cX4_latestSeen 18 = .ok (.getfield 267, 3) := by decide +kernel
theorem dX4_latestSeen_21 : decode cX4_latestSeen 21 = .ok (.iload 4, 2) := by decide +kernel
theorem dX4_latestSeen_23 : decode cX4_latestSeen 23 = .ok (.iaload, 1) := by decide +kernel
theorem dX4_latestSeen_24 : decode cX4_latestSeen 24 = .ok (.invokevirtual 66, 3) := by decide +kernel
theorem dX4_latestSeen_27 : decode cX4_latestSeen 27 = .ok (.checkcast 59, 3) := by decide +kernel
theorem dX4_latestSeen_30 : decode cX4_latestSeen 30 = .ok (.astore 5, 2) := by decide +kernel
theorem dX4_latestSeen_32 : decode cX4_latestSeen 32 = .ok (.aload 5, 2) := by decide +kernel
theorem dX4_latestSeen_34 : decode cX4_latestSeen 34 = .ok (.iload_n 3, 1) := by decide +kernel
theorem dX4_latestSeen_35 : decode cX4_latestSeen 35 = .ok (.invokevirtual 88, 3) := by decide +kernel
theorem dX4_latestSeen_38 : decode cX4_latestSeen 38 = .ok (.ifCond .eq 20, 3) := by decide +kernel
theorem dX4_latestSeen_41 : decode cX4_latestSeen 41 = .ok (.aload 5, 2) := by decide +kernel
theorem dX4_latestSeen_43 : decode cX4_latestSeen 43 = .ok (.aload_n 2, 1) := by decide +kernel
theorem dX4_latestSeen_44 : decode cX4_latestSeen 44 = .ok (.invokevirtual 270, 3) := by decide +kernel
theorem dX4_latestSeen_47 : decode cX4_latestSeen 47 = .ok (.ifCond .eq 11, 3) := by decide +kernel
theorem dX4_latestSeen_50 : decode cX4_latestSeen 50 = .ok (.aload 5, 2) := by decide +kernel
theorem dX4_latestSeen_52 : decode cX4_latestSeen 52 = .ok (.getfield 92, 3) := by decide +kernel
theorem dX4_latestSeen_55 : decode cX4_latestSeen 55 = .ok (.iload_n 3, 1) := by decide +kernel
theorem dX4_latestSeen_56 : decode cX4_latestSeen 56 = .ok (.iaload, 1) := by decide +kernel
theorem dX4_latestSeen_57 : decode cX4_latestSeen 57 = .ok (.ireturn, 1) := by decide +kernel
theorem dX4_latestSeen_58 : decode cX4_latestSeen 58 = .ok (.iinc 4 (-1), 3) := by decide +kernel
theorem dX4_latestSeen_61 : decode cX4_latestSeen 61 = .ok (.goto (-53), 3) := by decide +kernel
theorem dX4_latestSeen_64 : decode cX4_latestSeen 64 = .ok (.iconst 0, 1) := by decide +kernel
theorem dX4_latestSeen_65 : decode cX4_latestSeen 65 = .ok (.ireturn, 1) := by decide +kernel
theorem dX4_changeSeen_0 : decode cX4_changeSeen 0 = .ok (.aload_n 0, 1) := by decide +kernel
theorem dX4_changeSeen_1 : decode cX4_changeSeen 1 = .ok (.getfield 11, 3) := by decide +kernel
theorem dX4_changeSeen_4 : decode cX4_changeSeen 4 = .ok (.aload_n 1, 1) := by decide +kernel
theorem dX4_changeSeen_5 : decode cX4_changeSeen 5 = .ok (.getfield 95, 3) := by decide +kernel
theorem dX4_changeSeen_8 : decode cX4_changeSeen 8 = .ok (.aaload, 1) := by decide +kernel
theorem dX4_changeSeen_9 : decode cX4_changeSeen 9 = .ok (.astore_n 3, 1) := by decide +kernel
theorem dX4_changeSeen_10 : decode cX4_changeSeen 10 = .ok (.iconst 0, 1) := by decide +kernel
theorem dX4_changeSeen_11 : decode cX4_changeSeen 11 = .ok (.istore 4, 2) := by decide +kernel
theorem dX4_changeSeen_13 : decode cX4_changeSeen 13 = .ok (.iconst 0, 1) := by decide +kernel
theorem dX4_changeSeen_14 : decode cX4_changeSeen 14 = .ok (.istore 5, 2) := by decide +kernel
theorem dX4_changeSeen_16 : decode cX4_changeSeen 16 = .ok (.iload 5, 2) := by decide +kernel
theorem dX4_changeSeen_18 : decode cX4_changeSeen 18 = .ok (.aload_n 3, 1) := by decide +kernel
theorem dX4_changeSeen_19 : decode cX4_changeSeen 19 = .ok (.getfield 264, 3) := by decide +kernel
theorem dX4_changeSeen_22 : decode cX4_changeSeen 22 = .ok (.if_icmp .ge 51, 3) := by decide +kernel
theorem dX4_changeSeen_25 : decode cX4_changeSeen 25 = .ok (.aload_n 0, 1) := by decide +kernel
theorem dX4_changeSeen_26 : decode cX4_changeSeen 26 = .ok (.getfield 19, 3) := by decide +kernel
theorem dX4_changeSeen_29 : decode cX4_changeSeen 29 = .ok (.aload_n 3, 1) := by decide +kernel
theorem dX4_changeSeen_30 : decode cX4_changeSeen 30 = .ok (.getfield 267, 3) := by decide +kernel
theorem dX4_changeSeen_33 : decode cX4_changeSeen 33 = .ok (.iload 5, 2) := by decide +kernel
theorem dX4_changeSeen_35 : decode cX4_changeSeen 35 = .ok (.iaload, 1) := by decide +kernel
theorem dX4_changeSeen_36 : decode cX4_changeSeen 36 = .ok (.invokevirtual 66, 3) := by decide +kernel
theorem dX4_changeSeen_39 : decode cX4_changeSeen 39 = .ok (.checkcast 59, 3) := by decide +kernel
theorem dX4_changeSeen_42 : decode cX4_changeSeen 42 = .ok (.astore 6, 2) := by decide +kernel
theorem dX4_changeSeen_44 : decode cX4_changeSeen 44 = .ok (.aload 6, 2) := by decide +kernel
theorem dX4_changeSeen_46 : decode cX4_changeSeen 46 = .ok (.aload_n 1, 1) := by decide +kernel
theorem dX4_changeSeen_47 : decode cX4_changeSeen 47 = .ok (.getfield 98, 3) := by decide +kernel
theorem dX4_changeSeen_50 : decode cX4_changeSeen 50 = .ok (.invokevirtual 270, 3) := by decide +kernel
theorem dX4_changeSeen_53 : decode cX4_changeSeen 53 = .ok (.ifCond .eq 14, 3) := by decide +kernel
theorem dX4_changeSeen_56 : decode cX4_changeSeen 56 = .ok (.iload 4, 2) := by decide +kernel
theorem dX4_changeSeen_58 : decode cX4_changeSeen 58 = .ok (.aload 6, 2) := by decide +kernel
theorem dX4_changeSeen_60 : decode cX4_changeSeen 60 = .ok (.iload_n 2, 1) := by decide +kernel
theorem dX4_changeSeen_61 : decode cX4_changeSeen 61 = .ok (.invokevirtual 128, 3) := by decide +kernel
theorem dX4_changeSeen_64 : decode cX4_changeSeen 64 = .ok (.iadd, 1) := by decide +kernel
theorem dX4_changeSeen_65 : decode cX4_changeSeen 65 = .ok (.istore 4, 2) := by decide +kernel
theorem dX4_changeSeen_67 : decode cX4_changeSeen 67 = .ok (.iinc 5 1, 3) := by decide +kernel
theorem dX4_changeSeen_70 : decode cX4_changeSeen 70 = .ok (.goto (-54), 3) := by decide +kernel
theorem dX4_changeSeen_73 : decode cX4_changeSeen 73 = .ok (.iload 4, 2) := by decide +kernel
theorem dX4_changeSeen_75 : decode cX4_changeSeen 75 = .ok (.ireturn, 1) := by decide +kernel
theorem dX4_isFitAt_0 : decode cX4_isFitAt 0 = .ok (.iconst 0, 1) := by decide +kernel
theorem dX4_isFitAt_1 : decode cX4_isFitAt 1 = .ok (.istore_n 3, 1) := by decide +kernel
theorem dX4_isFitAt_2 : decode cX4_isFitAt 2 = .ok (.iload_n 3, 1) := by decide +kernel
theorem dX4_isFitAt_3 : decode cX4_isFitAt 3 = .ok (.bipush 20, 2) := by decide +kernel
theorem dX4_isFitAt_5 : decode cX4_isFitAt 5 = .ok (.if_icmp .ge 36, 3) := by decide +kernel
theorem dX4_isFitAt_8 : decode cX4_isFitAt 8 = .ok (.aload_n 0, 1) := by decide +kernel
theorem dX4_isFitAt_9 : decode cX4_isFitAt 9 = .ok (.aload_n 1, 1) := by decide +kernel
theorem dX4_isFitAt_10 : decode cX4_isFitAt 10 = .ok (.iload_n 3, 1) := by decide +kernel
theorem dX4_isFitAt_11 : decode cX4_isFitAt 11 = .ok (.iload_n 2, 1) := by decide +kernel
theorem dX4_isFitAt_12 : decode cX4_isFitAt 12 = .ok (.invokevirtual 274, 3) := by decide +kernel
theorem dX4_isFitAt_15 : decode cX4_isFitAt 15 = .ok (.ifCond .eq 20, 3) := by decide +kernel
theorem dX4_isFitAt_18 : decode cX4_isFitAt 18 = .ok (.aload_n 0, 1) := by decide +kernel
theorem dX4_isFitAt_19 : decode cX4_isFitAt 19 = .ok (.aload_n 1, 1) := by decide +kernel
theorem dX4_isFitAt_20 : decode cX4_isFitAt 20 = .ok (.iload_n 3, 1) := by decide +kernel
theorem dX4_isFitAt_21 : decode cX4_isFitAt 21 = .ok (.aload_n 0, 1) := by decide +kernel
theorem dX4_isFitAt_22 : decode cX4_isFitAt 22 = .ok (.getfield 11, 3) := by decide +kernel
theorem dX4_isFitAt_25 : decode cX4_isFitAt 25 = .ok (.iload_n 2, 1) := by decide +kernel
theorem dX4_isFitAt_26 : decode cX4_isFitAt 26 = .ok (.aaload, 1) := by decide +kernel
theorem dX4_isFitAt_27 : decode cX4_isFitAt 27 = .ok (.invokevirtual 278, 3) := by decide +kernel
theorem dX4_isFitAt_30 : decode cX4_isFitAt 30 = .ok (.ifCond .ne 5, 3) := by decide +kernel
theorem dX4_isFitAt_33 : decode cX4_isFitAt 33 = .ok (.iconst 0, 1) := by decide +kernel
theorem dX4_isFitAt_34 : decode cX4_isFitAt 34 = .ok (.ireturn, 1) := by decide +kernel
theorem dX4_isFitAt_35 : decode cX4_isFitAt 35 = .ok (.iinc 3 1, 3) := by decide +kernel
theorem dX4_isFitAt_38 : decode cX4_isFitAt 38 = .ok (.goto (-36), 3) := by decide +kernel
theorem dX4_isFitAt_41 : decode cX4_isFitAt 41 = .ok (.iconst 1, 1) := by decide +kernel
theorem dX4_isFitAt_42 : decode cX4_isFitAt 42 = .ok (.ireturn, 1) := by decide +kernel
theorem dX4_isObjectFit_0 : decode cX4_isObjectFit 0 = .ok (.aload_n 3, 1) := by decide +kernel
theorem dX4_isObjectFit_1 : decode cX4_isObjectFit 1 = .ok (.getfield 235, 3) := by decide +kernel
theorem dX4_isObjectFit_4 : decode cX4_isObjectFit 4 = .ok (.iload_n 2, 1) := by decide +kernel
theorem dX4_isObjectFit_5 : decode cX4_isObjectFit 5 = .ok (.iaload, 1) := by decide +kernel
theorem dX4_isObjectFit_6 : decode cX4_isObjectFit 6 = .ok (.istore 4, 2) := by decide +kernel
theorem dX4_isObjectFit_8 : decode cX4_isObjectFit 8 = .ok (.iload 4, 2) := by decide +kernel
theorem dX4_isObjectFit_10 : decode cX4_isObjectFit 10 = .ok (.iconst (-1), 1) := by decide +kernel
theorem dX4_isObjectFit_11 : decode cX4_isObjectFit 11 = .ok (.if_icmp .eq 14, 3) := by decide +kernel
theorem dX4_isObjectFit_14 : decode cX4_isObjectFit 14 = .ok (.iload 4, 2) := by decide +kernel
theorem dX4_isObjectFit_16 : decode cX4_isObjectFit 16 = .ok (.aload_n 1, 1) := by decide +kernel
theorem dX4_isObjectFit_17 : decode cX4_isObjectFit 17 = .ok (.getfield 282, 3) := by decide +kernel
theorem dX4_isObjectFit_20 : decode cX4_isObjectFit 20 = .ok (.if_icmp .eq 5, 3) := by decide +kernel
theorem dX4_isObjectFit_23 : decode cX4_isObjectFit 23 = .ok (.iconst 0, 1) := by decide +kernel
theorem dX4_isObjectFit_24 : decode cX4_isObjectFit 24 = .ok (.ireturn, 1) := by decide +kernel
theorem dX4_isObjectFit_25 : decode cX4_isObjectFit 25 = .ok (.iconst 0, 1) := by decide +kernel
theorem dX4_isObjectFit_26 : decode cX4_isObjectFit 26 = .ok (.istore 5, 2) := by decide +kernel
theorem dX4_isObjectFit_28 : decode cX4_isObjectFit 28 = .ok (.iload 5, 2) := by decide +kernel
theorem dX4_isObjectFit_30 : decode cX4_isObjectFit 30 = .ok (.aload_n 3, 1) := by decide +kernel
theorem dX4_isObjectFit_31 : decode cX4_isObjectFit 31 = .ok (.getfield 264, 3) := by decide +kernel
theorem dX4_isObjectFit_34 : decode cX4_isObjectFit 34 = .ok (.if_icmp .ge 51, 3) := by decide +kernel
theorem dX4_isObjectFit_37 : decode cX4_isObjectFit 37 = .ok (.aload_n 0, 1) := by decide +kernel
theorem dX4_isObjectFit_38 : decode cX4_isObjectFit 38 = .ok (.getfield 19, 3) := by decide +kernel
theorem dX4_isObjectFit_41 : decode cX4_isObjectFit 41 = .ok (.aload_n 3, 1) := by decide +kernel
theorem dX4_isObjectFit_42 : decode cX4_isObjectFit 42 = .ok (.getfield 267, 3) := by decide +kernel
theorem dX4_isObjectFit_45 : decode cX4_isObjectFit 45 = .ok (.iload 5, 2) := by decide +kernel
theorem dX4_isObjectFit_47 : decode cX4_isObjectFit 47 = .ok (.iaload, 1) := by decide +kernel
theorem dX4_isObjectFit_48 : decode cX4_isObjectFit 48 = .ok (.invokevirtual 66, 3) := by decide +kernel
theorem dX4_isObjectFit_51 : decode cX4_isObjectFit 51 = .ok (.checkcast 59, 3) := by decide +kernel
theorem dX4_isObjectFit_54 : decode cX4_isObjectFit 54 = .ok (.astore 6, 2) := by decide +kernel
theorem dX4_isObjectFit_56 : decode cX4_isObjectFit 56 = .ok (.aload 6, 2) := by decide +kernel
theorem dX4_isObjectFit_58 : decode cX4_isObjectFit 58 = .ok (.iload_n 2, 1) := by decide +kernel
theorem dX4_isObjectFit_59 : decode cX4_isObjectFit 59 = .ok (.invokevirtual 88, 3) := by decide +kernel
theorem dX4_isObjectFit_62 : decode cX4_isObjectFit 62 = .ok (.ifCond .eq 17, 3) := by decide +kernel
theorem dX4_isObjectFit_65 : decode cX4_isObjectFit 65 = .ok (.aload 6, 2) := by decide +kernel
theorem dX4_isObjectFit_67 : decode cX4_isObjectFit 67 = .ok (.aload_n 1, 1) := by decide +kernel
theorem dX4_isObjectFit_68 : decode cX4_isObjectFit 68 = .ok (.getfield 98, 3) := by decide +kernel
theorem dX4_isObjectFit_71 : decode cX4_isObjectFit 71 = .ok (.invokevirtual 270, 3) := by decide +kernel
theorem dX4_isObjectFit_74 : decode cX4_isObjectFit 74 = .ok (.ifCond .ne 5, 3) := by decide +kernel
theorem dX4_isObjectFit_77 : decode cX4_isObjectFit 77 = .ok (.iconst 0, 1) := by decide +kernel
theorem dX4_isObjectFit_78 : decode cX4_isObjectFit 78 = .ok (.ireturn, 1) := by decide +kernel
theorem dX4_isObjectFit_79 : decode cX4_isObjectFit 79 = .ok (.iinc 5 1, 3) := by decide +kernel
theorem dX4_isObjectFit_82 : decode cX4_isObjectFit 82 = .ok (.goto (-54), 3) := by decide +kernel
theorem dX4_isObjectFit_85 : decode cX4_isObjectFit 85 = .ok (.iconst 1, 1) := by decide +kernel
theorem dX4_isObjectFit_86 : decode cX4_isObjectFit 86 = .ok (.ireturn, 1) := by decide +kernel
theorem dX4_lockAt_0 : decode cX4_lockAt 0 = .ok (.iconst 0, 1) := by decide +kernel
theorem dX4_lockAt_1 : decode cX4_lockAt 1 = .ok (.istore_n 3, 1) := by decide +kernel
theorem dX4_lockAt_2 : decode cX4_lockAt 2 = .ok (.iload_n 3, 1) := by decide +kernel
theorem dX4_lockAt_3 : decode cX4_lockAt 3 = .ok (.bipush 20, 2) := by decide +kernel
theorem dX4_lockAt_5 : decode cX4_lockAt 5 = .ok (.if_icmp .ge 34, 3) := by decide +kernel
theorem dX4_lockAt_8 : decode cX4_lockAt 8 = .ok (.aload_n 0, 1) := by decide +kernel
theorem dX4_lockAt_9 : decode cX4_lockAt 9 = .ok (.aload_n 1, 1) := by decide +kernel
theorem dX4_lockAt_10 : decode cX4_lockAt 10 = .ok (.iload_n 3, 1) := by decide +kernel
theorem dX4_lockAt_11 : decode cX4_lockAt 11 = .ok (.iload_n 2, 1) := by decide +kernel
theorem dX4_lockAt_12 : decode cX4_lockAt 12 = .ok (.invokevirtual 274, 3) := by decide +kernel
theorem dX4_lockAt_15 : decode cX4_lockAt 15 = .ok (.ifCond .eq 18, 3) := by decide +kernel
theorem dX4_lockAt_18 : decode cX4_lockAt 18 = .ok (.aload_n 0, 1) := by decide +kernel
theorem dX4_lockAt_19 : decode cX4_lockAt 19 = .ok (.getfield 11, 3) := by decide +kernel
theorem dX4_lockAt_22 : decode cX4_lockAt 22 = .ok (.iload_n 2, 1) := by decide +kernel
theorem dX4_lockAt_23 : decode cX4_lockAt 23 = .ok (.aaload, 1) := by decide +kernel
theorem dX4_lockAt_24 : decode cX4_lockAt 24 = .ok (.getfield 235, 3) := by decide +kernel
theorem dX4_lockAt_27 : decode cX4_lockAt 27 = .ok (.iload_n 3, 1) := by decide +kernel
theorem dX4_lockAt_28 : decode cX4_lockAt 28 = .ok (.aload_n 1, 1) := by decide +kernel
theorem dX4_lockAt_29 : decode cX4_lockAt 29 = .ok (.getfield 282, 3) := by decide +kernel
theorem dX4_lockAt_32 : decode cX4_lockAt 32 = .ok (.iastore, 1) := by decide +kernel
theorem dX4_lockAt_33 : decode cX4_lockAt 33 = .ok (.iinc 3 1, 3) := by decide +kernel
theorem dX4_lockAt_36 : decode cX4_lockAt 36 = .ok (.goto (-34), 3) := by decide +kernel
theorem dX4_lockAt_39 : decode cX4_lockAt 39 = .ok (.return_, 1) := by decide +kernel
theorem dX4_makeWaiting_0 : decode cX4_makeWaiting 0 = .ok (.aload_n 0, 1) := by decide +kernel
theorem dX4_makeWaiting_1 : decode cX4_makeWaiting 1 = .ok (.aload_n 1, 1) := by decide +kernel
theorem dX4_makeWaiting_2 : decode cX4_makeWaiting 2 = .ok (.aload_n 1, 1) := by decide +kernel
theorem dX4_makeWaiting_3 : decode cX4_makeWaiting 3 = .ok (.getfield 95, 3) := by decide +kernel
theorem dX4_makeWaiting_6 : decode cX4_makeWaiting 6 = .ok (.invokevirtual 285, 3) := by decide +kernel
theorem dX4_makeWaiting_9 : decode cX4_makeWaiting 9 = .ok (.aload_n 1, 1) := by decide +kernel
theorem dX4_makeWaiting_10 : decode cX4_makeWaiting 10 = .ok (.iconst 1, 1) := by decide +kernel
theorem dX4_makeWaiting_11 : decode cX4_makeWaiting 11 = .ok (.putfield 147, 3) := by decide +kernel
theorem dX4_makeWaiting_14 : decode cX4_makeWaiting 14 = .ok (.aload_n 1, 1) := by decide +kernel
theorem dX4_makeWaiting_15 : decode cX4_makeWaiting 15 = .ok (.iload_n 2, 1) := by decide +kernel
theorem dX4_makeWaiting_16 : decode cX4_makeWaiting 16 = .ok (.putfield 157, 3) := by decide +kernel
theorem dX4_makeWaiting_19 : decode cX4_makeWaiting 19 = .ok (.aload_n 0, 1) := by decide +kernel
theorem dX4_makeWaiting_20 : decode cX4_makeWaiting 20 = .ok (.iconst 1, 1) := by decide +kernel
theorem dX4_makeWaiting_21 : decode cX4_makeWaiting 21 = .ok (.aload_n 1, 1) := by decide +kernel
theorem dX4_makeWaiting_22 : decode cX4_makeWaiting 22 = .ok (.iload_n 2, 1) := by decide +kernel
theorem dX4_makeWaiting_23 : decode cX4_makeWaiting 23 = .ok (.invokevirtual 163, 3) := by decide +kernel
theorem dX4_makeWaiting_26 : decode cX4_makeWaiting 26 = .ok (.pop, 1) := by decide +kernel
theorem dX4_makeWaiting_27 : decode cX4_makeWaiting 27 = .ok (.return_, 1) := by decide +kernel
theorem dX4_makeCommitted_0 : decode cX4_makeCommitted 0 = .ok (.aload_n 1, 1) := by decide +kernel
theorem dX4_makeCommitted_1 : decode cX4_makeCommitted 1 = .ok (.iconst 2, 1) := by decide +kernel
theorem dX4_makeCommitted_2 : decode cX4_makeCommitted 2 = .ok (.putfield 147, 3) := by decide +kernel
theorem dX4_makeCommitted_5 : decode cX4_makeCommitted 5 = .ok (.aload_n 1, 1) := by decide +kernel
theorem dX4_makeCommitted_6 : decode cX4_makeCommitted 6 = .ok (.aload_n 0, 1) := by decide +kernel
theorem dX4_makeCommitted_7 : decode cX4_makeCommitted 7 = .ok (.getfield 11, 3) := by decide +kernel
theorem dX4_makeCommitted_10 : decode cX4_makeCommitted 10 = .ok (.aload_n 1, 1) := by decide +kernel
theorem dX4_makeCommitted_11 : decode cX4_makeCommitted 11 = .ok (.getfield 95, 3) := by decide +kernel
theorem dX4_makeCommitted_14 : decode cX4_makeCommitted 14 = .ok (.aaload, 1) := by decide +kernel
theorem dX4_makeCommitted_15 : decode cX4_makeCommitted 15 = .ok (.getfield 70, 3) := by decide +kernel
theorem dX4_makeCommitted_18 : decode cX4_makeCommitted 18 = .ok (.aload_n 1, 1) := by decide +kernel
theorem dX4_makeCommitted_19 : decode cX4_makeCommitted 19 = .ok (.getfield 95, 3) := by decide +kernel
theorem dX4_makeCommitted_22 : decode cX4_makeCommitted 22 = .ok (.iaload, 1) := by decide +kernel
theorem dX4_makeCommitted_23 : decode cX4_makeCommitted 23 = .ok (.iconst 1, 1) := by decide +kernel
theorem dX4_makeCommitted_24 : decode cX4_makeCommitted 24 = .ok (.iadd, 1) := by decide +kernel
theorem dX4_makeCommitted_25 : decode cX4_makeCommitted 25 = .ok (.putfield 220, 3) := by decide +kernel
theorem dX4_makeCommitted_28 : decode cX4_makeCommitted 28 = .ok (.aload_n 0, 1) := by decide +kernel
theorem dX4_makeCommitted_29 : decode cX4_makeCommitted 29 = .ok (.aload_n 1, 1) := by decide +kernel
theorem dX4_makeCommitted_30 : decode cX4_makeCommitted 30 = .ok (.aload_n 1, 1) := by decide +kernel
theorem dX4_makeCommitted_31 : decode cX4_makeCommitted 31 = .ok (.getfield 95, 3) := by decide +kernel
theorem dX4_makeCommitted_34 : decode cX4_makeCommitted 34 = .ok (.invokevirtual 288, 3) := by decide +kernel
theorem dX4_makeCommitted_37 : decode cX4_makeCommitted 37 = .ok (.aload_n 0, 1) := by decide +kernel
theorem dX4_makeCommitted_38 : decode cX4_makeCommitted 38 = .ok (.iconst 5, 1) := by decide +kernel
theorem dX4_makeCommitted_39 : decode cX4_makeCommitted 39 = .ok (.aload_n 1, 1) := by decide +kernel
theorem dX4_makeCommitted_40 : decode cX4_makeCommitted 40 = .ok (.aload_n 0, 1) := by decide +kernel
theorem dX4_makeCommitted_41 : decode cX4_makeCommitted 41 = .ok (.invokevirtual 167, 3) := by decide +kernel
theorem dX4_makeCommitted_44 : decode cX4_makeCommitted 44 = .ok (.aload_n 1, 1) := by decide +kernel
theorem dX4_makeCommitted_45 : decode cX4_makeCommitted 45 = .ok (.getfield 95, 3) := by decide +kernel
theorem dX4_makeCommitted_48 : decode cX4_makeCommitted 48 = .ok (.invokestatic 140, 3) := by decide +kernel
theorem dX4_makeCommitted_51 : decode cX4_makeCommitted 51 = .ok (.iconst (-1), 1) := by decide +kernel
theorem dX4_makeCommitted_52 : decode cX4_makeCommitted 52 = .ok (.ixor, 1) := by decide +kernel
theorem dX4_makeCommitted_53 : decode cX4_makeCommitted 53 = .ok (.iand, 1) := by decide +kernel
theorem dX4_makeCommitted_54 : decode cX4_makeCommitted 54 = .ok (.invokevirtual 163, 3) := by decide +kernel
theorem dX4_makeCommitted_57 : decode cX4_makeCommitted 57 = .ok (.pop, 1) := by decide +kernel
theorem dX4_makeCommitted_58 : decode cX4_makeCommitted 58 = .ok (.return_, 1) := by decide +kernel
theorem dX4_applyAt_0 : decode cX4_applyAt 0 = .ok (.aload_n 0, 1) := by decide +kernel
theorem dX4_applyAt_1 : decode cX4_applyAt 1 = .ok (.getfield 11, 3) := by decide +kernel
theorem dX4_applyAt_4 : decode cX4_applyAt 4 = .ok (.iload_n 2, 1) := by decide +kernel
theorem dX4_applyAt_5 : decode cX4_applyAt 5 = .ok (.aaload, 1) := by decide +kernel
theorem dX4_applyAt_6 : decode cX4_applyAt 6 = .ok (.aload_n 1, 1) := by decide +kernel
theorem dX4_applyAt_7 : decode cX4_applyAt 7 = .ok (.invokevirtual 291, 3) := by decide +kernel
theorem dX4_applyAt_10 : decode cX4_applyAt 10 = .ok (.aload_n 1, 1) := by decide +kernel
theorem dX4_applyAt_11 : decode cX4_applyAt 11 = .ok (.dup, 1) := by decide +kernel
theorem dX4_applyAt_12 : decode cX4_applyAt 12 = .ok (.getfield 170, 3) := by decide +kernel
theorem dX4_applyAt_15 : decode cX4_applyAt 15 = .ok (.iload_n 2, 1) := by decide +kernel
theorem dX4_applyAt_16 : decode cX4_applyAt 16 = .ok (.invokestatic 140, 3) := by decide +kernel
theorem dX4_applyAt_19 : decode cX4_applyAt 19 = .ok (.ior, 1) := by decide +kernel
theorem dX4_applyAt_20 : decode cX4_applyAt 20 = .ok (.putfield 170, 3) := by decide +kernel
theorem dX4_applyAt_23 : decode cX4_applyAt 23 = .ok (.aload_n 1, 1) := by decide +kernel
theorem dX4_applyAt_24 : decode cX4_applyAt 24 = .ok (.dup, 1) := by decide +kernel
theorem dX4_applyAt_25 : decode cX4_applyAt 25 = .ok (.getfield 208, 3) := by decide +kernel
theorem dX4_applyAt_28 : decode cX4_applyAt 28 = .ok (.iload_n 2, 1) := by decide +kernel
theorem dX4_applyAt_29 : decode cX4_applyAt 29 = .ok (.invokestatic 140, 3) := by decide +kernel
theorem dX4_applyAt_32 : decode cX4_applyAt 32 = .ok (.iconst (-1), 1) := by decide +kernel
theorem dX4_applyAt_33 : decode cX4_applyAt 33 = .ok (.ixor, 1) := by decide +kernel
theorem dX4_applyAt_34 : decode cX4_applyAt 34 = .ok (.iand, 1) := by decide +kernel
theorem dX4_applyAt_35 : decode cX4_applyAt 35 = .ok (.putfield 208, 3) := by decide +kernel
theorem dX4_applyAt_38 : decode cX4_applyAt 38 = .ok (.return_, 1) := by decide +kernel
theorem dX4_giveUpLocks_0 : decode cX4_giveUpLocks 0 = .ok (.aload_n 0, 1) := by decide +kernel
theorem dX4_giveUpLocks_1 : decode cX4_giveUpLocks 1 = .ok (.getfield 11, 3) := by decide +kernel
theorem dX4_giveUpLocks_4 : decode cX4_giveUpLocks 4 = .ok (.aload_n 1, 1) := by decide +kernel
theorem dX4_giveUpLocks_5 : decode cX4_giveUpLocks 5 = .ok (.getfield 95, 3) := by decide +kernel
theorem dX4_giveUpLocks_8 : decode cX4_giveUpLocks 8 = .ok (.aaload, 1) := by decide +kernel
theorem dX4_giveUpLocks_9 : decode cX4_giveUpLocks 9 = .ok (.aload_n 1, 1) := by decide +kernel
theorem dX4_giveUpLocks_10 : decode cX4_giveUpLocks 10 = .ok (.getfield 282, 3) := by decide +kernel
theorem dX4_giveUpLocks_13 : decode cX4_giveUpLocks 13 = .ok (.invokevirtual 294, 3) := by decide +kernel
theorem dX4_giveUpLocks_16 : decode cX4_giveUpLocks 16 = .ok (.aload_n 0, 1) := by decide +kernel
theorem dX4_giveUpLocks_17 : decode cX4_giveUpLocks 17 = .ok (.iconst 4, 1) := by decide +kernel
theorem dX4_giveUpLocks_18 : decode cX4_giveUpLocks 18 = .ok (.aload_n 1, 1) := by decide +kernel
theorem dX4_giveUpLocks_19 : decode cX4_giveUpLocks 19 = .ok (.aload_n 1, 1) := by decide +kernel
theorem dX4_giveUpLocks_20 : decode cX4_giveUpLocks 20 = .ok (.getfield 157, 3) := by decide +kernel
theorem dX4_giveUpLocks_23 : decode cX4_giveUpLocks 23 = .ok (.invokevirtual 163, 3) := by decide +kernel
theorem dX4_giveUpLocks_26 : decode cX4_giveUpLocks 26 = .ok (.pop, 1) := by decide +kernel
theorem dX4_giveUpLocks_27 : decode cX4_giveUpLocks 27 = .ok (.return_, 1) := by decide +kernel
theorem dX4_loseIfOpen_0 : decode cX4_loseIfOpen 0 = .ok (.aload_n 0, 1) := by decide +kernel
theorem dX4_loseIfOpen_1 : decode cX4_loseIfOpen 1 = .ok (.getfield 147, 3) := by decide +kernel
theorem dX4_loseIfOpen_4 : decode cX4_loseIfOpen 4 = .ok (.ifCond .eq 11, 3) := by decide +kernel
theorem dX4_loseIfOpen_7 : decode cX4_loseIfOpen 7 = .ok (.aload_n 0, 1) := by decide +kernel
theorem dX4_loseIfOpen_8 : decode cX4_loseIfOpen 8 = .ok (.getfield 147, 3) := by decide +kernel
theorem dX4_loseIfOpen_11 : decode cX4_loseIfOpen 11 = .ok (.iconst 1, 1) := by decide +kernel
theorem dX4_loseIfOpen_12 : decode cX4_loseIfOpen 12 = .ok (.if_icmp .ne 25, 3) := by decide +kernel
theorem dX4_loseIfOpen_15 : decode cX4_loseIfOpen 15 = .ok (.aload_n 0, 1) := by decide +kernel
theorem dX4_loseIfOpen_16 : decode cX4_loseIfOpen 16 = .ok (.aload_n 0, 1) := by decide +kernel
theorem dX4_loseIfOpen_17 : decode cX4_loseIfOpen 17 = .ok (.getfield 147, 3) := by decide +kernel
theorem dX4_loseIfOpen_20 : decode cX4_loseIfOpen 20 = .ok (.iconst 1, 1) := by decide +kernel
theorem dX4_loseIfOpen_21 : decode cX4_loseIfOpen 21 = .ok (.if_icmp .ne 7, 3) := by decide +kernel
theorem dX4_loseIfOpen_24 : decode cX4_loseIfOpen 24 = .ok (.iconst 1, 1) := by decide +kernel
theorem dX4_loseIfOpen_25 : decode cX4_loseIfOpen 25 = .ok (.goto 4, 3) := by decide +kernel
theorem dX4_loseIfOpen_28 : decode cX4_loseIfOpen 28 = .ok (.iconst 0, 1) := by decide +kernel
theorem dX4_loseIfOpen_29 : decode cX4_loseIfOpen 29 = .ok (.putfield 214, 3) := by decide +kernel
theorem dX4_loseIfOpen_32 : decode cX4_loseIfOpen 32 = .ok (.aload_n 0, 1) := by decide +kernel
theorem dX4_loseIfOpen_33 : decode cX4_loseIfOpen 33 = .ok (.iconst 4, 1) := by decide +kernel
theorem dX4_loseIfOpen_34 : decode cX4_loseIfOpen 34 = .ok (.putfield 147, 3) := by decide +kernel
theorem dX4_loseIfOpen_37 : decode cX4_loseIfOpen 37 = .ok (.return_, 1) := by decide +kernel
theorem dX4_sendToAll_0 : decode cX4_sendToAll 0 = .ok (.iconst 0, 1) := by decide +kernel
theorem dX4_sendToAll_1 : decode cX4_sendToAll 1 = .ok (.istore 4, 2) := by decide +kernel
theorem dX4_sendToAll_3 : decode cX4_sendToAll 3 = .ok (.iload 4, 2) := by decide +kernel
theorem dX4_sendToAll_5 : decode cX4_sendToAll 5 = .ok (.aload_n 0, 1) := by decide +kernel
theorem dX4_sendToAll_6 : decode cX4_sendToAll 6 = .ok (.getfield 251, 3) := by decide +kernel
theorem dX4_sendToAll_9 : decode cX4_sendToAll 9 = .ok (.if_icmp .ge 33, 3) := by decide +kernel
theorem dX4_sendToAll_12 : decode cX4_sendToAll 12 = .ok (.iload_n 3, 1) := by decide +kernel
theorem dX4_sendToAll_13 : decode cX4_sendToAll 13 = .ok (.iload 4, 2) := by decide +kernel
theorem dX4_sendToAll_15 : decode cX4_sendToAll 15 = .ok (.invokestatic 297, 3) := by decide +kernel
theorem dX4_sendToAll_18 : decode cX4_sendToAll 18 = .ok (.ifCond .eq 18, 3) := by decide +kernel
theorem dX4_sendToAll_21 : decode cX4_sendToAll 21 = .ok (.aload_n 0, 1) := by decide +kernel
theorem dX4_sendToAll_22 : decode cX4_sendToAll 22 = .ok (.iload_n 1, 1) := by decide +kernel
theorem dX4_sendToAll_23 : decode cX4_sendToAll 23 = .ok (.aload_n 2, 1) := by decide +kernel
theorem dX4_sendToAll_24 : decode cX4_sendToAll 24 = .ok (.getfield 95, 3) := by decide +kernel
theorem dX4_sendToAll_27 : decode cX4_sendToAll 27 = .ok (.iload 4, 2) := by decide +kernel
theorem dX4_sendToAll_29 : decode cX4_sendToAll 29 = .ok (.aload_n 2, 1) := by decide +kernel
theorem dX4_sendToAll_30 : decode cX4_sendToAll 30 = .ok (.getfield 282, 3) := by decide +kernel
theorem dX4_sendToAll_33 : decode cX4_sendToAll 33 = .ok (.invokevirtual 301, 3) := by decide +kernel
theorem dX4_sendToAll_36 : decode cX4_sendToAll 36 = .ok (.iinc 4 1, 3) := by decide +kernel
theorem dX4_sendToAll_39 : decode cX4_sendToAll 39 = .ok (.goto (-36), 3) := by decide +kernel
theorem dX4_sendToAll_42 : decode cX4_sendToAll 42 = .ok (.iload_n 3, 1) := by decide +kernel
theorem dX4_sendToAll_43 : decode cX4_sendToAll 43 = .ok (.invokestatic 223, 3) := by decide +kernel
theorem dX4_sendToAll_46 : decode cX4_sendToAll 46 = .ok (.ireturn, 1) := by decide +kernel
theorem dX4_send_0 : decode cX4_send 0 = .ok (.aload_n 0, 1) := by decide +kernel
theorem dX4_send_1 : decode cX4_send 1 = .ok (.dup, 1) := by decide +kernel
theorem dX4_send_2 : decode cX4_send 2 = .ok (.getfield 238, 3) := by decide +kernel
theorem dX4_send_5 : decode cX4_send 5 = .ok (.iconst 1, 1) := by decide +kernel
theorem dX4_send_6 : decode cX4_send 6 = .ok (.iadd, 1) := by decide +kernel
theorem dX4_send_7 : decode cX4_send 7 = .ok (.putfield 238, 3) := by decide +kernel
theorem dX4_send_10 : decode cX4_send 10 = .ok (.aload_n 0, 1) := by decide +kernel
theorem dX4_send_11 : decode cX4_send 11 = .ok (.invokevirtual 194, 3) := by decide +kernel
theorem dX4_send_14 : decode cX4_send 14 = .ok (.ifCond .eq 23, 3) := by decide +kernel
theorem dX4_send_17 : decode cX4_send 17 = .ok (.aload_n 0, 1) := by decide +kernel
theorem dX4_send_18 : decode cX4_send 18 = .ok (.getfield 23, 3) := by decide +kernel
theorem dX4_send_21 : decode cX4_send 21 = .ok (.new 179, 3) := by decide +kernel
theorem dX4_send_24 : decode cX4_send 24 = .ok (.dup, 1) := by decide +kernel
theorem dX4_send_25 : decode cX4_send 25 = .ok (.iload_n 1, 1) := by decide +kernel
theorem dX4_send_26 : decode cX4_send 26 = .ok (.iload_n 2, 1) := by decide +kernel
theorem dX4_send_27 : decode cX4_send 27 = .ok (.iload_n 3, 1) := by decide +kernel
theorem dX4_send_28 : decode cX4_send 28 = .ok (.iload 4, 2) := by decide +kernel
theorem dX4_send_30 : decode cX4_send 30 = .ok (.invokespecial 305, 3) := by decide +kernel
theorem dX4_send_33 : decode cX4_send 33 = .ok (.invokevirtual 62, 3) := by decide +kernel
theorem dX4_send_36 : decode cX4_send 36 = .ok (.pop, 1) := by decide +kernel
theorem dX4_send_37 : decode cX4_send 37 = .ok (.return_, 1) := by decide +kernel
theorem dX4_hasRoom_0 : decode cX4_hasRoom 0 = .ok (.aload_n 0, 1) := by decide +kernel
theorem dX4_hasRoom_1 : decode cX4_hasRoom 1 = .ok (.getfield 23, 3) := by decide +kernel
theorem dX4_hasRoom_4 : decode cX4_hasRoom 4 = .ok (.invokevirtual 55, 3) := by decide +kernel
theorem dX4_hasRoom_7 : decode cX4_hasRoom 7 = .ok (.sipush 300, 3) := by decide +kernel
theorem dX4_hasRoom_10 : decode cX4_hasRoom 10 = .ok (.if_icmp .ge 7, 3) := by decide +kernel
theorem dX4_hasRoom_13 : decode cX4_hasRoom 13 = .ok (.iconst 1, 1) := by decide +kernel
theorem dX4_hasRoom_14 : decode cX4_hasRoom 14 = .ok (.goto 4, 3) := by decide +kernel
theorem dX4_hasRoom_17 : decode cX4_hasRoom 17 = .ok (.iconst 0, 1) := by decide +kernel
theorem dX4_hasRoom_18 : decode cX4_hasRoom 18 = .ok (.ireturn, 1) := by decide +kernel
theorem dX4_handOver_0 : decode cX4_handOver 0 = .ok (.aload_n 1, 1) := by decide +kernel
theorem dX4_handOver_1 : decode cX4_handOver 1 = .ok (.invokevirtual 191, 3) := by decide +kernel
theorem dX4_handOver_4 : decode cX4_handOver 4 = .ok (.tableswitch 71 1 4 #[32, 43, 53, 60], 32) := by decide +kernel
theorem dX4_handOver_36 : decode cX4_handOver 36 = .ok (.aload_n 0, 1) := by decide +kernel
theorem dX4_handOver_37 : decode cX4_handOver 37 = .ok (.aload_n 2, 1) := by decide +kernel
theorem dX4_handOver_38 : decode cX4_handOver 38 = .ok (.aload_n 1, 1) := by decide +kernel
