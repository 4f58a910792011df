theorem dX4_handOver_39 : decode cX4_handOver 39 = .ok (.invokevirtual 181, 3) := by decide +kernel
theorem dX4_handOver_42 : decode cX4_handOver 42 = .ok (.invokevirtual 307, 3) := by decide +kernel
theorem dX4_handOver_45 : decode cX4_handOver 45 = .ok (.iconst 0, 1) := by decide +kernel
theorem dX4_handOver_46 : decode cX4_handOver 46 = .ok (.ireturn, 1) := by decide +kernel
theorem dX4_handOver_47 : decode cX4_handOver 47 = .ok (.aload_n 0, 1) := by decide +kernel
theorem dX4_handOver_48 : decode cX4_handOver 48 = .ok (.aload_n 2, 1) := by decide +kernel
theorem dX4_handOver_49 : decode cX4_handOver 49 = .ok (.aload_n 1, 1) := by decide +kernel
theorem dX4_handOver_50 : decode cX4_handOver 50 = .ok (.invokevirtual 310, 3) := by decide +kernel
theorem dX4_handOver_53 : decode cX4_handOver 53 = .ok (.invokevirtual 313, 3) := by decide +kernel
theorem dX4_handOver_56 : decode cX4_handOver 56 = .ok (.ireturn, 1) := by decide +kernel
theorem dX4_handOver_57 : decode cX4_handOver 57 = .ok (.aload_n 0, 1) := by decide +kernel
theorem dX4_handOver_58 : decode cX4_handOver 58 = .ok (.aload_n 2, 1) := by decide +kernel
theorem dX4_handOver_59 : decode cX4_handOver 59 = .ok (.invokevirtual 316, 3) := by decide +kernel
theorem dX4_handOver_62 : decode cX4_handOver 62 = .ok (.iconst 0, 1) := by decide +kernel
theorem dX4_handOver_63 : decode cX4_handOver 63 = .ok (.ireturn, 1) := by decide +kernel
theorem dX4_handOver_64 : decode cX4_handOver 64 = .ok (.aload_n 0, 1) := by decide +kernel
theorem dX4_handOver_65 : decode cX4_handOver 65 = .ok (.aload_n 2, 1) := by decide +kernel
theorem dX4_handOver_66 : decode cX4_handOver 66 = .ok (.aload_n 1, 1) := by decide +kernel
theorem dX4_handOver_67 : decode cX4_handOver 67 = .ok (.invokevirtual 181, 3) := by decide +kernel
theorem dX4_handOver_70 : decode cX4_handOver 70 = .ok (.invokevirtual 319, 3) := by decide +kernel
theorem dX4_handOver_73 : decode cX4_handOver 73 = .ok (.iconst 0, 1) := by decide +kernel
theorem dX4_handOver_74 : decode cX4_handOver 74 = .ok (.ireturn, 1) := by decide +kernel
theorem dX4_handOver_75 : decode cX4_handOver 75 = .ok (.aload_n 0, 1) := by decide +kernel
theorem dX4_handOver_76 : decode cX4_handOver 76 = .ok (.aload_n 2, 1) := by decide +kernel
theorem dX4_handOver_77 : decode cX4_handOver 77 = .ok (.aload_n 1, 1) := by decide +kernel
theorem dX4_handOver_78 : decode cX4_handOver 78 = .ok (.invokevirtual 181, 3) := by decide +kernel
theorem dX4_handOver_81 : decode cX4_handOver 81 = .ok (.invokevirtual 322, 3) := by decide +kernel
theorem dX4_handOver_84 : decode cX4_handOver 84 = .ok (.ireturn, 1) := by decide +kernel
theorem dX4_takeAsk_0 : decode cX4_takeAsk 0 = .ok (.aload_n 1, 1) := by decide +kernel
theorem dX4_takeAsk_1 : decode cX4_takeAsk 1 = .ok (.getfield 170, 3) := by decide +kernel
theorem dX4_takeAsk_4 : decode cX4_takeAsk 4 = .ok (.iload_n 2, 1) := by decide +kernel
theorem dX4_takeAsk_5 : decode cX4_takeAsk 5 = .ok (.invokestatic 297, 3) := by decide +kernel
theorem dX4_takeAsk_8 : decode cX4_takeAsk 8 = .ok (.ifCond .eq 4, 3) := by decide +kernel
theorem dX4_takeAsk_11 : decode cX4_takeAsk 11 = .ok (.return_, 1) := by decide +kernel
theorem dX4_takeAsk_12 : decode cX4_takeAsk 12 = .ok (.aload_n 1, 1) := by decide +kernel
theorem dX4_takeAsk_13 : decode cX4_takeAsk 13 = .ok (.getfield 325, 3) := by decide +kernel
theorem dX4_takeAsk_16 : decode cX4_takeAsk 16 = .ok (.iload_n 2, 1) := by decide +kernel
theorem dX4_takeAsk_17 : decode cX4_takeAsk 17 = .ok (.invokestatic 297, 3) := by decide +kernel
theorem dX4_takeAsk_20 : decode cX4_takeAsk 20 = .ok (.ifCond .ne 12, 3) := by decide +kernel
theorem dX4_takeAsk_23 : decode cX4_takeAsk 23 = .ok (.aload_n 0, 1) := by decide +kernel
theorem dX4_takeAsk_24 : decode cX4_takeAsk 24 = .ok (.aload_n 1, 1) := by decide +kernel
theorem dX4_takeAsk_25 : decode cX4_takeAsk 25 = .ok (.iload_n 2, 1) := by decide +kernel
theorem dX4_takeAsk_26 : decode cX4_takeAsk 26 = .ok (.invokevirtual 143, 3) := by decide +kernel
theorem dX4_takeAsk_29 : decode cX4_takeAsk 29 = .ok (.ifCond .ne 18, 3) := by decide +kernel
theorem dX4_takeAsk_32 : decode cX4_takeAsk 32 = .ok (.aload_n 0, 1) := by decide +kernel
theorem dX4_takeAsk_33 : decode cX4_takeAsk 33 = .ok (.iconst 3, 1) := by decide +kernel
theorem dX4_takeAsk_34 : decode cX4_takeAsk 34 = .ok (.iload_n 2, 1) := by decide +kernel
theorem dX4_takeAsk_35 : decode cX4_takeAsk 35 = .ok (.aload_n 1, 1) := by decide +kernel
theorem dX4_takeAsk_36 : decode cX4_takeAsk 36 = .ok (.getfield 95, 3) := by decide +kernel
theorem dX4_takeAsk_39 : decode cX4_takeAsk 39 = .ok (.aload_n 1, 1) := by decide +kernel
theorem dX4_takeAsk_40 : decode cX4_takeAsk 40 = .ok (.getfield 282, 3) := by decide +kernel
theorem dX4_takeAsk_43 : decode cX4_takeAsk 43 = .ok (.invokevirtual 301, 3) := by decide +kernel
theorem dX4_takeAsk_46 : decode cX4_takeAsk 46 = .ok (.return_, 1) := by decide +kernel
theorem dX4_takeAsk_47 : decode cX4_takeAsk 47 = .ok (.aload_n 0, 1) := by decide +kernel
theorem dX4_takeAsk_48 : decode cX4_takeAsk 48 = .ok (.aload_n 1, 1) := by decide +kernel
theorem dX4_takeAsk_49 : decode cX4_takeAsk 49 = .ok (.iload_n 2, 1) := by decide +kernel
theorem dX4_takeAsk_50 : decode cX4_takeAsk 50 = .ok (.invokevirtual 285, 3) := by decide +kernel
theorem dX4_takeAsk_53 : decode cX4_takeAsk 53 = .ok (.aload_n 0, 1) := by decide +kernel
theorem dX4_takeAsk_54 : decode cX4_takeAsk 54 = .ok (.iconst 2, 1) := by decide +kernel
theorem dX4_takeAsk_55 : decode cX4_takeAsk 55 = .ok (.iload_n 2, 1) := by decide +kernel
theorem dX4_takeAsk_56 : decode cX4_takeAsk 56 = .ok (.aload_n 1, 1) := by decide +kernel
theorem dX4_takeAsk_57 : decode cX4_takeAsk 57 = .ok (.getfield 95, 3) := by decide +kernel
theorem dX4_takeAsk_60 : decode cX4_takeAsk 60 = .ok (.aload_n 1, 1) := by decide +kernel
theorem dX4_takeAsk_61 : decode cX4_takeAsk 61 = .ok (.getfield 282, 3) := by decide +kernel
theorem dX4_takeAsk_64 : decode cX4_takeAsk 64 = .ok (.invokevirtual 301, 3) := by decide +kernel
theorem dX4_takeAsk_67 : decode cX4_takeAsk 67 = .ok (.return_, 1) := by decide +kernel
theorem dX4_takeYes_0 : decode cX4_takeYes 0 = .ok (.aload_n 1, 1) := by decide +kernel
theorem dX4_takeYes_1 : decode cX4_takeYes 1 = .ok (.getfield 147, 3) := by decide +kernel
theorem dX4_takeYes_4 : decode cX4_takeYes 4 = .ok (.iconst 1, 1) := by decide +kernel
theorem dX4_takeYes_5 : decode cX4_takeYes 5 = .ok (.if_icmp .eq 5, 3) := by decide +kernel
theorem dX4_takeYes_8 : decode cX4_takeYes 8 = .ok (.iconst 0, 1) := by decide +kernel
theorem dX4_takeYes_9 : decode cX4_takeYes 9 = .ok (.ireturn, 1) := by decide +kernel
theorem dX4_takeYes_10 : decode cX4_takeYes 10 = .ok (.aload_n 1, 1) := by decide +kernel
theorem dX4_takeYes_11 : decode cX4_takeYes 11 = .ok (.dup, 1) := by decide +kernel
theorem dX4_takeYes_12 : decode cX4_takeYes 12 = .ok (.getfield 160, 3) := by decide +kernel
theorem dX4_takeYes_15 : decode cX4_takeYes 15 = .ok (.iload_n 2, 1) := by decide +kernel
theorem dX4_takeYes_16 : decode cX4_takeYes 16 = .ok (.invokestatic 140, 3) := by decide +kernel
theorem dX4_takeYes_19 : decode cX4_takeYes 19 = .ok (.ior, 1) := by decide +kernel
theorem dX4_takeYes_20 : decode cX4_takeYes 20 = .ok (.putfield 160, 3) := by decide +kernel
theorem dX4_takeYes_23 : decode cX4_takeYes 23 = .ok (.aload_n 1, 1) := by decide +kernel
theorem dX4_takeYes_24 : decode cX4_takeYes 24 = .ok (.getfield 160, 3) := by decide +kernel
theorem dX4_takeYes_27 : decode cX4_takeYes 27 = .ok (.aload_n 1, 1) := by decide +kernel
theorem dX4_takeYes_28 : decode cX4_takeYes 28 = .ok (.getfield 157, 3) := by decide +kernel
theorem dX4_takeYes_31 : decode cX4_takeYes 31 = .ok (.if_icmp .eq 5, 3) := by decide +kernel
theorem dX4_takeYes_34 : decode cX4_takeYes 34 = .ok (.iconst 0, 1) := by decide +kernel
theorem dX4_takeYes_35 : decode cX4_takeYes 35 = .ok (.ireturn, 1) := by decide +kernel
theorem dX4_takeYes_36 : decode cX4_takeYes 36 = .ok (.aload_n 0, 1) := by decide +kernel
theorem dX4_takeYes_37 : decode cX4_takeYes 37 = .ok (.aload_n 1, 1) := by decide +kernel
theorem dX4_takeYes_38 : decode cX4_takeYes 38 = .ok (.invokevirtual 150, 3) := by decide +kernel
theorem dX4_takeYes_41 : decode cX4_takeYes 41 = .ok (.iconst 1, 1) := by decide +kernel
theorem dX4_takeYes_42 : decode cX4_takeYes 42 = .ok (.ireturn, 1) := by decide +kernel
theorem dX4_takeNo_0 : decode cX4_takeNo 0 = .ok (.aload_n 1, 1) := by decide +kernel
theorem dX4_takeNo_1 : decode cX4_takeNo 1 = .ok (.getfield 147, 3) := by decide +kernel
theorem dX4_takeNo_4 : decode cX4_takeNo 4 = .ok (.iconst 1, 1) := by decide +kernel
theorem dX4_takeNo_5 : decode cX4_takeNo 5 = .ok (.if_icmp .ne 13, 3) := by decide +kernel
theorem dX4_takeNo_8 : decode cX4_takeNo 8 = .ok (.aload_n 1, 1) := by decide +kernel
theorem dX4_takeNo_9 : decode cX4_takeNo 9 = .ok (.iconst 3, 1) := by decide +kernel
theorem dX4_takeNo_10 : decode cX4_takeNo 10 = .ok (.putfield 147, 3) := by decide +kernel
theorem dX4_takeNo_13 : decode cX4_takeNo 13 = .ok (.aload_n 0, 1) := by decide +kernel
theorem dX4_takeNo_14 : decode cX4_takeNo 14 = .ok (.aload_n 1, 1) := by decide +kernel
theorem dX4_takeNo_15 : decode cX4_takeNo 15 = .ok (.invokevirtual 217, 3) := by decide +kernel
theorem dX4_takeNo_18 : decode cX4_takeNo 18 = .ok (.return_, 1) := by decide +kernel
theorem dX4_takeFree_0 : decode cX4_takeFree 0 = .ok (.aload_n 0, 1) := by decide +kernel
theorem dX4_takeFree_1 : decode cX4_takeFree 1 = .ok (.getfield 11, 3) := by decide +kernel
theorem dX4_takeFree_4 : decode cX4_takeFree 4 = .ok (.iload_n 2, 1) := by decide +kernel
theorem dX4_takeFree_5 : decode cX4_takeFree 5 = .ok (.aaload, 1) := by decide +kernel
theorem dX4_takeFree_6 : decode cX4_takeFree 6 = .ok (.aload_n 1, 1) := by decide +kernel
theorem dX4_takeFree_7 : decode cX4_takeFree 7 = .ok (.getfield 282, 3) := by decide +kernel
theorem dX4_takeFree_10 : decode cX4_takeFree 10 = .ok (.invokevirtual 294, 3) := by decide +kernel
theorem dX4_takeFree_13 : decode cX4_takeFree 13 = .ok (.aload_n 1, 1) := by decide +kernel
theorem dX4_takeFree_14 : decode cX4_takeFree 14 = .ok (.dup, 1) := by decide +kernel
theorem dX4_takeFree_15 : decode cX4_takeFree 15 = .ok (.getfield 325, 3) := by decide +kernel
theorem dX4_takeFree_18 : decode cX4_takeFree 18 = .ok (.iload_n 2, 1) := by decide +kernel
theorem dX4_takeFree_19 : decode cX4_takeFree 19 = .ok (.invokestatic 140, 3) := by decide +kernel
theorem dX4_takeFree_22 : decode cX4_takeFree 22 = .ok (.ior, 1) := by decide +kernel
theorem dX4_takeFree_23 : decode cX4_takeFree 23 = .ok (.putfield 325, 3) := by decide +kernel
theorem dX4_takeFree_26 : decode cX4_takeFree 26 = .ok (.return_, 1) := by decide +kernel
theorem dX4_takeTell_0 : decode cX4_takeTell 0 = .ok (.aload_n 1, 1) := by decide +kernel
theorem dX4_takeTell_1 : decode cX4_takeTell 1 = .ok (.getfield 170, 3) := by decide +kernel
theorem dX4_takeTell_4 : decode cX4_takeTell 4 = .ok (.iload_n 2, 1) := by decide +kernel
theorem dX4_takeTell_5 : decode cX4_takeTell 5 = .ok (.invokestatic 297, 3) := by decide +kernel
theorem dX4_takeTell_8 : decode cX4_takeTell 8 = .ok (.ifCond .ne 16, 3) := by decide +kernel
theorem dX4_takeTell_11 : decode cX4_takeTell 11 = .ok (.aload_n 1, 1) := by decide +kernel
theorem dX4_takeTell_12 : decode cX4_takeTell 12 = .ok (.dup, 1) := by decide +kernel
theorem dX4_takeTell_13 : decode cX4_takeTell 13 = .ok (.getfield 208, 3) := by decide +kernel
theorem dX4_takeTell_16 : decode cX4_takeTell 16 = .ok (.iload_n 2, 1) := by decide +kernel
theorem dX4_takeTell_17 : decode cX4_takeTell 17 = .ok (.invokestatic 140, 3) := by decide +kernel
theorem dX4_takeTell_20 : decode cX4_takeTell 20 = .ok (.ior, 1) := by decide +kernel
theorem dX4_takeTell_21 : decode cX4_takeTell 21 = .ok (.putfield 208, 3) := by decide +kernel
theorem dX4_takeTell_24 : decode cX4_takeTell 24 = .ok (.iconst 0, 1) := by decide +kernel
theorem dX4_takeTell_25 : decode cX4_takeTell 25 = .ok (.istore_n 3, 1) := by decide +kernel
theorem dX4_takeTell_26 : decode cX4_takeTell 26 = .ok (.iload_n 3, 1) := by decide +kernel
theorem dX4_takeTell_27 : decode cX4_takeTell 27 = .ok (.aload_n 0, 1) := by decide +kernel
theorem dX4_takeTell_28 : decode cX4_takeTell 28 = .ok (.getfield 48, 3) := by decide +kernel
theorem dX4_takeTell_31 : decode cX4_takeTell 31 = .ok (.if_icmp .ge 41, 3) := by decide +kernel
theorem dX4_takeTell_34 : decode cX4_takeTell 34 = .ok (.aload_n 0, 1) := by decide +kernel
theorem dX4_takeTell_35 : decode cX4_takeTell 35 = .ok (.iload_n 2, 1) := by decide +kernel
theorem dX4_takeTell_36 : decode cX4_takeTell 36 = .ok (.invokevirtual 328, 3) := by decide +kernel
theorem dX4_takeTell_39 : decode cX4_takeTell 39 = .ok (.istore 4, 2) := by decide +kernel
theorem dX4_takeTell_41 : decode cX4_takeTell 41 = .ok (.iload 4, 2) := by decide +kernel
theorem dX4_takeTell_43 : decode cX4_takeTell 43 = .ok (.iconst (-1), 1) := by decide +kernel
theorem dX4_takeTell_44 : decode cX4_takeTell 44 = .ok (.if_icmp .ne 5, 3) := by decide +kernel
theorem dX4_takeTell_47 : decode cX4_takeTell 47 = .ok (.iload_n 3, 1) := by decide +kernel
theorem dX4_takeTell_48 : decode cX4_takeTell 48 = .ok (.ireturn, 1) := by decide +kernel
theorem dX4_takeTell_49 : decode cX4_takeTell 49 = .ok (.aload_n 0, 1) := by decide +kernel
theorem dX4_takeTell_50 : decode cX4_takeTell 50 = .ok (.aload_n 0, 1) := by decide +kernel
theorem dX4_takeTell_51 : decode cX4_takeTell 51 = .ok (.getfield 19, 3) := by decide +kernel
theorem dX4_takeTell_54 : decode cX4_takeTell 54 = .ok (.iload 4, 2) := by decide +kernel
theorem dX4_takeTell_56 : decode cX4_takeTell 56 = .ok (.invokevirtual 66, 3) := by decide +kernel
theorem dX4_takeTell_59 : decode cX4_takeTell 59 = .ok (.checkcast 59, 3) := by decide +kernel
theorem dX4_takeTell_62 : decode cX4_takeTell 62 = .ok (.iload_n 2, 1) := by decide +kernel
theorem dX4_takeTell_63 : decode cX4_takeTell 63 = .ok (.invokevirtual 288, 3) := by decide +kernel
theorem dX4_takeTell_66 : decode cX4_takeTell 66 = .ok (.iinc 3 1, 3) := by decide +kernel
theorem dX4_takeTell_69 : decode cX4_takeTell 69 = .ok (.goto (-43), 3) := by decide +kernel
theorem dX4_takeTell_72 : decode cX4_takeTell 72 = .ok (.aload_n 0, 1) := by decide +kernel
theorem dX4_takeTell_73 : decode cX4_takeTell 73 = .ok (.getfield 48, 3) := by decide +kernel
theorem dX4_takeTell_76 : decode cX4_takeTell 76 = .ok (.ireturn, 1) := by decide +kernel
theorem dX4_leastReady_0 : decode cX4_leastReady 0 = .ok (.iconst 0, 1) := by decide +kernel
theorem dX4_leastReady_1 : decode cX4_leastReady 1 = .ok (.istore_n 2, 1) := by decide +kernel
theorem dX4_leastReady_2 : decode cX4_leastReady 2 = .ok (.iload_n 2, 1) := by decide +kernel
theorem dX4_leastReady_3 : decode cX4_leastReady 3 = .ok (.aload_n 0, 1) := by decide +kernel
theorem dX4_leastReady_4 : decode cX4_leastReady 4 = .ok (.getfield 48, 3) := by decide +kernel
theorem dX4_leastReady_7 : decode cX4_leastReady 7 = .ok (.if_icmp .ge 47, 3) := by decide +kernel
theorem dX4_leastReady_10 : decode cX4_leastReady 10 = .ok (.aload_n 0, 1) := by decide +kernel
theorem dX4_leastReady_11 : decode cX4_leastReady 11 = .ok (.getfield 19, 3) := by decide +kernel
theorem dX4_leastReady_14 : decode cX4_leastReady 14 = .ok (.iload_n 2, 1) := by decide +kernel
theorem dX4_leastReady_15 : decode cX4_leastReady 15 = .ok (.invokevirtual 66, 3) := by decide +kernel
theorem dX4_leastReady_18 : decode cX4_leastReady 18 = .ok (.checkcast 59, 3) := by decide +kernel
theorem dX4_leastReady_21 : decode cX4_leastReady 21 = .ok (.astore_n 3, 1) := by decide +kernel
theorem dX4_leastReady_22 : decode cX4_leastReady 22 = .ok (.aload_n 3, 1) := by decide +kernel
theorem dX4_leastReady_23 : decode cX4_leastReady 23 = .ok (.getfield 208, 3) := by decide +kernel
theorem dX4_leastReady_26 : decode cX4_leastReady 26 = .ok (.iload_n 1, 1) := by decide +kernel
theorem dX4_leastReady_27 : decode cX4_leastReady 27 = .ok (.invokestatic 297, 3) := by decide +kernel
theorem dX4_leastReady_30 : decode cX4_leastReady 30 = .ok (.ifCond .eq 18, 3) := by decide +kernel
theorem dX4_leastReady_33 : decode cX4_leastReady 33 = .ok (.aload_n 0, 1) := by decide +kernel
theorem dX4_leastReady_34 : decode cX4_leastReady 34 = .ok (.getfield 11, 3) := by decide +kernel
theorem dX4_leastReady_37 : decode cX4_leastReady 37 = .ok (.iload_n 1, 1) := by decide +kernel
theorem dX4_leastReady_38 : decode cX4_leastReady 38 = .ok (.aaload, 1) := by decide +kernel
theorem dX4_leastReady_39 : decode cX4_leastReady 39 = .ok (.aload_n 3, 1) := by decide +kernel
theorem dX4_leastReady_40 : decode cX4_leastReady 40 = .ok (.invokevirtual 331, 3) := by decide +kernel
theorem dX4_leastReady_43 : decode cX4_leastReady 43 = .ok (.ifCond .eq 5, 3) := by decide +kernel
theorem dX4_leastReady_46 : decode cX4_leastReady 46 = .ok (.iload_n 2, 1) := by decide +kernel
theorem dX4_leastReady_47 : decode cX4_leastReady 47 = .ok (.ireturn, 1) := by decide +kernel
theorem dX4_leastReady_48 : decode cX4_leastReady 48 = .ok (.iinc 2 1, 3) := by decide +kernel
theorem dX4_leastReady_51 : decode cX4_leastReady 51 = .ok (.goto (-49), 3) := by decide +kernel
theorem dX4_leastReady_54 : decode cX4_leastReady 54 = .ok (.iconst (-1), 1) := by decide +kernel
theorem dX4_leastReady_55 : decode cX4_leastReady 55 = .ok (.ireturn, 1) := by decide +kernel
theorem dX4_keptTells_0 : decode cX4_keptTells 0 = .ok (.iconst 0, 1) := by decide +kernel
theorem dX4_keptTells_1 : decode cX4_keptTells 1 = .ok (.istore_n 1, 1) := by decide +kernel
theorem dX4_keptTells_2 : decode cX4_keptTells 2 = .ok (.iconst 0, 1) := by decide +kernel
theorem dX4_keptTells_3 : decode cX4_keptTells 3 = .ok (.istore_n 2, 1) := by decide +kernel
theorem dX4_keptTells_4 : decode cX4_keptTells 4 = .ok (.iload_n 2, 1) := by decide +kernel
theorem dX4_keptTells_5 : decode cX4_keptTells 5 = .ok (.aload_n 0, 1) := by decide +kernel
theorem dX4_keptTells_6 : decode cX4_keptTells 6 = .ok (.getfield 48, 3) := by decide +kernel
theorem dX4_keptTells_9 : decode cX4_keptTells 9 = .ok (.if_icmp .ge 29, 3) := by decide +kernel
theorem dX4_keptTells_12 : decode cX4_keptTells 12 = .ok (.iload_n 1, 1) := by decide +kernel
theorem dX4_keptTells_13 : decode cX4_keptTells 13 = .ok (.aload_n 0, 1) := by decide +kernel
theorem dX4_keptTells_14 : decode cX4_keptTells 14 = .ok (.getfield 19, 3) := by decide +kernel
theorem dX4_keptTells_17 : decode cX4_keptTells 17 = .ok (.iload_n 2, 1) := by decide +kernel
theorem dX4_keptTells_18 : decode cX4_keptTells 18 = .ok (.invokevirtual 66, 3) := by decide +kernel
theorem dX4_keptTells_21 : decode cX4_keptTells 21 = .ok (.checkcast 59, 3) := by decide +kernel
theorem dX4_keptTells_24 : decode cX4_keptTells 24 = .ok (.getfield 208, 3) := by decide +kernel
theorem dX4_keptTells_27 : decode cX4_keptTells 27 = .ok (.invokestatic 223, 3) := by decide +kernel
theorem dX4_keptTells_30 : decode cX4_keptTells 30 = .ok (.iadd, 1) := by decide +kernel
theorem dX4_keptTells_31 : decode cX4_keptTells 31 = .ok (.istore_n 1, 1) := by decide +kernel
theorem dX4_keptTells_32 : decode cX4_keptTells 32 = .ok (.iinc 2 1, 3) := by decide +kernel
theorem dX4_keptTells_35 : decode cX4_keptTells 35 = .ok (.goto (-31), 3) := by decide +kernel
theorem dX4_keptTells_38 : decode cX4_keptTells 38 = .ok (.iload_n 1, 1) := by decide +kernel
theorem dX4_keptTells_39 : decode cX4_keptTells 39 = .ok (.ireturn, 1) := by decide +kernel
theorem dX4_sitesUp_0 : decode cX4_sitesUp 0 = .ok (.iconst 0, 1) := by decide +kernel
theorem dX4_sitesUp_1 : decode cX4_sitesUp 1 = .ok (.istore_n 1, 1) := by decide +kernel
theorem dX4_sitesUp_2 : decode cX4_sitesUp 2 = .ok (.iconst 0, 1) := by decide +kernel
theorem dX4_sitesUp_3 : decode cX4_sitesUp 3 = .ok (.istore_n 2, 1) := by decide +kernel
theorem dX4_sitesUp_4 : decode cX4_sitesUp 4 = .ok (.iload_n 2, 1) := by decide +kernel
theorem dX4_sitesUp_5 : decode cX4_sitesUp 5 = .ok (.aload_n 0, 1) := by decide +kernel
theorem dX4_sitesUp_6 : decode cX4_sitesUp 6 = .ok (.getfield 251, 3) := by decide +kernel
theorem dX4_sitesUp_9 : decode cX4_sitesUp 9 = .ok (.if_icmp .ge 24, 3) := by decide +kernel
theorem dX4_sitesUp_12 : decode cX4_sitesUp 12 = .ok (.aload_n 0, 1) := by decide +kernel
theorem dX4_sitesUp_13 : decode cX4_sitesUp 13 = .ok (.getfield 11, 3) := by decide +kernel
theorem dX4_sitesUp_16 : decode cX4_sitesUp 16 = .ok (.iload_n 2, 1) := by decide +kernel
theorem dX4_sitesUp_17 : decode cX4_sitesUp 17 = .ok (.aaload, 1) := by decide +kernel
theorem dX4_sitesUp_18 : decode cX4_sitesUp 18 = .ok (.getfield 44, 3) := by decide +kernel
theorem dX4_sitesUp_21 : decode cX4_sitesUp 21 = .ok (.ifCond .eq 6, 3) := by decide +kernel
theorem dX4_sitesUp_24 : decode cX4_sitesUp 24 = .ok (.iinc 1 1, 3) := by decide +kernel
theorem dX4_sitesUp_27 : decode cX4_sitesUp 27 = .ok (.iinc 2 1, 3) := by decide +kernel
theorem dX4_sitesUp_30 : decode cX4_sitesUp 30 = .ok (.goto (-26), 3) := by decide +kernel
theorem dX4_sitesUp_33 : decode cX4_sitesUp 33 = .ok (.iload_n 1, 1) := by decide +kernel
theorem dX4_sitesUp_34 : decode cX4_sitesUp 34 = .ok (.ireturn, 1) := by decide +kernel
theorem dX4_spell_0 : decode cX4_spell 0 = .ok (.aload_n 0, 1) := by decide +kernel
theorem dX4_spell_1 : decode cX4_spell 1 = .ok (.getfield 29, 3) := by decide +kernel
theorem dX4_spell_4 : decode cX4_spell 4 = .ok (.aload_n 1, 1) := by decide +kernel
theorem dX4_spell_5 : decode cX4_spell 5 = .ok (.invokevirtual 191, 3) := by decide +kernel
theorem dX4_spell_8 : decode cX4_spell 8 = .ok (.invokevirtual 335, 3) := by decide +kernel
theorem dX4_spell_11 : decode cX4_spell 11 = .ok (.aload_n 0, 1) := by decide +kernel
theorem dX4_spell_12 : decode cX4_spell 12 = .ok (.getfield 29, 3) := by decide +kernel
theorem dX4_spell_15 : decode cX4_spell 15 = .ok (.aload_n 1, 1) := by decide +kernel
theorem dX4_spell_16 : decode cX4_spell 16 = .ok (.invokevirtual 310, 3) := by decide +kernel
theorem dX4_spell_19 : decode cX4_spell 19 = .ok (.invokevirtual 335, 3) := by decide +kernel
theorem dX4_spell_22 : decode cX4_spell 22 = .ok (.aload_n 0, 1) := by decide +kernel
theorem dX4_spell_23 : decode cX4_spell 23 = .ok (.getfield 29, 3) := by decide +kernel
theorem dX4_spell_26 : decode cX4_spell 26 = .ok (.aload_n 1, 1) := by decide +kernel
theorem dX4_spell_27 : decode cX4_spell 27 = .ok (.invokevirtual 181, 3) := by decide +kernel
theorem dX4_spell_30 : decode cX4_spell 30 = .ok (.invokevirtual 335, 3) := by decide +kernel
theorem dX4_spell_33 : decode cX4_spell 33 = .ok (.aload_n 0, 1) := by decide +kernel
theorem dX4_spell_34 : decode cX4_spell 34 = .ok (.getfield 29, 3) := by decide +kernel
theorem dX4_spell_37 : decode cX4_spell 37 = .ok (.aload_n 2, 1) := by decide +kernel
theorem dX4_spell_38 : decode cX4_spell 38 = .ok (.getfield 282, 3) := by decide +kernel
theorem dX4_spell_41 : decode cX4_spell 41 = .ok (.invokevirtual 338, 3) := by decide +kernel
theorem dX4_spell_44 : decode cX4_spell 44 = .ok (.aload_n 1, 1) := by decide +kernel
theorem dX4_spell_45 : decode cX4_spell 45 = .ok (.invokevirtual 191, 3) := by decide +kernel
theorem dX4_spell_48 : decode cX4_spell 48 = .ok (.iconst 1, 1) := by decide +kernel
theorem dX4_spell_49 : decode cX4_spell 49 = .ok (.if_icmp .ne 20, 3) := by decide +kernel
theorem dX4_spell_52 : decode cX4_spell 52 = .ok (.aload_n 0, 1) := by decide +kernel
theorem dX4_spell_53 : decode cX4_spell 53 = .ok (.aload_n 2, 1) := by decide +kernel
theorem dX4_spell_54 : decode cX4_spell 54 = .ok (.invokevirtual 341, 3) := by decide +kernel
theorem dX4_spell_57 : decode cX4_spell 57 = .ok (.aload_n 0, 1) := by decide +kernel
theorem dX4_spell_58 : decode cX4_spell 58 = .ok (.aload_n 2, 1) := by decide +kernel
theorem dX4_spell_59 : decode cX4_spell 59 = .ok (.aload_n 1, 1) := by decide +kernel
theorem dX4_spell_60 : decode cX4_spell 60 = .ok (.invokevirtual 181, 3) := by decide +kernel
theorem dX4_spell_63 : decode cX4_spell 63 = .ok (.invokevirtual 344, 3) := by decide +kernel
theorem dX4_spell_66 : decode cX4_spell 66 = .ok (.goto 37, 3) := by decide +kernel
theorem dX4_spell_69 : decode cX4_spell 69 = .ok (.aload_n 1, 1) := by decide +kernel
theorem dX4_spell_70 : decode cX4_spell 70 = .ok (.invokevirtual 191, 3) := by decide +kernel
theorem dX4_spell_73 : decode cX4_spell 73 = .ok (.iconst 5, 1) := by decide +kernel
theorem dX4_spell_74 : decode cX4_spell 74 = .ok (.if_icmp .ne 29, 3) := by decide +kernel
theorem dX4_spell_77 : decode cX4_spell 77 = .ok (.aload_n 0, 1) := by decide +kernel
theorem dX4_spell_78 : decode cX4_spell 78 = .ok (.aload_n 2, 1) := by decide +kernel
theorem dX4_spell_79 : decode cX4_spell 79 = .ok (.invokevirtual 341, 3) := by decide +kernel
theorem dX4_spell_82 : decode cX4_spell 82 = .ok (.aload_n 0, 1) := by decide +kernel
theorem dX4_spell_83 : decode cX4_spell 83 = .ok (.getfield 29, 3) := by decide +kernel
theorem dX4_spell_86 : decode cX4_spell 86 = .ok (.aload_n 2, 1) := by decide +kernel
theorem dX4_spell_87 : decode cX4_spell 87 = .ok (.getfield 220, 3) := by decide +kernel
theorem dX4_spell_90 : decode cX4_spell 90 = .ok (.invokevirtual 338, 3) := by decide +kernel
theorem dX4_spell_93 : decode cX4_spell 93 = .ok (.aload_n 0, 1) := by decide +kernel
theorem dX4_spell_94 : decode cX4_spell 94 = .ok (.aload_n 2, 1) := by decide +kernel
theorem dX4_spell_95 : decode cX4_spell 95 = .ok (.invokevirtual 347, 3) := by decide +kernel
theorem dX4_spell_98 : decode cX4_spell 98 = .ok (.aload_n 0, 1) := by decide +kernel
theorem dX4_spell_99 : decode cX4_spell 99 = .ok (.aload_n 2, 1) := by decide +kernel
theorem dX4_spell_100 : decode cX4_spell 100 = .ok (.invokevirtual 350, 3) := by decide +kernel
theorem dX4_spell_103 : decode cX4_spell 103 = .ok (.aload_n 0, 1) := by decide +kernel
theorem dX4_spell_104 : decode cX4_spell 104 = .ok (.getfield 29, 3) := by decide +kernel
theorem dX4_spell_107 : decode cX4_spell 107 = .ok (.invokevirtual 353, 3) := by decide +kernel
theorem dX4_spell_110 : decode cX4_spell 110 = .ok (.return_, 1) := by decide +kernel
theorem dX4_spellStart_0 : decode cX4_spellStart 0 = .ok (.iconst 0, 1) := by decide +kernel
theorem dX4_spellStart_1 : decode cX4_spellStart 1 = .ok (.istore_n 2, 1) := by decide +kernel
theorem dX4_spellStart_2 : decode cX4_spellStart 2 = .ok (.iload_n 2, 1) := by decide +kernel
theorem dX4_spellStart_3 : decode cX4_spellStart 3 = .ok (.aload_n 0, 1) := by decide +kernel
theorem dX4_spellStart_4 : decode cX4_spellStart 4 = .ok (.getfield 251, 3) := by decide +kernel
theorem dX4_spellStart_7 : decode cX4_spellStart 7 = .ok (.if_icmp .ge 22, 3) := by decide +kernel
theorem dX4_spellStart_10 : decode cX4_spellStart 10 = .ok (.aload_n 0, 1) := by decide +kernel
theorem dX4_spellStart_11 : decode cX4_spellStart 11 = .ok (.getfield 29, 3) := by decide +kernel
theorem dX4_spellStart_14 : decode cX4_spellStart 14 = .ok (.aload_n 1, 1) := by decide +kernel
theorem dX4_spellStart_15 : decode cX4_spellStart 15 = .ok (.getfield 98, 3) := by decide +kernel
theorem dX4_spellStart_18 : decode cX4_spellStart 18 = .ok (.iload_n 2, 1) := by decide +kernel
theorem dX4_spellStart_19 : decode cX4_spellStart 19 = .ok (.iaload, 1) := by decide +kernel
theorem dX4_spellStart_20 : decode cX4_spellStart 20 = .ok (.invokevirtual 338, 3) := by decide +kernel
theorem dX4_spellStart_23 : decode cX4_spellStart 23 = .ok (.iinc 2 1, 3) := by decide +kernel
theorem dX4_spellStart_26 : decode cX4_spellStart 26 = .ok (.goto (-24), 3) := by decide +kernel
theorem dX4_spellStart_29 : decode cX4_spellStart 29 = .ok (.return_, 1) := by decide +kernel
theorem dX4_spellAsked_0 : decode cX4_spellAsked 0 = .ok (.iconst 0, 1) := by decide +kernel
theorem dX4_spellAsked_1 : decode cX4_spellAsked 1 = .ok (.istore_n 3, 1) := by decide +kernel
theorem dX4_spellAsked_2 : decode cX4_spellAsked 2 = .ok (.iconst 0, 1) := by decide +kernel
theorem dX4_spellAsked_3 : decode cX4_spellAsked 3 = .ok (.istore 4, 2) := by decide +kernel
theorem dX4_spellAsked_5 : decode cX4_spellAsked 5 = .ok (.iload 4, 2) := by decide +kernel
theorem dX4_spellAsked_7 : decode cX4_spellAsked 7 = .ok (.bipush 20, 2) := by decide +kernel
theorem dX4_spellAsked_9 : decode cX4_spellAsked 9 = .ok (.if_icmp .ge 23, 3) := by decide +kernel
theorem dX4_spellAsked_12 : decode cX4_spellAsked 12 = .ok (.aload_n 0, 1) := by decide +kernel
theorem dX4_spellAsked_13 : decode cX4_spellAsked 13 = .ok (.aload_n 1, 1) := by decide +kernel
theorem dX4_spellAsked_14 : decode cX4_spellAsked 14 = .ok (.iload 4, 2) := by decide +kernel
theorem dX4_spellAsked_16 : decode cX4_spellAsked 16 = .ok (.iload_n 2, 1) := by decide +kernel
theorem dX4_spellAsked_17 : decode cX4_spellAsked 17 = .ok (.invokevirtual 274, 3) := by decide +kernel
theorem dX4_spellAsked_20 : decode cX4_spellAsked 20 = .ok (.ifCond .eq 6, 3) := by decide +kernel
theorem dX4_spellAsked_23 : decode cX4_spellAsked 23 = .ok (.iinc 3 1, 3) := by decide +kernel
theorem dX4_spellAsked_26 : decode cX4_spellAsked 26 = .ok (.iinc 4 1, 3) := by decide +kernel
theorem dX4_spellAsked_29 : decode cX4_spellAsked 29 = .ok (.goto (-24), 3) := by decide +kernel
theorem dX4_spellAsked_32 : decode cX4_spellAsked 32 = .ok (.aload_n 0, 1) := by decide +kernel
theorem dX4_spellAsked_33 : decode cX4_spellAsked 33 = .ok (.getfield 29, 3) := by decide +kernel
theorem dX4_spellAsked_36 : decode cX4_spellAsked 36 = .ok (.iload_n 3, 1) := by decide +kernel
theorem dX4_spellAsked_37 : decode cX4_spellAsked 37 = .ok (.invokevirtual 335, 3) := by decide +kernel
theorem dX4_spellAsked_40 : decode cX4_spellAsked 40 = .ok (.iconst 0, 1) := by decide +kernel
theorem dX4_spellAsked_41 : decode cX4_spellAsked 41 = .ok (.istore 4, 2) := by decide +kernel
theorem dX4_spellAsked_43 : decode cX4_spellAsked 43 = .ok (.iload 4, 2) := by decide +kernel
theorem dX4_spellAsked_45 : decode cX4_spellAsked 45 = .ok (.bipush 20, 2) := by decide +kernel
theorem dX4_spellAsked_47 : decode cX4_spellAsked 47 = .ok (.if_icmp .ge 29, 3) := by decide +kernel
theorem dX4_spellAsked_50 : decode cX4_spellAsked 50 = .ok (.aload_n 0, 1) := by decide +kernel
theorem dX4_spellAsked_51 : decode cX4_spellAsked 51 = .ok (.aload_n 1, 1) := by decide +kernel
theorem dX4_spellAsked_52 : decode cX4_spellAsked 52 = .ok (.iload 4, 2) := by decide +kernel
theorem dX4_spellAsked_54 : decode cX4_spellAsked 54 = .ok (.iload_n 2, 1) := by decide +kernel
theorem dX4_spellAsked_55 : decode cX4_spellAsked 55 = .ok (.invokevirtual 274, 3) := by decide +kernel
theorem dX4_spellAsked_58 : decode cX4_spellAsked 58 = .ok (.ifCond .eq 12, 3) := by decide +kernel
theorem dX4_spellAsked_61 : decode cX4_spellAsked 61 = .ok (.aload_n 0, 1) := by decide +kernel
theorem dX4_spellAsked_62 : decode cX4_spellAsked 62 = .ok (.getfield 29, 3) := by decide +kernel
theorem dX4_spellAsked_65 : decode cX4_spellAsked 65 = .ok (.iload 4, 2) := by decide +kernel
theorem dX4_spellAsked_67 : decode cX4_spellAsked 67 = .ok (.invokevirtual 335, 3) := by decide +kernel
theorem dX4_spellAsked_70 : decode cX4_spellAsked 70 = .ok (.iinc 4 1, 3) := by decide +kernel
theorem dX4_spellAsked_73 : decode cX4_spellAsked 73 = .ok (.goto (-30), 3) := by decide +kernel
theorem dX4_spellAsked_76 : decode cX4_spellAsked 76 = .ok (.return_, 1) := by decide +kernel
theorem dX4_spellWritten_0 : decode cX4_spellWritten 0 = .ok (.aload_n 0, 1) := by decide +kernel
theorem dX4_spellWritten_1 : decode cX4_spellWritten 1 = .ok (.getfield 29, 3) := by decide +kernel
theorem dX4_spellWritten_4 : decode cX4_spellWritten 4 = .ok (.aload_n 1, 1) := by decide +kernel
theorem dX4_spellWritten_5 : decode cX4_spellWritten 5 = .ok (.invokevirtual 105, 3) := by decide +kernel
theorem dX4_spellWritten_8 : decode cX4_spellWritten 8 = .ok (.invokevirtual 335, 3) := by decide +kernel
theorem dX4_spellWritten_11 : decode cX4_spellWritten 11 = .ok (.iconst 0, 1) := by decide +kernel
theorem dX4_spellWritten_12 : decode cX4_spellWritten 12 = .ok (.istore_n 2, 1) := by decide +kernel
theorem dX4_spellWritten_13 : decode cX4_spellWritten 13 = .ok (.iload_n 2, 1) := by decide +kernel
theorem dX4_spellWritten_14 : decode cX4_spellWritten 14 = .ok (.bipush 20, 2) := by decide +kernel
theorem dX4_spellWritten_16 : decode cX4_spellWritten 16 = .ok (.if_icmp .ge 38, 3) := by decide +kernel
theorem dX4_spellWritten_19 : decode cX4_spellWritten 19 = .ok (.aload_n 1, 1) := by decide +kernel
theorem dX4_spellWritten_20 : decode cX4_spellWritten 20 = .ok (.iload_n 2, 1) := by decide +kernel
theorem dX4_spellWritten_21 : decode cX4_spellWritten 21 = .ok (.invokevirtual 88, 3) := by decide +kernel
theorem dX4_spellWritten_24 : decode cX4_spellWritten 24 = .ok (.ifCond .eq 24, 3) := by decide +kernel
theorem dX4_spellWritten_27 : decode cX4_spellWritten 27 = .ok (.aload_n 0, 1) := by decide +kernel
theorem dX4_spellWritten_28 : decode cX4_spellWritten 28 = .ok (.getfield 29, 3) := by decide +kernel
theorem dX4_spellWritten_31 : decode cX4_spellWritten 31 = .ok (.iload_n 2, 1) := by decide +kernel
theorem dX4_spellWritten_32 : decode cX4_spellWritten 32 = .ok (.invokevirtual 335, 3) := by decide +kernel
theorem dX4_spellWritten_35 : decode cX4_spellWritten 35 = .ok (.aload_n 0, 1) := by decide +kernel
theorem dX4_spellWritten_36 : decode cX4_spellWritten 36 = .ok (.getfield 29, 3) := by decide +kernel
theorem dX4_spellWritten_39 : decode cX4_spellWritten 39 = .ok (.aload_n 1, 1) := by decide +kernel
theorem dX4_spellWritten_40 : decode cX4_spellWritten 40 = .ok (.getfield 92, 3) := by decide +kernel
theorem dX4_spellWritten_43 : decode cX4_spellWritten 43 = .ok (.iload_n 2, 1) := by decide +kernel
theorem dX4_spellWritten_44 : decode cX4_spellWritten 44 = .ok (.iaload, 1) := by decide +kernel
theorem dX4_spellWritten_45 : decode cX4_spellWritten 45 = .ok (.invokevirtual 356, 3) := by decide +kernel
theorem dX4_spellWritten_48 : decode cX4_spellWritten 48 = .ok (.iinc 2 1, 3) := by decide +kernel
theorem dX4_spellWritten_51 : decode cX4_spellWritten 51 = .ok (.goto (-38), 3) := by decide +kernel
theorem dX4_spellWritten_54 : decode cX4_spellWritten 54 = .ok (.return_, 1) := by decide +kernel
theorem dX4_spellChanges_0 : decode cX4_spellChanges 0 = .ok (.aload_n 0, 1) := by decide +kernel
theorem dX4_spellChanges_1 : decode cX4_spellChanges 1 = .ok (.getfield 29, 3) := by decide +kernel
theorem dX4_spellChanges_4 : decode cX4_spellChanges 4 = .ok (.aload_n 1, 1) := by decide +kernel
theorem dX4_spellChanges_5 : decode cX4_spellChanges 5 = .ok (.getfield 115, 3) := by decide +kernel
theorem dX4_spellChanges_8 : decode cX4_spellChanges 8 = .ok (.invokevirtual 335, 3) := by decide +kernel
theorem dX4_spellChanges_11 : decode cX4_spellChanges 11 = .ok (.iconst 0, 1) := by decide +kernel
theorem dX4_spellChanges_12 : decode cX4_spellChanges 12 = .ok (.istore_n 2, 1) := by decide +kernel
theorem dX4_spellChanges_13 : decode cX4_spellChanges 13 = .ok (.iload_n 2, 1) := by decide +kernel
theorem dX4_spellChanges_14 : decode cX4_spellChanges 14 = .ok (.aload_n 1, 1) := by decide +kernel
theorem dX4_spellChanges_15 : decode cX4_spellChanges 15 = .ok (.getfield 115, 3) := by decide +kernel
theorem dX4_spellChanges_18 : decode cX4_spellChanges 18 = .ok (.if_icmp .ge 35, 3) := by decide +kernel
theorem dX4_spellChanges_21 : decode cX4_spellChanges 21 = .ok (.aload_n 0, 1) := by decide +kernel
theorem dX4_spellChanges_22 : decode cX4_spellChanges 22 = .ok (.getfield 29, 3) := by decide +kernel
theorem dX4_spellChanges_25 : decode cX4_spellChanges 25 = .ok (.aload_n 1, 1) := by decide +kernel
theorem dX4_spellChanges_26 : decode cX4_spellChanges 26 = .ok (.getfield 118, 3) := by decide +kernel
theorem dX4_spellChanges_29 : decode cX4_spellChanges 29 = .ok (.iload_n 2, 1) := by decide +kernel
theorem dX4_spellChanges_30 : decode cX4_spellChanges 30 = .ok (.iaload, 1) := by decide +kernel
theorem dX4_spellChanges_31 : decode cX4_spellChanges 31 = .ok (.invokevirtual 335, 3) := by decide +kernel
theorem dX4_spellChanges_34 : decode cX4_spellChanges 34 = .ok (.aload_n 0, 1) := by decide +kernel
theorem dX4_spellChanges_35 : decode cX4_spellChanges 35 = .ok (.getfield 29, 3) := by decide +kernel
theorem dX4_spellChanges_38 : decode cX4_spellChanges 38 = .ok (.aload_n 1, 1) := by decide +kernel
theorem dX4_spellChanges_39 : decode cX4_spellChanges 39 = .ok (.getfield 125, 3) := by decide +kernel
theorem dX4_spellChanges_42 : decode cX4_spellChanges 42 = .ok (.iload_n 2, 1) := by decide +kernel
theorem dX4_spellChanges_43 : decode cX4_spellChanges 43 = .ok (.iaload, 1) := by decide +kernel
theorem dX4_spellChanges_44 : decode cX4_spellChanges 44 = .ok (.invokevirtual 335, 3) := by decide +kernel
theorem dX4_spellChanges_47 : decode cX4_spellChanges 47 = .ok (.iinc 2 1, 3) := by decide +kernel
theorem dX4_spellChanges_50 : decode cX4_spellChanges 50 = .ok (.goto (-37), 3) := by decide +kernel
theorem dX4_spellChanges_53 : decode cX4_spellChanges 53 = .ok (.return_, 1) := by decide +kernel
theorem dX5_init_0 : decode cX5_init 0 = .ok (.aload_n 0, 1) := by decide +kernel
theorem dX5_init_1 : decode cX5_init 1 = .ok (.invokespecial 1, 3) := by decide +kernel
theorem dX5_init_4 : decode cX5_init 4 = .ok (.aload_n 0, 1) := by decide +kernel
theorem dX5_init_5 : decode cX5_init 5 = .ok (.iconst 2, 1) := by decide +kernel
theorem dX5_init_6 : decode cX5_init 6 = .ok (.putfield 7, 3) := by decide +kernel
theorem dX5_init_9 : decode cX5_init 9 = .ok (.aload_n 0, 1) := by decide +kernel
theorem dX5_init_10 : decode cX5_init 10 = .ok (.bipush 25, 2) := by decide +kernel
theorem dX5_init_12 : decode cX5_init 12 = .ok (.newarray .int, 2) := by decide +kernel
theorem dX5_init_14 : decode cX5_init 14 = .ok (.putfield 13, 3) := by decide +kernel
theorem dX5_init_17 : decode cX5_init 17 = .ok (.aload_n 0, 1) := by decide +kernel
theorem dX5_init_18 : decode cX5_init 18 = .ok (.iconst 5, 1) := by decide +kernel
theorem dX5_init_19 : decode cX5_init 19 = .ok (.newarray .boolean, 2) := by decide +kernel
theorem dX5_init_21 : decode cX5_init 21 = .ok (.putfield 17, 3) := by decide +kernel
theorem dX5_init_24 : decode cX5_init 24 = .ok (.aload_n 0, 1) := by decide +kernel
theorem dX5_init_25 : decode cX5_init 25 = .ok (.bipush 100, 2) := by decide +kernel
theorem dX5_init_27 : decode cX5_init 27 = .ok (.newarray .int, 2) := by decide +kernel
theorem dX5_init_29 : decode cX5_init 29 = .ok (.putfield 21, 3) := by decide +kernel
theorem dX5_init_32 : decode cX5_init 32 = .ok (.aload_n 0, 1) := by decide +kernel
theorem dX5_init_33 : decode cX5_init 33 = .ok (.sipush 200, 3) := by decide +kernel
theorem dX5_init_36 : decode cX5_init 36 = .ok (.newarray .int, 2) := by decide +kernel
theorem dX5_init_38 : decode cX5_init 38 = .ok (.putfield 24, 3) := by decide +kernel
theorem dX5_init_41 : decode cX5_init 41 = .ok (.aload_n 0, 1) := by decide +kernel
theorem dX5_init_42 : decode cX5_init 42 = .ok (.sipush 200, 3) := by decide +kernel
theorem dX5_init_45 : decode cX5_init 45 = .ok (.newarray .int, 2) := by decide +kernel
theorem dX5_init_47 : decode cX5_init 47 = .ok (.putfield 27, 3) := by decide +kernel
theorem dX5_init_50 : decode cX5_init 50 = .ok (.aload_n 0, 1) := by decide +kernel
theorem dX5_init_51 : decode cX5_init 51 = .ok (.sipush 200, 3) := by decide +kernel
theorem dX5_init_54 : decode cX5_init 54 = .ok (.newarray .int, 2) := by decide +kernel
theorem dX5_init_56 : decode cX5_init 56 = .ok (.putfield 30, 3) := by decide +kernel
theorem dX5_init_59 : decode cX5_init 59 = .ok (.aload_n 0, 1) := by decide +kernel
theorem dX5_init_60 : decode cX5_init 60 = .ok (.sipush 1000, 3) := by decide +kernel
theorem dX5_init_63 : decode cX5_init 63 = .ok (.newarray .int, 2) := by decide +kernel
theorem dX5_init_65 : decode cX5_init 65 = .ok (.putfield 33, 3) := by decide +kernel
theorem dX5_init_68 : decode cX5_init 68 = .ok (.aload_n 0, 1) := by decide +kernel
theorem dX5_init_69 : decode cX5_init 69 = .ok (.sipush 1000, 3) := by decide +kernel
theorem dX5_init_72 : decode cX5_init 72 = .ok (.newarray .int, 2) := by decide +kernel
theorem dX5_init_74 : decode cX5_init 74 = .ok (.putfield 36, 3) := by decide +kernel
theorem dX5_init_77 : decode cX5_init 77 = .ok (.aload_n 0, 1) := by decide +kernel
theorem dX5_init_78 : decode cX5_init 78 = .ok (.sipush 1000, 3) := by decide +kernel
theorem dX5_init_81 : decode cX5_init 81 = .ok (.newarray .boolean, 2) := by decide +kernel
theorem dX5_init_83 : decode cX5_init 83 = .ok (.putfield 39, 3) := by decide +kernel
theorem dX5_init_86 : decode cX5_init 86 = .ok (.aload_n 0, 1) := by decide +kernel
theorem dX5_init_87 : decode cX5_init 87 = .ok (.sipush 1000, 3) := by decide +kernel
theorem dX5_init_90 : decode cX5_init 90 = .ok (.newarray .boolean, 2) := by decide +kernel
theorem dX5_init_92 : decode cX5_init 92 = .ok (.putfield 42, 3) := by decide +kernel
theorem dX5_init_95 : decode cX5_init 95 = .ok (.aload_n 0, 1) := by decide +kernel
theorem dX5_init_96 : decode cX5_init 96 = .ok (.sipush 1000, 3) := by decide +kernel
theorem dX5_init_99 : decode cX5_init 99 = .ok (.newarray .boolean, 2) := by decide +kernel
theorem dX5_init_101 : decode cX5_init 101 = .ok (.putfield 45, 3) := by decide +kernel
theorem dX5_init_104 : decode cX5_init 104 = .ok (.aload_n 0, 1) := by decide +kernel
theorem dX5_init_105 : decode cX5_init 105 = .ok (.sipush 1000, 3) := by decide +kernel
theorem dX5_init_108 : decode cX5_init 108 = .ok (.newarray .boolean, 2) := by decide +kernel
theorem dX5_init_110 : decode cX5_init 110 = .ok (.putfield 48, 3) := by decide +kernel
theorem dX5_init_113 : decode cX5_init 113 = .ok (.aload_n 0, 1) := by decide +kernel
theorem dX5_init_114 : decode cX5_init 114 = .ok (.sipush 4000, 3) := by decide +kernel
theorem dX5_init_117 : decode cX5_init 117 = .ok (.newarray .boolean, 2) := by decide +kernel
theorem dX5_init_119 : decode cX5_init 119 = .ok (.putfield 51, 3) := by decide +kernel
theorem dX5_init_122 : decode cX5_init 122 = .ok (.aload_n 0, 1) := by decide +kernel
theorem dX5_init_123 : decode cX5_init 123 = .ok (.sipush 4000, 3) := by decide +kernel
theorem dX5_init_126 : decode cX5_init 126 = .ok (.newarray .int, 2) := by decide +kernel
theorem dX5_init_128 : decode cX5_init 128 = .ok (.putfield 54, 3) := by decide +kernel
theorem dX5_init_131 : decode cX5_init 131 = .ok (.aload_n 0, 1) := by decide +kernel
theorem dX5_init_132 : decode cX5_init 132 = .ok (.sipush 4000, 3) := by decide +kernel
theorem dX5_init_135 : decode cX5_init 135 = .ok (.newarray .int, 2) := by decide +kernel
theorem dX5_init_137 : decode cX5_init 137 = .ok (.putfield 57, 3) := by decide +kernel
theorem dX5_init_140 : decode cX5_init 140 = .ok (.aload_n 0, 1) := by decide +kernel
theorem dX5_init_141 : decode cX5_init 141 = .ok (.sipush 4000, 3) := by decide +kernel
theorem dX5_init_144 : decode cX5_init 144 = .ok (.newarray .int, 2) := by decide +kernel
theorem dX5_init_146 : decode cX5_init 146 = .ok (.putfield 60, 3) := by decide +kernel
theorem dX5_init_149 : decode cX5_init 149 = .ok (.aload_n 0, 1) := by decide +kernel
theorem dX5_init_150 : decode cX5_init 150 = .ok (.sipush 200, 3) := by decide +kernel
theorem dX5_init_153 : decode cX5_init 153 = .ok (.newarray .int, 2) := by decide +kernel
theorem dX5_init_155 : decode cX5_init 155 = .ok (.putfield 63, 3) := by decide +kernel
theorem dX5_init_158 : decode cX5_init 158 = .ok (.aload_n 0, 1) := by decide +kernel
theorem dX5_init_159 : decode cX5_init 159 = .ok (.sipush 200, 3) := by decide +kernel
theorem dX5_init_162 : decode cX5_init 162 = .ok (.newarray .boolean, 2) := by decide +kernel
theorem dX5_init_164 : decode cX5_init 164 = .ok (.putfield 66, 3) := by decide +kernel
theorem dX5_init_167 : decode cX5_init 167 = .ok (.aload_n 0, 1) := by decide +kernel
theorem dX5_init_168 : decode cX5_init 168 = .ok (.sipush 200, 3) := by decide +kernel
theorem dX5_init_171 : decode cX5_init 171 = .ok (.newarray .boolean, 2) := by decide +kernel
theorem dX5_init_173 : decode cX5_init 173 = .ok (.putfield 69, 3) := by decide +kernel
theorem dX5_init_176 : decode cX5_init 176 = .ok (.aload_n 0, 1) := by decide +kernel
theorem dX5_init_177 : decode cX5_init 177 = .ok (.sipush 1200, 3) := by decide +kernel
theorem dX5_init_180 : decode cX5_init 180 = .ok (.newarray .int, 2) := by decide +kernel
theorem dX5_init_182 : decode cX5_init 182 = .ok (.putfield 72, 3) := by decide +kernel
theorem dX5_init_185 : decode cX5_init 185 = .ok (.aload_n 0, 1) := by decide +kernel
theorem dX5_init_186 : decode cX5_init 186 = .ok (.sipush 300, 3) := by decide +kernel
theorem dX5_init_189 : decode cX5_init 189 = .ok (.newarray .int, 2) := by decide +kernel
theorem dX5_init_191 : decode cX5_init 191 = .ok (.putfield 75, 3) := by decide +kernel
theorem dX5_init_194 : decode cX5_init 194 = .ok (.aload_n 0, 1) := by decide +kernel
theorem dX5_init_195 : decode cX5_init 195 = .ok (.iconst 2, 1) := by decide +kernel
theorem dX5_init_196 : decode cX5_init 196 = .ok (.invokevirtual 78, 3) := by decide +kernel
theorem dX5_init_199 : decode cX5_init 199 = .ok (.return_, 1) := by decide +kernel
theorem dX5_thrown_0 : decode cX5_thrown 0 = .ok (.aload_n 0, 1) := by decide +kernel
theorem dX5_thrown_1 : decode cX5_thrown 1 = .ok (.getfield 82, 3) := by decide +kernel
theorem dX5_thrown_4 : decode cX5_thrown 4 = .ok (.ireturn, 1) := by decide +kernel
theorem dX5_fails_0 : decode cX5_fails 0 = .ok (.aload_n 0, 1) := by decide +kernel
theorem dX5_fails_1 : decode cX5_fails 1 = .ok (.iload_n 1, 1) := by decide +kernel
theorem dX5_fails_2 : decode cX5_fails 2 = .ok (.ifCond .eq 7, 3) := by decide +kernel
theorem dX5_fails_5 : decode cX5_fails 5 = .ok (.iload_n 2, 1) := by decide +kernel
theorem dX5_fails_6 : decode cX5_fails 6 = .ok (.goto 4, 3) := by decide +kernel
theorem dX5_fails_9 : decode cX5_fails 9 = .ok (.iconst 0, 1) := by decide +kernel
theorem dX5_fails_10 : decode cX5_fails 10 = .ok (.putfield 82, 3) := by decide +kernel
theorem dX5_fails_13 : decode cX5_fails 13 = .ok (.iload_n 1, 1) := by decide +kernel
theorem dX5_fails_14 : decode cX5_fails 14 = .ok (.ireturn, 1) := by decide +kernel
theorem dX5_begins_0 : decode cX5_begins 0 = .ok (.aload_n 0, 1) := by decide +kernel
theorem dX5_begins_1 : decode cX5_begins 1 = .ok (.iload_n 1, 1) := by decide +kernel
theorem dX5_begins_2 : decode cX5_begins 2 = .ok (.putfield 7, 3) := by decide +kernel
theorem dX5_begins_5 : decode cX5_begins 5 = .ok (.aload_n 0, 1) := by decide +kernel
theorem dX5_begins_6 : decode cX5_begins 6 = .ok (.iconst 0, 1) := by decide +kernel
theorem dX5_begins_7 : decode cX5_begins 7 = .ok (.putfield 85, 3) := by decide +kernel
theorem dX5_begins_10 : decode cX5_begins 10 = .ok (.aload_n 0, 1) := by decide +kernel
theorem dX5_begins_11 : decode cX5_begins 11 = .ok (.iconst 0, 1) := by decide +kernel
theorem dX5_begins_12 : decode cX5_begins 12 = .ok (.putfield 88, 3) := by decide +kernel
theorem dX5_begins_15 : decode cX5_begins 15 = .ok (.aload_n 0, 1) := by decide +kernel
theorem dX5_begins_16 : decode cX5_begins 16 = .ok (.iconst 0, 1) := by decide +kernel
theorem dX5_begins_17 : decode cX5_begins 17 = .ok (.putfield 91, 3) := by decide +kernel
theorem dX5_begins_20 : decode cX5_begins 20 = .ok (.aload_n 0, 1) := by decide +kernel
theorem dX5_begins_21 : decode cX5_begins 21 = .ok (.iconst 0, 1) := by decide +kernel
theorem dX5_begins_22 : decode cX5_begins 22 = .ok (.putfield 94, 3) := by decide +kernel
theorem dX5_begins_25 : decode cX5_begins 25 = .ok (.iconst 0, 1) := by decide +kernel
theorem dX5_begins_26 : decode cX5_begins 26 = .ok (.istore_n 2, 1) := by decide +kernel
theorem dX5_begins_27 : decode cX5_begins 27 = .ok (.iload_n 2, 1) := by decide +kernel
theorem dX5_begins_28 : decode cX5_begins 28 = .ok (.bipush 25, 2) := by decide +kernel
theorem dX5_begins_30 : decode cX5_begins 30 = .ok (.if_icmp .ge 16, 3) := by decide +kernel
theorem dX5_begins_33 : decode cX5_begins 33 = .ok (.aload_n 0, 1) := by decide +kernel
theorem dX5_begins_34 : decode cX5_begins 34 = .ok (.getfield 13, 3) := by decide +kernel
theorem dX5_begins_37 : decode cX5_begins 37 = .ok (.iload_n 2, 1) := by decide +kernel
theorem dX5_begins_38 : decode cX5_begins 38 = .ok (.iconst 0, 1) := by decide +kernel
theorem dX5_begins_39 : decode cX5_begins 39 = .ok (.iastore, 1) := by decide +kernel
theorem dX5_begins_40 : decode cX5_begins 40 = .ok (.iinc 2 1, 3) := by decide +kernel
theorem dX5_begins_43 : decode cX5_begins 43 = .ok (.goto (-16), 3) := by decide +kernel
theorem dX5_begins_46 : decode cX5_begins 46 = .ok (.iconst 0, 1) := by decide +kernel
theorem dX5_begins_47 : decode cX5_begins 47 = .ok (.istore_n 2, 1) := by decide +kernel
theorem dX5_begins_48 : decode cX5_begins 48 = .ok (.iload_n 2, 1) := by decide +kernel
theorem dX5_begins_49 : decode cX5_begins 49 = .ok (.iconst 5, 1) := by decide +kernel
theorem dX5_begins_50 : decode cX5_begins 50 = .ok (.if_icmp .ge 16, 3) := by decide +kernel
theorem dX5_begins_53 : decode cX5_begins 53 = .ok (.aload_n 0, 1) := by decide +kernel
theorem dX5_begins_54 : decode cX5_begins 54 = .ok (.getfield 17, 3) := by decide +kernel
theorem dX5_begins_57 : decode cX5_begins 57 = .ok (.iload_n 2, 1) := by decide +kernel
theorem dX5_begins_58 : decode cX5_begins 58 = .ok (.iconst 0, 1) := by decide +kernel
theorem dX5_begins_59 : decode cX5_begins 59 = .ok (.bastore, 1) := by decide +kernel
theorem dX5_begins_60 : decode cX5_begins 60 = .ok (.iinc 2 1, 3) := by decide +kernel
theorem dX5_begins_63 : decode cX5_begins 63 = .ok (.goto (-15), 3) := by decide +kernel
theorem dX5_begins_66 : decode cX5_begins 66 = .ok (.iconst 0, 1) := by decide +kernel
theorem dX5_begins_67 : decode cX5_begins 67 = .ok (.istore_n 2, 1) := by decide +kernel
theorem dX5_begins_68 : decode cX5_begins 68 = .ok (.iload_n 2, 1) := by decide +kernel
theorem dX5_begins_69 : decode cX5_begins 69 = .ok (.bipush 100, 2) := by decide +kernel
theorem dX5_begins_71 : decode cX5_begins 71 = .ok (.if_icmp .ge 16, 3) := by decide +kernel
theorem dX5_begins_74 : decode cX5_begins 74 = .ok (.aload_n 0, 1) := by decide +kernel
theorem dX5_begins_75 : decode cX5_begins 75 = .ok (.getfield 21, 3) := by decide +kernel
theorem dX5_begins_78 : decode cX5_begins 78 = .ok (.iload_n 2, 1) := by decide +kernel
theorem dX5_begins_79 : decode cX5_begins 79 = .ok (.iconst (-1), 1) := by decide +kernel
theorem dX5_begins_80 : decode cX5_begins 80 = .ok (.iastore, 1) := by decide +kernel
theorem dX5_begins_81 : decode cX5_begins 81 = .ok (.iinc 2 1, 3) := by decide +kernel
theorem dX5_begins_84 : decode cX5_begins 84 = .ok (.goto (-16), 3) := by decide +kernel
theorem dX5_begins_87 : decode cX5_begins 87 = .ok (.return_, 1) := by decide +kernel
theorem dX5_isSite_0 : decode cX5_isSite 0 = .ok (.iload_n 1, 1) := by decide +kernel
theorem dX5_isSite_1 : decode cX5_isSite 1 = .ok (.ifCond .lt 15, 3) := by decide +kernel
theorem dX5_isSite_4 : decode cX5_isSite 4 = .ok (.iload_n 1, 1) := by decide +kernel
theorem dX5_isSite_5 : decode cX5_isSite 5 = .ok (.aload_n 0, 1) := by decide +kernel
theorem dX5_isSite_6 : decode cX5_isSite 6 = .ok (.getfield 7, 3) := by decide +kernel
theorem dX5_isSite_9 : decode cX5_isSite 9 = .ok (.if_icmp .ge 7, 3) := by decide +kernel
theorem dX5_isSite_12 : decode cX5_isSite 12 = .ok (.iconst 1, 1) := by decide +kernel
theorem dX5_isSite_13 : decode cX5_isSite 13 = .ok (.goto 4, 3) := by decide +kernel
theorem dX5_isSite_16 : decode cX5_isSite 16 = .ok (.iconst 0, 1) := by decide +kernel
theorem dX5_isSite_17 : decode cX5_isSite 17 = .ok (.ireturn, 1) := by decide +kernel
theorem dX5_isOne_0 : decode cX5_isOne 0 = .ok (.iload_n 1, 1) := by decide +kernel
theorem dX5_isOne_1 : decode cX5_isOne 1 = .ok (.ifCond .lt 15, 3) := by decide +kernel
theorem dX5_isOne_4 : decode cX5_isOne 4 = .ok (.iload_n 1, 1) := by decide +kernel
theorem dX5_isOne_5 : decode cX5_isOne 5 = .ok (.aload_n 0, 1) := by decide +kernel
theorem dX5_isOne_6 : decode cX5_isOne 6 = .ok (.getfield 88, 3) := by decide +kernel
theorem dX5_isOne_9 : decode cX5_isOne 9 = .ok (.if_icmp .ge 7, 3) := by decide +kernel
theorem dX5_isOne_12 : decode cX5_isOne 12 = .ok (.iconst 1, 1) := by decide +kernel
theorem dX5_isOne_13 : decode cX5_isOne 13 = .ok (.goto 4, 3) := by decide +kernel
theorem dX5_isOne_16 : decode cX5_isOne 16 = .ok (.iconst 0, 1) := by decide +kernel
theorem dX5_isOne_17 : decode cX5_isOne 17 = .ok (.ireturn, 1) := by decide +kernel
theorem dX5_isObject_0 : decode cX5_isObject 0 = .ok (.iload_n 0, 1) := by decide +kernel
theorem dX5_isObject_1 : decode cX5_isObject 1 = .ok (.ifCond .lt 13, 3) := by decide +kernel
theorem dX5_isObject_4 : decode cX5_isObject 4 = .ok (.iload_n 0, 1) := by decide +kernel
theorem dX5_isObject_5 : decode cX5_isObject 5 = .ok (.bipush 20, 2) := by decide +kernel
theorem dX5_isObject_7 : decode cX5_isObject 7 = .ok (.if_icmp .ge 7, 3) := by decide +kernel
theorem dX5_isObject_10 : decode cX5_isObject 10 = .ok (.iconst 1, 1) := by decide +kernel
theorem dX5_isObject_11 : decode cX5_isObject 11 = .ok (.goto 4, 3) := by decide +kernel
theorem dX5_isObject_14 : decode cX5_isObject 14 = .ok (.iconst 0, 1) := by decide +kernel
theorem dX5_isObject_15 : decode cX5_isObject 15 = .ok (.ireturn, 1) := by decide +kernel
theorem dX5_open_0 : decode cX5_open 0 = .ok (.aload_n 0, 1) := by decide +kernel
theorem dX5_open_1 : decode cX5_open 1 = .ok (.iload_n 1, 1) := by decide +kernel
theorem dX5_open_2 : decode cX5_open 2 = .ok (.iconst 2, 1) := by decide +kernel
theorem dX5_open_3 : decode cX5_open 3 = .ok (.if_icmp .lt 8, 3) := by decide +kernel
theorem dX5_open_6 : decode cX5_open 6 = .ok (.iload_n 1, 1) := by decide +kernel
theorem dX5_open_7 : decode cX5_open 7 = .ok (.iconst 5, 1) := by decide +kernel
theorem dX5_open_8 : decode cX5_open 8 = .ok (.if_icmp .le 7, 3) := by decide +kernel
theorem dX5_open_11 : decode cX5_open 11 = .ok (.iconst 1, 1) := by decide +kernel
theorem dX5_open_12 : decode cX5_open 12 = .ok (.goto 4, 3) := by decide +kernel
theorem dX5_open_15 : decode cX5_open 15 = .ok (.iconst 0, 1) := by decide +kernel
theorem dX5_open_16 : decode cX5_open 16 = .ok (.iconst 1, 1) := by decide +kernel
theorem dX5_open_17 : decode cX5_open 17 = .ok (.invokevirtual 97, 3) := by decide +kernel
theorem dX5_open_20 : decode cX5_open 20 = .ok (.ifCond .eq 4, 3) := by decide +kernel
theorem dX5_open_23 : decode cX5_open 23 = .ok (.return_, 1) := by decide +kernel
theorem dX5_open_24 : decode cX5_open 24 = .ok (.aload_n 0, 1) := by decide +kernel
theorem dX5_open_25 : decode cX5_open 25 = .ok (.iload_n 1, 1) := by decide +kernel
theorem dX5_open_26 : decode cX5_open 26 = .ok (.invokevirtual 78, 3) := by decide +kernel
theorem dX5_open_29 : decode cX5_open 29 = .ok (.return_, 1) := by decide +kernel
theorem dX5_begin_0 : decode cX5_begin 0 = .ok (.aload_n 0, 1) := by decide +kernel
theorem dX5_begin_1 : decode cX5_begin 1 = .ok (.aload_n 0, 1) := by decide +kernel
theorem dX5_begin_2 : decode cX5_begin 2 = .ok (.iload_n 1, 1) := by decide +kernel
theorem dX5_begin_3 : decode cX5_begin 3 = .ok (.invokevirtual 101, 3) := by decide +kernel
theorem dX5_begin_6 : decode cX5_begin 6 = .ok (.ifCond .ne 7, 3) := by decide +kernel
theorem dX5_begin_9 : decode cX5_begin 9 = .ok (.iconst 1, 1) := by decide +kernel
theorem dX5_begin_10 : decode cX5_begin 10 = .ok (.goto 4, 3) := by decide +kernel
theorem dX5_begin_13 : decode cX5_begin 13 = .ok (.iconst 0, 1) := by decide +kernel
theorem dX5_begin_14 : decode cX5_begin 14 = .ok (.iconst 1, 1) := by decide +kernel
theorem dX5_begin_15 : decode cX5_begin 15 = .ok (.invokevirtual 97, 3) := by decide +kernel
theorem dX5_begin_18 : decode cX5_begin 18 = .ok (.ifCond .ne 35, 3) := by decide +kernel
theorem dX5_begin_21 : decode cX5_begin 21 = .ok (.aload_n 0, 1) := by decide +kernel
theorem dX5_begin_22 : decode cX5_begin 22 = .ok (.aload_n 0, 1) := by decide +kernel
theorem dX5_begin_23 : decode cX5_begin 23 = .ok (.getfield 17, 3) := by decide +kernel
theorem dX5_begin_26 : decode cX5_begin 26 = .ok (.iload_n 1, 1) := by decide +kernel
theorem dX5_begin_27 : decode cX5_begin 27 = .ok (.baload, 1) := by decide +kernel
theorem dX5_begin_28 : decode cX5_begin 28 = .ok (.ifCond .ne 13, 3) := by decide +kernel
theorem dX5_begin_31 : decode cX5_begin 31 = .ok (.aload_n 0, 1) := by decide +kernel
theorem dX5_begin_32 : decode cX5_begin 32 = .ok (.getfield 88, 3) := by decide +kernel
theorem dX5_begin_35 : decode cX5_begin 35 = .ok (.sipush 200, 3) := by decide +kernel
theorem dX5_begin_38 : decode cX5_begin 38 = .ok (.if_icmp .ne 7, 3) := by decide +kernel
theorem dX5_begin_41 : decode cX5_begin 41 = .ok (.iconst 1, 1) := by decide +kernel
theorem dX5_begin_42 : decode cX5_begin 42 = .ok (.goto 4, 3) := by decide +kernel
theorem dX5_begin_45 : decode cX5_begin 45 = .ok (.iconst 0, 1) := by decide +kernel
theorem dX5_begin_46 : decode cX5_begin 46 = .ok (.iconst 2, 1) := by decide +kernel
theorem dX5_begin_47 : decode cX5_begin 47 = .ok (.invokevirtual 97, 3) := by decide +kernel
theorem dX5_begin_50 : decode cX5_begin 50 = .ok (.ifCond .eq 5, 3) := by decide +kernel
theorem dX5_begin_53 : decode cX5_begin 53 = .ok (.iconst 0, 1) := by decide +kernel
theorem dX5_begin_54 : decode cX5_begin 54 = .ok (.ireturn, 1) := by decide +kernel
theorem dX5_begin_55 : decode cX5_begin 55 = .ok (.aload_n 0, 1) := by decide +kernel
theorem dX5_begin_56 : decode cX5_begin 56 = .ok (.getfield 88, 3) := by decide +kernel
theorem dX5_begin_59 : decode cX5_begin 59 = .ok (.istore_n 2, 1) := by decide +kernel
theorem dX5_begin_60 : decode cX5_begin 60 = .ok (.aload_n 0, 1) := by decide +kernel
theorem dX5_begin_61 : decode cX5_begin 61 = .ok (.dup, 1) := by decide +kernel
theorem dX5_begin_62 : decode cX5_begin 62 = .ok (.getfield 88, 3) := by decide +kernel
theorem dX5_begin_65 : decode cX5_begin 65 = .ok (.iconst 1, 1) := by decide +kernel
theorem dX5_begin_66 : decode cX5_begin 66 = .ok (.iadd, 1) := by decide +kernel
theorem dX5_begin_67 : decode cX5_begin 67 = .ok (.putfield 88, 3) := by decide +kernel
theorem dX5_begin_70 : decode cX5_begin 70 = .ok (.aload_n 0, 1) := by decide +kernel
theorem dX5_begin_71 : decode cX5_begin 71 = .ok (.getfield 24, 3) := by decide +kernel
theorem dX5_begin_74 : decode cX5_begin 74 = .ok (.iload_n 2, 1) := by decide +kernel
theorem dX5_begin_75 : decode cX5_begin 75 = .ok (.iload_n 1, 1) := by decide +kernel
theorem dX5_begin_76 : decode cX5_begin 76 = .ok (.iastore, 1) := by decide +kernel
theorem dX5_begin_77 : decode cX5_begin 77 = .ok (.aload_n 0, 1) := by decide +kernel
theorem dX5_begin_78 : decode cX5_begin 78 = .ok (.getfield 27, 3) := by decide +kernel
theorem dX5_begin_81 : decode cX5_begin 81 = .ok (.iload_n 2, 1) := by decide +kernel
theorem dX5_begin_82 : decode cX5_begin 82 = .ok (.iconst 0, 1) := by decide +kernel
theorem dX5_begin_83 : decode cX5_begin 83 = .ok (.iastore, 1) := by decide +kernel
theorem dX5_begin_84 : decode cX5_begin 84 = .ok (.aload_n 0, 1) := by decide +kernel
theorem dX5_begin_85 : decode cX5_begin 85 = .ok (.getfield 30, 3) := by decide +kernel
theorem dX5_begin_88 : decode cX5_begin 88 = .ok (.iload_n 2, 1) := by decide +kernel
theorem dX5_begin_89 : decode cX5_begin 89 = .ok (.iconst 0, 1) := by decide +kernel
theorem dX5_begin_90 : decode cX5_begin 90 = .ok (.iastore, 1) := by decide +kernel
theorem dX5_begin_91 : decode cX5_begin 91 = .ok (.aload_n 0, 1) := by decide +kernel
theorem dX5_begin_92 : decode cX5_begin 92 = .ok (.getfield 63, 3) := by decide +kernel
theorem dX5_begin_95 : decode cX5_begin 95 = .ok (.iload_n 2, 1) := by decide +kernel
theorem dX5_begin_96 : decode cX5_begin 96 = .ok (.iconst 0, 1) := by decide +kernel
theorem dX5_begin_97 : decode cX5_begin 97 = .ok (.iastore, 1) := by decide +kernel
theorem dX5_begin_98 : decode cX5_begin 98 = .ok (.aload_n 0, 1) := by decide +kernel
theorem dX5_begin_99 : decode cX5_begin 99 = .ok (.getfield 66, 3) := by decide +kernel
theorem dX5_begin_102 : decode cX5_begin 102 = .ok (.iload_n 2, 1) := by decide +kernel
theorem dX5_begin_103 : decode cX5_begin 103 = .ok (.iconst 0, 1) := by decide +kernel
theorem dX5_begin_104 : decode cX5_begin 104 = .ok (.bastore, 1) := by decide +kernel
theorem dX5_begin_105 : decode cX5_begin 105 = .ok (.aload_n 0, 1) := by decide +kernel
theorem dX5_begin_106 : decode cX5_begin 106 = .ok (.getfield 69, 3) := by decide +kernel
theorem dX5_begin_109 : decode cX5_begin 109 = .ok (.iload_n 2, 1) := by decide +kernel
theorem dX5_begin_110 : decode cX5_begin 110 = .ok (.iconst 0, 1) := by decide +kernel
theorem dX5_begin_111 : decode cX5_begin 111 = .ok (.bastore, 1) := by decide +kernel
theorem dX5_begin_112 : decode cX5_begin 112 = .ok (.iconst 0, 1) := by decide +kernel
theorem dX5_begin_113 : decode cX5_begin 113 = .ok (.istore_n 3, 1) := by decide +kernel
theorem dX5_begin_114 : decode cX5_begin 114 = .ok (.iload_n 3, 1) := by decide +kernel
theorem dX5_begin_115 : decode cX5_begin 115 = .ok (.iconst 5, 1) := by decide +kernel
theorem dX5_begin_116 : decode cX5_begin 116 = .ok (.if_icmp .ge 84, 3) := by decide +kernel
theorem dX5_begin_119 : decode cX5_begin 119 = .ok (.aload_n 0, 1) := by decide +kernel
theorem dX5_begin_120 : decode cX5_begin 120 = .ok (.getfield 33, 3) := by decide +kernel
theorem dX5_begin_123 : decode cX5_begin 123 = .ok (.iconst 5, 1) := by decide +kernel
theorem dX5_begin_124 : decode cX5_begin 124 = .ok (.iload_n 2, 1) := by decide +kernel
theorem dX5_begin_125 : decode cX5_begin 125 = .ok (.imul, 1) := by decide +kernel
theorem dX5_begin_126 : decode cX5_begin 126 = .ok (.iload_n 3, 1) := by decide +kernel
theorem dX5_begin_127 : decode cX5_begin 127 = .ok (.iadd, 1) := by decide +kernel
theorem dX5_begin_128 : decode cX5_begin 128 = .ok (.aload_n 0, 1) := by decide +kernel
theorem dX5_begin_129 : decode cX5_begin 129 = .ok (.getfield 13, 3) := by decide +kernel
theorem dX5_begin_132 : decode cX5_begin 132 = .ok (.iconst 5, 1) := by decide +kernel
theorem dX5_begin_133 : decode cX5_begin 133 = .ok (.iload_n 1, 1) := by decide +kernel
theorem dX5_begin_134 : decode cX5_begin 134 = .ok (.imul, 1) := by decide +kernel
theorem dX5_begin_135 : decode cX5_begin 135 = .ok (.iload_n 3, 1) := by decide +kernel
theorem dX5_begin_136 : decode cX5_begin 136 = .ok (.iadd, 1) := by decide +kernel
theorem dX5_begin_137 : decode cX5_begin 137 = .ok (.iaload, 1) := by decide +kernel
theorem dX5_begin_138 : decode cX5_begin 138 = .ok (.iastore, 1) := by decide +kernel
theorem dX5_begin_139 : decode cX5_begin 139 = .ok (.aload_n 0, 1) := by decide +kernel
theorem dX5_begin_140 : decode cX5_begin 140 = .ok (.getfield 36, 3) := by decide +kernel
theorem dX5_begin_143 : decode cX5_begin 143 = .ok (.iconst 5, 1) := by decide +kernel
theorem dX5_begin_144 : decode cX5_begin 144 = .ok (.iload_n 2, 1) := by decide +kernel
theorem dX5_begin_145 : decode cX5_begin 145 = .ok (.imul, 1) := by decide +kernel
theorem dX5_begin_146 : decode cX5_begin 146 = .ok (.iload_n 3, 1) := by decide +kernel
theorem dX5_begin_147 : decode cX5_begin 147 = .ok (.iadd, 1) := by decide +kernel
theorem dX5_begin_148 : decode cX5_begin 148 = .ok (.iconst 0, 1) := by decide +kernel
theorem dX5_begin_149 : decode cX5_begin 149 = .ok (.iastore, 1) := by decide +kernel
theorem dX5_begin_150 : decode cX5_begin 150 = .ok (.aload_n 0, 1) := by decide +kernel
theorem dX5_begin_151 : decode cX5_begin 151 = .ok (.getfield 39, 3) := by decide +kernel
theorem dX5_begin_154 : decode cX5_begin 154 = .ok (.iconst 5, 1) := by decide +kernel
theorem dX5_begin_155 : decode cX5_begin 155 = .ok (.iload_n 2, 1) := by decide +kernel
theorem dX5_begin_156 : decode cX5_begin 156 = .ok (.imul, 1) := by decide +kernel
theorem dX5_begin_157 : decode cX5_begin 157 = .ok (.iload_n 3, 1) := by decide +kernel
theorem dX5_begin_158 : decode cX5_begin 158 = .ok (.iadd, 1) := by decide +kernel
theorem dX5_begin_159 : decode cX5_begin 159 = .ok (.iconst 0, 1) := by decide +kernel
theorem dX5_begin_160 : decode cX5_begin 160 = .ok (.bastore, 1) := by decide +kernel
theorem dX5_begin_161 : decode cX5_begin 161 = .ok (.aload_n 0, 1) := by decide +kernel
theorem dX5_begin_162 : decode cX5_begin 162 = .ok (.getfield 42, 3) := by decide +kernel
theorem dX5_begin_165 : decode cX5_begin 165 = .ok (.iconst 5, 1) := by decide +kernel
theorem dX5_begin_166 : decode cX5_begin 166 = .ok (.iload_n 2, 1) := by decide +kernel
theorem dX5_begin_167 : decode cX5_begin 167 = .ok (.imul, 1) := by decide +kernel
theorem dX5_begin_168 : decode cX5_begin 168 = .ok (.iload_n 3, 1) := by decide +kernel
theorem dX5_begin_169 : decode cX5_begin 169 = .ok (.iadd, 1) := by decide +kernel
theorem dX5_begin_170 : decode cX5_begin 170 = .ok (.iconst 0, 1) := by decide +kernel
theorem dX5_begin_171 : decode cX5_begin 171 = .ok (.bastore, 1) := by decide +kernel
theorem dX5_begin_172 : decode cX5_begin 172 = .ok (.aload_n 0, 1) := by decide +kernel
theorem dX5_begin_173 : decode cX5_begin 173 = .ok (.getfield 45, 3) := by decide +kernel
theorem dX5_begin_176 : decode cX5_begin 176 = .ok (.iconst 5, 1) := by decide +kernel
theorem dX5_begin_177 : decode cX5_begin 177 = .ok (.iload_n 2, 1) := by decide +kernel
theorem dX5_begin_178 : decode cX5_begin 178 = .ok (.imul, 1) := by decide +kernel
theorem dX5_begin_179 : decode cX5_begin 179 = .ok (.iload_n 3, 1) := by decide +kernel
theorem dX5_begin_180 : decode cX5_begin 180 = .ok (.iadd, 1) := by decide +kernel
theorem dX5_begin_181 : decode cX5_begin 181 = .ok (.iconst 0, 1) := by decide +kernel
theorem dX5_begin_182 : decode cX5_begin 182 = .ok (.bastore, 1) := by decide +kernel
theorem dX5_begin_183 : decode cX5_begin 183 = .ok (.aload_n 0, 1) := by decide +kernel
theorem dX5_begin_184 : decode cX5_begin 184 = .ok (.getfield 48, 3) := by decide +kernel
theorem dX5_begin_187 : decode cX5_begin 187 = .ok (.iconst 5, 1) := by decide +kernel
theorem dX5_begin_188 : decode cX5_begin 188 = .ok (.iload_n 2, 1) := by decide +kernel
theorem dX5_begin_189 : decode cX5_begin 189 = .ok (.imul, 1) := by decide +kernel
theorem dX5_begin_190 : decode cX5_begin 190 = .ok (.iload_n 3, 1) := by decide +kernel
theorem dX5_begin_191 : decode cX5_begin 191 = .ok (.iadd, 1) := by decide +kernel
theorem dX5_begin_192 : decode cX5_begin 192 = .ok (.iconst 0, 1) := by decide +kernel
theorem dX5_begin_193 : decode cX5_begin 193 = .ok (.bastore, 1) := by decide +kernel
theorem dX5_begin_194 : decode cX5_begin 194 = .ok (.iinc 3 1, 3) := by decide +kernel
theorem dX5_begin_197 : decode cX5_begin 197 = .ok (.goto (-83), 3) := by decide +kernel
theorem dX5_begin_200 : decode cX5_begin 200 = .ok (.iconst 0, 1) := by decide +kernel
theorem dX5_begin_201 : decode cX5_begin 201 = .ok (.istore_n 3, 1) := by decide +kernel
theorem dX5_begin_202 : decode cX5_begin 202 = .ok (.iload_n 3, 1) := by decide +kernel
theorem dX5_begin_203 : decode cX5_begin 203 = .ok (.bipush 20, 2) := by decide +kernel
theorem dX5_begin_205 : decode cX5_begin 205 = .ok (.if_icmp .ge 21, 3) := by decide +kernel
theorem dX5_begin_208 : decode cX5_begin 208 = .ok (.aload_n 0, 1) := by decide +kernel
theorem dX5_begin_209 : decode cX5_begin 209 = .ok (.getfield 51, 3) := by decide +kernel
theorem dX5_begin_212 : decode cX5_begin 212 = .ok (.bipush 20, 2) := by decide +kernel
theorem dX5_begin_214 : decode cX5_begin 214 = .ok (.iload_n 2, 1) := by decide +kernel
theorem dX5_begin_215 : decode cX5_begin 215 = .ok (.imul, 1) := by decide +kernel
theorem dX5_begin_216 : decode cX5_begin 216 = .ok (.iload_n 3, 1) := by decide +kernel
theorem dX5_begin_217 : decode cX5_begin 217 = .ok (.iadd, 1) := by decide +kernel
theorem dX5_begin_218 : decode cX5_begin 218 = .ok (.iconst 0, 1) := by decide +kernel
theorem dX5_begin_219 : decode cX5_begin 219 = .ok (.bastore, 1) := by decide +kernel
theorem dX5_begin_220 : decode cX5_begin 220 = .ok (.iinc 3 1, 3) := by decide +kernel
theorem dX5_begin_223 : decode cX5_begin 223 = .ok (.goto (-21), 3) := by decide +kernel
theorem dX5_begin_226 : decode cX5_begin 226 = .ok (.iload_n 2, 1) := by decide +kernel
theorem dX5_begin_227 : decode cX5_begin 227 = .ok (.ireturn, 1) := by decide +kernel
theorem dX5_sees_0 : decode cX5_sees 0 = .ok (.aload_n 0, 1) := by decide +kernel
theorem dX5_sees_1 : decode cX5_sees 1 = .ok (.getfield 27, 3) := by decide +kernel
theorem dX5_sees_4 : decode cX5_sees 4 = .ok (.iload_n 2, 1) := by decide +kernel
theorem dX5_sees_5 : decode cX5_sees 5 = .ok (.iaload, 1) := by decide +kernel
theorem dX5_sees_6 : decode cX5_sees 6 = .ok (.iconst 2, 1) := by decide +kernel
theorem dX5_sees_7 : decode cX5_sees 7 = .ok (.if_icmp .ne 31, 3) := by decide +kernel
theorem dX5_sees_10 : decode cX5_sees 10 = .ok (.aload_n 0, 1) := by decide +kernel
theorem dX5_sees_11 : decode cX5_sees 11 = .ok (.getfield 30, 3) := by decide +kernel
theorem dX5_sees_14 : decode cX5_sees 14 = .ok (.iload_n 2, 1) := by decide +kernel
theorem dX5_sees_15 : decode cX5_sees 15 = .ok (.iaload, 1) := by decide +kernel
theorem dX5_sees_16 : decode cX5_sees 16 = .ok (.aload_n 0, 1) := by decide +kernel
theorem dX5_sees_17 : decode cX5_sees 17 = .ok (.getfield 33, 3) := by decide +kernel
theorem dX5_sees_20 : decode cX5_sees 20 = .ok (.iconst 5, 1) := by decide +kernel
theorem dX5_sees_21 : decode cX5_sees 21 = .ok (.iload_n 1, 1) := by decide +kernel
theorem dX5_sees_22 : decode cX5_sees 22 = .ok (.imul, 1) := by decide +kernel
theorem dX5_sees_23 : decode cX5_sees 23 = .ok (.aload_n 0, 1) := by decide +kernel
theorem dX5_sees_24 : decode cX5_sees 24 = .ok (.getfield 24, 3) := by decide +kernel
theorem dX5_sees_27 : decode cX5_sees 27 = .ok (.iload_n 2, 1) := by decide +kernel
theorem dX5_sees_28 : decode cX5_sees 28 = .ok (.iaload, 1) := by decide +kernel
theorem dX5_sees_29 : decode cX5_sees 29 = .ok (.iadd, 1) := by decide +kernel
theorem dX5_sees_30 : decode cX5_sees 30 = .ok (.iaload, 1) := by decide +kernel
theorem dX5_sees_31 : decode cX5_sees 31 = .ok (.if_icmp .gt 7, 3) := by decide +kernel
theorem dX5_sees_34 : decode cX5_sees 34 = .ok (.iconst 1, 1) := by decide +kernel
theorem dX5_sees_35 : decode cX5_sees 35 = .ok (.goto 4, 3) := by decide +kernel
theorem dX5_sees_38 : decode cX5_sees 38 = .ok (.iconst 0, 1) := by decide +kernel
theorem dX5_sees_39 : decode cX5_sees 39 = .ok (.ireturn, 1) := by decide +kernel
theorem dX5_latest_0 : decode cX5_latest 0 = .ok (.iconst 0, 1) := by decide +kernel
theorem dX5_latest_1 : decode cX5_latest 1 = .ok (.istore 4, 2) := by decide +kernel
theorem dX5_latest_3 : decode cX5_latest 3 = .ok (.iconst 0, 1) := by decide +kernel
theorem dX5_latest_4 : decode cX5_latest 4 = .ok (.istore 5, 2) := by decide +kernel
theorem dX5_latest_6 : decode cX5_latest 6 = .ok (.iconst 0, 1) := by decide +kernel
theorem dX5_latest_7 : decode cX5_latest 7 = .ok (.istore 6, 2) := by decide +kernel
theorem dX5_latest_9 : decode cX5_latest 9 = .ok (.iload 6, 2) := by decide +kernel
theorem dX5_latest_11 : decode cX5_latest 11 = .ok (.aload_n 0, 1) := by decide +kernel
theorem dX5_latest_12 : decode cX5_latest 12 = .ok (.getfield 88, 3) := by decide +kernel
theorem dX5_latest_15 : decode cX5_latest 15 = .ok (.if_icmp .ge 94, 3) := by decide +kernel
theorem dX5_latest_18 : decode cX5_latest 18 = .ok (.iload_n 3, 1) := by decide +kernel
theorem dX5_latest_19 : decode cX5_latest 19 = .ok (.iconst (-1), 1) := by decide +kernel
theorem dX5_latest_20 : decode cX5_latest 20 = .ok (.if_icmp .eq 13, 3) := by decide +kernel
theorem dX5_latest_23 : decode cX5_latest 23 = .ok (.aload_n 0, 1) := by decide +kernel
theorem dX5_latest_24 : decode cX5_latest 24 = .ok (.iload_n 3, 1) := by decide +kernel
theorem dX5_latest_25 : decode cX5_latest 25 = .ok (.iload 6, 2) := by decide +kernel
theorem dX5_latest_27 : decode cX5_latest 27 = .ok (.invokevirtual 105, 3) := by decide +kernel
theorem dX5_latest_30 : decode cX5_latest 30 = .ok (.ifCond .eq 7, 3) := by decide +kernel
theorem dX5_latest_33 : decode cX5_latest 33 = .ok (.iconst 1, 1) := by decide +kernel
theorem dX5_latest_34 : decode cX5_latest 34 = .ok (.goto 4, 3) := by decide +kernel
theorem dX5_latest_37 : decode cX5_latest 37 = .ok (.iconst 0, 1) := by decide +kernel
theorem dX5_latest_38 : decode cX5_latest 38 = .ok (.istore 7, 2) := by decide +kernel
theorem dX5_latest_40 : decode cX5_latest 40 = .ok (.iload 7, 2) := by decide +kernel
theorem dX5_latest_42 : decode cX5_latest 42 = .ok (.ifCond .eq 61, 3) := by decide +kernel
theorem dX5_latest_45 : decode cX5_latest 45 = .ok (.aload_n 0, 1) := by decide +kernel
theorem dX5_latest_46 : decode cX5_latest 46 = .ok (.getfield 51, 3) := by decide +kernel
theorem dX5_latest_49 : decode cX5_latest 49 = .ok (.bipush 20, 2) := by decide +kernel
theorem dX5_latest_51 : decode cX5_latest 51 = .ok (.iload 6, 2) := by decide +kernel
theorem dX5_latest_53 : decode cX5_latest 53 = .ok (.imul, 1) := by decide +kernel
theorem dX5_latest_54 : decode cX5_latest 54 = .ok (.iload_n 2, 1) := by decide +kernel
theorem dX5_latest_55 : decode cX5_latest 55 = .ok (.iadd, 1) := by decide +kernel
theorem dX5_latest_56 : decode cX5_latest 56 = .ok (.baload, 1) := by decide +kernel
theorem dX5_latest_57 : decode cX5_latest 57 = .ok (.ifCond .eq 46, 3) := by decide +kernel
theorem dX5_latest_60 : decode cX5_latest 60 = .ok (.aload_n 0, 1) := by decide +kernel
theorem dX5_latest_61 : decode cX5_latest 61 = .ok (.getfield 36, 3) := by decide +kernel
theorem dX5_latest_64 : decode cX5_latest 64 = .ok (.iconst 5, 1) := by decide +kernel
theorem dX5_latest_65 : decode cX5_latest 65 = .ok (.iload 6, 2) := by decide +kernel
theorem dX5_latest_67 : decode cX5_latest 67 = .ok (.imul, 1) := by decide +kernel
theorem dX5_latest_68 : decode cX5_latest 68 = .ok (.iload_n 1, 1) := by decide +kernel
theorem dX5_latest_69 : decode cX5_latest 69 = .ok (.iadd, 1) := by decide +kernel
theorem dX5_latest_70 : decode cX5_latest 70 = .ok (.iaload, 1) := by decide +kernel
theorem dX5_latest_71 : decode cX5_latest 71 = .ok (.iload 4, 2) := by decide +kernel
theorem dX5_latest_73 : decode cX5_latest 73 = .ok (.if_icmp .le 30, 3) := by decide +kernel
theorem dX5_latest_76 : decode cX5_latest 76 = .ok (.aload_n 0, 1) := by decide +kernel
theorem dX5_latest_77 : decode cX5_latest 77 = .ok (.getfield 36, 3) := by decide +kernel
theorem dX5_latest_80 : decode cX5_latest 80 = .ok (.iconst 5, 1) := by decide +kernel
theorem dX5_latest_81 : decode cX5_latest 81 = .ok (.iload 6, 2) := by decide +kernel
theorem dX5_latest_83 : decode cX5_latest 83 = .ok (.imul, 1) := by decide +kernel
theorem dX5_latest_84 : decode cX5_latest 84 = .ok (.iload_n 1, 1) := by decide +kernel
theorem dX5_latest_85 : decode cX5_latest 85 = .ok (.iadd, 1) := by decide +kernel
theorem dX5_latest_86 : decode cX5_latest 86 = .ok (.iaload, 1) := by decide +kernel
theorem dX5_latest_87 : decode cX5_latest 87 = .ok (.istore 4, 2) := by decide +kernel
theorem dX5_latest_89 : decode cX5_latest 89 = .ok (.aload_n 0, 1) := by decide +kernel
theorem dX5_latest_90 : decode cX5_latest 90 = .ok (.getfield 54, 3) := by decide +kernel
theorem dX5_latest_93 : decode cX5_latest 93 = .ok (.bipush 20, 2) := by decide +kernel
theorem dX5_latest_95 : decode cX5_latest 95 = .ok (.iload 6, 2) := by decide +kernel
theorem dX5_latest_97 : decode cX5_latest 97 = .ok (.imul, 1) := by decide +kernel
theorem dX5_latest_98 : decode cX5_latest 98 = .ok (.iload_n 2, 1) := by decide +kernel
theorem dX5_latest_99 : decode cX5_latest 99 = .ok (.iadd, 1) := by decide +kernel
theorem dX5_latest_100 : decode cX5_latest 100 = .ok (.iaload, 1) := by decide +kernel
theorem dX5_latest_101 : decode cX5_latest 101 = .ok (.istore 5, 2) := by decide +kernel
theorem dX5_latest_103 : decode cX5_latest 103 = .ok (.iinc 6 1, 3) := by decide +kernel
theorem dX5_latest_106 : decode cX5_latest 106 = .ok (.goto (-97), 3) := by decide +kernel
theorem dX5_latest_109 : decode cX5_latest 109 = .ok (.iload 5, 2) := by decide +kernel
theorem dX5_latest_111 : decode cX5_latest 111 = .ok (.ireturn, 1) := by decide +kernel
theorem dX5_read_0 : decode cX5_read 0 = .ok (.aload_n 0, 1) := by decide +kernel
theorem dX5_read_1 : decode cX5_read 1 = .ok (.aload_n 0, 1) := by decide +kernel
theorem dX5_read_2 : decode cX5_read 2 = .ok (.iload_n 1, 1) := by decide +kernel
theorem dX5_read_3 : decode cX5_read 3 = .ok (.invokevirtual 109, 3) := by decide +kernel
theorem dX5_read_6 : decode cX5_read 6 = .ok (.ifCond .eq 10, 3) := by decide +kernel
theorem dX5_read_9 : decode cX5_read 9 = .ok (.iload_n 2, 1) := by decide +kernel
theorem dX5_read_10 : decode cX5_read 10 = .ok (.invokestatic 112, 3) := by decide +kernel
theorem dX5_read_13 : decode cX5_read 13 = .ok (.ifCond .ne 7, 3) := by decide +kernel
theorem dX5_read_16 : decode cX5_read 16 = .ok (.iconst 1, 1) := by decide +kernel
theorem dX5_read_17 : decode cX5_read 17 = .ok (.goto 4, 3) := by decide +kernel
theorem dX5_read_20 : decode cX5_read 20 = .ok (.iconst 0, 1) := by decide +kernel
theorem dX5_read_21 : decode cX5_read 21 = .ok (.iconst 1, 1) := by decide +kernel
theorem dX5_read_22 : decode cX5_read 22 = .ok (.invokevirtual 97, 3) := by decide +kernel
theorem dX5_read_25 : decode cX5_read 25 = .ok (.ifCond .ne 25, 3) := by decide +kernel
theorem dX5_read_28 : decode cX5_read 28 = .ok (.aload_n 0, 1) := by decide +kernel
theorem dX5_read_29 : decode cX5_read 29 = .ok (.aload_n 0, 1) := by decide +kernel
theorem dX5_read_30 : decode cX5_read 30 = .ok (.getfield 27, 3) := by decide +kernel
theorem dX5_read_33 : decode cX5_read 33 = .ok (.iload_n 1, 1) := by decide +kernel
theorem dX5_read_34 : decode cX5_read 34 = .ok (.iaload, 1) := by decide +kernel
theorem dX5_read_35 : decode cX5_read 35 = .ok (.ifCond .eq 7, 3) := by decide +kernel
theorem dX5_read_38 : decode cX5_read 38 = .ok (.iconst 1, 1) := by decide +kernel
theorem dX5_read_39 : decode cX5_read 39 = .ok (.goto 4, 3) := by decide +kernel
theorem dX5_read_42 : decode cX5_read 42 = .ok (.iconst 0, 1) := by decide +kernel
theorem dX5_read_43 : decode cX5_read 43 = .ok (.iconst 2, 1) := by decide +kernel
theorem dX5_read_44 : decode cX5_read 44 = .ok (.invokevirtual 97, 3) := by decide +kernel
theorem dX5_read_47 : decode cX5_read 47 = .ok (.ifCond .eq 5, 3) := by decide +kernel
theorem dX5_read_50 : decode cX5_read 50 = .ok (.iconst 0, 1) := by decide +kernel
theorem dX5_read_51 : decode cX5_read 51 = .ok (.ireturn, 1) := by decide +kernel
theorem dX5_read_52 : decode cX5_read 52 = .ok (.aload_n 0, 1) := by decide +kernel
theorem dX5_read_53 : decode cX5_read 53 = .ok (.getfield 51, 3) := by decide +kernel
theorem dX5_read_56 : decode cX5_read 56 = .ok (.bipush 20, 2) := by decide +kernel
theorem dX5_read_58 : decode cX5_read 58 = .ok (.iload_n 1, 1) := by decide +kernel
theorem dX5_read_59 : decode cX5_read 59 = .ok (.imul, 1) := by decide +kernel
theorem dX5_read_60 : decode cX5_read 60 = .ok (.iload_n 2, 1) := by decide +kernel
theorem dX5_read_61 : decode cX5_read 61 = .ok (.iadd, 1) := by decide +kernel
theorem dX5_read_62 : decode cX5_read 62 = .ok (.baload, 1) := by decide +kernel
theorem dX5_read_63 : decode cX5_read 63 = .ok (.ifCond .eq 17, 3) := by decide +kernel
theorem dX5_read_66 : decode cX5_read 66 = .ok (.aload_n 0, 1) := by decide +kernel
theorem dX5_read_67 : decode cX5_read 67 = .ok (.getfield 54, 3) := by decide +kernel
theorem dX5_read_70 : decode cX5_read 70 = .ok (.bipush 20, 2) := by decide +kernel
theorem dX5_read_72 : decode cX5_read 72 = .ok (.iload_n 1, 1) := by decide +kernel
theorem dX5_read_73 : decode cX5_read 73 = .ok (.imul, 1) := by decide +kernel
theorem dX5_read_74 : decode cX5_read 74 = .ok (.iload_n 2, 1) := by decide +kernel
theorem dX5_read_75 : decode cX5_read 75 = .ok (.iadd, 1) := by decide +kernel
theorem dX5_read_76 : decode cX5_read 76 = .ok (.iaload, 1) := by decide +kernel
theorem dX5_read_77 : decode cX5_read 77 = .ok (.goto 15, 3) := by decide +kernel
theorem dX5_read_80 : decode cX5_read 80 = .ok (.aload_n 0, 1) := by decide +kernel
theorem dX5_read_81 : decode cX5_read 81 = .ok (.aload_n 0, 1) := by decide +kernel
theorem dX5_read_82 : decode cX5_read 82 = .ok (.getfield 24, 3) := by decide +kernel
theorem dX5_read_85 : decode cX5_read 85 = .ok (.iload_n 1, 1) := by decide +kernel
theorem dX5_read_86 : decode cX5_read 86 = .ok (.iaload, 1) := by decide +kernel
theorem dX5_read_87 : decode cX5_read 87 = .ok (.iload_n 2, 1) := by decide +kernel
theorem dX5_read_88 : decode cX5_read 88 = .ok (.iload_n 1, 1) := by decide +kernel
theorem dX5_read_89 : decode cX5_read 89 = .ok (.invokevirtual 115, 3) := by decide +kernel
theorem dX5_read_92 : decode cX5_read 92 = .ok (.ireturn, 1) := by decide +kernel
theorem dX5_objectsOf_0 : decode cX5_objectsOf 0 = .ok (.iconst 0, 1) := by decide +kernel
theorem dX5_objectsOf_1 : decode cX5_objectsOf 1 = .ok (.istore_n 2, 1) := by decide +kernel
theorem dX5_objectsOf_2 : decode cX5_objectsOf 2 = .ok (.iconst 0, 1) := by decide +kernel
theorem dX5_objectsOf_3 : decode cX5_objectsOf 3 = .ok (.istore_n 3, 1) := by decide +kernel
theorem dX5_objectsOf_4 : decode cX5_objectsOf 4 = .ok (.iload_n 3, 1) := by decide +kernel
theorem dX5_objectsOf_5 : decode cX5_objectsOf 5 = .ok (.bipush 20, 2) := by decide +kernel
theorem dX5_objectsOf_7 : decode cX5_objectsOf 7 = .ok (.if_icmp .ge 31, 3) := by decide +kernel
theorem dX5_objectsOf_10 : decode cX5_objectsOf 10 = .ok (.iload_n 2, 1) := by decide +kernel
theorem dX5_objectsOf_11 : decode cX5_objectsOf 11 = .ok (.aload_n 0, 1) := by decide +kernel
theorem dX5_objectsOf_12 : decode cX5_objectsOf 12 = .ok (.getfield 51, 3) := by decide +kernel
theorem dX5_objectsOf_15 : decode cX5_objectsOf 15 = .ok (.bipush 20, 2) := by decide +kernel
theorem dX5_objectsOf_17 : decode cX5_objectsOf 17 = .ok (.iload_n 1, 1) := by decide +kernel
theorem dX5_objectsOf_18 : decode cX5_objectsOf 18 = .ok (.imul, 1) := by decide +kernel
theorem dX5_objectsOf_19 : decode cX5_objectsOf 19 = .ok (.iload_n 3, 1) := by decide +kernel
theorem dX5_objectsOf_20 : decode cX5_objectsOf 20 = .ok (.iadd, 1) := by decide +kernel
theorem dX5_objectsOf_21 : decode cX5_objectsOf 21 = .ok (.baload, 1) := by decide +kernel
theorem dX5_objectsOf_22 : decode cX5_objectsOf 22 = .ok (.ifCond .eq 7, 3) := by decide +kernel
theorem dX5_objectsOf_25 : decode cX5_objectsOf 25 = .ok (.iconst 1, 1) := by decide +kernel
theorem dX5_objectsOf_26 : decode cX5_objectsOf 26 = .ok (.goto 4, 3) := by decide +kernel
theorem dX5_objectsOf_29 : decode cX5_objectsOf 29 = .ok (.iconst 0, 1) := by decide +kernel
theorem dX5_objectsOf_30 : decode cX5_objectsOf 30 = .ok (.iadd, 1) := by decide +kernel
theorem dX5_objectsOf_31 : decode cX5_objectsOf 31 = .ok (.istore_n 2, 1) := by decide +kernel
theorem dX5_objectsOf_32 : decode cX5_objectsOf 32 = .ok (.iinc 3 1, 3) := by decide +kernel
theorem dX5_objectsOf_35 : decode cX5_objectsOf 35 = .ok (.goto (-31), 3) := by decide +kernel
theorem dX5_objectsOf_38 : decode cX5_objectsOf 38 = .ok (.iload_n 2, 1) := by decide +kernel
theorem dX5_objectsOf_39 : decode cX5_objectsOf 39 = .ok (.ireturn, 1) := by decide +kernel
theorem dX5_write_0 : decode cX5_write 0 = .ok (.aload_n 0, 1) := by decide +kernel
theorem dX5_write_1 : decode cX5_write 1 = .ok (.aload_n 0, 1) := by decide +kernel
theorem dX5_write_2 : decode cX5_write 2 = .ok (.iload_n 1, 1) := by decide +kernel
theorem dX5_write_3 : decode cX5_write 3 = .ok (.invokevirtual 109, 3) := by decide +kernel
theorem dX5_write_6 : decode cX5_write 6 = .ok (.ifCond .eq 10, 3) := by decide +kernel
theorem dX5_write_9 : decode cX5_write 9 = .ok (.iload_n 2, 1) := by decide +kernel
theorem dX5_write_10 : decode cX5_write 10 = .ok (.invokestatic 112, 3) := by decide +kernel
theorem dX5_write_13 : decode cX5_write 13 = .ok (.ifCond .ne 7, 3) := by decide +kernel
theorem dX5_write_16 : decode cX5_write 16 = .ok (.iconst 1, 1) := by decide +kernel
theorem dX5_write_17 : decode cX5_write 17 = .ok (.goto 4, 3) := by decide +kernel
theorem dX5_write_20 : decode cX5_write 20 = .ok (.iconst 0, 1) := by decide +kernel
theorem dX5_write_21 : decode cX5_write 21 = .ok (.iconst 1, 1) := by decide +kernel
theorem dX5_write_22 : decode cX5_write 22 = .ok (.invokevirtual 97, 3) := by decide +kernel
theorem dX5_write_25 : decode cX5_write 25 = .ok (.ifCond .ne 49, 3) := by decide +kernel
theorem dX5_write_28 : decode cX5_write 28 = .ok (.aload_n 0, 1) := by decide +kernel
theorem dX5_write_29 : decode cX5_write 29 = .ok (.aload_n 0, 1) := by decide +kernel
theorem dX5_write_30 : decode cX5_write 30 = .ok (.getfield 27, 3) := by decide +kernel
theorem dX5_write_33 : decode cX5_write 33 = .ok (.iload_n 1, 1) := by decide +kernel
theorem dX5_write_34 : decode cX5_write 34 = .ok (.iaload, 1) := by decide +kernel
theorem dX5_write_35 : decode cX5_write 35 = .ok (.ifCond .ne 27, 3) := by decide +kernel
theorem dX5_write_38 : decode cX5_write 38 = .ok (.aload_n 0, 1) := by decide +kernel
theorem dX5_write_39 : decode cX5_write 39 = .ok (.getfield 51, 3) := by decide +kernel
theorem dX5_write_42 : decode cX5_write 42 = .ok (.bipush 20, 2) := by decide +kernel
theorem dX5_write_44 : decode cX5_write 44 = .ok (.iload_n 1, 1) := by decide +kernel
theorem dX5_write_45 : decode cX5_write 45 = .ok (.imul, 1) := by decide +kernel
theorem dX5_write_46 : decode cX5_write 46 = .ok (.iload_n 2, 1) := by decide +kernel
theorem dX5_write_47 : decode cX5_write 47 = .ok (.iadd, 1) := by decide +kernel
theorem dX5_write_48 : decode cX5_write 48 = .ok (.baload, 1) := by decide +kernel
theorem dX5_write_49 : decode cX5_write 49 = .ok (.ifCond .ne 17, 3) := by decide +kernel
theorem dX5_write_52 : decode cX5_write 52 = .ok (.aload_n 0, 1) := by decide +kernel
theorem dX5_write_53 : decode cX5_write 53 = .ok (.iload_n 1, 1) := by decide +kernel
theorem dX5_write_54 : decode cX5_write 54 = .ok (.invokevirtual 119, 3) := by decide +kernel
theorem dX5_write_57 : decode cX5_write 57 = .ok (.bipush 10, 2) := by decide +kernel
theorem dX5_write_59 : decode cX5_write 59 = .ok (.if_icmp .ne 7, 3) := by decide +kernel
theorem dX5_write_62 : decode cX5_write 62 = .ok (.iconst 1, 1) := by decide +kernel
theorem dX5_write_63 : decode cX5_write 63 = .ok (.goto 4, 3) := by decide +kernel
theorem dX5_write_66 : decode cX5_write 66 = .ok (.iconst 0, 1) := by decide +kernel
theorem dX5_write_67 : decode cX5_write 67 = .ok (.iconst 2, 1) := by decide +kernel
theorem dX5_write_68 : decode cX5_write 68 = .ok (.invokevirtual 97, 3) := by decide +kernel
theorem dX5_write_71 : decode cX5_write 71 = .ok (.ifCond .eq 5, 3) := by decide +kernel
theorem dX5_write_74 : decode cX5_write 74 = .ok (.iconst 0, 1) := by decide +kernel
theorem dX5_write_75 : decode cX5_write 75 = .ok (.ireturn, 1) := by decide +kernel
theorem dX5_write_76 : decode cX5_write 76 = .ok (.aload_n 0, 1) := by decide +kernel
theorem dX5_write_77 : decode cX5_write 77 = .ok (.getfield 51, 3) := by decide +kernel
theorem dX5_write_80 : decode cX5_write 80 = .ok (.bipush 20, 2) := by decide +kernel
theorem dX5_write_82 : decode cX5_write 82 = .ok (.iload_n 1, 1) := by decide +kernel
theorem dX5_write_83 : decode cX5_write 83 = .ok (.imul, 1) := by decide +kernel
theorem dX5_write_84 : decode cX5_write 84 = .ok (.iload_n 2, 1) := by decide +kernel
theorem dX5_write_85 : decode cX5_write 85 = .ok (.iadd, 1) := by decide +kernel
theorem dX5_write_86 : decode cX5_write 86 = .ok (.iconst 1, 1) := by decide +kernel
theorem dX5_write_87 : decode cX5_write 87 = .ok (.bastore, 1) := by decide +kernel
theorem dX5_write_88 : decode cX5_write 88 = .ok (.aload_n 0, 1) := by decide +kernel
theorem dX5_write_89 : decode cX5_write 89 = .ok (.getfield 54, 3) := by decide +kernel
theorem dX5_write_92 : decode cX5_write 92 = .ok (.bipush 20, 2) := by decide +kernel
theorem dX5_write_94 : decode cX5_write 94 = .ok (.iload_n 1, 1) := by decide +kernel
theorem dX5_write_95 : decode cX5_write 95 = .ok (.imul, 1) := by decide +kernel
theorem dX5_write_96 : decode cX5_write 96 = .ok (.iload_n 2, 1) := by decide +kernel
theorem dX5_write_97 : decode cX5_write 97 = .ok (.iadd, 1) := by decide +kernel
theorem dX5_write_98 : decode cX5_write 98 = .ok (.iload_n 3, 1) := by decide +kernel
theorem dX5_write_99 : decode cX5_write 99 = .ok (.iastore, 1) := by decide +kernel
theorem dX5_write_100 : decode cX5_write 100 = .ok (.aload_n 0, 1) := by decide +kernel
theorem dX5_write_101 : decode cX5_write 101 = .ok (.iload_n 1, 1) := by decide +kernel
theorem dX5_write_102 : decode cX5_write 102 = .ok (.invokevirtual 119, 3) := by decide +kernel
theorem dX5_write_105 : decode cX5_write 105 = .ok (.ireturn, 1) := by decide +kernel
theorem dX5_isElement_0 : decode cX5_isElement 0 = .ok (.iload_n 0, 1) := by decide +kernel
theorem dX5_isElement_1 : decode cX5_isElement 1 = .ok (.ifCond .lt 22, 3) := by decide +kernel
theorem dX5_isElement_4 : decode cX5_isElement 4 = .ok (.iload_n 0, 1) := by decide +kernel
theorem dX5_isElement_5 : decode cX5_isElement 5 = .ok (.iconst 5, 1) := by decide +kernel
theorem dX5_isElement_6 : decode cX5_isElement 6 = .ok (.if_icmp .ge 17, 3) := by decide +kernel
theorem dX5_isElement_9 : decode cX5_isElement 9 = .ok (.iload_n 1, 1) := by decide +kernel
theorem dX5_isElement_10 : decode cX5_isElement 10 = .ok (.ifCond .lt 13, 3) := by decide +kernel
theorem dX5_isElement_13 : decode cX5_isElement 13 = .ok (.iload_n 1, 1) := by decide +kernel
theorem dX5_isElement_14 : decode cX5_isElement 14 = .ok (.bipush 8, 2) := by decide +kernel
theorem dX5_isElement_16 : decode cX5_isElement 16 = .ok (.if_icmp .ge 7, 3) := by decide +kernel
theorem dX5_isElement_19 : decode cX5_isElement 19 = .ok (.iconst 1, 1) := by decide +kernel
theorem dX5_isElement_20 : decode cX5_isElement 20 = .ok (.goto 4, 3) := by decide +kernel
theorem dX5_isElement_23 : decode cX5_isElement 23 = .ok (.iconst 0, 1) := by decide +kernel
theorem dX5_isElement_24 : decode cX5_isElement 24 = .ok (.ireturn, 1) := by decide +kernel
theorem dX5_change_0 : decode cX5_change 0 = .ok (.aload_n 0, 1) := by decide +kernel
theorem dX5_change_1 : decode cX5_change 1 = .ok (.aload_n 0, 1) := by decide +kernel
theorem dX5_change_2 : decode cX5_change 2 = .ok (.iload_n 1, 1) := by decide +kernel
theorem dX5_change_3 : decode cX5_change 3 = .ok (.invokevirtual 109, 3) := by decide +kernel
theorem dX5_change_6 : decode cX5_change 6 = .ok (.ifCond .eq 23, 3) := by decide +kernel
theorem dX5_change_9 : decode cX5_change 9 = .ok (.iload_n 2, 1) := by decide +kernel
theorem dX5_change_10 : decode cX5_change 10 = .ok (.iload_n 3, 1) := by decide +kernel
theorem dX5_change_11 : decode cX5_change 11 = .ok (.invokestatic 123, 3) := by decide +kernel
theorem dX5_change_14 : decode cX5_change 14 = .ok (.ifCond .eq 15, 3) := by decide +kernel
theorem dX5_change_17 : decode cX5_change 17 = .ok (.iload 4, 2) := by decide +kernel
theorem dX5_change_19 : decode cX5_change 19 = .ok (.iconst 1, 1) := by decide +kernel
theorem dX5_change_20 : decode cX5_change 20 = .ok (.if_icmp .eq 13, 3) := by decide +kernel
theorem dX5_change_23 : decode cX5_change 23 = .ok (.iload 4, 2) := by decide +kernel
theorem dX5_change_25 : decode cX5_change 25 = .ok (.iconst (-1), 1) := by decide +kernel
theorem dX5_change_26 : decode cX5_change 26 = .ok (.if_icmp .eq 7, 3) := by decide +kernel
theorem dX5_change_29 : decode cX5_change 29 = .ok (.iconst 1, 1) := by decide +kernel
theorem dX5_change_30 : decode cX5_change 30 = .ok (.goto 4, 3) := by decide +kernel
theorem dX5_change_33 : decode cX5_change 33 = .ok (.iconst 0, 1) := by decide +kernel
theorem dX5_change_34 : decode cX5_change 34 = .ok (.iconst 1, 1) := by decide +kernel
theorem dX5_change_35 : decode cX5_change 35 = .ok (.invokevirtual 97, 3) := by decide +kernel
theorem dX5_change_38 : decode cX5_change 38 = .ok (.ifCond .ne 36, 3) := by decide +kernel
theorem dX5_change_41 : decode cX5_change 41 = .ok (.aload_n 0, 1) := by decide +kernel
theorem dX5_change_42 : decode cX5_change 42 = .ok (.aload_n 0, 1) := by decide +kernel
theorem dX5_change_43 : decode cX5_change 43 = .ok (.getfield 27, 3) := by decide +kernel
theorem dX5_change_46 : decode cX5_change 46 = .ok (.iload_n 1, 1) := by decide +kernel
theorem dX5_change_47 : decode cX5_change 47 = .ok (.iaload, 1) := by decide +kernel
theorem dX5_change_48 : decode cX5_change 48 = .ok (.ifCond .ne 14, 3) := by decide +kernel
theorem dX5_change_51 : decode cX5_change 51 = .ok (.aload_n 0, 1) := by decide +kernel
theorem dX5_change_52 : decode cX5_change 52 = .ok (.getfield 63, 3) := by decide +kernel
theorem dX5_change_55 : decode cX5_change 55 = .ok (.iload_n 1, 1) := by decide +kernel
theorem dX5_change_56 : decode cX5_change 56 = .ok (.iaload, 1) := by decide +kernel
theorem dX5_change_57 : decode cX5_change 57 = .ok (.bipush 20, 2) := by decide +kernel
theorem dX5_change_59 : decode cX5_change 59 = .ok (.if_icmp .ne 7, 3) := by decide +kernel
theorem dX5_change_62 : decode cX5_change 62 = .ok (.iconst 1, 1) := by decide +kernel
theorem dX5_change_63 : decode cX5_change 63 = .ok (.goto 4, 3) := by decide +kernel
theorem dX5_change_66 : decode cX5_change 66 = .ok (.iconst 0, 1) := by decide +kernel
theorem dX5_change_67 : decode cX5_change 67 = .ok (.iconst 2, 1) := by decide +kernel
theorem dX5_change_68 : decode cX5_change 68 = .ok (.invokevirtual 97, 3) := by decide +kernel
theorem dX5_change_71 : decode cX5_change 71 = .ok (.ifCond .eq 5, 3) := by decide +kernel
theorem dX5_change_74 : decode cX5_change 74 = .ok (.iconst 0, 1) := by decide +kernel
theorem dX5_change_75 : decode cX5_change 75 = .ok (.ireturn, 1) := by decide +kernel
theorem dX5_change_76 : decode cX5_change 76 = .ok (.aload_n 0, 1) := by decide +kernel
theorem dX5_change_77 : decode cX5_change 77 = .ok (.getfield 57, 3) := by decide +kernel
theorem dX5_change_80 : decode cX5_change 80 = .ok (.bipush 20, 2) := by decide +kernel
theorem dX5_change_82 : decode cX5_change 82 = .ok (.iload_n 1, 1) := by decide +kernel
theorem dX5_change_83 : decode cX5_change 83 = .ok (.imul, 1) := by decide +kernel
theorem dX5_change_84 : decode cX5_change 84 = .ok (.aload_n 0, 1) := by decide +kernel
theorem dX5_change_85 : decode cX5_change 85 = .ok (.getfield 63, 3) := by decide +kernel
theorem dX5_change_88 : decode cX5_change 88 = .ok (.iload_n 1, 1) := by decide +kernel
theorem dX5_change_89 : decode cX5_change 89 = .ok (.iaload, 1) := by decide +kernel
theorem dX5_change_90 : decode cX5_change 90 = .ok (.iadd, 1) := by decide +kernel
theorem dX5_change_91 : decode cX5_change 91 = .ok (.bipush 8, 2) := by decide +kernel
theorem dX5_change_93 : decode cX5_change 93 = .ok (.iload_n 2, 1) := by decide +kernel
theorem dX5_change_94 : decode cX5_change 94 = .ok (.imul, 1) := by decide +kernel
theorem dX5_change_95 : decode cX5_change 95 = .ok (.iload_n 3, 1) := by decide +kernel
theorem dX5_change_96 : decode cX5_change 96 = .ok (.iadd, 1) := by decide +kernel
theorem dX5_change_97 : decode cX5_change 97 = .ok (.iastore, 1) := by decide +kernel
theorem dX5_change_98 : decode cX5_change 98 = .ok (.aload_n 0, 1) := by decide +kernel
theorem dX5_change_99 : decode cX5_change 99 = .ok (.getfield 60, 3) := by decide +kernel
theorem dX5_change_102 : decode cX5_change 102 = .ok (.bipush 20, 2) := by decide +kernel
theorem dX5_change_104 : decode cX5_change 104 = .ok (.iload_n 1, 1) := by decide +kernel
theorem dX5_change_105 : decode cX5_change 105 = .ok (.imul, 1) := by decide +kernel
theorem dX5_change_106 : decode cX5_change 106 = .ok (.aload_n 0, 1) := by decide +kernel
theorem dX5_change_107 : decode cX5_change 107 = .ok (.getfield 63, 3) := by decide +kernel
theorem dX5_change_110 : decode cX5_change 110 = .ok (.iload_n 1, 1) := by decide +kernel
theorem dX5_change_111 : decode cX5_change 111 = .ok (.iaload, 1) := by decide +kernel
theorem dX5_change_112 : decode cX5_change 112 = .ok (.iadd, 1) := by decide +kernel
theorem dX5_change_113 : decode cX5_change 113 = .ok (.iload 4, 2) := by decide +kernel
theorem dX5_change_115 : decode cX5_change 115 = .ok (.iastore, 1) := by decide +kernel
theorem dX5_change_116 : decode cX5_change 116 = .ok (.aload_n 0, 1) := by decide +kernel
theorem dX5_change_117 : decode cX5_change 117 = .ok (.getfield 63, 3) := by decide +kernel
theorem dX5_change_120 : decode cX5_change 120 = .ok (.iload_n 1, 1) := by decide +kernel
theorem dX5_change_121 : decode cX5_change 121 = .ok (.dup2, 1) := by decide +kernel
theorem dX5_change_122 : decode cX5_change 122 = .ok (.iaload, 1) := by decide +kernel
theorem dX5_change_123 : decode cX5_change 123 = .ok (.iconst 1, 1) := by decide +kernel
theorem dX5_change_124 : decode cX5_change 124 = .ok (.iadd, 1) := by decide +kernel
theorem dX5_change_125 : decode cX5_change 125 = .ok (.iastore, 1) := by decide +kernel
theorem dX5_change_126 : decode cX5_change 126 = .ok (.aload_n 0, 1) := by decide +kernel
theorem dX5_change_127 : decode cX5_change 127 = .ok (.getfield 63, 3) := by decide +kernel
theorem dX5_change_130 : decode cX5_change 130 = .ok (.iload_n 1, 1) := by decide +kernel
theorem dX5_change_131 : decode cX5_change 131 = .ok (.iaload, 1) := by decide +kernel
theorem dX5_change_132 : decode cX5_change 132 = .ok (.ireturn, 1) := by decide +kernel
theorem dX5_count_0 : decode cX5_count 0 = .ok (.aload_n 0, 1) := by decide +kernel
theorem dX5_count_1 : decode cX5_count 1 = .ok (.aload_n 0, 1) := by decide +kernel
theorem dX5_count_2 : decode cX5_count 2 = .ok (.iload_n 1, 1) := by decide +kernel
theorem dX5_count_3 : decode cX5_count 3 = .ok (.invokevirtual 109, 3) := by decide +kernel
theorem dX5_count_6 : decode cX5_count 6 = .ok (.ifCond .eq 11, 3) := by decide +kernel
theorem dX5_count_9 : decode cX5_count 9 = .ok (.iload_n 2, 1) := by decide +kernel
theorem dX5_count_10 : decode cX5_count 10 = .ok (.iload_n 3, 1) := by decide +kernel
theorem dX5_count_11 : decode cX5_count 11 = .ok (.invokestatic 123, 3) := by decide +kernel
theorem dX5_count_14 : decode cX5_count 14 = .ok (.ifCond .ne 7, 3) := by decide +kernel
theorem dX5_count_17 : decode cX5_count 17 = .ok (.iconst 1, 1) := by decide +kernel
theorem dX5_count_18 : decode cX5_count 18 = .ok (.goto 4, 3) := by decide +kernel
theorem dX5_count_21 : decode cX5_count 21 = .ok (.iconst 0, 1) := by decide +kernel
theorem dX5_count_22 : decode cX5_count 22 = .ok (.iconst 1, 1) := by decide +kernel
theorem dX5_count_23 : decode cX5_count 23 = .ok (.invokevirtual 97, 3) := by decide +kernel
theorem dX5_count_26 : decode cX5_count 26 = .ok (.ifCond .ne 25, 3) := by decide +kernel
theorem dX5_count_29 : decode cX5_count 29 = .ok (.aload_n 0, 1) := by decide +kernel
theorem dX5_count_30 : decode cX5_count 30 = .ok (.aload_n 0, 1) := by decide +kernel
theorem dX5_count_31 : decode cX5_count 31 = .ok (.getfield 27, 3) := by decide +kernel
theorem dX5_count_34 : decode cX5_count 34 = .ok (.iload_n 1, 1) := by decide +kernel
theorem dX5_count_35 : decode cX5_count 35 = .ok (.iaload, 1) := by decide +kernel
theorem dX5_count_36 : decode cX5_count 36 = .ok (.ifCond .eq 7, 3) := by decide +kernel
theorem dX5_count_39 : decode cX5_count 39 = .ok (.iconst 1, 1) := by decide +kernel
theorem dX5_count_40 : decode cX5_count 40 = .ok (.goto 4, 3) := by decide +kernel
theorem dX5_count_43 : decode cX5_count 43 = .ok (.iconst 0, 1) := by decide +kernel
theorem dX5_count_44 : decode cX5_count 44 = .ok (.iconst 2, 1) := by decide +kernel
theorem dX5_count_45 : decode cX5_count 45 = .ok (.invokevirtual 97, 3) := by decide +kernel
theorem dX5_count_48 : decode cX5_count 48 = .ok (.ifCond .eq 5, 3) := by decide +kernel
theorem dX5_count_51 : decode cX5_count 51 = .ok (.iconst 0, 1) := by decide +kernel
theorem dX5_count_52 : decode cX5_count 52 = .ok (.ireturn, 1) := by decide +kernel
theorem dX5_count_53 : decode cX5_count 53 = .ok (.iconst 0, 1) := by decide +kernel
theorem dX5_count_54 : decode cX5_count 54 = .ok (.istore 4, 2) := by decide +kernel
theorem dX5_count_56 : decode cX5_count 56 = .ok (.iconst 0, 1) := by decide +kernel
theorem dX5_count_57 : decode cX5_count 57 = .ok (.istore 5, 2) := by decide +kernel
theorem dX5_count_59 : decode cX5_count 59 = .ok (.iload 5, 2) := by decide +kernel
theorem dX5_count_61 : decode cX5_count 61 = .ok (.aload_n 0, 1) := by decide +kernel
theorem dX5_count_62 : decode cX5_count 62 = .ok (.getfield 88, 3) := by decide +kernel
theorem dX5_count_65 : decode cX5_count 65 = .ok (.if_icmp .ge 93, 3) := by decide +kernel
theorem dX5_count_68 : decode cX5_count 68 = .ok (.iload 5, 2) := by decide +kernel
theorem dX5_count_70 : decode cX5_count 70 = .ok (.iload_n 1, 1) := by decide +kernel
theorem dX5_count_71 : decode cX5_count 71 = .ok (.if_icmp .eq 16, 3) := by decide +kernel
theorem dX5_count_74 : decode cX5_count 74 = .ok (.aload_n 0, 1) := by decide +kernel
theorem dX5_count_75 : decode cX5_count 75 = .ok (.iload_n 1, 1) := by decide +kernel
theorem dX5_count_76 : decode cX5_count 76 = .ok (.iload 5, 2) := by decide +kernel
theorem dX5_count_78 : decode cX5_count 78 = .ok (.invokevirtual 105, 3) := by decide +kernel
theorem dX5_count_81 : decode cX5_count 81 = .ok (.ifCond .ne 6, 3) := by decide +kernel
theorem dX5_count_84 : decode cX5_count 84 = .ok (.goto 68, 3) := by decide +kernel
theorem dX5_count_87 : decode cX5_count 87 = .ok (.iconst 0, 1) := by decide +kernel
theorem dX5_count_88 : decode cX5_count 88 = .ok (.istore 6, 2) := by decide +kernel
theorem dX5_count_90 : decode cX5_count 90 = .ok (.iload 6, 2) := by decide +kernel
theorem dX5_count_92 : decode cX5_count 92 = .ok (.aload_n 0, 1) := by decide +kernel
theorem dX5_count_93 : decode cX5_count 93 = .ok (.getfield 63, 3) := by decide +kernel
theorem dX5_count_96 : decode cX5_count 96 = .ok (.iload 5, 2) := by decide +kernel
theorem dX5_count_98 : decode cX5_count 98 = .ok (.iaload, 1) := by decide +kernel
theorem dX5_count_99 : decode cX5_count 99 = .ok (.if_icmp .ge 53, 3) := by decide +kernel
theorem dX5_count_102 : decode cX5_count 102 = .ok (.iload 4, 2) := by decide +kernel
theorem dX5_count_104 : decode cX5_count 104 = .ok (.aload_n 0, 1) := by decide +kernel
theorem dX5_count_105 : decode cX5_count 105 = .ok (.getfield 57, 3) := by decide +kernel
theorem dX5_count_108 : decode cX5_count 108 = .ok (.bipush 20, 2) := by decide +kernel
theorem dX5_count_110 : decode cX5_count 110 = .ok (.iload 5, 2) := by decide +kernel
theorem dX5_count_112 : decode cX5_count 112 = .ok (.imul, 1) := by decide +kernel
theorem dX5_count_113 : decode cX5_count 113 = .ok (.iload 6, 2) := by decide +kernel
theorem dX5_count_115 : decode cX5_count 115 = .ok (.iadd, 1) := by decide +kernel
theorem dX5_count_116 : decode cX5_count 116 = .ok (.iaload, 1) := by decide +kernel
theorem dX5_count_117 : decode cX5_count 117 = .ok (.bipush 8, 2) := by decide +kernel
theorem dX5_count_119 : decode cX5_count 119 = .ok (.iload_n 2, 1) := by decide +kernel
theorem dX5_count_120 : decode cX5_count 120 = .ok (.imul, 1) := by decide +kernel
theorem dX5_count_121 : decode cX5_count 121 = .ok (.iload_n 3, 1) := by decide +kernel
theorem dX5_count_122 : decode cX5_count 122 = .ok (.iadd, 1) := by decide +kernel
theorem dX5_count_123 : decode cX5_count 123 = .ok (.if_icmp .ne 19, 3) := by decide +kernel
theorem dX5_count_126 : decode cX5_count 126 = .ok (.aload_n 0, 1) := by decide +kernel
theorem dX5_count_127 : decode cX5_count 127 = .ok (.getfield 60, 3) := by decide +kernel
theorem dX5_count_130 : decode cX5_count 130 = .ok (.bipush 20, 2) := by decide +kernel
theorem dX5_count_132 : decode cX5_count 132 = .ok (.iload 5, 2) := by decide +kernel
theorem dX5_count_134 : decode cX5_count 134 = .ok (.imul, 1) := by decide +kernel
theorem dX5_count_135 : decode cX5_count 135 = .ok (.iload 6, 2) := by decide +kernel
theorem dX5_count_137 : decode cX5_count 137 = .ok (.iadd, 1) := by decide +kernel
theorem dX5_count_138 : decode cX5_count 138 = .ok (.iaload, 1) := by decide +kernel
theorem dX5_count_139 : decode cX5_count 139 = .ok (.goto 4, 3) := by decide +kernel
theorem dX5_count_142 : decode cX5_count 142 = .ok (.iconst 0, 1) := by decide +kernel
theorem dX5_count_143 : decode cX5_count 143 = .ok (.iadd, 1) := by decide +kernel
theorem dX5_count_144 : decode cX5_count 144 = .ok (.istore 4, 2) := by decide +kernel
theorem dX5_count_146 : decode cX5_count 146 = .ok (.iinc 6 1, 3) := by decide +kernel
theorem dX5_count_149 : decode cX5_count 149 = .ok (.goto (-59), 3) := by decide +kernel
theorem dX5_count_152 : decode cX5_count 152 = .ok (.iinc 5 1, 3) := by decide +kernel
theorem dX5_count_155 : decode cX5_count 155 = .ok (.goto (-96), 3) := by decide +kernel
theorem dX5_count_158 : decode cX5_count 158 = .ok (.iload 4, 2) := by decide +kernel
theorem dX5_count_160 : decode cX5_count 160 = .ok (.ireturn, 1) := by decide +kernel
theorem dX5_fits_0 : decode cX5_fits 0 = .ok (.aload_n 0, 1) := by decide +kernel
theorem dX5_fits_1 : decode cX5_fits 1 = .ok (.getfield 21, 3) := by decide +kernel
theorem dX5_fits_4 : decode cX5_fits 4 = .ok (.bipush 20, 2) := by decide +kernel
theorem dX5_fits_6 : decode cX5_fits 6 = .ok (.iload_n 2, 1) := by decide +kernel
theorem dX5_fits_7 : decode cX5_fits 7 = .ok (.imul, 1) := by decide +kernel
theorem dX5_fits_8 : decode cX5_fits 8 = .ok (.iload_n 3, 1) := by decide +kernel
theorem dX5_fits_9 : decode cX5_fits 9 = .ok (.iadd, 1) := by decide +kernel
theorem dX5_fits_10 : decode cX5_fits 10 = .ok (.iaload, 1) := by decide +kernel
theorem dX5_fits_11 : decode cX5_fits 11 = .ok (.istore 4, 2) := by decide +kernel
theorem dX5_fits_13 : decode cX5_fits 13 = .ok (.iload 4, 2) := by decide +kernel
theorem dX5_fits_15 : decode cX5_fits 15 = .ok (.iconst (-1), 1) := by decide +kernel
theorem dX5_fits_16 : decode cX5_fits 16 = .ok (.if_icmp .eq 9, 3) := by decide +kernel
theorem dX5_fits_19 : decode cX5_fits 19 = .ok (.iload 4, 2) := by decide +kernel
theorem dX5_fits_21 : decode cX5_fits 21 = .ok (.iload_n 1, 1) := by decide +kernel
theorem dX5_fits_22 : decode cX5_fits 22 = .ok (.if_icmp .ne 7, 3) := by decide +kernel
theorem dX5_fits_25 : decode cX5_fits 25 = .ok (.iconst 1, 1) := by decide +kernel
theorem dX5_fits_26 : decode cX5_fits 26 = .ok (.goto 4, 3) := by decide +kernel
theorem dX5_fits_29 : decode cX5_fits 29 = .ok (.iconst 0, 1) := by decide +kernel
theorem dX5_fits_30 : decode cX5_fits 30 = .ok (.istore 5, 2) := by decide +kernel
theorem dX5_fits_32 : decode cX5_fits 32 = .ok (.iconst 0, 1) := by decide +kernel
theorem dX5_fits_33 : decode cX5_fits 33 = .ok (.istore 6, 2) := by decide +kernel
theorem dX5_fits_35 : decode cX5_fits 35 = .ok (.iload 6, 2) := by decide +kernel
theorem dX5_fits_37 : decode cX5_fits 37 = .ok (.aload_n 0, 1) := by decide +kernel
theorem dX5_fits_38 : decode cX5_fits 38 = .ok (.getfield 88, 3) := by decide +kernel
theorem dX5_fits_41 : decode cX5_fits 41 = .ok (.if_icmp .ge 51, 3) := by decide +kernel
theorem dX5_fits_44 : decode cX5_fits 44 = .ok (.aload_n 0, 1) := by decide +kernel
theorem dX5_fits_45 : decode cX5_fits 45 = .ok (.getfield 36, 3) := by decide +kernel
theorem dX5_fits_48 : decode cX5_fits 48 = .ok (.iconst 5, 1) := by decide +kernel
theorem dX5_fits_49 : decode cX5_fits 49 = .ok (.iload 6, 2) := by decide +kernel
theorem dX5_fits_51 : decode cX5_fits 51 = .ok (.imul, 1) := by decide +kernel
theorem dX5_fits_52 : decode cX5_fits 52 = .ok (.iload_n 2, 1) := by decide +kernel
theorem dX5_fits_53 : decode cX5_fits 53 = .ok (.iadd, 1) := by decide +kernel
theorem dX5_fits_54 : decode cX5_fits 54 = .ok (.iaload, 1) := by decide +kernel
theorem dX5_fits_55 : decode cX5_fits 55 = .ok (.ifCond .le 31, 3) := by decide +kernel
theorem dX5_fits_58 : decode cX5_fits 58 = .ok (.aload_n 0, 1) := by decide +kernel
theorem dX5_fits_59 : decode cX5_fits 59 = .ok (.getfield 51, 3) := by decide +kernel
theorem dX5_fits_62 : decode cX5_fits 62 = .ok (.bipush 20, 2) := by decide +kernel
theorem dX5_fits_64 : decode cX5_fits 64 = .ok (.iload 6, 2) := by decide +kernel
theorem dX5_fits_66 : decode cX5_fits 66 = .ok (.imul, 1) := by decide +kernel
theorem dX5_fits_67 : decode cX5_fits 67 = .ok (.iload_n 3, 1) := by decide +kernel
theorem dX5_fits_68 : decode cX5_fits 68 = .ok (.iadd, 1) := by decide +kernel
theorem dX5_fits_69 : decode cX5_fits 69 = .ok (.baload, 1) := by decide +kernel
theorem dX5_fits_70 : decode cX5_fits 70 = .ok (.ifCond .eq 16, 3) := by decide +kernel
theorem dX5_fits_73 : decode cX5_fits 73 = .ok (.aload_n 0, 1) := by decide +kernel
theorem dX5_fits_74 : decode cX5_fits 74 = .ok (.iload_n 1, 1) := by decide +kernel
theorem dX5_fits_75 : decode cX5_fits 75 = .ok (.iload 6, 2) := by decide +kernel
theorem dX5_fits_77 : decode cX5_fits 77 = .ok (.invokevirtual 105, 3) := by decide +kernel
theorem dX5_fits_80 : decode cX5_fits 80 = .ok (.ifCond .ne 6, 3) := by decide +kernel
theorem dX5_fits_83 : decode cX5_fits 83 = .ok (.iconst 0, 1) := by decide +kernel
theorem dX5_fits_84 : decode cX5_fits 84 = .ok (.istore 5, 2) := by decide +kernel
theorem dX5_fits_86 : decode cX5_fits 86 = .ok (.iinc 6 1, 3) := by decide +kernel
theorem dX5_fits_89 : decode cX5_fits 89 = .ok (.goto (-54), 3) := by decide +kernel
theorem dX5_fits_92 : decode cX5_fits 92 = .ok (.iload 5, 2) := by decide +kernel
theorem dX5_fits_94 : decode cX5_fits 94 = .ok (.ireturn, 1) := by decide +kernel
theorem dX5_allFit_0 : decode cX5_allFit 0 = .ok (.iconst 1, 1) := by decide +kernel
theorem dX5_allFit_1 : decode cX5_allFit 1 = .ok (.istore_n 3, 1) := by decide +kernel
theorem dX5_allFit_2 : decode cX5_allFit 2 = .ok (.iconst 0, 1) := by decide +kernel
theorem dX5_allFit_3 : decode cX5_allFit 3 = .ok (.istore 4, 2) := by decide +kernel
theorem dX5_allFit_5 : decode cX5_allFit 5 = .ok (.iload 4, 2) := by decide +kernel
theorem dX5_allFit_7 : decode cX5_allFit 7 = .ok (.bipush 20, 2) := by decide +kernel
theorem dX5_allFit_9 : decode cX5_allFit 9 = .ok (.if_icmp .ge 48, 3) := by decide +kernel
theorem dX5_allFit_12 : decode cX5_allFit 12 = .ok (.aload_n 0, 1) := by decide +kernel
theorem dX5_allFit_13 : decode cX5_allFit 13 = .ok (.getfield 51, 3) := by decide +kernel
theorem dX5_allFit_16 : decode cX5_allFit 16 = .ok (.bipush 20, 2) := by decide +kernel
theorem dX5_allFit_18 : decode cX5_allFit 18 = .ok (.iload_n 1, 1) := by decide +kernel
theorem dX5_allFit_19 : decode cX5_allFit 19 = .ok (.imul, 1) := by decide +kernel
theorem dX5_allFit_20 : decode cX5_allFit 20 = .ok (.iload 4, 2) := by decide +kernel
theorem dX5_allFit_22 : decode cX5_allFit 22 = .ok (.iadd, 1) := by decide +kernel
theorem dX5_allFit_23 : decode cX5_allFit 23 = .ok (.baload, 1) := by decide +kernel
theorem dX5_allFit_24 : decode cX5_allFit 24 = .ok (.ifCond .eq 27, 3) := by decide +kernel
theorem dX5_allFit_27 : decode cX5_allFit 27 = .ok (.iload 4, 2) := by decide +kernel
theorem dX5_allFit_29 : decode cX5_allFit 29 = .ok (.aload_n 0, 1) := by decide +kernel
theorem dX5_allFit_30 : decode cX5_allFit 30 = .ok (.getfield 7, 3) := by decide +kernel
theorem dX5_allFit_33 : decode cX5_allFit 33 = .ok (.irem, 1) := by decide +kernel
theorem dX5_allFit_34 : decode cX5_allFit 34 = .ok (.iload_n 2, 1) := by decide +kernel
theorem dX5_allFit_35 : decode cX5_allFit 35 = .ok (.if_icmp .ne 16, 3) := by decide +kernel
theorem dX5_allFit_38 : decode cX5_allFit 38 = .ok (.aload_n 0, 1) := by decide +kernel
theorem dX5_allFit_39 : decode cX5_allFit 39 = .ok (.iload_n 1, 1) := by decide +kernel
theorem dX5_allFit_40 : decode cX5_allFit 40 = .ok (.iload_n 2, 1) := by decide +kernel
theorem dX5_allFit_41 : decode cX5_allFit 41 = .ok (.iload 4, 2) := by decide +kernel
theorem dX5_allFit_43 : decode cX5_allFit 43 = .ok (.invokevirtual 126, 3) := by decide +kernel
theorem dX5_allFit_46 : decode cX5_allFit 46 = .ok (.ifCond .ne 5, 3) := by decide +kernel
theorem dX5_allFit_49 : decode cX5_allFit 49 = .ok (.iconst 0, 1) := by decide +kernel
theorem dX5_allFit_50 : decode cX5_allFit 50 = .ok (.istore_n 3, 1) := by decide +kernel
theorem dX5_allFit_51 : decode cX5_allFit 51 = .ok (.iinc 4 1, 3) := by decide +kernel
theorem dX5_allFit_54 : decode cX5_allFit 54 = .ok (.goto (-49), 3) := by decide +kernel
theorem dX5_allFit_57 : decode cX5_allFit 57 = .ok (.iload_n 3, 1) := by decide +kernel
theorem dX5_allFit_58 : decode cX5_allFit 58 = .ok (.ireturn, 1) := by decide +kernel
theorem dX5_lock_0 : decode cX5_lock 0 = .ok (.iconst 0, 1) := by decide +kernel
theorem dX5_lock_1 : decode cX5_lock 1 = .ok (.istore_n 3, 1) := by decide +kernel
theorem dX5_lock_2 : decode cX5_lock 2 = .ok (.iload_n 3, 1) := by decide +kernel
theorem dX5_lock_3 : decode cX5_lock 3 = .ok (.bipush 20, 2) := by decide +kernel
theorem dX5_lock_5 : decode cX5_lock 5 = .ok (.if_icmp .ge 45, 3) := by decide +kernel
theorem dX5_lock_8 : decode cX5_lock 8 = .ok (.aload_n 0, 1) := by decide +kernel
theorem dX5_lock_9 : decode cX5_lock 9 = .ok (.getfield 51, 3) := by decide +kernel
theorem dX5_lock_12 : decode cX5_lock 12 = .ok (.bipush 20, 2) := by decide +kernel
theorem dX5_lock_14 : decode cX5_lock 14 = .ok (.iload_n 1, 1) := by decide +kernel
theorem dX5_lock_15 : decode cX5_lock 15 = .ok (.imul, 1) := by decide +kernel
theorem dX5_lock_16 : decode cX5_lock 16 = .ok (.iload_n 3, 1) := by decide +kernel
theorem dX5_lock_17 : decode cX5_lock 17 = .ok (.iadd, 1) := by decide +kernel
theorem dX5_lock_18 : decode cX5_lock 18 = .ok (.baload, 1) := by decide +kernel
theorem dX5_lock_19 : decode cX5_lock 19 = .ok (.ifCond .eq 25, 3) := by decide +kernel
theorem dX5_lock_22 : decode cX5_lock 22 = .ok (.iload_n 3, 1) := by decide +kernel
theorem dX5_lock_23 : decode cX5_lock 23 = .ok (.aload_n 0, 1) := by decide +kernel
theorem dX5_lock_24 : decode cX5_lock 24 = .ok (.getfield 7, 3) := by decide +kernel
theorem dX5_lock_27 : decode cX5_lock 27 = .ok (.irem, 1) := by decide +kernel
theorem dX5_lock_28 : decode cX5_lock 28 = .ok (.iload_n 2, 1) := by decide +kernel
theorem dX5_lock_29 : decode cX5_lock 29 = .ok (.if_icmp .ne 15, 3) := by decide +kernel
theorem dX5_lock_32 : decode cX5_lock 32 = .ok (.aload_n 0, 1) := by decide +kernel
theorem dX5_lock_33 : decode cX5_lock 33 = .ok (.getfield 21, 3) := by decide +kernel
theorem dX5_lock_36 : decode cX5_lock 36 = .ok (.bipush 20, 2) := by decide +kernel
theorem dX5_lock_38 : decode cX5_lock 38 = .ok (.iload_n 2, 1) := by decide +kernel
theorem dX5_lock_39 : decode cX5_lock 39 = .ok (.imul, 1) := by decide +kernel
theorem dX5_lock_40 : decode cX5_lock 40 = .ok (.iload_n 3, 1) := by decide +kernel
theorem dX5_lock_41 : decode cX5_lock 41 = .ok (.iadd, 1) := by decide +kernel
theorem dX5_lock_42 : decode cX5_lock 42 = .ok (.iload_n 1, 1) := by decide +kernel
theorem dX5_lock_43 : decode cX5_lock 43 = .ok (.iastore, 1) := by decide +kernel
theorem dX5_lock_44 : decode cX5_lock 44 = .ok (.iinc 3 1, 3) := by decide +kernel
theorem dX5_lock_47 : decode cX5_lock 47 = .ok (.goto (-45), 3) := by decide +kernel
theorem dX5_lock_50 : decode cX5_lock 50 = .ok (.return_, 1) := by decide +kernel
theorem dX5_unlock_0 : decode cX5_unlock 0 = .ok (.iconst 0, 1) := by decide +kernel
theorem dX5_unlock_1 : decode cX5_unlock 1 = .ok (.istore_n 3, 1) := by decide +kernel
theorem dX5_unlock_2 : decode cX5_unlock 2 = .ok (.iload_n 3, 1) := by decide +kernel
theorem dX5_unlock_3 : decode cX5_unlock 3 = .ok (.bipush 20, 2) := by decide +kernel
theorem dX5_unlock_5 : decode cX5_unlock 5 = .ok (.if_icmp .ge 36, 3) := by decide +kernel
theorem dX5_unlock_8 : decode cX5_unlock 8 = .ok (.aload_n 0, 1) := by decide +kernel
theorem dX5_unlock_9 : decode cX5_unlock 9 = .ok (.getfield 21, 3) := by decide +kernel
theorem dX5_unlock_12 : decode cX5_unlock 12 = .ok (.bipush 20, 2) := by decide +kernel
theorem dX5_unlock_14 : decode cX5_unlock 14 = .ok (.iload_n 2, 1) := by decide +kernel
theorem dX5_unlock_15 : decode cX5_unlock 15 = .ok (.imul, 1) := by decide +kernel
theorem dX5_unlock_16 : decode cX5_unlock 16 = .ok (.iload_n 3, 1) := by decide +kernel
theorem dX5_unlock_17 : decode cX5_unlock 17 = .ok (.iadd, 1) := by decide +kernel
theorem dX5_unlock_18 : decode cX5_unlock 18 = .ok (.iaload, 1) := by decide +kernel
theorem dX5_unlock_19 : decode cX5_unlock 19 = .ok (.iload_n 1, 1) := by decide +kernel
theorem dX5_unlock_20 : decode cX5_unlock 20 = .ok (.if_icmp .ne 15, 3) := by decide +kernel
theorem dX5_unlock_23 : decode cX5_unlock 23 = .ok (.aload_n 0, 1) := by decide +kernel
theorem dX5_unlock_24 : decode cX5_unlock 24 = .ok (.getfield 21, 3) := by decide +kernel
theorem dX5_unlock_27 : decode cX5_unlock 27 = .ok (.bipush 20, 2) := by decide +kernel
theorem dX5_unlock_29 : decode cX5_unlock 29 = .ok (.iload_n 2, 1) := by decide +kernel
theorem dX5_unlock_30 : decode cX5_unlock 30 = .ok (.imul, 1) := by decide +kernel
theorem dX5_unlock_31 : decode cX5_unlock 31 = .ok (.iload_n 3, 1) := by decide +kernel
theorem dX5_unlock_32 : decode cX5_unlock 32 = .ok (.iadd, 1) := by decide +kernel
theorem dX5_unlock_33 : decode cX5_unlock 33 = .ok (.iconst (-1), 1) := by decide +kernel
theorem dX5_unlock_34 : decode cX5_unlock 34 = .ok (.iastore, 1) := by decide +kernel
theorem dX5_unlock_35 : decode cX5_unlock 35 = .ok (.iinc 3 1, 3) := by decide +kernel
theorem dX5_unlock_38 : decode cX5_unlock 38 = .ok (.goto (-36), 3) := by decide +kernel
theorem dX5_unlock_41 : decode cX5_unlock 41 = .ok (.return_, 1) := by decide +kernel
theorem dX5_send_0 : decode cX5_send 0 = .ok (.aload_n 0, 1) := by decide +kernel
theorem dX5_send_1 : decode cX5_send 1 = .ok (.dup, 1) := by decide +kernel
theorem dX5_send_2 : decode cX5_send 2 = .ok (.getfield 94, 3) := by decide +kernel
theorem dX5_send_5 : decode cX5_send 5 = .ok (.iconst 1, 1) := by decide +kernel
theorem dX5_send_6 : decode cX5_send 6 = .ok (.iadd, 1) := by decide +kernel
theorem dX5_send_7 : decode cX5_send 7 = .ok (.putfield 94, 3) := by decide +kernel
theorem dX5_send_10 : decode cX5_send 10 = .ok (.aload_n 0, 1) := by decide +kernel
theorem dX5_send_11 : decode cX5_send 11 = .ok (.getfield 91, 3) := by decide +kernel
theorem dX5_send_14 : decode cX5_send 14 = .ok (.sipush 300, 3) := by decide +kernel
theorem dX5_send_17 : decode cX5_send 17 = .ok (.if_icmp .ne 4, 3) := by decide +kernel
theorem dX5_send_20 : decode cX5_send 20 = .ok (.return_, 1) := by decide +kernel
theorem dX5_send_21 : decode cX5_send 21 = .ok (.aload_n 0, 1) := by decide +kernel
theorem dX5_send_22 : decode cX5_send 22 = .ok (.getfield 72, 3) := by decide +kernel
theorem dX5_send_25 : decode cX5_send 25 = .ok (.iconst 4, 1) := by decide +kernel
theorem dX5_send_26 : decode cX5_send 26 = .ok (.aload_n 0, 1) := by decide +kernel
theorem dX5_send_27 : decode cX5_send 27 = .ok (.getfield 91, 3) := by decide +kernel
theorem dX5_send_30 : decode cX5_send 30 = .ok (.imul, 1) := by decide +kernel
theorem dX5_send_31 : decode cX5_send 31 = .ok (.iload_n 1, 1) := by decide +kernel
theorem dX5_send_32 : decode cX5_send 32 = .ok (.iastore, 1) := by decide +kernel
theorem dX5_send_33 : decode cX5_send 33 = .ok (.aload_n 0, 1) := by decide +kernel
theorem dX5_send_34 : decode cX5_send 34 = .ok (.getfield 72, 3) := by decide +kernel
theorem dX5_send_37 : decode cX5_send 37 = .ok (.iconst 4, 1) := by decide +kernel
theorem dX5_send_38 : decode cX5_send 38 = .ok (.aload_n 0, 1) := by decide +kernel
theorem dX5_send_39 : decode cX5_send 39 = .ok (.getfield 91, 3) := by decide +kernel
theorem dX5_send_42 : decode cX5_send 42 = .ok (.imul, 1) := by decide +kernel
theorem dX5_send_43 : decode cX5_send 43 = .ok (.iconst 1, 1) := by decide +kernel
theorem dX5_send_44 : decode cX5_send 44 = .ok (.iadd, 1) := by decide +kernel
theorem dX5_send_45 : decode cX5_send 45 = .ok (.iload_n 2, 1) := by decide +kernel
theorem dX5_send_46 : decode cX5_send 46 = .ok (.iastore, 1) := by decide +kernel
theorem dX5_send_47 : decode cX5_send 47 = .ok (.aload_n 0, 1) := by decide +kernel
theorem dX5_send_48 : decode cX5_send 48 = .ok (.getfield 72, 3) := by decide +kernel
theorem dX5_send_51 : decode cX5_send 51 = .ok (.iconst 4, 1) := by decide +kernel
theorem dX5_send_52 : decode cX5_send 52 = .ok (.aload_n 0, 1) := by decide +kernel
theorem dX5_send_53 : decode cX5_send 53 = .ok (.getfield 91, 3) := by decide +kernel
theorem dX5_send_56 : decode cX5_send 56 = .ok (.imul, 1) := by decide +kernel
theorem dX5_send_57 : decode cX5_send 57 = .ok (.iconst 2, 1) := by decide +kernel
theorem dX5_send_58 : decode cX5_send 58 = .ok (.iadd, 1) := by decide +kernel
theorem dX5_send_59 : decode cX5_send 59 = .ok (.iload_n 3, 1) := by decide +kernel
theorem dX5_send_60 : decode cX5_send 60 = .ok (.iastore, 1) := by decide +kernel
theorem dX5_send_61 : decode cX5_send 61 = .ok (.aload_n 0, 1) := by decide +kernel
theorem dX5_send_62 : decode cX5_send 62 = .ok (.getfield 72, 3) := by decide +kernel
theorem dX5_send_65 : decode cX5_send 65 = .ok (.iconst 4, 1) := by decide +kernel
theorem dX5_send_66 : decode cX5_send 66 = .ok (.aload_n 0, 1) := by decide +kernel
theorem dX5_send_67 : decode cX5_send 67 = .ok (.getfield 91, 3) := by decide +kernel
theorem dX5_send_70 : decode cX5_send 70 = .ok (.imul, 1) := by decide +kernel
theorem dX5_send_71 : decode cX5_send 71 = .ok (.iconst 3, 1) := by decide +kernel
theorem dX5_send_72 : decode cX5_send 72 = .ok (.iadd, 1) := by decide +kernel
theorem dX5_send_73 : decode cX5_send 73 = .ok (.iload 4, 2) := by decide +kernel
theorem dX5_send_75 : decode cX5_send 75 = .ok (.iastore, 1) := by decide +kernel
theorem dX5_send_76 : decode cX5_send 76 = .ok (.aload_n 0, 1) := by decide +kernel
theorem dX5_send_77 : decode cX5_send 77 = .ok (.dup, 1) := by decide +kernel
theorem dX5_send_78 : decode cX5_send 78 = .ok (.getfield 91, 3) := by decide +kernel
theorem dX5_send_81 : decode cX5_send 81 = .ok (.iconst 1, 1) := by decide +kernel
theorem dX5_send_82 : decode cX5_send 82 = .ok (.iadd, 1) := by decide +kernel
theorem dX5_send_83 : decode cX5_send 83 = .ok (.putfield 91, 3) := by decide +kernel
theorem dX5_send_86 : decode cX5_send 86 = .ok (.return_, 1) := by decide +kernel
theorem dX5_applies_0 : decode cX5_applies 0 = .ok (.aload_n 0, 1) := by decide +kernel
theorem dX5_applies_1 : decode cX5_applies 1 = .ok (.getfield 13, 3) := by decide +kernel
theorem dX5_applies_4 : decode cX5_applies 4 = .ok (.iconst 5, 1) := by decide +kernel
theorem dX5_applies_5 : decode cX5_applies 5 = .ok (.iload_n 2, 1) := by decide +kernel
theorem dX5_applies_6 : decode cX5_applies 6 = .ok (.imul, 1) := by decide +kernel
theorem dX5_applies_7 : decode cX5_applies 7 = .ok (.aload_n 0, 1) := by decide +kernel
theorem dX5_applies_8 : decode cX5_applies 8 = .ok (.getfield 24, 3) := by decide +kernel
theorem dX5_applies_11 : decode cX5_applies 11 = .ok (.iload_n 1, 1) := by decide +kernel
theorem dX5_applies_12 : decode cX5_applies 12 = .ok (.iaload, 1) := by decide +kernel
theorem dX5_applies_13 : decode cX5_applies 13 = .ok (.iadd, 1) := by decide +kernel
theorem dX5_applies_14 : decode cX5_applies 14 = .ok (.dup2, 1) := by decide +kernel
theorem dX5_applies_15 : decode cX5_applies 15 = .ok (.iaload, 1) := by decide +kernel
theorem dX5_applies_16 : decode cX5_applies 16 = .ok (.iconst 1, 1) := by decide +kernel
theorem dX5_applies_17 : decode cX5_applies 17 = .ok (.iadd, 1) := by decide +kernel
theorem dX5_applies_18 : decode cX5_applies 18 = .ok (.iastore, 1) := by decide +kernel
theorem dX5_applies_19 : decode cX5_applies 19 = .ok (.aload_n 0, 1) := by decide +kernel
theorem dX5_applies_20 : decode cX5_applies 20 = .ok (.dup, 1) := by decide +kernel
theorem dX5_applies_21 : decode cX5_applies 21 = .ok (.getfield 85, 3) := by decide +kernel
theorem dX5_applies_24 : decode cX5_applies 24 = .ok (.iconst 1, 1) := by decide +kernel
theorem dX5_applies_25 : decode cX5_applies 25 = .ok (.iadd, 1) := by decide +kernel
theorem dX5_applies_26 : decode cX5_applies 26 = .ok (.putfield 85, 3) := by decide +kernel
theorem dX5_applies_29 : decode cX5_applies 29 = .ok (.aload_n 0, 1) := by decide +kernel
theorem dX5_applies_30 : decode cX5_applies 30 = .ok (.getfield 36, 3) := by decide +kernel
theorem dX5_applies_33 : decode cX5_applies 33 = .ok (.iconst 5, 1) := by decide +kernel
theorem dX5_applies_34 : decode cX5_applies 34 = .ok (.iload_n 1, 1) := by decide +kernel
theorem dX5_applies_35 : decode cX5_applies 35 = .ok (.imul, 1) := by decide +kernel
theorem dX5_applies_36 : decode cX5_applies 36 = .ok (.iload_n 2, 1) := by decide +kernel
theorem dX5_applies_37 : decode cX5_applies 37 = .ok (.iadd, 1) := by decide +kernel
theorem dX5_applies_38 : decode cX5_applies 38 = .ok (.aload_n 0, 1) := by decide +kernel
theorem dX5_applies_39 : decode cX5_applies 39 = .ok (.getfield 85, 3) := by decide +kernel
theorem dX5_applies_42 : decode cX5_applies 42 = .ok (.iastore, 1) := by decide +kernel
theorem dX5_applies_43 : decode cX5_applies 43 = .ok (.aload_n 0, 1) := by decide +kernel
theorem dX5_applies_44 : decode cX5_applies 44 = .ok (.getfield 39, 3) := by decide +kernel
theorem dX5_applies_47 : decode cX5_applies 47 = .ok (.iconst 5, 1) := by decide +kernel
theorem dX5_applies_48 : decode cX5_applies 48 = .ok (.iload_n 1, 1) := by decide +kernel
theorem dX5_applies_49 : decode cX5_applies 49 = .ok (.imul, 1) := by decide +kernel
theorem dX5_applies_50 : decode cX5_applies 50 = .ok (.iload_n 2, 1) := by decide +kernel
theorem dX5_applies_51 : decode cX5_applies 51 = .ok (.iadd, 1) := by decide +kernel
theorem dX5_applies_52 : decode cX5_applies 52 = .ok (.iconst 0, 1) := by decide +kernel
theorem dX5_applies_53 : decode cX5_applies 53 = .ok (.bastore, 1) := by decide +kernel
theorem dX5_applies_54 : decode cX5_applies 54 = .ok (.aload_n 0, 1) := by decide +kernel
theorem dX5_applies_55 : decode cX5_applies 55 = .ok (.iload_n 1, 1) := by decide +kernel
theorem dX5_applies_56 : decode cX5_applies 56 = .ok (.iload_n 2, 1) := by decide +kernel
theorem dX5_applies_57 : decode cX5_applies 57 = .ok (.invokevirtual 130, 3) := by decide +kernel
theorem dX5_applies_60 : decode cX5_applies 60 = .ok (.return_, 1) := by decide +kernel
theorem dX5_commits_0 : decode cX5_commits 0 = .ok (.aload_n 0, 1) := by decide +kernel
theorem dX5_commits_1 : decode cX5_commits 1 = .ok (.getfield 24, 3) := by decide +kernel
theorem dX5_commits_4 : decode cX5_commits 4 = .ok (.iload_n 1, 1) := by decide +kernel
theorem dX5_commits_5 : decode cX5_commits 5 = .ok (.iaload, 1) := by decide +kernel
theorem dX5_commits_6 : decode cX5_commits 6 = .ok (.istore_n 2, 1) := by decide +kernel
theorem dX5_commits_7 : decode cX5_commits 7 = .ok (.aload_n 0, 1) := by decide +kernel
theorem dX5_commits_8 : decode cX5_commits 8 = .ok (.getfield 27, 3) := by decide +kernel
theorem dX5_commits_11 : decode cX5_commits 11 = .ok (.iload_n 1, 1) := by decide +kernel
theorem dX5_commits_12 : decode cX5_commits 12 = .ok (.iconst 2, 1) := by decide +kernel
theorem dX5_commits_13 : decode cX5_commits 13 = .ok (.iastore, 1) := by decide +kernel
theorem dX5_commits_14 : decode cX5_commits 14 = .ok (.aload_n 0, 1) := by decide +kernel
theorem dX5_commits_15 : decode cX5_commits 15 = .ok (.getfield 30, 3) := by decide +kernel
theorem dX5_commits_18 : decode cX5_commits 18 = .ok (.iload_n 1, 1) := by decide +kernel
theorem dX5_commits_19 : decode cX5_commits 19 = .ok (.aload_n 0, 1) := by decide +kernel
theorem dX5_commits_20 : decode cX5_commits 20 = .ok (.getfield 13, 3) := by decide +kernel
theorem dX5_commits_23 : decode cX5_commits 23 = .ok (.iconst 5, 1) := by decide +kernel
theorem dX5_commits_24 : decode cX5_commits 24 = .ok (.iload_n 2, 1) := by decide +kernel
theorem dX5_commits_25 : decode cX5_commits 25 = .ok (.imul, 1) := by decide +kernel
theorem dX5_commits_26 : decode cX5_commits 26 = .ok (.iload_n 2, 1) := by decide +kernel
theorem dX5_commits_27 : decode cX5_commits 27 = .ok (.iadd, 1) := by decide +kernel
theorem dX5_commits_28 : decode cX5_commits 28 = .ok (.iaload, 1) := by decide +kernel
theorem dX5_commits_29 : decode cX5_commits 29 = .ok (.iconst 1, 1) := by decide +kernel
theorem dX5_commits_30 : decode cX5_commits 30 = .ok (.iadd, 1) := by decide +kernel
theorem dX5_commits_31 : decode cX5_commits 31 = .ok (.iastore, 1) := by decide +kernel
theorem dX5_commits_32 : decode cX5_commits 32 = .ok (.aload_n 0, 1) := by decide +kernel
theorem dX5_commits_33 : decode cX5_commits 33 = .ok (.iload_n 1, 1) := by decide +kernel
theorem dX5_commits_34 : decode cX5_commits 34 = .ok (.iload_n 2, 1) := by decide +kernel
theorem dX5_commits_35 : decode cX5_commits 35 = .ok (.invokevirtual 134, 3) := by decide +kernel
theorem dX5_commits_38 : decode cX5_commits 38 = .ok (.iconst 0, 1) := by decide +kernel
theorem dX5_commits_39 : decode cX5_commits 39 = .ok (.istore_n 3, 1) := by decide +kernel
theorem dX5_commits_40 : decode cX5_commits 40 = .ok (.iload_n 3, 1) := by decide +kernel
theorem dX5_commits_41 : decode cX5_commits 41 = .ok (.aload_n 0, 1) := by decide +kernel
theorem dX5_commits_42 : decode cX5_commits 42 = .ok (.getfield 7, 3) := by decide +kernel
theorem dX5_commits_45 : decode cX5_commits 45 = .ok (.if_icmp .ge 22, 3) := by decide +kernel
theorem dX5_commits_48 : decode cX5_commits 48 = .ok (.iload_n 3, 1) := by decide +kernel
theorem dX5_commits_49 : decode cX5_commits 49 = .ok (.iload_n 2, 1) := by decide +kernel
theorem dX5_commits_50 : decode cX5_commits 50 = .ok (.if_icmp .eq 11, 3) := by decide +kernel
theorem dX5_commits_53 : decode cX5_commits 53 = .ok (.aload_n 0, 1) := by decide +kernel
theorem dX5_commits_54 : decode cX5_commits 54 = .ok (.iconst 5, 1) := by decide +kernel
theorem dX5_commits_55 : decode cX5_commits 55 = .ok (.iload_n 2, 1) := by decide +kernel
theorem dX5_commits_56 : decode cX5_commits 56 = .ok (.iload_n 3, 1) := by decide +kernel
theorem dX5_commits_57 : decode cX5_commits 57 = .ok (.iload_n 1, 1) := by decide +kernel
theorem dX5_commits_58 : decode cX5_commits 58 = .ok (.invokevirtual 137, 3) := by decide +kernel
theorem dX5_commits_61 : decode cX5_commits 61 = .ok (.iinc 3 1, 3) := by decide +kernel
theorem dX5_commits_64 : decode cX5_commits 64 = .ok (.goto (-24), 3) := by decide +kernel
theorem dX5_commits_67 : decode cX5_commits 67 = .ok (.return_, 1) := by decide +kernel
theorem dX5_frees_0 : decode cX5_frees 0 = .ok (.aload_n 0, 1) := by decide +kernel
theorem dX5_frees_1 : decode cX5_frees 1 = .ok (.iload_n 1, 1) := by decide +kernel
theorem dX5_frees_2 : decode cX5_frees 2 = .ok (.aload_n 0, 1) := by decide +kernel
theorem dX5_frees_3 : decode cX5_frees 3 = .ok (.getfield 24, 3) := by decide +kernel
theorem dX5_frees_6 : decode cX5_frees 6 = .ok (.iload_n 1, 1) := by decide +kernel
theorem dX5_frees_7 : decode cX5_frees 7 = .ok (.iaload, 1) := by decide +kernel
theorem dX5_frees_8 : decode cX5_frees 8 = .ok (.invokevirtual 130, 3) := by decide +kernel
theorem dX5_frees_11 : decode cX5_frees 11 = .ok (.iconst 0, 1) := by decide +kernel
theorem dX5_frees_12 : decode cX5_frees 12 = .ok (.istore_n 2, 1) := by decide +kernel
theorem dX5_frees_13 : decode cX5_frees 13 = .ok (.iload_n 2, 1) := by decide +kernel
theorem dX5_frees_14 : decode cX5_frees 14 = .ok (.aload_n 0, 1) := by decide +kernel
theorem dX5_frees_15 : decode cX5_frees 15 = .ok (.getfield 7, 3) := by decide +kernel
theorem dX5_frees_18 : decode cX5_frees 18 = .ok (.if_icmp .ge 35, 3) := by decide +kernel
theorem dX5_frees_21 : decode cX5_frees 21 = .ok (.aload_n 0, 1) := by decide +kernel
theorem dX5_frees_22 : decode cX5_frees 22 = .ok (.getfield 45, 3) := by decide +kernel
theorem dX5_frees_25 : decode cX5_frees 25 = .ok (.iconst 5, 1) := by decide +kernel
theorem dX5_frees_26 : decode cX5_frees 26 = .ok (.iload_n 1, 1) := by decide +kernel
theorem dX5_frees_27 : decode cX5_frees 27 = .ok (.imul, 1) := by decide +kernel
theorem dX5_frees_28 : decode cX5_frees 28 = .ok (.iload_n 2, 1) := by decide +kernel
theorem dX5_frees_29 : decode cX5_frees 29 = .ok (.iadd, 1) := by decide +kernel
theorem dX5_frees_30 : decode cX5_frees 30 = .ok (.baload, 1) := by decide +kernel
theorem dX5_frees_31 : decode cX5_frees 31 = .ok (.ifCond .eq 16, 3) := by decide +kernel
theorem dX5_frees_34 : decode cX5_frees 34 = .ok (.aload_n 0, 1) := by decide +kernel
theorem dX5_frees_35 : decode cX5_frees 35 = .ok (.iconst 4, 1) := by decide +kernel
theorem dX5_frees_36 : decode cX5_frees 36 = .ok (.aload_n 0, 1) := by decide +kernel
theorem dX5_frees_37 : decode cX5_frees 37 = .ok (.getfield 24, 3) := by decide +kernel
theorem dX5_frees_40 : decode cX5_frees 40 = .ok (.iload_n 1, 1) := by decide +kernel
theorem dX5_frees_41 : decode cX5_frees 41 = .ok (.iaload, 1) := by decide +kernel
theorem dX5_frees_42 : decode cX5_frees 42 = .ok (.iload_n 2, 1) := by decide +kernel
theorem dX5_frees_43 : decode cX5_frees 43 = .ok (.iload_n 1, 1) := by decide +kernel
theorem dX5_frees_44 : decode cX5_frees 44 = .ok (.invokevirtual 137, 3) := by decide +kernel
theorem dX5_frees_47 : decode cX5_frees 47 = .ok (.iinc 2 1, 3) := by decide +kernel
theorem dX5_frees_50 : decode cX5_frees 50 = .ok (.goto (-37), 3) := by decide +kernel
theorem dX5_frees_53 : decode cX5_frees 53 = .ok (.return_, 1) := by decide +kernel
theorem dX5_commit_0 : decode cX5_commit 0 = .ok (.aload_n 0, 1) := by decide +kernel
theorem dX5_commit_1 : decode cX5_commit 1 = .ok (.aload_n 0, 1) := by decide +kernel
