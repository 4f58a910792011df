theorem dX4_isObjectFit_26 : decode cX4_isObjectFit 26 = .ok (.istore 5, 2) := by decide +kernel
theorem dX4_isObjectFit_28 : decode cX4_isObjectFit 28 = .ok (.iload 5, 2) := by decide +kernel
theorem dX4_isObjectFit_30 : decode cX4_isObjectFit 30 = .ok (.aload_n 3, 1) := by decide +kernel
theorem dX4_isObjectFit_31 : decode cX4_isObjectFit 31 = .ok (.getfield 264, 3) := by decide +kernel
theorem dX4_isObjectFit_34 : decode cX4_isObjectFit 34 = .ok (.if_icmp .ge 51, 3) := by decide +kernel
theorem dX4_isObjectFit_37 : decode cX4_isObjectFit 37 = .ok (.aload_n 0, 1) := by decide +kernel
theorem dX4_isObjectFit_38 : decode cX4_isObjectFit 38 = .ok (.getfield 19, 3) := by decide +kernel
theorem dX4_isObjectFit_41 : decode cX4_isObjectFit 41 = .ok (.aload_n 3, 1) := by decide +kernel
theorem dX4_isObjectFit_42 : decode cX4_isObjectFit 42 = .ok (.getfield 267, 3) := by decide +kernel
theorem dX4_isObjectFit_45 : decode cX4_isObjectFit 45 = .ok (.iload 5, 2) := by decide +kernel
theorem dX4_isObjectFit_47 : decode cX4_isObjectFit 47 = .ok (.iaload, 1) := by decide +kernel
theorem dX4_isObjectFit_48 : decode cX4_isObjectFit 48 = .ok (.invokevirtual 66, 3) := by decide +kernel
theorem dX4_isObjectFit_51 : decode cX4_isObjectFit 51 = .ok (.checkcast 59, 3) := by decide +kernel
theorem dX4_isObjectFit_54 : decode cX4_isObjectFit 54 = .ok (.astore 6, 2) := by decide +kernel
theorem dX4_isObjectFit_56 : decode cX4_isObjectFit 56 = .ok (.aload 6, 2) := by decide +kernel
theorem dX4_isObjectFit_58 : decode cX4_isObjectFit 58 = .ok (.iload_n 2, 1) := by decide +kernel
theorem dX4_isObjectFit_59 : decode cX4_isObjectFit 59 = .ok (.invokevirtual 88, 3) := by decide +kernel
theorem dX4_isObjectFit_62 : decode cX4_isObjectFit 62 = .ok (.ifCond .eq 17, 3) := by decide +kernel
theorem dX4_isObjectFit_65 : decode cX4_isObjectFit 65 = .ok (.aload 6, 2) := by decide +kernel
theorem dX4_isObjectFit_67 : decode cX4_isObjectFit 67 = .ok (.aload_n 1, 1) := by decide +kernel
theorem dX4_isObjectFit_68 : decode cX4_isObjectFit 68 = .ok (.getfield 98, 3) := by decide +kernel
theorem dX4_isObjectFit_71 : decode cX4_isObjectFit 71 = .ok (.invokevirtual 270, 3) := by decide +kernel
theorem dX4_isObjectFit_74 : decode cX4_isObjectFit 74 = .ok (.ifCond .ne 5, 3) := by decide +kernel
theorem dX4_isObjectFit_77 : decode cX4_isObjectFit 77 = .ok (.iconst 0, 1) := by decide +kernel
theorem dX4_isObjectFit_78 : decode cX4_isObjectFit 78 = .ok (.ireturn, 1) := by decide +kernel
theorem dX4_isObjectFit_79 : decode cX4_isObjectFit 79 = .ok (.iinc 5 1, 3) := by decide +kernel
theorem dX4_isObjectFit_82 : decode cX4_isObjectFit 82 = .ok (.goto (-54), 3) := by decide +kernel
theorem dX4_isObjectFit_85 : decode cX4_isObjectFit 85 = .ok (.iconst 1, 1) := by decide +kernel
theorem dX4_isObjectFit_86 : decode cX4_isObjectFit 86 = .ok (.ireturn, 1) := by decide +kernel
set_option maxRecDepth 20000 in
theorem ggX4_lockAt_X4_hasWithHome : GoodIn wsX4_lockAt wsX4_hasWithHome := goodIn_r _ [8, 9, 10, 11, 12, 13, 14, 15, 7, 16, 17, 18, 19, 20, 21, 22, 23, 24, 37, 38, 39, 40, 41, 42, 43, 44, 45, 46, 47, 48, 49, 50, 51, 52, 25, 26, 27, 28, 29, 30, 31] (by decide +kernel) (by decide +kernel)
set_option maxRecDepth 20000 in
theorem gX4_lockAt_X4_hasWithHome : GoodIn wsX4_lockAt (wsV RX4 274 RX4 yX4_hasWithHome wsX4_hasWithHome) := goodIn_app (goodIn_of _ (by decide +kernel)) ggX4_lockAt_X4_hasWithHome
theorem dX4_lockAt_0 : decode cX4_lockAt 0 = .ok (.iconst 0, 1) := by decide +kernel
theorem dX4_lockAt_1 : decode cX4_lockAt 1 = .ok (.istore_n 3, 1) := by decide +kernel
theorem dX4_lockAt_2 : decode cX4_lockAt 2 = .ok (.iload_n 3, 1) := by decide +kernel
theorem dX4_lockAt_3 : decode cX4_lockAt 3 = .ok (.bipush 20, 2) := by decide +kernel
theorem dX4_lockAt_5 : decode cX4_lockAt 5 = .ok (.if_icmp .ge 34, 3) := by decide +kernel
theorem dX4_lockAt_8 : decode cX4_lockAt 8 = .ok (.aload_n 0, 1) := by decide +kernel
theorem dX4_lockAt_9 : decode cX4_lockAt 9 = .ok (.aload_n 1, 1) := by decide +kernel
theorem dX4_lockAt_10 : decode cX4_lockAt 10 = .ok (.iload_n 3, 1) := by decide +kernel
theorem dX4_lockAt_11 : decode cX4_lockAt 11 = .ok (.iload_n 2, 1) := by decide +kernel
theorem dX4_lockAt_12 : decode cX4_lockAt 12 = .ok (.invokevirtual 274, 3) := by decide +kernel
theorem dX4_lockAt_15 : decode cX4_lockAt 15 = .ok (.ifCond .eq 18, 3) := by decide +kernel
theorem dX4_lockAt_18 : decode cX4_lockAt 18 = .ok (.aload_n 0, 1) := by decide +kernel
theorem dX4_lockAt_19 : decode cX4_lockAt 19 = .ok (.getfield 11, 3) := by decide +kernel
theorem dX4_lockAt_22 : decode cX4_lockAt 22 = .ok (.iload_n 2, 1) := by decide +kernel
theorem dX4_lockAt_23 : decode cX4_lockAt 23 = .ok (.aaload, 1) := by decide +kernel
theorem dX4_lockAt_24 : decode cX4_lockAt 24 = .ok (.getfield 235, 3) := by decide +kernel
theorem dX4_lockAt_27 : decode cX4_lockAt 27 = .ok (.iload_n 3, 1) := by decide +kernel
theorem dX4_lockAt_28 : decode cX4_lockAt 28 = .ok (.aload_n 1, 1) := by decide +kernel
theorem dX4_lockAt_29 : decode cX4_lockAt 29 = .ok (.getfield 282, 3) := by decide +kernel
theorem dX4_lockAt_32 : decode cX4_lockAt 32 = .ok (.iastore, 1) := by decide +kernel
theorem dX4_lockAt_33 : decode cX4_lockAt 33 = .ok (.iinc 3 1, 3) := by decide +kernel
theorem dX4_lockAt_36 : decode cX4_lockAt 36 = .ok (.goto (-34), 3) := by decide +kernel
theorem dX4_lockAt_39 : decode cX4_lockAt 39 = .ok (.return_, 1) := by decide +kernel
set_option maxRecDepth 20000 in
theorem ggX4_makeWaiting_X4_lockAt : GoodIn wsX4_makeWaiting wsX4_lockAt := goodIn_r _ [8, 9, 10, 11, 12, 13, 14, 7, 15, 16, 17, 18, 19, 20, 21, 22, 23, 24, 25, 26, 27, 28, 29, 30, 31, 146, 147, 148, 149, 150, 151, 152, 153, 154, 155, 156, 157, 130, 131, 132, 133, 134, 135, 136, 137, 138, 139, 140, 141, 142, 143, 144, 145] (by decide +kernel) (by decide +kernel)
set_option maxRecDepth 20000 in
theorem gX4_makeWaiting_X4_lockAt : GoodIn wsX4_makeWaiting (wsV RX4 285 RX4 yX4_lockAt wsX4_lockAt) := goodIn_app (goodIn_of _ (by decide +kernel)) ggX4_makeWaiting_X4_lockAt
set_option maxRecDepth 20000 in
theorem ggX4_makeWaiting_X4_sendToAll : GoodIn wsX4_makeWaiting wsX4_sendToAll := goodIn_r _ [35, 31, 1, 11, 36, 22, 7, 23, 24, 25, 26, 37, 38, 39, 40, 41, 42, 43, 44, 45, 46, 47, 48, 49, 50, 51, 52, 53, 54, 55, 56, 57, 58, 59, 60, 61, 62, 63, 64, 65, 66, 67, 68, 69, 70, 71, 72, 73, 74, 75, 76, 77, 78, 79, 80, 81, 82, 83, 84, 85, 86, 87, 88, 89, 90, 91, 92, 93, 94, 95, 96, 97, 98, 99, 100, 101, 102, 103, 104, 105, 106, 107, 108, 109, 110, 111, 112, 113, 114, 115, 116, 117, 118, 119, 120, 121, 122, 123, 124, 125, 126, 127, 128, 129, 146, 147, 148, 149, 150, 151, 152, 130, 131, 132, 133, 134, 135, 136, 137, 138, 139, 140, 141, 142, 143, 144, 145, 158, 159, 160, 161, 162, 163, 164] (by decide +kernel) (by decide +kernel)
set_option maxRecDepth 20000 in
theorem gX4_makeWaiting_X4_sendToAll : GoodIn wsX4_makeWaiting (wsV RX4 163 RX4 yX4_sendToAll wsX4_sendToAll) := goodIn_app (goodIn_of _ (by decide +kernel)) ggX4_makeWaiting_X4_sendToAll
theorem dX4_makeWaiting_0 : decode cX4_makeWaiting 0 = .ok (.aload_n 0, 1) := by decide +kernel
theorem dX4_makeWaiting_1 : decode cX4_makeWaiting 1 = .ok (.aload_n 1, 1) := by decide +kernel
theorem dX4_makeWaiting_2 : decode cX4_makeWaiting 2 = .ok (.aload_n 1, 1) := by decide +kernel
theorem dX4_makeWaiting_3 : decode cX4_makeWaiting 3 = .ok (.getfield 95, 3) := by decide +kernel
theorem dX4_makeWaiting_6 : decode cX4_makeWaiting 6 = .ok (.invokevirtual 285, 3) := by decide +kernel
theorem dX4_makeWaiting_9 : decode cX4_makeWaiting 9 = .ok (.aload_n 1, 1) := by decide +kernel
theorem dX4_makeWaiting_10 : decode cX4_makeWaiting 10 = .ok (.iconst 1, 1) := by decide +kernel
theorem dX4_makeWaiting_11 : decode cX4_makeWaiting 11 = .ok (.putfield 147, 3) := by decide +kernel
theorem dX4_makeWaiting_14 : decode cX4_makeWaiting 14 = .ok (.aload_n 1, 1) := by decide +kernel
theorem dX4_makeWaiting_15 : decode cX4_makeWaiting 15 = .ok (.iload_n 2, 1) := by decide +kernel
theorem dX4_makeWaiting_16 : decode cX4_makeWaiting 16 = .ok (.putfield 157, 3) := by decide +kernel
theorem dX4_makeWaiting_19 : decode cX4_makeWaiting 19 = .ok (.aload_n 0, 1) := by decide +kernel
theorem dX4_makeWaiting_20 : decode cX4_makeWaiting 20 = .ok (.iconst 1, 1) := by decide +kernel
theorem dX4_makeWaiting_21 : decode cX4_makeWaiting 21 = .ok (.aload_n 1, 1) := by decide +kernel
theorem dX4_makeWaiting_22 : decode cX4_makeWaiting 22 = .ok (.iload_n 2, 1) := by decide +kernel
theorem dX4_makeWaiting_23 : decode cX4_makeWaiting 23 = .ok (.invokevirtual 163, 3) := by decide +kernel
theorem dX4_makeWaiting_26 : decode cX4_makeWaiting 26 = .ok (.pop, 1) := by decide +kernel
theorem dX4_makeWaiting_27 : decode cX4_makeWaiting 27 = .ok (.return_, 1) := by decide +kernel
set_option maxRecDepth 20000 in
theorem ggX4_makeCommitted_X4_applyAt : GoodIn wsX4_makeCommitted wsX4_applyAt := goodIn_r _ [10, 2, 11, 12, 13, 14, 15, 16, 17, 18, 19, 20, 21, 22, 23, 24, 25, 26, 27, 28, 29, 9, 30, 153, 154, 155, 156, 157, 158, 159, 137, 138, 139, 140, 141, 142, 143, 144, 145, 146, 147, 148, 149, 150, 151, 152, 160, 161, 162, 163, 164] (by decide +kernel) (by decide +kernel)
set_option maxRecDepth 20000 in
theorem gX4_makeCommitted_X4_applyAt : GoodIn wsX4_makeCommitted (wsV RX4 288 RX4 yX4_applyAt wsX4_applyAt) := goodIn_app (goodIn_of _ (by decide +kernel)) ggX4_makeCommitted_X4_applyAt
set_option maxRecDepth 20000 in
theorem ggX4_makeCommitted_X4_allSites : GoodIn wsX4_makeCommitted wsX4_allSites := goodIn_r _ [34, 35, 28, 29, 9, 30, 153, 154, 155, 156, 157, 158, 159] (by decide +kernel) (by decide +kernel)
set_option maxRecDepth 20000 in
theorem gX4_makeCommitted_X4_allSites : GoodIn wsX4_makeCommitted (wsV RX4 167 RX4 yX4_allSites wsX4_allSites) := goodIn_app (goodIn_of _ (by decide +kernel)) ggX4_makeCommitted_X4_allSites
set_option maxRecDepth 20000 in
theorem ggX4_makeCommitted_X4_bit : GoodIn wsX4_makeCommitted wsX4_bit := goodIn_r _ [30] (by decide +kernel) (by decide +kernel)
set_option maxRecDepth 20000 in
theorem gX4_makeCommitted_X4_bit : GoodIn wsX4_makeCommitted (va_wsS RX4 140 yX4_bit wsX4_bit) := goodIn_app (goodIn_of _ (by decide +kernel)) ggX4_makeCommitted_X4_bit
set_option maxRecDepth 20000 in
theorem ggX4_makeCommitted_X4_sendToAll : GoodIn wsX4_makeCommitted wsX4_sendToAll := goodIn_r _ [39, 35, 3, 40, 41, 42, 9, 43, 28, 29, 30, 44, 45, 46, 47, 48, 49, 50, 51, 52, 53, 54, 55, 56, 57, 58, 59, 60, 61, 62, 63, 64, 65, 66, 67, 68, 69, 70, 71, 72, 73, 74, 75, 76, 77, 78, 79, 80, 81, 82, 83, 84, 85, 86, 87, 88, 89, 90, 91, 92, 93, 94, 95, 96, 97, 98, 99, 100, 101, 102, 103, 104, 105, 106, 107, 108, 109, 110, 111, 112, 113, 114, 115, 116, 117, 118, 119, 120, 121, 122, 123, 124, 125, 126, 127, 128, 129, 130, 131, 132, 133, 134, 135, 136, 153, 154, 155, 156, 157, 158, 159, 137, 138, 139, 140, 141, 142, 143, 144, 145, 146, 147, 148, 149, 150, 151, 152, 165, 166, 167, 168, 169, 170, 171] (by decide +kernel) (by decide +kernel)
set_option maxRecDepth 20000 in
theorem gX4_makeCommitted_X4_sendToAll : GoodIn wsX4_makeCommitted (wsV RX4 163 RX4 yX4_sendToAll wsX4_sendToAll) := goodIn_app (goodIn_of _ (by decide +kernel)) ggX4_makeCommitted_X4_sendToAll
theorem dX4_makeCommitted_0 : decode cX4_makeCommitted 0 = .ok (.aload_n 1, 1) := by decide +kernel
theorem dX4_makeCommitted_1 : decode cX4_makeCommitted 1 = .ok (.iconst 2, 1) := by decide +kernel
theorem dX4_makeCommitted_2 : decode cX4_makeCommitted 2 = .ok (.putfield 147, 3) := by decide +kernel
theorem dX4_makeCommitted_5 : decode cX4_makeCommitted 5 = .ok (.aload_n 1, 1) := by decide +kernel
theorem dX4_makeCommitted_6 : decode cX4_makeCommitted 6 = .ok (.aload_n 0, 1) := by decide +kernel
theorem dX4_makeCommitted_7 : decode cX4_makeCommitted 7 = .ok (.getfield 11, 3) := by decide +kernel
theorem dX4_makeCommitted_10 : decode cX4_makeCommitted 10 = .ok (.aload_n 1, 1) := by decide +kernel
theorem dX4_makeCommitted_11 : decode cX4_makeCommitted 11 = .ok (.getfield 95, 3) := by decide +kernel
theorem dX4_makeCommitted_14 : decode cX4_makeCommitted 14 = .ok (.aaload, 1) := by decide +kernel
theorem dX4_makeCommitted_15 : decode cX4_makeCommitted 15 = .ok (.getfield 70, 3) := by decide +kernel
theorem dX4_makeCommitted_18 : decode cX4_makeCommitted 18 = .ok (.aload_n 1, 1) := by decide +kernel
theorem dX4_makeCommitted_19 : decode cX4_makeCommitted 19 = .ok (.getfield 95, 3) := by decide +kernel
theorem dX4_makeCommitted_22 : decode cX4_makeCommitted 22 = .ok (.iaload, 1) := by decide +kernel
theorem dX4_makeCommitted_23 : decode cX4_makeCommitted 23 = .ok (.iconst 1, 1) := by decide +kernel
theorem dX4_makeCommitted_24 : decode cX4_makeCommitted 24 = .ok (.iadd, 1) := by decide +kernel
theorem dX4_makeCommitted_25 : decode cX4_makeCommitted 25 = .ok (.putfield 220, 3) := by decide +kernel
theorem dX4_makeCommitted_28 : decode cX4_makeCommitted 28 = .ok (.aload_n 0, 1) := by decide +kernel
theorem dX4_makeCommitted_29 : decode cX4_makeCommitted 29 = .ok (.aload_n 1, 1) := by decide +kernel
theorem dX4_makeCommitted_30 : decode cX4_makeCommitted 30 = .ok (.aload_n 1, 1) := by decide +kernel
theorem dX4_makeCommitted_31 : decode cX4_makeCommitted 31 = .ok (.getfield 95, 3) := by decide +kernel
theorem dX4_makeCommitted_34 : decode cX4_makeCommitted 34 = .ok (.invokevirtual 288, 3) := by decide +kernel
theorem dX4_makeCommitted_37 : decode cX4_makeCommitted 37 = .ok (.aload_n 0, 1) := by decide +kernel
theorem dX4_makeCommitted_38 : decode cX4_makeCommitted 38 = .ok (.iconst 5, 1) := by decide +kernel
theorem dX4_makeCommitted_39 : decode cX4_makeCommitted 39 = .ok (.aload_n 1, 1) := by decide +kernel
theorem dX4_makeCommitted_40 : decode cX4_makeCommitted 40 = .ok (.aload_n 0, 1) := by decide +kernel
theorem dX4_makeCommitted_41 : decode cX4_makeCommitted 41 = .ok (.invokevirtual 167, 3) := by decide +kernel
theorem dX4_makeCommitted_44 : decode cX4_makeCommitted 44 = .ok (.aload_n 1, 1) := by decide +kernel
theorem dX4_makeCommitted_45 : decode cX4_makeCommitted 45 = .ok (.getfield 95, 3) := by decide +kernel
theorem dX4_makeCommitted_48 : decode cX4_makeCommitted 48 = .ok (.invokestatic 140, 3) := by decide +kernel
theorem dX4_makeCommitted_51 : decode cX4_makeCommitted 51 = .ok (.iconst (-1), 1) := by decide +kernel
theorem dX4_makeCommitted_52 : decode cX4_makeCommitted 52 = .ok (.ixor, 1) := by decide +kernel
theorem dX4_makeCommitted_53 : decode cX4_makeCommitted 53 = .ok (.iand, 1) := by decide +kernel
theorem dX4_makeCommitted_54 : decode cX4_makeCommitted 54 = .ok (.invokevirtual 163, 3) := by decide +kernel
theorem dX4_makeCommitted_57 : decode cX4_makeCommitted 57 = .ok (.pop, 1) := by decide +kernel
theorem dX4_makeCommitted_58 : decode cX4_makeCommitted 58 = .ok (.return_, 1) := by decide +kernel
set_option maxRecDepth 20000 in
theorem ggX4_applyAt_X2_take : GoodIn wsX4_applyAt wsX2_take := goodIn_r _ [8, 9, 10, 11, 12, 13, 14, 15, 16, 7, 17, 18, 46, 47, 48, 49, 50, 30, 31, 32, 33, 34, 35, 36, 37, 38, 39, 40, 41, 42, 43, 44, 45] (by decide +kernel) (by decide +kernel)
set_option maxRecDepth 20000 in
theorem gX4_applyAt_X2_take : GoodIn wsX4_applyAt (wsV RX4 291 RX2 yX2_take wsX2_take) := goodIn_app (goodIn_of _ (by decide +kernel)) ggX4_applyAt_X2_take
set_option maxRecDepth 20000 in
theorem ggX4_applyAt_X4_bit : GoodIn wsX4_applyAt wsX4_bit := goodIn_r _ [22] (by decide +kernel) (by decide +kernel)
set_option maxRecDepth 20000 in
theorem gX4_applyAt_X4_bit : GoodIn wsX4_applyAt (va_wsS RX4 140 yX4_bit wsX4_bit) := goodIn_app (goodIn_of _ (by decide +kernel)) ggX4_applyAt_X4_bit
theorem dX4_applyAt_0 : decode cX4_applyAt 0 = .ok (.aload_n 0, 1) := by decide +kernel
theorem dX4_applyAt_1 : decode cX4_applyAt 1 = .ok (.getfield 11, 3) := by decide +kernel
theorem dX4_applyAt_4 : decode cX4_applyAt 4 = .ok (.iload_n 2, 1) := by decide +kernel
theorem dX4_applyAt_5 : decode cX4_applyAt 5 = .ok (.aaload, 1) := by decide +kernel
theorem dX4_applyAt_6 : decode cX4_applyAt 6 = .ok (.aload_n 1, 1) := by decide +kernel
theorem dX4_applyAt_7 : decode cX4_applyAt 7 = .ok (.invokevirtual 291, 3) := by decide +kernel
theorem dX4_applyAt_10 : decode cX4_applyAt 10 = .ok (.aload_n 1, 1) := by decide +kernel
theorem dX4_applyAt_11 : decode cX4_applyAt 11 = .ok (.dup, 1) := by decide +kernel
theorem dX4_applyAt_12 : decode cX4_applyAt 12 = .ok (.getfield 170, 3) := by decide +kernel
theorem dX4_applyAt_15 : decode cX4_applyAt 15 = .ok (.iload_n 2, 1) := by decide +kernel
theorem dX4_applyAt_16 : decode cX4_applyAt 16 = .ok (.invokestatic 140, 3) := by decide +kernel
theorem dX4_applyAt_19 : decode cX4_applyAt 19 = .ok (.ior, 1) := by decide +kernel
theorem dX4_applyAt_20 : decode cX4_applyAt 20 = .ok (.putfield 170, 3) := by decide +kernel
theorem dX4_applyAt_23 : decode cX4_applyAt 23 = .ok (.aload_n 1, 1) := by decide +kernel
theorem dX4_applyAt_24 : decode cX4_applyAt 24 = .ok (.dup, 1) := by decide +kernel
theorem dX4_applyAt_25 : decode cX4_applyAt 25 = .ok (.getfield 208, 3) := by decide +kernel
theorem dX4_applyAt_28 : decode cX4_applyAt 28 = .ok (.iload_n 2, 1) := by decide +kernel
theorem dX4_applyAt_29 : decode cX4_applyAt 29 = .ok (.invokestatic 140, 3) := by decide +kernel
theorem dX4_applyAt_32 : decode cX4_applyAt 32 = .ok (.iconst (-1), 1) := by decide +kernel
theorem dX4_applyAt_33 : decode cX4_applyAt 33 = .ok (.ixor, 1) := by decide +kernel
theorem dX4_applyAt_34 : decode cX4_applyAt 34 = .ok (.iand, 1) := by decide +kernel
theorem dX4_applyAt_35 : decode cX4_applyAt 35 = .ok (.putfield 208, 3) := by decide +kernel
theorem dX4_applyAt_38 : decode cX4_applyAt 38 = .ok (.return_, 1) := by decide +kernel
set_option maxRecDepth 20000 in
theorem ggX4_giveUpLocks_X2_unlock : GoodIn wsX4_giveUpLocks wsX2_unlock := goodIn_r _ [9, 10, 139, 140, 141, 142, 143] (by decide +kernel) (by decide +kernel)
set_option maxRecDepth 20000 in
theorem gX4_giveUpLocks_X2_unlock : GoodIn wsX4_giveUpLocks (wsV RX4 294 RX2 yX2_unlock wsX2_unlock) := goodIn_app (goodIn_of _ (by decide +kernel)) ggX4_giveUpLocks_X2_unlock
set_option maxRecDepth 20000 in
theorem ggX4_giveUpLocks_X4_sendToAll : GoodIn wsX4_giveUpLocks wsX4_sendToAll := goodIn_r _ [15, 16, 2, 3, 17, 18, 14, 19, 20, 21, 22, 23, 24, 25, 26, 27, 28, 29, 30, 31, 32, 33, 34, 35, 36, 37, 38, 39, 40, 41, 42, 43, 44, 45, 46, 47, 48, 49, 50, 51, 52, 53, 54, 55, 56, 57, 58, 59, 60, 61, 62, 63, 64, 65, 66, 67, 68, 69, 70, 71, 72, 73, 74, 75, 76, 77, 78, 79, 80, 81, 82, 83, 84, 85, 86, 87, 88, 89, 90, 91, 92, 93, 94, 95, 96, 97, 98, 99, 100, 101, 102, 103, 104, 105, 106, 107, 108, 109, 110, 111, 112, 113, 114, 115, 116, 117, 118, 119, 120, 121, 122, 123, 124, 125, 126, 127, 128, 129, 130, 131, 132, 133, 134, 135, 136, 137, 138, 144, 145, 146, 147, 148, 149, 150] (by decide +kernel) (by decide +kernel)
set_option maxRecDepth 20000 in
theorem gX4_giveUpLocks_X4_sendToAll : GoodIn wsX4_giveUpLocks (wsV RX4 163 RX4 yX4_sendToAll wsX4_sendToAll) := goodIn_app (goodIn_of _ (by decide +kernel)) ggX4_giveUpLocks_X4_sendToAll
theorem dX4_giveUpLocks_0 : decode cX4_giveUpLocks 0 = .ok (.aload_n 0, 1) := by decide +kernel
theorem dX4_giveUpLocks_1 : decode cX4_giveUpLocks 1 = .ok (.getfield 11, 3) := by decide +kernel
theorem dX4_giveUpLocks_4 : decode cX4_giveUpLocks 4 = .ok (.aload_n 1, 1) := by decide +kernel
theorem dX4_giveUpLocks_5 : decode cX4_giveUpLocks 5 = .ok (.getfield 95, 3) := by decide +kernel
theorem dX4_giveUpLocks_8 : decode cX4_giveUpLocks 8 = .ok (.aaload, 1) := by decide +kernel
theorem dX4_giveUpLocks_9 : decode cX4_giveUpLocks 9 = .ok (.aload_n 1, 1) := by decide +kernel
theorem dX4_giveUpLocks_10 : decode cX4_giveUpLocks 10 = .ok (.getfield 282, 3) := by decide +kernel
theorem dX4_giveUpLocks_13 : decode cX4_giveUpLocks 13 = .ok (.invokevirtual 294, 3) := by decide +kernel
theorem dX4_giveUpLocks_16 : decode cX4_giveUpLocks 16 = .ok (.aload_n 0, 1) := by decide +kernel
theorem dX4_giveUpLocks_17 : decode cX4_giveUpLocks 17 = .ok (.iconst 4, 1) := by decide +kernel
theorem dX4_giveUpLocks_18 : decode cX4_giveUpLocks 18 = .ok (.aload_n 1, 1) := by decide +kernel
theorem dX4_giveUpLocks_19 : decode cX4_giveUpLocks 19 = .ok (.aload_n 1, 1) := by decide +kernel
theorem dX4_giveUpLocks_20 : decode cX4_giveUpLocks 20 = .ok (.getfield 157, 3) := by decide +kernel
theorem dX4_giveUpLocks_23 : decode cX4_giveUpLocks 23 = .ok (.invokevirtual 163, 3) := by decide +kernel
theorem dX4_giveUpLocks_26 : decode cX4_giveUpLocks 26 = .ok (.pop, 1) := by decide +kernel
theorem dX4_giveUpLocks_27 : decode cX4_giveUpLocks 27 = .ok (.return_, 1) := by decide +kernel
theorem dX4_loseIfOpen_0 : decode cX4_loseIfOpen 0 = .ok (.aload_n 0, 1) := by decide +kernel
theorem dX4_loseIfOpen_1 : decode cX4_loseIfOpen 1 = .ok (.getfield 147, 3) := by decide +kernel
theorem dX4_loseIfOpen_4 : decode cX4_loseIfOpen 4 = .ok (.ifCond .eq 11, 3) := by decide +kernel
theorem dX4_loseIfOpen_7 : decode cX4_loseIfOpen 7 = .ok (.aload_n 0, 1) := by decide +kernel
theorem dX4_loseIfOpen_8 : decode cX4_loseIfOpen 8 = .ok (.getfield 147, 3) := by decide +kernel
theorem dX4_loseIfOpen_11 : decode cX4_loseIfOpen 11 = .ok (.iconst 1, 1) := by decide +kernel
theorem dX4_loseIfOpen_12 : decode cX4_loseIfOpen 12 = .ok (.if_icmp .ne 25, 3) := by decide +kernel
theorem dX4_loseIfOpen_15 : decode cX4_loseIfOpen 15 = .ok (.aload_n 0, 1) := by decide +kernel
theorem dX4_loseIfOpen_16 : decode cX4_loseIfOpen 16 = .ok (.aload_n 0, 1) := by decide +kernel
theorem dX4_loseIfOpen_17 : decode cX4_loseIfOpen 17 = .ok (.getfield 147, 3) := by decide +kernel
theorem dX4_loseIfOpen_20 : decode cX4_loseIfOpen 20 = .ok (.iconst 1, 1) := by decide +kernel
theorem dX4_loseIfOpen_21 : decode cX4_loseIfOpen 21 = .ok (.if_icmp .ne 7, 3) := by decide +kernel
theorem dX4_loseIfOpen_24 : decode cX4_loseIfOpen 24 = .ok (.iconst 1, 1) := by decide +kernel
theorem dX4_loseIfOpen_25 : decode cX4_loseIfOpen 25 = .ok (.goto 4, 3) := by decide +kernel
theorem dX4_loseIfOpen_28 : decode cX4_loseIfOpen 28 = .ok (.iconst 0, 1) := by decide +kernel
theorem dX4_loseIfOpen_29 : decode cX4_loseIfOpen 29 = .ok (.putfield 214, 3) := by decide +kernel
theorem dX4_loseIfOpen_32 : decode cX4_loseIfOpen 32 = .ok (.aload_n 0, 1) := by decide +kernel
theorem dX4_loseIfOpen_33 : decode cX4_loseIfOpen 33 = .ok (.iconst 4, 1) := by decide +kernel
theorem dX4_loseIfOpen_34 : decode cX4_loseIfOpen 34 = .ok (.putfield 147, 3) := by decide +kernel
theorem dX4_loseIfOpen_37 : decode cX4_loseIfOpen 37 = .ok (.return_, 1) := by decide +kernel
set_option maxRecDepth 20000 in
theorem ggX4_sendToAll_X4_has : GoodIn wsX4_sendToAll wsX4_has := goodIn_r _ [7, 8, 9, 6, 10] (by decide +kernel) (by decide +kernel)
set_option maxRecDepth 20000 in
theorem gX4_sendToAll_X4_has : GoodIn wsX4_sendToAll (va_wsS RX4 297 yX4_has wsX4_has) := goodIn_app (goodIn_of _ (by decide +kernel)) ggX4_sendToAll_X4_has
set_option maxRecDepth 20000 in
theorem ggX4_sendToAll_X4_send : GoodIn wsX4_sendToAll wsX4_send := goodIn_r _ [14, 15, 16, 17, 18, 19, 20, 21, 22, 6, 23, 24, 25, 26, 27, 28, 29, 30, 31, 32, 33, 34, 35, 36, 37, 38, 39, 40, 41, 42, 43, 44, 45, 46, 47, 48, 49, 50, 51, 52, 53, 54, 55, 56, 57, 58, 59, 60, 61, 62, 63, 64, 65, 66, 67, 68, 69, 70, 71, 72, 73, 74, 75, 76, 77, 78, 79, 80, 81, 82, 83, 84, 85, 86, 87, 88, 89, 90, 91, 92, 93, 94, 95, 96, 104, 105, 106, 107, 108, 109, 110, 127, 128, 129, 130, 131, 132, 133] (by decide +kernel) (by decide +kernel)
set_option maxRecDepth 20000 in
theorem gX4_sendToAll_X4_send : GoodIn wsX4_sendToAll (wsV RX4 301 RX4 yX4_send wsX4_send) := goodIn_app (goodIn_of _ (by decide +kernel)) ggX4_sendToAll_X4_send
set_option maxRecDepth 20000 in
theorem ggX4_sendToAll_J6_bitCount_0f7a4 : GoodIn wsX4_sendToAll wsJ6_bitCount_0f7a4 := goodIn_r _ [100, 101, 102, 103] (by decide +kernel) (by decide +kernel)
set_option maxRecDepth 20000 in
theorem gX4_sendToAll_J6_bitCount_0f7a4 : GoodIn wsX4_sendToAll (va_wsS RX4 223 yJ6_bitCount_0f7a4 wsJ6_bitCount_0f7a4) := goodIn_app (goodIn_of _ (by decide +kernel)) ggX4_sendToAll_J6_bitCount_0f7a4
theorem dX4_sendToAll_0 : decode cX4_sendToAll 0 = .ok (.iconst 0, 1) := by decide +kernel
theorem dX4_sendToAll_1 : decode cX4_sendToAll 1 = .ok (.istore 4, 2) := by decide +kernel
theorem dX4_sendToAll_3 : decode cX4_sendToAll 3 = .ok (.iload 4, 2) := by decide +kernel
theorem dX4_sendToAll_5 : decode cX4_sendToAll 5 = .ok (.aload_n 0, 1) := by decide +kernel
theorem dX4_sendToAll_6 : decode cX4_sendToAll 6 = .ok (.getfield 251, 3) := by decide +kernel
theorem dX4_sendToAll_9 : decode cX4_sendToAll 9 = .ok (.if_icmp .ge 33, 3) := by decide +kernel
theorem dX4_sendToAll_12 : decode cX4_sendToAll 12 = .ok (.iload_n 3, 1) := by decide +kernel
theorem dX4_sendToAll_13 : decode cX4_sendToAll 13 = .ok (.iload 4, 2) := by decide +kernel
theorem dX4_sendToAll_15 : decode cX4_sendToAll 15 = .ok (.invokestatic 297, 3) := by decide +kernel
theorem dX4_sendToAll_18 : decode cX4_sendToAll 18 = .ok (.ifCond .eq 18, 3) := by decide +kernel
theorem dX4_sendToAll_21 : decode cX4_sendToAll 21 = .ok (.aload_n 0, 1) := by decide +kernel
theorem dX4_sendToAll_22 : decode cX4_sendToAll 22 = .ok (.iload_n 1, 1) := by decide +kernel
theorem dX4_sendToAll_23 : decode cX4_sendToAll 23 = .ok (.aload_n 2, 1) := by decide +kernel
theorem dX4_sendToAll_24 : decode cX4_sendToAll 24 = .ok (.getfield 95, 3) := by decide +kernel
theorem dX4_sendToAll_27 : decode cX4_sendToAll 27 = .ok (.iload 4, 2) := by decide +kernel
theorem dX4_sendToAll_29 : decode cX4_sendToAll 29 = .ok (.aload_n 2, 1) := by decide +kernel
theorem dX4_sendToAll_30 : decode cX4_sendToAll 30 = .ok (.getfield 282, 3) := by decide +kernel
theorem dX4_sendToAll_33 : decode cX4_sendToAll 33 = .ok (.invokevirtual 301, 3) := by decide +kernel
theorem dX4_sendToAll_36 : decode cX4_sendToAll 36 = .ok (.iinc 4 1, 3) := by decide +kernel
theorem dX4_sendToAll_39 : decode cX4_sendToAll 39 = .ok (.goto (-36), 3) := by decide +kernel
theorem dX4_sendToAll_42 : decode cX4_sendToAll 42 = .ok (.iload_n 3, 1) := by decide +kernel
theorem dX4_sendToAll_43 : decode cX4_sendToAll 43 = .ok (.invokestatic 223, 3) := by decide +kernel
theorem dX4_sendToAll_46 : decode cX4_sendToAll 46 = .ok (.ireturn, 1) := by decide +kernel
set_option maxRecDepth 20000 in
theorem ggX4_send_X4_hasRoom : GoodIn wsX4_send wsX4_hasRoom := goodIn_r _ [10, 2, 11, 12, 13, 14, 15, 16, 84, 85, 86, 87, 88, 89, 90, 95, 96, 97] (by decide +kernel) (by decide +kernel)
set_option maxRecDepth 20000 in
theorem gX4_send_X4_hasRoom : GoodIn wsX4_send (wsV RX4 194 RX4 yX4_hasRoom wsX4_hasRoom) := goodIn_app (goodIn_of _ (by decide +kernel)) ggX4_send_X4_hasRoom
set_option maxRecDepth 20000 in
theorem ggX4_send_X1_init : GoodIn wsX4_send wsX1_init := goodIn_r _ [18, 19, 20, 21, 22, 23, 24, 25, 26, 27, 28, 29, 91, 92, 93, 94] (by decide +kernel) (by decide +kernel)
set_option maxRecDepth 20000 in
theorem gX4_send_X1_init_n305 : GoodIn wsX4_send (wsX1_init) := ggX4_send_X1_init
set_option maxRecDepth 20000 in
theorem ggX4_send_Jx4a65c_add_9ea2d : GoodIn wsX4_send wsJx4a65c_add_9ea2d := goodIn_r _ [33, 34, 35, 36, 16, 37, 38, 39, 14, 40, 41, 42, 43, 44, 45, 46, 47, 48, 49, 50, 51, 52, 53, 54, 55, 56, 57, 58, 59, 60, 61, 62, 63, 64, 65, 66, 67, 68, 69, 70, 71, 72, 73, 74, 75, 76, 77, 78, 79, 80, 81, 82, 83, 95, 96, 97] (by decide +kernel) (by decide +kernel)
set_option maxRecDepth 20000 in
theorem gX4_send_Jx4a65c_add_9ea2d : GoodIn wsX4_send (wsV RX4 62 RJx4a65c yJx4a65c_add_9ea2d wsJx4a65c_add_9ea2d) := goodIn_app (goodIn_of _ (by decide +kernel)) ggX4_send_Jx4a65c_add_9ea2d
theorem dX4_send_0 : decode cX4_send 0 = .ok (.aload_n 0, 1) := by decide +kernel
theorem dX4_send_1 : decode cX4_send 1 = .ok (.dup, 1) := by decide +kernel
theorem dX4_send_2 : decode cX4_send 2 = .ok (.getfield 238, 3) := by decide +kernel
theorem dX4_send_5 : decode cX4_send 5 = .ok (.iconst 1, 1) := by decide +kernel
theorem dX4_send_6 : decode cX4_send 6 = .ok (.iadd, 1) := by decide +kernel
theorem dX4_send_7 : decode cX4_send 7 = .ok (.putfield 238, 3) := by decide +kernel
theorem dX4_send_10 : decode cX4_send 10 = .ok (.aload_n 0, 1) := by decide +kernel
theorem dX4_send_11 : decode cX4_send 11 = .ok (.invokevirtual 194, 3) := by decide +kernel
theorem dX4_send_14 : decode cX4_send 14 = .ok (.ifCond .eq 23, 3) := by decide +kernel
theorem dX4_send_17 : decode cX4_send 17 = .ok (.aload_n 0, 1) := by decide +kernel
theorem dX4_send_18 : decode cX4_send 18 = .ok (.getfield 23, 3) := by decide +kernel
theorem dX4_send_21 : decode cX4_send 21 = .ok (.new 179, 3) := by decide +kernel
theorem dX4_send_24 : decode cX4_send 24 = .ok (.dup, 1) := by decide +kernel
theorem dX4_send_25 : decode cX4_send 25 = .ok (.iload_n 1, 1) := by decide +kernel
theorem dX4_send_26 : decode cX4_send 26 = .ok (.iload_n 2, 1) := by decide +kernel
theorem dX4_send_27 : decode cX4_send 27 = .ok (.iload_n 3, 1) := by decide +kernel
theorem dX4_send_28 : decode cX4_send 28 = .ok (.iload 4, 2) := by decide +kernel
theorem dX4_send_30 : decode cX4_send 30 = .ok (.invokespecial 305, 3) := by decide +kernel
theorem dX4_send_33 : decode cX4_send 33 = .ok (.invokevirtual 62, 3) := by decide +kernel
theorem dX4_send_36 : decode cX4_send 36 = .ok (.pop, 1) := by decide +kernel
theorem dX4_send_37 : decode cX4_send 37 = .ok (.return_, 1) := by decide +kernel
set_option maxRecDepth 20000 in
theorem ggX4_hasRoom_Jx4a65c_size_8abf5 : GoodIn wsX4_hasRoom wsJx4a65c_size_8abf5 := goodIn_r _ [6, 7, 15, 16, 17] (by decide +kernel) (by decide +kernel)
set_option maxRecDepth 20000 in
theorem gX4_hasRoom_Jx4a65c_size_8abf5 : GoodIn wsX4_hasRoom (wsV RX4 55 RJx4a65c yJx4a65c_size_8abf5 wsJx4a65c_size_8abf5) := goodIn_app (goodIn_of _ (by decide +kernel)) ggX4_hasRoom_Jx4a65c_size_8abf5
theorem dX4_hasRoom_0 : decode cX4_hasRoom 0 = .ok (.aload_n 0, 1) := by decide +kernel
theorem dX4_hasRoom_1 : decode cX4_hasRoom 1 = .ok (.getfield 23, 3) := by decide +kernel
theorem dX4_hasRoom_4 : decode cX4_hasRoom 4 = .ok (.invokevirtual 55, 3) := by decide +kernel
theorem dX4_hasRoom_7 : decode cX4_hasRoom 7 = .ok (.sipush 300, 3) := by decide +kernel
theorem dX4_hasRoom_10 : decode cX4_hasRoom 10 = .ok (.if_icmp .ge 7, 3) := by decide +kernel
theorem dX4_hasRoom_13 : decode cX4_hasRoom 13 = .ok (.iconst 1, 1) := by decide +kernel
theorem dX4_hasRoom_14 : decode cX4_hasRoom 14 = .ok (.goto 4, 3) := by decide +kernel
theorem dX4_hasRoom_17 : decode cX4_hasRoom 17 = .ok (.iconst 0, 1) := by decide +kernel
theorem dX4_hasRoom_18 : decode cX4_hasRoom 18 = .ok (.ireturn, 1) := by decide +kernel
set_option maxRecDepth 20000 in
theorem ggX4_handOver_X1_kind : GoodIn wsX4_handOver wsX1_kind := goodIn_r _ [5, 6, 246, 247, 248, 249] (by decide +kernel) (by decide +kernel)
set_option maxRecDepth 20000 in
theorem gX4_handOver_X1_kind : GoodIn wsX4_handOver (wsV RX4 191 RX1 yX1_kind wsX1_kind) := goodIn_app (goodIn_of _ (by decide +kernel)) ggX4_handOver_X1_kind
set_option maxRecDepth 20000 in
theorem ggX4_handOver_X1_to : GoodIn wsX4_handOver wsX1_to := goodIn_r _ [10, 11, 246, 247, 248, 249] (by decide +kernel) (by decide +kernel)
set_option maxRecDepth 20000 in
theorem gX4_handOver_X1_to : GoodIn wsX4_handOver (wsV RX4 181 RX1 yX1_to wsX1_to) := goodIn_app (goodIn_of _ (by decide +kernel)) ggX4_handOver_X1_to
set_option maxRecDepth 20000 in
theorem ggX4_handOver_X4_takeAsk : GoodIn wsX4_handOver wsX4_takeAsk := goodIn_r _ [16, 17, 18, 19, 20, 21, 22, 15, 23, 24, 25, 26, 27, 28, 29, 30, 31, 32, 33, 34, 35, 36, 37, 38, 39, 40, 41, 42, 43, 44, 45, 46, 47, 48, 49, 50, 51, 52, 53, 54, 55, 56, 57, 58, 59, 60, 61, 62, 63, 64, 65, 66, 67, 68, 69, 70, 71, 72, 73, 74, 75, 76, 77, 78, 79, 80, 81, 82, 83, 84, 85, 86, 87, 88, 89, 4, 90, 91, 92, 93, 94, 95, 96, 97, 98, 99, 6, 100, 11, 101, 102, 103, 104, 105, 106, 107, 108, 109, 110, 111, 112, 113, 114, 115, 116, 117, 118, 119, 120, 121, 122, 123, 124, 125, 126, 127, 128, 129, 130, 131, 132, 133, 134, 135, 136, 137, 138, 139, 140, 141, 142, 143, 144, 145, 146, 147, 148, 149, 150, 151, 152, 153, 154, 155, 156, 157, 158, 159, 160, 161, 162, 163, 164, 165, 250, 251, 252, 253, 254, 255, 256, 257, 258, 259, 260, 261, 262, 263, 264, 265, 266, 267, 268, 269, 270, 271, 272, 273, 274, 275, 276, 277, 278, 279, 280, 246, 247, 248, 249] (by decide +kernel) (by decide +kernel)
set_option maxRecDepth 20000 in
theorem gX4_handOver_X4_takeAsk : GoodIn wsX4_handOver (wsV RX4 307 RX4 yX4_takeAsk wsX4_takeAsk) := goodIn_app (goodIn_of _ (by decide +kernel)) ggX4_handOver_X4_takeAsk
set_option maxRecDepth 20000 in
theorem ggX4_handOver_X1_from : GoodIn wsX4_handOver wsX1_from := goodIn_r _ [169, 100, 246, 247, 248, 249] (by decide +kernel) (by decide +kernel)
set_option maxRecDepth 20000 in
theorem gX4_handOver_X1_from : GoodIn wsX4_handOver (wsV RX4 310 RX1 yX1_from wsX1_from) := goodIn_app (goodIn_of _ (by decide +kernel)) ggX4_handOver_X1_from
set_option maxRecDepth 20000 in
theorem ggX4_handOver_X4_takeYes : GoodIn wsX4_handOver wsX4_takeYes := goodIn_r _ [173, 174, 175, 176, 24, 25, 15, 26, 177, 178, 179, 180, 31, 19, 181, 182, 183, 184, 185, 186, 17, 187, 188, 189, 190, 191, 192, 193, 194, 195, 196, 197, 198, 199, 200, 201, 202, 203, 204, 205, 206, 46, 207, 208, 209, 210, 20, 21, 22, 23, 82, 83, 84, 85, 86, 87, 88, 89, 4, 90, 91, 92, 93, 94, 95, 96, 60, 97, 62, 98, 99, 6, 100, 11, 101, 102, 103, 104, 105, 106, 107, 108, 109, 110, 111, 112, 113, 114, 75, 115, 116, 117, 118, 119, 120, 121, 122, 123, 124, 125, 126, 127, 128, 129, 130, 131, 132, 133, 134, 135, 136, 137, 138, 139, 140, 141, 142, 143, 144, 145, 146, 147, 148, 149, 150, 151, 152, 153, 154, 155, 156, 157, 158, 159, 160, 161, 211, 212, 213, 214, 215, 216, 217, 250, 251, 252, 253, 254, 255, 256, 257, 258, 259, 260, 261, 262, 263, 264, 265, 266, 267, 268, 269, 270, 271, 272, 273, 274, 275, 276, 277, 246, 247, 248, 249, 278, 279, 280] (by decide +kernel) (by decide +kernel)
set_option maxRecDepth 20000 in
theorem gX4_handOver_X4_takeYes : GoodIn wsX4_handOver (wsV RX4 313 RX4 yX4_takeYes wsX4_takeYes) := goodIn_app (goodIn_of _ (by decide +kernel)) ggX4_handOver_X4_takeYes
set_option maxRecDepth 20000 in
theorem ggX4_handOver_X4_takeNo : GoodIn wsX4_handOver wsX4_takeNo := goodIn_r _ [221, 174, 222, 223, 224, 15, 225, 31, 19, 20, 176, 226, 199, 200, 191, 201, 202, 207, 208, 209, 210, 46, 21, 22, 23, 24, 25, 26, 82, 83, 84, 85, 86, 87, 88, 89, 4, 90, 91, 92, 93, 94, 95, 96, 60, 97, 62, 98, 99, 6, 100, 11, 101, 102, 103, 104, 105, 106, 107, 108, 109, 110, 111, 112, 113, 114, 75, 115, 116, 117, 118, 119, 120, 121, 122, 123, 124, 125, 126, 127, 128, 129, 130, 131, 132, 133, 134, 135, 136, 137, 138, 139, 140, 141, 142, 143, 144, 145, 146, 147, 148, 149, 150, 151, 152, 153, 154, 155, 156, 157, 158, 159, 160, 161, 211, 212, 213, 214, 215, 216, 217, 250, 251, 252, 253, 254, 255, 256, 257, 258, 259, 260, 261, 262, 263, 264, 265, 266, 267, 268, 269, 270, 271, 272, 273, 274, 275, 276, 277, 246, 247, 248, 249, 278, 279, 280] (by decide +kernel) (by decide +kernel)
set_option maxRecDepth 20000 in
theorem gX4_handOver_X4_takeNo : GoodIn wsX4_handOver (wsV RX4 316 RX4 yX4_takeNo wsX4_takeNo) := goodIn_app (goodIn_of _ (by decide +kernel)) ggX4_handOver_X4_takeNo
set_option maxRecDepth 20000 in
theorem ggX4_handOver_X4_takeFree : GoodIn wsX4_handOver wsX4_takeFree := goodIn_r _ [230, 31, 20, 18, 226, 199, 200, 191, 201, 202, 24, 25, 15, 26, 266, 267, 268, 269, 270, 271, 272, 250, 251, 252, 253, 254, 255, 256, 257, 258, 259, 260, 261, 262, 263, 264, 265, 273, 274, 275, 276, 277] (by decide +kernel) (by decide +kernel)
set_option maxRecDepth 20000 in
theorem gX4_handOver_X4_takeFree : GoodIn wsX4_handOver (wsV RX4 319 RX4 yX4_takeFree wsX4_takeFree) := goodIn_app (goodIn_of _ (by decide +kernel)) ggX4_handOver_X4_takeFree
set_option maxRecDepth 20000 in
theorem ggX4_handOver_X4_takeTell : GoodIn wsX4_handOver wsX4_takeTell := goodIn_r _ [234, 17, 187, 235, 53, 55, 21, 22, 15, 23, 24, 25, 26, 236, 237, 238, 239, 31, 57, 58, 59, 60, 61, 62, 63, 64, 65, 66, 67, 68, 69, 70, 71, 72, 73, 74, 75, 240, 241, 242, 191, 243, 244, 196, 197, 245, 183, 184, 185, 186, 188, 189, 190, 192, 193, 194, 195, 198, 199, 200, 201, 202, 250, 251, 252, 253, 254, 255, 256, 257, 258, 259, 260, 261, 262, 263, 264, 265, 266, 267, 268, 269, 270, 271, 272, 278, 279, 280, 273, 274, 275, 276, 277] (by decide +kernel) (by decide +kernel)
set_option maxRecDepth 20000 in
theorem gX4_handOver_X4_takeTell : GoodIn wsX4_handOver (wsV RX4 322 RX4 yX4_takeTell wsX4_takeTell) := goodIn_app (goodIn_of _ (by decide +kernel)) ggX4_handOver_X4_takeTell
theorem dX4_handOver_0 : decode cX4_handOver 0 = .ok (.aload_n 1, 1) := by decide +kernel
theorem dX4_handOver_1 : decode cX4_handOver 1 = .ok (.invokevirtual 191, 3) := by decide +kernel
theorem dX4_handOver_4 : decode cX4_handOver 4 = .ok (.tableswitch 71 1 4 #[32, 43, 53, 60], 32) := by decide +kernel
theorem dX4_handOver_36 : decode cX4_handOver 36 = .ok (.aload_n 0, 1) := by decide +kernel
theorem dX4_handOver_37 : decode cX4_handOver 37 = .ok (.aload_n 2, 1) := by decide +kernel
theorem dX4_handOver_38 : decode cX4_handOver 38 = .ok (.aload_n 1, 1) := by decide +kernel
theorem dX4_handOver_39 : decode cX4_handOver 39 = .ok (.invokevirtual 181, 3) := by decide +kernel
theorem dX4_handOver_42 : decode cX4_handOver 42 = .ok (.invokevirtual 307, 3) := by decide +kernel
theorem dX4_handOver_45 : decode cX4_handOver 45 = .ok (.iconst 0, 1) := by decide +kernel
theorem dX4_handOver_46 : decode cX4_handOver 46 = .ok (.ireturn, 1) := by decide +kernel
theorem dX4_handOver_47 : decode cX4_handOver 47 = .ok (.aload_n 0, 1) := by decide +kernel
theorem dX4_handOver_48 : decode cX4_handOver 48 = .ok (.aload_n 2, 1) := by decide +kernel
theorem dX4_handOver_49 : decode cX4_handOver 49 = .ok (.aload_n 1, 1) := by decide +kernel
theorem dX4_handOver_50 : decode cX4_handOver 50 = .ok (.invokevirtual 310, 3) := by decide +kernel
theorem dX4_handOver_53 : decode cX4_handOver 53 = .ok (.invokevirtual 313, 3) := by decide +kernel
theorem dX4_handOver_56 : decode cX4_handOver 56 = .ok (.ireturn, 1) := by decide +kernel
theorem dX4_handOver_57 : decode cX4_handOver 57 = .ok (.aload_n 0, 1) := by decide +kernel
theorem dX4_handOver_58 : decode cX4_handOver 58 = .ok (.aload_n 2, 1) := by decide +kernel
theorem dX4_handOver_59 : decode cX4_handOver 59 = .ok (.invokevirtual 316, 3) := by decide +kernel
theorem dX4_handOver_62 : decode cX4_handOver 62 = .ok (.iconst 0, 1) := by decide +kernel
theorem dX4_handOver_63 : decode cX4_handOver 63 = .ok (.ireturn, 1) := by decide +kernel
theorem dX4_handOver_64 : decode cX4_handOver 64 = .ok (.aload_n 0, 1) := by decide +kernel
theorem dX4_handOver_65 : decode cX4_handOver 65 = .ok (.aload_n 2, 1) := by decide +kernel
theorem dX4_handOver_66 : decode cX4_handOver 66 = .ok (.aload_n 1, 1) := by decide +kernel
theorem dX4_handOver_67 : decode cX4_handOver 67 = .ok (.invokevirtual 181, 3) := by decide +kernel
theorem dX4_handOver_70 : decode cX4_handOver 70 = .ok (.invokevirtual 319, 3) := by decide +kernel
theorem dX4_handOver_73 : decode cX4_handOver 73 = .ok (.iconst 0, 1) := by decide +kernel
theorem dX4_handOver_74 : decode cX4_handOver 74 = .ok (.ireturn, 1) := by decide +kernel
theorem dX4_handOver_75 : decode cX4_handOver 75 = .ok (.aload_n 0, 1) := by decide +kernel
theorem dX4_handOver_76 : decode cX4_handOver 76 = .ok (.aload_n 2, 1) := by decide +kernel
theorem dX4_handOver_77 : decode cX4_handOver 77 = .ok (.aload_n 1, 1) := by decide +kernel
theorem dX4_handOver_78 : decode cX4_handOver 78 = .ok (.invokevirtual 181, 3) := by decide +kernel
theorem dX4_handOver_81 : decode cX4_handOver 81 = .ok (.invokevirtual 322, 3) := by decide +kernel
theorem dX4_handOver_84 : decode cX4_handOver 84 = .ok (.ireturn, 1) := by decide +kernel
set_option maxRecDepth 20000 in
theorem ggX4_takeAsk_X4_has : GoodIn wsX4_takeAsk wsX4_has := goodIn_r _ [8, 9, 10, 7, 11] (by decide +kernel) (by decide +kernel)
set_option maxRecDepth 20000 in
theorem gX4_takeAsk_X4_has : GoodIn wsX4_takeAsk (va_wsS RX4 297 yX4_has wsX4_has) := goodIn_app (goodIn_of _ (by decide +kernel)) ggX4_takeAsk_X4_has
set_option maxRecDepth 20000 in
theorem ggX4_takeAsk_X4_isFitAt : GoodIn wsX4_takeAsk wsX4_isFitAt := goodIn_r _ [15, 16, 17, 18, 19, 7, 20, 21, 22, 23, 24, 25, 26, 6, 8, 9, 10, 11, 27, 28, 29, 30, 31, 32, 33, 34, 35, 36, 4, 37, 38, 39, 40, 41, 42, 43, 44, 45, 46, 47, 48, 49, 50, 51, 52, 53, 54, 55, 56, 57, 58, 59, 60, 61, 62, 63, 64, 65, 66, 170, 171, 172, 173, 174, 175, 176, 154, 155, 156, 157, 158, 159, 160, 161, 162, 163, 164, 165, 166, 167, 168, 169, 177, 178, 179, 180, 181, 182, 183, 184] (by decide +kernel) (by decide +kernel)
set_option maxRecDepth 20000 in
theorem gX4_takeAsk_X4_isFitAt : GoodIn wsX4_takeAsk (wsV RX4 143 RX4 yX4_isFitAt wsX4_isFitAt) := goodIn_app (goodIn_of _ (by decide +kernel)) ggX4_takeAsk_X4_isFitAt
set_option maxRecDepth 20000 in
theorem ggX4_takeAsk_X4_send : GoodIn wsX4_takeAsk wsX4_send := goodIn_r _ [70, 71, 72, 73, 74, 75, 76, 77, 78, 7, 79, 80, 81, 82, 45, 83, 47, 84, 85, 86, 87, 88, 89, 90, 91, 92, 93, 94, 95, 96, 97, 98, 99, 100, 101, 102, 60, 103, 104, 105, 106, 107, 108, 109, 110, 111, 112, 113, 114, 115, 116, 117, 118, 119, 120, 121, 122, 123, 124, 125, 126, 127, 128, 129, 130, 131, 132, 133, 134, 135, 136, 137, 138, 139, 140, 141, 142, 143, 144, 145, 146, 147, 148, 149, 170, 171, 172, 173, 174, 175, 176, 185, 186, 187, 188, 182, 183, 184] (by decide +kernel) (by decide +kernel)
set_option maxRecDepth 20000 in
theorem gX4_takeAsk_X4_send : GoodIn wsX4_takeAsk (wsV RX4 301 RX4 yX4_send wsX4_send) := goodIn_app (goodIn_of _ (by decide +kernel)) ggX4_takeAsk_X4_send
set_option maxRecDepth 20000 in
theorem ggX4_takeAsk_X4_lockAt : GoodIn wsX4_takeAsk wsX4_lockAt := goodIn_r _ [153, 16, 36, 4, 17, 18, 19, 7, 20, 21, 22, 23, 24, 25, 26, 6, 8, 9, 10, 11, 27, 28, 29, 30, 31, 170, 171, 172, 173, 174, 175, 176, 177, 178, 179, 180, 181, 154, 155, 156, 157, 158, 159, 160, 161, 162, 163, 164, 165, 166, 167, 168, 169] (by decide +kernel) (by decide +kernel)
set_option maxRecDepth 20000 in
theorem gX4_takeAsk_X4_lockAt : GoodIn wsX4_takeAsk (wsV RX4 285 RX4 yX4_lockAt wsX4_lockAt) := goodIn_app (goodIn_of _ (by decide +kernel)) ggX4_takeAsk_X4_lockAt
theorem dX4_takeAsk_0 : decode cX4_takeAsk 0 = .ok (.aload_n 1, 1) := by decide +kernel
theorem dX4_takeAsk_1 : decode cX4_takeAsk 1 = .ok (.getfield 170, 3) := by decide +kernel
theorem dX4_takeAsk_4 : decode cX4_takeAsk 4 = .ok (.iload_n 2, 1) := by decide +kernel
theorem dX4_takeAsk_5 : decode cX4_takeAsk 5 = .ok (.invokestatic 297, 3) := by decide +kernel
theorem dX4_takeAsk_8 : decode cX4_takeAsk 8 = .ok (.ifCond .eq 4, 3) := by decide +kernel
theorem dX4_takeAsk_11 : decode cX4_takeAsk 11 = .ok (.return_, 1) := by decide +kernel
theorem dX4_takeAsk_12 : decode cX4_takeAsk 12 = .ok (.aload_n 1, 1) := by decide +kernel
theorem dX4_takeAsk_13 : decode cX4_takeAsk 13 = .ok (.getfield 325, 3) := by decide +kernel
theorem dX4_takeAsk_16 : decode cX4_takeAsk 16 = .ok (.iload_n 2, 1) := by decide +kernel
theorem dX4_takeAsk_17 : decode cX4_takeAsk 17 = .ok (.invokestatic 297, 3) := by decide +kernel
theorem dX4_takeAsk_20 : decode cX4_takeAsk 20 = .ok (.ifCond .ne 12, 3) := by decide +kernel
theorem dX4_takeAsk_23 : decode cX4_takeAsk 23 = .ok (.aload_n 0, 1) := by decide +kernel
theorem dX4_takeAsk_24 : decode cX4_takeAsk 24 = .ok (.aload_n 1, 1) := by decide +kernel
theorem dX4_takeAsk_25 : decode cX4_takeAsk 25 = .ok (.iload_n 2, 1) := by decide +kernel
theorem dX4_takeAsk_26 : decode cX4_takeAsk 26 = .ok (.invokevirtual 143, 3) := by decide +kernel
theorem dX4_takeAsk_29 : decode cX4_takeAsk 29 = .ok (.ifCond .ne 18, 3) := by decide +kernel
theorem dX4_takeAsk_32 : decode cX4_takeAsk 32 = .ok (.aload_n 0, 1) := by decide +kernel
theorem dX4_takeAsk_33 : decode cX4_takeAsk 33 = .ok (.iconst 3, 1) := by decide +kernel
theorem dX4_takeAsk_34 : decode cX4_takeAsk 34 = .ok (.iload_n 2, 1) := by decide +kernel
theorem dX4_takeAsk_35 : decode cX4_takeAsk 35 = .ok (.aload_n 1, 1) := by decide +kernel
theorem dX4_takeAsk_36 : decode cX4_takeAsk 36 = .ok (.getfield 95, 3) := by decide +kernel
theorem dX4_takeAsk_39 : decode cX4_takeAsk 39 = .ok (.aload_n 1, 1) := by decide +kernel
theorem dX4_takeAsk_40 : decode cX4_takeAsk 40 = .ok (.getfield 282, 3) := by decide +kernel
theorem dX4_takeAsk_43 : decode cX4_takeAsk 43 = .ok (.invokevirtual 301, 3) := by decide +kernel
theorem dX4_takeAsk_46 : decode cX4_takeAsk 46 = .ok (.return_, 1) := by decide +kernel
theorem dX4_takeAsk_47 : decode cX4_takeAsk 47 = .ok (.aload_n 0, 1) := by decide +kernel
theorem dX4_takeAsk_48 : decode cX4_takeAsk 48 = .ok (.aload_n 1, 1) := by decide +kernel
theorem dX4_takeAsk_49 : decode cX4_takeAsk 49 = .ok (.iload_n 2, 1) := by decide +kernel
theorem dX4_takeAsk_50 : decode cX4_takeAsk 50 = .ok (.invokevirtual 285, 3) := by decide +kernel
theorem dX4_takeAsk_53 : decode cX4_takeAsk 53 = .ok (.aload_n 0, 1) := by decide +kernel
theorem dX4_takeAsk_54 : decode cX4_takeAsk 54 = .ok (.iconst 2, 1) := by decide +kernel
theorem dX4_takeAsk_55 : decode cX4_takeAsk 55 = .ok (.iload_n 2, 1) := by decide +kernel
theorem dX4_takeAsk_56 : decode cX4_takeAsk 56 = .ok (.aload_n 1, 1) := by decide +kernel
theorem dX4_takeAsk_57 : decode cX4_takeAsk 57 = .ok (.getfield 95, 3) := by decide +kernel
theorem dX4_takeAsk_60 : decode cX4_takeAsk 60 = .ok (.aload_n 1, 1) := by decide +kernel
theorem dX4_takeAsk_61 : decode cX4_takeAsk 61 = .ok (.getfield 282, 3) := by decide +kernel
theorem dX4_takeAsk_64 : decode cX4_takeAsk 64 = .ok (.invokevirtual 301, 3) := by decide +kernel
theorem dX4_takeAsk_67 : decode cX4_takeAsk 67 = .ok (.return_, 1) := by decide +kernel
set_option maxRecDepth 20000 in
theorem ggX4_takeYes_X4_bit : GoodIn wsX4_takeYes wsX4_bit := goodIn_r _ [7] (by decide +kernel) (by decide +kernel)
set_option maxRecDepth 20000 in
theorem gX4_takeYes_X4_bit : GoodIn wsX4_takeYes (va_wsS RX4 140 yX4_bit wsX4_bit) := goodIn_app (goodIn_of _ (by decide +kernel)) ggX4_takeYes_X4_bit
set_option maxRecDepth 20000 in
theorem ggX4_takeYes_X4_makeCommitted : GoodIn wsX4_takeYes wsX4_makeCommitted := goodIn_r _ [11, 1, 12, 13, 14, 15, 16, 17, 18, 6, 19, 20, 21, 22, 23, 24, 25, 26, 27, 28, 29, 30, 31, 32, 33, 34, 35, 36, 4, 5, 7, 37, 38, 39, 40, 41, 42, 43, 44, 45, 46, 47, 48, 49, 50, 51, 52, 53, 54, 55, 56, 57, 58, 59, 60, 61, 62, 63, 64, 65, 66, 67, 68, 69, 70, 71, 72, 73, 74, 75, 76, 77, 78, 79, 80, 81, 82, 83, 84, 85, 86, 87, 88, 89, 90, 91, 92, 93, 94, 95, 96, 97, 98, 99, 100, 101, 102, 103, 104, 105, 106, 107, 108, 109, 110, 111, 112, 113, 114, 115, 116, 117, 118, 119, 120, 121, 122, 123, 124, 125, 126, 127, 128, 129, 130, 131, 132, 133, 134, 135, 136, 137, 138, 139, 140, 141, 142, 143, 144, 145, 146, 147, 148, 149, 150, 151, 152, 153, 154, 155, 156, 157, 158, 159, 160, 161, 162, 163, 164, 165, 166, 167, 168, 169, 170, 171, 172, 173, 174, 175, 176, 177] (by decide +kernel) (by decide +kernel)
set_option maxRecDepth 20000 in
theorem gX4_takeYes_X4_makeCommitted : GoodIn wsX4_takeYes (wsV RX4 150 RX4 yX4_makeCommitted wsX4_makeCommitted) := goodIn_app (goodIn_of _ (by decide +kernel)) ggX4_takeYes_X4_makeCommitted
theorem dX4_takeYes_0 : decode cX4_takeYes 0 = .ok (.aload_n 1, 1) := by decide +kernel
theorem dX4_takeYes_1 : decode cX4_takeYes 1 = .ok (.getfield 147, 3) := by decide +kernel
theorem dX4_takeYes_4 : decode cX4_takeYes 4 = .ok (.iconst 1, 1) := by decide +kernel
theorem dX4_takeYes_5 : decode cX4_takeYes 5 = .ok (.if_icmp .eq 5, 3) := by decide +kernel
theorem dX4_takeYes_8 : decode cX4_takeYes 8 = .ok (.iconst 0, 1) := by decide +kernel
theorem dX4_takeYes_9 : decode cX4_takeYes 9 = .ok (.ireturn, 1) := by decide +kernel
theorem dX4_takeYes_10 : decode cX4_takeYes 10 = .ok (.aload_n 1, 1) := by decide +kernel
theorem dX4_takeYes_11 : decode cX4_takeYes 11 = .ok (.dup, 1) := by decide +kernel
theorem dX4_takeYes_12 : decode cX4_takeYes 12 = .ok (.getfield 160, 3) := by decide +kernel
theorem dX4_takeYes_15 : decode cX4_takeYes 15 = .ok (.iload_n 2, 1) := by decide +kernel
theorem dX4_takeYes_16 : decode cX4_takeYes 16 = .ok (.invokestatic 140, 3) := by decide +kernel
theorem dX4_takeYes_19 : decode cX4_takeYes 19 = .ok (.ior, 1) := by decide +kernel
theorem dX4_takeYes_20 : decode cX4_takeYes 20 = .ok (.putfield 160, 3) := by decide +kernel
theorem dX4_takeYes_23 : decode cX4_takeYes 23 = .ok (.aload_n 1, 1) := by decide +kernel
theorem dX4_takeYes_24 : decode cX4_takeYes 24 = .ok (.getfield 160, 3) := by decide +kernel
theorem dX4_takeYes_27 : decode cX4_takeYes 27 = .ok (.aload_n 1, 1) := by decide +kernel
theorem dX4_takeYes_28 : decode cX4_takeYes 28 = .ok (.getfield 157, 3) := by decide +kernel
theorem dX4_takeYes_31 : decode cX4_takeYes 31 = .ok (.if_icmp .eq 5, 3) := by decide +kernel
theorem dX4_takeYes_34 : decode cX4_takeYes 34 = .ok (.iconst 0, 1) := by decide +kernel
theorem dX4_takeYes_35 : decode cX4_takeYes 35 = .ok (.ireturn, 1) := by decide +kernel
theorem dX4_takeYes_36 : decode cX4_takeYes 36 = .ok (.aload_n 0, 1) := by decide +kernel
theorem dX4_takeYes_37 : decode cX4_takeYes 37 = .ok (.aload_n 1, 1) := by decide +kernel
theorem dX4_takeYes_38 : decode cX4_takeYes 38 = .ok (.invokevirtual 150, 3) := by decide +kernel
theorem dX4_takeYes_41 : decode cX4_takeYes 41 = .ok (.iconst 1, 1) := by decide +kernel
theorem dX4_takeYes_42 : decode cX4_takeYes 42 = .ok (.ireturn, 1) := by decide +kernel
set_option maxRecDepth 20000 in
theorem ggX4_takeNo_X4_giveUpLocks : GoodIn wsX4_takeNo wsX4_giveUpLocks := goodIn_r _ [6, 7, 8, 9, 10, 11, 12, 13, 14, 15, 16, 17, 18, 19, 5, 20, 21, 22, 23, 24, 25, 26, 27, 28, 29, 30, 31, 32, 33, 34, 35, 36, 37, 38, 39, 40, 41, 42, 43, 44, 45, 46, 47, 48, 49, 50, 51, 52, 53, 54, 55, 56, 57, 58, 59, 60, 61, 62, 63, 64, 65, 66, 67, 68, 69, 70, 71, 72, 73, 74, 75, 76, 77, 78, 79, 80, 81, 82, 83, 84, 85, 86, 87, 88, 89, 90, 91, 92, 93, 94, 95, 96, 97, 98, 99, 100, 101, 102, 103, 104, 105, 106, 107, 108, 109, 110, 111, 112, 113, 114, 115, 116, 117, 118, 119, 120, 137, 138, 139, 140, 141, 142, 143, 121, 122, 123, 124, 125, 126, 127, 128, 129, 130, 131, 132, 133, 134, 135, 136, 144, 145, 146, 147, 148, 149, 150, 151, 152, 153, 154, 155] (by decide +kernel) (by decide +kernel)
set_option maxRecDepth 20000 in
theorem gX4_takeNo_X4_giveUpLocks : GoodIn wsX4_takeNo (wsV RX4 217 RX4 yX4_giveUpLocks wsX4_giveUpLocks) := goodIn_app (goodIn_of _ (by decide +kernel)) ggX4_takeNo_X4_giveUpLocks
theorem dX4_takeNo_0 : decode cX4_takeNo 0 = .ok (.aload_n 1, 1) := by decide +kernel
theorem dX4_takeNo_1 : decode cX4_takeNo 1 = .ok (.getfield 147, 3) := by decide +kernel
theorem dX4_takeNo_4 : decode cX4_takeNo 4 = .ok (.iconst 1, 1) := by decide +kernel
theorem dX4_takeNo_5 : decode cX4_takeNo 5 = .ok (.if_icmp .ne 13, 3) := by decide +kernel
theorem dX4_takeNo_8 : decode cX4_takeNo 8 = .ok (.aload_n 1, 1) := by decide +kernel
theorem dX4_takeNo_9 : decode cX4_takeNo 9 = .ok (.iconst 3, 1) := by decide +kernel
theorem dX4_takeNo_10 : decode cX4_takeNo 10 = .ok (.putfield 147, 3) := by decide +kernel
theorem dX4_takeNo_13 : decode cX4_takeNo 13 = .ok (.aload_n 0, 1) := by decide +kernel
theorem dX4_takeNo_14 : decode cX4_takeNo 14 = .ok (.aload_n 1, 1) := by decide +kernel
theorem dX4_takeNo_15 : decode cX4_takeNo 15 = .ok (.invokevirtual 217, 3) := by decide +kernel
theorem dX4_takeNo_18 : decode cX4_takeNo 18 = .ok (.return_, 1) := by decide +kernel
set_option maxRecDepth 20000 in
theorem ggX4_takeFree_X2_unlock : GoodIn wsX4_takeFree wsX2_unlock := goodIn_r _ [8, 9, 37, 38, 39, 40, 41] (by decide +kernel) (by decide +kernel)
set_option maxRecDepth 20000 in
theorem gX4_takeFree_X2_unlock : GoodIn wsX4_takeFree (wsV RX4 294 RX2 yX2_unlock wsX2_unlock) := goodIn_app (goodIn_of _ (by decide +kernel)) ggX4_takeFree_X2_unlock
set_option maxRecDepth 20000 in
theorem ggX4_takeFree_X4_bit : GoodIn wsX4_takeFree wsX4_bit := goodIn_r _ [13] (by decide +kernel) (by decide +kernel)
set_option maxRecDepth 20000 in
theorem gX4_takeFree_X4_bit : GoodIn wsX4_takeFree (va_wsS RX4 140 yX4_bit wsX4_bit) := goodIn_app (goodIn_of _ (by decide +kernel)) ggX4_takeFree_X4_bit
theorem dX4_takeFree_0 : decode cX4_takeFree 0 = .ok (.aload_n 0, 1) := by decide +kernel
theorem dX4_takeFree_1 : decode cX4_takeFree 1 = .ok (.getfield 11, 3) := by decide +kernel
theorem dX4_takeFree_4 : decode cX4_takeFree 4 = .ok (.iload_n 2, 1) := by decide +kernel
theorem dX4_takeFree_5 : decode cX4_takeFree 5 = .ok (.aaload, 1) := by decide +kernel
theorem dX4_takeFree_6 : decode cX4_takeFree 6 = .ok (.aload_n 1, 1) := by decide +kernel
theorem dX4_takeFree_7 : decode cX4_takeFree 7 = .ok (.getfield 282, 3) := by decide +kernel
theorem dX4_takeFree_10 : decode cX4_takeFree 10 = .ok (.invokevirtual 294, 3) := by decide +kernel
theorem dX4_takeFree_13 : decode cX4_takeFree 13 = .ok (.aload_n 1, 1) := by decide +kernel
theorem dX4_takeFree_14 : decode cX4_takeFree 14 = .ok (.dup, 1) := by decide +kernel
theorem dX4_takeFree_15 : decode cX4_takeFree 15 = .ok (.getfield 325, 3) := by decide +kernel
theorem dX4_takeFree_18 : decode cX4_takeFree 18 = .ok (.iload_n 2, 1) := by decide +kernel
theorem dX4_takeFree_19 : decode cX4_takeFree 19 = .ok (.invokestatic 140, 3) := by decide +kernel
theorem dX4_takeFree_22 : decode cX4_takeFree 22 = .ok (.ior, 1) := by decide +kernel
theorem dX4_takeFree_23 : decode cX4_takeFree 23 = .ok (.putfield 325, 3) := by decide +kernel
theorem dX4_takeFree_26 : decode cX4_takeFree 26 = .ok (.return_, 1) := by decide +kernel
set_option maxRecDepth 20000 in
theorem ggX4_takeTell_X4_has : GoodIn wsX4_takeTell wsX4_has := goodIn_r _ [9, 10, 11, 8, 12] (by decide +kernel) (by decide +kernel)
set_option maxRecDepth 20000 in
theorem gX4_takeTell_X4_has : GoodIn wsX4_takeTell (va_wsS RX4 297 yX4_has wsX4_has) := goodIn_app (goodIn_of _ (by decide +kernel)) ggX4_takeTell_X4_has
set_option maxRecDepth 20000 in
theorem ggX4_takeTell_X4_bit : GoodIn wsX4_takeTell wsX4_bit := goodIn_r _ [12] (by decide +kernel) (by decide +kernel)
set_option maxRecDepth 20000 in
theorem gX4_takeTell_X4_bit : GoodIn wsX4_takeTell (va_wsS RX4 140 yX4_bit wsX4_bit) := goodIn_app (goodIn_of _ (by decide +kernel)) ggX4_takeTell_X4_bit
set_option maxRecDepth 20000 in
theorem ggX4_takeTell_X4_leastReady : GoodIn wsX4_takeTell wsX4_leastReady := goodIn_r _ [16, 3, 4, 5, 2, 17, 18, 19, 20, 21, 22, 23, 24, 25, 26, 27, 28, 29, 30, 31, 32, 33, 34, 35, 36, 6, 7, 8, 9, 10, 11, 12, 37, 38, 39, 40, 41, 42, 43, 44, 45, 78, 79, 80, 81, 82, 83, 84, 62, 63, 64, 65, 66, 67, 68, 69, 70, 71, 72, 73, 74, 75, 76, 77, 85, 86, 87, 88, 89, 90, 91, 92] (by decide +kernel) (by decide +kernel)
set_option maxRecDepth 20000 in
theorem gX4_takeTell_X4_leastReady : GoodIn wsX4_takeTell (wsV RX4 328 RX4 yX4_leastReady wsX4_leastReady) := goodIn_app (goodIn_of _ (by decide +kernel)) ggX4_takeTell_X4_leastReady
set_option maxRecDepth 20000 in
theorem ggX4_takeTell_Jx4a65c_get_915e3 : GoodIn wsX4_takeTell wsJx4a65c_get_915e3 := goodIn_r _ [22, 23, 24, 25, 26, 27, 28, 29, 30, 31, 32, 33, 34, 21, 35, 36, 85, 86, 87] (by decide +kernel) (by decide +kernel)
set_option maxRecDepth 20000 in
theorem gX4_takeTell_Jx4a65c_get_915e3 : GoodIn wsX4_takeTell (wsV RX4 66 RJx4a65c yJx4a65c_get_915e3 wsJx4a65c_get_915e3) := goodIn_app (goodIn_of _ (by decide +kernel)) ggX4_takeTell_Jx4a65c_get_915e3
set_option maxRecDepth 20000 in
theorem ggX4_takeTell_X4_applyAt : GoodIn wsX4_takeTell wsX4_applyAt := goodIn_r _ [49, 17, 1, 2, 50, 51, 52, 40, 53, 54, 55, 56, 43, 44, 57, 58, 59, 60, 61, 10, 11, 8, 12, 78, 79, 80, 81, 82, 83, 84, 62, 63, 64, 65, 66, 67, 68, 69, 70, 71, 72, 73, 74, 75, 76, 77, 88, 89, 90, 91, 92] (by decide +kernel) (by decide +kernel)
set_option maxRecDepth 20000 in
theorem gX4_takeTell_X4_applyAt : GoodIn wsX4_takeTell (wsV RX4 288 RX4 yX4_applyAt wsX4_applyAt) := goodIn_app (goodIn_of _ (by decide +kernel)) ggX4_takeTell_X4_applyAt
theorem dX4_takeTell_0 : decode cX4_takeTell 0 = .ok (.aload_n 1, 1) := by decide +kernel
theorem dX4_takeTell_1 : decode cX4_takeTell 1 = .ok (.getfield 170, 3) := by decide +kernel
theorem dX4_takeTell_4 : decode cX4_takeTell 4 = .ok (.iload_n 2, 1) := by decide +kernel
theorem dX4_takeTell_5 : decode cX4_takeTell 5 = .ok (.invokestatic 297, 3) := by decide +kernel
theorem dX4_takeTell_8 : decode cX4_takeTell 8 = .ok (.ifCond .ne 16, 3) := by decide +kernel
theorem dX4_takeTell_11 : decode cX4_takeTell 11 = .ok (.aload_n 1, 1) := by decide +kernel
theorem dX4_takeTell_12 : decode cX4_takeTell 12 = .ok (.dup, 1) := by decide +kernel
theorem dX4_takeTell_13 : decode cX4_takeTell 13 = .ok (.getfield 208, 3) := by decide +kernel
theorem dX4_takeTell_16 : decode cX4_takeTell 16 = .ok (.iload_n 2, 1) := by decide +kernel
theorem dX4_takeTell_17 : decode cX4_takeTell 17 = .ok (.invokestatic 140, 3) := by decide +kernel
theorem dX4_takeTell_20 : decode cX4_takeTell 20 = .ok (.ior, 1) := by decide +kernel
theorem dX4_takeTell_21 : decode cX4_takeTell 21 = .ok (.putfield 208, 3) := by decide +kernel
theorem dX4_takeTell_24 : decode cX4_takeTell 24 = .ok (.iconst 0, 1) := by decide +kernel
theorem dX4_takeTell_25 : decode cX4_takeTell 25 = .ok (.istore_n 3, 1) := by decide +kernel
theorem dX4_takeTell_26 : decode cX4_takeTell 26 = .ok (.iload_n 3, 1) := by decide +kernel
theorem dX4_takeTell_27 : decode cX4_takeTell 27 = .ok (.aload_n 0, 1) := by decide +kernel
theorem dX4_takeTell_28 : decode cX4_takeTell 28 = .ok (.getfield 48, 3) := by decide +kernel
theorem dX4_takeTell_31 : decode cX4_takeTell 31 = .ok (.if_icmp .ge 41, 3) := by decide +kernel
theorem dX4_takeTell_34 : decode cX4_takeTell 34 = .ok (.aload_n 0, 1) := by decide +kernel
theorem dX4_takeTell_35 : decode cX4_takeTell 35 = .ok (.iload_n 2, 1) := by decide +kernel
theorem dX4_takeTell_36 : decode cX4_takeTell 36 = .ok (.invokevirtual 328, 3) := by decide +kernel
theorem dX4_takeTell_39 : decode cX4_takeTell 39 = .ok (.istore 4, 2) := by decide +kernel
theorem dX4_takeTell_41 : decode cX4_takeTell 41 = .ok (.iload 4, 2) := by decide +kernel
theorem dX4_takeTell_43 : decode cX4_takeTell 43 = .ok (.iconst (-1), 1) := by decide +kernel
theorem dX4_takeTell_44 : decode cX4_takeTell 44 = .ok (.if_icmp .ne 5, 3) := by decide +kernel
theorem dX4_takeTell_47 : decode cX4_takeTell 47 = .ok (.iload_n 3, 1) := by decide +kernel
theorem dX4_takeTell_48 : decode cX4_takeTell 48 = .ok (.ireturn, 1) := by decide +kernel
theorem dX4_takeTell_49 : decode cX4_takeTell 49 = .ok (.aload_n 0, 1) := by decide +kernel
theorem dX4_takeTell_50 : decode cX4_takeTell 50 = .ok (.aload_n 0, 1) := by decide +kernel
theorem dX4_takeTell_51 : decode cX4_takeTell 51 = .ok (.getfield 19, 3) := by decide +kernel
theorem dX4_takeTell_54 : decode cX4_takeTell 54 = .ok (.iload 4, 2) := by decide +kernel
theorem dX4_takeTell_56 : decode cX4_takeTell 56 = .ok (.invokevirtual 66, 3) := by decide +kernel
theorem dX4_takeTell_59 : decode cX4_takeTell 59 = .ok (.checkcast 59, 3) := by decide +kernel
theorem dX4_takeTell_62 : decode cX4_takeTell 62 = .ok (.iload_n 2, 1) := by decide +kernel
theorem dX4_takeTell_63 : decode cX4_takeTell 63 = .ok (.invokevirtual 288, 3) := by decide +kernel
theorem dX4_takeTell_66 : decode cX4_takeTell 66 = .ok (.iinc 3 1, 3) := by decide +kernel
theorem dX4_takeTell_69 : decode cX4_takeTell 69 = .ok (.goto (-43), 3) := by decide +kernel
theorem dX4_takeTell_72 : decode cX4_takeTell 72 = .ok (.aload_n 0, 1) := by decide +kernel
theorem dX4_takeTell_73 : decode cX4_takeTell 73 = .ok (.getfield 48, 3) := by decide +kernel
theorem dX4_takeTell_76 : decode cX4_takeTell 76 = .ok (.ireturn, 1) := by decide +kernel
set_option maxRecDepth 20000 in
theorem ggX4_leastReady_Jx4a65c_get_915e3 : GoodIn wsX4_leastReady wsJx4a65c_get_915e3 := goodIn_r _ [10, 11, 12, 13, 14, 15, 16, 17, 18, 19, 20, 21, 22, 9, 23, 24, 64, 65, 66] (by decide +kernel) (by decide +kernel)
set_option maxRecDepth 20000 in
theorem gX4_leastReady_Jx4a65c_get_915e3 : GoodIn wsX4_leastReady (wsV RX4 66 RJx4a65c yJx4a65c_get_915e3 wsJx4a65c_get_915e3) := goodIn_app (goodIn_of _ (by decide +kernel)) ggX4_leastReady_Jx4a65c_get_915e3
set_option maxRecDepth 20000 in
theorem ggX4_leastReady_X4_has : GoodIn wsX4_leastReady wsX4_has := goodIn_r _ [28, 29, 30, 27, 31] (by decide +kernel) (by decide +kernel)
set_option maxRecDepth 20000 in
theorem gX4_leastReady_X4_has : GoodIn wsX4_leastReady (va_wsS RX4 297 yX4_has wsX4_has) := goodIn_app (goodIn_of _ (by decide +kernel)) ggX4_leastReady_X4_has
set_option maxRecDepth 20000 in
theorem ggX4_leastReady_X2_isReadyFor : GoodIn wsX4_leastReady wsX2_isReadyFor := goodIn_r _ [36, 37, 38, 39, 40, 48, 49, 50, 51, 52, 53, 54, 55, 56, 57, 58, 59, 60, 61, 62, 63, 67, 68, 69, 70, 71] (by decide +kernel) (by decide +kernel)
set_option maxRecDepth 20000 in
theorem gX4_leastReady_X2_isReadyFor : GoodIn wsX4_leastReady (wsV RX4 331 RX2 yX2_isReadyFor wsX2_isReadyFor) := goodIn_app (goodIn_of _ (by decide +kernel)) ggX4_leastReady_X2_isReadyFor
theorem dX4_leastReady_0 : decode cX4_leastReady 0 = .ok (.iconst 0, 1) := by decide +kernel
theorem dX4_leastReady_1 : decode cX4_leastReady 1 = .ok (.istore_n 2, 1) := by decide +kernel
theorem dX4_leastReady_2 : decode cX4_leastReady 2 = .ok (.iload_n 2, 1) := by decide +kernel
theorem dX4_leastReady_3 : decode cX4_leastReady 3 = .ok (.aload_n 0, 1) := by decide +kernel
theorem dX4_leastReady_4 : decode cX4_leastReady 4 = .ok (.getfield 48, 3) := by decide +kernel
theorem dX4_leastReady_7 : decode cX4_leastReady 7 = .ok (.if_icmp .ge 47, 3) := by decide +kernel
theorem dX4_leastReady_10 : decode cX4_leastReady 10 = .ok (.aload_n 0, 1) := by decide +kernel
theorem dX4_leastReady_11 : decode cX4_leastReady 11 = .ok (.getfield 19, 3) := by decide +kernel
theorem dX4_leastReady_14 : decode cX4_leastReady 14 = .ok (.iload_n 2, 1) := by decide +kernel
theorem dX4_leastReady_15 : decode cX4_leastReady 15 = .ok (.invokevirtual 66, 3) := by decide +kernel
theorem dX4_leastReady_18 : decode cX4_leastReady 18 = .ok (.checkcast 59, 3) := by decide +kernel
theorem dX4_leastReady_21 : decode cX4_leastReady 21 = .ok (.astore_n 3, 1) := by decide +kernel
theorem dX4_leastReady_22 : decode cX4_leastReady 22 = .ok (.aload_n 3, 1) := by decide +kernel
theorem dX4_leastReady_23 : decode cX4_leastReady 23 = .ok (.getfield 208, 3) := by decide +kernel
theorem dX4_leastReady_26 : decode cX4_leastReady 26 = .ok (.iload_n 1, 1) := by decide +kernel
theorem dX4_leastReady_27 : decode cX4_leastReady 27 = .ok (.invokestatic 297, 3) := by decide +kernel
theorem dX4_leastReady_30 : decode cX4_leastReady 30 = .ok (.ifCond .eq 18, 3) := by decide +kernel
theorem dX4_leastReady_33 : decode cX4_leastReady 33 = .ok (.aload_n 0, 1) := by decide +kernel
theorem dX4_leastReady_34 : decode cX4_leastReady 34 = .ok (.getfield 11, 3) := by decide +kernel
theorem dX4_leastReady_37 : decode cX4_leastReady 37 = .ok (.iload_n 1, 1) := by decide +kernel
theorem dX4_leastReady_38 : decode cX4_leastReady 38 = .ok (.aaload, 1) := by decide +kernel
theorem dX4_leastReady_39 : decode cX4_leastReady 39 = .ok (.aload_n 3, 1) := by decide +kernel
theorem dX4_leastReady_40 : decode cX4_leastReady 40 = .ok (.invokevirtual 331, 3) := by decide +kernel
theorem dX4_leastReady_43 : decode cX4_leastReady 43 = .ok (.ifCond .eq 5, 3) := by decide +kernel
theorem dX4_leastReady_46 : decode cX4_leastReady 46 = .ok (.iload_n 2, 1) := by decide +kernel
theorem dX4_leastReady_47 : decode cX4_leastReady 47 = .ok (.ireturn, 1) := by decide +kernel
theorem dX4_leastReady_48 : decode cX4_leastReady 48 = .ok (.iinc 2 1, 3) := by decide +kernel
theorem dX4_leastReady_51 : decode cX4_leastReady 51 = .ok (.goto (-49), 3) := by decide +kernel
theorem dX4_leastReady_54 : decode cX4_leastReady 54 = .ok (.iconst (-1), 1) := by decide +kernel
theorem dX4_leastReady_55 : decode cX4_leastReady 55 = .ok (.ireturn, 1) := by decide +kernel
set_option maxRecDepth 20000 in
theorem ggX4_keptTells_Jx4a65c_get_915e3 : GoodIn wsX4_keptTells wsJx4a65c_get_915e3 := goodIn_r _ [9, 10, 11, 12, 13, 14, 15, 16, 17, 18, 19, 20, 21, 8, 22, 23, 54, 55, 56] (by decide +kernel) (by decide +kernel)
set_option maxRecDepth 20000 in
theorem gX4_keptTells_Jx4a65c_get_915e3 : GoodIn wsX4_keptTells (wsV RX4 66 RJx4a65c yJx4a65c_get_915e3 wsJx4a65c_get_915e3) := goodIn_app (goodIn_of _ (by decide +kernel)) ggX4_keptTells_Jx4a65c_get_915e3
set_option maxRecDepth 20000 in
theorem ggX4_keptTells_J6_bitCount_0f7a4 : GoodIn wsX4_keptTells wsJ6_bitCount_0f7a4 := goodIn_r _ [27, 28, 29, 30] (by decide +kernel) (by decide +kernel)
set_option maxRecDepth 20000 in
theorem gX4_keptTells_J6_bitCount_0f7a4 : GoodIn wsX4_keptTells (va_wsS RX4 223 yJ6_bitCount_0f7a4 wsJ6_bitCount_0f7a4) := goodIn_app (goodIn_of _ (by decide +kernel)) ggX4_keptTells_J6_bitCount_0f7a4
theorem dX4_keptTells_0 : decode cX4_keptTells 0 = .ok (.iconst 0, 1) := by decide +kernel
theorem dX4_keptTells_1 : decode cX4_keptTells 1 = .ok (.istore_n 1, 1) := by decide +kernel
theorem dX4_keptTells_2 : decode cX4_keptTells 2 = .ok (.iconst 0, 1) := by decide +kernel
theorem dX4_keptTells_3 : decode cX4_keptTells 3 = .ok (.istore_n 2, 1) := by decide +kernel
theorem dX4_keptTells_4 : decode cX4_keptTells 4 = .ok (.iload_n 2, 1) := by decide +kernel
theorem dX4_keptTells_5 : decode cX4_keptTells 5 = .ok (.aload_n 0, 1) := by decide +kernel
theorem dX4_keptTells_6 : decode cX4_keptTells 6 = .ok (.getfield 48, 3) := by decide +kernel
theorem dX4_keptTells_9 : decode cX4_keptTells 9 = .ok (.if_icmp .ge 29, 3) := by decide +kernel
theorem dX4_keptTells_12 : decode cX4_keptTells 12 = .ok (.iload_n 1, 1) := by decide +kernel
theorem dX4_keptTells_13 : decode cX4_keptTells 13 = .ok (.aload_n 0, 1) := by decide +kernel
theorem dX4_keptTells_14 : decode cX4_keptTells 14 = .ok (.getfield 19, 3) := by decide +kernel
theorem dX4_keptTells_17 : decode cX4_keptTells 17 = .ok (.iload_n 2, 1) := by decide +kernel
theorem dX4_keptTells_18 : decode cX4_keptTells 18 = .ok (.invokevirtual 66, 3) := by decide +kernel
theorem dX4_keptTells_21 : decode cX4_keptTells 21 = .ok (.checkcast 59, 3) := by decide +kernel
theorem dX4_keptTells_24 : decode cX4_keptTells 24 = .ok (.getfield 208, 3) := by decide +kernel
theorem dX4_keptTells_27 : decode cX4_keptTells 27 = .ok (.invokestatic 223, 3) := by decide +kernel
theorem dX4_keptTells_30 : decode cX4_keptTells 30 = .ok (.iadd, 1) := by decide +kernel
theorem dX4_keptTells_31 : decode cX4_keptTells 31 = .ok (.istore_n 1, 1) := by decide +kernel
theorem dX4_keptTells_32 : decode cX4_keptTells 32 = .ok (.iinc 2 1, 3) := by decide +kernel
theorem dX4_keptTells_35 : decode cX4_keptTells 35 = .ok (.goto (-31), 3) := by decide +kernel
theorem dX4_keptTells_38 : decode cX4_keptTells 38 = .ok (.iload_n 1, 1) := by decide +kernel
theorem dX4_keptTells_39 : decode cX4_keptTells 39 = .ok (.ireturn, 1) := by decide +kernel
theorem dX4_sitesUp_0 : decode cX4_sitesUp 0 = .ok (.iconst 0, 1) := by decide +kernel
theorem dX4_sitesUp_1 : decode cX4_sitesUp 1 = .ok (.istore_n 1, 1) := by decide +kernel
theorem dX4_sitesUp_2 : decode cX4_sitesUp 2 = .ok (.iconst 0, 1) := by decide +kernel
theorem dX4_sitesUp_3 : decode cX4_sitesUp 3 = .ok (.istore_n 2, 1) := by decide +kernel
theorem dX4_sitesUp_4 : decode cX4_sitesUp 4 = .ok (.iload_n 2, 1) := by decide +kernel
theorem dX4_sitesUp_5 : decode cX4_sitesUp 5 = .ok (.aload_n 0, 1) := by decide +kernel
theorem dX4_sitesUp_6 : decode cX4_sitesUp 6 = .ok (.getfield 251, 3) := by decide +kernel
theorem dX4_sitesUp_9 : decode cX4_sitesUp 9 = .ok (.if_icmp .ge 24, 3) := by decide +kernel
theorem dX4_sitesUp_12 : decode cX4_sitesUp 12 = .ok (.aload_n 0, 1) := by decide +kernel
theorem dX4_sitesUp_13 : decode cX4_sitesUp 13 = .ok (.getfield 11, 3) := by decide +kernel
theorem dX4_sitesUp_16 : decode cX4_sitesUp 16 = .ok (.iload_n 2, 1) := by decide +kernel
theorem dX4_sitesUp_17 : decode cX4_sitesUp 17 = .ok (.aaload, 1) := by decide +kernel
theorem dX4_sitesUp_18 : decode cX4_sitesUp 18 = .ok (.getfield 44, 3) := by decide +kernel
theorem dX4_sitesUp_21 : decode cX4_sitesUp 21 = .ok (.ifCond .eq 6, 3) := by decide +kernel
theorem dX4_sitesUp_24 : decode cX4_sitesUp 24 = .ok (.iinc 1 1, 3) := by decide +kernel
theorem dX4_sitesUp_27 : decode cX4_sitesUp 27 = .ok (.iinc 2 1, 3) := by decide +kernel
theorem dX4_sitesUp_30 : decode cX4_sitesUp 30 = .ok (.goto (-26), 3) := by decide +kernel
theorem dX4_sitesUp_33 : decode cX4_sitesUp 33 = .ok (.iload_n 1, 1) := by decide +kernel
theorem dX4_sitesUp_34 : decode cX4_sitesUp 34 = .ok (.ireturn, 1) := by decide +kernel
set_option maxRecDepth 20000 in
theorem ggX4_spell_X1_kind : GoodIn wsX4_spell wsX1_kind := goodIn_r _ [8, 9, 120, 121, 122, 123] (by decide +kernel) (by decide +kernel)
set_option maxRecDepth 20000 in
theorem gX4_spell_X1_kind : GoodIn wsX4_spell (wsV RX4 191 RX1 yX1_kind wsX1_kind) := goodIn_app (goodIn_of _ (by decide +kernel)) ggX4_spell_X1_kind
set_option maxRecDepth 20000 in
theorem ggX4_spell_X0_put : GoodIn wsX4_spell wsX0_put := goodIn_r _ [14, 15, 16, 17, 18, 19, 124, 125, 126, 127] (by decide +kernel) (by decide +kernel)
set_option maxRecDepth 20000 in
theorem gX4_spell_X0_put : GoodIn wsX4_spell (wsV RX4 335 RX0 yX0_put wsX0_put) := goodIn_app (goodIn_of _ (by decide +kernel)) ggX4_spell_X0_put
set_option maxRecDepth 20000 in
theorem ggX4_spell_X1_from : GoodIn wsX4_spell wsX1_from := goodIn_r _ [23, 24, 120, 121, 122, 123] (by decide +kernel) (by decide +kernel)
set_option maxRecDepth 20000 in
theorem gX4_spell_X1_from : GoodIn wsX4_spell (wsV RX4 310 RX1 yX1_from wsX1_from) := goodIn_app (goodIn_of _ (by decide +kernel)) ggX4_spell_X1_from
set_option maxRecDepth 20000 in
theorem ggX4_spell_X1_to : GoodIn wsX4_spell wsX1_to := goodIn_r _ [28, 29, 120, 121, 122, 123] (by decide +kernel) (by decide +kernel)
set_option maxRecDepth 20000 in
theorem gX4_spell_X1_to : GoodIn wsX4_spell (wsV RX4 181 RX1 yX1_to wsX1_to) := goodIn_app (goodIn_of _ (by decide +kernel)) ggX4_spell_X1_to
set_option maxRecDepth 20000 in
theorem ggX4_spell_X0_putTwo : GoodIn wsX4_spell wsX0_putTwo := goodIn_r _ [33, 34, 11, 12, 13, 14, 15, 16, 17, 18, 19, 124, 125, 126, 127] (by decide +kernel) (by decide +kernel)
set_option maxRecDepth 20000 in
theorem gX4_spell_X0_putTwo : GoodIn wsX4_spell (wsV RX4 338 RX0 yX0_putTwo wsX0_putTwo) := goodIn_app (goodIn_of _ (by decide +kernel)) ggX4_spell_X0_putTwo
set_option maxRecDepth 20000 in
theorem ggX4_spell_X4_spellStart : GoodIn wsX4_spell wsX4_spellStart := goodIn_r _ [39, 40, 1, 41, 30, 31, 32, 13, 33, 34, 11, 12, 14, 15, 16, 17, 18, 19, 97, 98, 99, 100, 101, 102, 103, 104, 105, 106, 107, 108, 109, 110, 111, 112, 113, 114, 115, 116, 117, 118, 119, 124, 125, 126, 127] (by decide +kernel) (by decide +kernel)
set_option maxRecDepth 20000 in
theorem gX4_spell_X4_spellStart : GoodIn wsX4_spell (wsV RX4 341 RX4 yX4_spellStart wsX4_spellStart) := goodIn_app (goodIn_of _ (by decide +kernel)) ggX4_spell_X4_spellStart
set_option maxRecDepth 20000 in
theorem ggX4_spell_X4_spellAsked : GoodIn wsX4_spell wsX4_spellAsked := goodIn_r _ [45, 1, 46, 47, 48, 38, 49, 50, 51, 52, 53, 54, 55, 56, 57, 58, 59, 60, 61, 62, 63, 64, 40, 10, 11, 12, 13, 14, 15, 16, 17, 18, 19, 97, 98, 99, 100, 101, 102, 103, 104, 105, 106, 107, 108, 109, 110, 111, 112, 113, 114, 115, 116, 117, 118, 119, 124, 125, 126, 127] (by decide +kernel) (by decide +kernel)
set_option maxRecDepth 20000 in
theorem gX4_spell_X4_spellAsked : GoodIn wsX4_spell (wsV RX4 344 RX4 yX4_spellAsked wsX4_spellAsked) := goodIn_app (goodIn_of _ (by decide +kernel)) ggX4_spell_X4_spellAsked
set_option maxRecDepth 20000 in
theorem ggX4_spell_X4_spellWritten : GoodIn wsX4_spell wsX4_spellWritten := goodIn_r _ [68, 1, 69, 70, 71, 72, 53, 73, 55, 74, 75, 76, 77, 78, 79, 80, 10, 11, 12, 13, 14, 15, 16, 17, 18, 19, 50, 51, 52, 54, 56, 38, 57, 58, 59, 60, 81, 82, 83, 84, 85, 31, 32, 33, 34, 97, 98, 99, 100, 101, 102, 103, 104, 105, 106, 107, 108, 109, 110, 111, 112, 113, 114, 115, 116, 117, 118, 119, 124, 125, 126, 127] (by decide +kernel) (by decide +kernel)
set_option maxRecDepth 20000 in
theorem gX4_spell_X4_spellWritten : GoodIn wsX4_spell (wsV RX4 347 RX4 yX4_spellWritten wsX4_spellWritten) := goodIn_app (goodIn_of _ (by decide +kernel)) ggX4_spell_X4_spellWritten
set_option maxRecDepth 20000 in
theorem ggX4_spell_X4_spellChanges : GoodIn wsX4_spell wsX4_spellChanges := goodIn_r _ [89, 1, 90, 91, 92, 10, 11, 12, 13, 14, 15, 16, 17, 18, 19, 97, 98, 99, 100, 101, 102, 103, 104, 105, 106, 107, 108, 109, 110, 111, 112, 113, 114, 115, 116, 117, 118, 119, 124, 125, 126, 127] (by decide +kernel) (by decide +kernel)
set_option maxRecDepth 20000 in
theorem gX4_spell_X4_spellChanges : GoodIn wsX4_spell (wsV RX4 350 RX4 yX4_spellChanges wsX4_spellChanges) := goodIn_app (goodIn_of _ (by decide +kernel)) ggX4_spell_X4_spellChanges
set_option maxRecDepth 20000 in
theorem ggX4_spell_X0_putCheck : GoodIn wsX4_spell wsX0_putCheck := goodIn_r _ [96, 18, 85, 31, 32, 13, 33, 34, 11, 12, 14, 15, 16, 17, 19, 124, 125, 126, 127] (by decide +kernel) (by decide +kernel)
set_option maxRecDepth 20000 in
theorem gX4_spell_X0_putCheck : GoodIn wsX4_spell (wsV RX4 353 RX0 yX0_putCheck wsX0_putCheck) := goodIn_app (goodIn_of _ (by decide +kernel)) ggX4_spell_X0_putCheck
theorem dX4_spell_0 : decode cX4_spell 0 = .ok (.aload_n 0, 1) := by decide +kernel
theorem dX4_spell_1 : decode cX4_spell 1 = .ok (.getfield 29, 3) := by decide +kernel
theorem dX4_spell_4 : decode cX4_spell 4 = .ok (.aload_n 1, 1) := by decide +kernel
theorem dX4_spell_5 : decode cX4_spell 5 = .ok (.invokevirtual 191, 3) := by decide +kernel
theorem dX4_spell_8 : decode cX4_spell 8 = .ok (.invokevirtual 335, 3) := by decide +kernel
theorem dX4_spell_11 : decode cX4_spell 11 = .ok (.aload_n 0, 1) := by decide +kernel
theorem dX4_spell_12 : decode cX4_spell 12 = .ok (.getfield 29, 3) := by decide +kernel
theorem dX4_spell_15 : decode cX4_spell 15 = .ok (.aload_n 1, 1) := by decide +kernel
theorem dX4_spell_16 : decode cX4_spell 16 = .ok (.invokevirtual 310, 3) := by decide +kernel
theorem dX4_spell_19 : decode cX4_spell 19 = .ok (.invokevirtual 335, 3) := by decide +kernel
theorem dX4_spell_22 : decode cX4_spell 22 = .ok (.aload_n 0, 1) := by decide +kernel
theorem dX4_spell_23 : decode cX4_spell 23 = .ok (.getfield 29, 3) := by decide +kernel
theorem dX4_spell_26 : decode cX4_spell 26 = .ok (.aload_n 1, 1) := by decide +kernel
theorem dX4_spell_27 : decode cX4_spell 27 = .ok (.invokevirtual 181, 3) := by decide +kernel
theorem dX4_spell_30 : decode cX4_spell 30 = .ok (.invokevirtual 335, 3) := by decide +kernel
theorem dX4_spell_33 : decode cX4_spell 33 = .ok (.aload_n 0, 1) := by decide +kernel
theorem dX4_spell_34 : decode cX4_spell 34 = .ok (.getfield 29, 3) := by decide +kernel
theorem dX4_spell_37 : decode cX4_spell 37 = .ok (.aload_n 2, 1) := by decide +kernel
theorem dX4_spell_38 : decode cX4_spell 38 = .ok (.getfield 282, 3) := by decide +kernel
theorem dX4_spell_41 : decode cX4_spell 41 = .ok (.invokevirtual 338, 3) := by decide +kernel
theorem dX4_spell_44 : decode cX4_spell 44 = .ok (.aload_n 1, 1) := by decide +kernel
theorem dX4_spell_45 : decode cX4_spell 45 = .ok (.invokevirtual 191, 3) := by decide +kernel
theorem dX4_spell_48 : decode cX4_spell 48 = .ok (.iconst 1, 1) := by decide +kernel
theorem dX4_spell_49 : decode cX4_spell 49 = .ok (.if_icmp .ne 20, 3) := by decide +kernel
theorem dX4_spell_52 : decode cX4_spell 52 = .ok (.aload_n 0, 1) := by decide +kernel
theorem dX4_spell_53 : decode cX4_spell 53 = .ok (.aload_n 2, 1) := by decide +kernel
theorem dX4_spell_54 : decode cX4_spell 54 = .ok (.invokevirtual 341, 3) := by decide +kernel
theorem dX4_spell_57 : decode cX4_spell 57 = .ok (.aload_n 0, 1) := by decide +kernel
theorem dX4_spell_58 : decode cX4_spell 58 = .ok (.aload_n 2, 1) := by decide +kernel
theorem dX4_spell_59 : decode cX4_spell 59 = .ok (.aload_n 1, 1) := by decide +kernel
theorem dX4_spell_60 : decode cX4_spell 60 = .ok (.invokevirtual 181, 3) := by decide +kernel
theorem dX4_spell_63 : decode cX4_spell 63 = .ok (.invokevirtual 344, 3) := by decide +kernel
theorem dX4_spell_66 : decode cX4_spell 66 = .ok (.goto 37, 3) := by decide +kernel
theorem dX4_spell_69 : decode cX4_spell 69 = .ok (.aload_n 1, 1) := by decide +kernel
theorem dX4_spell_70 : decode cX4_spell 70 = .ok (.invokevirtual 191, 3) := by decide +kernel
theorem dX4_spell_73 : decode cX4_spell 73 = .ok (.iconst 5, 1) := by decide +kernel
theorem dX4_spell_74 : decode cX4_spell 74 = .ok (.if_icmp .ne 29, 3) := by decide +kernel
theorem dX4_spell_77 : decode cX4_spell 77 = .ok (.aload_n 0, 1) := by decide +kernel
theorem dX4_spell_78 : decode cX4_spell 78 = .ok (.aload_n 2, 1) := by decide +kernel
theorem dX4_spell_79 : decode cX4_spell 79 = .ok (.invokevirtual 341, 3) := by decide +kernel
theorem dX4_spell_82 : decode cX4_spell 82 = .ok (.aload_n 0, 1) := by decide +kernel
theorem dX4_spell_83 : decode cX4_spell 83 = .ok (.getfield 29, 3) := by decide +kernel
theorem dX4_spell_86 : decode cX4_spell 86 = .ok (.aload_n 2, 1) := by decide +kernel
theorem dX4_spell_87 : decode cX4_spell 87 = .ok (.getfield 220, 3) := by decide +kernel
theorem dX4_spell_90 : decode cX4_spell 90 = .ok (.invokevirtual 338, 3) := by decide +kernel
theorem dX4_spell_93 : decode cX4_spell 93 = .ok (.aload_n 0, 1) := by decide +kernel
theorem dX4_spell_94 : decode cX4_spell 94 = .ok (.aload_n 2, 1) := by decide +kernel
theorem dX4_spell_95 : decode cX4_spell 95 = .ok (.invokevirtual 347, 3) := by decide +kernel
theorem dX4_spell_98 : decode cX4_spell 98 = .ok (.aload_n 0, 1) := by decide +kernel
theorem dX4_spell_99 : decode cX4_spell 99 = .ok (.aload_n 2, 1) := by decide +kernel
theorem dX4_spell_100 : decode cX4_spell 100 = .ok (.invokevirtual 350, 3) := by decide +kernel
theorem dX4_spell_103 : decode cX4_spell 103 = .ok (.aload_n 0, 1) := by decide +kernel
theorem dX4_spell_104 : decode cX4_spell 104 = .ok (.getfield 29, 3) := by decide +kernel
theorem dX4_spell_107 : decode cX4_spell 107 = .ok (.invokevirtual 353, 3) := by decide +kernel
theorem dX4_spell_110 : decode cX4_spell 110 = .ok (.return_, 1) := by decide +kernel
set_option maxRecDepth 20000 in
theorem ggX4_spellStart_X0_putTwo : GoodIn wsX4_spellStart wsX0_putTwo := goodIn_r _ [8, 9, 10, 11, 7, 12, 13, 14, 15, 16, 17, 41, 42, 43, 44] (by decide +kernel) (by decide +kernel)
set_option maxRecDepth 20000 in
theorem gX4_spellStart_X0_putTwo : GoodIn wsX4_spellStart (wsV RX4 338 RX0 yX0_putTwo wsX0_putTwo) := goodIn_app (goodIn_of _ (by decide +kernel)) ggX4_spellStart_X0_putTwo
theorem dX4_spellStart_0 : decode cX4_spellStart 0 = .ok (.iconst 0, 1) := by decide +kernel
theorem dX4_spellStart_1 : decode cX4_spellStart 1 = .ok (.istore_n 2, 1) := by decide +kernel
theorem dX4_spellStart_2 : decode cX4_spellStart 2 = .ok (.iload_n 2, 1) := by decide +kernel
theorem dX4_spellStart_3 : decode cX4_spellStart 3 = .ok (.aload_n 0, 1) := by decide +kernel
theorem dX4_spellStart_4 : decode cX4_spellStart 4 = .ok (.getfield 251, 3) := by decide +kernel
theorem dX4_spellStart_7 : decode cX4_spellStart 7 = .ok (.if_icmp .ge 22, 3) := by decide +kernel
theorem dX4_spellStart_10 : decode cX4_spellStart 10 = .ok (.aload_n 0, 1) := by decide +kernel
theorem dX4_spellStart_11 : decode cX4_spellStart 11 = .ok (.getfield 29, 3) := by decide +kernel
theorem dX4_spellStart_14 : decode cX4_spellStart 14 = .ok (.aload_n 1, 1) := by decide +kernel
theorem dX4_spellStart_15 : decode cX4_spellStart 15 = .ok (.getfield 98, 3) := by decide +kernel
theorem dX4_spellStart_18 : decode cX4_spellStart 18 = .ok (.iload_n 2, 1) := by decide +kernel
theorem dX4_spellStart_19 : decode cX4_spellStart 19 = .ok (.iaload, 1) := by decide +kernel
theorem dX4_spellStart_20 : decode cX4_spellStart 20 = .ok (.invokevirtual 338, 3) := by decide +kernel
theorem dX4_spellStart_23 : decode cX4_spellStart 23 = .ok (.iinc 2 1, 3) := by decide +kernel
theorem dX4_spellStart_26 : decode cX4_spellStart 26 = .ok (.goto (-24), 3) := by decide +kernel
theorem dX4_spellStart_29 : decode cX4_spellStart 29 = .ok (.return_, 1) := by decide +kernel
set_option maxRecDepth 20000 in
theorem ggX4_spellAsked_X4_hasWithHome : GoodIn wsX4_spellAsked wsX4_hasWithHome := goodIn_r _ [6, 7, 8, 9, 10, 11, 12, 13, 5, 14, 15, 16, 17, 18, 19, 20, 21, 22, 40, 41, 42, 43, 44, 45, 46, 47, 48, 49, 50, 51, 52, 53, 54, 55, 33, 34, 35, 36, 37, 38, 39] (by decide +kernel) (by decide +kernel)
set_option maxRecDepth 20000 in
theorem gX4_spellAsked_X4_hasWithHome : GoodIn wsX4_spellAsked (wsV RX4 274 RX4 yX4_hasWithHome wsX4_hasWithHome) := goodIn_app (goodIn_of _ (by decide +kernel)) ggX4_spellAsked_X4_hasWithHome
set_option maxRecDepth 20000 in
theorem ggX4_spellAsked_X0_put : GoodIn wsX4_spellAsked wsX0_put := goodIn_r _ [27, 28, 29, 30, 31, 32, 56, 57, 58, 59] (by decide +kernel) (by decide +kernel)
set_option maxRecDepth 20000 in
theorem gX4_spellAsked_X0_put : GoodIn wsX4_spellAsked (wsV RX4 335 RX0 yX0_put wsX0_put) := goodIn_app (goodIn_of _ (by decide +kernel)) ggX4_spellAsked_X0_put
theorem dX4_spellAsked_0 : decode cX4_spellAsked 0 = .ok (.iconst 0, 1) := by decide +kernel
theorem dX4_spellAsked_1 : decode cX4_spellAsked 1 = .ok (.istore_n 3, 1) := by decide +kernel
theorem dX4_spellAsked_2 : decode cX4_spellAsked 2 = .ok (.iconst 0, 1) := by decide +kernel
theorem dX4_spellAsked_3 : decode cX4_spellAsked 3 = .ok (.istore 4, 2) := by decide +kernel
theorem dX4_spellAsked_5 : decode cX4_spellAsked 5 = .ok (.iload 4, 2) := by decide +kernel
theorem dX4_spellAsked_7 : decode cX4_spellAsked 7 = .ok (.bipush 20, 2) := by decide +kernel
theorem dX4_spellAsked_9 : decode cX4_spellAsked 9 = .ok (.if_icmp .ge 23, 3) := by decide +kernel
theorem dX4_spellAsked_12 : decode cX4_spellAsked 12 = .ok (.aload_n 0, 1) := by decide +kernel
theorem dX4_spellAsked_13 : decode cX4_spellAsked 13 = .ok (.aload_n 1, 1) := by decide +kernel
theorem dX4_spellAsked_14 : decode cX4_spellAsked 14 = .ok (.iload 4, 2) := by decide +kernel
theorem dX4_spellAsked_16 : decode cX4_spellAsked 16 = .ok (.iload_n 2, 1) := by decide +kernel
theorem dX4_spellAsked_17 : decode cX4_spellAsked 17 = .ok (.invokevirtual 274, 3) := by decide +kernel
theorem dX4_spellAsked_20 : decode cX4_spellAsked 20 = .ok (.ifCond .eq 6, 3) := by decide +kernel
theorem dX4_spellAsked_23 : decode cX4_spellAsked 23 = .ok (.iinc 3 1, 3) := by decide +kernel
theorem dX4_spellAsked_26 : decode cX4_spellAsked 26 = .ok (.iinc 4 1, 3) := by decide +kernel
theorem dX4_spellAsked_29 : decode cX4_spellAsked 29 = .ok (.goto (-24), 3) := by decide +kernel
theorem dX4_spellAsked_32 : decode cX4_spellAsked 32 = .ok (.aload_n 0, 1) := by decide +kernel
theorem dX4_spellAsked_33 : decode cX4_spellAsked 33 = .ok (.getfield 29, 3) := by decide +kernel
theorem dX4_spellAsked_36 : decode cX4_spellAsked 36 = .ok (.iload_n 3, 1) := by decide +kernel
theorem dX4_spellAsked_37 : decode cX4_spellAsked 37 = .ok (.invokevirtual 335, 3) := by decide +kernel
theorem dX4_spellAsked_40 : decode cX4_spellAsked 40 = .ok (.iconst 0, 1) := by decide +kernel
theorem dX4_spellAsked_41 : decode cX4_spellAsked 41 = .ok (.istore 4, 2) := by decide +kernel
theorem dX4_spellAsked_43 : decode cX4_spellAsked 43 = .ok (.iload 4, 2) := by decide +kernel
theorem dX4_spellAsked_45 : decode cX4_spellAsked 45 = .ok (.bipush 20, 2) := by decide +kernel
theorem dX4_spellAsked_47 : decode cX4_spellAsked 47 = .ok (.if_icmp .ge 29, 3) := by decide +kernel
theorem dX4_spellAsked_50 : decode cX4_spellAsked 50 = .ok (.aload_n 0, 1) := by decide +kernel
theorem dX4_spellAsked_51 : decode cX4_spellAsked 51 = .ok (.aload_n 1, 1) := by decide +kernel
theorem dX4_spellAsked_52 : decode cX4_spellAsked 52 = .ok (.iload 4, 2) := by decide +kernel
theorem dX4_spellAsked_54 : decode cX4_spellAsked 54 = .ok (.iload_n 2, 1) := by decide +kernel
theorem dX4_spellAsked_55 : decode cX4_spellAsked 55 = .ok (.invokevirtual 274, 3) := by decide +kernel
theorem dX4_spellAsked_58 : decode cX4_spellAsked 58 = .ok (.ifCond .eq 12, 3) := by decide +kernel
theorem dX4_spellAsked_61 : decode cX4_spellAsked 61 = .ok (.aload_n 0, 1) := by decide +kernel
theorem dX4_spellAsked_62 : decode cX4_spellAsked 62 = .ok (.getfield 29, 3) := by decide +kernel
theorem dX4_spellAsked_65 : decode cX4_spellAsked 65 = .ok (.iload 4, 2) := by decide +kernel
theorem dX4_spellAsked_67 : decode cX4_spellAsked 67 = .ok (.invokevirtual 335, 3) := by decide +kernel
theorem dX4_spellAsked_70 : decode cX4_spellAsked 70 = .ok (.iinc 4 1, 3) := by decide +kernel
theorem dX4_spellAsked_73 : decode cX4_spellAsked 73 = .ok (.goto (-30), 3) := by decide +kernel
theorem dX4_spellAsked_76 : decode cX4_spellAsked 76 = .ok (.return_, 1) := by decide +kernel
set_option maxRecDepth 20000 in
theorem ggX4_spellWritten_X3_writtenCount : GoodIn wsX4_spellWritten wsX3_writtenCount := goodIn_r _ [7, 8, 9, 10, 11, 12, 13, 14, 15, 52, 53, 54, 55, 56, 57, 58, 59, 60, 61, 62, 63, 64, 65, 66, 67] (by decide +kernel) (by decide +kernel)
set_option maxRecDepth 20000 in
theorem gX4_spellWritten_X3_writtenCount : GoodIn wsX4_spellWritten (wsV RX4 105 RX3 yX3_writtenCount wsX3_writtenCount) := goodIn_app (goodIn_of _ (by decide +kernel)) ggX4_spellWritten_X3_writtenCount
set_option maxRecDepth 20000 in
theorem ggX4_spellWritten_X0_put : GoodIn wsX4_spellWritten wsX0_put := goodIn_r _ [20, 21, 22, 23, 24, 25, 68, 69, 70, 71] (by decide +kernel) (by decide +kernel)
set_option maxRecDepth 20000 in
theorem gX4_spellWritten_X0_put : GoodIn wsX4_spellWritten (wsV RX4 335 RX0 yX0_put wsX0_put) := goodIn_app (goodIn_of _ (by decide +kernel)) ggX4_spellWritten_X0_put
set_option maxRecDepth 20000 in
theorem ggX4_spellWritten_X3_wrote : GoodIn wsX4_spellWritten wsX3_wrote := goodIn_r _ [29, 8, 30, 31, 32, 33, 34, 35, 52, 53, 54, 55, 56, 57, 58, 59, 60, 61, 62, 63, 64, 65, 66, 67] (by decide +kernel) (by decide +kernel)
set_option maxRecDepth 20000 in
theorem gX4_spellWritten_X3_wrote : GoodIn wsX4_spellWritten (wsV RX4 88 RX3 yX3_wrote wsX3_wrote) := goodIn_app (goodIn_of _ (by decide +kernel)) ggX4_spellWritten_X3_wrote
set_option maxRecDepth 20000 in
theorem ggX4_spellWritten_X0_putFour : GoodIn wsX4_spellWritten wsX0_putFour := goodIn_r _ [39, 40, 41, 42, 19, 43, 44, 17, 18, 20, 21, 22, 23, 24, 25, 68, 69, 70, 71] (by decide +kernel) (by decide +kernel)
set_option maxRecDepth 20000 in
theorem gX4_spellWritten_X0_putFour : GoodIn wsX4_spellWritten (wsV RX4 356 RX0 yX0_putFour wsX0_putFour) := goodIn_app (goodIn_of _ (by decide +kernel)) ggX4_spellWritten_X0_putFour
theorem dX4_spellWritten_0 : decode cX4_spellWritten 0 = .ok (.aload_n 0, 1) := by decide +kernel
theorem dX4_spellWritten_1 : decode cX4_spellWritten 1 = .ok (.getfield 29, 3) := by decide +kernel
theorem dX4_spellWritten_4 : decode cX4_spellWritten 4 = .ok (.aload_n 1, 1) := by decide +kernel
theorem dX4_spellWritten_5 : decode cX4_spellWritten 5 = .ok (.invokevirtual 105, 3) := by decide +kernel
theorem dX4_spellWritten_8 : decode cX4_spellWritten 8 = .ok (.invokevirtual 335, 3) := by decide +kernel
theorem dX4_spellWritten_11 : decode cX4_spellWritten 11 = .ok (.iconst 0, 1) := by decide +kernel
theorem dX4_spellWritten_12 : decode cX4_spellWritten 12 = .ok (.istore_n 2, 1) := by decide +kernel
theorem dX4_spellWritten_13 : decode cX4_spellWritten 13 = .ok (.iload_n 2, 1) := by decide +kernel
theorem dX4_spellWritten_14 : decode cX4_spellWritten 14 = .ok (.bipush 20, 2) := by decide +kernel
theorem dX4_spellWritten_16 : decode cX4_spellWritten 16 = .ok (.if_icmp .ge 38, 3) := by decide +kernel
theorem dX4_spellWritten_19 : decode cX4_spellWritten 19 = .ok (.aload_n 1, 1) := by decide +kernel
theorem dX4_spellWritten_20 : decode cX4_spellWritten 20 = .ok (.iload_n 2, 1) := by decide +kernel
theorem dX4_spellWritten_21 : decode cX4_spellWritten 21 = .ok (.invokevirtual 88, 3) := by decide +kernel
theorem dX4_spellWritten_24 : decode cX4_spellWritten 24 = .ok (.ifCond .eq 24, 3) := by decide +kernel
theorem dX4_spellWritten_27 : decode cX4_spellWritten 27 = .ok (.aload_n 0, 1) := by decide +kernel
theorem dX4_spellWritten_28 : decode cX4_spellWritten 28 = .ok (.getfield 29, 3) := by decide +kernel
theorem dX4_spellWritten_31 : decode cX4_spellWritten 31 = .ok (.iload_n 2, 1) := by decide +kernel
theorem dX4_spellWritten_32 : decode cX4_spellWritten 32 = .ok (.invokevirtual 335, 3) := by decide +kernel
theorem dX4_spellWritten_35 : decode cX4_spellWritten 35 = .ok (.aload_n 0, 1) := by decide +kernel
theorem dX4_spellWritten_36 : decode cX4_spellWritten 36 = .ok (.getfield 29, 3) := by decide +kernel
theorem dX4_spellWritten_39 : decode cX4_spellWritten 39 = .ok (.aload_n 1, 1) := by decide +kernel
theorem dX4_spellWritten_40 : decode cX4_spellWritten 40 = .ok (.getfield 92, 3) := by decide +kernel
theorem dX4_spellWritten_43 : decode cX4_spellWritten 43 = .ok (.iload_n 2, 1) := by decide +kernel
theorem dX4_spellWritten_44 : decode cX4_spellWritten 44 = .ok (.iaload, 1) := by decide +kernel
theorem dX4_spellWritten_45 : decode cX4_spellWritten 45 = .ok (.invokevirtual 356, 3) := by decide +kernel
theorem dX4_spellWritten_48 : decode cX4_spellWritten 48 = .ok (.iinc 2 1, 3) := by decide +kernel
theorem dX4_spellWritten_51 : decode cX4_spellWritten 51 = .ok (.goto (-38), 3) := by decide +kernel
theorem dX4_spellWritten_54 : decode cX4_spellWritten 54 = .ok (.return_, 1) := by decide +kernel
set_option maxRecDepth 20000 in
theorem ggX4_spellChanges_X0_put : GoodIn wsX4_spellChanges wsX0_put := goodIn_r _ [9, 10, 11, 12, 13, 14, 38, 39, 40, 41] (by decide +kernel) (by decide +kernel)
set_option maxRecDepth 20000 in
theorem gX4_spellChanges_X0_put : GoodIn wsX4_spellChanges (wsV RX4 335 RX0 yX0_put wsX0_put) := goodIn_app (goodIn_of _ (by decide +kernel)) ggX4_spellChanges_X0_put
theorem dX4_spellChanges_0 : decode cX4_spellChanges 0 = .ok (.aload_n 0, 1) := by decide +kernel
theorem dX4_spellChanges_1 : decode cX4_spellChanges 1 = .ok (.getfield 29, 3) := by decide +kernel
theorem dX4_spellChanges_4 : decode cX4_spellChanges 4 = .ok (.aload_n 1, 1) := by decide +kernel
theorem dX4_spellChanges_5 : decode cX4_spellChanges 5 = .ok (.getfield 115, 3) := by decide +kernel
theorem dX4_spellChanges_8 : decode cX4_spellChanges 8 = .ok (.invokevirtual 335, 3) := by decide +kernel
theorem dX4_spellChanges_11 : decode cX4_spellChanges 11 = .ok (.iconst 0, 1) := by decide +kernel
theorem dX4_spellChanges_12 : decode cX4_spellChanges 12 = .ok (.istore_n 2, 1) := by decide +kernel
theorem dX4_spellChanges_13 : decode cX4_spellChanges 13 = .ok (.iload_n 2, 1) := by decide +kernel
theorem dX4_spellChanges_14 : decode cX4_spellChanges 14 = .ok (.aload_n 1, 1) := by decide +kernel
theorem dX4_spellChanges_15 : decode cX4_spellChanges 15 = .ok (.getfield 115, 3) := by decide +kernel
theorem dX4_spellChanges_18 : decode cX4_spellChanges 18 = .ok (.if_icmp .ge 35, 3) := by decide +kernel
theorem dX4_spellChanges_21 : decode cX4_spellChanges 21 = .ok (.aload_n 0, 1) := by decide +kernel
theorem dX4_spellChanges_22 : decode cX4_spellChanges 22 = .ok (.getfield 29, 3) := by decide +kernel
theorem dX4_spellChanges_25 : decode cX4_spellChanges 25 = .ok (.aload_n 1, 1) := by decide +kernel
theorem dX4_spellChanges_26 : decode cX4_spellChanges 26 = .ok (.getfield 118, 3) := by decide +kernel
theorem dX4_spellChanges_29 : decode cX4_spellChanges 29 = .ok (.iload_n 2, 1) := by decide +kernel
theorem dX4_spellChanges_30 : decode cX4_spellChanges 30 = .ok (.iaload, 1) := by decide +kernel
theorem dX4_spellChanges_31 : decode cX4_spellChanges 31 = .ok (.invokevirtual 335, 3) := by decide +kernel
theorem dX4_spellChanges_34 : decode cX4_spellChanges 34 = .ok (.aload_n 0, 1) := by decide +kernel
theorem dX4_spellChanges_35 : decode cX4_spellChanges 35 = .ok (.getfield 29, 3) := by decide +kernel
theorem dX4_spellChanges_38 : decode cX4_spellChanges 38 = .ok (.aload_n 1, 1) := by decide +kernel
theorem dX4_spellChanges_39 : decode cX4_spellChanges 39 = .ok (.getfield 125, 3) := by decide +kernel
theorem dX4_spellChanges_42 : decode cX4_spellChanges 42 = .ok (.iload_n 2, 1) := by decide +kernel
theorem dX4_spellChanges_43 : decode cX4_spellChanges 43 = .ok (.iaload, 1) := by decide +kernel
theorem dX4_spellChanges_44 : decode cX4_spellChanges 44 = .ok (.invokevirtual 335, 3) := by decide +kernel
theorem dX4_spellChanges_47 : decode cX4_spellChanges 47 = .ok (.iinc 2 1, 3) := by decide +kernel
theorem dX4_spellChanges_50 : decode cX4_spellChanges 50 = .ok (.goto (-37), 3) := by decide +kernel
theorem dX4_spellChanges_53 : decode cX4_spellChanges 53 = .ok (.return_, 1) := by decide +kernel
set_option maxRecDepth 20000 in
theorem ggX5_init_X5_begins : GoodIn wsX5_init wsX5_begins := goodIn_r _ [32, 4, 33, 34, 35, 36, 6, 8, 9, 37, 38, 39, 40, 41, 42, 43, 44, 45, 46, 47, 48, 49, 50, 51, 52, 53, 54, 55, 56, 57, 58, 59, 60, 61, 62, 63, 64] (by decide +kernel) (by decide +kernel)
set_option maxRecDepth 20000 in
theorem gX5_init_X5_begins : GoodIn wsX5_init (wsV RX5 78 RX5 yX5_begins wsX5_begins) := goodIn_app (goodIn_of _ (by decide +kernel)) ggX5_init_X5_begins
theorem dX5_init_0 : decode cX5_init 0 = .ok (.aload_n 0, 1) := by decide +kernel
theorem dX5_init_1 : decode cX5_init 1 = .ok (.invokespecial 1, 3) := by decide +kernel
theorem dX5_init_4 : decode cX5_init 4 = .ok (.aload_n 0, 1) := by decide +kernel
theorem dX5_init_5 : decode cX5_init 5 = .ok (.iconst 2, 1) := by decide +kernel
theorem dX5_init_6 : decode cX5_init 6 = .ok (.putfield 7, 3) := by decide +kernel
theorem dX5_init_9 : decode cX5_init 9 = .ok (.aload_n 0, 1) := by decide +kernel
theorem dX5_init_10 : decode cX5_init 10 = .ok (.bipush 25, 2) := by decide +kernel
theorem dX5_init_12 : decode cX5_init 12 = .ok (.newarray .int, 2) := by decide +kernel
theorem dX5_init_14 : decode cX5_init 14 = .ok (.putfield 13, 3) := by decide +kernel
theorem dX5_init_17 : decode cX5_init 17 = .ok (.aload_n 0, 1) := by decide +kernel
theorem dX5_init_18 : decode cX5_init 18 = .ok (.iconst 5, 1) := by decide +kernel
theorem dX5_init_19 : decode cX5_init 19 = .ok (.newarray .boolean, 2) := by decide +kernel
theorem dX5_init_21 : decode cX5_init 21 = .ok (.putfield 17, 3) := by decide +kernel
theorem dX5_init_24 : decode cX5_init 24 = .ok (.aload_n 0, 1) := by decide +kernel
theorem dX5_init_25 : decode cX5_init 25 = .ok (.bipush 100, 2) := by decide +kernel
theorem dX5_init_27 : decode cX5_init 27 = .ok (.newarray .int, 2) := by decide +kernel
theorem dX5_init_29 : decode cX5_init 29 = .ok (.putfield 21, 3) := by decide +kernel
theorem dX5_init_32 : decode cX5_init 32 = .ok (.aload_n 0, 1) := by decide +kernel
theorem dX5_init_33 : decode cX5_init 33 = .ok (.sipush 200, 3) := by decide +kernel
theorem dX5_init_36 : decode cX5_init 36 = .ok (.newarray .int, 2) := by decide +kernel
theorem dX5_init_38 : decode cX5_init 38 = .ok (.putfield 24, 3) := by decide +kernel
theorem dX5_init_41 : decode cX5_init 41 = .ok (.aload_n 0, 1) := by decide +kernel
theorem dX5_init_42 : decode cX5_init 42 = .ok (.sipush 200, 3) := by decide +kernel
theorem dX5_init_45 : decode cX5_init 45 = .ok (.newarray .int, 2) := by decide +kernel
theorem dX5_init_47 : decode cX5_init 47 = .ok (.putfield 27, 3) := by decide +kernel
theorem dX5_init_50 : decode cX5_init 50 = .ok (.aload_n 0, 1) := by decide +kernel
theorem dX5_init_51 : decode cX5_init 51 = .ok (.sipush 200, 3) := by decide +kernel
theorem dX5_init_54 : decode cX5_init 54 = .ok (.newarray .int, 2) := by decide +kernel
theorem dX5_init_56 : decode cX5_init 56 = .ok (.putfield 30, 3) := by decide +kernel
theorem dX5_init_59 : decode cX5_init 59 = .ok (.aload_n 0, 1) := by decide +kernel
theorem dX5_init_60 : decode cX5_init 60 = .ok (.sipush 1000, 3) := by decide +kernel
theorem dX5_init_63 : decode cX5_init 63 = .ok (.newarray .int, 2) := by decide +kernel
theorem dX5_init_65 : decode cX5_init 65 = .ok (.putfield 33, 3) := by decide +kernel
theorem dX5_init_68 : decode cX5_init 68 = .ok (.aload_n 0, 1) := by decide +kernel
theorem dX5_init_69 : decode cX5_init 69 = .ok (.sipush 1000, 3) := by decide +kernel
theorem dX5_init_72 : decode cX5_init 72 = .ok (.newarray .int, 2) := by decide +kernel
theorem dX5_init_74 : decode cX5_init 74 = .ok (.putfield 36, 3) := by decide +kernel
theorem dX5_init_77 : decode cX5_init 77 = .ok (.aload_n 0, 1) := by decide +kernel
theorem dX5_init_78 : decode cX5_init 78 = .ok (.sipush 1000, 3) := by decide +kernel
theorem dX5_init_81 : decode cX5_init 81 = .ok (.newarray .boolean, 2) := by decide +kernel
theorem dX5_init_83 : decode cX5_init 83 = .ok (.putfield 39, 3) := by decide +kernel
theorem dX5_init_86 : decode cX5_init 86 = .ok (.aload_n 0, 1) := by decide +kernel
theorem dX5_init_87 : decode cX5_init 87 = .ok (.sipush 1000, 3) := by decide +kernel
theorem dX5_init_90 : decode cX5_init 90 = .ok (.newarray .boolean, 2) := by decide +kernel
theorem dX5_init_92 : decode cX5_init 92 = .ok (.putfield 42, 3) := by decide +kernel
theorem dX5_init_95 : decode cX5_init 95 = .ok (.aload_n 0, 1) := by decide +kernel
theorem dX5_init_96 : decode cX5_init 96 = .ok (.sipush 1000, 3) := by decide +kernel
theorem dX5_init_99 : decode cX5_init 99 = .ok (.newarray .boolean, 2) := by decide +kernel
theorem dX5_init_101 : decode cX5_init 101 = .ok (.putfield 45, 3) := by decide +kernel
theorem dX5_init_104 : decode cX5_init 104 = .ok (.aload_n 0, 1) := by decide +kernel
theorem dX5_init_105 : decode cX5_init 105 = .ok (.sipush 1000, 3) := by decide +kernel
theorem dX5_init_108 : decode cX5_init 108 = .ok (.newarray .boolean, 2) := by decide +kernel
theorem dX5_init_110 : decode cX5_init 110 = .ok (.putfield 48, 3) := by decide +kernel
theorem dX5_init_113 : decode cX5_init 113 = .ok (.aload_n 0, 1) := by decide +kernel
theorem dX5_init_114 : decode cX5_init 114 = .ok (.sipush 4000, 3) := by decide +kernel
theorem dX5_init_117 : decode cX5_init 117 = .ok (.newarray .boolean, 2) := by decide +kernel
theorem dX5_init_119 : decode cX5_init 119 = .ok (.putfield 51, 3) := by decide +kernel
theorem dX5_init_122 : decode cX5_init 122 = .ok (.aload_n 0, 1) := by decide +kernel
theorem dX5_init_123 : decode cX5_init 123 = .ok (.sipush 4000, 3) := by decide +kernel
theorem dX5_init_126 : decode cX5_init 126 = .ok (.newarray .int, 2) := by decide +kernel
theorem dX5_init_128 : decode cX5_init 128 = .ok (.putfield 54, 3) := by decide +kernel
theorem dX5_init_131 : decode cX5_init 131 = .ok (.aload_n 0, 1) := by decide +kernel
theorem dX5_init_132 : decode cX5_init 132 = .ok (.sipush 4000, 3) := by decide +kernel
theorem dX5_init_135 : decode cX5_init 135 = .ok (.newarray .int, 2) := by decide +kernel
theorem dX5_init_137 : decode cX5_init 137 = .ok (.putfield 57, 3) := by decide +kernel
theorem dX5_init_140 : decode cX5_init 140 = .ok (.aload_n 0, 1) := by decide +kernel
theorem dX5_init_141 : decode cX5_init 141 = .ok (.sipush 4000, 3) := by decide +kernel
theorem dX5_init_144 : decode cX5_init 144 = .ok (.newarray .int, 2) := by decide +kernel
theorem dX5_init_146 : decode cX5_init 146 = .ok (.putfield 60, 3) := by decide +kernel
theorem dX5_init_149 : decode cX5_init 149 = .ok (.aload_n 0, 1) := by decide +kernel
theorem dX5_init_150 : decode cX5_init 150 = .ok (.sipush 200, 3) := by decide +kernel
theorem dX5_init_153 : decode cX5_init 153 = .ok (.newarray .int, 2) := by decide +kernel
theorem dX5_init_155 : decode cX5_init 155 = .ok (.putfield 63, 3) := by decide +kernel
theorem dX5_init_158 : decode cX5_init 158 = .ok (.aload_n 0, 1) := by decide +kernel
theorem dX5_init_159 : decode cX5_init 159 = .ok (.sipush 200, 3) := by decide +kernel
theorem dX5_init_162 : decode cX5_init 162 = .ok (.newarray .boolean, 2) := by decide +kernel
theorem dX5_init_164 : decode cX5_init 164 = .ok (.putfield 66, 3) := by decide +kernel
theorem dX5_init_167 : decode cX5_init 167 = .ok (.aload_n 0, 1) := by decide +kernel
theorem dX5_init_168 : decode cX5_init 168 = .ok (.sipush 200, 3) := by decide +kernel
theorem dX5_init_171 : decode cX5_init 171 = .ok (.newarray .boolean, 2) := by decide +kernel
theorem dX5_init_173 : decode cX5_init 173 = .ok (.putfield 69, 3) := by decide +kernel
theorem dX5_init_176 : decode cX5_init 176 = .ok (.aload_n 0, 1) := by decide +kernel
theorem dX5_init_177 : decode cX5_init 177 = .ok (.sipush 1200, 3) := by decide +kernel
theorem dX5_init_180 : decode cX5_init 180 = .ok (.newarray .int, 2) := by decide +kernel
theorem dX5_init_182 : decode cX5_init 182 = .ok (.putfield 72, 3) := by decide +kernel
theorem dX5_init_185 : decode cX5_init 185 = .ok (.aload_n 0, 1) := by decide +kernel
theorem dX5_init_186 : decode cX5_init 186 = .ok (.sipush 300, 3) := by decide +kernel
theorem dX5_init_189 : decode cX5_init 189 = .ok (.newarray .int, 2) := by decide +kernel
theorem dX5_init_191 : decode cX5_init 191 = .ok (.putfield 75, 3) := by decide +kernel
theorem dX5_init_194 : decode cX5_init 194 = .ok (.aload_n 0, 1) := by decide +kernel
theorem dX5_init_195 : decode cX5_init 195 = .ok (.iconst 2, 1) := by decide +kernel
theorem dX5_init_196 : decode cX5_init 196 = .ok (.invokevirtual 78, 3) := by decide +kernel
theorem dX5_init_199 : decode cX5_init 199 = .ok (.return_, 1) := by decide +kernel
theorem dX5_thrown_0 : decode cX5_thrown 0 = .ok (.aload_n 0, 1) := by decide +kernel
theorem dX5_thrown_1 : decode cX5_thrown 1 = .ok (.getfield 82, 3) := by decide +kernel
theorem dX5_thrown_4 : decode cX5_thrown 4 = .ok (.ireturn, 1) := by decide +kernel
theorem dX5_fails_0 : decode cX5_fails 0 = .ok (.aload_n 0, 1) := by decide +kernel
theorem dX5_fails_1 : decode cX5_fails 1 = .ok (.iload_n 1, 1) := by decide +kernel
theorem dX5_fails_2 : decode cX5_fails 2 = .ok (.ifCond .eq 7, 3) := by decide +kernel
theorem dX5_fails_5 : decode cX5_fails 5 = .ok (.iload_n 2, 1) := by decide +kernel
theorem dX5_fails_6 : decode cX5_fails 6 = .ok (.goto 4, 3) := by decide +kernel
theorem dX5_fails_9 : decode cX5_fails 9 = .ok (.iconst 0, 1) := by decide +kernel
theorem dX5_fails_10 : decode cX5_fails 10 = .ok (.putfield 82, 3) := by decide +kernel
theorem dX5_fails_13 : decode cX5_fails 13 = .ok (.iload_n 1, 1) := by decide +kernel
theorem dX5_fails_14 : decode cX5_fails 14 = .ok (.ireturn, 1) := by decide +kernel
theorem dX5_begins_0 : decode cX5_begins 0 = .ok (.aload_n 0, 1) := by decide +kernel
theorem dX5_begins_1 : decode cX5_begins 1 = .ok (.iload_n 1, 1) := by decide +kernel
theorem dX5_begins_2 : decode cX5_begins 2 = .ok (.putfield 7, 3) := by decide +kernel
theorem dX5_begins_5 : decode cX5_begins 5 = .ok (.aload_n 0, 1) := by decide +kernel
theorem dX5_begins_6 : decode cX5_begins 6 = .ok (.iconst 0, 1) := by decide +kernel
theorem dX5_begins_7 : decode cX5_begins 7 = .ok (.putfield 85, 3) := by decide +kernel
theorem dX5_begins_10 : decode cX5_begins 10 = .ok (.aload_n 0, 1) := by decide +kernel
theorem dX5_begins_11 : decode cX5_begins 11 = .ok (.iconst 0, 1) := by decide +kernel
theorem dX5_begins_12 : decode cX5_begins 12 = .ok (.putfield 88, 3) := by decide +kernel
theorem dX5_begins_15 : decode cX5_begins 15 = .ok (.aload_n 0, 1) := by decide +kernel
theorem dX5_begins_16 : decode cX5_begins 16 = .ok (.iconst 0, 1) := by decide +kernel
theorem dX5_begins_17 : decode cX5_begins 17 = .ok (.putfield 91, 3) := by decide +kernel
theorem dX5_begins_20 : decode cX5_begins 20 = .ok (.aload_n 0, 1) := by decide +kernel
theorem dX5_begins_21 : decode cX5_begins 21 = .ok (.iconst 0, 1) := by decide +kernel
theorem dX5_begins_22 : decode cX5_begins 22 = .ok (.putfield 94, 3) := by decide +kernel
theorem dX5_begins_25 : decode cX5_begins 25 = .ok (.iconst 0, 1) := by decide +kernel
theorem dX5_begins_26 : decode cX5_begins 26 = .ok (.istore_n 2, 1) := by decide +kernel
theorem dX5_begins_27 : decode cX5_begins 27 = .ok (.iload_n 2, 1) := by decide +kernel
theorem dX5_begins_28 : decode cX5_begins 28 = .ok (.bipush 25, 2) := by decide +kernel
theorem dX5_begins_30 : decode cX5_begins 30 = .ok (.if_icmp .ge 16, 3) := by decide +kernel
theorem dX5_begins_33 : decode cX5_begins 33 = .ok (.aload_n 0, 1) := by decide +kernel
theorem dX5_begins_34 : decode cX5_begins 34 = .ok (.getfield 13, 3) := by decide +kernel
theorem dX5_begins_37 : decode cX5_begins 37 = .ok (.iload_n 2, 1) := by decide +kernel
