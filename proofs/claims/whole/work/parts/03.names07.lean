theorem dJ8_newLength_cabcc_2 : decode cJ8_newLength_cabcc 2 = .ok (.iload_n 2, 1) := by decide +kernel
theorem dJ8_newLength_cabcc_3 : decode cJ8_newLength_cabcc 3 = .ok (.invokestatic 194, 3) := by decide +kernel
theorem dJ8_newLength_cabcc_6 : decode cJ8_newLength_cabcc 6 = .ok (.iadd, 1) := by decide +kernel
theorem dJ8_newLength_cabcc_7 : decode cJ8_newLength_cabcc 7 = .ok (.istore_n 3, 1) := by decide +kernel
theorem dJ8_newLength_cabcc_8 : decode cJ8_newLength_cabcc 8 = .ok (.iconst 0, 1) := by decide +kernel
theorem dJ8_newLength_cabcc_9 : decode cJ8_newLength_cabcc 9 = .ok (.iload_n 3, 1) := by decide +kernel
theorem dJ8_newLength_cabcc_10 : decode cJ8_newLength_cabcc 10 = .ok (.if_icmp .ge 11, 3) := by decide +kernel
theorem dJ8_newLength_cabcc_13 : decode cJ8_newLength_cabcc 13 = .ok (.iload_n 3, 1) := by decide +kernel
theorem dJ8_newLength_cabcc_14 : decode cJ8_newLength_cabcc 14 = .ok (.ldc 200, 2) := by decide +kernel
theorem dJ8_newLength_cabcc_16 : decode cJ8_newLength_cabcc 16 = .ok (.if_icmp .gt 5, 3) := by decide +kernel
theorem dJ8_newLength_cabcc_19 : decode cJ8_newLength_cabcc 19 = .ok (.iload_n 3, 1) := by decide +kernel
theorem dJ8_newLength_cabcc_20 : decode cJ8_newLength_cabcc 20 = .ok (.ireturn, 1) := by decide +kernel
theorem dJ8_newLength_cabcc_21 : decode cJ8_newLength_cabcc 21 = .ok (.iload_n 0, 1) := by decide +kernel
theorem dJ8_newLength_cabcc_22 : decode cJ8_newLength_cabcc 22 = .ok (.iload_n 1, 1) := by decide +kernel
theorem dJ8_newLength_cabcc_23 : decode cJ8_newLength_cabcc 23 = .ok (.invokestatic 201, 3) := by decide +kernel
theorem dJ8_newLength_cabcc_26 : decode cJ8_newLength_cabcc 26 = .ok (.ireturn, 1) := by decide +kernel
theorem dJ8_hugeLength_7cf53_0 : decode cJ8_hugeLength_7cf53 0 = .ok (.iload_n 0, 1) := by decide +kernel
theorem dJ8_hugeLength_7cf53_1 : decode cJ8_hugeLength_7cf53 1 = .ok (.iload_n 1, 1) := by decide +kernel
theorem dJ8_hugeLength_7cf53_2 : decode cJ8_hugeLength_7cf53 2 = .ok (.iadd, 1) := by decide +kernel
theorem dJ8_hugeLength_7cf53_3 : decode cJ8_hugeLength_7cf53 3 = .ok (.istore_n 2, 1) := by decide +kernel
theorem dJ8_hugeLength_7cf53_4 : decode cJ8_hugeLength_7cf53 4 = .ok (.iload_n 2, 1) := by decide +kernel
theorem dJ8_hugeLength_7cf53_5 : decode cJ8_hugeLength_7cf53 5 = .ok (.ifCond .ge 44, 3) := by decide +kernel
theorem dJ8_hugeLength_7cf53_8 : decode cJ8_hugeLength_7cf53 8 = .ok (.new 204, 3) := by decide +kernel
theorem dJ8_hugeLength_7cf53_11 : decode cJ8_hugeLength_7cf53 11 = .ok (.dup, 1) := by decide +kernel
theorem dJ8_hugeLength_7cf53_12 : decode cJ8_hugeLength_7cf53 12 = .ok (.new 89, 3) := by decide +kernel
theorem dJ8_hugeLength_7cf53_15 : decode cJ8_hugeLength_7cf53 15 = .ok (.dup, 1) := by decide +kernel
theorem dJ8_hugeLength_7cf53_16 : decode cJ8_hugeLength_7cf53 16 = .ok (.invokespecial 91, 3) := by decide +kernel
theorem dJ8_hugeLength_7cf53_19 : decode cJ8_hugeLength_7cf53 19 = .ok (.ldc 206, 2) := by decide +kernel
theorem dJ8_hugeLength_7cf53_21 : decode cJ8_hugeLength_7cf53 21 = .ok (.invokevirtual 94, 3) := by decide +kernel
theorem dJ8_hugeLength_7cf53_24 : decode cJ8_hugeLength_7cf53 24 = .ok (.iload_n 0, 1) := by decide +kernel
theorem dJ8_hugeLength_7cf53_25 : decode cJ8_hugeLength_7cf53 25 = .ok (.invokevirtual 98, 3) := by decide +kernel
theorem dJ8_hugeLength_7cf53_28 : decode cJ8_hugeLength_7cf53 28 = .ok (.ldc 208, 2) := by decide +kernel
theorem dJ8_hugeLength_7cf53_30 : decode cJ8_hugeLength_7cf53 30 = .ok (.invokevirtual 94, 3) := by decide +kernel
theorem dJ8_hugeLength_7cf53_33 : decode cJ8_hugeLength_7cf53 33 = .ok (.iload_n 1, 1) := by decide +kernel
theorem dJ8_hugeLength_7cf53_34 : decode cJ8_hugeLength_7cf53 34 = .ok (.invokevirtual 98, 3) := by decide +kernel
theorem dJ8_hugeLength_7cf53_37 : decode cJ8_hugeLength_7cf53 37 = .ok (.ldc 210, 2) := by decide +kernel
theorem dJ8_hugeLength_7cf53_39 : decode cJ8_hugeLength_7cf53 39 = .ok (.invokevirtual 94, 3) := by decide +kernel
theorem dJ8_hugeLength_7cf53_42 : decode cJ8_hugeLength_7cf53 42 = .ok (.invokevirtual 101, 3) := by decide +kernel
theorem dJ8_hugeLength_7cf53_45 : decode cJ8_hugeLength_7cf53 45 = .ok (.invokespecial 212, 3) := by decide +kernel
theorem dJ8_hugeLength_7cf53_48 : decode cJ8_hugeLength_7cf53 48 = .ok (.athrow, 1) := by decide +kernel
theorem dJ8_hugeLength_7cf53_49 : decode cJ8_hugeLength_7cf53 49 = .ok (.iload_n 2, 1) := by decide +kernel
theorem dJ8_hugeLength_7cf53_50 : decode cJ8_hugeLength_7cf53 50 = .ok (.ldc 200, 2) := by decide +kernel
theorem dJ8_hugeLength_7cf53_52 : decode cJ8_hugeLength_7cf53 52 = .ok (.if_icmp .gt 6, 3) := by decide +kernel
theorem dJ8_hugeLength_7cf53_55 : decode cJ8_hugeLength_7cf53 55 = .ok (.ldc 200, 2) := by decide +kernel
theorem dJ8_hugeLength_7cf53_57 : decode cJ8_hugeLength_7cf53 57 = .ok (.ireturn, 1) := by decide +kernel
theorem dJ8_hugeLength_7cf53_58 : decode cJ8_hugeLength_7cf53 58 = .ok (.iload_n 2, 1) := by decide +kernel
theorem dJ8_hugeLength_7cf53_59 : decode cJ8_hugeLength_7cf53 59 = .ok (.ireturn, 1) := by decide +kernel
theorem dJ3_checkIndex_8e157_0 : decode cJ3_checkIndex_8e157 0 = .ok (.iload_n 0, 1) := by decide +kernel
theorem dJ3_checkIndex_8e157_1 : decode cJ3_checkIndex_8e157 1 = .ok (.ifCond .lt 8, 3) := by decide +kernel
theorem dJ3_checkIndex_8e157_4 : decode cJ3_checkIndex_8e157 4 = .ok (.iload_n 0, 1) := by decide +kernel
theorem dJ3_checkIndex_8e157_5 : decode cJ3_checkIndex_8e157 5 = .ok (.iload_n 1, 1) := by decide +kernel
theorem dJ3_checkIndex_8e157_6 : decode cJ3_checkIndex_8e157 6 = .ok (.if_icmp .lt 10, 3) := by decide +kernel
theorem dJ3_checkIndex_8e157_9 : decode cJ3_checkIndex_8e157 9 = .ok (.aload_n 2, 1) := by decide +kernel
theorem dJ3_checkIndex_8e157_10 : decode cJ3_checkIndex_8e157 10 = .ok (.iload_n 0, 1) := by decide +kernel
theorem dJ3_checkIndex_8e157_11 : decode cJ3_checkIndex_8e157 11 = .ok (.iload_n 1, 1) := by decide +kernel
theorem dJ3_checkIndex_8e157_12 : decode cJ3_checkIndex_8e157 12 = .ok (.invokestatic 95, 3) := by decide +kernel
theorem dJ3_checkIndex_8e157_15 : decode cJ3_checkIndex_8e157 15 = .ok (.athrow, 1) := by decide +kernel
theorem dJ3_checkIndex_8e157_16 : decode cJ3_checkIndex_8e157 16 = .ok (.iload_n 0, 1) := by decide +kernel
theorem dJ3_checkIndex_8e157_17 : decode cJ3_checkIndex_8e157 17 = .ok (.ireturn, 1) := by decide +kernel
set_option maxRecDepth 20000 in
theorem ggL_open_X4_open : GoodIn wsL_open wsX4_open := goodIn_ca (goodIn_r _ [6, 7, 8, 5, 9, 10, 11, 12, 13, 14, 15, 16, 17, 18, 19, 20, 21, 22, 23, 24, 25, 26, 27, 28, 29, 30, 31, 32, 33, 34, 35, 36, 37, 38, 39, 40, 41, 42, 43, 44, 45, 46, 47, 48, 49, 50, 51, 52, 53] (by decide +kernel) (by decide +kernel)) (goodIn_sub (fun _ h => List.mem_cons_of_mem _ (List.mem_append_right _ h)) (by decide +kernel))
set_option maxRecDepth 20000 in
theorem gL_open_X4_open : GoodIn wsL_open (wsV RL 7 RX4 yX4_open wsX4_open) := goodIn_app (goodIn_of _ (by decide +kernel)) ggL_open_X4_open
theorem dL_open_0 : decode cL_open 0 = .ok (.aload_n 0, 1) := by decide +kernel
theorem dL_open_1 : decode cL_open 1 = .ok (.iload_n 1, 1) := by decide +kernel
theorem dL_open_2 : decode cL_open 2 = .ok (.invokevirtual 7, 3) := by decide +kernel
theorem dL_open_5 : decode cL_open 5 = .ok (.goto 6, 3) := by decide +kernel
theorem dL_open_8 : decode cL_open 8 = .ok (.astore_n 2, 1) := by decide +kernel
theorem dL_open_9 : decode cL_open 9 = .ok (.iconst 1, 1) := by decide +kernel
theorem dL_open_10 : decode cL_open 10 = .ok (.ireturn, 1) := by decide +kernel
theorem dL_open_11 : decode cL_open 11 = .ok (.iconst 0, 1) := by decide +kernel
theorem dL_open_12 : decode cL_open 12 = .ok (.ireturn, 1) := by decide +kernel
set_option maxRecDepth 20000 in
theorem ggL_begin_X4_begin : GoodIn wsL_begin wsX4_begin := goodIn_ca (goodIn_ca (goodIn_r _ [7, 8, 9, 10, 11, 12, 13, 14, 15, 16, 17, 18, 19, 6, 20, 21, 22, 23, 24, 25, 26, 27, 28, 29, 30, 31, 32, 33, 34, 35, 36, 37, 38, 39, 40, 41, 42, 43, 44, 45, 46, 47, 48, 49, 50, 51, 52, 53, 54, 55, 56, 57, 58, 59, 60, 61, 62, 63, 64, 65, 66, 67, 68, 69, 70, 71, 72, 73, 74, 75, 76, 77, 78, 79, 80, 81, 82, 83, 84, 85, 86, 87, 88, 89, 90, 91, 92, 93, 94, 95, 96, 97, 98, 99, 100, 101, 102, 103, 104, 105, 106, 107, 108, 109, 110, 111, 112, 113, 114, 115, 116, 117, 118, 119, 120, 121, 122, 123, 124, 125, 126, 127, 128, 129, 130, 131, 132, 133, 134, 135, 136, 137, 138, 139, 140, 141, 142, 143, 144, 145, 146, 147, 148, 149, 150, 151, 152, 153, 154, 155, 156, 157, 158, 159, 160, 161, 162, 163, 164] (by decide +kernel) (by decide +kernel)) (goodIn_sub (fun _ h => List.mem_cons_of_mem _ (List.mem_append_left _ (List.mem_append_right _ h))) (by decide +kernel))) (goodIn_sub (fun _ h => List.mem_cons_of_mem _ (List.mem_append_right _ h)) (by decide +kernel))
set_option maxRecDepth 20000 in
theorem gL_begin_X4_begin : GoodIn wsL_begin (wsV RL 15 RX4 yX4_begin wsX4_begin) := goodIn_app (goodIn_of _ (by decide +kernel)) ggL_begin_X4_begin
theorem dL_begin_0 : decode cL_begin 0 = .ok (.aload_n 2, 1) := by decide +kernel
theorem dL_begin_1 : decode cL_begin 1 = .ok (.iconst 0, 1) := by decide +kernel
theorem dL_begin_2 : decode cL_begin 2 = .ok (.aload_n 0, 1) := by decide +kernel
theorem dL_begin_3 : decode cL_begin 3 = .ok (.iload_n 1, 1) := by decide +kernel
theorem dL_begin_4 : decode cL_begin 4 = .ok (.invokevirtual 15, 3) := by decide +kernel
theorem dL_begin_7 : decode cL_begin 7 = .ok (.i2l, 1) := by decide +kernel
theorem dL_begin_8 : decode cL_begin 8 = .ok (.lastore, 1) := by decide +kernel
theorem dL_begin_9 : decode cL_begin 9 = .ok (.goto 9, 3) := by decide +kernel
theorem dL_begin_12 : decode cL_begin 12 = .ok (.astore_n 3, 1) := by decide +kernel
theorem dL_begin_13 : decode cL_begin 13 = .ok (.iconst 1, 1) := by decide +kernel
theorem dL_begin_14 : decode cL_begin 14 = .ok (.ireturn, 1) := by decide +kernel
theorem dL_begin_15 : decode cL_begin 15 = .ok (.astore_n 3, 1) := by decide +kernel
theorem dL_begin_16 : decode cL_begin 16 = .ok (.iconst 2, 1) := by decide +kernel
theorem dL_begin_17 : decode cL_begin 17 = .ok (.ireturn, 1) := by decide +kernel
theorem dL_begin_18 : decode cL_begin 18 = .ok (.iconst 0, 1) := by decide +kernel
theorem dL_begin_19 : decode cL_begin 19 = .ok (.ireturn, 1) := by decide +kernel
set_option maxRecDepth 20000 in
theorem ggL_read_X4_read : GoodIn wsL_read wsX4_read := goodIn_ca (goodIn_ca (goodIn_r _ [7, 8, 9, 10, 11, 12, 13, 14, 15, 16, 6, 17, 18, 19, 20, 21, 22, 23, 24, 25, 26, 27, 28, 29, 30, 31, 32, 33, 34, 35, 36, 37, 38, 39, 40, 41, 42, 43, 44, 45, 46, 47, 48, 49, 50, 51, 52, 53, 54, 55, 56, 57, 58, 59, 60, 61, 62, 63, 64, 65, 66, 67, 68, 69, 70, 71, 72, 73, 74, 75, 76, 77, 78, 79, 80, 81, 82, 83, 84, 85, 86, 87, 88, 89, 90, 91, 92, 93, 94, 95, 96, 97, 98, 99, 100, 101, 102, 103, 104, 105, 106, 107, 108] (by decide +kernel) (by decide +kernel)) (goodIn_sub (fun _ h => List.mem_cons_of_mem _ (List.mem_append_left _ (List.mem_append_right _ h))) (by decide +kernel))) (goodIn_sub (fun _ h => List.mem_cons_of_mem _ (List.mem_append_right _ h)) (by decide +kernel))
set_option maxRecDepth 20000 in
theorem gL_read_X4_read : GoodIn wsL_read (wsV RL 21 RX4 yX4_read wsX4_read) := goodIn_app (goodIn_of _ (by decide +kernel)) ggL_read_X4_read
theorem dL_read_0 : decode cL_read 0 = .ok (.aload_n 3, 1) := by decide +kernel
theorem dL_read_1 : decode cL_read 1 = .ok (.iconst 0, 1) := by decide +kernel
theorem dL_read_2 : decode cL_read 2 = .ok (.aload_n 0, 1) := by decide +kernel
theorem dL_read_3 : decode cL_read 3 = .ok (.iload_n 1, 1) := by decide +kernel
theorem dL_read_4 : decode cL_read 4 = .ok (.iload_n 2, 1) := by decide +kernel
theorem dL_read_5 : decode cL_read 5 = .ok (.invokevirtual 21, 3) := by decide +kernel
theorem dL_read_8 : decode cL_read 8 = .ok (.i2l, 1) := by decide +kernel
theorem dL_read_9 : decode cL_read 9 = .ok (.lastore, 1) := by decide +kernel
theorem dL_read_10 : decode cL_read 10 = .ok (.goto 11, 3) := by decide +kernel
theorem dL_read_13 : decode cL_read 13 = .ok (.astore 4, 2) := by decide +kernel
theorem dL_read_15 : decode cL_read 15 = .ok (.iconst 1, 1) := by decide +kernel
theorem dL_read_16 : decode cL_read 16 = .ok (.ireturn, 1) := by decide +kernel
theorem dL_read_17 : decode cL_read 17 = .ok (.astore 4, 2) := by decide +kernel
theorem dL_read_19 : decode cL_read 19 = .ok (.iconst 2, 1) := by decide +kernel
theorem dL_read_20 : decode cL_read 20 = .ok (.ireturn, 1) := by decide +kernel
theorem dL_read_21 : decode cL_read 21 = .ok (.iconst 0, 1) := by decide +kernel
theorem dL_read_22 : decode cL_read 22 = .ok (.ireturn, 1) := by decide +kernel
set_option maxRecDepth 20000 in
theorem ggL_write_X4_write : GoodIn wsL_write wsX4_write := goodIn_ca (goodIn_ca (goodIn_r _ [7, 8, 9, 10, 11, 12, 13, 14, 6, 15, 16, 17, 18, 19, 20, 21, 22, 23, 24, 25, 26, 27, 28, 29, 30, 31, 32, 33, 34, 35, 36, 37, 38, 39, 40, 41, 42, 43, 44, 45, 46, 47, 48, 49, 50, 51, 52, 53, 54, 55, 56, 57, 58, 59, 60, 61, 62, 63, 64, 65, 66, 67, 68, 69, 70, 71, 72, 73, 74, 75, 76, 77, 78, 79, 80, 81, 82, 83, 84, 85, 86, 87, 88, 89, 90, 91, 92, 93, 94, 95, 96, 97, 98, 99, 100] (by decide +kernel) (by decide +kernel)) (goodIn_sub (fun _ h => List.mem_cons_of_mem _ (List.mem_append_left _ (List.mem_append_right _ h))) (by decide +kernel))) (goodIn_sub (fun _ h => List.mem_cons_of_mem _ (List.mem_append_right _ h)) (by decide +kernel))
set_option maxRecDepth 20000 in
theorem gL_write_X4_write : GoodIn wsL_write (wsV RL 25 RX4 yX4_write wsX4_write) := goodIn_app (goodIn_of _ (by decide +kernel)) ggL_write_X4_write
theorem dL_write_0 : decode cL_write 0 = .ok (.aload 4, 2) := by decide +kernel
theorem dL_write_2 : decode cL_write 2 = .ok (.iconst 0, 1) := by decide +kernel
theorem dL_write_3 : decode cL_write 3 = .ok (.aload_n 0, 1) := by decide +kernel
theorem dL_write_4 : decode cL_write 4 = .ok (.iload_n 1, 1) := by decide +kernel
theorem dL_write_5 : decode cL_write 5 = .ok (.iload_n 2, 1) := by decide +kernel
theorem dL_write_6 : decode cL_write 6 = .ok (.iload_n 3, 1) := by decide +kernel
theorem dL_write_7 : decode cL_write 7 = .ok (.invokevirtual 25, 3) := by decide +kernel
theorem dL_write_10 : decode cL_write 10 = .ok (.i2l, 1) := by decide +kernel
theorem dL_write_11 : decode cL_write 11 = .ok (.lastore, 1) := by decide +kernel
theorem dL_write_12 : decode cL_write 12 = .ok (.goto 11, 3) := by decide +kernel
theorem dL_write_15 : decode cL_write 15 = .ok (.astore 5, 2) := by decide +kernel
theorem dL_write_17 : decode cL_write 17 = .ok (.iconst 1, 1) := by decide +kernel
theorem dL_write_18 : decode cL_write 18 = .ok (.ireturn, 1) := by decide +kernel
theorem dL_write_19 : decode cL_write 19 = .ok (.astore 5, 2) := by decide +kernel
theorem dL_write_21 : decode cL_write 21 = .ok (.iconst 2, 1) := by decide +kernel
theorem dL_write_22 : decode cL_write 22 = .ok (.ireturn, 1) := by decide +kernel
theorem dL_write_23 : decode cL_write 23 = .ok (.iconst 0, 1) := by decide +kernel
theorem dL_write_24 : decode cL_write 24 = .ok (.ireturn, 1) := by decide +kernel
set_option maxRecDepth 20000 in
theorem ggL_change_X4_change : GoodIn wsL_change wsX4_change := goodIn_ca (goodIn_ca (goodIn_r _ [7, 8, 9, 10, 11, 12, 13, 14, 15, 6, 16, 17, 18, 19, 20, 21, 22, 23, 24, 25, 26, 27, 28, 29, 30, 31, 32, 33, 34, 35, 36, 37, 38, 39, 40, 41, 42, 43, 44, 45, 46, 47, 48, 49, 50, 51, 52, 53, 54, 55, 56, 57, 58, 59, 60, 61, 62, 63, 64, 65, 66, 67, 68, 69, 70, 71, 72, 73, 74, 75, 76, 77, 78, 79, 80, 81, 82] (by decide +kernel) (by decide +kernel)) (goodIn_sub (fun _ h => List.mem_cons_of_mem _ (List.mem_append_left _ (List.mem_append_right _ h))) (by decide +kernel))) (goodIn_sub (fun _ h => List.mem_cons_of_mem _ (List.mem_append_right _ h)) (by decide +kernel))
set_option maxRecDepth 20000 in
theorem gL_change_X4_change : GoodIn wsL_change (wsV RL 29 RX4 yX4_change wsX4_change) := goodIn_app (goodIn_of _ (by decide +kernel)) ggL_change_X4_change
theorem dL_change_0 : decode cL_change 0 = .ok (.aload 5, 2) := by decide +kernel
theorem dL_change_2 : decode cL_change 2 = .ok (.iconst 0, 1) := by decide +kernel
theorem dL_change_3 : decode cL_change 3 = .ok (.aload_n 0, 1) := by decide +kernel
theorem dL_change_4 : decode cL_change 4 = .ok (.iload_n 1, 1) := by decide +kernel
theorem dL_change_5 : decode cL_change 5 = .ok (.iload_n 2, 1) := by decide +kernel
theorem dL_change_6 : decode cL_change 6 = .ok (.iload_n 3, 1) := by decide +kernel
theorem dL_change_7 : decode cL_change 7 = .ok (.iload 4, 2) := by decide +kernel
theorem dL_change_9 : decode cL_change 9 = .ok (.invokevirtual 29, 3) := by decide +kernel
theorem dL_change_12 : decode cL_change 12 = .ok (.i2l, 1) := by decide +kernel
theorem dL_change_13 : decode cL_change 13 = .ok (.lastore, 1) := by decide +kernel
theorem dL_change_14 : decode cL_change 14 = .ok (.goto 11, 3) := by decide +kernel
theorem dL_change_17 : decode cL_change 17 = .ok (.astore 6, 2) := by decide +kernel
theorem dL_change_19 : decode cL_change 19 = .ok (.iconst 1, 1) := by decide +kernel
theorem dL_change_20 : decode cL_change 20 = .ok (.ireturn, 1) := by decide +kernel
theorem dL_change_21 : decode cL_change 21 = .ok (.astore 6, 2) := by decide +kernel
theorem dL_change_23 : decode cL_change 23 = .ok (.iconst 2, 1) := by decide +kernel
theorem dL_change_24 : decode cL_change 24 = .ok (.ireturn, 1) := by decide +kernel
theorem dL_change_25 : decode cL_change 25 = .ok (.iconst 0, 1) := by decide +kernel
theorem dL_change_26 : decode cL_change 26 = .ok (.ireturn, 1) := by decide +kernel
set_option maxRecDepth 20000 in
theorem ggL_count_X4_count : GoodIn wsL_count wsX4_count := goodIn_ca (goodIn_ca (goodIn_r _ [7, 8, 9, 10, 11, 12, 6, 13, 14, 15, 16, 17, 18, 19, 20, 21, 22, 23, 24, 25, 26, 27, 28, 29, 30, 31, 32, 33, 34, 35, 36, 37, 38, 39, 40, 41, 42, 43, 44, 45, 46, 47, 48, 49, 50, 51, 52, 53, 54, 55, 56, 57, 58, 59, 60, 61, 62, 63, 64, 65, 66, 67, 68, 69, 70, 71, 72, 73, 74, 75, 76, 77, 78, 79, 80, 81, 82, 83, 84, 85, 86, 87, 88, 89, 90, 91, 92, 93, 94, 95, 96, 97, 98, 99, 100, 101, 102, 103, 104, 105, 106, 107] (by decide +kernel) (by decide +kernel)) (goodIn_sub (fun _ h => List.mem_cons_of_mem _ (List.mem_append_left _ (List.mem_append_right _ h))) (by decide +kernel))) (goodIn_sub (fun _ h => List.mem_cons_of_mem _ (List.mem_append_right _ h)) (by decide +kernel))
set_option maxRecDepth 20000 in
theorem gL_count_X4_count : GoodIn wsL_count (wsV RL 33 RX4 yX4_count wsX4_count) := goodIn_app (goodIn_of _ (by decide +kernel)) ggL_count_X4_count
theorem dL_count_0 : decode cL_count 0 = .ok (.aload 4, 2) := by decide +kernel
theorem dL_count_2 : decode cL_count 2 = .ok (.iconst 0, 1) := by decide +kernel
theorem dL_count_3 : decode cL_count 3 = .ok (.aload_n 0, 1) := by decide +kernel
theorem dL_count_4 : decode cL_count 4 = .ok (.iload_n 1, 1) := by decide +kernel
theorem dL_count_5 : decode cL_count 5 = .ok (.iload_n 2, 1) := by decide +kernel
theorem dL_count_6 : decode cL_count 6 = .ok (.iload_n 3, 1) := by decide +kernel
theorem dL_count_7 : decode cL_count 7 = .ok (.invokevirtual 33, 3) := by decide +kernel
theorem dL_count_10 : decode cL_count 10 = .ok (.i2l, 1) := by decide +kernel
theorem dL_count_11 : decode cL_count 11 = .ok (.lastore, 1) := by decide +kernel
theorem dL_count_12 : decode cL_count 12 = .ok (.goto 11, 3) := by decide +kernel
theorem dL_count_15 : decode cL_count 15 = .ok (.astore 5, 2) := by decide +kernel
theorem dL_count_17 : decode cL_count 17 = .ok (.iconst 1, 1) := by decide +kernel
theorem dL_count_18 : decode cL_count 18 = .ok (.ireturn, 1) := by decide +kernel
theorem dL_count_19 : decode cL_count 19 = .ok (.astore 5, 2) := by decide +kernel
theorem dL_count_21 : decode cL_count 21 = .ok (.iconst 2, 1) := by decide +kernel
theorem dL_count_22 : decode cL_count 22 = .ok (.ireturn, 1) := by decide +kernel
theorem dL_count_23 : decode cL_count 23 = .ok (.iconst 0, 1) := by decide +kernel
theorem dL_count_24 : decode cL_count 24 = .ok (.ireturn, 1) := by decide +kernel
set_option maxRecDepth 20000 in
theorem ggL_commit_X4_commit : GoodIn wsL_commit wsX4_commit := goodIn_ca (goodIn_ca (goodIn_r _ [7, 8, 9, 10, 11, 12, 13, 14, 6, 15, 16, 17, 18, 19, 20, 21, 22, 23, 24, 25, 26, 27, 28, 29, 30, 31, 32, 33, 34, 35, 36, 37, 38, 39, 40, 41, 42, 43, 44, 45, 46, 47, 48, 49, 50, 51, 52, 53, 54, 55, 56, 57, 58, 59, 60, 61, 62, 63, 64, 65, 66, 67, 68, 69, 70, 71, 72, 73, 74, 75, 76, 77, 78, 79, 80, 81, 82, 83, 84, 85, 86, 87, 88, 89, 90, 91, 92, 93, 94, 95, 96, 97, 98, 99, 100, 101, 102, 103, 104, 105, 106, 107, 108, 109, 110, 111, 112, 113, 114, 115, 116, 117, 118, 119, 120, 121, 122, 123, 124, 125, 126, 127, 128, 129, 130, 131, 132, 133, 134, 135, 136, 137, 138, 139, 140, 141, 142, 143, 144, 145, 146, 147, 148, 149, 150, 151, 152, 153, 154, 155, 156, 157, 158, 159, 160, 161, 162, 163, 164, 165, 166, 167, 168, 169, 170, 171, 172, 173, 174, 175, 176, 177, 178, 179, 180, 181, 182, 183, 184, 185, 186, 187, 188, 189, 190, 191, 192, 193, 194, 195, 196, 197, 198, 199, 200, 201, 202, 203, 204, 205, 206, 207, 208, 209, 210, 211, 212, 213, 214, 215, 216, 217, 218, 219, 220, 221, 222, 223, 224, 225, 226, 227, 228, 229, 230, 231, 232, 233, 234, 235, 236, 237, 238, 239, 240, 241, 242, 243, 244, 245, 246, 247, 248, 249, 250, 251, 252, 253, 254, 255, 256, 257, 258, 259, 260, 261, 262] (by decide +kernel) (by decide +kernel)) (goodIn_sub (fun _ h => List.mem_cons_of_mem _ (List.mem_append_left _ (List.mem_append_right _ h))) (by decide +kernel))) (goodIn_sub (fun _ h => List.mem_cons_of_mem _ (List.mem_append_right _ h)) (by decide +kernel))
set_option maxRecDepth 20000 in
theorem gL_commit_X4_commit : GoodIn wsL_commit (wsV RL 36 RX4 yX4_commit wsX4_commit) := goodIn_app (goodIn_of _ (by decide +kernel)) ggL_commit_X4_commit
theorem dL_commit_0 : decode cL_commit 0 = .ok (.aload_n 2, 1) := by decide +kernel
theorem dL_commit_1 : decode cL_commit 1 = .ok (.iconst 0, 1) := by decide +kernel
theorem dL_commit_2 : decode cL_commit 2 = .ok (.aload_n 0, 1) := by decide +kernel
theorem dL_commit_3 : decode cL_commit 3 = .ok (.iload_n 1, 1) := by decide +kernel
theorem dL_commit_4 : decode cL_commit 4 = .ok (.invokevirtual 36, 3) := by decide +kernel
theorem dL_commit_7 : decode cL_commit 7 = .ok (.i2l, 1) := by decide +kernel
theorem dL_commit_8 : decode cL_commit 8 = .ok (.lastore, 1) := by decide +kernel
theorem dL_commit_9 : decode cL_commit 9 = .ok (.goto 9, 3) := by decide +kernel
theorem dL_commit_12 : decode cL_commit 12 = .ok (.astore_n 3, 1) := by decide +kernel
theorem dL_commit_13 : decode cL_commit 13 = .ok (.iconst 1, 1) := by decide +kernel
theorem dL_commit_14 : decode cL_commit 14 = .ok (.ireturn, 1) := by decide +kernel
theorem dL_commit_15 : decode cL_commit 15 = .ok (.astore_n 3, 1) := by decide +kernel
theorem dL_commit_16 : decode cL_commit 16 = .ok (.iconst 2, 1) := by decide +kernel
theorem dL_commit_17 : decode cL_commit 17 = .ok (.ireturn, 1) := by decide +kernel
theorem dL_commit_18 : decode cL_commit 18 = .ok (.iconst 0, 1) := by decide +kernel
theorem dL_commit_19 : decode cL_commit 19 = .ok (.ireturn, 1) := by decide +kernel
set_option maxRecDepth 20000 in
theorem ggL_abort_X4_abort : GoodIn wsL_abort wsX4_abort := goodIn_ca (goodIn_ca (goodIn_r _ [7, 8, 9, 10, 11, 12, 13, 6, 14, 15, 16, 17, 18, 19, 20, 21, 22, 23, 24, 25, 26, 27, 28, 29, 30, 31, 32, 33, 34, 35, 36, 37, 38, 39, 40, 41, 42, 43, 44, 45, 46, 47, 48, 49, 50, 51, 52, 53, 54, 55, 56, 57, 58, 59, 60, 61, 62, 63, 64, 65, 66, 67, 68, 69, 70, 71, 72, 73] (by decide +kernel) (by decide +kernel)) (goodIn_sub (fun _ h => List.mem_cons_of_mem _ (List.mem_append_left _ (List.mem_append_right _ h))) (by decide +kernel))) (goodIn_sub (fun _ h => List.mem_cons_of_mem _ (List.mem_append_right _ h)) (by decide +kernel))
set_option maxRecDepth 20000 in
theorem gL_abort_X4_abort : GoodIn wsL_abort (wsV RL 39 RX4 yX4_abort wsX4_abort) := goodIn_app (goodIn_of _ (by decide +kernel)) ggL_abort_X4_abort
theorem dL_abort_0 : decode cL_abort 0 = .ok (.aload_n 0, 1) := by decide +kernel
theorem dL_abort_1 : decode cL_abort 1 = .ok (.iload_n 1, 1) := by decide +kernel
theorem dL_abort_2 : decode cL_abort 2 = .ok (.invokevirtual 39, 3) := by decide +kernel
theorem dL_abort_5 : decode cL_abort 5 = .ok (.goto 9, 3) := by decide +kernel
theorem dL_abort_8 : decode cL_abort 8 = .ok (.astore_n 2, 1) := by decide +kernel
theorem dL_abort_9 : decode cL_abort 9 = .ok (.iconst 1, 1) := by decide +kernel
theorem dL_abort_10 : decode cL_abort 10 = .ok (.ireturn, 1) := by decide +kernel
theorem dL_abort_11 : decode cL_abort 11 = .ok (.astore_n 2, 1) := by decide +kernel
theorem dL_abort_12 : decode cL_abort 12 = .ok (.iconst 2, 1) := by decide +kernel
theorem dL_abort_13 : decode cL_abort 13 = .ok (.ireturn, 1) := by decide +kernel
theorem dL_abort_14 : decode cL_abort 14 = .ok (.iconst 0, 1) := by decide +kernel
theorem dL_abort_15 : decode cL_abort 15 = .ok (.ireturn, 1) := by decide +kernel
set_option maxRecDepth 20000 in
theorem ggL_again_X4_again : GoodIn wsL_again wsX4_again := goodIn_ca (goodIn_ca (goodIn_r _ [7, 8, 9, 10, 11, 12, 13, 14, 15, 16, 17, 18, 19, 6, 20, 21, 22, 23, 24, 25, 26, 27, 28, 29, 30, 31, 32, 33, 34, 35, 36, 37, 38, 39, 40, 41, 42, 43, 44, 45, 46, 47, 48, 49, 50, 51, 52, 53, 54, 55, 56, 57, 58, 59, 60, 61, 62, 63, 64, 65, 66, 67, 68, 69, 70, 71, 72, 73, 74, 75, 76, 77, 78, 79, 80, 81, 82, 83, 84, 85, 86, 87, 88, 89, 90, 91, 92, 93, 94, 95, 96, 97, 98, 99, 100, 101, 102, 103, 104, 105, 106, 107, 108, 109, 110, 111, 112, 113, 114, 115, 116, 117, 118, 119, 120, 121, 122, 123, 124, 125, 126, 127, 128, 129, 130, 131, 132, 133, 134, 135, 136, 137, 138, 139, 140, 141, 142, 143, 144, 145, 146, 147, 148, 149, 150, 151, 152, 153, 154, 155, 156, 157, 158, 159, 160, 161, 162, 163, 164, 165, 166, 167, 168, 169, 170, 171, 172, 173, 174, 175, 176, 177, 178, 179, 180, 181, 182, 183, 184, 185, 186, 187, 188, 189, 190, 191] (by decide +kernel) (by decide +kernel)) (goodIn_sub (fun _ h => List.mem_cons_of_mem _ (List.mem_append_left _ (List.mem_append_right _ h))) (by decide +kernel))) (goodIn_sub (fun _ h => List.mem_cons_of_mem _ (List.mem_append_right _ h)) (by decide +kernel))
set_option maxRecDepth 20000 in
theorem gL_again_X4_again : GoodIn wsL_again (wsV RL 42 RX4 yX4_again wsX4_again) := goodIn_app (goodIn_of _ (by decide +kernel)) ggL_again_X4_again
theorem dL_again_0 : decode cL_again 0 = .ok (.aload_n 2, 1) := by decide +kernel
theorem dL_again_1 : decode cL_again 1 = .ok (.iconst 0, 1) := by decide +kernel
theorem dL_again_2 : decode cL_again 2 = .ok (.aload_n 0, 1) := by decide +kernel
theorem dL_again_3 : decode cL_again 3 = .ok (.iload_n 1, 1) := by decide +kernel
theorem dL_again_4 : decode cL_again 4 = .ok (.invokevirtual 42, 3) := by decide +kernel
theorem dL_again_7 : decode cL_again 7 = .ok (.i2l, 1) := by decide +kernel
theorem dL_again_8 : decode cL_again 8 = .ok (.lastore, 1) := by decide +kernel
theorem dL_again_9 : decode cL_again 9 = .ok (.goto 9, 3) := by decide +kernel
theorem dL_again_12 : decode cL_again 12 = .ok (.astore_n 3, 1) := by decide +kernel
theorem dL_again_13 : decode cL_again 13 = .ok (.iconst 1, 1) := by decide +kernel
theorem dL_again_14 : decode cL_again 14 = .ok (.ireturn, 1) := by decide +kernel
theorem dL_again_15 : decode cL_again 15 = .ok (.astore_n 3, 1) := by decide +kernel
theorem dL_again_16 : decode cL_again 16 = .ok (.iconst 2, 1) := by decide +kernel
theorem dL_again_17 : decode cL_again 17 = .ok (.ireturn, 1) := by decide +kernel
theorem dL_again_18 : decode cL_again 18 = .ok (.iconst 0, 1) := by decide +kernel
theorem dL_again_19 : decode cL_again 19 = .ok (.ireturn, 1) := by decide +kernel
set_option maxRecDepth 20000 in
theorem ggL_deliver_X4_deliver : GoodIn wsL_deliver wsX4_deliver := goodIn_ca (goodIn_r _ [6, 7, 8, 9, 10, 11, 12, 13, 14, 15, 5, 16, 17, 18, 19, 20, 21, 22, 23, 24, 25, 26, 27, 28, 29, 30, 31, 32, 33, 34, 35, 36, 37, 38, 39, 40, 41, 42, 43, 44, 45, 46, 47, 48, 49, 50, 51, 52, 53, 54, 55, 56, 57, 58, 59, 60, 61, 62, 63, 64, 65, 66, 67, 68, 69, 70, 71, 72, 73, 74, 75, 76, 77, 78, 79, 80, 81, 82, 83, 84, 85, 86, 87, 88, 89, 90, 91, 92, 93, 94, 95, 96, 97, 98, 99, 100, 101, 102, 103, 104, 105, 106, 107, 108, 109, 110, 111, 112, 113, 114, 115, 116, 117, 118, 119, 120, 121, 122, 123, 124, 125, 126, 127, 128, 129, 130, 131, 132, 133, 134, 135, 136, 137, 138, 139, 140, 141, 142, 143, 144, 145, 146, 147, 148, 149, 150, 151, 152, 153, 154, 155, 156, 157, 158, 159, 160, 161, 162, 163, 164, 165, 166, 167, 168, 169, 170, 171, 172, 173, 174, 175, 176, 177, 178, 179, 180, 181, 182, 183, 184, 185, 186, 187, 188, 189, 190, 191, 192, 193, 194, 195, 196, 197, 198, 199, 200, 201, 202, 203, 204, 205, 206, 207, 208, 209, 210, 211, 212, 213, 214, 215, 216, 217, 218, 219, 220, 221, 222, 223, 224, 225, 226, 227, 228, 229, 230, 231, 232, 233, 234, 235, 236, 237, 238, 239, 240, 241, 242, 243, 244, 245, 246, 247, 248, 249, 250, 251, 252, 253, 254, 255, 256, 257, 258, 259, 260, 261, 262, 263, 264, 265, 266, 267, 268, 269, 270, 271, 272, 273, 274, 275, 276, 277, 278, 279, 280, 281, 282, 283, 284, 285, 286, 287, 288, 289, 290, 291, 292, 293, 294, 295, 296, 297, 298, 299, 300, 301, 302, 303, 304, 305, 306, 307, 308, 309, 310, 311, 312, 313] (by decide +kernel) (by decide +kernel)) (goodIn_sub (fun _ h => List.mem_cons_of_mem _ (List.mem_append_right _ h)) (by decide +kernel))
set_option maxRecDepth 20000 in
theorem gL_deliver_X4_deliver : GoodIn wsL_deliver (wsV RL 45 RX4 yX4_deliver wsX4_deliver) := goodIn_app (goodIn_of _ (by decide +kernel)) ggL_deliver_X4_deliver
theorem dL_deliver_0 : decode cL_deliver 0 = .ok (.aload_n 2, 1) := by decide +kernel
theorem dL_deliver_1 : decode cL_deliver 1 = .ok (.iconst 0, 1) := by decide +kernel
theorem dL_deliver_2 : decode cL_deliver 2 = .ok (.aload_n 0, 1) := by decide +kernel
theorem dL_deliver_3 : decode cL_deliver 3 = .ok (.iload_n 1, 1) := by decide +kernel
theorem dL_deliver_4 : decode cL_deliver 4 = .ok (.invokevirtual 45, 3) := by decide +kernel
theorem dL_deliver_7 : decode cL_deliver 7 = .ok (.i2l, 1) := by decide +kernel
theorem dL_deliver_8 : decode cL_deliver 8 = .ok (.lastore, 1) := by decide +kernel
theorem dL_deliver_9 : decode cL_deliver 9 = .ok (.goto 6, 3) := by decide +kernel
theorem dL_deliver_12 : decode cL_deliver 12 = .ok (.astore_n 3, 1) := by decide +kernel
theorem dL_deliver_13 : decode cL_deliver 13 = .ok (.iconst 1, 1) := by decide +kernel
theorem dL_deliver_14 : decode cL_deliver 14 = .ok (.ireturn, 1) := by decide +kernel
theorem dL_deliver_15 : decode cL_deliver 15 = .ok (.iconst 0, 1) := by decide +kernel
theorem dL_deliver_16 : decode cL_deliver 16 = .ok (.ireturn, 1) := by decide +kernel
set_option maxRecDepth 20000 in
theorem ggL_drop_X4_drop : GoodIn wsL_drop wsX4_drop := goodIn_ca (goodIn_r _ [6, 7, 8, 9, 10, 11, 5, 12, 13, 14, 15, 16, 17, 18, 19, 20, 21, 22, 23, 24, 25, 26, 27, 28, 29, 30, 31, 32, 33, 34, 35, 36, 37, 38, 39, 40, 41, 42, 43, 44, 45, 46, 47, 48, 49, 50, 51, 52, 53, 54, 55, 56, 57, 58, 59, 60, 61, 62, 63, 64, 65, 66] (by decide +kernel) (by decide +kernel)) (goodIn_sub (fun _ h => List.mem_cons_of_mem _ (List.mem_append_right _ h)) (by decide +kernel))
set_option maxRecDepth 20000 in
theorem gL_drop_X4_drop : GoodIn wsL_drop (wsV RL 48 RX4 yX4_drop wsX4_drop) := goodIn_app (goodIn_of _ (by decide +kernel)) ggL_drop_X4_drop
theorem dL_drop_0 : decode cL_drop 0 = .ok (.aload_n 2, 1) := by decide +kernel
theorem dL_drop_1 : decode cL_drop 1 = .ok (.iconst 0, 1) := by decide +kernel
theorem dL_drop_2 : decode cL_drop 2 = .ok (.aload_n 0, 1) := by decide +kernel
theorem dL_drop_3 : decode cL_drop 3 = .ok (.iload_n 1, 1) := by decide +kernel
theorem dL_drop_4 : decode cL_drop 4 = .ok (.invokevirtual 48, 3) := by decide +kernel
theorem dL_drop_7 : decode cL_drop 7 = .ok (.i2l, 1) := by decide +kernel
theorem dL_drop_8 : decode cL_drop 8 = .ok (.lastore, 1) := by decide +kernel
theorem dL_drop_9 : decode cL_drop 9 = .ok (.goto 6, 3) := by decide +kernel
theorem dL_drop_12 : decode cL_drop 12 = .ok (.astore_n 3, 1) := by decide +kernel
theorem dL_drop_13 : decode cL_drop 13 = .ok (.iconst 1, 1) := by decide +kernel
theorem dL_drop_14 : decode cL_drop 14 = .ok (.ireturn, 1) := by decide +kernel
theorem dL_drop_15 : decode cL_drop 15 = .ok (.iconst 0, 1) := by decide +kernel
theorem dL_drop_16 : decode cL_drop 16 = .ok (.ireturn, 1) := by decide +kernel
set_option maxRecDepth 20000 in
theorem ggL_copy_X4_copy : GoodIn wsL_copy wsX4_copy := goodIn_ca (goodIn_r _ [6, 7, 8, 9, 10, 11, 5, 12, 13, 14, 15, 16, 17, 18, 19, 20, 21, 22, 23, 24, 25, 26, 27, 28, 29, 30, 31, 32, 33, 34, 35, 36, 37, 38, 39, 40, 41, 42, 43, 44, 45, 46, 47, 48, 49, 50, 51, 52, 53, 54, 55, 56, 57, 58, 59, 60, 61, 62, 63, 64, 65, 66, 67, 68, 69, 70, 71, 72, 73, 74, 75, 76, 77, 78, 79, 80, 81, 82, 83, 84, 85, 86, 87, 88, 89, 90, 91, 92, 93, 94, 95, 96, 97, 98, 99, 100, 101, 102, 103, 104, 105, 106, 107] (by decide +kernel) (by decide +kernel)) (goodIn_sub (fun _ h => List.mem_cons_of_mem _ (List.mem_append_right _ h)) (by decide +kernel))
set_option maxRecDepth 20000 in
theorem gL_copy_X4_copy : GoodIn wsL_copy (wsV RL 51 RX4 yX4_copy wsX4_copy) := goodIn_app (goodIn_of _ (by decide +kernel)) ggL_copy_X4_copy
theorem dL_copy_0 : decode cL_copy 0 = .ok (.aload_n 2, 1) := by decide +kernel
theorem dL_copy_1 : decode cL_copy 1 = .ok (.iconst 0, 1) := by decide +kernel
theorem dL_copy_2 : decode cL_copy 2 = .ok (.aload_n 0, 1) := by decide +kernel
theorem dL_copy_3 : decode cL_copy 3 = .ok (.iload_n 1, 1) := by decide +kernel
theorem dL_copy_4 : decode cL_copy 4 = .ok (.invokevirtual 51, 3) := by decide +kernel
theorem dL_copy_7 : decode cL_copy 7 = .ok (.ifCond .eq 7, 3) := by decide +kernel
theorem dL_copy_10 : decode cL_copy 10 = .ok (.lconst 1, 1) := by decide +kernel
theorem dL_copy_11 : decode cL_copy 11 = .ok (.goto 4, 3) := by decide +kernel
theorem dL_copy_14 : decode cL_copy 14 = .ok (.lconst 0, 1) := by decide +kernel
theorem dL_copy_15 : decode cL_copy 15 = .ok (.lastore, 1) := by decide +kernel
theorem dL_copy_16 : decode cL_copy 16 = .ok (.goto 6, 3) := by decide +kernel
theorem dL_copy_19 : decode cL_copy 19 = .ok (.astore_n 3, 1) := by decide +kernel
theorem dL_copy_20 : decode cL_copy 20 = .ok (.iconst 1, 1) := by decide +kernel
theorem dL_copy_21 : decode cL_copy 21 = .ok (.ireturn, 1) := by decide +kernel
theorem dL_copy_22 : decode cL_copy 22 = .ok (.iconst 0, 1) := by decide +kernel
theorem dL_copy_23 : decode cL_copy 23 = .ok (.ireturn, 1) := by decide +kernel
set_option maxRecDepth 20000 in
theorem ggL_byteOf_X4_byteOf : GoodIn wsL_byteOf wsX4_byteOf := goodIn_ca (goodIn_r _ [6, 7, 8, 9, 10, 11, 12, 13, 14, 15, 5, 16, 17, 18, 19, 20, 21, 22, 23, 24, 25, 26, 27, 28, 29, 30, 31, 32, 33, 34, 35, 36, 37, 38, 39, 40, 41, 42, 43, 44, 45, 46, 47, 48, 49, 50, 51, 52, 53, 54, 55, 56, 57, 58, 59, 60, 61, 62, 63, 64, 65, 66, 67, 68, 69, 70, 71, 72, 73, 74, 75, 76, 77, 78, 79, 80, 81, 82, 83, 84, 85, 86, 87, 88, 89, 90, 91, 92, 93, 94, 95, 96, 97, 98, 99, 100, 101, 102, 103, 104, 105, 106, 107, 108, 109, 110, 111, 112, 113, 114, 115, 116, 117, 118, 119, 120, 121, 122, 123, 124, 125, 126, 127, 128, 129, 130, 131, 132, 133, 134, 135, 136, 137, 138, 139, 140, 141, 142, 143, 144, 145, 146, 147, 148, 149, 150, 151, 152, 153, 154, 155, 156, 157, 158, 159, 160, 161, 162, 163, 164, 165, 166, 167, 168, 169, 170, 171, 172, 173, 174, 175, 176, 177, 178, 179, 180, 181, 182, 183, 184, 185] (by decide +kernel) (by decide +kernel)) (goodIn_sub (fun _ h => List.mem_cons_of_mem _ (List.mem_append_right _ h)) (by decide +kernel))
set_option maxRecDepth 20000 in
theorem gL_byteOf_X4_byteOf : GoodIn wsL_byteOf (wsV RL 55 RX4 yX4_byteOf wsX4_byteOf) := goodIn_app (goodIn_of _ (by decide +kernel)) ggL_byteOf_X4_byteOf
theorem dL_byteOf_0 : decode cL_byteOf 0 = .ok (.aload_n 3, 1) := by decide +kernel
theorem dL_byteOf_1 : decode cL_byteOf 1 = .ok (.iconst 0, 1) := by decide +kernel
theorem dL_byteOf_2 : decode cL_byteOf 2 = .ok (.aload_n 0, 1) := by decide +kernel
theorem dL_byteOf_3 : decode cL_byteOf 3 = .ok (.iload_n 1, 1) := by decide +kernel
theorem dL_byteOf_4 : decode cL_byteOf 4 = .ok (.iload_n 2, 1) := by decide +kernel
theorem dL_byteOf_5 : decode cL_byteOf 5 = .ok (.invokevirtual 55, 3) := by decide +kernel
theorem dL_byteOf_8 : decode cL_byteOf 8 = .ok (.i2l, 1) := by decide +kernel
theorem dL_byteOf_9 : decode cL_byteOf 9 = .ok (.lastore, 1) := by decide +kernel
theorem dL_byteOf_10 : decode cL_byteOf 10 = .ok (.goto 7, 3) := by decide +kernel
theorem dL_byteOf_13 : decode cL_byteOf 13 = .ok (.astore 4, 2) := by decide +kernel
theorem dL_byteOf_15 : decode cL_byteOf 15 = .ok (.iconst 1, 1) := by decide +kernel
theorem dL_byteOf_16 : decode cL_byteOf 16 = .ok (.ireturn, 1) := by decide +kernel
theorem dL_byteOf_17 : decode cL_byteOf 17 = .ok (.iconst 0, 1) := by decide +kernel
theorem dL_byteOf_18 : decode cL_byteOf 18 = .ok (.ireturn, 1) := by decide +kernel
set_option maxRecDepth 20000 in
theorem ggL_crash_X4_crash : GoodIn wsL_crash wsX4_crash := goodIn_ca (goodIn_ca (goodIn_r _ [7, 8, 9, 10, 11, 12, 13, 14, 15, 16, 17, 6, 18, 19, 20, 21, 22, 23, 24, 25, 26, 27, 28, 29, 30, 31, 32, 33, 34, 35, 36, 37, 38, 39, 40, 41, 42, 43, 44, 45, 46, 47, 48, 49, 50, 51, 52, 53, 54, 55, 56, 57, 58, 59, 60, 61, 62, 63, 64, 65, 66, 67, 68, 69, 70, 71, 72, 73, 74, 75, 76, 77, 78, 79, 80, 81, 82, 83, 84, 85, 86, 87] (by decide +kernel) (by decide +kernel)) (goodIn_sub (fun _ h => List.mem_cons_of_mem _ (List.mem_append_left _ (List.mem_append_right _ h))) (by decide +kernel))) (goodIn_sub (fun _ h => List.mem_cons_of_mem _ (List.mem_append_right _ h)) (by decide +kernel))
set_option maxRecDepth 20000 in
theorem gL_crash_X4_crash : GoodIn wsL_crash (wsV RL 58 RX4 yX4_crash wsX4_crash) := goodIn_app (goodIn_of _ (by decide +kernel)) ggL_crash_X4_crash
theorem dL_crash_0 : decode cL_crash 0 = .ok (.aload_n 0, 1) := by decide +kernel
theorem dL_crash_1 : decode cL_crash 1 = .ok (.iload_n 1, 1) := by decide +kernel
theorem dL_crash_2 : decode cL_crash 2 = .ok (.invokevirtual 58, 3) := by decide +kernel
theorem dL_crash_5 : decode cL_crash 5 = .ok (.goto 9, 3) := by decide +kernel
theorem dL_crash_8 : decode cL_crash 8 = .ok (.astore_n 2, 1) := by decide +kernel
theorem dL_crash_9 : decode cL_crash 9 = .ok (.iconst 1, 1) := by decide +kernel
theorem dL_crash_10 : decode cL_crash 10 = .ok (.ireturn, 1) := by decide +kernel
theorem dL_crash_11 : decode cL_crash 11 = .ok (.astore_n 2, 1) := by decide +kernel
theorem dL_crash_12 : decode cL_crash 12 = .ok (.iconst 2, 1) := by decide +kernel
theorem dL_crash_13 : decode cL_crash 13 = .ok (.ireturn, 1) := by decide +kernel
theorem dL_crash_14 : decode cL_crash 14 = .ok (.iconst 0, 1) := by decide +kernel
theorem dL_crash_15 : decode cL_crash 15 = .ok (.ireturn, 1) := by decide +kernel
set_option maxRecDepth 20000 in
theorem ggL_restart_X4_restart : GoodIn wsL_restart wsX4_restart := goodIn_ca (goodIn_ca (goodIn_r _ [7, 8, 9, 10, 11, 12, 13, 14, 15, 16, 17, 6, 18, 19, 20, 21, 22, 23, 24, 25, 26, 27, 28, 29, 30, 31, 32, 33, 34, 35, 36, 37, 38, 39, 40, 41, 42, 43, 44, 45, 46, 47, 48, 49, 50, 51, 52, 53, 54, 55, 56, 57, 58, 59, 60, 61, 62, 63, 64, 65, 66, 67, 68, 69, 70, 71, 72, 73, 74, 75, 76, 77, 78, 79, 80, 81, 82, 83, 84, 85, 86, 87, 88, 89, 90, 91, 92, 93, 94, 95, 96, 97, 98, 99, 100, 101, 102, 103, 104, 105, 106, 107, 108, 109, 110, 111, 112, 113, 114, 115, 116, 117, 118, 119, 120, 121, 122, 123, 124, 125, 126, 127, 128, 129, 130, 131, 132, 133, 134, 135, 136, 137, 138, 139, 140, 141, 142, 143, 144, 145, 146, 147, 148, 149, 150, 151, 152, 153, 154, 155, 156, 157, 158, 159, 160, 161, 162, 163, 164, 165, 166, 167, 168, 169, 170, 171, 172, 173, 174, 175, 176, 177, 178, 179, 180, 181, 182, 183, 184, 185, 186, 187, 188, 189, 190, 191, 192, 193, 194, 195] (by decide +kernel) (by decide +kernel)) (goodIn_sub (fun _ h => List.mem_cons_of_mem _ (List.mem_append_left _ (List.mem_append_right _ h))) (by decide +kernel))) (goodIn_sub (fun _ h => List.mem_cons_of_mem _ (List.mem_append_right _ h)) (by decide +kernel))
set_option maxRecDepth 20000 in
theorem gL_restart_X4_restart : GoodIn wsL_restart (wsV RL 61 RX4 yX4_restart wsX4_restart) := goodIn_app (goodIn_of _ (by decide +kernel)) ggL_restart_X4_restart
theorem dL_restart_0 : decode cL_restart 0 = .ok (.aload_n 0, 1) := by decide +kernel
theorem dL_restart_1 : decode cL_restart 1 = .ok (.iload_n 1, 1) := by decide +kernel
theorem dL_restart_2 : decode cL_restart 2 = .ok (.invokevirtual 61, 3) := by decide +kernel
theorem dL_restart_5 : decode cL_restart 5 = .ok (.goto 9, 3) := by decide +kernel
theorem dL_restart_8 : decode cL_restart 8 = .ok (.astore_n 2, 1) := by decide +kernel
theorem dL_restart_9 : decode cL_restart 9 = .ok (.iconst 1, 1) := by decide +kernel
theorem dL_restart_10 : decode cL_restart 10 = .ok (.ireturn, 1) := by decide +kernel
theorem dL_restart_11 : decode cL_restart 11 = .ok (.astore_n 2, 1) := by decide +kernel
theorem dL_restart_12 : decode cL_restart 12 = .ok (.iconst 2, 1) := by decide +kernel
theorem dL_restart_13 : decode cL_restart 13 = .ok (.ireturn, 1) := by decide +kernel
theorem dL_restart_14 : decode cL_restart 14 = .ok (.iconst 0, 1) := by decide +kernel
theorem dL_restart_15 : decode cL_restart 15 = .ok (.ireturn, 1) := by decide +kernel
set_option maxRecDepth 20000 in
theorem ggL_about_X4_about : GoodIn wsL_about wsX4_about := goodIn_ca (goodIn_r _ [6, 7, 8, 9, 10, 11, 12, 13, 14, 15, 16, 17, 18, 5, 19, 20, 21, 22, 23, 24, 25, 26, 27, 28, 29, 30, 31, 32, 33, 34, 35, 36, 37, 38, 39, 40, 41, 42, 43, 44, 45, 46, 47, 48, 49, 50, 51, 52, 53, 54, 55, 56, 57, 58, 59, 60, 61, 62, 63, 64, 65, 66, 67, 68, 69, 70, 71, 72, 73, 74, 75] (by decide +kernel) (by decide +kernel)) (goodIn_sub (fun _ h => List.mem_cons_of_mem _ (List.mem_append_right _ h)) (by decide +kernel))
set_option maxRecDepth 20000 in
theorem gL_about_X4_about : GoodIn wsL_about (wsV RL 64 RX4 yX4_about wsX4_about) := goodIn_app (goodIn_of _ (by decide +kernel)) ggL_about_X4_about
theorem dL_about_0 : decode cL_about 0 = .ok (.aload_n 3, 1) := by decide +kernel
theorem dL_about_1 : decode cL_about 1 = .ok (.iconst 0, 1) := by decide +kernel
theorem dL_about_2 : decode cL_about 2 = .ok (.aload_n 0, 1) := by decide +kernel
theorem dL_about_3 : decode cL_about 3 = .ok (.iload_n 1, 1) := by decide +kernel
theorem dL_about_4 : decode cL_about 4 = .ok (.iload_n 2, 1) := by decide +kernel
theorem dL_about_5 : decode cL_about 5 = .ok (.invokevirtual 64, 3) := by decide +kernel
theorem dL_about_8 : decode cL_about 8 = .ok (.i2l, 1) := by decide +kernel
theorem dL_about_9 : decode cL_about 9 = .ok (.lastore, 1) := by decide +kernel
theorem dL_about_10 : decode cL_about 10 = .ok (.goto 7, 3) := by decide +kernel
theorem dL_about_13 : decode cL_about 13 = .ok (.astore 4, 2) := by decide +kernel
theorem dL_about_15 : decode cL_about 15 = .ok (.iconst 1, 1) := by decide +kernel
theorem dL_about_16 : decode cL_about 16 = .ok (.ireturn, 1) := by decide +kernel
theorem dL_about_17 : decode cL_about 17 = .ok (.iconst 0, 1) := by decide +kernel
theorem dL_about_18 : decode cL_about 18 = .ok (.ireturn, 1) := by decide +kernel
set_option maxRecDepth 20000 in
theorem ggL_vector_X4_vector : GoodIn wsL_vector wsX4_vector := goodIn_ca (goodIn_r _ [6, 7, 8, 9, 10, 11, 5, 12, 13, 14, 15, 16, 17, 18, 19, 20, 21, 22, 23, 24, 25, 26, 27, 28, 29, 30] (by decide +kernel) (by decide +kernel)) (goodIn_sub (fun _ h => List.mem_cons_of_mem _ (List.mem_append_right _ h)) (by decide +kernel))
set_option maxRecDepth 20000 in
theorem gL_vector_X4_vector : GoodIn wsL_vector (wsV RL 67 RX4 yX4_vector wsX4_vector) := goodIn_app (goodIn_of _ (by decide +kernel)) ggL_vector_X4_vector
theorem dL_vector_0 : decode cL_vector 0 = .ok (.aload_n 3, 1) := by decide +kernel
theorem dL_vector_1 : decode cL_vector 1 = .ok (.iconst 0, 1) := by decide +kernel
theorem dL_vector_2 : decode cL_vector 2 = .ok (.aload_n 0, 1) := by decide +kernel
theorem dL_vector_3 : decode cL_vector 3 = .ok (.iload_n 1, 1) := by decide +kernel
theorem dL_vector_4 : decode cL_vector 4 = .ok (.iload_n 2, 1) := by decide +kernel
theorem dL_vector_5 : decode cL_vector 5 = .ok (.invokevirtual 67, 3) := by decide +kernel
theorem dL_vector_8 : decode cL_vector 8 = .ok (.i2l, 1) := by decide +kernel
theorem dL_vector_9 : decode cL_vector 9 = .ok (.lastore, 1) := by decide +kernel
theorem dL_vector_10 : decode cL_vector 10 = .ok (.goto 7, 3) := by decide +kernel
theorem dL_vector_13 : decode cL_vector 13 = .ok (.astore 4, 2) := by decide +kernel
theorem dL_vector_15 : decode cL_vector 15 = .ok (.iconst 1, 1) := by decide +kernel
theorem dL_vector_16 : decode cL_vector 16 = .ok (.ireturn, 1) := by decide +kernel
theorem dL_vector_17 : decode cL_vector 17 = .ok (.iconst 0, 1) := by decide +kernel
theorem dL_vector_18 : decode cL_vector 18 = .ok (.ireturn, 1) := by decide +kernel
set_option maxRecDepth 20000 in
theorem ggL_value_X4_value : GoodIn wsL_value wsX4_value := goodIn_ca (goodIn_r _ [6, 7, 8, 9, 10, 11, 5, 12, 13, 14, 15, 16, 17, 18, 19, 20, 21, 22, 23, 24, 25, 26, 27, 28, 29, 30, 31, 32, 33, 34, 35, 36, 37, 38, 39, 40, 41, 42, 43, 44, 45, 46, 47, 48, 49, 50, 51, 52, 53, 54, 55, 56, 57, 58, 59, 60, 61, 62, 63, 64, 65, 66, 67, 68, 69, 70, 71, 72, 73, 74, 75, 76, 77, 78, 79, 80, 81, 82, 83, 84, 85, 86, 87, 88, 89, 90, 91, 92, 93, 94, 95, 96, 97] (by decide +kernel) (by decide +kernel)) (goodIn_sub (fun _ h => List.mem_cons_of_mem _ (List.mem_append_right _ h)) (by decide +kernel))
set_option maxRecDepth 20000 in
theorem gL_value_X4_value : GoodIn wsL_value (wsV RL 70 RX4 yX4_value wsX4_value) := goodIn_app (goodIn_of _ (by decide +kernel)) ggL_value_X4_value
theorem dL_value_0 : decode cL_value 0 = .ok (.aload_n 3, 1) := by decide +kernel
theorem dL_value_1 : decode cL_value 1 = .ok (.iconst 0, 1) := by decide +kernel
theorem dL_value_2 : decode cL_value 2 = .ok (.aload_n 0, 1) := by decide +kernel
theorem dL_value_3 : decode cL_value 3 = .ok (.iload_n 1, 1) := by decide +kernel
theorem dL_value_4 : decode cL_value 4 = .ok (.iload_n 2, 1) := by decide +kernel
theorem dL_value_5 : decode cL_value 5 = .ok (.invokevirtual 70, 3) := by decide +kernel
theorem dL_value_8 : decode cL_value 8 = .ok (.i2l, 1) := by decide +kernel
theorem dL_value_9 : decode cL_value 9 = .ok (.lastore, 1) := by decide +kernel
theorem dL_value_10 : decode cL_value 10 = .ok (.goto 7, 3) := by decide +kernel
theorem dL_value_13 : decode cL_value 13 = .ok (.astore 4, 2) := by decide +kernel
theorem dL_value_15 : decode cL_value 15 = .ok (.iconst 1, 1) := by decide +kernel
theorem dL_value_16 : decode cL_value 16 = .ok (.ireturn, 1) := by decide +kernel
theorem dL_value_17 : decode cL_value 17 = .ok (.iconst 0, 1) := by decide +kernel
theorem dL_value_18 : decode cL_value 18 = .ok (.ireturn, 1) := by decide +kernel
set_option maxRecDepth 20000 in
theorem ggL_locked_X4_locked : GoodIn wsL_locked wsX4_locked := goodIn_ca (goodIn_r _ [6, 7, 8, 9, 10, 11, 5, 12, 13, 14, 15, 16, 17, 18, 19, 20, 21, 22, 23, 24, 25, 26, 27, 28, 29, 30, 31, 32, 33] (by decide +kernel) (by decide +kernel)) (goodIn_sub (fun _ h => List.mem_cons_of_mem _ (List.mem_append_right _ h)) (by decide +kernel))
set_option maxRecDepth 20000 in
theorem gL_locked_X4_locked : GoodIn wsL_locked (wsV RL 73 RX4 yX4_locked wsX4_locked) := goodIn_app (goodIn_of _ (by decide +kernel)) ggL_locked_X4_locked
theorem dL_locked_0 : decode cL_locked 0 = .ok (.aload_n 3, 1) := by decide +kernel
theorem dL_locked_1 : decode cL_locked 1 = .ok (.iconst 0, 1) := by decide +kernel
theorem dL_locked_2 : decode cL_locked 2 = .ok (.aload_n 0, 1) := by decide +kernel
theorem dL_locked_3 : decode cL_locked 3 = .ok (.iload_n 1, 1) := by decide +kernel
theorem dL_locked_4 : decode cL_locked 4 = .ok (.iload_n 2, 1) := by decide +kernel
theorem dL_locked_5 : decode cL_locked 5 = .ok (.invokevirtual 73, 3) := by decide +kernel
theorem dL_locked_8 : decode cL_locked 8 = .ok (.i2l, 1) := by decide +kernel
theorem dL_locked_9 : decode cL_locked 9 = .ok (.lastore, 1) := by decide +kernel
theorem dL_locked_10 : decode cL_locked 10 = .ok (.goto 7, 3) := by decide +kernel
theorem dL_locked_13 : decode cL_locked 13 = .ok (.astore 4, 2) := by decide +kernel
theorem dL_locked_15 : decode cL_locked 15 = .ok (.iconst 1, 1) := by decide +kernel
theorem dL_locked_16 : decode cL_locked 16 = .ok (.ireturn, 1) := by decide +kernel
theorem dL_locked_17 : decode cL_locked 17 = .ok (.iconst 0, 1) := by decide +kernel
theorem dL_locked_18 : decode cL_locked 18 = .ok (.ireturn, 1) := by decide +kernel
set_option maxRecDepth 20000 in
theorem ggL_total_X4_total : GoodIn wsL_total wsX4_total := goodIn_ca (goodIn_r _ [6, 7, 8, 9, 10, 11, 12, 13, 14, 15, 16, 17, 18, 19, 20, 5, 21, 22, 23, 24, 25, 26, 27, 28, 29, 30, 31, 32, 33, 34, 35, 36, 37, 38, 39, 40, 41, 42, 43, 44, 45, 46, 47, 48, 49, 50, 51, 52, 53, 54, 55, 56, 57, 58, 59, 60, 61, 62, 63, 64, 65, 66, 67, 68, 69, 70, 71, 72, 73, 74, 75, 76, 77, 78, 79, 80, 81, 82, 83, 84, 85, 86] (by decide +kernel) (by decide +kernel)) (goodIn_sub (fun _ h => List.mem_cons_of_mem _ (List.mem_append_right _ h)) (by decide +kernel))
set_option maxRecDepth 20000 in
theorem gL_total_X4_total : GoodIn wsL_total (wsV RL 76 RX4 yX4_total wsX4_total) := goodIn_app (goodIn_of _ (by decide +kernel)) ggL_total_X4_total
theorem dL_total_0 : decode cL_total 0 = .ok (.aload_n 2, 1) := by decide +kernel
theorem dL_total_1 : decode cL_total 1 = .ok (.iconst 0, 1) := by decide +kernel
theorem dL_total_2 : decode cL_total 2 = .ok (.aload_n 0, 1) := by decide +kernel
theorem dL_total_3 : decode cL_total 3 = .ok (.iload_n 1, 1) := by decide +kernel
theorem dL_total_4 : decode cL_total 4 = .ok (.invokevirtual 76, 3) := by decide +kernel
theorem dL_total_7 : decode cL_total 7 = .ok (.i2l, 1) := by decide +kernel
theorem dL_total_8 : decode cL_total 8 = .ok (.lastore, 1) := by decide +kernel
theorem dL_total_9 : decode cL_total 9 = .ok (.goto 6, 3) := by decide +kernel
theorem dL_total_12 : decode cL_total 12 = .ok (.astore_n 3, 1) := by decide +kernel
theorem dL_total_13 : decode cL_total 13 = .ok (.iconst 1, 1) := by decide +kernel
theorem dL_total_14 : decode cL_total 14 = .ok (.ireturn, 1) := by decide +kernel
theorem dL_total_15 : decode cL_total 15 = .ok (.iconst 0, 1) := by decide +kernel
theorem dL_total_16 : decode cL_total 16 = .ok (.ireturn, 1) := by decide +kernel
set_option maxRecDepth 20000 in
theorem ggL_law_X4_init : GoodIn wsL_law wsX4_init := goodIn_r _ [9, 10, 11, 12, 13, 14, 15, 16, 17, 18, 19, 20, 21, 22, 23, 24, 25, 26, 27, 28, 29, 30, 31, 32, 33, 34, 35, 36, 37, 38, 39, 40, 41, 42, 43, 44, 45, 46, 47, 48, 49, 50, 51, 52, 53, 2, 54, 55, 56, 57, 58, 59, 60, 61, 62, 63, 64, 65, 66, 67, 68, 69, 70, 816, 817, 818, 819, 820, 821, 822, 851, 852, 853, 854, 855, 856, 857, 858, 859, 860, 861, 862] (by decide +kernel) (by decide +kernel)
set_option maxRecDepth 20000 in
theorem gL_law_X4_init : GoodIn wsL_law (wsX4_init) := ggL_law_X4_init
set_option maxRecDepth 20000 in
theorem ggL_law_X5_init : GoodIn wsL_law wsX5_init := goodIn_r _ [73, 74, 11, 12, 75, 29, 76, 77, 78, 79, 80, 81, 82, 83, 84, 85, 86, 87, 88, 89, 90, 91, 92, 93, 94, 95, 96, 97, 98, 99, 100, 5, 101, 102, 103, 104, 105, 823, 824, 825, 826, 827, 828, 829, 830, 831, 832, 833, 834, 835, 836, 837, 838, 839, 840, 841, 842, 843, 844, 845, 846, 847, 848, 849, 850] (by decide +kernel) (by decide +kernel)
set_option maxRecDepth 20000 in
theorem gL_law_X5_init : GoodIn wsL_law (wsX5_init) := ggL_law_X5_init
set_option maxRecDepth 20000 in
theorem ggL_law_L_open : GoodIn wsL_law wsL_open := goodIn_ca (goodIn_r _ [109, 110, 111, 112, 113, 2, 114, 115, 116, 117, 118, 119, 51, 52, 53, 54, 14, 21, 55, 56, 57, 58, 59, 60, 16, 61, 62, 63, 30, 31, 64, 65, 66, 19, 67, 68, 69, 37, 70, 816, 817, 818, 819, 820, 821, 822, 851, 852, 853, 854, 855, 856, 857, 858] (by decide +kernel) (by decide +kernel)) (goodIn_sub (fun _ h => List.mem_append_left _ (List.mem_append_right _ h)) (by decide +kernel))
set_option maxRecDepth 20000 in
theorem gL_law_L_open : GoodIn wsL_law (va_wsS RL 83 yL_open wsL_open) := goodIn_app (goodIn_of _ (by decide +kernel)) ggL_law_L_open
set_option maxRecDepth 20000 in
theorem ggL_law_X5_open : GoodIn wsL_law wsX5_open := goodIn_r _ [123, 124, 125, 126, 5, 127, 128, 98, 99, 100, 101, 75, 102, 103, 104, 105, 76, 78, 79, 823, 824, 825, 826, 827, 828, 829, 830, 831, 832, 833, 834, 835, 836, 837, 838, 839, 840, 841, 842, 843, 844, 845, 846, 847, 848, 849, 850] (by decide +kernel) (by decide +kernel)
set_option maxRecDepth 20000 in
theorem gL_law_X5_open : GoodIn wsL_law (wsV RL 88 RX5 yX5_open wsX5_open) := goodIn_app (goodIn_of _ (by decide +kernel)) ggL_law_X5_open
set_option maxRecDepth 20000 in
theorem ggL_law_X5_thrown : GoodIn wsL_law wsX5_thrown := goodIn_r _ [132, 128, 823, 824, 825, 826, 827, 828, 829, 830, 831, 832, 833, 834, 835, 836, 837, 838, 839, 840, 841, 842, 843, 844, 845, 846, 847, 848, 849, 850] (by decide +kernel) (by decide +kernel)
set_option maxRecDepth 20000 in
theorem gL_law_X5_thrown : GoodIn wsL_law (wsV RL 89 RX5 yX5_thrown wsX5_thrown) := goodIn_app (goodIn_of _ (by decide +kernel)) ggL_law_X5_thrown
set_option maxRecDepth 20000 in
theorem ggL_law_L_begin : GoodIn wsL_law wsL_begin := goodIn_ca (goodIn_ca (goodIn_r _ [135, 110, 136, 137, 138, 139, 2, 140, 14, 141, 56, 20, 142, 143, 144, 145, 146, 147, 148, 149, 150, 55, 115, 116, 117, 118, 119, 151, 152, 153, 154, 155, 156, 157, 158, 19, 159, 70, 160, 161, 162, 11, 12, 29, 163, 164, 165, 166, 167, 168, 169, 170, 68, 69, 37, 171, 172, 173, 174, 175, 176, 177, 178, 179, 180, 181, 182, 36, 183, 184, 185, 186, 187, 188, 189, 190, 191, 192, 193, 194, 195, 196, 197, 198, 199, 200, 201, 202, 203, 204, 205, 206, 207, 208, 209, 210, 211, 212, 213, 214, 215, 216, 217, 218, 219, 220, 221, 222, 223, 224, 225, 226, 227, 228, 229, 230, 231, 232, 233, 234, 235, 236, 237, 238, 239, 240, 241, 242, 243, 244, 245, 246, 247, 248, 816, 817, 818, 819, 820, 821, 822, 851, 852, 853, 854, 855, 863, 864, 865, 866, 867, 868, 869, 870, 871, 872, 873, 874, 875, 876, 877, 878, 856, 857, 858] (by decide +kernel) (by decide +kernel)) (goodIn_sub (fun _ h => List.mem_append_left _ (List.mem_append_right _ h)) (by decide +kernel))) (goodIn_sub (fun _ h => List.mem_append_right _ h) (by decide +kernel))
set_option maxRecDepth 20000 in
theorem gL_law_L_begin : GoodIn wsL_law (va_wsS RL 93 yL_begin wsL_begin) := goodIn_app (goodIn_of _ (by decide +kernel)) ggL_law_L_begin
set_option maxRecDepth 20000 in
theorem ggL_law_X5_begin : GoodIn wsL_law wsX5_begin := goodIn_r _ [252, 78, 103, 80, 81, 82, 93, 94, 95, 83, 76, 84, 85, 86, 87, 88, 89, 253, 254, 255, 5, 256, 75, 124, 125, 126, 127, 128, 823, 824, 825, 826, 827, 828, 829, 830, 831, 832, 833, 834, 835, 836, 837, 838, 839, 840, 841, 842, 843, 844, 845, 846, 847, 848, 849, 850] (by decide +kernel) (by decide +kernel)
set_option maxRecDepth 20000 in
theorem gL_law_X5_begin : GoodIn wsL_law (wsV RL 96 RX5 yX5_begin wsX5_begin) := goodIn_app (goodIn_of _ (by decide +kernel)) ggL_law_X5_begin
set_option maxRecDepth 20000 in
theorem ggL_law_L_read : GoodIn wsL_law wsL_read := goodIn_ca (goodIn_ca (goodIn_r _ [259, 110, 136, 260, 261, 262, 2, 263, 20, 145, 264, 14, 265, 266, 267, 268, 269, 270, 56, 115, 116, 117, 118, 119, 271, 272, 273, 217, 218, 219, 19, 220, 70, 221, 222, 223, 224, 225, 226, 227, 228, 229, 230, 231, 232, 37, 274, 275, 276, 277, 151, 152, 153, 154, 155, 278, 279, 280, 144, 281, 241, 282, 283, 284, 285, 286, 287, 288, 289, 290, 291, 292, 293, 294, 295, 296, 240, 238, 816, 817, 818, 819, 820, 821, 822, 863, 864, 865, 866, 867, 868, 869, 870, 871, 872, 873, 874, 875, 876, 877, 878, 856, 857, 858, 851, 852, 853, 854, 855] (by decide +kernel) (by decide +kernel)) (goodIn_sub (fun _ h => List.mem_append_left _ (List.mem_append_right _ h)) (by decide +kernel))) (goodIn_sub (fun _ h => List.mem_append_right _ h) (by decide +kernel))
set_option maxRecDepth 20000 in
theorem gL_law_L_read : GoodIn wsL_law (va_wsS RL 97 yL_read wsL_read) := goodIn_app (goodIn_of _ (by decide +kernel)) ggL_law_L_read
set_option maxRecDepth 20000 in
theorem ggL_law_X5_read : GoodIn wsL_law wsX5_read := goodIn_r _ [300, 81, 89, 90, 80, 301, 302, 303, 5, 304, 103, 305, 306, 307, 124, 125, 126, 127, 128, 308, 309, 310, 311, 84, 312, 313, 314, 315, 82, 83, 823, 824, 825, 826, 827, 828, 829, 830, 831, 832, 833, 834, 835, 836, 837, 838, 839, 840, 841, 842, 843, 844, 845, 846, 847, 848, 849, 850] (by decide +kernel) (by decide +kernel)
set_option maxRecDepth 20000 in
theorem gL_law_X5_read : GoodIn wsL_law (wsV RL 100 RX5 yX5_read wsX5_read) := goodIn_app (goodIn_of _ (by decide +kernel)) ggL_law_X5_read
set_option maxRecDepth 20000 in
theorem ggL_law_L_write : GoodIn wsL_law wsL_write := goodIn_ca (goodIn_ca (goodIn_r _ [318, 110, 136, 319, 320, 321, 2, 322, 20, 145, 323, 264, 267, 268, 269, 270, 56, 115, 116, 117, 118, 119, 271, 272, 273, 217, 218, 219, 19, 220, 70, 221, 222, 223, 224, 225, 226, 227, 228, 229, 230, 231, 232, 37, 274, 275, 276, 277, 151, 152, 153, 154, 155, 278, 279, 280, 144, 281, 241, 282, 283, 284, 285, 286, 324, 325, 326, 327, 328, 329, 330, 331, 332, 333, 334, 816, 817, 818, 819, 820, 821, 822, 863, 864, 865, 866, 867, 868, 869, 870, 871, 872, 873, 874, 875, 876, 877, 878, 856, 857, 858] (by decide +kernel) (by decide +kernel)) (goodIn_sub (fun _ h => List.mem_append_left _ (List.mem_append_right _ h)) (by decide +kernel))) (goodIn_sub (fun _ h => List.mem_append_right _ h) (by decide +kernel))
set_option maxRecDepth 20000 in
theorem gL_law_L_write : GoodIn wsL_law (va_wsS RL 101 yL_write wsL_write) := goodIn_app (goodIn_of _ (by decide +kernel)) ggL_law_L_write
set_option maxRecDepth 20000 in
theorem ggL_law_X5_write : GoodIn wsL_law wsX5_write := goodIn_r _ [338, 81, 89, 90, 301, 302, 303, 5, 304, 103, 305, 306, 307, 124, 125, 126, 127, 128, 339, 340, 341, 342, 823, 824, 825, 826, 827, 828, 829, 830, 831, 832, 833, 834, 835, 836, 837, 838, 839, 840, 841, 842, 843, 844, 845, 846, 847, 848, 849, 850] (by decide +kernel) (by decide +kernel)
set_option maxRecDepth 20000 in
theorem gL_law_X5_write : GoodIn wsL_law (wsV RL 104 RX5 yX5_write wsX5_write) := goodIn_app (goodIn_of _ (by decide +kernel)) ggL_law_X5_write
set_option maxRecDepth 20000 in
theorem ggL_law_L_change : GoodIn wsL_law wsL_change := goodIn_ca (goodIn_ca (goodIn_r _ [345, 110, 136, 346, 347, 348, 2, 349, 20, 145, 350, 351, 352, 267, 268, 269, 270, 56, 115, 116, 117, 118, 119, 353, 354, 355, 217, 218, 219, 19, 220, 70, 221, 222, 223, 224, 225, 226, 227, 228, 229, 230, 231, 232, 37, 274, 275, 276, 277, 151, 152, 153, 154, 155, 356, 357, 358, 816, 817, 818, 819, 820, 821, 822, 863, 864, 865, 866, 867, 868, 869, 870, 871, 872, 873, 874, 875, 876, 877, 878, 856, 857, 858] (by decide +kernel) (by decide +kernel)) (goodIn_sub (fun _ h => List.mem_append_left _ (List.mem_append_right _ h)) (by decide +kernel))) (goodIn_sub (fun _ h => List.mem_append_right _ h) (by decide +kernel))
set_option maxRecDepth 20000 in
theorem gL_law_L_change : GoodIn wsL_law (va_wsS RL 105 yL_change wsL_change) := goodIn_app (goodIn_of _ (by decide +kernel)) ggL_law_L_change
set_option maxRecDepth 20000 in
theorem ggL_law_X5_change : GoodIn wsL_law wsX5_change := goodIn_r _ [362, 81, 93, 91, 92, 301, 302, 303, 5, 304, 103, 363, 364, 365, 124, 125, 126, 127, 128, 823, 824, 825, 826, 827, 828, 829, 830, 831, 832, 833, 834, 835, 836, 837, 838, 839, 840, 841, 842, 843, 844, 845, 846, 847, 848, 849, 850] (by decide +kernel) (by decide +kernel)
set_option maxRecDepth 20000 in
theorem gL_law_X5_change : GoodIn wsL_law (wsV RL 108 RX5 yX5_change wsX5_change) := goodIn_app (goodIn_of _ (by decide +kernel)) ggL_law_X5_change
set_option maxRecDepth 20000 in
theorem ggL_law_L_count : GoodIn wsL_law wsL_count := goodIn_ca (goodIn_ca (goodIn_r _ [368, 110, 136, 369, 370, 371, 2, 372, 20, 145, 267, 268, 269, 270, 56, 115, 116, 117, 118, 119, 353, 354, 355, 217, 218, 219, 19, 220, 70, 221, 222, 223, 224, 225, 226, 227, 228, 229, 230, 231, 232, 37, 274, 275, 276, 277, 151, 152, 153, 154, 155, 356, 357, 358, 373, 374, 375, 144, 376, 242, 165, 166, 377, 378, 379, 380, 14, 265, 291, 292, 266, 293, 294, 295, 296, 240, 238, 816, 817, 818, 819, 820, 821, 822, 856, 857, 858, 863, 864, 865, 866, 867, 868, 869, 870, 871, 872, 873, 874, 875, 876, 877, 878, 851, 852, 853, 854, 855] (by decide +kernel) (by decide +kernel)) (goodIn_sub (fun _ h => List.mem_append_left _ (List.mem_append_right _ h)) (by decide +kernel))) (goodIn_sub (fun _ h => List.mem_append_right _ h) (by decide +kernel))
set_option maxRecDepth 20000 in
theorem gL_law_L_count : GoodIn wsL_law (va_wsS RL 109 yL_count wsL_count) := goodIn_app (goodIn_of _ (by decide +kernel)) ggL_law_L_count
set_option maxRecDepth 20000 in
theorem ggL_law_X5_count : GoodIn wsL_law wsX5_count := goodIn_r _ [384, 81, 103, 93, 91, 92, 301, 302, 303, 5, 304, 363, 364, 365, 124, 125, 126, 127, 128, 312, 313, 314, 315, 82, 83, 80, 823, 824, 825, 826, 827, 828, 829, 830, 831, 832, 833, 834, 835, 836, 837, 838, 839, 840, 841, 842, 843, 844, 845, 846, 847, 848, 849, 850] (by decide +kernel) (by decide +kernel)
set_option maxRecDepth 20000 in
theorem gL_law_X5_count : GoodIn wsL_law (wsV RL 111 RX5 yX5_count wsX5_count) := goodIn_app (goodIn_of _ (by decide +kernel)) ggL_law_X5_count
set_option maxRecDepth 20000 in
theorem ggL_law_L_commit : GoodIn wsL_law wsL_commit := goodIn_ca (goodIn_ca (goodIn_r _ [387, 110, 136, 388, 389, 390, 2, 391, 20, 145, 265, 277, 267, 268, 269, 270, 56, 115, 116, 117, 118, 119, 217, 218, 219, 19, 220, 70, 221, 222, 223, 224, 225, 226, 227, 228, 229, 230, 231, 232, 37, 274, 275, 276, 151, 152, 153, 154, 155, 392, 393, 394, 395, 278, 279, 280, 144, 281, 241, 282, 283, 284, 285, 286, 396, 397, 398, 399, 55, 400, 401, 402, 403, 14, 404, 405, 406, 407, 408, 409, 410, 411, 412, 413, 291, 292, 266, 293, 294, 295, 296, 240, 238, 414, 415, 416, 417, 146, 418, 419, 420, 421, 422, 423, 424, 425, 426, 427, 16, 428, 32, 63, 429, 30, 430, 431, 432, 433, 434, 31, 435, 436, 437, 438, 439, 440, 441, 442, 443, 444, 445, 446, 447, 57, 21, 448, 449, 450, 451, 452, 453, 454, 156, 157, 158, 159, 455, 456, 457, 458, 459, 460, 461, 462, 463, 464, 465, 11, 12, 167, 168, 169, 170, 68, 69, 171, 172, 173, 174, 175, 176, 177, 178, 179, 180, 181, 182, 36, 183, 184, 185, 186, 187, 188, 189, 190, 191, 192, 193, 194, 195, 196, 197, 198, 199, 200, 201, 202, 203, 204, 205, 206, 207, 208, 209, 210, 211, 212, 213, 214, 215, 216, 466, 329, 330, 331, 332, 333, 334, 467, 468, 469, 470, 471, 472, 473, 474, 475, 816, 817, 818, 819, 820, 821, 822, 863, 864, 865, 866, 867, 868, 869, 870, 871, 872, 873, 874, 875, 876, 877, 878, 856, 857, 858, 851, 852, 853, 854, 855, 879, 880, 881, 882] (by decide +kernel) (by decide +kernel)) (goodIn_sub (fun _ h => List.mem_append_left _ (List.mem_append_right _ h)) (by decide +kernel))) (goodIn_sub (fun _ h => List.mem_append_right _ h) (by decide +kernel))
set_option maxRecDepth 20000 in
theorem gL_law_L_commit : GoodIn wsL_law (va_wsS RL 112 yL_commit wsL_commit) := goodIn_app (goodIn_of _ (by decide +kernel)) ggL_law_L_commit
set_option maxRecDepth 20000 in
theorem ggL_law_X5_commit : GoodIn wsL_law wsX5_commit := goodIn_r _ [479, 81, 80, 89, 75, 87, 94, 301, 302, 303, 5, 304, 103, 124, 125, 126, 127, 128, 480, 481, 482, 483, 484, 485, 486, 487, 79, 84, 312, 313, 314, 315, 82, 83, 488, 489, 490, 491, 76, 492, 493, 494, 495, 102, 85, 496, 497, 498, 499, 500, 501, 502, 503, 105, 104, 96, 504, 505, 506, 507, 823, 824, 825, 826, 827, 828, 829, 830, 831, 832, 833, 834, 835, 836, 837, 838, 839, 840, 841, 842, 843, 844, 845, 846, 847, 848, 849, 850] (by decide +kernel) (by decide +kernel)
set_option maxRecDepth 20000 in
theorem gL_law_X5_commit : GoodIn wsL_law (wsV RL 114 RX5 yX5_commit wsX5_commit) := goodIn_app (goodIn_of _ (by decide +kernel)) ggL_law_X5_commit
set_option maxRecDepth 20000 in
theorem ggL_law_L_abort : GoodIn wsL_law wsL_abort := goodIn_ca (goodIn_ca (goodIn_r _ [510, 110, 136, 511, 512, 513, 2, 514, 20, 145, 277, 267, 268, 269, 270, 56, 115, 116, 117, 118, 119, 217, 218, 219, 19, 220, 70, 221, 222, 223, 224, 225, 226, 227, 228, 229, 230, 231, 232, 37, 274, 275, 276, 151, 152, 153, 154, 155, 816, 817, 818, 819, 820, 821, 822, 863, 864, 865, 866, 867, 868, 869, 870, 871, 872, 873, 874, 875, 876, 877, 878, 856, 857, 858] (by decide +kernel) (by decide +kernel)) (goodIn_sub (fun _ h => List.mem_append_left _ (List.mem_append_right _ h)) (by decide +kernel))) (goodIn_sub (fun _ h => List.mem_append_right _ h) (by decide +kernel))
set_option maxRecDepth 20000 in
theorem gL_law_L_abort : GoodIn wsL_law (va_wsS RL 115 yL_abort wsL_abort) := goodIn_app (goodIn_of _ (by decide +kernel)) ggL_law_L_abort
set_option maxRecDepth 20000 in
theorem ggL_law_X5_abort : GoodIn wsL_law wsX5_abort := goodIn_r _ [518, 81, 301, 302, 303, 5, 304, 103, 124, 125, 126, 127, 128, 823, 824, 825, 826, 827, 828, 829, 830, 831, 832, 833, 834, 835, 836, 837, 838, 839, 840, 841, 842, 843, 844, 845, 846, 847, 848, 849, 850] (by decide +kernel) (by decide +kernel)
set_option maxRecDepth 20000 in
theorem gL_law_X5_abort : GoodIn wsL_law (wsV RL 117 RX5 yX5_abort wsX5_abort) := goodIn_app (goodIn_of _ (by decide +kernel)) ggL_law_X5_abort
set_option maxRecDepth 20000 in
theorem ggL_law_L_again : GoodIn wsL_law wsL_again := goodIn_ca (goodIn_ca (goodIn_r _ [521, 110, 136, 522, 523, 524, 2, 525, 20, 145, 14, 265, 141, 277, 471, 526, 423, 267, 268, 269, 270, 56, 115, 116, 117, 118, 119, 217, 218, 219, 19, 220, 70, 221, 222, 223, 224, 225, 226, 227, 228, 229, 230, 231, 232, 37, 151, 152, 153, 154, 155, 439, 440, 441, 442, 55, 413, 443, 282, 283, 284, 285, 286, 444, 445, 446, 447, 57, 21, 448, 449, 450, 451, 452, 453, 454, 156, 157, 158, 159, 455, 456, 457, 458, 459, 460, 461, 462, 463, 464, 465, 11, 12, 167, 168, 169, 170, 68, 69, 171, 172, 173, 174, 175, 176, 177, 178, 179, 180, 181, 182, 36, 183, 184, 185, 186, 187, 188, 189, 190, 191, 192, 193, 194, 195, 196, 197, 198, 199, 200, 201, 202, 203, 204, 205, 206, 207, 208, 209, 210, 211, 212, 213, 214, 215, 216, 466, 329, 330, 331, 332, 333, 334, 435, 436, 437, 438, 816, 817, 818, 819, 820, 821, 822, 863, 864, 865, 866, 867, 868, 869, 870, 871, 872, 873, 874, 875, 876, 877, 878, 851, 852, 853, 854, 855, 856, 857, 858, 879, 880, 881, 882] (by decide +kernel) (by decide +kernel)) (goodIn_sub (fun _ h => List.mem_append_left _ (List.mem_append_right _ h)) (by decide +kernel))) (goodIn_sub (fun _ h => List.mem_append_right _ h) (by decide +kernel))
set_option maxRecDepth 20000 in
theorem gL_law_L_again : GoodIn wsL_law (va_wsS RL 118 yL_again wsL_again) := goodIn_app (goodIn_of _ (by decide +kernel)) ggL_law_L_again
set_option maxRecDepth 20000 in
theorem ggL_law_X5_again : GoodIn wsL_law wsX5_again := goodIn_r _ [530, 78, 80, 105, 75, 81, 87, 88, 84, 94, 301, 302, 303, 5, 304, 103, 124, 125, 126, 127, 128, 500, 501, 502, 503, 104, 96, 823, 824, 825, 826, 827, 828, 829, 830, 831, 832, 833, 834, 835, 836, 837, 838, 839, 840, 841, 842, 843, 844, 845, 846, 847, 848, 849, 850] (by decide +kernel) (by decide +kernel)
set_option maxRecDepth 20000 in
theorem gL_law_X5_again : GoodIn wsL_law (wsV RL 120 RX5 yX5_again wsX5_again) := goodIn_app (goodIn_of _ (by decide +kernel)) ggL_law_X5_again
set_option maxRecDepth 20000 in
theorem ggL_law_L_deliver : GoodIn wsL_law wsL_deliver := goodIn_ca (goodIn_r _ [533, 110, 534, 535, 536, 2, 537, 21, 538, 14, 141, 20, 145, 539, 540, 541, 542, 156, 157, 158, 19, 159, 70, 115, 116, 117, 118, 119, 543, 544, 545, 546, 37, 221, 222, 223, 224, 225, 226, 227, 228, 547, 548, 549, 550, 68, 69, 551, 214, 215, 216, 552, 553, 554, 450, 555, 459, 556, 557, 558, 559, 460, 217, 218, 219, 220, 229, 230, 231, 232, 560, 561, 562, 563, 564, 565, 566, 567, 457, 568, 569, 570, 571, 423, 572, 265, 413, 443, 282, 283, 284, 285, 286, 400, 401, 402, 403, 404, 405, 406, 407, 278, 279, 280, 144, 281, 241, 396, 397, 398, 399, 55, 408, 409, 410, 411, 412, 291, 292, 266, 293, 294, 295, 296, 240, 238, 444, 445, 446, 447, 57, 448, 449, 451, 452, 453, 454, 455, 456, 458, 461, 462, 463, 464, 465, 11, 12, 167, 168, 169, 170, 171, 172, 173, 174, 175, 176, 177, 178, 179, 180, 181, 182, 36, 183, 184, 185, 186, 187, 188, 189, 190, 191, 192, 193, 194, 195, 196, 197, 198, 199, 200, 201, 202, 203, 204, 205, 206, 207, 208, 209, 210, 211, 212, 213, 472, 473, 474, 475, 573, 574, 575, 576, 577, 578, 579, 580, 277, 526, 471, 414, 415, 416, 417, 146, 418, 419, 420, 421, 422, 424, 425, 426, 427, 16, 428, 32, 63, 429, 30, 430, 431, 432, 433, 434, 31, 435, 436, 437, 438, 439, 440, 441, 442, 466, 329, 330, 331, 332, 333, 334, 581, 582, 583, 584, 585, 586, 587, 588, 589, 590, 591, 592, 593, 594, 595, 596, 597, 56, 598, 599, 600, 601, 602, 603, 604, 605, 606, 607, 816, 817, 818, 819, 820, 821, 822, 851, 852, 853, 854, 855, 856, 857, 858, 879, 880, 881, 882, 863, 864, 865, 866, 867, 868, 869, 870, 871, 872, 873, 874, 875, 876, 877, 878] (by decide +kernel) (by decide +kernel)) (goodIn_sub (fun _ h => List.mem_append_left _ (List.mem_append_right _ h)) (by decide +kernel))
set_option maxRecDepth 20000 in
theorem gL_law_L_deliver : GoodIn wsL_law (va_wsS RL 121 yL_deliver wsL_deliver) := goodIn_app (goodIn_of _ (by decide +kernel)) ggL_law_L_deliver
set_option maxRecDepth 20000 in
theorem ggL_law_X5_deliver : GoodIn wsL_law wsX5_deliver := goodIn_r _ [611, 104, 96, 78, 84, 86, 81, 88, 85, 124, 125, 126, 5, 127, 128, 612, 613, 614, 615, 480, 481, 482, 483, 89, 75, 484, 485, 486, 487, 79, 103, 312, 313, 314, 315, 82, 83, 80, 500, 501, 502, 503, 105, 504, 505, 506, 507, 616, 617, 618, 619, 87, 496, 497, 498, 499, 620, 621, 622, 623, 488, 489, 490, 491, 76, 492, 493, 494, 495, 102, 624, 625, 626, 627, 628, 629, 630, 631, 823, 824, 825, 826, 827, 828, 829, 830, 831, 832, 833, 834, 835, 836, 837, 838, 839, 840, 841, 842, 843, 844, 845, 846, 847, 848, 849, 850] (by decide +kernel) (by decide +kernel)
set_option maxRecDepth 20000 in
theorem gL_law_X5_deliver : GoodIn wsL_law (wsV RL 123 RX5 yX5_deliver wsX5_deliver) := goodIn_app (goodIn_of _ (by decide +kernel)) ggL_law_X5_deliver
set_option maxRecDepth 20000 in
theorem ggL_law_L_drop : GoodIn wsL_law wsL_drop := goodIn_ca (goodIn_r _ [634, 110, 635, 636, 637, 2, 638, 21, 538, 539, 540, 541, 542, 156, 157, 158, 19, 159, 70, 115, 116, 117, 118, 119, 543, 544, 545, 546, 37, 221, 222, 223, 224, 225, 226, 227, 228, 547, 548, 549, 550, 68, 69, 551, 214, 215, 216, 564, 565, 566, 450, 567, 457, 816, 817, 818, 819, 820, 821, 822, 856, 857, 858, 879, 880, 881, 882] (by decide +kernel) (by decide +kernel)) (goodIn_sub (fun _ h => List.mem_append_left _ (List.mem_append_right _ h)) (by decide +kernel))
set_option maxRecDepth 20000 in
theorem gL_law_L_drop : GoodIn wsL_law (va_wsS RL 124 yL_drop wsL_drop) := goodIn_app (goodIn_of _ (by decide +kernel)) ggL_law_L_drop
set_option maxRecDepth 20000 in
theorem ggL_law_X5_drop : GoodIn wsL_law wsX5_drop := goodIn_r _ [642, 104, 96, 124, 125, 126, 5, 127, 128, 612, 613, 614, 615, 823, 824, 825, 826, 827, 828, 829, 830, 831, 832, 833, 834, 835, 836, 837, 838, 839, 840, 841, 842, 843, 844, 845, 846, 847, 848, 849, 850] (by decide +kernel) (by decide +kernel)
set_option maxRecDepth 20000 in
theorem gL_law_X5_drop : GoodIn wsL_law (wsV RL 126 RX5 yX5_drop wsX5_drop) := goodIn_app (goodIn_of _ (by decide +kernel)) ggL_law_X5_drop
set_option maxRecDepth 20000 in
theorem ggL_law_L_copy : GoodIn wsL_law wsL_copy := goodIn_ca (goodIn_r _ [645, 110, 646, 647, 648, 2, 649, 21, 538, 539, 540, 541, 542, 156, 157, 158, 19, 159, 70, 115, 116, 117, 118, 119, 451, 452, 453, 454, 217, 218, 219, 220, 221, 222, 223, 224, 225, 226, 227, 228, 229, 230, 231, 232, 37, 167, 168, 169, 170, 68, 69, 171, 172, 173, 174, 175, 176, 177, 178, 179, 180, 181, 182, 36, 183, 184, 185, 186, 187, 188, 189, 190, 191, 192, 193, 194, 195, 196, 197, 198, 199, 200, 201, 202, 203, 204, 205, 206, 207, 208, 209, 210, 211, 212, 213, 214, 215, 216, 816, 817, 818, 819, 820, 821, 822, 856, 857, 858] (by decide +kernel) (by decide +kernel)) (goodIn_sub (fun _ h => List.mem_append_left _ (List.mem_append_right _ h)) (by decide +kernel))
set_option maxRecDepth 20000 in
theorem gL_law_L_copy : GoodIn wsL_law (va_wsS RL 127 yL_copy wsL_copy) := goodIn_app (goodIn_of _ (by decide +kernel)) ggL_law_L_copy
set_option maxRecDepth 20000 in
theorem ggL_law_X5_copy : GoodIn wsL_law wsX5_copy := goodIn_r _ [653, 104, 96, 124, 125, 126, 5, 127, 128, 823, 824, 825, 826, 827, 828, 829, 830, 831, 832, 833, 834, 835, 836, 837, 838, 839, 840, 841, 842, 843, 844, 845, 846, 847, 848, 849, 850] (by decide +kernel) (by decide +kernel)
set_option maxRecDepth 20000 in
theorem gL_law_X5_copy : GoodIn wsL_law (wsV RL 129 RX5 yX5_copy wsX5_copy) := goodIn_app (goodIn_of _ (by decide +kernel)) ggL_law_X5_copy
set_option maxRecDepth 20000 in
theorem ggL_law_L_byteOf : GoodIn wsL_law wsL_byteOf := goodIn_ca (goodIn_r _ [656, 110, 657, 658, 659, 2, 660, 21, 538, 25, 20, 145, 661, 539, 540, 541, 542, 156, 157, 158, 19, 159, 70, 115, 116, 117, 118, 119, 217, 218, 219, 220, 221, 222, 223, 224, 225, 226, 227, 228, 229, 230, 231, 232, 37, 662, 663, 664, 24, 665, 666, 667, 668, 669, 556, 557, 558, 450, 559, 460, 670, 671, 672, 673, 413, 418, 564, 565, 566, 567, 457, 674, 675, 676, 677, 678, 573, 574, 575, 576, 458, 552, 553, 554, 555, 459, 679, 680, 681, 682, 683, 684, 685, 686, 687, 55, 266, 688, 689, 690, 691, 404, 405, 406, 407, 278, 279, 280, 144, 281, 241, 282, 283, 284, 285, 286, 396, 397, 398, 399, 692, 693, 694, 695, 264, 324, 325, 326, 327, 328, 329, 330, 331, 332, 333, 334, 696, 697, 698, 699, 700, 701, 702, 703, 704, 350, 351, 352, 705, 706, 707, 708, 816, 817, 818, 819, 820, 821, 822, 859, 860, 861, 862, 856, 857, 858, 879, 880, 881, 882, 863, 864, 865, 866, 867, 868, 869, 870, 871, 872, 873, 874, 875, 876, 877, 878] (by decide +kernel) (by decide +kernel)) (goodIn_sub (fun _ h => List.mem_append_left _ (List.mem_append_right _ h)) (by decide +kernel))
set_option maxRecDepth 20000 in
theorem gL_law_L_byteOf : GoodIn wsL_law (va_wsS RL 130 yL_byteOf wsL_byteOf) := goodIn_app (goodIn_of _ (by decide +kernel)) ggL_law_L_byteOf
set_option maxRecDepth 20000 in
theorem ggL_law_X5_byteOf : GoodIn wsL_law wsX5_byteOf := goodIn_r _ [712, 104, 96, 713, 82, 89, 75, 97, 90, 93, 91, 92, 714, 124, 125, 126, 5, 127, 128, 715, 716, 717, 718, 719, 720, 721, 722, 723, 724, 725, 726, 83, 823, 824, 825, 826, 827, 828, 829, 830, 831, 832, 833, 834, 835, 836, 837, 838, 839, 840, 841, 842, 843, 844, 845, 846, 847, 848, 849, 850] (by decide +kernel) (by decide +kernel)
set_option maxRecDepth 20000 in
theorem gL_law_X5_byteOf : GoodIn wsL_law (wsV RL 132 RX5 yX5_byteOf wsX5_byteOf) := goodIn_app (goodIn_of _ (by decide +kernel)) ggL_law_X5_byteOf
set_option maxRecDepth 20000 in
theorem ggL_law_L_crash : GoodIn wsL_law wsL_crash := goodIn_ca (goodIn_ca (goodIn_r _ [729, 110, 136, 730, 731, 732, 2, 733, 14, 141, 56, 20, 145, 424, 265, 147, 148, 149, 150, 55, 115, 116, 117, 118, 119, 151, 152, 153, 154, 155, 217, 218, 219, 19, 220, 70, 221, 222, 223, 224, 225, 226, 227, 228, 229, 230, 231, 232, 37, 284, 285, 286, 734, 735, 736, 277, 737, 816, 817, 818, 819, 820, 821, 822, 851, 852, 853, 854, 855, 863, 864, 865, 866, 867, 868, 869, 870, 871, 872, 873, 874, 875, 876, 877, 878, 856, 857, 858] (by decide +kernel) (by decide +kernel)) (goodIn_sub (fun _ h => List.mem_append_left _ (List.mem_append_right _ h)) (by decide +kernel))) (goodIn_sub (fun _ h => List.mem_append_right _ h) (by decide +kernel))
set_option maxRecDepth 20000 in
theorem gL_law_L_crash : GoodIn wsL_law (va_wsS RL 133 yL_crash wsL_crash) := goodIn_app (goodIn_of _ (by decide +kernel)) ggL_law_L_crash
set_option maxRecDepth 20000 in
theorem ggL_law_X5_crash : GoodIn wsL_law wsX5_crash := goodIn_r _ [741, 78, 103, 85, 80, 81, 95, 253, 254, 255, 5, 256, 75, 124, 125, 126, 127, 128, 823, 824, 825, 826, 827, 828, 829, 830, 831, 832, 833, 834, 835, 836, 837, 838, 839, 840, 841, 842, 843, 844, 845, 846, 847, 848, 849, 850] (by decide +kernel) (by decide +kernel)
set_option maxRecDepth 20000 in
theorem gL_law_X5_crash : GoodIn wsL_law (wsV RL 135 RX5 yX5_crash wsX5_crash) := goodIn_app (goodIn_of _ (by decide +kernel)) ggL_law_X5_crash
set_option maxRecDepth 20000 in
theorem ggL_law_L_restart : GoodIn wsL_law wsL_restart := goodIn_ca (goodIn_ca (goodIn_r _ [744, 110, 136, 745, 746, 747, 2, 748, 14, 141, 56, 20, 145, 265, 737, 147, 148, 149, 150, 55, 115, 116, 117, 118, 119, 151, 152, 153, 154, 155, 217, 218, 219, 19, 220, 70, 221, 222, 223, 224, 225, 226, 227, 228, 229, 230, 231, 232, 37, 585, 586, 587, 588, 413, 471, 589, 432, 433, 16, 434, 31, 439, 440, 441, 442, 443, 282, 283, 284, 285, 286, 444, 445, 446, 447, 57, 21, 448, 449, 450, 451, 452, 453, 454, 156, 157, 158, 159, 455, 456, 457, 458, 459, 460, 461, 462, 463, 464, 465, 11, 12, 167, 168, 169, 170, 68, 69, 171, 172, 173, 174, 175, 176, 177, 178, 179, 180, 181, 182, 36, 183, 184, 185, 186, 187, 188, 189, 190, 191, 192, 193, 194, 195, 196, 197, 198, 199, 200, 201, 202, 203, 204, 205, 206, 207, 208, 209, 210, 211, 212, 213, 214, 215, 216, 466, 329, 330, 331, 332, 333, 334, 816, 817, 818, 819, 820, 821, 822, 851, 852, 853, 854, 855, 863, 864, 865, 866, 867, 868, 869, 870, 871, 872, 873, 874, 875, 876, 877, 878, 856, 857, 858, 879, 880, 881, 882] (by decide +kernel) (by decide +kernel)) (goodIn_sub (fun _ h => List.mem_append_left _ (List.mem_append_right _ h)) (by decide +kernel))) (goodIn_sub (fun _ h => List.mem_append_right _ h) (by decide +kernel))
set_option maxRecDepth 20000 in
theorem gL_law_L_restart : GoodIn wsL_law (va_wsS RL 136 yL_restart wsL_restart) := goodIn_app (goodIn_of _ (by decide +kernel)) ggL_law_L_restart
set_option maxRecDepth 20000 in
theorem ggL_law_X5_restart : GoodIn wsL_law wsX5_restart := goodIn_r _ [752, 78, 103, 80, 95, 253, 254, 255, 5, 256, 75, 124, 125, 126, 127, 128, 616, 617, 618, 619, 87, 496, 497, 498, 499, 79, 500, 501, 502, 503, 105, 104, 96, 823, 824, 825, 826, 827, 828, 829, 830, 831, 832, 833, 834, 835, 836, 837, 838, 839, 840, 841, 842, 843, 844, 845, 846, 847, 848, 849, 850] (by decide +kernel) (by decide +kernel)
set_option maxRecDepth 20000 in
theorem gL_law_X5_restart : GoodIn wsL_law (wsV RL 138 RX5 yX5_restart wsX5_restart) := goodIn_app (goodIn_of _ (by decide +kernel)) ggL_law_X5_restart
set_option maxRecDepth 20000 in
theorem ggL_law_L_about : GoodIn wsL_law wsL_about := goodIn_ca (goodIn_r _ [755, 110, 756, 757, 758, 2, 759, 118, 119, 20, 145, 277, 265, 418, 423, 526, 267, 268, 269, 270, 56, 115, 116, 117, 217, 218, 219, 19, 220, 70, 221, 222, 223, 224, 225, 226, 227, 228, 229, 230, 231, 232, 37, 466, 329, 330, 331, 332, 333, 334, 816, 817, 818, 819, 820, 821, 822, 863, 864, 865, 866, 867, 868, 869, 870, 871, 872, 873, 874, 875, 876, 877, 878, 856, 857, 858] (by decide +kernel) (by decide +kernel)) (goodIn_sub (fun _ h => List.mem_append_left _ (List.mem_append_right _ h)) (by decide +kernel))
set_option maxRecDepth 20000 in
theorem gL_law_L_about : GoodIn wsL_law (va_wsS RL 139 yL_about wsL_about) := goodIn_app (goodIn_of _ (by decide +kernel)) ggL_law_L_about
set_option maxRecDepth 20000 in
theorem ggL_law_X5_about : GoodIn wsL_law wsX5_about := goodIn_r _ [763, 81, 80, 82, 75, 84, 88, 301, 302, 303, 5, 304, 103, 124, 125, 126, 127, 128, 823, 824, 825, 826, 827, 828, 829, 830, 831, 832, 833, 834, 835, 836, 837, 838, 839, 840, 841, 842, 843, 844, 845, 846, 847, 848, 849, 850] (by decide +kernel) (by decide +kernel)
set_option maxRecDepth 20000 in
theorem gL_law_X5_about : GoodIn wsL_law (wsV RL 141 RX5 yX5_about wsX5_about) := goodIn_app (goodIn_of _ (by decide +kernel)) ggL_law_X5_about
set_option maxRecDepth 20000 in
theorem ggL_law_L_vector : GoodIn wsL_law wsL_vector := goodIn_ca (goodIn_r _ [766, 110, 767, 768, 769, 2, 770, 14, 146, 147, 148, 149, 150, 55, 115, 116, 117, 118, 119, 816, 817, 818, 819, 820, 821, 822, 851, 852, 853, 854, 855] (by decide +kernel) (by decide +kernel)) (goodIn_sub (fun _ h => List.mem_append_left _ (List.mem_append_right _ h)) (by decide +kernel))
set_option maxRecDepth 20000 in
theorem gL_law_L_vector : GoodIn wsL_law (va_wsS RL 142 yL_vector wsL_vector) := goodIn_app (goodIn_of _ (by decide +kernel)) ggL_law_L_vector
set_option maxRecDepth 20000 in
theorem ggL_law_X5_vector : GoodIn wsL_law wsX5_vector := goodIn_r _ [774, 76, 253, 254, 255, 5, 256, 75, 124, 125, 126, 127, 128, 823, 824, 825, 826, 827, 828, 829, 830, 831, 832, 833, 834, 835, 836, 837, 838, 839, 840, 841, 842, 843, 844, 845, 846, 847, 848, 849, 850] (by decide +kernel) (by decide +kernel)
set_option maxRecDepth 20000 in
theorem gL_law_X5_vector : GoodIn wsL_law (wsV RL 144 RX5 yX5_vector wsX5_vector) := goodIn_app (goodIn_of _ (by decide +kernel)) ggL_law_X5_vector
set_option maxRecDepth 20000 in
theorem ggL_law_L_value : GoodIn wsL_law wsL_value := goodIn_ca (goodIn_r _ [777, 110, 778, 779, 780, 2, 781, 14, 146, 147, 148, 149, 150, 55, 115, 116, 117, 118, 119, 271, 272, 273, 287, 288, 289, 290, 291, 20, 292, 145, 264, 217, 218, 219, 19, 220, 70, 221, 222, 223, 224, 225, 226, 227, 228, 229, 230, 231, 232, 37, 278, 279, 280, 144, 281, 241, 282, 283, 284, 285, 286, 293, 294, 295, 296, 240, 238, 816, 817, 818, 819, 820, 821, 822, 851, 852, 853, 854, 855, 863, 864, 865, 866, 867, 868, 869, 870, 871, 872, 873, 874, 875, 876, 877, 878, 856, 857, 858] (by decide +kernel) (by decide +kernel)) (goodIn_sub (fun _ h => List.mem_append_left _ (List.mem_append_right _ h)) (by decide +kernel))
set_option maxRecDepth 20000 in
theorem gL_law_L_value : GoodIn wsL_law (va_wsS RL 145 yL_value wsL_value) := goodIn_app (goodIn_of _ (by decide +kernel)) ggL_law_L_value
set_option maxRecDepth 20000 in
theorem ggL_law_X5_value : GoodIn wsL_law wsX5_value := goodIn_r _ [785, 253, 254, 255, 5, 256, 75, 305, 306, 307, 124, 125, 126, 127, 128, 308, 309, 310, 311, 103, 89, 84, 90, 312, 313, 314, 315, 81, 82, 83, 80, 823, 824, 825, 826, 827, 828, 829, 830, 831, 832, 833, 834, 835, 836, 837, 838, 839, 840, 841, 842, 843, 844, 845, 846, 847, 848, 849, 850] (by decide +kernel) (by decide +kernel)
set_option maxRecDepth 20000 in
theorem gL_law_X5_value : GoodIn wsL_law (wsV RL 147 RX5 yX5_value wsX5_value) := goodIn_app (goodIn_of _ (by decide +kernel)) ggL_law_X5_value
set_option maxRecDepth 20000 in
theorem ggL_law_L_locked : GoodIn wsL_law wsL_locked := goodIn_ca (goodIn_r _ [788, 110, 789, 790, 791, 2, 792, 14, 412, 147, 148, 149, 150, 55, 115, 116, 117, 118, 119, 271, 272, 273, 816, 817, 818, 819, 820, 821, 822, 851, 852, 853, 854, 855] (by decide +kernel) (by decide +kernel)) (goodIn_sub (fun _ h => List.mem_append_left _ (List.mem_append_right _ h)) (by decide +kernel))
set_option maxRecDepth 20000 in
theorem gL_law_L_locked : GoodIn wsL_law (va_wsS RL 148 yL_locked wsL_locked) := goodIn_app (goodIn_of _ (by decide +kernel)) ggL_law_L_locked
set_option maxRecDepth 20000 in
theorem ggL_law_X5_locked : GoodIn wsL_law wsX5_locked := goodIn_r _ [796, 79, 253, 254, 255, 5, 256, 75, 305, 306, 307, 124, 125, 126, 127, 128, 823, 824, 825, 826, 827, 828, 829, 830, 831, 832, 833, 834, 835, 836, 837, 838, 839, 840, 841, 842, 843, 844, 845, 846, 847, 848, 849, 850] (by decide +kernel) (by decide +kernel)
set_option maxRecDepth 20000 in
theorem gL_law_X5_locked : GoodIn wsL_law (wsV RL 150 RX5 yX5_locked wsX5_locked) := goodIn_app (goodIn_of _ (by decide +kernel)) ggL_law_X5_locked
set_option maxRecDepth 20000 in
theorem ggL_law_L_total : GoodIn wsL_law wsL_total := goodIn_ca (goodIn_r _ [799, 110, 800, 801, 802, 2, 803, 118, 119, 56, 21, 57, 156, 157, 158, 19, 159, 70, 804, 805, 806, 807, 20, 145, 424, 217, 218, 219, 220, 221, 222, 223, 224, 225, 226, 227, 228, 229, 230, 231, 232, 37, 466, 329, 330, 331, 332, 333, 334, 808, 809, 810, 811, 55, 14, 141, 816, 817, 818, 819, 820, 821, 822, 856, 857, 858, 863, 864, 865, 866, 867, 868, 869, 870, 871, 872, 873, 874, 875, 876, 877, 878, 851, 852, 853, 854, 855] (by decide +kernel) (by decide +kernel)) (goodIn_sub (fun _ h => List.mem_append_left _ (List.mem_append_right _ h)) (by decide +kernel))
set_option maxRecDepth 20000 in
theorem gL_law_L_total : GoodIn wsL_law (va_wsS RL 151 yL_total wsL_total) := goodIn_app (goodIn_of _ (by decide +kernel)) ggL_law_L_total
set_option maxRecDepth 20000 in
theorem ggL_law_X5_total : GoodIn wsL_law wsX5_total := goodIn_r _ [815, 103, 104, 105, 85, 75, 78, 124, 125, 126, 5, 127, 128, 823, 824, 825, 826, 827, 828, 829, 830, 831, 832, 833, 834, 835, 836, 837, 838, 839, 840, 841, 842, 843, 844, 845, 846, 847, 848, 849, 850] (by decide +kernel) (by decide +kernel)
set_option maxRecDepth 20000 in
theorem gL_law_X5_total : GoodIn wsL_law (wsV RL 153 RX5 yX5_total wsX5_total) := goodIn_app (goodIn_of _ (by decide +kernel)) ggL_law_X5_total
theorem dL_law_0 : decode cL_law 0 = .ok (.new 8, 3) := by decide +kernel
theorem dL_law_3 : decode cL_law 3 = .ok (.dup, 1) := by decide +kernel
theorem dL_law_4 : decode cL_law 4 = .ok (.invokespecial 79, 3) := by decide +kernel
theorem dL_law_7 : decode cL_law 7 = .ok (.astore_n 1, 1) := by decide +kernel
theorem dL_law_8 : decode cL_law 8 = .ok (.new 80, 3) := by decide +kernel
theorem dL_law_11 : decode cL_law 11 = .ok (.dup, 1) := by decide +kernel
theorem dL_law_12 : decode cL_law 12 = .ok (.invokespecial 82, 3) := by decide +kernel
theorem dL_law_15 : decode cL_law 15 = .ok (.astore_n 2, 1) := by decide +kernel
theorem dL_law_16 : decode cL_law 16 = .ok (.iconst 1, 1) := by decide +kernel
theorem dL_law_17 : decode cL_law 17 = .ok (.newarray .long, 2) := by decide +kernel
theorem dL_law_19 : decode cL_law 19 = .ok (.astore_n 3, 1) := by decide +kernel
theorem dL_law_20 : decode cL_law 20 = .ok (.iconst 0, 1) := by decide +kernel
theorem dL_law_21 : decode cL_law 21 = .ok (.istore 4, 2) := by decide +kernel
theorem dL_law_23 : decode cL_law 23 = .ok (.iload 4, 2) := by decide +kernel
theorem dL_law_25 : decode cL_law 25 = .ok (.aload_n 0, 1) := by decide +kernel
theorem dL_law_26 : decode cL_law 26 = .ok (.arraylength, 1) := by decide +kernel
theorem dL_law_27 : decode cL_law 27 = .ok (.iconst 5, 1) := by decide +kernel
theorem dL_law_28 : decode cL_law 28 = .ok (.isub, 1) := by decide +kernel
theorem dL_law_29 : decode cL_law 29 = .ok (.if_icmp .gt 1312, 3) := by decide +kernel
theorem dL_law_32 : decode cL_law 32 = .ok (.aload_n 0, 1) := by decide +kernel
theorem dL_law_33 : decode cL_law 33 = .ok (.iload 4, 2) := by decide +kernel
theorem dL_law_35 : decode cL_law 35 = .ok (.iaload, 1) := by decide +kernel
theorem dL_law_36 : decode cL_law 36 = .ok (.bipush 31, 2) := by decide +kernel
theorem dL_law_38 : decode cL_law 38 = .ok (.iand, 1) := by decide +kernel
theorem dL_law_39 : decode cL_law 39 = .ok (.tableswitch 1296 0 19 #[93, 129, 185, 253, 333, 425, 505, 561, 597, 653, 709, 765, 828, 896, 932, 968, 1036, 1104, 1172, 1240], 93) := by decide +kernel
theorem dL_law_132 : decode cL_law 132 = .ok (.aload_n 1, 1) := by decide +kernel
theorem dL_law_133 : decode cL_law 133 = .ok (.aload_n 0, 1) := by decide +kernel
theorem dL_law_134 : decode cL_law 134 = .ok (.iload 4, 2) := by decide +kernel
theorem dL_law_136 : decode cL_law 136 = .ok (.iconst 1, 1) := by decide +kernel
theorem dL_law_137 : decode cL_law 137 = .ok (.iadd, 1) := by decide +kernel
theorem dL_law_138 : decode cL_law 138 = .ok (.iaload, 1) := by decide +kernel
theorem dL_law_139 : decode cL_law 139 = .ok (.invokestatic 83, 3) := by decide +kernel
theorem dL_law_142 : decode cL_law 142 = .ok (.istore 5, 2) := by decide +kernel
theorem dL_law_144 : decode cL_law 144 = .ok (.aload_n 2, 1) := by decide +kernel
theorem dL_law_145 : decode cL_law 145 = .ok (.aload_n 0, 1) := by decide +kernel
theorem dL_law_146 : decode cL_law 146 = .ok (.iload 4, 2) := by decide +kernel
theorem dL_law_148 : decode cL_law 148 = .ok (.iconst 1, 1) := by decide +kernel
theorem dL_law_149 : decode cL_law 149 = .ok (.iadd, 1) := by decide +kernel
theorem dL_law_150 : decode cL_law 150 = .ok (.iaload, 1) := by decide +kernel
theorem dL_law_151 : decode cL_law 151 = .ok (.invokevirtual 88, 3) := by decide +kernel
theorem dL_law_154 : decode cL_law 154 = .ok (.aload_n 2, 1) := by decide +kernel
theorem dL_law_155 : decode cL_law 155 = .ok (.invokevirtual 89, 3) := by decide +kernel
theorem dL_law_158 : decode cL_law 158 = .ok (.iload 5, 2) := by decide +kernel
theorem dL_law_160 : decode cL_law 160 = .ok (.if_icmp .eq 5, 3) := by decide +kernel
theorem dL_law_163 : decode cL_law 163 = .ok (.iconst 0, 1) := by decide +kernel
theorem dL_law_164 : decode cL_law 164 = .ok (.ireturn, 1) := by decide +kernel
theorem dL_law_165 : decode cL_law 165 = .ok (.goto 1170, 3) := by decide +kernel
theorem dL_law_168 : decode cL_law 168 = .ok (.aload_n 1, 1) := by decide +kernel
theorem dL_law_169 : decode cL_law 169 = .ok (.aload_n 0, 1) := by decide +kernel
theorem dL_law_170 : decode cL_law 170 = .ok (.iload 4, 2) := by decide +kernel
theorem dL_law_172 : decode cL_law 172 = .ok (.iconst 1, 1) := by decide +kernel
theorem dL_law_173 : decode cL_law 173 = .ok (.iadd, 1) := by decide +kernel
theorem dL_law_174 : decode cL_law 174 = .ok (.iaload, 1) := by decide +kernel
theorem dL_law_175 : decode cL_law 175 = .ok (.aload_n 3, 1) := by decide +kernel
theorem dL_law_176 : decode cL_law 176 = .ok (.invokestatic 93, 3) := by decide +kernel
theorem dL_law_179 : decode cL_law 179 = .ok (.istore 5, 2) := by decide +kernel
theorem dL_law_181 : decode cL_law 181 = .ok (.aload_n 2, 1) := by decide +kernel
theorem dL_law_182 : decode cL_law 182 = .ok (.aload_n 0, 1) := by decide +kernel
theorem dL_law_183 : decode cL_law 183 = .ok (.iload 4, 2) := by decide +kernel
theorem dL_law_185 : decode cL_law 185 = .ok (.iconst 1, 1) := by decide +kernel
theorem dL_law_186 : decode cL_law 186 = .ok (.iadd, 1) := by decide +kernel
theorem dL_law_187 : decode cL_law 187 = .ok (.iaload, 1) := by decide +kernel
theorem dL_law_188 : decode cL_law 188 = .ok (.invokevirtual 96, 3) := by decide +kernel
theorem dL_law_191 : decode cL_law 191 = .ok (.istore 6, 2) := by decide +kernel
theorem dL_law_193 : decode cL_law 193 = .ok (.aload_n 2, 1) := by decide +kernel
theorem dL_law_194 : decode cL_law 194 = .ok (.invokevirtual 89, 3) := by decide +kernel
theorem dL_law_197 : decode cL_law 197 = .ok (.iload 5, 2) := by decide +kernel
theorem dL_law_199 : decode cL_law 199 = .ok (.if_icmp .eq 5, 3) := by decide +kernel
theorem dL_law_202 : decode cL_law 202 = .ok (.iconst 0, 1) := by decide +kernel
theorem dL_law_203 : decode cL_law 203 = .ok (.ireturn, 1) := by decide +kernel
theorem dL_law_204 : decode cL_law 204 = .ok (.iload 5, 2) := by decide +kernel
theorem dL_law_206 : decode cL_law 206 = .ok (.ifCond .ne 15, 3) := by decide +kernel
theorem dL_law_209 : decode cL_law 209 = .ok (.aload_n 3, 1) := by decide +kernel
theorem dL_law_210 : decode cL_law 210 = .ok (.iconst 0, 1) := by decide +kernel
theorem dL_law_211 : decode cL_law 211 = .ok (.laload, 1) := by decide +kernel
theorem dL_law_212 : decode cL_law 212 = .ok (.iload 6, 2) := by decide +kernel
theorem dL_law_214 : decode cL_law 214 = .ok (.i2l, 1) := by decide +kernel
theorem dL_law_215 : decode cL_law 215 = .ok (.lcmp, 1) := by decide +kernel
theorem dL_law_216 : decode cL_law 216 = .ok (.ifCond .eq 5, 3) := by decide +kernel
theorem dL_law_219 : decode cL_law 219 = .ok (.iconst 0, 1) := by decide +kernel
theorem dL_law_220 : decode cL_law 220 = .ok (.ireturn, 1) := by decide +kernel
theorem dL_law_221 : decode cL_law 221 = .ok (.goto 1114, 3) := by decide +kernel
theorem dL_law_224 : decode cL_law 224 = .ok (.aload_n 1, 1) := by decide +kernel
theorem dL_law_225 : decode cL_law 225 = .ok (.aload_n 0, 1) := by decide +kernel
theorem dL_law_226 : decode cL_law 226 = .ok (.iload 4, 2) := by decide +kernel
theorem dL_law_228 : decode cL_law 228 = .ok (.iconst 1, 1) := by decide +kernel
theorem dL_law_229 : decode cL_law 229 = .ok (.iadd, 1) := by decide +kernel
theorem dL_law_230 : decode cL_law 230 = .ok (.iaload, 1) := by decide +kernel
theorem dL_law_231 : decode cL_law 231 = .ok (.aload_n 0, 1) := by decide +kernel
theorem dL_law_232 : decode cL_law 232 = .ok (.iload 4, 2) := by decide +kernel
theorem dL_law_234 : decode cL_law 234 = .ok (.iconst 2, 1) := by decide +kernel
theorem dL_law_235 : decode cL_law 235 = .ok (.iadd, 1) := by decide +kernel
theorem dL_law_236 : decode cL_law 236 = .ok (.iaload, 1) := by decide +kernel
theorem dL_law_237 : decode cL_law 237 = .ok (.aload_n 3, 1) := by decide +kernel
theorem dL_law_238 : decode cL_law 238 = .ok (.invokestatic 97, 3) := by decide +kernel
theorem dL_law_241 : decode cL_law 241 = .ok (.istore 5, 2) := by decide +kernel
theorem dL_law_243 : decode cL_law 243 = .ok (.aload_n 2, 1) := by decide +kernel
theorem dL_law_244 : decode cL_law 244 = .ok (.aload_n 0, 1) := by decide +kernel
theorem dL_law_245 : decode cL_law 245 = .ok (.iload 4, 2) := by decide +kernel
theorem dL_law_247 : decode cL_law 247 = .ok (.iconst 1, 1) := by decide +kernel
theorem dL_law_248 : decode cL_law 248 = .ok (.iadd, 1) := by decide +kernel
theorem dL_law_249 : decode cL_law 249 = .ok (.iaload, 1) := by decide +kernel
theorem dL_law_250 : decode cL_law 250 = .ok (.aload_n 0, 1) := by decide +kernel
theorem dL_law_251 : decode cL_law 251 = .ok (.iload 4, 2) := by decide +kernel
theorem dL_law_253 : decode cL_law 253 = .ok (.iconst 2, 1) := by decide +kernel
theorem dL_law_254 : decode cL_law 254 = .ok (.iadd, 1) := by decide +kernel
theorem dL_law_255 : decode cL_law 255 = .ok (.iaload, 1) := by decide +kernel
theorem dL_law_256 : decode cL_law 256 = .ok (.invokevirtual 100, 3) := by decide +kernel
theorem dL_law_259 : decode cL_law 259 = .ok (.istore 6, 2) := by decide +kernel
theorem dL_law_261 : decode cL_law 261 = .ok (.aload_n 2, 1) := by decide +kernel
theorem dL_law_262 : decode cL_law 262 = .ok (.invokevirtual 89, 3) := by decide +kernel
theorem dL_law_265 : decode cL_law 265 = .ok (.iload 5, 2) := by decide +kernel
theorem dL_law_267 : decode cL_law 267 = .ok (.if_icmp .eq 5, 3) := by decide +kernel
theorem dL_law_270 : decode cL_law 270 = .ok (.iconst 0, 1) := by decide +kernel
theorem dL_law_271 : decode cL_law 271 = .ok (.ireturn, 1) := by decide +kernel
theorem dL_law_272 : decode cL_law 272 = .ok (.iload 5, 2) := by decide +kernel
theorem dL_law_274 : decode cL_law 274 = .ok (.ifCond .ne 15, 3) := by decide +kernel
theorem dL_law_277 : decode cL_law 277 = .ok (.aload_n 3, 1) := by decide +kernel
theorem dL_law_278 : decode cL_law 278 = .ok (.iconst 0, 1) := by decide +kernel
theorem dL_law_279 : decode cL_law 279 = .ok (.laload, 1) := by decide +kernel
theorem dL_law_280 : decode cL_law 280 = .ok (.iload 6, 2) := by decide +kernel
theorem dL_law_282 : decode cL_law 282 = .ok (.i2l, 1) := by decide +kernel
theorem dL_law_283 : decode cL_law 283 = .ok (.lcmp, 1) := by decide +kernel
theorem dL_law_284 : decode cL_law 284 = .ok (.ifCond .eq 5, 3) := by decide +kernel
theorem dL_law_287 : decode cL_law 287 = .ok (.iconst 0, 1) := by decide +kernel
theorem dL_law_288 : decode cL_law 288 = .ok (.ireturn, 1) := by decide +kernel
theorem dL_law_289 : decode cL_law 289 = .ok (.goto 1046, 3) := by decide +kernel
theorem dL_law_292 : decode cL_law 292 = .ok (.aload_n 1, 1) := by decide +kernel
theorem dL_law_293 : decode cL_law 293 = .ok (.aload_n 0, 1) := by decide +kernel
theorem dL_law_294 : decode cL_law 294 = .ok (.iload 4, 2) := by decide +kernel
theorem dL_law_296 : decode cL_law 296 = .ok (.iconst 1, 1) := by decide +kernel
theorem dL_law_297 : decode cL_law 297 = .ok (.iadd, 1) := by decide +kernel
theorem dL_law_298 : decode cL_law 298 = .ok (.iaload, 1) := by decide +kernel
theorem dL_law_299 : decode cL_law 299 = .ok (.aload_n 0, 1) := by decide +kernel
theorem dL_law_300 : decode cL_law 300 = .ok (.iload 4, 2) := by decide +kernel
theorem dL_law_302 : decode cL_law 302 = .ok (.iconst 2, 1) := by decide +kernel
theorem dL_law_303 : decode cL_law 303 = .ok (.iadd, 1) := by decide +kernel
theorem dL_law_304 : decode cL_law 304 = .ok (.iaload, 1) := by decide +kernel
theorem dL_law_305 : decode cL_law 305 = .ok (.aload_n 0, 1) := by decide +kernel
theorem dL_law_306 : decode cL_law 306 = .ok (.iload 4, 2) := by decide +kernel
theorem dL_law_308 : decode cL_law 308 = .ok (.iconst 3, 1) := by decide +kernel
theorem dL_law_309 : decode cL_law 309 = .ok (.iadd, 1) := by decide +kernel
theorem dL_law_310 : decode cL_law 310 = .ok (.iaload, 1) := by decide +kernel
theorem dL_law_311 : decode cL_law 311 = .ok (.aload_n 3, 1) := by decide +kernel
theorem dL_law_312 : decode cL_law 312 = .ok (.invokestatic 101, 3) := by decide +kernel
theorem dL_law_315 : decode cL_law 315 = .ok (.istore 5, 2) := by decide +kernel
theorem dL_law_317 : decode cL_law 317 = .ok (.aload_n 2, 1) := by decide +kernel
theorem dL_law_318 : decode cL_law 318 = .ok (.aload_n 0, 1) := by decide +kernel
theorem dL_law_319 : decode cL_law 319 = .ok (.iload 4, 2) := by decide +kernel
theorem dL_law_321 : decode cL_law 321 = .ok (.iconst 1, 1) := by decide +kernel
theorem dL_law_322 : decode cL_law 322 = .ok (.iadd, 1) := by decide +kernel
theorem dL_law_323 : decode cL_law 323 = .ok (.iaload, 1) := by decide +kernel
theorem dL_law_324 : decode cL_law 324 = .ok (.aload_n 0, 1) := by decide +kernel
theorem dL_law_325 : decode cL_law 325 = .ok (.iload 4, 2) := by decide +kernel
theorem dL_law_327 : decode cL_law 327 = .ok (.iconst 2, 1) := by decide +kernel
theorem dL_law_328 : decode cL_law 328 = .ok (.iadd, 1) := by decide +kernel
theorem dL_law_329 : decode cL_law 329 = .ok (.iaload, 1) := by decide +kernel
theorem dL_law_330 : decode cL_law 330 = .ok (.aload_n 0, 1) := by decide +kernel
theorem dL_law_331 : decode cL_law 331 = .ok (.iload 4, 2) := by decide +kernel
theorem dL_law_333 : decode cL_law 333 = .ok (.iconst 3, 1) := by decide +kernel
theorem dL_law_334 : decode cL_law 334 = .ok (.iadd, 1) := by decide +kernel
theorem dL_law_335 : decode cL_law 335 = .ok (.iaload, 1) := by decide +kernel
theorem dL_law_336 : decode cL_law 336 = .ok (.invokevirtual 104, 3) := by decide +kernel
theorem dL_law_339 : decode cL_law 339 = .ok (.istore 6, 2) := by decide +kernel
theorem dL_law_341 : decode cL_law 341 = .ok (.aload_n 2, 1) := by decide +kernel
theorem dL_law_342 : decode cL_law 342 = .ok (.invokevirtual 89, 3) := by decide +kernel
theorem dL_law_345 : decode cL_law 345 = .ok (.iload 5, 2) := by decide +kernel
theorem dL_law_347 : decode cL_law 347 = .ok (.if_icmp .eq 5, 3) := by decide +kernel
theorem dL_law_350 : decode cL_law 350 = .ok (.iconst 0, 1) := by decide +kernel
theorem dL_law_351 : decode cL_law 351 = .ok (.ireturn, 1) := by decide +kernel
theorem dL_law_352 : decode cL_law 352 = .ok (.iload 5, 2) := by decide +kernel
theorem dL_law_354 : decode cL_law 354 = .ok (.ifCond .ne 15, 3) := by decide +kernel
theorem dL_law_357 : decode cL_law 357 = .ok (.aload_n 3, 1) := by decide +kernel
theorem dL_law_358 : decode cL_law 358 = .ok (.iconst 0, 1) := by decide +kernel
theorem dL_law_359 : decode cL_law 359 = .ok (.laload, 1) := by decide +kernel
theorem dL_law_360 : decode cL_law 360 = .ok (.iload 6, 2) := by decide +kernel
theorem dL_law_362 : decode cL_law 362 = .ok (.i2l, 1) := by decide +kernel
theorem dL_law_363 : decode cL_law 363 = .ok (.lcmp, 1) := by decide +kernel
theorem dL_law_364 : decode cL_law 364 = .ok (.ifCond .eq 5, 3) := by decide +kernel
theorem dL_law_367 : decode cL_law 367 = .ok (.iconst 0, 1) := by decide +kernel
theorem dL_law_368 : decode cL_law 368 = .ok (.ireturn, 1) := by decide +kernel
theorem dL_law_369 : decode cL_law 369 = .ok (.goto 966, 3) := by decide +kernel
theorem dL_law_372 : decode cL_law 372 = .ok (.aload_n 1, 1) := by decide +kernel
theorem dL_law_373 : decode cL_law 373 = .ok (.aload_n 0, 1) := by decide +kernel
theorem dL_law_374 : decode cL_law 374 = .ok (.iload 4, 2) := by decide +kernel
theorem dL_law_376 : decode cL_law 376 = .ok (.iconst 1, 1) := by decide +kernel
theorem dL_law_377 : decode cL_law 377 = .ok (.iadd, 1) := by decide +kernel
theorem dL_law_378 : decode cL_law 378 = .ok (.iaload, 1) := by decide +kernel
theorem dL_law_379 : decode cL_law 379 = .ok (.aload_n 0, 1) := by decide +kernel
theorem dL_law_380 : decode cL_law 380 = .ok (.iload 4, 2) := by decide +kernel
theorem dL_law_382 : decode cL_law 382 = .ok (.iconst 2, 1) := by decide +kernel
theorem dL_law_383 : decode cL_law 383 = .ok (.iadd, 1) := by decide +kernel
theorem dL_law_384 : decode cL_law 384 = .ok (.iaload, 1) := by decide +kernel
theorem dL_law_385 : decode cL_law 385 = .ok (.aload_n 0, 1) := by decide +kernel
theorem dL_law_386 : decode cL_law 386 = .ok (.iload 4, 2) := by decide +kernel
theorem dL_law_388 : decode cL_law 388 = .ok (.iconst 3, 1) := by decide +kernel
theorem dL_law_389 : decode cL_law 389 = .ok (.iadd, 1) := by decide +kernel
theorem dL_law_390 : decode cL_law 390 = .ok (.iaload, 1) := by decide +kernel
theorem dL_law_391 : decode cL_law 391 = .ok (.aload_n 0, 1) := by decide +kernel
theorem dL_law_392 : decode cL_law 392 = .ok (.iload 4, 2) := by decide +kernel
theorem dL_law_394 : decode cL_law 394 = .ok (.iconst 4, 1) := by decide +kernel
theorem dL_law_395 : decode cL_law 395 = .ok (.iadd, 1) := by decide +kernel
theorem dL_law_396 : decode cL_law 396 = .ok (.iaload, 1) := by decide +kernel
theorem dL_law_397 : decode cL_law 397 = .ok (.aload_n 3, 1) := by decide +kernel
theorem dL_law_398 : decode cL_law 398 = .ok (.invokestatic 105, 3) := by decide +kernel
theorem dL_law_401 : decode cL_law 401 = .ok (.istore 5, 2) := by decide +kernel
theorem dL_law_403 : decode cL_law 403 = .ok (.aload_n 2, 1) := by decide +kernel
theorem dL_law_404 : decode cL_law 404 = .ok (.aload_n 0, 1) := by decide +kernel
theorem dL_law_405 : decode cL_law 405 = .ok (.iload 4, 2) := by decide +kernel
theorem dL_law_407 : decode cL_law 407 = .ok (.iconst 1, 1) := by decide +kernel
theorem dL_law_408 : decode cL_law 408 = .ok (.iadd, 1) := by decide +kernel
theorem dL_law_409 : decode cL_law 409 = .ok (.iaload, 1) := by decide +kernel
theorem dL_law_410 : decode cL_law 410 = .ok (.aload_n 0, 1) := by decide +kernel
theorem dL_law_411 : decode cL_law 411 = .ok (.iload 4, 2) := by decide +kernel
theorem dL_law_413 : decode cL_law 413 = .ok (.iconst 2, 1) := by decide +kernel
theorem dL_law_414 : decode cL_law 414 = .ok (.iadd, 1) := by decide +kernel
theorem dL_law_415 : decode cL_law 415 = .ok (.iaload, 1) := by decide +kernel
theorem dL_law_416 : decode cL_law 416 = .ok (.aload_n 0, 1) := by decide +kernel
theorem dL_law_417 : decode cL_law 417 = .ok (.iload 4, 2) := by decide +kernel
theorem dL_law_419 : decode cL_law 419 = .ok (.iconst 3, 1) := by decide +kernel
theorem dL_law_420 : decode cL_law 420 = .ok (.iadd, 1) := by decide +kernel
theorem dL_law_421 : decode cL_law 421 = .ok (.iaload, 1) := by decide +kernel
theorem dL_law_422 : decode cL_law 422 = .ok (.aload_n 0, 1) := by decide +kernel
theorem dL_law_423 : decode cL_law 423 = .ok (.iload 4, 2) := by decide +kernel
theorem dL_law_425 : decode cL_law 425 = .ok (.iconst 4, 1) := by decide +kernel
theorem dL_law_426 : decode cL_law 426 = .ok (.iadd, 1) := by decide +kernel
theorem dL_law_427 : decode cL_law 427 = .ok (.iaload, 1) := by decide +kernel
theorem dL_law_428 : decode cL_law 428 = .ok (.invokevirtual 108, 3) := by decide +kernel
theorem dL_law_431 : decode cL_law 431 = .ok (.istore 6, 2) := by decide +kernel
theorem dL_law_433 : decode cL_law 433 = .ok (.aload_n 2, 1) := by decide +kernel
theorem dL_law_434 : decode cL_law 434 = .ok (.invokevirtual 89, 3) := by decide +kernel
theorem dL_law_437 : decode cL_law 437 = .ok (.iload 5, 2) := by decide +kernel
theorem dL_law_439 : decode cL_law 439 = .ok (.if_icmp .eq 5, 3) := by decide +kernel
theorem dL_law_442 : decode cL_law 442 = .ok (.iconst 0, 1) := by decide +kernel
theorem dL_law_443 : decode cL_law 443 = .ok (.ireturn, 1) := by decide +kernel
theorem dL_law_444 : decode cL_law 444 = .ok (.iload 5, 2) := by decide +kernel
theorem dL_law_446 : decode cL_law 446 = .ok (.ifCond .ne 15, 3) := by decide +kernel
theorem dL_law_449 : decode cL_law 449 = .ok (.aload_n 3, 1) := by decide +kernel
theorem dL_law_450 : decode cL_law 450 = .ok (.iconst 0, 1) := by decide +kernel
theorem dL_law_451 : decode cL_law 451 = .ok (.laload, 1) := by decide +kernel
theorem dL_law_452 : decode cL_law 452 = .ok (.iload 6, 2) := by decide +kernel
theorem dL_law_454 : decode cL_law 454 = .ok (.i2l, 1) := by decide +kernel
theorem dL_law_455 : decode cL_law 455 = .ok (.lcmp, 1) := by decide +kernel
theorem dL_law_456 : decode cL_law 456 = .ok (.ifCond .eq 5, 3) := by decide +kernel
theorem dL_law_459 : decode cL_law 459 = .ok (.iconst 0, 1) := by decide +kernel
theorem dL_law_460 : decode cL_law 460 = .ok (.ireturn, 1) := by decide +kernel
theorem dL_law_461 : decode cL_law 461 = .ok (.goto 874, 3) := by decide +kernel
theorem dL_law_464 : decode cL_law 464 = .ok (.aload_n 1, 1) := by decide +kernel
theorem dL_law_465 : decode cL_law 465 = .ok (.aload_n 0, 1) := by decide +kernel
theorem dL_law_466 : decode cL_law 466 = .ok (.iload 4, 2) := by decide +kernel
theorem dL_law_468 : decode cL_law 468 = .ok (.iconst 1, 1) := by decide +kernel
theorem dL_law_469 : decode cL_law 469 = .ok (.iadd, 1) := by decide +kernel
theorem dL_law_470 : decode cL_law 470 = .ok (.iaload, 1) := by decide +kernel
theorem dL_law_471 : decode cL_law 471 = .ok (.aload_n 0, 1) := by decide +kernel
theorem dL_law_472 : decode cL_law 472 = .ok (.iload 4, 2) := by decide +kernel
theorem dL_law_474 : decode cL_law 474 = .ok (.iconst 2, 1) := by decide +kernel
theorem dL_law_475 : decode cL_law 475 = .ok (.iadd, 1) := by decide +kernel
theorem dL_law_476 : decode cL_law 476 = .ok (.iaload, 1) := by decide +kernel
theorem dL_law_477 : decode cL_law 477 = .ok (.aload_n 0, 1) := by decide +kernel
theorem dL_law_478 : decode cL_law 478 = .ok (.iload 4, 2) := by decide +kernel
theorem dL_law_480 : decode cL_law 480 = .ok (.iconst 3, 1) := by decide +kernel
theorem dL_law_481 : decode cL_law 481 = .ok (.iadd, 1) := by decide +kernel
theorem dL_law_482 : decode cL_law 482 = .ok (.iaload, 1) := by decide +kernel
theorem dL_law_483 : decode cL_law 483 = .ok (.aload_n 3, 1) := by decide +kernel
theorem dL_law_484 : decode cL_law 484 = .ok (.invokestatic 109, 3) := by decide +kernel
theorem dL_law_487 : decode cL_law 487 = .ok (.istore 5, 2) := by decide +kernel
theorem dL_law_489 : decode cL_law 489 = .ok (.aload_n 2, 1) := by decide +kernel
theorem dL_law_490 : decode cL_law 490 = .ok (.aload_n 0, 1) := by decide +kernel
theorem dL_law_491 : decode cL_law 491 = .ok (.iload 4, 2) := by decide +kernel
theorem dL_law_493 : decode cL_law 493 = .ok (.iconst 1, 1) := by decide +kernel
theorem dL_law_494 : decode cL_law 494 = .ok (.iadd, 1) := by decide +kernel
theorem dL_law_495 : decode cL_law 495 = .ok (.iaload, 1) := by decide +kernel
theorem dL_law_496 : decode cL_law 496 = .ok (.aload_n 0, 1) := by decide +kernel
theorem dL_law_497 : decode cL_law 497 = .ok (.iload 4, 2) := by decide +kernel
theorem dL_law_499 : decode cL_law 499 = .ok (.iconst 2, 1) := by decide +kernel
theorem dL_law_500 : decode cL_law 500 = .ok (.iadd, 1) := by decide +kernel
theorem dL_law_501 : decode cL_law 501 = .ok (.iaload, 1) := by decide +kernel
theorem dL_law_502 : decode cL_law 502 = .ok (.aload_n 0, 1) := by decide +kernel
theorem dL_law_503 : decode cL_law 503 = .ok (.iload 4, 2) := by decide +kernel
theorem dL_law_505 : decode cL_law 505 = .ok (.iconst 3, 1) := by decide +kernel
theorem dL_law_506 : decode cL_law 506 = .ok (.iadd, 1) := by decide +kernel
theorem dL_law_507 : decode cL_law 507 = .ok (.iaload, 1) := by decide +kernel
theorem dL_law_508 : decode cL_law 508 = .ok (.invokevirtual 111, 3) := by decide +kernel
theorem dL_law_511 : decode cL_law 511 = .ok (.istore 6, 2) := by decide +kernel
theorem dL_law_513 : decode cL_law 513 = .ok (.aload_n 2, 1) := by decide +kernel
theorem dL_law_514 : decode cL_law 514 = .ok (.invokevirtual 89, 3) := by decide +kernel
theorem dL_law_517 : decode cL_law 517 = .ok (.iload 5, 2) := by decide +kernel
theorem dL_law_519 : decode cL_law 519 = .ok (.if_icmp .eq 5, 3) := by decide +kernel
theorem dL_law_522 : decode cL_law 522 = .ok (.iconst 0, 1) := by decide +kernel
theorem dL_law_523 : decode cL_law 523 = .ok (.ireturn, 1) := by decide +kernel
theorem dL_law_524 : decode cL_law 524 = .ok (.iload 5, 2) := by decide +kernel
theorem dL_law_526 : decode cL_law 526 = .ok (.ifCond .ne 15, 3) := by decide +kernel
theorem dL_law_529 : decode cL_law 529 = .ok (.aload_n 3, 1) := by decide +kernel
theorem dL_law_530 : decode cL_law 530 = .ok (.iconst 0, 1) := by decide +kernel
theorem dL_law_531 : decode cL_law 531 = .ok (.laload, 1) := by decide +kernel
theorem dL_law_532 : decode cL_law 532 = .ok (.iload 6, 2) := by decide +kernel
theorem dL_law_534 : decode cL_law 534 = .ok (.i2l, 1) := by decide +kernel
theorem dL_law_535 : decode cL_law 535 = .ok (.lcmp, 1) := by decide +kernel
theorem dL_law_536 : decode cL_law 536 = .ok (.ifCond .eq 5, 3) := by decide +kernel
theorem dL_law_539 : decode cL_law 539 = .ok (.iconst 0, 1) := by decide +kernel
theorem dL_law_540 : decode cL_law 540 = .ok (.ireturn, 1) := by decide +kernel
theorem dL_law_541 : decode cL_law 541 = .ok (.goto 794, 3) := by decide +kernel
theorem dL_law_544 : decode cL_law 544 = .ok (.aload_n 1, 1) := by decide +kernel
theorem dL_law_545 : decode cL_law 545 = .ok (.aload_n 0, 1) := by decide +kernel
theorem dL_law_546 : decode cL_law 546 = .ok (.iload 4, 2) := by decide +kernel
theorem dL_law_548 : decode cL_law 548 = .ok (.iconst 1, 1) := by decide +kernel
theorem dL_law_549 : decode cL_law 549 = .ok (.iadd, 1) := by decide +kernel
theorem dL_law_550 : decode cL_law 550 = .ok (.iaload, 1) := by decide +kernel
theorem dL_law_551 : decode cL_law 551 = .ok (.aload_n 3, 1) := by decide +kernel
theorem dL_law_552 : decode cL_law 552 = .ok (.invokestatic 112, 3) := by decide +kernel
theorem dL_law_555 : decode cL_law 555 = .ok (.istore 5, 2) := by decide +kernel
theorem dL_law_557 : decode cL_law 557 = .ok (.aload_n 2, 1) := by decide +kernel
theorem dL_law_558 : decode cL_law 558 = .ok (.aload_n 0, 1) := by decide +kernel
theorem dL_law_559 : decode cL_law 559 = .ok (.iload 4, 2) := by decide +kernel
theorem dL_law_561 : decode cL_law 561 = .ok (.iconst 1, 1) := by decide +kernel
theorem dL_law_562 : decode cL_law 562 = .ok (.iadd, 1) := by decide +kernel
theorem dL_law_563 : decode cL_law 563 = .ok (.iaload, 1) := by decide +kernel
theorem dL_law_564 : decode cL_law 564 = .ok (.invokevirtual 114, 3) := by decide +kernel
theorem dL_law_567 : decode cL_law 567 = .ok (.istore 6, 2) := by decide +kernel
theorem dL_law_569 : decode cL_law 569 = .ok (.aload_n 2, 1) := by decide +kernel
theorem dL_law_570 : decode cL_law 570 = .ok (.invokevirtual 89, 3) := by decide +kernel
theorem dL_law_573 : decode cL_law 573 = .ok (.iload 5, 2) := by decide +kernel
theorem dL_law_575 : decode cL_law 575 = .ok (.if_icmp .eq 5, 3) := by decide +kernel
theorem dL_law_578 : decode cL_law 578 = .ok (.iconst 0, 1) := by decide +kernel
theorem dL_law_579 : decode cL_law 579 = .ok (.ireturn, 1) := by decide +kernel
theorem dL_law_580 : decode cL_law 580 = .ok (.iload 5, 2) := by decide +kernel
theorem dL_law_582 : decode cL_law 582 = .ok (.ifCond .ne 15, 3) := by decide +kernel
theorem dL_law_585 : decode cL_law 585 = .ok (.aload_n 3, 1) := by decide +kernel
theorem dL_law_586 : decode cL_law 586 = .ok (.iconst 0, 1) := by decide +kernel
theorem dL_law_587 : decode cL_law 587 = .ok (.laload, 1) := by decide +kernel
theorem dL_law_588 : decode cL_law 588 = .ok (.iload 6, 2) := by decide +kernel
theorem dL_law_590 : decode cL_law 590 = .ok (.i2l, 1) := by decide +kernel
theorem dL_law_591 : decode cL_law 591 = .ok (.lcmp, 1) := by decide +kernel
theorem dL_law_592 : decode cL_law 592 = .ok (.ifCond .eq 5, 3) := by decide +kernel
theorem dL_law_595 : decode cL_law 595 = .ok (.iconst 0, 1) := by decide +kernel
theorem dL_law_596 : decode cL_law 596 = .ok (.ireturn, 1) := by decide +kernel
theorem dL_law_597 : decode cL_law 597 = .ok (.goto 738, 3) := by decide +kernel
theorem dL_law_600 : decode cL_law 600 = .ok (.aload_n 1, 1) := by decide +kernel
theorem dL_law_601 : decode cL_law 601 = .ok (.aload_n 0, 1) := by decide +kernel
theorem dL_law_602 : decode cL_law 602 = .ok (.iload 4, 2) := by decide +kernel
theorem dL_law_604 : decode cL_law 604 = .ok (.iconst 1, 1) := by decide +kernel
theorem dL_law_605 : decode cL_law 605 = .ok (.iadd, 1) := by decide +kernel
theorem dL_law_606 : decode cL_law 606 = .ok (.iaload, 1) := by decide +kernel
theorem dL_law_607 : decode cL_law 607 = .ok (.invokestatic 115, 3) := by decide +kernel
theorem dL_law_610 : decode cL_law 610 = .ok (.istore 5, 2) := by decide +kernel
theorem dL_law_612 : decode cL_law 612 = .ok (.aload_n 2, 1) := by decide +kernel
theorem dL_law_613 : decode cL_law 613 = .ok (.aload_n 0, 1) := by decide +kernel
theorem dL_law_614 : decode cL_law 614 = .ok (.iload 4, 2) := by decide +kernel
theorem dL_law_616 : decode cL_law 616 = .ok (.iconst 1, 1) := by decide +kernel
theorem dL_law_617 : decode cL_law 617 = .ok (.iadd, 1) := by decide +kernel
theorem dL_law_618 : decode cL_law 618 = .ok (.iaload, 1) := by decide +kernel
theorem dL_law_619 : decode cL_law 619 = .ok (.invokevirtual 117, 3) := by decide +kernel
theorem dL_law_622 : decode cL_law 622 = .ok (.aload_n 2, 1) := by decide +kernel
theorem dL_law_623 : decode cL_law 623 = .ok (.invokevirtual 89, 3) := by decide +kernel
theorem dL_law_626 : decode cL_law 626 = .ok (.iload 5, 2) := by decide +kernel
theorem dL_law_628 : decode cL_law 628 = .ok (.if_icmp .eq 5, 3) := by decide +kernel
theorem dL_law_631 : decode cL_law 631 = .ok (.iconst 0, 1) := by decide +kernel
theorem dL_law_632 : decode cL_law 632 = .ok (.ireturn, 1) := by decide +kernel
theorem dL_law_633 : decode cL_law 633 = .ok (.goto 702, 3) := by decide +kernel
theorem dL_law_636 : decode cL_law 636 = .ok (.aload_n 1, 1) := by decide +kernel
theorem dL_law_637 : decode cL_law 637 = .ok (.aload_n 0, 1) := by decide +kernel
theorem dL_law_638 : decode cL_law 638 = .ok (.iload 4, 2) := by decide +kernel
theorem dL_law_640 : decode cL_law 640 = .ok (.iconst 1, 1) := by decide +kernel
theorem dL_law_641 : decode cL_law 641 = .ok (.iadd, 1) := by decide +kernel
theorem dL_law_642 : decode cL_law 642 = .ok (.iaload, 1) := by decide +kernel
theorem dL_law_643 : decode cL_law 643 = .ok (.aload_n 3, 1) := by decide +kernel
theorem dL_law_644 : decode cL_law 644 = .ok (.invokestatic 118, 3) := by decide +kernel
theorem dL_law_647 : decode cL_law 647 = .ok (.istore 5, 2) := by decide +kernel
theorem dL_law_649 : decode cL_law 649 = .ok (.aload_n 2, 1) := by decide +kernel
theorem dL_law_650 : decode cL_law 650 = .ok (.aload_n 0, 1) := by decide +kernel
theorem dL_law_651 : decode cL_law 651 = .ok (.iload 4, 2) := by decide +kernel
theorem dL_law_653 : decode cL_law 653 = .ok (.iconst 1, 1) := by decide +kernel
theorem dL_law_654 : decode cL_law 654 = .ok (.iadd, 1) := by decide +kernel
theorem dL_law_655 : decode cL_law 655 = .ok (.iaload, 1) := by decide +kernel
theorem dL_law_656 : decode cL_law 656 = .ok (.invokevirtual 120, 3) := by decide +kernel
theorem dL_law_659 : decode cL_law 659 = .ok (.istore 6, 2) := by decide +kernel
theorem dL_law_661 : decode cL_law 661 = .ok (.aload_n 2, 1) := by decide +kernel
theorem dL_law_662 : decode cL_law 662 = .ok (.invokevirtual 89, 3) := by decide +kernel
theorem dL_law_665 : decode cL_law 665 = .ok (.iload 5, 2) := by decide +kernel
theorem dL_law_667 : decode cL_law 667 = .ok (.if_icmp .eq 5, 3) := by decide +kernel
theorem dL_law_670 : decode cL_law 670 = .ok (.iconst 0, 1) := by decide +kernel
theorem dL_law_671 : decode cL_law 671 = .ok (.ireturn, 1) := by decide +kernel
theorem dL_law_672 : decode cL_law 672 = .ok (.iload 5, 2) := by decide +kernel
theorem dL_law_674 : decode cL_law 674 = .ok (.ifCond .ne 15, 3) := by decide +kernel
theorem dL_law_677 : decode cL_law 677 = .ok (.aload_n 3, 1) := by decide +kernel
theorem dL_law_678 : decode cL_law 678 = .ok (.iconst 0, 1) := by decide +kernel
theorem dL_law_679 : decode cL_law 679 = .ok (.laload, 1) := by decide +kernel
theorem dL_law_680 : decode cL_law 680 = .ok (.iload 6, 2) := by decide +kernel
theorem dL_law_682 : decode cL_law 682 = .ok (.i2l, 1) := by decide +kernel
theorem dL_law_683 : decode cL_law 683 = .ok (.lcmp, 1) := by decide +kernel
theorem dL_law_684 : decode cL_law 684 = .ok (.ifCond .eq 5, 3) := by decide +kernel
theorem dL_law_687 : decode cL_law 687 = .ok (.iconst 0, 1) := by decide +kernel
theorem dL_law_688 : decode cL_law 688 = .ok (.ireturn, 1) := by decide +kernel
theorem dL_law_689 : decode cL_law 689 = .ok (.goto 646, 3) := by decide +kernel
theorem dL_law_692 : decode cL_law 692 = .ok (.aload_n 1, 1) := by decide +kernel
theorem dL_law_693 : decode cL_law 693 = .ok (.aload_n 0, 1) := by decide +kernel
theorem dL_law_694 : decode cL_law 694 = .ok (.iload 4, 2) := by decide +kernel
theorem dL_law_696 : decode cL_law 696 = .ok (.iconst 1, 1) := by decide +kernel
theorem dL_law_697 : decode cL_law 697 = .ok (.iadd, 1) := by decide +kernel
