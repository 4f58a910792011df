set_option maxRecDepth 20000 in
theorem ggX4_commit_X4_needTransaction : GoodIn wsX4_commit wsX4_needTransaction := goodIn_ca (goodIn_r _ [9, 10, 11, 12, 8, 13, 14, 15, 222, 223, 224, 225, 226, 227, 228] (by decide +kernel) (by decide +kernel)) (goodIn_sub (fun _ h => List.mem_cons_of_mem _ (List.mem_append_left _ (List.mem_append_right _ h))) (by decide +kernel))
set_option maxRecDepth 20000 in
theorem gX4_commit_X4_needTransaction : GoodIn wsX4_commit (wsV RX4 78 RX4 yX4_needTransaction wsX4_needTransaction) := goodIn_app (goodIn_of _ (by decide +kernel)) ggX4_commit_X4_needTransaction
set_option maxRecDepth 20000 in
theorem ggX4_commit_Jx4a65c_get_915e3 : GoodIn wsX4_commit wsJx4a65c_get_915e3 := goodIn_r _ [20, 21, 22, 23, 24, 25, 26, 27, 28, 29, 30, 31, 32, 19, 33, 34, 245, 246, 247] (by decide +kernel) (by decide +kernel)
set_option maxRecDepth 20000 in
theorem gX4_commit_Jx4a65c_get_915e3 : GoodIn wsX4_commit (wsV RX4 66 RJx4a65c yJx4a65c_get_915e3 wsJx4a65c_get_915e3) := goodIn_app (goodIn_of _ (by decide +kernel)) ggX4_commit_Jx4a65c_get_915e3
set_option maxRecDepth 20000 in
theorem ggX4_commit_X4_needGoingOn : GoodIn wsX4_commit wsX4_needGoingOn := goodIn_ca (goodIn_r _ [37, 4, 38, 39, 8, 40, 41, 42, 229, 230, 231, 232, 233, 234, 235, 236, 237, 238, 239, 240, 241, 242, 243, 244] (by decide +kernel) (by decide +kernel)) (goodIn_sub (fun _ h => List.mem_cons_of_mem _ (List.mem_append_right _ h)) (by decide +kernel))
set_option maxRecDepth 20000 in
theorem gX4_commit_X4_needGoingOn : GoodIn wsX4_commit (va_wsS RX4 84 yX4_needGoingOn wsX4_needGoingOn) := goodIn_app (goodIn_of _ (by decide +kernel)) ggX4_commit_X4_needGoingOn
set_option maxRecDepth 20000 in
theorem ggX4_commit_X4_homesOf : GoodIn wsX4_commit wsX4_homesOf := goodIn_r _ [46, 47, 48, 49, 50, 51, 52, 53, 8, 54, 55, 56, 57, 58, 59, 60, 61, 62, 229, 230, 231, 232, 233, 234, 235, 236, 237, 238, 239, 240, 241, 242, 243, 244, 222, 223, 224, 225, 226, 227, 228] (by decide +kernel) (by decide +kernel)
set_option maxRecDepth 20000 in
theorem gX4_commit_X4_homesOf : GoodIn wsX4_commit (wsV RX4 136 RX4 yX4_homesOf wsX4_homesOf) := goodIn_app (goodIn_of _ (by decide +kernel)) ggX4_commit_X4_homesOf
set_option maxRecDepth 20000 in
theorem ggX4_commit_X4_bit : GoodIn wsX4_commit wsX4_bit := goodIn_r _ [57] (by decide +kernel) (by decide +kernel)
set_option maxRecDepth 20000 in
theorem gX4_commit_X4_bit : GoodIn wsX4_commit (va_wsS RX4 140 yX4_bit wsX4_bit) := goodIn_app (goodIn_of _ (by decide +kernel)) ggX4_commit_X4_bit
set_option maxRecDepth 20000 in
theorem ggX4_commit_X4_isFitAt : GoodIn wsX4_commit wsX4_isFitAt := goodIn_r _ [66, 67, 68, 69, 70, 8, 71, 47, 48, 49, 50, 51, 52, 53, 54, 55, 56, 57, 58, 59, 60, 61, 62, 72, 73, 74, 75, 76, 77, 78, 1, 79, 2, 80, 16, 17, 18, 19, 20, 21, 22, 23, 24, 25, 26, 27, 28, 29, 30, 31, 32, 33, 34, 81, 82, 83, 84, 85, 86, 222, 223, 224, 225, 226, 227, 228, 229, 230, 231, 232, 233, 234, 235, 236, 237, 238, 239, 240, 241, 242, 243, 244, 248, 249, 250, 251, 252, 245, 246, 247] (by decide +kernel) (by decide +kernel)
set_option maxRecDepth 20000 in
theorem gX4_commit_X4_isFitAt : GoodIn wsX4_commit (wsV RX4 143 RX4 yX4_isFitAt wsX4_isFitAt) := goodIn_app (goodIn_of _ (by decide +kernel)) ggX4_commit_X4_isFitAt
set_option maxRecDepth 20000 in
theorem ggX4_commit_X4_makeCommitted : GoodIn wsX4_commit wsX4_makeCommitted := goodIn_r _ [90, 4, 67, 3, 91, 92, 93, 94, 95, 8, 96, 97, 98, 99, 100, 101, 102, 103, 104, 105, 106, 107, 108, 109, 110, 111, 112, 113, 55, 56, 57, 114, 115, 116, 117, 62, 118, 119, 120, 121, 77, 122, 53, 54, 123, 124, 125, 126, 127, 128, 129, 130, 131, 132, 133, 134, 135, 136, 137, 138, 19, 139, 21, 140, 141, 142, 143, 144, 145, 146, 147, 148, 149, 150, 151, 152, 153, 154, 155, 156, 157, 158, 34, 159, 160, 161, 162, 163, 164, 165, 166, 167, 168, 169, 170, 171, 172, 173, 174, 175, 176, 177, 178, 179, 180, 181, 182, 183, 184, 185, 186, 187, 188, 189, 190, 191, 192, 193, 194, 195, 196, 197, 198, 199, 200, 201, 202, 203, 204, 205, 206, 207, 208, 209, 210, 211, 212, 229, 230, 231, 232, 233, 234, 235, 236, 237, 238, 239, 240, 241, 242, 243, 244, 222, 223, 224, 225, 226, 227, 228, 248, 249, 250, 251, 252, 253, 254, 255, 256, 245, 246, 247] (by decide +kernel) (by decide +kernel)
set_option maxRecDepth 20000 in
theorem gX4_commit_X4_makeCommitted : GoodIn wsX4_commit (wsV RX4 150 RX4 yX4_makeCommitted wsX4_makeCommitted) := goodIn_app (goodIn_of _ (by decide +kernel)) ggX4_commit_X4_makeCommitted
set_option maxRecDepth 20000 in
theorem ggX4_commit_X4_makeWaiting : GoodIn wsX4_commit wsX4_makeWaiting := goodIn_r _ [216, 3, 4, 217, 218, 219, 220, 8, 221, 67, 76, 77, 68, 69, 70, 71, 47, 48, 49, 50, 51, 52, 53, 54, 55, 56, 57, 58, 59, 60, 61, 62, 118, 119, 120, 121, 122, 123, 124, 125, 126, 127, 128, 129, 130, 131, 132, 133, 134, 135, 136, 137, 138, 19, 139, 21, 140, 141, 142, 143, 144, 145, 146, 147, 148, 149, 150, 151, 152, 153, 154, 155, 156, 157, 158, 34, 159, 160, 161, 162, 163, 164, 165, 166, 167, 168, 169, 170, 171, 172, 173, 174, 175, 176, 177, 178, 179, 180, 181, 182, 183, 184, 185, 186, 187, 188, 189, 190, 191, 192, 193, 194, 195, 196, 197, 198, 199, 200, 201, 202, 203, 204, 205, 206, 207, 208, 209, 210, 211, 212, 229, 230, 231, 232, 233, 234, 235, 236, 237, 238, 239, 240, 241, 242, 243, 244, 222, 223, 224, 225, 226, 227, 228, 248, 249, 250, 251, 252, 253, 254, 255, 256, 245, 246, 247] (by decide +kernel) (by decide +kernel)
set_option maxRecDepth 20000 in
theorem gX4_commit_X4_makeWaiting : GoodIn wsX4_commit (wsV RX4 153 RX4 yX4_makeWaiting wsX4_makeWaiting) := goodIn_app (goodIn_of _ (by decide +kernel)) ggX4_commit_X4_makeWaiting
theorem dX4_commit_0 : decode cX4_commit 0 = .ok (.aload_n 0, 1) := by decide +kernel
theorem dX4_commit_1 : decode cX4_commit 1 = .ok (.iload_n 1, 1) := by decide +kernel
theorem dX4_commit_2 : decode cX4_commit 2 = .ok (.invokevirtual 78, 3) := by decide +kernel
theorem dX4_commit_5 : decode cX4_commit 5 = .ok (.aload_n 0, 1) := by decide +kernel
theorem dX4_commit_6 : decode cX4_commit 6 = .ok (.getfield 19, 3) := by decide +kernel
theorem dX4_commit_9 : decode cX4_commit 9 = .ok (.iload_n 1, 1) := by decide +kernel
theorem dX4_commit_10 : decode cX4_commit 10 = .ok (.invokevirtual 66, 3) := by decide +kernel
theorem dX4_commit_13 : decode cX4_commit 13 = .ok (.checkcast 59, 3) := by decide +kernel
theorem dX4_commit_16 : decode cX4_commit 16 = .ok (.astore_n 2, 1) := by decide +kernel
theorem dX4_commit_17 : decode cX4_commit 17 = .ok (.aload_n 2, 1) := by decide +kernel
theorem dX4_commit_18 : decode cX4_commit 18 = .ok (.invokestatic 84, 3) := by decide +kernel
theorem dX4_commit_21 : decode cX4_commit 21 = .ok (.aload_n 0, 1) := by decide +kernel
theorem dX4_commit_22 : decode cX4_commit 22 = .ok (.aload_n 2, 1) := by decide +kernel
theorem dX4_commit_23 : decode cX4_commit 23 = .ok (.invokevirtual 136, 3) := by decide +kernel
theorem dX4_commit_26 : decode cX4_commit 26 = .ok (.aload_n 2, 1) := by decide +kernel
theorem dX4_commit_27 : decode cX4_commit 27 = .ok (.getfield 95, 3) := by decide +kernel
theorem dX4_commit_30 : decode cX4_commit 30 = .ok (.invokestatic 140, 3) := by decide +kernel
theorem dX4_commit_33 : decode cX4_commit 33 = .ok (.iconst (-1), 1) := by decide +kernel
theorem dX4_commit_34 : decode cX4_commit 34 = .ok (.ixor, 1) := by decide +kernel
theorem dX4_commit_35 : decode cX4_commit 35 = .ok (.iand, 1) := by decide +kernel
theorem dX4_commit_36 : decode cX4_commit 36 = .ok (.istore_n 3, 1) := by decide +kernel
theorem dX4_commit_37 : decode cX4_commit 37 = .ok (.aload_n 0, 1) := by decide +kernel
theorem dX4_commit_38 : decode cX4_commit 38 = .ok (.aload_n 2, 1) := by decide +kernel
theorem dX4_commit_39 : decode cX4_commit 39 = .ok (.aload_n 2, 1) := by decide +kernel
theorem dX4_commit_40 : decode cX4_commit 40 = .ok (.getfield 95, 3) := by decide +kernel
theorem dX4_commit_43 : decode cX4_commit 43 = .ok (.invokevirtual 143, 3) := by decide +kernel
theorem dX4_commit_46 : decode cX4_commit 46 = .ok (.ifCond .ne 11, 3) := by decide +kernel
theorem dX4_commit_49 : decode cX4_commit 49 = .ok (.aload_n 2, 1) := by decide +kernel
theorem dX4_commit_50 : decode cX4_commit 50 = .ok (.iconst 3, 1) := by decide +kernel
theorem dX4_commit_51 : decode cX4_commit 51 = .ok (.putfield 147, 3) := by decide +kernel
theorem dX4_commit_54 : decode cX4_commit 54 = .ok (.goto 21, 3) := by decide +kernel
theorem dX4_commit_57 : decode cX4_commit 57 = .ok (.iload_n 3, 1) := by decide +kernel
theorem dX4_commit_58 : decode cX4_commit 58 = .ok (.ifCond .ne 11, 3) := by decide +kernel
theorem dX4_commit_61 : decode cX4_commit 61 = .ok (.aload_n 0, 1) := by decide +kernel
theorem dX4_commit_62 : decode cX4_commit 62 = .ok (.aload_n 2, 1) := by decide +kernel
theorem dX4_commit_63 : decode cX4_commit 63 = .ok (.invokevirtual 150, 3) := by decide +kernel
theorem dX4_commit_66 : decode cX4_commit 66 = .ok (.goto 9, 3) := by decide +kernel
theorem dX4_commit_69 : decode cX4_commit 69 = .ok (.aload_n 0, 1) := by decide +kernel
theorem dX4_commit_70 : decode cX4_commit 70 = .ok (.aload_n 2, 1) := by decide +kernel
theorem dX4_commit_71 : decode cX4_commit 71 = .ok (.iload_n 3, 1) := by decide +kernel
theorem dX4_commit_72 : decode cX4_commit 72 = .ok (.invokevirtual 153, 3) := by decide +kernel
theorem dX4_commit_75 : decode cX4_commit 75 = .ok (.aload_n 2, 1) := by decide +kernel
theorem dX4_commit_76 : decode cX4_commit 76 = .ok (.getfield 147, 3) := by decide +kernel
theorem dX4_commit_79 : decode cX4_commit 79 = .ok (.ireturn, 1) := by decide +kernel
set_option maxRecDepth 20000 in
theorem ggX4_abort_X4_needTransaction : GoodIn wsX4_abort wsX4_needTransaction := goodIn_ca (goodIn_r _ [8, 9, 10, 11, 7, 12, 13, 14, 42, 43, 44, 45, 46, 47, 48] (by decide +kernel) (by decide +kernel)) (goodIn_sub (fun _ h => List.mem_cons_of_mem _ (List.mem_append_left _ (List.mem_append_right _ h))) (by decide +kernel))
set_option maxRecDepth 20000 in
theorem gX4_abort_X4_needTransaction : GoodIn wsX4_abort (wsV RX4 78 RX4 yX4_needTransaction wsX4_needTransaction) := goodIn_app (goodIn_of _ (by decide +kernel)) ggX4_abort_X4_needTransaction
set_option maxRecDepth 20000 in
theorem ggX4_abort_Jx4a65c_get_915e3 : GoodIn wsX4_abort wsJx4a65c_get_915e3 := goodIn_r _ [19, 20, 21, 22, 23, 24, 25, 26, 27, 28, 29, 30, 31, 18, 32, 33, 65, 66, 67] (by decide +kernel) (by decide +kernel)
set_option maxRecDepth 20000 in
theorem gX4_abort_Jx4a65c_get_915e3 : GoodIn wsX4_abort (wsV RX4 66 RJx4a65c yJx4a65c_get_915e3 wsJx4a65c_get_915e3) := goodIn_app (goodIn_of _ (by decide +kernel)) ggX4_abort_Jx4a65c_get_915e3
set_option maxRecDepth 20000 in
theorem ggX4_abort_X4_needGoingOn : GoodIn wsX4_abort wsX4_needGoingOn := goodIn_ca (goodIn_r _ [36, 3, 37, 38, 7, 39, 40, 41, 49, 50, 51, 52, 53, 54, 55, 56, 57, 58, 59, 60, 61, 62, 63, 64] (by decide +kernel) (by decide +kernel)) (goodIn_sub (fun _ h => List.mem_cons_of_mem _ (List.mem_append_right _ h)) (by decide +kernel))
set_option maxRecDepth 20000 in
theorem gX4_abort_X4_needGoingOn : GoodIn wsX4_abort (va_wsS RX4 84 yX4_needGoingOn wsX4_needGoingOn) := goodIn_app (goodIn_of _ (by decide +kernel)) ggX4_abort_X4_needGoingOn
theorem dX4_abort_0 : decode cX4_abort 0 = .ok (.aload_n 0, 1) := by decide +kernel
theorem dX4_abort_1 : decode cX4_abort 1 = .ok (.iload_n 1, 1) := by decide +kernel
theorem dX4_abort_2 : decode cX4_abort 2 = .ok (.invokevirtual 78, 3) := by decide +kernel
theorem dX4_abort_5 : decode cX4_abort 5 = .ok (.aload_n 0, 1) := by decide +kernel
theorem dX4_abort_6 : decode cX4_abort 6 = .ok (.getfield 19, 3) := by decide +kernel
theorem dX4_abort_9 : decode cX4_abort 9 = .ok (.iload_n 1, 1) := by decide +kernel
theorem dX4_abort_10 : decode cX4_abort 10 = .ok (.invokevirtual 66, 3) := by decide +kernel
theorem dX4_abort_13 : decode cX4_abort 13 = .ok (.checkcast 59, 3) := by decide +kernel
theorem dX4_abort_16 : decode cX4_abort 16 = .ok (.astore_n 2, 1) := by decide +kernel
theorem dX4_abort_17 : decode cX4_abort 17 = .ok (.aload_n 2, 1) := by decide +kernel
theorem dX4_abort_18 : decode cX4_abort 18 = .ok (.invokestatic 84, 3) := by decide +kernel
theorem dX4_abort_21 : decode cX4_abort 21 = .ok (.aload_n 2, 1) := by decide +kernel
theorem dX4_abort_22 : decode cX4_abort 22 = .ok (.iconst 3, 1) := by decide +kernel
theorem dX4_abort_23 : decode cX4_abort 23 = .ok (.putfield 147, 3) := by decide +kernel
theorem dX4_abort_26 : decode cX4_abort 26 = .ok (.return_, 1) := by decide +kernel
set_option maxRecDepth 20000 in
theorem ggX4_again_X4_needTransaction : GoodIn wsX4_again wsX4_needTransaction := goodIn_ca (goodIn_r _ [14, 15, 16, 17, 13, 18, 19, 20, 151, 152, 153, 154, 155, 156, 157] (by decide +kernel) (by decide +kernel)) (goodIn_sub (fun _ h => List.mem_cons_of_mem _ (List.mem_append_left _ (List.mem_append_right _ h))) (by decide +kernel))
set_option maxRecDepth 20000 in
theorem gX4_again_X4_needTransaction : GoodIn wsX4_again (wsV RX4 78 RX4 yX4_needTransaction wsX4_needTransaction) := goodIn_app (goodIn_of _ (by decide +kernel)) ggX4_again_X4_needTransaction
set_option maxRecDepth 20000 in
theorem ggX4_again_Jx4a65c_get_915e3 : GoodIn wsX4_again wsJx4a65c_get_915e3 := goodIn_r _ [25, 26, 27, 28, 29, 30, 31, 32, 33, 34, 35, 36, 37, 24, 38, 39, 179, 180, 181] (by decide +kernel) (by decide +kernel)
set_option maxRecDepth 20000 in
theorem gX4_again_Jx4a65c_get_915e3 : GoodIn wsX4_again (wsV RX4 66 RJx4a65c yJx4a65c_get_915e3 wsJx4a65c_get_915e3) := goodIn_app (goodIn_of _ (by decide +kernel)) ggX4_again_Jx4a65c_get_915e3
set_option maxRecDepth 20000 in
theorem ggX4_again_X4_needState : GoodIn wsX4_again wsX4_needState := goodIn_ca (goodIn_r _ [42, 43, 44] (by decide +kernel) (by decide +kernel)) (goodIn_sub (fun _ h => List.mem_cons_of_mem _ (List.mem_append_right _ h)) (by decide +kernel))
set_option maxRecDepth 20000 in
theorem gX4_again_X4_needState : GoodIn wsX4_again (va_wsS RX4 52 yX4_needState wsX4_needState) := goodIn_app (goodIn_of _ (by decide +kernel)) ggX4_again_X4_needState
set_option maxRecDepth 20000 in
theorem ggX4_again_X4_sendToAll : GoodIn wsX4_again wsX4_sendToAll := goodIn_r _ [48, 49, 4, 50, 51, 52, 13, 53, 54, 55, 56, 57, 58, 59, 60, 61, 62, 63, 64, 65, 66, 67, 68, 69, 70, 71, 72, 24, 73, 26, 74, 75, 76, 77, 78, 79, 80, 81, 82, 83, 84, 85, 86, 87, 88, 89, 90, 91, 92, 39, 93, 94, 95, 96, 97, 98, 99, 100, 101, 102, 103, 104, 105, 106, 107, 108, 109, 110, 111, 112, 113, 114, 115, 116, 117, 118, 119, 120, 121, 122, 123, 124, 125, 126, 127, 128, 129, 130, 131, 132, 133, 134, 135, 136, 137, 138, 139, 140, 141, 142, 143, 144, 145, 146, 151, 152, 153, 154, 155, 156, 157, 158, 159, 160, 161, 162, 163, 164, 165, 166, 167, 168, 169, 170, 171, 172, 173, 182, 183, 184, 185, 179, 180, 181] (by decide +kernel) (by decide +kernel)
set_option maxRecDepth 20000 in
theorem gX4_again_X4_sendToAll : GoodIn wsX4_again (wsV RX4 163 RX4 yX4_sendToAll wsX4_sendToAll) := goodIn_app (goodIn_of _ (by decide +kernel)) ggX4_again_X4_sendToAll
set_option maxRecDepth 20000 in
theorem ggX4_again_X4_allSites : GoodIn wsX4_again wsX4_allSites := goodIn_r _ [150, 49, 54, 55, 13, 56, 151, 152, 153, 154, 155, 156, 157] (by decide +kernel) (by decide +kernel)
set_option maxRecDepth 20000 in
theorem gX4_again_X4_allSites : GoodIn wsX4_again (wsV RX4 167 RX4 yX4_allSites wsX4_allSites) := goodIn_app (goodIn_of _ (by decide +kernel)) ggX4_again_X4_allSites
theorem dX4_again_0 : decode cX4_again 0 = .ok (.aload_n 0, 1) := by decide +kernel
theorem dX4_again_1 : decode cX4_again 1 = .ok (.iload_n 1, 1) := by decide +kernel
theorem dX4_again_2 : decode cX4_again 2 = .ok (.invokevirtual 78, 3) := by decide +kernel
theorem dX4_again_5 : decode cX4_again 5 = .ok (.aload_n 0, 1) := by decide +kernel
theorem dX4_again_6 : decode cX4_again 6 = .ok (.getfield 19, 3) := by decide +kernel
theorem dX4_again_9 : decode cX4_again 9 = .ok (.iload_n 1, 1) := by decide +kernel
theorem dX4_again_10 : decode cX4_again 10 = .ok (.invokevirtual 66, 3) := by decide +kernel
theorem dX4_again_13 : decode cX4_again 13 = .ok (.checkcast 59, 3) := by decide +kernel
theorem dX4_again_16 : decode cX4_again 16 = .ok (.astore_n 2, 1) := by decide +kernel
theorem dX4_again_17 : decode cX4_again 17 = .ok (.aload_n 0, 1) := by decide +kernel
theorem dX4_again_18 : decode cX4_again 18 = .ok (.getfield 11, 3) := by decide +kernel
theorem dX4_again_21 : decode cX4_again 21 = .ok (.aload_n 2, 1) := by decide +kernel
theorem dX4_again_22 : decode cX4_again 22 = .ok (.getfield 95, 3) := by decide +kernel
theorem dX4_again_25 : decode cX4_again 25 = .ok (.aaload, 1) := by decide +kernel
theorem dX4_again_26 : decode cX4_again 26 = .ok (.getfield 44, 3) := by decide +kernel
theorem dX4_again_29 : decode cX4_again 29 = .ok (.invokestatic 52, 3) := by decide +kernel
theorem dX4_again_32 : decode cX4_again 32 = .ok (.aload_n 2, 1) := by decide +kernel
theorem dX4_again_33 : decode cX4_again 33 = .ok (.getfield 147, 3) := by decide +kernel
theorem dX4_again_36 : decode cX4_again 36 = .ok (.tableswitch 79 1 4 #[32, 50, 68, 68], 32) := by decide +kernel
theorem dX4_again_68 : decode cX4_again 68 = .ok (.aload_n 0, 1) := by decide +kernel
theorem dX4_again_69 : decode cX4_again 69 = .ok (.iconst 1, 1) := by decide +kernel
theorem dX4_again_70 : decode cX4_again 70 = .ok (.aload_n 2, 1) := by decide +kernel
theorem dX4_again_71 : decode cX4_again 71 = .ok (.aload_n 2, 1) := by decide +kernel
theorem dX4_again_72 : decode cX4_again 72 = .ok (.getfield 157, 3) := by decide +kernel
theorem dX4_again_75 : decode cX4_again 75 = .ok (.aload_n 2, 1) := by decide +kernel
theorem dX4_again_76 : decode cX4_again 76 = .ok (.getfield 160, 3) := by decide +kernel
theorem dX4_again_79 : decode cX4_again 79 = .ok (.iconst (-1), 1) := by decide +kernel
theorem dX4_again_80 : decode cX4_again 80 = .ok (.ixor, 1) := by decide +kernel
theorem dX4_again_81 : decode cX4_again 81 = .ok (.iand, 1) := by decide +kernel
theorem dX4_again_82 : decode cX4_again 82 = .ok (.invokevirtual 163, 3) := by decide +kernel
theorem dX4_again_85 : decode cX4_again 85 = .ok (.ireturn, 1) := by decide +kernel
theorem dX4_again_86 : decode cX4_again 86 = .ok (.aload_n 0, 1) := by decide +kernel
theorem dX4_again_87 : decode cX4_again 87 = .ok (.iconst 5, 1) := by decide +kernel
theorem dX4_again_88 : decode cX4_again 88 = .ok (.aload_n 2, 1) := by decide +kernel
theorem dX4_again_89 : decode cX4_again 89 = .ok (.aload_n 0, 1) := by decide +kernel
theorem dX4_again_90 : decode cX4_again 90 = .ok (.invokevirtual 167, 3) := by decide +kernel
theorem dX4_again_93 : decode cX4_again 93 = .ok (.aload_n 2, 1) := by decide +kernel
theorem dX4_again_94 : decode cX4_again 94 = .ok (.getfield 170, 3) := by decide +kernel
theorem dX4_again_97 : decode cX4_again 97 = .ok (.iconst (-1), 1) := by decide +kernel
theorem dX4_again_98 : decode cX4_again 98 = .ok (.ixor, 1) := by decide +kernel
theorem dX4_again_99 : decode cX4_again 99 = .ok (.iand, 1) := by decide +kernel
theorem dX4_again_100 : decode cX4_again 100 = .ok (.invokevirtual 163, 3) := by decide +kernel
theorem dX4_again_103 : decode cX4_again 103 = .ok (.ireturn, 1) := by decide +kernel
theorem dX4_again_104 : decode cX4_again 104 = .ok (.aload_n 0, 1) := by decide +kernel
theorem dX4_again_105 : decode cX4_again 105 = .ok (.iconst 4, 1) := by decide +kernel
theorem dX4_again_106 : decode cX4_again 106 = .ok (.aload_n 2, 1) := by decide +kernel
theorem dX4_again_107 : decode cX4_again 107 = .ok (.aload_n 2, 1) := by decide +kernel
theorem dX4_again_108 : decode cX4_again 108 = .ok (.getfield 157, 3) := by decide +kernel
theorem dX4_again_111 : decode cX4_again 111 = .ok (.invokevirtual 163, 3) := by decide +kernel
theorem dX4_again_114 : decode cX4_again 114 = .ok (.ireturn, 1) := by decide +kernel
theorem dX4_again_115 : decode cX4_again 115 = .ok (.iconst 0, 1) := by decide +kernel
theorem dX4_again_116 : decode cX4_again 116 = .ok (.ireturn, 1) := by decide +kernel
set_option maxRecDepth 20000 in
theorem ggX4_deliver_X4_needLetter : GoodIn wsX4_deliver wsX4_needLetter := goodIn_ca (goodIn_r _ [11, 1, 12, 13, 14, 15, 16, 17, 18, 19, 10, 20, 21, 22, 274, 275, 276, 277, 278, 279, 280, 286, 287, 288] (by decide +kernel) (by decide +kernel)) (goodIn_sub (fun _ h => List.mem_cons_of_mem _ (List.mem_append_right _ h)) (by decide +kernel))
set_option maxRecDepth 20000 in
theorem gX4_deliver_X4_needLetter : GoodIn wsX4_deliver (wsV RX4 173 RX4 yX4_needLetter wsX4_needLetter) := goodIn_app (goodIn_of _ (by decide +kernel)) ggX4_deliver_X4_needLetter
set_option maxRecDepth 20000 in
theorem ggX4_deliver_Jx4a65c_remove_915e3 : GoodIn wsX4_deliver wsJx4a65c_remove_915e3 := goodIn_r _ [26, 17, 27, 28, 29, 30, 31, 32, 33, 34, 35, 36, 37, 38, 15, 39, 40, 41, 42, 43, 44, 45, 286, 287, 288] (by decide +kernel) (by decide +kernel)
set_option maxRecDepth 20000 in
theorem gX4_deliver_Jx4a65c_remove_915e3 : GoodIn wsX4_deliver (wsV RX4 176 RJx4a65c yJx4a65c_remove_915e3 wsJx4a65c_remove_915e3) := goodIn_app (goodIn_of _ (by decide +kernel)) ggX4_deliver_Jx4a65c_remove_915e3
set_option maxRecDepth 20000 in
theorem ggX4_deliver_X1_to : GoodIn wsX4_deliver wsX1_to := goodIn_r _ [50, 51, 289, 290, 291, 292] (by decide +kernel) (by decide +kernel)
set_option maxRecDepth 20000 in
theorem gX4_deliver_X1_to : GoodIn wsX4_deliver (wsV RX4 181 RX1 yX1_to wsX1_to) := goodIn_app (goodIn_of _ (by decide +kernel)) ggX4_deliver_X1_to
set_option maxRecDepth 20000 in
theorem ggX4_deliver_X1_transaction : GoodIn wsX4_deliver wsX1_transaction := goodIn_r _ [55, 56, 289, 290, 291, 292] (by decide +kernel) (by decide +kernel)
set_option maxRecDepth 20000 in
theorem gX4_deliver_X1_transaction : GoodIn wsX4_deliver (wsV RX4 184 RX1 yX1_transaction wsX1_transaction) := goodIn_app (goodIn_of _ (by decide +kernel)) ggX4_deliver_X1_transaction
set_option maxRecDepth 20000 in
theorem ggX4_deliver_Jx4a65c_get_915e3 : GoodIn wsX4_deliver wsJx4a65c_get_915e3 := goodIn_r _ [60, 17, 28, 29, 30, 31, 32, 33, 34, 35, 61, 62, 63, 15, 64, 27, 286, 287, 288] (by decide +kernel) (by decide +kernel)
set_option maxRecDepth 20000 in
theorem gX4_deliver_Jx4a65c_get_915e3 : GoodIn wsX4_deliver (wsV RX4 66 RJx4a65c yJx4a65c_get_915e3 wsJx4a65c_get_915e3) := goodIn_app (goodIn_of _ (by decide +kernel)) ggX4_deliver_Jx4a65c_get_915e3
set_option maxRecDepth 20000 in
theorem ggX4_deliver_X4_handOver : GoodIn wsX4_deliver wsX4_handOver := goodIn_r _ [68, 69, 70, 71, 49, 72, 73, 46, 47, 48, 50, 51, 74, 75, 76, 10, 77, 78, 79, 80, 81, 82, 83, 84, 85, 86, 87, 88, 89, 90, 91, 3, 92, 93, 94, 95, 96, 97, 98, 99, 100, 101, 102, 103, 104, 105, 106, 107, 108, 109, 110, 111, 112, 5, 113, 6, 114, 57, 58, 59, 15, 60, 17, 28, 29, 30, 31, 32, 33, 34, 35, 61, 62, 63, 64, 27, 115, 116, 117, 118, 119, 120, 121, 122, 123, 124, 125, 1, 126, 127, 128, 129, 130, 131, 12, 13, 14, 16, 132, 133, 134, 56, 135, 136, 137, 138, 139, 140, 141, 142, 143, 144, 145, 40, 41, 146, 147, 148, 149, 150, 151, 152, 153, 154, 155, 156, 157, 158, 159, 160, 161, 162, 163, 164, 165, 166, 167, 168, 169, 170, 171, 172, 173, 174, 175, 176, 177, 178, 179, 180, 181, 182, 183, 184, 185, 186, 187, 188, 189, 43, 44, 45, 190, 191, 192, 193, 194, 195, 196, 197, 198, 199, 200, 201, 202, 203, 204, 205, 206, 207, 208, 209, 210, 211, 212, 213, 214, 215, 216, 217, 218, 219, 220, 221, 222, 223, 224, 225, 226, 227, 228, 229, 230, 231, 232, 233, 234, 235, 236, 237, 238, 239, 240, 241, 242, 243, 244, 245, 246, 247, 248, 249, 250, 251, 252, 253, 254, 255, 256, 257, 258, 259, 260, 261, 262, 263, 264, 265, 266, 267, 268, 269, 270, 271, 272, 273, 289, 290, 291, 292, 293, 294, 295, 296, 297, 298, 299, 300, 301, 302, 303, 304, 305, 306, 307, 308, 274, 275, 276, 277, 278, 279, 280, 281, 282, 283, 284, 285, 286, 287, 288] (by decide +kernel) (by decide +kernel)
set_option maxRecDepth 20000 in
theorem gX4_deliver_X4_handOver : GoodIn wsX4_deliver (wsV RX4 187 RX4 yX4_handOver wsX4_handOver) := goodIn_app (goodIn_of _ (by decide +kernel)) ggX4_deliver_X4_handOver
theorem dX4_deliver_0 : decode cX4_deliver 0 = .ok (.aload_n 0, 1) := by decide +kernel
theorem dX4_deliver_1 : decode cX4_deliver 1 = .ok (.iload_n 1, 1) := by decide +kernel
theorem dX4_deliver_2 : decode cX4_deliver 2 = .ok (.invokevirtual 173, 3) := by decide +kernel
theorem dX4_deliver_5 : decode cX4_deliver 5 = .ok (.aload_n 0, 1) := by decide +kernel
theorem dX4_deliver_6 : decode cX4_deliver 6 = .ok (.getfield 23, 3) := by decide +kernel
theorem dX4_deliver_9 : decode cX4_deliver 9 = .ok (.iload_n 1, 1) := by decide +kernel
theorem dX4_deliver_10 : decode cX4_deliver 10 = .ok (.invokevirtual 176, 3) := by decide +kernel
theorem dX4_deliver_13 : decode cX4_deliver 13 = .ok (.checkcast 179, 3) := by decide +kernel
theorem dX4_deliver_16 : decode cX4_deliver 16 = .ok (.astore_n 2, 1) := by decide +kernel
theorem dX4_deliver_17 : decode cX4_deliver 17 = .ok (.aload_n 0, 1) := by decide +kernel
theorem dX4_deliver_18 : decode cX4_deliver 18 = .ok (.getfield 11, 3) := by decide +kernel
theorem dX4_deliver_21 : decode cX4_deliver 21 = .ok (.aload_n 2, 1) := by decide +kernel
theorem dX4_deliver_22 : decode cX4_deliver 22 = .ok (.invokevirtual 181, 3) := by decide +kernel
theorem dX4_deliver_25 : decode cX4_deliver 25 = .ok (.aaload, 1) := by decide +kernel
theorem dX4_deliver_26 : decode cX4_deliver 26 = .ok (.getfield 44, 3) := by decide +kernel
theorem dX4_deliver_29 : decode cX4_deliver 29 = .ok (.ifCond .ne 5, 3) := by decide +kernel
theorem dX4_deliver_32 : decode cX4_deliver 32 = .ok (.iconst 0, 1) := by decide +kernel
theorem dX4_deliver_33 : decode cX4_deliver 33 = .ok (.ireturn, 1) := by decide +kernel
theorem dX4_deliver_34 : decode cX4_deliver 34 = .ok (.aload_n 0, 1) := by decide +kernel
theorem dX4_deliver_35 : decode cX4_deliver 35 = .ok (.aload_n 2, 1) := by decide +kernel
theorem dX4_deliver_36 : decode cX4_deliver 36 = .ok (.aload_n 0, 1) := by decide +kernel
theorem dX4_deliver_37 : decode cX4_deliver 37 = .ok (.getfield 19, 3) := by decide +kernel
theorem dX4_deliver_40 : decode cX4_deliver 40 = .ok (.aload_n 2, 1) := by decide +kernel
theorem dX4_deliver_41 : decode cX4_deliver 41 = .ok (.invokevirtual 184, 3) := by decide +kernel
theorem dX4_deliver_44 : decode cX4_deliver 44 = .ok (.invokevirtual 66, 3) := by decide +kernel
theorem dX4_deliver_47 : decode cX4_deliver 47 = .ok (.checkcast 59, 3) := by decide +kernel
theorem dX4_deliver_50 : decode cX4_deliver 50 = .ok (.invokevirtual 187, 3) := by decide +kernel
theorem dX4_deliver_53 : decode cX4_deliver 53 = .ok (.ireturn, 1) := by decide +kernel
set_option maxRecDepth 20000 in
theorem ggX4_drop_X4_needLetter : GoodIn wsX4_drop wsX4_needLetter := goodIn_ca (goodIn_r _ [7, 1, 8, 9, 10, 11, 12, 13, 14, 15, 6, 16, 17, 18, 48, 49, 50, 51, 52, 53, 54, 55, 56, 57] (by decide +kernel) (by decide +kernel)) (goodIn_sub (fun _ h => List.mem_cons_of_mem _ (List.mem_append_right _ h)) (by decide +kernel))
set_option maxRecDepth 20000 in
theorem gX4_drop_X4_needLetter : GoodIn wsX4_drop (wsV RX4 173 RX4 yX4_needLetter wsX4_needLetter) := goodIn_app (goodIn_of _ (by decide +kernel)) ggX4_drop_X4_needLetter
set_option maxRecDepth 20000 in
theorem ggX4_drop_Jx4a65c_remove_915e3 : GoodIn wsX4_drop wsJx4a65c_remove_915e3 := goodIn_r _ [22, 13, 23, 24, 25, 26, 27, 28, 29, 30, 31, 32, 33, 34, 11, 35, 36, 37, 38, 39, 40, 41, 55, 56, 57] (by decide +kernel) (by decide +kernel)
set_option maxRecDepth 20000 in
theorem gX4_drop_Jx4a65c_remove_915e3 : GoodIn wsX4_drop (wsV RX4 176 RJx4a65c yJx4a65c_remove_915e3 wsJx4a65c_remove_915e3) := goodIn_app (goodIn_of _ (by decide +kernel)) ggX4_drop_Jx4a65c_remove_915e3
set_option maxRecDepth 20000 in
theorem ggX4_drop_X1_kind : GoodIn wsX4_drop wsX1_kind := goodIn_r _ [46, 47, 58, 59, 60, 61] (by decide +kernel) (by decide +kernel)
set_option maxRecDepth 20000 in
theorem gX4_drop_X1_kind : GoodIn wsX4_drop (wsV RX4 191 RX1 yX1_kind wsX1_kind) := goodIn_app (goodIn_of _ (by decide +kernel)) ggX4_drop_X1_kind
theorem dX4_drop_0 : decode cX4_drop 0 = .ok (.aload_n 0, 1) := by decide +kernel
theorem dX4_drop_1 : decode cX4_drop 1 = .ok (.iload_n 1, 1) := by decide +kernel
theorem dX4_drop_2 : decode cX4_drop 2 = .ok (.invokevirtual 173, 3) := by decide +kernel
theorem dX4_drop_5 : decode cX4_drop 5 = .ok (.aload_n 0, 1) := by decide +kernel
theorem dX4_drop_6 : decode cX4_drop 6 = .ok (.getfield 23, 3) := by decide +kernel
theorem dX4_drop_9 : decode cX4_drop 9 = .ok (.iload_n 1, 1) := by decide +kernel
theorem dX4_drop_10 : decode cX4_drop 10 = .ok (.invokevirtual 176, 3) := by decide +kernel
theorem dX4_drop_13 : decode cX4_drop 13 = .ok (.checkcast 179, 3) := by decide +kernel
theorem dX4_drop_16 : decode cX4_drop 16 = .ok (.invokevirtual 191, 3) := by decide +kernel
theorem dX4_drop_19 : decode cX4_drop 19 = .ok (.ireturn, 1) := by decide +kernel
set_option maxRecDepth 20000 in
theorem ggX4_copy_X4_needLetter : GoodIn wsX4_copy wsX4_needLetter := goodIn_ca (goodIn_r _ [7, 1, 8, 9, 10, 11, 12, 13, 14, 15, 6, 16, 17, 18, 93, 94, 95, 96, 97, 98, 99, 100, 101, 102] (by decide +kernel) (by decide +kernel)) (goodIn_sub (fun _ h => List.mem_cons_of_mem _ (List.mem_append_right _ h)) (by decide +kernel))
set_option maxRecDepth 20000 in
theorem gX4_copy_X4_needLetter : GoodIn wsX4_copy (wsV RX4 173 RX4 yX4_needLetter wsX4_needLetter) := goodIn_app (goodIn_of _ (by decide +kernel)) ggX4_copy_X4_needLetter
set_option maxRecDepth 20000 in
theorem ggX4_copy_X4_hasRoom : GoodIn wsX4_copy wsX4_hasRoom := goodIn_r _ [22, 1, 8, 9, 10, 11, 12, 13, 93, 94, 95, 96, 97, 98, 99, 100, 101, 102] (by decide +kernel) (by decide +kernel)
set_option maxRecDepth 20000 in
theorem gX4_copy_X4_hasRoom : GoodIn wsX4_copy (wsV RX4 194 RX4 yX4_hasRoom wsX4_hasRoom) := goodIn_app (goodIn_of _ (by decide +kernel)) ggX4_copy_X4_hasRoom
set_option maxRecDepth 20000 in
theorem ggX4_copy_Jx4a65c_get_915e3 : GoodIn wsX4_copy wsJx4a65c_get_915e3 := goodIn_r _ [26, 13, 27, 28, 29, 30, 31, 32, 33, 34, 35, 36, 37, 11, 38, 39, 100, 101, 102] (by decide +kernel) (by decide +kernel)
set_option maxRecDepth 20000 in
theorem gX4_copy_Jx4a65c_get_915e3 : GoodIn wsX4_copy (wsV RX4 66 RJx4a65c yJx4a65c_get_915e3 wsJx4a65c_get_915e3) := goodIn_app (goodIn_of _ (by decide +kernel)) ggX4_copy_Jx4a65c_get_915e3
set_option maxRecDepth 20000 in
theorem ggX4_copy_Jx4a65c_add_9ea2d : GoodIn wsX4_copy wsJx4a65c_add_9ea2d := goodIn_r _ [43, 44, 45, 39, 13, 46, 47, 48, 11, 49, 50, 51, 52, 53, 54, 55, 56, 57, 58, 59, 60, 61, 62, 63, 64, 65, 66, 67, 68, 69, 70, 71, 72, 73, 74, 75, 76, 77, 78, 79, 80, 81, 82, 83, 84, 85, 86, 87, 88, 89, 90, 91, 92, 100, 101, 102] (by decide +kernel) (by decide +kernel)
set_option maxRecDepth 20000 in
theorem gX4_copy_Jx4a65c_add_9ea2d : GoodIn wsX4_copy (wsV RX4 62 RJx4a65c yJx4a65c_add_9ea2d wsJx4a65c_add_9ea2d) := goodIn_app (goodIn_of _ (by decide +kernel)) ggX4_copy_Jx4a65c_add_9ea2d
theorem dX4_copy_0 : decode cX4_copy 0 = .ok (.aload_n 0, 1) := by decide +kernel
theorem dX4_copy_1 : decode cX4_copy 1 = .ok (.iload_n 1, 1) := by decide +kernel
theorem dX4_copy_2 : decode cX4_copy 2 = .ok (.invokevirtual 173, 3) := by decide +kernel
theorem dX4_copy_5 : decode cX4_copy 5 = .ok (.aload_n 0, 1) := by decide +kernel
theorem dX4_copy_6 : decode cX4_copy 6 = .ok (.invokevirtual 194, 3) := by decide +kernel
theorem dX4_copy_9 : decode cX4_copy 9 = .ok (.ifCond .ne 5, 3) := by decide +kernel
theorem dX4_copy_12 : decode cX4_copy 12 = .ok (.iconst 0, 1) := by decide +kernel
theorem dX4_copy_13 : decode cX4_copy 13 = .ok (.ireturn, 1) := by decide +kernel
theorem dX4_copy_14 : decode cX4_copy 14 = .ok (.aload_n 0, 1) := by decide +kernel
theorem dX4_copy_15 : decode cX4_copy 15 = .ok (.getfield 23, 3) := by decide +kernel
theorem dX4_copy_18 : decode cX4_copy 18 = .ok (.aload_n 0, 1) := by decide +kernel
theorem dX4_copy_19 : decode cX4_copy 19 = .ok (.getfield 23, 3) := by decide +kernel
theorem dX4_copy_22 : decode cX4_copy 22 = .ok (.iload_n 1, 1) := by decide +kernel
theorem dX4_copy_23 : decode cX4_copy 23 = .ok (.invokevirtual 66, 3) := by decide +kernel
theorem dX4_copy_26 : decode cX4_copy 26 = .ok (.checkcast 179, 3) := by decide +kernel
theorem dX4_copy_29 : decode cX4_copy 29 = .ok (.invokevirtual 62, 3) := by decide +kernel
theorem dX4_copy_32 : decode cX4_copy 32 = .ok (.pop, 1) := by decide +kernel
theorem dX4_copy_33 : decode cX4_copy 33 = .ok (.iconst 1, 1) := by decide +kernel
theorem dX4_copy_34 : decode cX4_copy 34 = .ok (.ireturn, 1) := by decide +kernel
set_option maxRecDepth 20000 in
theorem ggX4_byteOf_X4_needLetter : GoodIn wsX4_byteOf wsX4_needLetter := goodIn_ca (goodIn_r _ [11, 1, 12, 13, 14, 15, 16, 17, 18, 19, 10, 20, 21, 22, 147, 148, 149, 150, 151, 152, 153, 158, 159, 160] (by decide +kernel) (by decide +kernel)) (goodIn_sub (fun _ h => List.mem_cons_of_mem _ (List.mem_append_right _ h)) (by decide +kernel))
set_option maxRecDepth 20000 in
theorem gX4_byteOf_X4_needLetter : GoodIn wsX4_byteOf (wsV RX4 173 RX4 yX4_needLetter wsX4_needLetter) := goodIn_app (goodIn_of _ (by decide +kernel)) ggX4_byteOf_X4_needLetter
set_option maxRecDepth 20000 in
theorem ggX4_byteOf_Jx4a65c_get_915e3 : GoodIn wsX4_byteOf wsJx4a65c_get_915e3 := goodIn_r _ [26, 17, 27, 28, 29, 30, 31, 32, 33, 34, 35, 36, 37, 15, 38, 39, 158, 159, 160] (by decide +kernel) (by decide +kernel)
set_option maxRecDepth 20000 in
theorem gX4_byteOf_Jx4a65c_get_915e3 : GoodIn wsX4_byteOf (wsV RX4 66 RJx4a65c yJx4a65c_get_915e3 wsJx4a65c_get_915e3) := goodIn_app (goodIn_of _ (by decide +kernel)) ggX4_byteOf_Jx4a65c_get_915e3
set_option maxRecDepth 20000 in
theorem ggX4_byteOf_X0_lookFor : GoodIn wsX4_byteOf wsX0_lookFor := goodIn_r _ [44, 45, 46, 47, 48, 154, 155, 156, 157] (by decide +kernel) (by decide +kernel)
set_option maxRecDepth 20000 in
theorem gX4_byteOf_X0_lookFor : GoodIn wsX4_byteOf (wsV RX4 198 RX0 yX0_lookFor wsX0_lookFor) := goodIn_app (goodIn_of _ (by decide +kernel)) ggX4_byteOf_X0_lookFor
set_option maxRecDepth 20000 in
theorem ggX4_byteOf_X1_transaction : GoodIn wsX4_byteOf wsX1_transaction := goodIn_r _ [53, 54, 161, 162, 163, 164] (by decide +kernel) (by decide +kernel)
set_option maxRecDepth 20000 in
theorem gX4_byteOf_X1_transaction : GoodIn wsX4_byteOf (wsV RX4 184 RX1 yX1_transaction wsX1_transaction) := goodIn_app (goodIn_of _ (by decide +kernel)) ggX4_byteOf_X1_transaction
set_option maxRecDepth 20000 in
theorem ggX4_byteOf_X4_spell : GoodIn wsX4_byteOf wsX4_spell := goodIn_r _ [58, 3, 59, 60, 61, 62, 63, 52, 64, 65, 66, 67, 68, 43, 69, 46, 45, 48, 47, 70, 71, 72, 73, 74, 75, 76, 77, 78, 79, 80, 81, 82, 83, 84, 85, 86, 87, 88, 10, 89, 90, 91, 92, 93, 94, 95, 96, 97, 98, 99, 100, 101, 102, 103, 104, 105, 106, 107, 108, 109, 110, 111, 112, 113, 114, 115, 116, 117, 118, 119, 120, 121, 122, 123, 124, 125, 126, 127, 128, 129, 130, 131, 132, 133, 134, 135, 136, 137, 138, 139, 140, 141, 142, 143, 144, 145, 146, 147, 148, 149, 150, 151, 152, 153, 165, 166, 167, 168, 169, 170, 171, 172, 173, 174, 175, 176, 177, 178, 179, 180, 161, 162, 163, 164, 154, 155, 156, 157] (by decide +kernel) (by decide +kernel)
set_option maxRecDepth 20000 in
theorem gX4_byteOf_X4_spell : GoodIn wsX4_byteOf (wsV RX4 201 RX4 yX4_spell wsX4_spell) := goodIn_app (goodIn_of _ (by decide +kernel)) ggX4_byteOf_X4_spell
theorem dX4_byteOf_0 : decode cX4_byteOf 0 = .ok (.aload_n 0, 1) := by decide +kernel
theorem dX4_byteOf_1 : decode cX4_byteOf 1 = .ok (.iload_n 1, 1) := by decide +kernel
theorem dX4_byteOf_2 : decode cX4_byteOf 2 = .ok (.invokevirtual 173, 3) := by decide +kernel
theorem dX4_byteOf_5 : decode cX4_byteOf 5 = .ok (.aload_n 0, 1) := by decide +kernel
theorem dX4_byteOf_6 : decode cX4_byteOf 6 = .ok (.getfield 23, 3) := by decide +kernel
theorem dX4_byteOf_9 : decode cX4_byteOf 9 = .ok (.iload_n 1, 1) := by decide +kernel
theorem dX4_byteOf_10 : decode cX4_byteOf 10 = .ok (.invokevirtual 66, 3) := by decide +kernel
theorem dX4_byteOf_13 : decode cX4_byteOf 13 = .ok (.checkcast 179, 3) := by decide +kernel
theorem dX4_byteOf_16 : decode cX4_byteOf 16 = .ok (.astore_n 3, 1) := by decide +kernel
theorem dX4_byteOf_17 : decode cX4_byteOf 17 = .ok (.aload_n 0, 1) := by decide +kernel
theorem dX4_byteOf_18 : decode cX4_byteOf 18 = .ok (.getfield 29, 3) := by decide +kernel
theorem dX4_byteOf_21 : decode cX4_byteOf 21 = .ok (.iload_n 2, 1) := by decide +kernel
theorem dX4_byteOf_22 : decode cX4_byteOf 22 = .ok (.invokevirtual 198, 3) := by decide +kernel
theorem dX4_byteOf_25 : decode cX4_byteOf 25 = .ok (.aload_n 0, 1) := by decide +kernel
theorem dX4_byteOf_26 : decode cX4_byteOf 26 = .ok (.aload_n 3, 1) := by decide +kernel
theorem dX4_byteOf_27 : decode cX4_byteOf 27 = .ok (.aload_n 0, 1) := by decide +kernel
theorem dX4_byteOf_28 : decode cX4_byteOf 28 = .ok (.getfield 19, 3) := by decide +kernel
theorem dX4_byteOf_31 : decode cX4_byteOf 31 = .ok (.aload_n 3, 1) := by decide +kernel
theorem dX4_byteOf_32 : decode cX4_byteOf 32 = .ok (.invokevirtual 184, 3) := by decide +kernel
theorem dX4_byteOf_35 : decode cX4_byteOf 35 = .ok (.invokevirtual 66, 3) := by decide +kernel
theorem dX4_byteOf_38 : decode cX4_byteOf 38 = .ok (.checkcast 59, 3) := by decide +kernel
theorem dX4_byteOf_41 : decode cX4_byteOf 41 = .ok (.invokevirtual 201, 3) := by decide +kernel
theorem dX4_byteOf_44 : decode cX4_byteOf 44 = .ok (.aload_n 0, 1) := by decide +kernel
theorem dX4_byteOf_45 : decode cX4_byteOf 45 = .ok (.getfield 29, 3) := by decide +kernel
theorem dX4_byteOf_48 : decode cX4_byteOf 48 = .ok (.getfield 205, 3) := by decide +kernel
theorem dX4_byteOf_51 : decode cX4_byteOf 51 = .ok (.ireturn, 1) := by decide +kernel
set_option maxRecDepth 20000 in
theorem ggX4_crash_X4_needSite : GoodIn wsX4_crash wsX4_needSite := goodIn_ca (goodIn_r _ [12, 13, 14, 15, 11, 16, 17, 18, 51, 52, 53, 54, 55, 56, 57] (by decide +kernel) (by decide +kernel)) (goodIn_sub (fun _ h => List.mem_cons_of_mem _ (List.mem_append_left _ (List.mem_append_right _ h))) (by decide +kernel))
set_option maxRecDepth 20000 in
theorem gX4_crash_X4_needSite : GoodIn wsX4_crash (wsV RX4 41 RX4 yX4_needSite wsX4_needSite) := goodIn_app (goodIn_of _ (by decide +kernel)) ggX4_crash_X4_needSite
set_option maxRecDepth 20000 in
theorem ggX4_crash_X4_needState : GoodIn wsX4_crash wsX4_needState := goodIn_ca (goodIn_r _ [21, 22, 23] (by decide +kernel) (by decide +kernel)) (goodIn_sub (fun _ h => List.mem_cons_of_mem _ (List.mem_append_right _ h)) (by decide +kernel))
set_option maxRecDepth 20000 in
theorem gX4_crash_X4_needState : GoodIn wsX4_crash (va_wsS RX4 52 yX4_needState wsX4_needState) := goodIn_app (goodIn_of _ (by decide +kernel)) ggX4_crash_X4_needState
set_option maxRecDepth 20000 in
theorem ggX4_crash_Jx4a65c_get_915e3 : GoodIn wsX4_crash wsJx4a65c_get_915e3 := goodIn_r _ [28, 29, 30, 31, 32, 33, 34, 35, 36, 37, 38, 39, 40, 27, 41, 42, 79, 80, 81] (by decide +kernel) (by decide +kernel)
set_option maxRecDepth 20000 in
theorem gX4_crash_Jx4a65c_get_915e3 : GoodIn wsX4_crash (wsV RX4 66 RJx4a65c yJx4a65c_get_915e3 wsJx4a65c_get_915e3) := goodIn_app (goodIn_of _ (by decide +kernel)) ggX4_crash_Jx4a65c_get_915e3
set_option maxRecDepth 20000 in
theorem ggX4_crash_X4_bit : GoodIn wsX4_crash wsX4_bit := goodIn_r _ [45] (by decide +kernel) (by decide +kernel)
set_option maxRecDepth 20000 in
theorem gX4_crash_X4_bit : GoodIn wsX4_crash (va_wsS RX4 140 yX4_bit wsX4_bit) := goodIn_app (goodIn_of _ (by decide +kernel)) ggX4_crash_X4_bit
set_option maxRecDepth 20000 in
theorem ggX4_crash_X4_loseIfOpen : GoodIn wsX4_crash wsX4_loseIfOpen := goodIn_r _ [48, 49, 50, 63, 64, 65, 66, 67, 68, 69, 70, 71, 72, 73, 74, 75, 76, 77, 78] (by decide +kernel) (by decide +kernel)
set_option maxRecDepth 20000 in
theorem gX4_crash_X4_loseIfOpen : GoodIn wsX4_crash (va_wsS RX4 211 yX4_loseIfOpen wsX4_loseIfOpen) := goodIn_app (goodIn_of _ (by decide +kernel)) ggX4_crash_X4_loseIfOpen
theorem dX4_crash_0 : decode cX4_crash 0 = .ok (.aload_n 0, 1) := by decide +kernel
theorem dX4_crash_1 : decode cX4_crash 1 = .ok (.iload_n 1, 1) := by decide +kernel
theorem dX4_crash_2 : decode cX4_crash 2 = .ok (.invokevirtual 41, 3) := by decide +kernel
theorem dX4_crash_5 : decode cX4_crash 5 = .ok (.aload_n 0, 1) := by decide +kernel
theorem dX4_crash_6 : decode cX4_crash 6 = .ok (.getfield 11, 3) := by decide +kernel
theorem dX4_crash_9 : decode cX4_crash 9 = .ok (.iload_n 1, 1) := by decide +kernel
theorem dX4_crash_10 : decode cX4_crash 10 = .ok (.aaload, 1) := by decide +kernel
theorem dX4_crash_11 : decode cX4_crash 11 = .ok (.getfield 44, 3) := by decide +kernel
theorem dX4_crash_14 : decode cX4_crash 14 = .ok (.invokestatic 52, 3) := by decide +kernel
theorem dX4_crash_17 : decode cX4_crash 17 = .ok (.aload_n 0, 1) := by decide +kernel
theorem dX4_crash_18 : decode cX4_crash 18 = .ok (.getfield 11, 3) := by decide +kernel
theorem dX4_crash_21 : decode cX4_crash 21 = .ok (.iload_n 1, 1) := by decide +kernel
theorem dX4_crash_22 : decode cX4_crash 22 = .ok (.aaload, 1) := by decide +kernel
theorem dX4_crash_23 : decode cX4_crash 23 = .ok (.iconst 0, 1) := by decide +kernel
theorem dX4_crash_24 : decode cX4_crash 24 = .ok (.putfield 44, 3) := by decide +kernel
theorem dX4_crash_27 : decode cX4_crash 27 = .ok (.iconst 0, 1) := by decide +kernel
theorem dX4_crash_28 : decode cX4_crash 28 = .ok (.istore_n 2, 1) := by decide +kernel
theorem dX4_crash_29 : decode cX4_crash 29 = .ok (.iload_n 2, 1) := by decide +kernel
theorem dX4_crash_30 : decode cX4_crash 30 = .ok (.aload_n 0, 1) := by decide +kernel
theorem dX4_crash_31 : decode cX4_crash 31 = .ok (.getfield 48, 3) := by decide +kernel
theorem dX4_crash_34 : decode cX4_crash 34 = .ok (.if_icmp .ge 48, 3) := by decide +kernel
theorem dX4_crash_37 : decode cX4_crash 37 = .ok (.aload_n 0, 1) := by decide +kernel
theorem dX4_crash_38 : decode cX4_crash 38 = .ok (.getfield 19, 3) := by decide +kernel
theorem dX4_crash_41 : decode cX4_crash 41 = .ok (.iload_n 2, 1) := by decide +kernel
theorem dX4_crash_42 : decode cX4_crash 42 = .ok (.invokevirtual 66, 3) := by decide +kernel
theorem dX4_crash_45 : decode cX4_crash 45 = .ok (.checkcast 59, 3) := by decide +kernel
theorem dX4_crash_48 : decode cX4_crash 48 = .ok (.astore_n 3, 1) := by decide +kernel
theorem dX4_crash_49 : decode cX4_crash 49 = .ok (.aload_n 3, 1) := by decide +kernel
theorem dX4_crash_50 : decode cX4_crash 50 = .ok (.dup, 1) := by decide +kernel
theorem dX4_crash_51 : decode cX4_crash 51 = .ok (.getfield 208, 3) := by decide +kernel
theorem dX4_crash_54 : decode cX4_crash 54 = .ok (.iload_n 1, 1) := by decide +kernel
theorem dX4_crash_55 : decode cX4_crash 55 = .ok (.invokestatic 140, 3) := by decide +kernel
theorem dX4_crash_58 : decode cX4_crash 58 = .ok (.iconst (-1), 1) := by decide +kernel
theorem dX4_crash_59 : decode cX4_crash 59 = .ok (.ixor, 1) := by decide +kernel
theorem dX4_crash_60 : decode cX4_crash 60 = .ok (.iand, 1) := by decide +kernel
theorem dX4_crash_61 : decode cX4_crash 61 = .ok (.putfield 208, 3) := by decide +kernel
theorem dX4_crash_64 : decode cX4_crash 64 = .ok (.aload_n 3, 1) := by decide +kernel
theorem dX4_crash_65 : decode cX4_crash 65 = .ok (.getfield 95, 3) := by decide +kernel
theorem dX4_crash_68 : decode cX4_crash 68 = .ok (.iload_n 1, 1) := by decide +kernel
theorem dX4_crash_69 : decode cX4_crash 69 = .ok (.if_icmp .ne 7, 3) := by decide +kernel
theorem dX4_crash_72 : decode cX4_crash 72 = .ok (.aload_n 3, 1) := by decide +kernel
theorem dX4_crash_73 : decode cX4_crash 73 = .ok (.invokestatic 211, 3) := by decide +kernel
theorem dX4_crash_76 : decode cX4_crash 76 = .ok (.iinc 2 1, 3) := by decide +kernel
theorem dX4_crash_79 : decode cX4_crash 79 = .ok (.goto (-50), 3) := by decide +kernel
theorem dX4_crash_82 : decode cX4_crash 82 = .ok (.return_, 1) := by decide +kernel
set_option maxRecDepth 20000 in
theorem ggX4_restart_X4_needSite : GoodIn wsX4_restart wsX4_needSite := goodIn_ca (goodIn_r _ [12, 13, 14, 15, 11, 16, 17, 18, 155, 156, 157, 158, 159, 160, 161] (by decide +kernel) (by decide +kernel)) (goodIn_sub (fun _ h => List.mem_cons_of_mem _ (List.mem_append_left _ (List.mem_append_right _ h))) (by decide +kernel))
set_option maxRecDepth 20000 in
theorem gX4_restart_X4_needSite : GoodIn wsX4_restart (wsV RX4 41 RX4 yX4_needSite wsX4_needSite) := goodIn_app (goodIn_of _ (by decide +kernel)) ggX4_restart_X4_needSite
set_option maxRecDepth 20000 in
theorem ggX4_restart_X4_needState : GoodIn wsX4_restart wsX4_needState := goodIn_ca (goodIn_r _ [21, 22, 23] (by decide +kernel) (by decide +kernel)) (goodIn_sub (fun _ h => List.mem_cons_of_mem _ (List.mem_append_right _ h)) (by decide +kernel))
set_option maxRecDepth 20000 in
theorem gX4_restart_X4_needState : GoodIn wsX4_restart (va_wsS RX4 52 yX4_needState wsX4_needState) := goodIn_app (goodIn_of _ (by decide +kernel)) ggX4_restart_X4_needState
set_option maxRecDepth 20000 in
theorem ggX4_restart_Jx4a65c_get_915e3 : GoodIn wsX4_restart wsJx4a65c_get_915e3 := goodIn_r _ [28, 29, 30, 31, 32, 33, 34, 35, 36, 37, 38, 39, 40, 27, 41, 42, 183, 184, 185] (by decide +kernel) (by decide +kernel)
set_option maxRecDepth 20000 in
theorem gX4_restart_Jx4a65c_get_915e3 : GoodIn wsX4_restart (wsV RX4 66 RJx4a65c yJx4a65c_get_915e3 wsJx4a65c_get_915e3) := goodIn_app (goodIn_of _ (by decide +kernel)) ggX4_restart_Jx4a65c_get_915e3
set_option maxRecDepth 20000 in
theorem ggX4_restart_X4_giveUpLocks : GoodIn wsX4_restart wsX4_giveUpLocks := goodIn_r _ [46, 1, 6, 47, 48, 49, 50, 51, 52, 53, 54, 55, 56, 57, 11, 58, 13, 59, 60, 61, 62, 63, 64, 65, 66, 67, 68, 69, 70, 71, 72, 73, 74, 75, 76, 77, 78, 79, 80, 27, 81, 29, 82, 83, 84, 85, 86, 87, 88, 89, 90, 91, 92, 93, 94, 95, 96, 97, 98, 99, 100, 42, 101, 102, 103, 104, 105, 106, 107, 108, 109, 110, 111, 112, 113, 114, 115, 116, 117, 118, 119, 120, 121, 122, 123, 124, 125, 126, 127, 128, 129, 130, 131, 132, 133, 134, 135, 136, 137, 138, 139, 140, 141, 142, 143, 144, 145, 146, 147, 148, 149, 150, 151, 152, 153, 154, 155, 156, 157, 158, 159, 160, 161, 167, 168, 169, 170, 171, 172, 173, 174, 175, 176, 177, 178, 179, 180, 181, 182, 162, 163, 164, 165, 166, 186, 187, 188, 189, 183, 184, 185] (by decide +kernel) (by decide +kernel)
set_option maxRecDepth 20000 in
theorem gX4_restart_X4_giveUpLocks : GoodIn wsX4_restart (wsV RX4 217 RX4 yX4_giveUpLocks wsX4_giveUpLocks) := goodIn_app (goodIn_of _ (by decide +kernel)) ggX4_restart_X4_giveUpLocks
theorem dX4_restart_0 : decode cX4_restart 0 = .ok (.aload_n 0, 1) := by decide +kernel
theorem dX4_restart_1 : decode cX4_restart 1 = .ok (.iload_n 1, 1) := by decide +kernel
theorem dX4_restart_2 : decode cX4_restart 2 = .ok (.invokevirtual 41, 3) := by decide +kernel
theorem dX4_restart_5 : decode cX4_restart 5 = .ok (.aload_n 0, 1) := by decide +kernel
theorem dX4_restart_6 : decode cX4_restart 6 = .ok (.getfield 11, 3) := by decide +kernel
theorem dX4_restart_9 : decode cX4_restart 9 = .ok (.iload_n 1, 1) := by decide +kernel
theorem dX4_restart_10 : decode cX4_restart 10 = .ok (.aaload, 1) := by decide +kernel
theorem dX4_restart_11 : decode cX4_restart 11 = .ok (.getfield 44, 3) := by decide +kernel
theorem dX4_restart_14 : decode cX4_restart 14 = .ok (.ifCond .ne 7, 3) := by decide +kernel
theorem dX4_restart_17 : decode cX4_restart 17 = .ok (.iconst 1, 1) := by decide +kernel
theorem dX4_restart_18 : decode cX4_restart 18 = .ok (.goto 4, 3) := by decide +kernel
theorem dX4_restart_21 : decode cX4_restart 21 = .ok (.iconst 0, 1) := by decide +kernel
theorem dX4_restart_22 : decode cX4_restart 22 = .ok (.invokestatic 52, 3) := by decide +kernel
theorem dX4_restart_25 : decode cX4_restart 25 = .ok (.aload_n 0, 1) := by decide +kernel
theorem dX4_restart_26 : decode cX4_restart 26 = .ok (.getfield 11, 3) := by decide +kernel
theorem dX4_restart_29 : decode cX4_restart 29 = .ok (.iload_n 1, 1) := by decide +kernel
theorem dX4_restart_30 : decode cX4_restart 30 = .ok (.aaload, 1) := by decide +kernel
theorem dX4_restart_31 : decode cX4_restart 31 = .ok (.iconst 1, 1) := by decide +kernel
theorem dX4_restart_32 : decode cX4_restart 32 = .ok (.putfield 44, 3) := by decide +kernel
theorem dX4_restart_35 : decode cX4_restart 35 = .ok (.iconst 0, 1) := by decide +kernel
theorem dX4_restart_36 : decode cX4_restart 36 = .ok (.istore_n 2, 1) := by decide +kernel
theorem dX4_restart_37 : decode cX4_restart 37 = .ok (.iload_n 2, 1) := by decide +kernel
theorem dX4_restart_38 : decode cX4_restart 38 = .ok (.aload_n 0, 1) := by decide +kernel
theorem dX4_restart_39 : decode cX4_restart 39 = .ok (.getfield 48, 3) := by decide +kernel
theorem dX4_restart_42 : decode cX4_restart 42 = .ok (.if_icmp .ge 46, 3) := by decide +kernel
theorem dX4_restart_45 : decode cX4_restart 45 = .ok (.aload_n 0, 1) := by decide +kernel
theorem dX4_restart_46 : decode cX4_restart 46 = .ok (.getfield 19, 3) := by decide +kernel
theorem dX4_restart_49 : decode cX4_restart 49 = .ok (.iload_n 2, 1) := by decide +kernel
theorem dX4_restart_50 : decode cX4_restart 50 = .ok (.invokevirtual 66, 3) := by decide +kernel
theorem dX4_restart_53 : decode cX4_restart 53 = .ok (.checkcast 59, 3) := by decide +kernel
theorem dX4_restart_56 : decode cX4_restart 56 = .ok (.astore_n 3, 1) := by decide +kernel
theorem dX4_restart_57 : decode cX4_restart 57 = .ok (.aload_n 3, 1) := by decide +kernel
theorem dX4_restart_58 : decode cX4_restart 58 = .ok (.getfield 95, 3) := by decide +kernel
theorem dX4_restart_61 : decode cX4_restart 61 = .ok (.iload_n 1, 1) := by decide +kernel
theorem dX4_restart_62 : decode cX4_restart 62 = .ok (.if_icmp .ne 20, 3) := by decide +kernel
theorem dX4_restart_65 : decode cX4_restart 65 = .ok (.aload_n 3, 1) := by decide +kernel
theorem dX4_restart_66 : decode cX4_restart 66 = .ok (.getfield 214, 3) := by decide +kernel
theorem dX4_restart_69 : decode cX4_restart 69 = .ok (.ifCond .eq 13, 3) := by decide +kernel
theorem dX4_restart_72 : decode cX4_restart 72 = .ok (.aload_n 3, 1) := by decide +kernel
theorem dX4_restart_73 : decode cX4_restart 73 = .ok (.iconst 0, 1) := by decide +kernel
theorem dX4_restart_74 : decode cX4_restart 74 = .ok (.putfield 214, 3) := by decide +kernel
theorem dX4_restart_77 : decode cX4_restart 77 = .ok (.aload_n 0, 1) := by decide +kernel
theorem dX4_restart_78 : decode cX4_restart 78 = .ok (.aload_n 3, 1) := by decide +kernel
theorem dX4_restart_79 : decode cX4_restart 79 = .ok (.invokevirtual 217, 3) := by decide +kernel
theorem dX4_restart_82 : decode cX4_restart 82 = .ok (.iinc 2 1, 3) := by decide +kernel
theorem dX4_restart_85 : decode cX4_restart 85 = .ok (.goto (-48), 3) := by decide +kernel
theorem dX4_restart_88 : decode cX4_restart 88 = .ok (.return_, 1) := by decide +kernel
set_option maxRecDepth 20000 in
theorem ggX4_about_X4_needTransaction : GoodIn wsX4_about wsX4_needTransaction := goodIn_ca (goodIn_r _ [14, 15, 16, 17, 13, 18, 1, 2, 45, 46, 47, 48, 49, 50, 51] (by decide +kernel) (by decide +kernel)) (goodIn_sub (fun _ h => List.mem_cons_of_mem _ (List.mem_append_right _ h)) (by decide +kernel))
set_option maxRecDepth 20000 in
theorem gX4_about_X4_needTransaction : GoodIn wsX4_about (wsV RX4 78 RX4 yX4_needTransaction wsX4_needTransaction) := goodIn_app (goodIn_of _ (by decide +kernel)) ggX4_about_X4_needTransaction
set_option maxRecDepth 20000 in
theorem ggX4_about_Jx4a65c_get_915e3 : GoodIn wsX4_about wsJx4a65c_get_915e3 := goodIn_r _ [23, 24, 25, 26, 27, 28, 29, 30, 31, 32, 33, 34, 35, 22, 36, 37, 68, 69, 70] (by decide +kernel) (by decide +kernel)
set_option maxRecDepth 20000 in
theorem gX4_about_Jx4a65c_get_915e3 : GoodIn wsX4_about (wsV RX4 66 RJx4a65c yJx4a65c_get_915e3 wsJx4a65c_get_915e3) := goodIn_app (goodIn_of _ (by decide +kernel)) ggX4_about_Jx4a65c_get_915e3
set_option maxRecDepth 20000 in
theorem ggX4_about_J6_bitCount_0f7a4 : GoodIn wsX4_about wsJ6_bitCount_0f7a4 := goodIn_r _ [41, 42, 43, 44] (by decide +kernel) (by decide +kernel)
set_option maxRecDepth 20000 in
theorem gX4_about_J6_bitCount_0f7a4 : GoodIn wsX4_about (va_wsS RX4 223 yJ6_bitCount_0f7a4 wsJ6_bitCount_0f7a4) := goodIn_app (goodIn_of _ (by decide +kernel)) ggX4_about_J6_bitCount_0f7a4
theorem dX4_about_0 : decode cX4_about 0 = .ok (.aload_n 0, 1) := by decide +kernel
theorem dX4_about_1 : decode cX4_about 1 = .ok (.iload_n 1, 1) := by decide +kernel
theorem dX4_about_2 : decode cX4_about 2 = .ok (.invokevirtual 78, 3) := by decide +kernel
theorem dX4_about_5 : decode cX4_about 5 = .ok (.aload_n 0, 1) := by decide +kernel
theorem dX4_about_6 : decode cX4_about 6 = .ok (.getfield 19, 3) := by decide +kernel
theorem dX4_about_9 : decode cX4_about 9 = .ok (.iload_n 1, 1) := by decide +kernel
theorem dX4_about_10 : decode cX4_about 10 = .ok (.invokevirtual 66, 3) := by decide +kernel
theorem dX4_about_13 : decode cX4_about 13 = .ok (.checkcast 59, 3) := by decide +kernel
theorem dX4_about_16 : decode cX4_about 16 = .ok (.astore_n 3, 1) := by decide +kernel
theorem dX4_about_17 : decode cX4_about 17 = .ok (.iload_n 2, 1) := by decide +kernel
theorem dX4_about_18 : decode cX4_about 18 = .ok (.tableswitch 65 0 4 #[34, 39, 44, 49, 57], 34) := by decide +kernel
theorem dX4_about_52 : decode cX4_about 52 = .ok (.aload_n 3, 1) := by decide +kernel
theorem dX4_about_53 : decode cX4_about 53 = .ok (.getfield 147, 3) := by decide +kernel
theorem dX4_about_56 : decode cX4_about 56 = .ok (.ireturn, 1) := by decide +kernel
theorem dX4_about_57 : decode cX4_about 57 = .ok (.aload_n 3, 1) := by decide +kernel
theorem dX4_about_58 : decode cX4_about 58 = .ok (.getfield 95, 3) := by decide +kernel
theorem dX4_about_61 : decode cX4_about 61 = .ok (.ireturn, 1) := by decide +kernel
theorem dX4_about_62 : decode cX4_about 62 = .ok (.aload_n 3, 1) := by decide +kernel
theorem dX4_about_63 : decode cX4_about 63 = .ok (.getfield 220, 3) := by decide +kernel
theorem dX4_about_66 : decode cX4_about 66 = .ok (.ireturn, 1) := by decide +kernel
theorem dX4_about_67 : decode cX4_about 67 = .ok (.aload_n 3, 1) := by decide +kernel
theorem dX4_about_68 : decode cX4_about 68 = .ok (.getfield 170, 3) := by decide +kernel
theorem dX4_about_71 : decode cX4_about 71 = .ok (.invokestatic 223, 3) := by decide +kernel
theorem dX4_about_74 : decode cX4_about 74 = .ok (.ireturn, 1) := by decide +kernel
theorem dX4_about_75 : decode cX4_about 75 = .ok (.aload_n 3, 1) := by decide +kernel
theorem dX4_about_76 : decode cX4_about 76 = .ok (.getfield 160, 3) := by decide +kernel
theorem dX4_about_79 : decode cX4_about 79 = .ok (.invokestatic 223, 3) := by decide +kernel
theorem dX4_about_82 : decode cX4_about 82 = .ok (.ireturn, 1) := by decide +kernel
theorem dX4_about_83 : decode cX4_about 83 = .ok (.new 228, 3) := by decide +kernel
theorem dX4_about_86 : decode cX4_about 86 = .ok (.dup, 1) := by decide +kernel
theorem dX4_about_87 : decode cX4_about 87 = .ok (.ldc 230, 2) := by decide +kernel
theorem dX4_about_89 : decode cX4_about 89 = .ok (.invokespecial 232, 3) := by decide +kernel
theorem dX4_about_92 : decode cX4_about 92 = .ok (.athrow, 1) := by decide +kernel
set_option maxRecDepth 20000 in
theorem ggX4_vector_X4_needSite : GoodIn wsX4_vector wsX4_needSite := goodIn_ca (goodIn_r _ [7, 8, 9, 10, 6, 11, 12, 13, 14, 15, 16, 17, 18, 19, 20] (by decide +kernel) (by decide +kernel)) (goodIn_sub (fun _ h => List.mem_cons_of_mem _ (List.mem_append_right _ h)) (by decide +kernel))
set_option maxRecDepth 20000 in
theorem gX4_vector_X4_needSite : GoodIn wsX4_vector (wsV RX4 41 RX4 yX4_needSite wsX4_needSite) := goodIn_app (goodIn_of _ (by decide +kernel)) ggX4_vector_X4_needSite
theorem dX4_vector_0 : decode cX4_vector 0 = .ok (.aload_n 0, 1) := by decide +kernel
theorem dX4_vector_1 : decode cX4_vector 1 = .ok (.iload_n 1, 1) := by decide +kernel
theorem dX4_vector_2 : decode cX4_vector 2 = .ok (.invokevirtual 41, 3) := by decide +kernel
theorem dX4_vector_5 : decode cX4_vector 5 = .ok (.aload_n 0, 1) := by decide +kernel
theorem dX4_vector_6 : decode cX4_vector 6 = .ok (.iload_n 2, 1) := by decide +kernel
theorem dX4_vector_7 : decode cX4_vector 7 = .ok (.invokevirtual 41, 3) := by decide +kernel
theorem dX4_vector_10 : decode cX4_vector 10 = .ok (.aload_n 0, 1) := by decide +kernel
theorem dX4_vector_11 : decode cX4_vector 11 = .ok (.getfield 11, 3) := by decide +kernel
theorem dX4_vector_14 : decode cX4_vector 14 = .ok (.iload_n 1, 1) := by decide +kernel
theorem dX4_vector_15 : decode cX4_vector 15 = .ok (.aaload, 1) := by decide +kernel
theorem dX4_vector_16 : decode cX4_vector 16 = .ok (.getfield 70, 3) := by decide +kernel
theorem dX4_vector_19 : decode cX4_vector 19 = .ok (.iload_n 2, 1) := by decide +kernel
theorem dX4_vector_20 : decode cX4_vector 20 = .ok (.iaload, 1) := by decide +kernel
theorem dX4_vector_21 : decode cX4_vector 21 = .ok (.ireturn, 1) := by decide +kernel
set_option maxRecDepth 20000 in
theorem ggX4_value_X4_needSite : GoodIn wsX4_value wsX4_needSite := goodIn_ca (goodIn_r _ [7, 8, 9, 10, 6, 11, 12, 13, 62, 63, 64, 65, 66, 67, 68] (by decide +kernel) (by decide +kernel)) (goodIn_sub (fun _ h => List.mem_cons_of_mem _ (List.mem_append_right _ h)) (by decide +kernel))
set_option maxRecDepth 20000 in
theorem gX4_value_X4_needSite : GoodIn wsX4_value (wsV RX4 41 RX4 yX4_needSite wsX4_needSite) := goodIn_app (goodIn_of _ (by decide +kernel)) ggX4_value_X4_needSite
set_option maxRecDepth 20000 in
theorem ggX4_value_X4_needObject : GoodIn wsX4_value wsX4_needObject := goodIn_ca (goodIn_r _ [16, 9, 10, 6, 11, 12, 13] (by decide +kernel) (by decide +kernel)) (goodIn_sub (fun _ h => List.mem_cons_of_mem _ (List.mem_append_right _ h)) (by decide +kernel))
set_option maxRecDepth 20000 in
theorem gX4_value_X4_needObject : GoodIn wsX4_value (va_wsS RX4 81 yX4_needObject wsX4_needObject) := goodIn_app (goodIn_of _ (by decide +kernel)) ggX4_value_X4_needObject
set_option maxRecDepth 20000 in
theorem ggX4_value_X4_latestSeen : GoodIn wsX4_value wsX4_latestSeen := goodIn_r _ [20, 21, 22, 23, 24, 25, 26, 27, 28, 29, 30, 31, 32, 33, 34, 35, 36, 37, 38, 39, 40, 41, 42, 43, 44, 45, 46, 47, 48, 49, 50, 51, 6, 52, 53, 54, 55, 56, 57, 58, 59, 60, 61, 69, 70, 71, 72, 73, 62, 63, 64, 65, 66, 67, 68, 74, 75, 76, 77, 78, 79, 80, 81, 82, 83, 84, 85, 86, 87, 88, 89, 90, 91, 92] (by decide +kernel) (by decide +kernel)
set_option maxRecDepth 20000 in
theorem gX4_value_X4_latestSeen : GoodIn wsX4_value (wsV RX4 101 RX4 yX4_latestSeen wsX4_latestSeen) := goodIn_app (goodIn_of _ (by decide +kernel)) ggX4_value_X4_latestSeen
theorem dX4_value_0 : decode cX4_value 0 = .ok (.aload_n 0, 1) := by decide +kernel
theorem dX4_value_1 : decode cX4_value 1 = .ok (.iload_n 1, 1) := by decide +kernel
theorem dX4_value_2 : decode cX4_value 2 = .ok (.invokevirtual 41, 3) := by decide +kernel
theorem dX4_value_5 : decode cX4_value 5 = .ok (.iload_n 2, 1) := by decide +kernel
theorem dX4_value_6 : decode cX4_value 6 = .ok (.invokestatic 81, 3) := by decide +kernel
theorem dX4_value_9 : decode cX4_value 9 = .ok (.aload_n 0, 1) := by decide +kernel
theorem dX4_value_10 : decode cX4_value 10 = .ok (.aload_n 0, 1) := by decide +kernel
theorem dX4_value_11 : decode cX4_value 11 = .ok (.getfield 11, 3) := by decide +kernel
theorem dX4_value_14 : decode cX4_value 14 = .ok (.iload_n 1, 1) := by decide +kernel
theorem dX4_value_15 : decode cX4_value 15 = .ok (.aaload, 1) := by decide +kernel
theorem dX4_value_16 : decode cX4_value 16 = .ok (.aload_n 0, 1) := by decide +kernel
theorem dX4_value_17 : decode cX4_value 17 = .ok (.getfield 11, 3) := by decide +kernel
theorem dX4_value_20 : decode cX4_value 20 = .ok (.iload_n 1, 1) := by decide +kernel
theorem dX4_value_21 : decode cX4_value 21 = .ok (.aaload, 1) := by decide +kernel
theorem dX4_value_22 : decode cX4_value 22 = .ok (.getfield 70, 3) := by decide +kernel
theorem dX4_value_25 : decode cX4_value 25 = .ok (.iload_n 2, 1) := by decide +kernel
theorem dX4_value_26 : decode cX4_value 26 = .ok (.invokevirtual 101, 3) := by decide +kernel
theorem dX4_value_29 : decode cX4_value 29 = .ok (.ireturn, 1) := by decide +kernel
set_option maxRecDepth 20000 in
theorem ggX4_locked_X4_needSite : GoodIn wsX4_locked wsX4_needSite := goodIn_ca (goodIn_r _ [7, 8, 9, 10, 6, 11, 12, 13, 17, 18, 19, 20, 21, 22, 23] (by decide +kernel) (by decide +kernel)) (goodIn_sub (fun _ h => List.mem_cons_of_mem _ (List.mem_append_right _ h)) (by decide +kernel))
set_option maxRecDepth 20000 in
theorem gX4_locked_X4_needSite : GoodIn wsX4_locked (wsV RX4 41 RX4 yX4_needSite wsX4_needSite) := goodIn_app (goodIn_of _ (by decide +kernel)) ggX4_locked_X4_needSite
set_option maxRecDepth 20000 in
theorem ggX4_locked_X4_needObject : GoodIn wsX4_locked wsX4_needObject := goodIn_ca (goodIn_r _ [16, 9, 10, 6, 11, 12, 13] (by decide +kernel) (by decide +kernel)) (goodIn_sub (fun _ h => List.mem_cons_of_mem _ (List.mem_append_right _ h)) (by decide +kernel))
set_option maxRecDepth 20000 in
theorem gX4_locked_X4_needObject : GoodIn wsX4_locked (va_wsS RX4 81 yX4_needObject wsX4_needObject) := goodIn_app (goodIn_of _ (by decide +kernel)) ggX4_locked_X4_needObject
theorem dX4_locked_0 : decode cX4_locked 0 = .ok (.aload_n 0, 1) := by decide +kernel
theorem dX4_locked_1 : decode cX4_locked 1 = .ok (.iload_n 1, 1) := by decide +kernel
theorem dX4_locked_2 : decode cX4_locked 2 = .ok (.invokevirtual 41, 3) := by decide +kernel
theorem dX4_locked_5 : decode cX4_locked 5 = .ok (.iload_n 2, 1) := by decide +kernel
theorem dX4_locked_6 : decode cX4_locked 6 = .ok (.invokestatic 81, 3) := by decide +kernel
theorem dX4_locked_9 : decode cX4_locked 9 = .ok (.aload_n 0, 1) := by decide +kernel
theorem dX4_locked_10 : decode cX4_locked 10 = .ok (.getfield 11, 3) := by decide +kernel
theorem dX4_locked_13 : decode cX4_locked 13 = .ok (.iload_n 1, 1) := by decide +kernel
theorem dX4_locked_14 : decode cX4_locked 14 = .ok (.aaload, 1) := by decide +kernel
theorem dX4_locked_15 : decode cX4_locked 15 = .ok (.getfield 235, 3) := by decide +kernel
theorem dX4_locked_18 : decode cX4_locked 18 = .ok (.iload_n 2, 1) := by decide +kernel
theorem dX4_locked_19 : decode cX4_locked 19 = .ok (.iaload, 1) := by decide +kernel
theorem dX4_locked_20 : decode cX4_locked 20 = .ok (.ireturn, 1) := by decide +kernel
set_option maxRecDepth 20000 in
theorem ggX4_total_Jx4a65c_size_8abf5 : GoodIn wsX4_total wsJx4a65c_size_8abf5 := goodIn_r _ [10, 11, 58, 59, 60] (by decide +kernel) (by decide +kernel)
set_option maxRecDepth 20000 in
theorem gX4_total_Jx4a65c_size_8abf5 : GoodIn wsX4_total (wsV RX4 55 RJx4a65c yJx4a65c_size_8abf5 wsJx4a65c_size_8abf5) := goodIn_app (goodIn_of _ (by decide +kernel)) ggX4_total_Jx4a65c_size_8abf5
set_option maxRecDepth 20000 in
theorem ggX4_total_X4_keptTells : GoodIn wsX4_total wsX4_keptTells := goodIn_r _ [16, 3, 17, 18, 19, 20, 21, 22, 9, 23, 11, 24, 25, 26, 27, 28, 29, 30, 31, 32, 33, 34, 35, 36, 37, 38, 39, 40, 41, 42, 43, 51, 52, 53, 54, 55, 56, 57, 61, 62, 63, 64, 65, 66, 67, 68, 69, 70, 71, 72, 73, 74, 75, 76, 58, 59, 60] (by decide +kernel) (by decide +kernel)
set_option maxRecDepth 20000 in
theorem gX4_total_X4_keptTells : GoodIn wsX4_total (wsV RX4 241 RX4 yX4_keptTells wsX4_keptTells) := goodIn_app (goodIn_of _ (by decide +kernel)) ggX4_total_X4_keptTells
set_option maxRecDepth 20000 in
theorem ggX4_total_X4_sitesUp : GoodIn wsX4_total wsX4_sitesUp := goodIn_r _ [47, 48, 49, 50, 51, 52, 53, 54, 55, 56, 57, 77, 78, 79, 80, 81] (by decide +kernel) (by decide +kernel)
set_option maxRecDepth 20000 in
theorem gX4_total_X4_sitesUp : GoodIn wsX4_total (wsV RX4 244 RX4 yX4_sitesUp wsX4_sitesUp) := goodIn_app (goodIn_of _ (by decide +kernel)) ggX4_total_X4_sitesUp
theorem dX4_total_0 : decode cX4_total 0 = .ok (.iload_n 1, 1) := by decide +kernel
theorem dX4_total_1 : decode cX4_total 1 = .ok (.tableswitch 63 0 4 #[35, 40, 48, 53, 58], 35) := by decide +kernel
theorem dX4_total_36 : decode cX4_total 36 = .ok (.aload_n 0, 1) := by decide +kernel
theorem dX4_total_37 : decode cX4_total 37 = .ok (.getfield 48, 3) := by decide +kernel
theorem dX4_total_40 : decode cX4_total 40 = .ok (.ireturn, 1) := by decide +kernel
theorem dX4_total_41 : decode cX4_total 41 = .ok (.aload_n 0, 1) := by decide +kernel
theorem dX4_total_42 : decode cX4_total 42 = .ok (.getfield 23, 3) := by decide +kernel
theorem dX4_total_45 : decode cX4_total 45 = .ok (.invokevirtual 55, 3) := by decide +kernel
theorem dX4_total_48 : decode cX4_total 48 = .ok (.ireturn, 1) := by decide +kernel
theorem dX4_total_49 : decode cX4_total 49 = .ok (.aload_n 0, 1) := by decide +kernel
theorem dX4_total_50 : decode cX4_total 50 = .ok (.getfield 238, 3) := by decide +kernel
theorem dX4_total_53 : decode cX4_total 53 = .ok (.ireturn, 1) := by decide +kernel
theorem dX4_total_54 : decode cX4_total 54 = .ok (.aload_n 0, 1) := by decide +kernel
theorem dX4_total_55 : decode cX4_total 55 = .ok (.invokevirtual 241, 3) := by decide +kernel
theorem dX4_total_58 : decode cX4_total 58 = .ok (.ireturn, 1) := by decide +kernel
theorem dX4_total_59 : decode cX4_total 59 = .ok (.aload_n 0, 1) := by decide +kernel
theorem dX4_total_60 : decode cX4_total 60 = .ok (.invokevirtual 244, 3) := by decide +kernel
theorem dX4_total_63 : decode cX4_total 63 = .ok (.ireturn, 1) := by decide +kernel
theorem dX4_total_64 : decode cX4_total 64 = .ok (.new 228, 3) := by decide +kernel
theorem dX4_total_67 : decode cX4_total 67 = .ok (.dup, 1) := by decide +kernel
theorem dX4_total_68 : decode cX4_total 68 = .ok (.ldc 230, 2) := by decide +kernel
theorem dX4_total_70 : decode cX4_total 70 = .ok (.invokespecial 232, 3) := by decide +kernel
theorem dX4_total_73 : decode cX4_total 73 = .ok (.athrow, 1) := by decide +kernel
set_option maxRecDepth 20000 in
theorem ggX4_startAfresh_X2_clear : GoodIn wsX4_startAfresh wsX2_clear := goodIn_r _ [10, 11, 12, 13, 14, 31, 32, 33, 34, 35] (by decide +kernel) (by decide +kernel)
set_option maxRecDepth 20000 in
theorem gX4_startAfresh_X2_clear : GoodIn wsX4_startAfresh (wsV RX4 247 RX2 yX2_clear wsX2_clear) := goodIn_app (goodIn_of _ (by decide +kernel)) ggX4_startAfresh_X2_clear
set_option maxRecDepth 20000 in
theorem ggX4_startAfresh_Jx4a65c_clear_da8c8 : GoodIn wsX4_startAfresh wsJx4a65c_clear_da8c8 := goodIn_r _ [19, 20, 21, 22, 23, 36, 37, 38] (by decide +kernel) (by decide +kernel)
set_option maxRecDepth 20000 in
theorem gX4_startAfresh_Jx4a65c_clear_da8c8 : GoodIn wsX4_startAfresh (wsV RX4 250 RJx4a65c yJx4a65c_clear_da8c8 wsJx4a65c_clear_da8c8) := goodIn_app (goodIn_of _ (by decide +kernel)) ggX4_startAfresh_Jx4a65c_clear_da8c8
theorem dX4_startAfresh_0 : decode cX4_startAfresh 0 = .ok (.iconst 0, 1) := by decide +kernel
theorem dX4_startAfresh_1 : decode cX4_startAfresh 1 = .ok (.istore_n 2, 1) := by decide +kernel
theorem dX4_startAfresh_2 : decode cX4_startAfresh 2 = .ok (.iload_n 2, 1) := by decide +kernel
theorem dX4_startAfresh_3 : decode cX4_startAfresh 3 = .ok (.iconst 5, 1) := by decide +kernel
theorem dX4_startAfresh_4 : decode cX4_startAfresh 4 = .ok (.if_icmp .ge 18, 3) := by decide +kernel
theorem dX4_startAfresh_7 : decode cX4_startAfresh 7 = .ok (.aload_n 0, 1) := by decide +kernel
theorem dX4_startAfresh_8 : decode cX4_startAfresh 8 = .ok (.getfield 11, 3) := by decide +kernel
theorem dX4_startAfresh_11 : decode cX4_startAfresh 11 = .ok (.iload_n 2, 1) := by decide +kernel
theorem dX4_startAfresh_12 : decode cX4_startAfresh 12 = .ok (.aaload, 1) := by decide +kernel
theorem dX4_startAfresh_13 : decode cX4_startAfresh 13 = .ok (.invokevirtual 247, 3) := by decide +kernel
theorem dX4_startAfresh_16 : decode cX4_startAfresh 16 = .ok (.iinc 2 1, 3) := by decide +kernel
theorem dX4_startAfresh_19 : decode cX4_startAfresh 19 = .ok (.goto (-17), 3) := by decide +kernel
theorem dX4_startAfresh_22 : decode cX4_startAfresh 22 = .ok (.aload_n 0, 1) := by decide +kernel
theorem dX4_startAfresh_23 : decode cX4_startAfresh 23 = .ok (.getfield 23, 3) := by decide +kernel
theorem dX4_startAfresh_26 : decode cX4_startAfresh 26 = .ok (.invokevirtual 250, 3) := by decide +kernel
theorem dX4_startAfresh_29 : decode cX4_startAfresh 29 = .ok (.aload_n 0, 1) := by decide +kernel
theorem dX4_startAfresh_30 : decode cX4_startAfresh 30 = .ok (.iload_n 1, 1) := by decide +kernel
theorem dX4_startAfresh_31 : decode cX4_startAfresh 31 = .ok (.putfield 251, 3) := by decide +kernel
theorem dX4_startAfresh_34 : decode cX4_startAfresh 34 = .ok (.aload_n 0, 1) := by decide +kernel
theorem dX4_startAfresh_35 : decode cX4_startAfresh 35 = .ok (.iconst 0, 1) := by decide +kernel
theorem dX4_startAfresh_36 : decode cX4_startAfresh 36 = .ok (.putfield 48, 3) := by decide +kernel
theorem dX4_startAfresh_39 : decode cX4_startAfresh 39 = .ok (.aload_n 0, 1) := by decide +kernel
theorem dX4_startAfresh_40 : decode cX4_startAfresh 40 = .ok (.iconst 0, 1) := by decide +kernel
theorem dX4_startAfresh_41 : decode cX4_startAfresh 41 = .ok (.putfield 238, 3) := by decide +kernel
theorem dX4_startAfresh_44 : decode cX4_startAfresh 44 = .ok (.return_, 1) := by decide +kernel
theorem dX4_needArgument_0 : decode cX4_needArgument 0 = .ok (.iload_n 0, 1) := by decide +kernel
theorem dX4_needArgument_1 : decode cX4_needArgument 1 = .ok (.ifCond .ne 13, 3) := by decide +kernel
theorem dX4_needArgument_4 : decode cX4_needArgument 4 = .ok (.new 228, 3) := by decide +kernel
theorem dX4_needArgument_7 : decode cX4_needArgument 7 = .ok (.dup, 1) := by decide +kernel
theorem dX4_needArgument_8 : decode cX4_needArgument 8 = .ok (.ldc 254, 2) := by decide +kernel
theorem dX4_needArgument_10 : decode cX4_needArgument 10 = .ok (.invokespecial 232, 3) := by decide +kernel
theorem dX4_needArgument_13 : decode cX4_needArgument 13 = .ok (.athrow, 1) := by decide +kernel
theorem dX4_needArgument_14 : decode cX4_needArgument 14 = .ok (.return_, 1) := by decide +kernel
theorem dX4_needState_0 : decode cX4_needState 0 = .ok (.iload_n 0, 1) := by decide +kernel
theorem dX4_needState_1 : decode cX4_needState 1 = .ok (.ifCond .ne 14, 3) := by decide +kernel
theorem dX4_needState_4 : decode cX4_needState 4 = .ok (.new 256, 3) := by decide +kernel
theorem dX4_needState_7 : decode cX4_needState 7 = .ok (.dup, 1) := by decide +kernel
theorem dX4_needState_8 : decode cX4_needState 8 = .ok (.ldc_w 258, 3) := by decide +kernel
theorem dX4_needState_11 : decode cX4_needState 11 = .ok (.invokespecial 260, 3) := by decide +kernel
theorem dX4_needState_14 : decode cX4_needState 14 = .ok (.athrow, 1) := by decide +kernel
theorem dX4_needState_15 : decode cX4_needState 15 = .ok (.return_, 1) := by decide +kernel
set_option maxRecDepth 20000 in
theorem ggX4_needSite_X4_needArgument : GoodIn wsX4_needSite wsX4_needArgument := goodIn_ca (goodIn_r _ [5, 6, 7] (by decide +kernel) (by decide +kernel)) (goodIn_sub (fun _ h => List.mem_cons_of_mem _ (List.mem_append_right _ h)) (by decide +kernel))
set_option maxRecDepth 20000 in
theorem gX4_needSite_X4_needArgument : GoodIn wsX4_needSite (va_wsS RX4 37 yX4_needArgument wsX4_needArgument) := goodIn_app (goodIn_of _ (by decide +kernel)) ggX4_needSite_X4_needArgument
theorem dX4_needSite_0 : decode cX4_needSite 0 = .ok (.iload_n 1, 1) := by decide +kernel
theorem dX4_needSite_1 : decode cX4_needSite 1 = .ok (.ifCond .lt 15, 3) := by decide +kernel
theorem dX4_needSite_4 : decode cX4_needSite 4 = .ok (.iload_n 1, 1) := by decide +kernel
theorem dX4_needSite_5 : decode cX4_needSite 5 = .ok (.aload_n 0, 1) := by decide +kernel
theorem dX4_needSite_6 : decode cX4_needSite 6 = .ok (.getfield 251, 3) := by decide +kernel
theorem dX4_needSite_9 : decode cX4_needSite 9 = .ok (.if_icmp .ge 7, 3) := by decide +kernel
theorem dX4_needSite_12 : decode cX4_needSite 12 = .ok (.iconst 1, 1) := by decide +kernel
theorem dX4_needSite_13 : decode cX4_needSite 13 = .ok (.goto 4, 3) := by decide +kernel
theorem dX4_needSite_16 : decode cX4_needSite 16 = .ok (.iconst 0, 1) := by decide +kernel
theorem dX4_needSite_17 : decode cX4_needSite 17 = .ok (.invokestatic 37, 3) := by decide +kernel
theorem dX4_needSite_20 : decode cX4_needSite 20 = .ok (.return_, 1) := by decide +kernel
set_option maxRecDepth 20000 in
theorem ggX4_needTransaction_X4_needArgument : GoodIn wsX4_needTransaction wsX4_needArgument := goodIn_ca (goodIn_r _ [5, 6, 7] (by decide +kernel) (by decide +kernel)) (goodIn_sub (fun _ h => List.mem_cons_of_mem _ (List.mem_append_right _ h)) (by decide +kernel))
set_option maxRecDepth 20000 in
theorem gX4_needTransaction_X4_needArgument : GoodIn wsX4_needTransaction (va_wsS RX4 37 yX4_needArgument wsX4_needArgument) := goodIn_app (goodIn_of _ (by decide +kernel)) ggX4_needTransaction_X4_needArgument
theorem dX4_needTransaction_0 : decode cX4_needTransaction 0 = .ok (.iload_n 1, 1) := by decide +kernel
theorem dX4_needTransaction_1 : decode cX4_needTransaction 1 = .ok (.ifCond .lt 15, 3) := by decide +kernel
theorem dX4_needTransaction_4 : decode cX4_needTransaction 4 = .ok (.iload_n 1, 1) := by decide +kernel
theorem dX4_needTransaction_5 : decode cX4_needTransaction 5 = .ok (.aload_n 0, 1) := by decide +kernel
theorem dX4_needTransaction_6 : decode cX4_needTransaction 6 = .ok (.getfield 48, 3) := by decide +kernel
theorem dX4_needTransaction_9 : decode cX4_needTransaction 9 = .ok (.if_icmp .ge 7, 3) := by decide +kernel
theorem dX4_needTransaction_12 : decode cX4_needTransaction 12 = .ok (.iconst 1, 1) := by decide +kernel
theorem dX4_needTransaction_13 : decode cX4_needTransaction 13 = .ok (.goto 4, 3) := by decide +kernel
theorem dX4_needTransaction_16 : decode cX4_needTransaction 16 = .ok (.iconst 0, 1) := by decide +kernel
theorem dX4_needTransaction_17 : decode cX4_needTransaction 17 = .ok (.invokestatic 37, 3) := by decide +kernel
theorem dX4_needTransaction_20 : decode cX4_needTransaction 20 = .ok (.return_, 1) := by decide +kernel
set_option maxRecDepth 20000 in
theorem ggX4_needObject_X4_needArgument : GoodIn wsX4_needObject wsX4_needArgument := goodIn_ca (goodIn_r _ [4, 5, 6] (by decide +kernel) (by decide +kernel)) (goodIn_sub (fun _ h => List.mem_cons_of_mem _ (List.mem_append_right _ h)) (by decide +kernel))
set_option maxRecDepth 20000 in
theorem gX4_needObject_X4_needArgument : GoodIn wsX4_needObject (va_wsS RX4 37 yX4_needArgument wsX4_needArgument) := goodIn_app (goodIn_of _ (by decide +kernel)) ggX4_needObject_X4_needArgument
theorem dX4_needObject_0 : decode cX4_needObject 0 = .ok (.iload_n 0, 1) := by decide +kernel
theorem dX4_needObject_1 : decode cX4_needObject 1 = .ok (.ifCond .lt 13, 3) := by decide +kernel
theorem dX4_needObject_4 : decode cX4_needObject 4 = .ok (.iload_n 0, 1) := by decide +kernel
theorem dX4_needObject_5 : decode cX4_needObject 5 = .ok (.bipush 20, 2) := by decide +kernel
theorem dX4_needObject_7 : decode cX4_needObject 7 = .ok (.if_icmp .ge 7, 3) := by decide +kernel
theorem dX4_needObject_10 : decode cX4_needObject 10 = .ok (.iconst 1, 1) := by decide +kernel
theorem dX4_needObject_11 : decode cX4_needObject 11 = .ok (.goto 4, 3) := by decide +kernel
theorem dX4_needObject_14 : decode cX4_needObject 14 = .ok (.iconst 0, 1) := by decide +kernel
theorem dX4_needObject_15 : decode cX4_needObject 15 = .ok (.invokestatic 37, 3) := by decide +kernel
theorem dX4_needObject_18 : decode cX4_needObject 18 = .ok (.return_, 1) := by decide +kernel
set_option maxRecDepth 20000 in
theorem ggX4_needElement_X4_needArgument : GoodIn wsX4_needElement wsX4_needArgument := goodIn_ca (goodIn_r _ [4, 5, 6] (by decide +kernel) (by decide +kernel)) (goodIn_sub (fun _ h => List.mem_cons_of_mem _ (List.mem_append_right _ h)) (by decide +kernel))
set_option maxRecDepth 20000 in
theorem gX4_needElement_X4_needArgument : GoodIn wsX4_needElement (va_wsS RX4 37 yX4_needArgument wsX4_needArgument) := goodIn_app (goodIn_of _ (by decide +kernel)) ggX4_needElement_X4_needArgument
theorem dX4_needElement_0 : decode cX4_needElement 0 = .ok (.iload_n 0, 1) := by decide +kernel
theorem dX4_needElement_1 : decode cX4_needElement 1 = .ok (.ifCond .lt 22, 3) := by decide +kernel
theorem dX4_needElement_4 : decode cX4_needElement 4 = .ok (.iload_n 0, 1) := by decide +kernel
theorem dX4_needElement_5 : decode cX4_needElement 5 = .ok (.iconst 5, 1) := by decide +kernel
theorem dX4_needElement_6 : decode cX4_needElement 6 = .ok (.if_icmp .ge 17, 3) := by decide +kernel
theorem dX4_needElement_9 : decode cX4_needElement 9 = .ok (.iload_n 1, 1) := by decide +kernel
theorem dX4_needElement_10 : decode cX4_needElement 10 = .ok (.ifCond .lt 13, 3) := by decide +kernel
theorem dX4_needElement_13 : decode cX4_needElement 13 = .ok (.iload_n 1, 1) := by decide +kernel
theorem dX4_needElement_14 : decode cX4_needElement 14 = .ok (.bipush 8, 2) := by decide +kernel
theorem dX4_needElement_16 : decode cX4_needElement 16 = .ok (.if_icmp .ge 7, 3) := by decide +kernel
theorem dX4_needElement_19 : decode cX4_needElement 19 = .ok (.iconst 1, 1) := by decide +kernel
theorem dX4_needElement_20 : decode cX4_needElement 20 = .ok (.goto 4, 3) := by decide +kernel
theorem dX4_needElement_23 : decode cX4_needElement 23 = .ok (.iconst 0, 1) := by decide +kernel
theorem dX4_needElement_24 : decode cX4_needElement 24 = .ok (.invokestatic 37, 3) := by decide +kernel
theorem dX4_needElement_27 : decode cX4_needElement 27 = .ok (.return_, 1) := by decide +kernel
set_option maxRecDepth 20000 in
theorem ggX4_needLetter_Jx4a65c_size_8abf5 : GoodIn wsX4_needLetter wsJx4a65c_size_8abf5 := goodIn_r _ [6, 7, 21, 22, 23] (by decide +kernel) (by decide +kernel)
set_option maxRecDepth 20000 in
theorem gX4_needLetter_Jx4a65c_size_8abf5 : GoodIn wsX4_needLetter (wsV RX4 55 RJx4a65c yJx4a65c_size_8abf5 wsJx4a65c_size_8abf5) := goodIn_app (goodIn_of _ (by decide +kernel)) ggX4_needLetter_Jx4a65c_size_8abf5
set_option maxRecDepth 20000 in
theorem ggX4_needLetter_X4_needArgument : GoodIn wsX4_needLetter wsX4_needArgument := goodIn_ca (goodIn_r _ [11, 12, 13] (by decide +kernel) (by decide +kernel)) (goodIn_sub (fun _ h => List.mem_cons_of_mem _ (List.mem_append_right _ h)) (by decide +kernel))
set_option maxRecDepth 20000 in
theorem gX4_needLetter_X4_needArgument : GoodIn wsX4_needLetter (va_wsS RX4 37 yX4_needArgument wsX4_needArgument) := goodIn_app (goodIn_of _ (by decide +kernel)) ggX4_needLetter_X4_needArgument
theorem dX4_needLetter_0 : decode cX4_needLetter 0 = .ok (.iload_n 1, 1) := by decide +kernel
theorem dX4_needLetter_1 : decode cX4_needLetter 1 = .ok (.ifCond .lt 18, 3) := by decide +kernel
theorem dX4_needLetter_4 : decode cX4_needLetter 4 = .ok (.iload_n 1, 1) := by decide +kernel
theorem dX4_needLetter_5 : decode cX4_needLetter 5 = .ok (.aload_n 0, 1) := by decide +kernel
theorem dX4_needLetter_6 : decode cX4_needLetter 6 = .ok (.getfield 23, 3) := by decide +kernel
theorem dX4_needLetter_9 : decode cX4_needLetter 9 = .ok (.invokevirtual 55, 3) := by decide +kernel
theorem dX4_needLetter_12 : decode cX4_needLetter 12 = .ok (.if_icmp .ge 7, 3) := by decide +kernel
theorem dX4_needLetter_15 : decode cX4_needLetter 15 = .ok (.iconst 1, 1) := by decide +kernel
theorem dX4_needLetter_16 : decode cX4_needLetter 16 = .ok (.goto 4, 3) := by decide +kernel
theorem dX4_needLetter_19 : decode cX4_needLetter 19 = .ok (.iconst 0, 1) := by decide +kernel
theorem dX4_needLetter_20 : decode cX4_needLetter 20 = .ok (.invokestatic 37, 3) := by decide +kernel
theorem dX4_needLetter_23 : decode cX4_needLetter 23 = .ok (.return_, 1) := by decide +kernel
set_option maxRecDepth 20000 in
theorem ggX4_needGoingOn_X4_needState : GoodIn wsX4_needGoingOn wsX4_needState := goodIn_ca (goodIn_r _ [5, 6, 7] (by decide +kernel) (by decide +kernel)) (goodIn_sub (fun _ h => List.mem_cons_of_mem _ (List.mem_append_right _ h)) (by decide +kernel))
set_option maxRecDepth 20000 in
theorem gX4_needGoingOn_X4_needState : GoodIn wsX4_needGoingOn (va_wsS RX4 52 yX4_needState wsX4_needState) := goodIn_app (goodIn_of _ (by decide +kernel)) ggX4_needGoingOn_X4_needState
theorem dX4_needGoingOn_0 : decode cX4_needGoingOn 0 = .ok (.aload_n 0, 1) := by decide +kernel
theorem dX4_needGoingOn_1 : decode cX4_needGoingOn 1 = .ok (.getfield 147, 3) := by decide +kernel
theorem dX4_needGoingOn_4 : decode cX4_needGoingOn 4 = .ok (.ifCond .ne 7, 3) := by decide +kernel
theorem dX4_needGoingOn_7 : decode cX4_needGoingOn 7 = .ok (.iconst 1, 1) := by decide +kernel
theorem dX4_needGoingOn_8 : decode cX4_needGoingOn 8 = .ok (.goto 4, 3) := by decide +kernel
theorem dX4_needGoingOn_11 : decode cX4_needGoingOn 11 = .ok (.iconst 0, 1) := by decide +kernel
theorem dX4_needGoingOn_12 : decode cX4_needGoingOn 12 = .ok (.invokestatic 52, 3) := by decide +kernel
theorem dX4_needGoingOn_15 : decode cX4_needGoingOn 15 = .ok (.return_, 1) := by decide +kernel
theorem dX4_bit_0 : decode cX4_bit 0 = .ok (.iconst 1, 1) := by decide +kernel
theorem dX4_bit_1 : decode cX4_bit 1 = .ok (.iload_n 0, 1) := by decide +kernel
theorem dX4_bit_2 : decode cX4_bit 2 = .ok (.ishl, 1) := by decide +kernel
theorem dX4_bit_3 : decode cX4_bit 3 = .ok (.ireturn, 1) := by decide +kernel
set_option maxRecDepth 20000 in
theorem ggX4_has_X4_bit : GoodIn wsX4_has wsX4_bit := goodIn_r _ [4] (by decide +kernel) (by decide +kernel)
set_option maxRecDepth 20000 in
theorem gX4_has_X4_bit : GoodIn wsX4_has (va_wsS RX4 140 yX4_bit wsX4_bit) := goodIn_app (goodIn_of _ (by decide +kernel)) ggX4_has_X4_bit
theorem dX4_has_0 : decode cX4_has 0 = .ok (.iload_n 0, 1) := by decide +kernel
theorem dX4_has_1 : decode cX4_has 1 = .ok (.iload_n 1, 1) := by decide +kernel
theorem dX4_has_2 : decode cX4_has 2 = .ok (.invokestatic 140, 3) := by decide +kernel
theorem dX4_has_5 : decode cX4_has 5 = .ok (.iand, 1) := by decide +kernel
theorem dX4_has_6 : decode cX4_has 6 = .ok (.ifCond .eq 7, 3) := by decide +kernel
theorem dX4_has_9 : decode cX4_has 9 = .ok (.iconst 1, 1) := by decide +kernel
theorem dX4_has_10 : decode cX4_has 10 = .ok (.goto 4, 3) := by decide +kernel
theorem dX4_has_13 : decode cX4_has 13 = .ok (.iconst 0, 1) := by decide +kernel
theorem dX4_has_14 : decode cX4_has 14 = .ok (.ireturn, 1) := by decide +kernel
set_option maxRecDepth 20000 in
theorem ggX4_allSites_X4_bit : GoodIn wsX4_allSites wsX4_bit := goodIn_r _ [5] (by decide +kernel) (by decide +kernel)
set_option maxRecDepth 20000 in
theorem gX4_allSites_X4_bit : GoodIn wsX4_allSites (va_wsS RX4 140 yX4_bit wsX4_bit) := goodIn_app (goodIn_of _ (by decide +kernel)) ggX4_allSites_X4_bit
theorem dX4_allSites_0 : decode cX4_allSites 0 = .ok (.aload_n 0, 1) := by decide +kernel
theorem dX4_allSites_1 : decode cX4_allSites 1 = .ok (.getfield 251, 3) := by decide +kernel
theorem dX4_allSites_4 : decode cX4_allSites 4 = .ok (.invokestatic 140, 3) := by decide +kernel
theorem dX4_allSites_7 : decode cX4_allSites 7 = .ok (.iconst 1, 1) := by decide +kernel
theorem dX4_allSites_8 : decode cX4_allSites 8 = .ok (.isub, 1) := by decide +kernel
theorem dX4_allSites_9 : decode cX4_allSites 9 = .ok (.ireturn, 1) := by decide +kernel
theorem dX4_homeOf_0 : decode cX4_homeOf 0 = .ok (.iload_n 1, 1) := by decide +kernel
theorem dX4_homeOf_1 : decode cX4_homeOf 1 = .ok (.aload_n 0, 1) := by decide +kernel
theorem dX4_homeOf_2 : decode cX4_homeOf 2 = .ok (.getfield 251, 3) := by decide +kernel
theorem dX4_homeOf_5 : decode cX4_homeOf 5 = .ok (.irem, 1) := by decide +kernel
theorem dX4_homeOf_6 : decode cX4_homeOf 6 = .ok (.ireturn, 1) := by decide +kernel
set_option maxRecDepth 20000 in
theorem ggX4_homesOf_X3_wrote : GoodIn wsX4_homesOf wsX3_wrote := goodIn_r _ [5, 6, 7, 8, 9, 10, 11, 12, 18, 19, 20, 21, 22, 23, 24, 25, 26, 27, 28, 29, 30, 31, 32, 33] (by decide +kernel) (by decide +kernel)
set_option maxRecDepth 20000 in
theorem gX4_homesOf_X3_wrote : GoodIn wsX4_homesOf (wsV RX4 88 RX3 yX3_wrote wsX3_wrote) := goodIn_app (goodIn_of _ (by decide +kernel)) ggX4_homesOf_X3_wrote
set_option maxRecDepth 20000 in
theorem ggX4_homesOf_X4_homeOf : GoodIn wsX4_homesOf wsX4_homeOf := goodIn_r _ [16, 17, 34, 35, 36, 37, 38, 39, 40] (by decide +kernel) (by decide +kernel)
set_option maxRecDepth 20000 in
theorem gX4_homesOf_X4_homeOf : GoodIn wsX4_homesOf (wsV RX4 261 RX4 yX4_homeOf wsX4_homeOf) := goodIn_app (goodIn_of _ (by decide +kernel)) ggX4_homesOf_X4_homeOf
set_option maxRecDepth 20000 in
theorem ggX4_homesOf_X4_bit : GoodIn wsX4_homesOf wsX4_bit := goodIn_r _ [12] (by decide +kernel) (by decide +kernel)
set_option maxRecDepth 20000 in
theorem gX4_homesOf_X4_bit : GoodIn wsX4_homesOf (va_wsS RX4 140 yX4_bit wsX4_bit) := goodIn_app (goodIn_of _ (by decide +kernel)) ggX4_homesOf_X4_bit
theorem dX4_homesOf_0 : decode cX4_homesOf 0 = .ok (.iconst 0, 1) := by decide +kernel
theorem dX4_homesOf_1 : decode cX4_homesOf 1 = .ok (.istore_n 2, 1) := by decide +kernel
theorem dX4_homesOf_2 : decode cX4_homesOf 2 = .ok (.iconst 0, 1) := by decide +kernel
theorem dX4_homesOf_3 : decode cX4_homesOf 3 = .ok (.istore_n 3, 1) := by decide +kernel
theorem dX4_homesOf_4 : decode cX4_homesOf 4 = .ok (.iload_n 3, 1) := by decide +kernel
theorem dX4_homesOf_5 : decode cX4_homesOf 5 = .ok (.bipush 20, 2) := by decide +kernel
theorem dX4_homesOf_7 : decode cX4_homesOf 7 = .ok (.if_icmp .ge 28, 3) := by decide +kernel
theorem dX4_homesOf_10 : decode cX4_homesOf 10 = .ok (.aload_n 1, 1) := by decide +kernel
theorem dX4_homesOf_11 : decode cX4_homesOf 11 = .ok (.iload_n 3, 1) := by decide +kernel
theorem dX4_homesOf_12 : decode cX4_homesOf 12 = .ok (.invokevirtual 88, 3) := by decide +kernel
theorem dX4_homesOf_15 : decode cX4_homesOf 15 = .ok (.ifCond .eq 14, 3) := by decide +kernel
theorem dX4_homesOf_18 : decode cX4_homesOf 18 = .ok (.iload_n 2, 1) := by decide +kernel
theorem dX4_homesOf_19 : decode cX4_homesOf 19 = .ok (.aload_n 0, 1) := by decide +kernel
theorem dX4_homesOf_20 : decode cX4_homesOf 20 = .ok (.iload_n 3, 1) := by decide +kernel
theorem dX4_homesOf_21 : decode cX4_homesOf 21 = .ok (.invokevirtual 261, 3) := by decide +kernel
theorem dX4_homesOf_24 : decode cX4_homesOf 24 = .ok (.invokestatic 140, 3) := by decide +kernel
theorem dX4_homesOf_27 : decode cX4_homesOf 27 = .ok (.ior, 1) := by decide +kernel
theorem dX4_homesOf_28 : decode cX4_homesOf 28 = .ok (.istore_n 2, 1) := by decide +kernel
theorem dX4_homesOf_29 : decode cX4_homesOf 29 = .ok (.iinc 3 1, 3) := by decide +kernel
theorem dX4_homesOf_32 : decode cX4_homesOf 32 = .ok (.goto (-28), 3) := by decide +kernel
theorem dX4_homesOf_35 : decode cX4_homesOf 35 = .ok (.iload_n 2, 1) := by decide +kernel
theorem dX4_homesOf_36 : decode cX4_homesOf 36 = .ok (.ireturn, 1) := by decide +kernel
set_option maxRecDepth 20000 in
theorem ggX4_hasWithHome_X3_wrote : GoodIn wsX4_hasWithHome wsX3_wrote := goodIn_r _ [5, 6, 7, 8, 9, 10, 11, 12, 18, 19, 20, 21, 22, 23, 24, 25, 26, 27, 28, 29, 30, 31, 32, 33] (by decide +kernel) (by decide +kernel)
set_option maxRecDepth 20000 in
theorem gX4_hasWithHome_X3_wrote : GoodIn wsX4_hasWithHome (wsV RX4 88 RX3 yX3_wrote wsX3_wrote) := goodIn_app (goodIn_of _ (by decide +kernel)) ggX4_hasWithHome_X3_wrote
set_option maxRecDepth 20000 in
theorem ggX4_hasWithHome_X4_homeOf : GoodIn wsX4_hasWithHome wsX4_homeOf := goodIn_r _ [16, 17, 34, 35, 36, 37, 38, 39, 40] (by decide +kernel) (by decide +kernel)
set_option maxRecDepth 20000 in
theorem gX4_hasWithHome_X4_homeOf : GoodIn wsX4_hasWithHome (wsV RX4 261 RX4 yX4_homeOf wsX4_homeOf) := goodIn_app (goodIn_of _ (by decide +kernel)) ggX4_hasWithHome_X4_homeOf
theorem dX4_hasWithHome_0 : decode cX4_hasWithHome 0 = .ok (.aload_n 1, 1) := by decide +kernel
theorem dX4_hasWithHome_1 : decode cX4_hasWithHome 1 = .ok (.iload_n 2, 1) := by decide +kernel
theorem dX4_hasWithHome_2 : decode cX4_hasWithHome 2 = .ok (.invokevirtual 88, 3) := by decide +kernel
theorem dX4_hasWithHome_5 : decode cX4_hasWithHome 5 = .ok (.ifCond .eq 16, 3) := by decide +kernel
theorem dX4_hasWithHome_8 : decode cX4_hasWithHome 8 = .ok (.aload_n 0, 1) := by decide +kernel
theorem dX4_hasWithHome_9 : decode cX4_hasWithHome 9 = .ok (.iload_n 2, 1) := by decide +kernel
theorem dX4_hasWithHome_10 : decode cX4_hasWithHome 10 = .ok (.invokevirtual 261, 3) := by decide +kernel
theorem dX4_hasWithHome_13 : decode cX4_hasWithHome 13 = .ok (.iload_n 3, 1) := by decide +kernel
theorem dX4_hasWithHome_14 : decode cX4_hasWithHome 14 = .ok (.if_icmp .ne 7, 3) := by decide +kernel
theorem dX4_hasWithHome_17 : decode cX4_hasWithHome 17 = .ok (.iconst 1, 1) := by decide +kernel
theorem dX4_hasWithHome_18 : decode cX4_hasWithHome 18 = .ok (.goto 4, 3) := by decide +kernel
theorem dX4_hasWithHome_21 : decode cX4_hasWithHome 21 = .ok (.iconst 0, 1) := by decide +kernel
theorem dX4_hasWithHome_22 : decode cX4_hasWithHome 22 = .ok (.ireturn, 1) := by decide +kernel
theorem dX4_cellOf_0 : decode cX4_cellOf 0 = .ok (.bipush 8, 2) := by decide +kernel
theorem dX4_cellOf_2 : decode cX4_cellOf 2 = .ok (.iload_n 0, 1) := by decide +kernel
theorem dX4_cellOf_3 : decode cX4_cellOf 3 = .ok (.imul, 1) := by decide +kernel
theorem dX4_cellOf_4 : decode cX4_cellOf 4 = .ok (.iload_n 1, 1) := by decide +kernel
theorem dX4_cellOf_5 : decode cX4_cellOf 5 = .ok (.iadd, 1) := by decide +kernel
theorem dX4_cellOf_6 : decode cX4_cellOf 6 = .ok (.ireturn, 1) := by decide +kernel
set_option maxRecDepth 20000 in
theorem ggX4_latestSeen_Jx4a65c_get_915e3 : GoodIn wsX4_latestSeen wsJx4a65c_get_915e3 := goodIn_r _ [10, 11, 12, 13, 14, 15, 16, 17, 18, 19, 20, 21, 22, 9, 23, 24, 71, 72, 73] (by decide +kernel) (by decide +kernel)
set_option maxRecDepth 20000 in
theorem gX4_latestSeen_Jx4a65c_get_915e3 : GoodIn wsX4_latestSeen (wsV RX4 66 RJx4a65c yJx4a65c_get_915e3 wsJx4a65c_get_915e3) := goodIn_app (goodIn_of _ (by decide +kernel)) ggX4_latestSeen_Jx4a65c_get_915e3
set_option maxRecDepth 20000 in
theorem ggX4_latestSeen_X3_wrote : GoodIn wsX4_latestSeen wsX3_wrote := goodIn_r _ [29, 30, 31, 32, 33, 34, 35, 36, 55, 56, 57, 58, 59, 60, 61, 62, 63, 64, 65, 66, 67, 68, 69, 70] (by decide +kernel) (by decide +kernel)
set_option maxRecDepth 20000 in
theorem gX4_latestSeen_X3_wrote : GoodIn wsX4_latestSeen (wsV RX4 88 RX3 yX3_wrote wsX3_wrote) := goodIn_app (goodIn_of _ (by decide +kernel)) ggX4_latestSeen_X3_wrote
set_option maxRecDepth 20000 in
theorem ggX4_latestSeen_X3_isSeenFrom : GoodIn wsX4_latestSeen wsX3_isSeenFrom := goodIn_r _ [40, 41, 42, 55, 56, 57, 58, 59, 60, 61, 62, 63, 64, 65, 66, 67, 68, 69, 70] (by decide +kernel) (by decide +kernel)
set_option maxRecDepth 20000 in
theorem gX4_latestSeen_X3_isSeenFrom : GoodIn wsX4_latestSeen (wsV RX4 270 RX3 yX3_isSeenFrom wsX3_isSeenFrom) := goodIn_app (goodIn_of _ (by decide +kernel)) ggX4_latestSeen_X3_isSeenFrom
theorem dX4_latestSeen_0 : decode cX4_latestSeen 0 = .ok (.aload_n 1, 1) := by decide +kernel
theorem dX4_latestSeen_1 : decode cX4_latestSeen 1 = .ok (.getfield 264, 3) := by decide +kernel
theorem dX4_latestSeen_4 : decode cX4_latestSeen 4 = .ok (.iconst 1, 1) := by decide +kernel
theorem dX4_latestSeen_5 : decode cX4_latestSeen 5 = .ok (.isub, 1) := by decide +kernel
theorem dX4_latestSeen_6 : decode cX4_latestSeen 6 = .ok (.istore 4, 2) := by decide +kernel
theorem dX4_latestSeen_8 : decode cX4_latestSeen 8 = .ok (.iload 4, 2) := by decide +kernel
theorem dX4_latestSeen_10 : decode cX4_latestSeen 10 = .ok (.ifCond .lt 54, 3) := by decide +kernel
theorem dX4_latestSeen_13 : decode cX4_latestSeen 13 = .ok (.aload_n 0, 1) := by decide +kernel
theorem dX4_latestSeen_14 : decode cX4_latestSeen 14 = .ok (.getfield 19, 3) := by decide +kernel
theorem dX4_latestSeen_17 : decode cX4_latestSeen 17 = .ok (.aload_n 1, 1) := by decide +kernel
theorem dX4_latestSeen_18 : decode cX4_latestSeen 18 = .ok (.getfield 267, 3) := by decide +kernel
theorem dX4_latestSeen_21 : decode cX4_latestSeen 21 = .ok (.iload 4, 2) := by decide +kernel
theorem dX4_latestSeen_23 : decode cX4_latestSeen 23 = .ok (.iaload, 1) := by decide +kernel
theorem dX4_latestSeen_24 : decode cX4_latestSeen 24 = .ok (.invokevirtual 66, 3) := by decide +kernel
theorem dX4_latestSeen_27 : decode cX4_latestSeen 27 = .ok (.checkcast 59, 3) := by decide +kernel
theorem dX4_latestSeen_30 : decode cX4_latestSeen 30 = .ok (.astore 5, 2) := by decide +kernel
theorem dX4_latestSeen_32 : decode cX4_latestSeen 32 = .ok (.aload 5, 2) := by decide +kernel
theorem dX4_latestSeen_34 : decode cX4_latestSeen 34 = .ok (.iload_n 3, 1) := by decide +kernel
theorem dX4_latestSeen_35 : decode cX4_latestSeen 35 = .ok (.invokevirtual 88, 3) := by decide +kernel
theorem dX4_latestSeen_38 : decode cX4_latestSeen 38 = .ok (.ifCond .eq 20, 3) := by decide +kernel
theorem dX4_latestSeen_41 : decode cX4_latestSeen 41 = .ok (.aload 5, 2) := by decide +kernel
theorem dX4_latestSeen_43 : decode cX4_latestSeen 43 = .ok (.aload_n 2, 1) := by decide +kernel
theorem dX4_latestSeen_44 : decode cX4_latestSeen 44 = .ok (.invokevirtual 270, 3) := by decide +kernel
theorem dX4_latestSeen_47 : decode cX4_latestSeen 47 = .ok (.ifCond .eq 11, 3) := by decide +kernel
theorem dX4_latestSeen_50 : decode cX4_latestSeen 50 = .ok (.aload 5, 2) := by decide +kernel
theorem dX4_latestSeen_52 : decode cX4_latestSeen 52 = .ok (.getfield 92, 3) := by decide +kernel
theorem dX4_latestSeen_55 : decode cX4_latestSeen 55 = .ok (.iload_n 3, 1) := by decide +kernel
theorem dX4_latestSeen_56 : decode cX4_latestSeen 56 = .ok (.iaload, 1) := by decide +kernel
theorem dX4_latestSeen_57 : decode cX4_latestSeen 57 = .ok (.ireturn, 1) := by decide +kernel
theorem dX4_latestSeen_58 : decode cX4_latestSeen 58 = .ok (.iinc 4 (-1), 3) := by decide +kernel
theorem dX4_latestSeen_61 : decode cX4_latestSeen 61 = .ok (.goto (-53), 3) := by decide +kernel
theorem dX4_latestSeen_64 : decode cX4_latestSeen 64 = .ok (.iconst 0, 1) := by decide +kernel
theorem dX4_latestSeen_65 : decode cX4_latestSeen 65 = .ok (.ireturn, 1) := by decide +kernel
set_option maxRecDepth 20000 in
theorem ggX4_changeSeen_Jx4a65c_get_915e3 : GoodIn wsX4_changeSeen wsJx4a65c_get_915e3 := goodIn_r _ [12, 13, 14, 15, 16, 17, 18, 19, 20, 21, 22, 23, 24, 11, 25, 26, 69, 70, 71] (by decide +kernel) (by decide +kernel)
set_option maxRecDepth 20000 in
theorem gX4_changeSeen_Jx4a65c_get_915e3 : GoodIn wsX4_changeSeen (wsV RX4 66 RJx4a65c yJx4a65c_get_915e3 wsJx4a65c_get_915e3) := goodIn_app (goodIn_of _ (by decide +kernel)) ggX4_changeSeen_Jx4a65c_get_915e3
set_option maxRecDepth 20000 in
theorem ggX4_changeSeen_X3_isSeenFrom : GoodIn wsX4_changeSeen wsX3_isSeenFrom := goodIn_r _ [31, 32, 33, 48, 49, 50, 51, 52, 53, 54, 55, 56, 57, 58, 59, 60, 61, 62, 63] (by decide +kernel) (by decide +kernel)
set_option maxRecDepth 20000 in
theorem gX4_changeSeen_X3_isSeenFrom : GoodIn wsX4_changeSeen (wsV RX4 270 RX3 yX3_isSeenFrom wsX3_isSeenFrom) := goodIn_app (goodIn_of _ (by decide +kernel)) ggX4_changeSeen_X3_isSeenFrom
set_option maxRecDepth 20000 in
theorem ggX4_changeSeen_X3_changeOf : GoodIn wsX4_changeSeen wsX3_changeOf := goodIn_r _ [37, 38, 39, 40, 48, 49, 50, 51, 52, 53, 54, 55, 56, 57, 58, 59, 60, 61, 62, 63] (by decide +kernel) (by decide +kernel)
set_option maxRecDepth 20000 in
theorem gX4_changeSeen_X3_changeOf : GoodIn wsX4_changeSeen (wsV RX4 128 RX3 yX3_changeOf wsX3_changeOf) := goodIn_app (goodIn_of _ (by decide +kernel)) ggX4_changeSeen_X3_changeOf
theorem dX4_changeSeen_0 : decode cX4_changeSeen 0 = .ok (.aload_n 0, 1) := by decide +kernel
theorem dX4_changeSeen_1 : decode cX4_changeSeen 1 = .ok (.getfield 11, 3) := by decide +kernel
theorem dX4_changeSeen_4 : decode cX4_changeSeen 4 = .ok (.aload_n 1, 1) := by decide +kernel
theorem dX4_changeSeen_5 : decode cX4_changeSeen 5 = .ok (.getfield 95, 3) := by decide +kernel
theorem dX4_changeSeen_8 : decode cX4_changeSeen 8 = .ok (.aaload, 1) := by decide +kernel
theorem dX4_changeSeen_9 : decode cX4_changeSeen 9 = .ok (.astore_n 3, 1) := by decide +kernel
theorem dX4_changeSeen_10 : decode cX4_changeSeen 10 = .ok (.iconst 0, 1) := by decide +kernel
theorem dX4_changeSeen_11 : decode cX4_changeSeen 11 = .ok (.istore 4, 2) := by decide +kernel
theorem dX4_changeSeen_13 : decode cX4_changeSeen 13 = .ok (.iconst 0, 1) := by decide +kernel
theorem dX4_changeSeen_14 : decode cX4_changeSeen 14 = .ok (.istore 5, 2) := by decide +kernel
theorem dX4_changeSeen_16 : decode cX4_changeSeen 16 = .ok (.iload 5, 2) := by decide +kernel
theorem dX4_changeSeen_18 : decode cX4_changeSeen 18 = .ok (.aload_n 3, 1) := by decide +kernel
theorem dX4_changeSeen_19 : decode cX4_changeSeen 19 = .ok (.getfield 264, 3) := by decide +kernel
theorem dX4_changeSeen_22 : decode cX4_changeSeen 22 = .ok (.if_icmp .ge 51, 3) := by decide +kernel
theorem dX4_changeSeen_25 : decode cX4_changeSeen 25 = .ok (.aload_n 0, 1) := by decide +kernel
theorem dX4_changeSeen_26 : decode cX4_changeSeen 26 = .ok (.getfield 19, 3) := by decide +kernel
theorem dX4_changeSeen_29 : decode cX4_changeSeen 29 = .ok (.aload_n 3, 1) := by decide +kernel
theorem dX4_changeSeen_30 : decode cX4_changeSeen 30 = .ok (.getfield 267, 3) := by decide +kernel
theorem dX4_changeSeen_33 : decode cX4_changeSeen 33 = .ok (.iload 5, 2) := by decide +kernel
theorem dX4_changeSeen_35 : decode cX4_changeSeen 35 = .ok (.iaload, 1) := by decide +kernel
theorem dX4_changeSeen_36 : decode cX4_changeSeen 36 = .ok (.invokevirtual 66, 3) := by decide +kernel
theorem dX4_changeSeen_39 : decode cX4_changeSeen 39 = .ok (.checkcast 59, 3) := by decide +kernel
theorem dX4_changeSeen_42 : decode cX4_changeSeen 42 = .ok (.astore 6, 2) := by decide +kernel
theorem dX4_changeSeen_44 : decode cX4_changeSeen 44 = .ok (.aload 6, 2) := by decide +kernel
theorem dX4_changeSeen_46 : decode cX4_changeSeen 46 = .ok (.aload_n 1, 1) := by decide +kernel
theorem dX4_changeSeen_47 : decode cX4_changeSeen 47 = .ok (.getfield 98, 3) := by decide +kernel
theorem dX4_changeSeen_50 : decode cX4_changeSeen 50 = .ok (.invokevirtual 270, 3) := by decide +kernel
theorem dX4_changeSeen_53 : decode cX4_changeSeen 53 = .ok (.ifCond .eq 14, 3) := by decide +kernel
theorem dX4_changeSeen_56 : decode cX4_changeSeen 56 = .ok (.iload 4, 2) := by decide +kernel
theorem dX4_changeSeen_58 : decode cX4_changeSeen 58 = .ok (.aload 6, 2) := by decide +kernel
theorem dX4_changeSeen_60 : decode cX4_changeSeen 60 = .ok (.iload_n 2, 1) := by decide +kernel
theorem dX4_changeSeen_61 : decode cX4_changeSeen 61 = .ok (.invokevirtual 128, 3) := by decide +kernel
theorem dX4_changeSeen_64 : decode cX4_changeSeen 64 = .ok (.iadd, 1) := by decide +kernel
theorem dX4_changeSeen_65 : decode cX4_changeSeen 65 = .ok (.istore 4, 2) := by decide +kernel
theorem dX4_changeSeen_67 : decode cX4_changeSeen 67 = .ok (.iinc 5 1, 3) := by decide +kernel
theorem dX4_changeSeen_70 : decode cX4_changeSeen 70 = .ok (.goto (-54), 3) := by decide +kernel
theorem dX4_changeSeen_73 : decode cX4_changeSeen 73 = .ok (.iload 4, 2) := by decide +kernel
theorem dX4_changeSeen_75 : decode cX4_changeSeen 75 = .ok (.ireturn, 1) := by decide +kernel
set_option maxRecDepth 20000 in
theorem ggX4_isFitAt_X4_hasWithHome : GoodIn wsX4_isFitAt wsX4_hasWithHome := goodIn_r _ [6, 7, 8, 9, 10, 11, 12, 13, 5, 14, 15, 16, 17, 18, 19, 20, 21, 22, 66, 67, 68, 69, 70, 71, 72, 73, 74, 75, 76, 77, 78, 79, 80, 81, 59, 60, 61, 62, 63, 64, 65] (by decide +kernel) (by decide +kernel)
set_option maxRecDepth 20000 in
theorem gX4_isFitAt_X4_hasWithHome : GoodIn wsX4_isFitAt (wsV RX4 274 RX4 yX4_hasWithHome wsX4_hasWithHome) := goodIn_app (goodIn_of _ (by decide +kernel)) ggX4_isFitAt_X4_hasWithHome
set_option maxRecDepth 20000 in
theorem ggX4_isFitAt_X4_isObjectFit : GoodIn wsX4_isFitAt wsX4_isObjectFit := goodIn_r _ [26, 27, 28, 29, 30, 31, 32, 33, 34, 35, 36, 37, 38, 39, 40, 41, 42, 43, 44, 45, 46, 47, 48, 49, 50, 51, 52, 7, 8, 9, 10, 11, 12, 13, 5, 14, 15, 16, 17, 53, 54, 55, 56, 57, 58, 82, 83, 84, 85, 86, 66, 67, 68, 69, 70, 71, 72, 73, 74, 75, 76, 77, 78, 79, 80, 81, 59, 60, 61, 62, 63, 64, 65, 87, 88, 89] (by decide +kernel) (by decide +kernel)
set_option maxRecDepth 20000 in
theorem gX4_isFitAt_X4_isObjectFit : GoodIn wsX4_isFitAt (wsV RX4 278 RX4 yX4_isObjectFit wsX4_isObjectFit) := goodIn_app (goodIn_of _ (by decide +kernel)) ggX4_isFitAt_X4_isObjectFit
theorem dX4_isFitAt_0 : decode cX4_isFitAt 0 = .ok (.iconst 0, 1) := by decide +kernel
theorem dX4_isFitAt_1 : decode cX4_isFitAt 1 = .ok (.istore_n 3, 1) := by decide +kernel
theorem dX4_isFitAt_2 : decode cX4_isFitAt 2 = .ok (.iload_n 3, 1) := by decide +kernel
theorem dX4_isFitAt_3 : decode cX4_isFitAt 3 = .ok (.bipush 20, 2) := by decide +kernel
theorem dX4_isFitAt_5 : decode cX4_isFitAt 5 = .ok (.if_icmp .ge 36, 3) := by decide +kernel
theorem dX4_isFitAt_8 : decode cX4_isFitAt 8 = .ok (.aload_n 0, 1) := by decide +kernel
theorem dX4_isFitAt_9 : decode cX4_isFitAt 9 = .ok (.aload_n 1, 1) := by decide +kernel
theorem dX4_isFitAt_10 : decode cX4_isFitAt 10 = .ok (.iload_n 3, 1) := by decide +kernel
theorem dX4_isFitAt_11 : decode cX4_isFitAt 11 = .ok (.iload_n 2, 1) := by decide +kernel
theorem dX4_isFitAt_12 : decode cX4_isFitAt 12 = .ok (.invokevirtual 274, 3) := by decide +kernel
theorem dX4_isFitAt_15 : decode cX4_isFitAt 15 = .ok (.ifCond .eq 20, 3) := by decide +kernel
theorem dX4_isFitAt_18 : decode cX4_isFitAt 18 = .ok (.aload_n 0, 1) := by decide +kernel
theorem dX4_isFitAt_19 : decode cX4_isFitAt 19 = .ok (.aload_n 1, 1) := by decide +kernel
theorem dX4_isFitAt_20 : decode cX4_isFitAt 20 = .ok (.iload_n 3, 1) := by decide +kernel
theorem dX4_isFitAt_21 : decode cX4_isFitAt 21 = .ok (.aload_n 0, 1) := by decide +kernel
theorem dX4_isFitAt_22 : decode cX4_isFitAt 22 = .ok (.getfield 11, 3) := by decide +kernel
theorem dX4_isFitAt_25 : decode cX4_isFitAt 25 = .ok (.iload_n 2, 1) := by decide +kernel
theorem dX4_isFitAt_26 : decode cX4_isFitAt 26 = .ok (.aaload, 1) := by decide +kernel
theorem dX4_isFitAt_27 : decode cX4_isFitAt 27 = .ok (.invokevirtual 278, 3) := by decide +kernel
theorem dX4_isFitAt_30 : decode cX4_isFitAt 30 = .ok (.ifCond .ne 5, 3) := by decide +kernel
theorem dX4_isFitAt_33 : decode cX4_isFitAt 33 = .ok (.iconst 0, 1) := by decide +kernel
theorem dX4_isFitAt_34 : decode cX4_isFitAt 34 = .ok (.ireturn, 1) := by decide +kernel
theorem dX4_isFitAt_35 : decode cX4_isFitAt 35 = .ok (.iinc 3 1, 3) := by decide +kernel
theorem dX4_isFitAt_38 : decode cX4_isFitAt 38 = .ok (.goto (-36), 3) := by decide +kernel
theorem dX4_isFitAt_41 : decode cX4_isFitAt 41 = .ok (.iconst 1, 1) := by decide +kernel
theorem dX4_isFitAt_42 : decode cX4_isFitAt 42 = .ok (.ireturn, 1) := by decide +kernel
set_option maxRecDepth 20000 in
theorem ggX4_isObjectFit_Jx4a65c_get_915e3 : GoodIn wsX4_isObjectFit wsJx4a65c_get_915e3 := goodIn_r _ [12, 13, 14, 15, 16, 17, 18, 19, 20, 21, 22, 23, 24, 11, 25, 26, 73, 74, 75] (by decide +kernel) (by decide +kernel)
set_option maxRecDepth 20000 in
theorem gX4_isObjectFit_Jx4a65c_get_915e3 : GoodIn wsX4_isObjectFit (wsV RX4 66 RJx4a65c yJx4a65c_get_915e3 wsJx4a65c_get_915e3) := goodIn_app (goodIn_of _ (by decide +kernel)) ggX4_isObjectFit_Jx4a65c_get_915e3
set_option maxRecDepth 20000 in
theorem ggX4_isObjectFit_X3_wrote : GoodIn wsX4_isObjectFit wsX3_wrote := goodIn_r _ [31, 32, 33, 34, 35, 36, 37, 38, 50, 51, 52, 53, 54, 55, 56, 57, 58, 59, 60, 61, 62, 63, 64, 65] (by decide +kernel) (by decide +kernel)
set_option maxRecDepth 20000 in
theorem gX4_isObjectFit_X3_wrote : GoodIn wsX4_isObjectFit (wsV RX4 88 RX3 yX3_wrote wsX3_wrote) := goodIn_app (goodIn_of _ (by decide +kernel)) ggX4_isObjectFit_X3_wrote
set_option maxRecDepth 20000 in
theorem ggX4_isObjectFit_X3_isSeenFrom : GoodIn wsX4_isObjectFit wsX3_isSeenFrom := goodIn_r _ [42, 43, 44, 50, 51, 52, 53, 54, 55, 56, 57, 58, 59, 60, 61, 62, 63, 64, 65] (by decide +kernel) (by decide +kernel)
set_option maxRecDepth 20000 in
theorem gX4_isObjectFit_X3_isSeenFrom : GoodIn wsX4_isObjectFit (wsV RX4 270 RX3 yX3_isSeenFrom wsX3_isSeenFrom) := goodIn_app (goodIn_of _ (by decide +kernel)) ggX4_isObjectFit_X3_isSeenFrom
theorem dX4_isObjectFit_0 : decode cX4_isObjectFit 0 = .ok (.aload_n 3, 1) := by decide +kernel
theorem dX4_isObjectFit_1 : decode cX4_isObjectFit 1 = .ok (.getfield 235, 3) := by decide +kernel
theorem dX4_isObjectFit_4 : decode cX4_isObjectFit 4 = .ok (.iload_n 2, 1) := by decide +kernel
theorem dX4_isObjectFit_5 : decode cX4_isObjectFit 5 = .ok (.iaload, 1) := by decide +kernel
theorem dX4_isObjectFit_6 : decode cX4_isObjectFit 6 = .ok (.istore 4, 2) := by decide +kernel
theorem dX4_isObjectFit_8 : decode cX4_isObjectFit 8 = .ok (.iload 4, 2) := by decide +kernel
theorem dX4_isObjectFit_10 : decode cX4_isObjectFit 10 = .ok (.iconst (-1), 1) := by decide +kernel
theorem dX4_isObjectFit_11 : decode cX4_isObjectFit 11 = .ok (.if_icmp .eq 14, 3) := by decide +kernel
theorem dX4_isObjectFit_14 : decode cX4_isObjectFit 14 = .ok (.iload 4, 2) := by decide +kernel
theorem dX4_isObjectFit_16 : decode cX4_isObjectFit 16 = .ok (.aload_n 1, 1) := by decide +kernel
theorem dX4_isObjectFit_17 : decode cX4_isObjectFit 17 = .ok (.getfield 282, 3) := by decide +kernel
theorem dX4_isObjectFit_20 : decode cX4_isObjectFit 20 = .ok (.if_icmp .eq 5, 3) := by decide +kernel
theorem dX4_isObjectFit_23 : decode cX4_isObjectFit 23 = .ok (.iconst 0, 1) := by decide +kernel
theorem dX4_isObjectFit_24 : decode cX4_isObjectFit 24 = .ok (.ireturn, 1) := by decide +kernel
theorem dX4_isObjectFit_25 : decode cX4_isObjectFit 25 = .ok (.iconst 0, 1) := by decide +kernel
