theorem dX5_commits_5 : decode cX5_commits 5 = .ok (.iaload, 1) := by decide +kernel
theorem dX5_commits_6 : decode cX5_commits 6 = .ok (.istore_n 2, 1) := by decide +kernel
theorem dX5_commits_7 : decode cX5_commits 7 = .ok (.aload_n 0, 1) := by decide +kernel
theorem dX5_commits_8 : decode cX5_commits 8 = .ok (.getfield 27, 3) := by decide +kernel
theorem dX5_commits_11 : decode cX5_commits 11 = .ok (.iload_n 1, 1) := by decide +kernel
theorem dX5_commits_12 : decode cX5_commits 12 = .ok (.iconst 2, 1) := by decide +kernel
theorem dX5_commits_13 : decode cX5_commits 13 = .ok (.iastore, 1) := by decide +kernel
theorem dX5_commits_14 : decode cX5_commits 14 = .ok (.aload_n 0, 1) := by decide +kernel
theorem dX5_commits_15 : decode cX5_commits 15 = .ok (.getfield 30, 3) := by decide +kernel
theorem dX5_commits_18 : decode cX5_commits 18 = .ok (.iload_n 1, 1) := by decide +kernel
theorem dX5_commits_19 : decode cX5_commits 19 = .ok (.aload_n 0, 1) := by decide +kernel
theorem dX5_commits_20 : decode cX5_commits 20 = .ok (.getfield 13, 3) := by decide +kernel
theorem dX5_commits_23 : decode cX5_commits 23 = .ok (.iconst 5, 1) := by decide +kernel
theorem dX5_commits_24 : decode cX5_commits 24 = .ok (.iload_n 2, 1) := by decide +kernel
theorem dX5_commits_25 : decode cX5_commits 25 = .ok (.imul, 1) := by decide +kernel
theorem dX5_commits_26 : decode cX5_commits 26 = .ok (.iload_n 2, 1) := by decide +kernel
theorem dX5_commits_27 : decode cX5_commits 27 = .ok (.iadd, 1) := by decide +kernel
theorem dX5_commits_28 : decode cX5_commits 28 = .ok (.iaload, 1) := by decide +kernel
theorem dX5_commits_29 : decode cX5_commits 29 = .ok (.iconst 1, 1) := by decide +kernel
theorem dX5_commits_30 : decode cX5_commits 30 = .ok (.iadd, 1) := by decide +kernel
theorem dX5_commits_31 : decode cX5_commits 31 = .ok (.iastore, 1) := by decide +kernel
theorem dX5_commits_32 : decode cX5_commits 32 = .ok (.aload_n 0, 1) := by decide +kernel
theorem dX5_commits_33 : decode cX5_commits 33 = .ok (.iload_n 1, 1) := by decide +kernel
theorem dX5_commits_34 : decode cX5_commits 34 = .ok (.iload_n 2, 1) := by decide +kernel
theorem dX5_commits_35 : decode cX5_commits 35 = .ok (.invokevirtual 134, 3) := by decide +kernel
theorem dX5_commits_38 : decode cX5_commits 38 = .ok (.iconst 0, 1) := by decide +kernel
theorem dX5_commits_39 : decode cX5_commits 39 = .ok (.istore_n 3, 1) := by decide +kernel
theorem dX5_commits_40 : decode cX5_commits 40 = .ok (.iload_n 3, 1) := by decide +kernel
theorem dX5_commits_41 : decode cX5_commits 41 = .ok (.aload_n 0, 1) := by decide +kernel
theorem dX5_commits_42 : decode cX5_commits 42 = .ok (.getfield 7, 3) := by decide +kernel
theorem dX5_commits_45 : decode cX5_commits 45 = .ok (.if_icmp .ge 22, 3) := by decide +kernel
theorem dX5_commits_48 : decode cX5_commits 48 = .ok (.iload_n 3, 1) := by decide +kernel
theorem dX5_commits_49 : decode cX5_commits 49 = .ok (.iload_n 2, 1) := by decide +kernel
theorem dX5_commits_50 : decode cX5_commits 50 = .ok (.if_icmp .eq 11, 3) := by decide +kernel
theorem dX5_commits_53 : decode cX5_commits 53 = .ok (.aload_n 0, 1) := by decide +kernel
theorem dX5_commits_54 : decode cX5_commits 54 = .ok (.iconst 5, 1) := by decide +kernel
theorem dX5_commits_55 : decode cX5_commits 55 = .ok (.iload_n 2, 1) := by decide +kernel
theorem dX5_commits_56 : decode cX5_commits 56 = .ok (.iload_n 3, 1) := by decide +kernel
theorem dX5_commits_57 : decode cX5_commits 57 = .ok (.iload_n 1, 1) := by decide +kernel
theorem dX5_commits_58 : decode cX5_commits 58 = .ok (.invokevirtual 137, 3) := by decide +kernel
theorem dX5_commits_61 : decode cX5_commits 61 = .ok (.iinc 3 1, 3) := by decide +kernel
theorem dX5_commits_64 : decode cX5_commits 64 = .ok (.goto (-24), 3) := by decide +kernel
theorem dX5_commits_67 : decode cX5_commits 67 = .ok (.return_, 1) := by decide +kernel
set_option maxRecDepth 20000 in
theorem ggX5_frees_X5_unlock : GoodIn wsX5_frees wsX5_unlock := goodIn_r _ [8, 9, 17, 18, 19, 20, 21, 22, 23, 24, 25, 26, 27, 28, 29, 30, 31, 32, 33, 34, 35, 36, 37, 38, 39, 40, 41, 42, 43, 44] (by decide +kernel) (by decide +kernel)
set_option maxRecDepth 20000 in
theorem gX5_frees_X5_unlock : GoodIn wsX5_frees (wsV RX5 130 RX5 yX5_unlock wsX5_unlock) := goodIn_app (goodIn_of _ (by decide +kernel)) ggX5_frees_X5_unlock
set_option maxRecDepth 20000 in
theorem ggX5_frees_X5_send : GoodIn wsX5_frees wsX5_send := goodIn_r _ [13, 14, 15, 16, 17, 18, 19, 20, 21, 22, 23, 24, 25, 26, 27, 28, 29, 30, 31, 32, 33, 34, 35, 36, 37, 38, 39, 40, 41, 42, 43, 44] (by decide +kernel) (by decide +kernel)
set_option maxRecDepth 20000 in
theorem gX5_frees_X5_send : GoodIn wsX5_frees (wsV RX5 137 RX5 yX5_send wsX5_send) := goodIn_app (goodIn_of _ (by decide +kernel)) ggX5_frees_X5_send
theorem dX5_frees_0 : decode cX5_frees 0 = .ok (.aload_n 0, 1) := by decide +kernel
theorem dX5_frees_1 : decode cX5_frees 1 = .ok (.iload_n 1, 1) := by decide +kernel
theorem dX5_frees_2 : decode cX5_frees 2 = .ok (.aload_n 0, 1) := by decide +kernel
theorem dX5_frees_3 : decode cX5_frees 3 = .ok (.getfield 24, 3) := by decide +kernel
theorem dX5_frees_6 : decode cX5_frees 6 = .ok (.iload_n 1, 1) := by decide +kernel
theorem dX5_frees_7 : decode cX5_frees 7 = .ok (.iaload, 1) := by decide +kernel
theorem dX5_frees_8 : decode cX5_frees 8 = .ok (.invokevirtual 130, 3) := by decide +kernel
theorem dX5_frees_11 : decode cX5_frees 11 = .ok (.iconst 0, 1) := by decide +kernel
theorem dX5_frees_12 : decode cX5_frees 12 = .ok (.istore_n 2, 1) := by decide +kernel
theorem dX5_frees_13 : decode cX5_frees 13 = .ok (.iload_n 2, 1) := by decide +kernel
theorem dX5_frees_14 : decode cX5_frees 14 = .ok (.aload_n 0, 1) := by decide +kernel
theorem dX5_frees_15 : decode cX5_frees 15 = .ok (.getfield 7, 3) := by decide +kernel
theorem dX5_frees_18 : decode cX5_frees 18 = .ok (.if_icmp .ge 35, 3) := by decide +kernel
theorem dX5_frees_21 : decode cX5_frees 21 = .ok (.aload_n 0, 1) := by decide +kernel
theorem dX5_frees_22 : decode cX5_frees 22 = .ok (.getfield 45, 3) := by decide +kernel
theorem dX5_frees_25 : decode cX5_frees 25 = .ok (.iconst 5, 1) := by decide +kernel
theorem dX5_frees_26 : decode cX5_frees 26 = .ok (.iload_n 1, 1) := by decide +kernel
theorem dX5_frees_27 : decode cX5_frees 27 = .ok (.imul, 1) := by decide +kernel
theorem dX5_frees_28 : decode cX5_frees 28 = .ok (.iload_n 2, 1) := by decide +kernel
theorem dX5_frees_29 : decode cX5_frees 29 = .ok (.iadd, 1) := by decide +kernel
theorem dX5_frees_30 : decode cX5_frees 30 = .ok (.baload, 1) := by decide +kernel
theorem dX5_frees_31 : decode cX5_frees 31 = .ok (.ifCond .eq 16, 3) := by decide +kernel
theorem dX5_frees_34 : decode cX5_frees 34 = .ok (.aload_n 0, 1) := by decide +kernel
theorem dX5_frees_35 : decode cX5_frees 35 = .ok (.iconst 4, 1) := by decide +kernel
theorem dX5_frees_36 : decode cX5_frees 36 = .ok (.aload_n 0, 1) := by decide +kernel
theorem dX5_frees_37 : decode cX5_frees 37 = .ok (.getfield 24, 3) := by decide +kernel
theorem dX5_frees_40 : decode cX5_frees 40 = .ok (.iload_n 1, 1) := by decide +kernel
theorem dX5_frees_41 : decode cX5_frees 41 = .ok (.iaload, 1) := by decide +kernel
theorem dX5_frees_42 : decode cX5_frees 42 = .ok (.iload_n 2, 1) := by decide +kernel
theorem dX5_frees_43 : decode cX5_frees 43 = .ok (.iload_n 1, 1) := by decide +kernel
theorem dX5_frees_44 : decode cX5_frees 44 = .ok (.invokevirtual 137, 3) := by decide +kernel
theorem dX5_frees_47 : decode cX5_frees 47 = .ok (.iinc 2 1, 3) := by decide +kernel
theorem dX5_frees_50 : decode cX5_frees 50 = .ok (.goto (-37), 3) := by decide +kernel
theorem dX5_frees_53 : decode cX5_frees 53 = .ok (.return_, 1) := by decide +kernel
set_option maxRecDepth 20000 in
theorem ggX5_commit_X5_isOne : GoodIn wsX5_commit wsX5_isOne := goodIn_r _ [11, 12, 60, 61, 62, 63, 64, 65, 66, 67, 68, 69, 70, 71, 72, 73, 74, 75, 76, 77, 78, 79, 80, 81, 82, 83, 84, 85, 86, 87] (by decide +kernel) (by decide +kernel)
set_option maxRecDepth 20000 in
theorem gX5_commit_X5_isOne : GoodIn wsX5_commit (wsV RX5 109 RX5 yX5_isOne wsX5_isOne) := goodIn_app (goodIn_of _ (by decide +kernel)) ggX5_commit_X5_isOne
set_option maxRecDepth 20000 in
theorem ggX5_commit_X5_fails : GoodIn wsX5_commit wsX5_fails := goodIn_r _ [16, 17, 60, 61, 62, 63, 64, 65, 66, 67, 68, 69, 70, 71, 72, 73, 74, 75, 76, 77, 78, 79, 80, 81, 82, 83, 84, 85, 86, 87] (by decide +kernel) (by decide +kernel)
set_option maxRecDepth 20000 in
theorem gX5_commit_X5_fails : GoodIn wsX5_commit (wsV RX5 97 RX5 yX5_fails wsX5_fails) := goodIn_app (goodIn_of _ (by decide +kernel)) ggX5_commit_X5_fails
set_option maxRecDepth 20000 in
theorem ggX5_commit_X5_allFit : GoodIn wsX5_commit wsX5_allFit := goodIn_r _ [21, 3, 4, 22, 23, 24, 10, 25, 26, 12, 27, 28, 29, 30, 31, 1, 32, 33, 2, 60, 61, 62, 63, 64, 65, 66, 67, 68, 69, 70, 71, 72, 73, 74, 75, 76, 77, 78, 79, 80, 81, 82, 83, 84, 85, 86, 87] (by decide +kernel) (by decide +kernel)
set_option maxRecDepth 20000 in
theorem gX5_commit_X5_allFit : GoodIn wsX5_commit (wsV RX5 141 RX5 yX5_allFit wsX5_allFit) := goodIn_app (goodIn_of _ (by decide +kernel)) ggX5_commit_X5_allFit
set_option maxRecDepth 20000 in
theorem ggX5_commit_X5_commits : GoodIn wsX5_commit wsX5_commits := goodIn_r _ [37, 2, 1, 32, 38, 4, 39, 40, 41, 10, 42, 43, 27, 44, 45, 46, 47, 48, 26, 49, 50, 51, 52, 53, 54, 55, 60, 61, 62, 63, 64, 65, 66, 67, 68, 69, 70, 71, 72, 73, 74, 75, 76, 77, 78, 79, 80, 81, 82, 83, 84, 85, 86, 87] (by decide +kernel) (by decide +kernel)
set_option maxRecDepth 20000 in
theorem gX5_commit_X5_commits : GoodIn wsX5_commit (wsV RX5 144 RX5 yX5_commits wsX5_commits) := goodIn_app (goodIn_of _ (by decide +kernel)) ggX5_commit_X5_commits
set_option maxRecDepth 20000 in
theorem ggX5_commit_X5_lock : GoodIn wsX5_commit wsX5_lock := goodIn_r _ [59, 3, 4, 26, 60, 61, 62, 63, 64, 65, 66, 67, 68, 69, 70, 71, 72, 73, 74, 75, 76, 77, 78, 79, 80, 81, 82, 83, 84, 85, 86, 87] (by decide +kernel) (by decide +kernel)
set_option maxRecDepth 20000 in
theorem gX5_commit_X5_lock : GoodIn wsX5_commit (wsV RX5 147 RX5 yX5_lock wsX5_lock) := goodIn_app (goodIn_of _ (by decide +kernel)) ggX5_commit_X5_lock
set_option maxRecDepth 20000 in
theorem ggX5_commit_X5_send : GoodIn wsX5_commit wsX5_send := goodIn_r _ [52, 53, 54, 55, 60, 61, 62, 63, 64, 65, 66, 67, 68, 69, 70, 71, 72, 73, 74, 75, 76, 77, 78, 79, 80, 81, 82, 83, 84, 85, 86, 87] (by decide +kernel) (by decide +kernel)
set_option maxRecDepth 20000 in
theorem gX5_commit_X5_send : GoodIn wsX5_commit (wsV RX5 137 RX5 yX5_send wsX5_send) := goodIn_app (goodIn_of _ (by decide +kernel)) ggX5_commit_X5_send
theorem dX5_commit_0 : decode cX5_commit 0 = .ok (.aload_n 0, 1) := by decide +kernel
theorem dX5_commit_1 : decode cX5_commit 1 = .ok (.aload_n 0, 1) := by decide +kernel
theorem dX5_commit_2 : decode cX5_commit 2 = .ok (.iload_n 1, 1) := by decide +kernel
theorem dX5_commit_3 : decode cX5_commit 3 = .ok (.invokevirtual 109, 3) := by decide +kernel
theorem dX5_commit_6 : decode cX5_commit 6 = .ok (.ifCond .ne 7, 3) := by decide +kernel
theorem dX5_commit_9 : decode cX5_commit 9 = .ok (.iconst 1, 1) := by decide +kernel
theorem dX5_commit_10 : decode cX5_commit 10 = .ok (.goto 4, 3) := by decide +kernel
theorem dX5_commit_13 : decode cX5_commit 13 = .ok (.iconst 0, 1) := by decide +kernel
theorem dX5_commit_14 : decode cX5_commit 14 = .ok (.iconst 1, 1) := by decide +kernel
theorem dX5_commit_15 : decode cX5_commit 15 = .ok (.invokevirtual 97, 3) := by decide +kernel
theorem dX5_commit_18 : decode cX5_commit 18 = .ok (.ifCond .ne 25, 3) := by decide +kernel
theorem dX5_commit_21 : decode cX5_commit 21 = .ok (.aload_n 0, 1) := by decide +kernel
theorem dX5_commit_22 : decode cX5_commit 22 = .ok (.aload_n 0, 1) := by decide +kernel
theorem dX5_commit_23 : decode cX5_commit 23 = .ok (.getfield 27, 3) := by decide +kernel
theorem dX5_commit_26 : decode cX5_commit 26 = .ok (.iload_n 1, 1) := by decide +kernel
theorem dX5_commit_27 : decode cX5_commit 27 = .ok (.iaload, 1) := by decide +kernel
theorem dX5_commit_28 : decode cX5_commit 28 = .ok (.ifCond .eq 7, 3) := by decide +kernel
theorem dX5_commit_31 : decode cX5_commit 31 = .ok (.iconst 1, 1) := by decide +kernel
theorem dX5_commit_32 : decode cX5_commit 32 = .ok (.goto 4, 3) := by decide +kernel
theorem dX5_commit_35 : decode cX5_commit 35 = .ok (.iconst 0, 1) := by decide +kernel
theorem dX5_commit_36 : decode cX5_commit 36 = .ok (.iconst 2, 1) := by decide +kernel
theorem dX5_commit_37 : decode cX5_commit 37 = .ok (.invokevirtual 97, 3) := by decide +kernel
theorem dX5_commit_40 : decode cX5_commit 40 = .ok (.ifCond .eq 5, 3) := by decide +kernel
theorem dX5_commit_43 : decode cX5_commit 43 = .ok (.iconst 0, 1) := by decide +kernel
theorem dX5_commit_44 : decode cX5_commit 44 = .ok (.ireturn, 1) := by decide +kernel
theorem dX5_commit_45 : decode cX5_commit 45 = .ok (.aload_n 0, 1) := by decide +kernel
theorem dX5_commit_46 : decode cX5_commit 46 = .ok (.getfield 24, 3) := by decide +kernel
theorem dX5_commit_49 : decode cX5_commit 49 = .ok (.iload_n 1, 1) := by decide +kernel
theorem dX5_commit_50 : decode cX5_commit 50 = .ok (.iaload, 1) := by decide +kernel
theorem dX5_commit_51 : decode cX5_commit 51 = .ok (.istore_n 2, 1) := by decide +kernel
theorem dX5_commit_52 : decode cX5_commit 52 = .ok (.iconst 0, 1) := by decide +kernel
theorem dX5_commit_53 : decode cX5_commit 53 = .ok (.istore_n 3, 1) := by decide +kernel
theorem dX5_commit_54 : decode cX5_commit 54 = .ok (.iconst 0, 1) := by decide +kernel
theorem dX5_commit_55 : decode cX5_commit 55 = .ok (.istore 4, 2) := by decide +kernel
theorem dX5_commit_57 : decode cX5_commit 57 = .ok (.iload 4, 2) := by decide +kernel
theorem dX5_commit_59 : decode cX5_commit 59 = .ok (.bipush 20, 2) := by decide +kernel
theorem dX5_commit_61 : decode cX5_commit 61 = .ok (.if_icmp .ge 54, 3) := by decide +kernel
theorem dX5_commit_64 : decode cX5_commit 64 = .ok (.aload_n 0, 1) := by decide +kernel
theorem dX5_commit_65 : decode cX5_commit 65 = .ok (.getfield 51, 3) := by decide +kernel
theorem dX5_commit_68 : decode cX5_commit 68 = .ok (.bipush 20, 2) := by decide +kernel
theorem dX5_commit_70 : decode cX5_commit 70 = .ok (.iload_n 1, 1) := by decide +kernel
theorem dX5_commit_71 : decode cX5_commit 71 = .ok (.imul, 1) := by decide +kernel
theorem dX5_commit_72 : decode cX5_commit 72 = .ok (.iload 4, 2) := by decide +kernel
theorem dX5_commit_74 : decode cX5_commit 74 = .ok (.iadd, 1) := by decide +kernel
theorem dX5_commit_75 : decode cX5_commit 75 = .ok (.baload, 1) := by decide +kernel
theorem dX5_commit_76 : decode cX5_commit 76 = .ok (.ifCond .eq 33, 3) := by decide +kernel
theorem dX5_commit_79 : decode cX5_commit 79 = .ok (.iload 4, 2) := by decide +kernel
theorem dX5_commit_81 : decode cX5_commit 81 = .ok (.aload_n 0, 1) := by decide +kernel
theorem dX5_commit_82 : decode cX5_commit 82 = .ok (.getfield 7, 3) := by decide +kernel
theorem dX5_commit_85 : decode cX5_commit 85 = .ok (.irem, 1) := by decide +kernel
theorem dX5_commit_86 : decode cX5_commit 86 = .ok (.iload_n 2, 1) := by decide +kernel
theorem dX5_commit_87 : decode cX5_commit 87 = .ok (.if_icmp .eq 22, 3) := by decide +kernel
theorem dX5_commit_90 : decode cX5_commit 90 = .ok (.iconst 1, 1) := by decide +kernel
theorem dX5_commit_91 : decode cX5_commit 91 = .ok (.istore_n 3, 1) := by decide +kernel
theorem dX5_commit_92 : decode cX5_commit 92 = .ok (.aload_n 0, 1) := by decide +kernel
theorem dX5_commit_93 : decode cX5_commit 93 = .ok (.getfield 45, 3) := by decide +kernel
theorem dX5_commit_96 : decode cX5_commit 96 = .ok (.iconst 5, 1) := by decide +kernel
theorem dX5_commit_97 : decode cX5_commit 97 = .ok (.iload_n 1, 1) := by decide +kernel
theorem dX5_commit_98 : decode cX5_commit 98 = .ok (.imul, 1) := by decide +kernel
theorem dX5_commit_99 : decode cX5_commit 99 = .ok (.iload 4, 2) := by decide +kernel
theorem dX5_commit_101 : decode cX5_commit 101 = .ok (.aload_n 0, 1) := by decide +kernel
theorem dX5_commit_102 : decode cX5_commit 102 = .ok (.getfield 7, 3) := by decide +kernel
theorem dX5_commit_105 : decode cX5_commit 105 = .ok (.irem, 1) := by decide +kernel
theorem dX5_commit_106 : decode cX5_commit 106 = .ok (.iadd, 1) := by decide +kernel
theorem dX5_commit_107 : decode cX5_commit 107 = .ok (.iconst 1, 1) := by decide +kernel
theorem dX5_commit_108 : decode cX5_commit 108 = .ok (.bastore, 1) := by decide +kernel
theorem dX5_commit_109 : decode cX5_commit 109 = .ok (.iinc 4 1, 3) := by decide +kernel
theorem dX5_commit_112 : decode cX5_commit 112 = .ok (.goto (-55), 3) := by decide +kernel
theorem dX5_commit_115 : decode cX5_commit 115 = .ok (.aload_n 0, 1) := by decide +kernel
theorem dX5_commit_116 : decode cX5_commit 116 = .ok (.iload_n 1, 1) := by decide +kernel
theorem dX5_commit_117 : decode cX5_commit 117 = .ok (.iload_n 2, 1) := by decide +kernel
theorem dX5_commit_118 : decode cX5_commit 118 = .ok (.invokevirtual 141, 3) := by decide +kernel
theorem dX5_commit_121 : decode cX5_commit 121 = .ok (.ifCond .ne 40, 3) := by decide +kernel
theorem dX5_commit_124 : decode cX5_commit 124 = .ok (.aload_n 0, 1) := by decide +kernel
theorem dX5_commit_125 : decode cX5_commit 125 = .ok (.getfield 27, 3) := by decide +kernel
theorem dX5_commit_128 : decode cX5_commit 128 = .ok (.iload_n 1, 1) := by decide +kernel
theorem dX5_commit_129 : decode cX5_commit 129 = .ok (.iconst 3, 1) := by decide +kernel
theorem dX5_commit_130 : decode cX5_commit 130 = .ok (.iastore, 1) := by decide +kernel
theorem dX5_commit_131 : decode cX5_commit 131 = .ok (.iconst 0, 1) := by decide +kernel
theorem dX5_commit_132 : decode cX5_commit 132 = .ok (.istore 4, 2) := by decide +kernel
theorem dX5_commit_134 : decode cX5_commit 134 = .ok (.iload 4, 2) := by decide +kernel
theorem dX5_commit_136 : decode cX5_commit 136 = .ok (.iconst 5, 1) := by decide +kernel
theorem dX5_commit_137 : decode cX5_commit 137 = .ok (.if_icmp .ge 21, 3) := by decide +kernel
theorem dX5_commit_140 : decode cX5_commit 140 = .ok (.aload_n 0, 1) := by decide +kernel
theorem dX5_commit_141 : decode cX5_commit 141 = .ok (.getfield 45, 3) := by decide +kernel
theorem dX5_commit_144 : decode cX5_commit 144 = .ok (.iconst 5, 1) := by decide +kernel
theorem dX5_commit_145 : decode cX5_commit 145 = .ok (.iload_n 1, 1) := by decide +kernel
theorem dX5_commit_146 : decode cX5_commit 146 = .ok (.imul, 1) := by decide +kernel
theorem dX5_commit_147 : decode cX5_commit 147 = .ok (.iload 4, 2) := by decide +kernel
theorem dX5_commit_149 : decode cX5_commit 149 = .ok (.iadd, 1) := by decide +kernel
theorem dX5_commit_150 : decode cX5_commit 150 = .ok (.iconst 0, 1) := by decide +kernel
theorem dX5_commit_151 : decode cX5_commit 151 = .ok (.bastore, 1) := by decide +kernel
theorem dX5_commit_152 : decode cX5_commit 152 = .ok (.iinc 4 1, 3) := by decide +kernel
theorem dX5_commit_155 : decode cX5_commit 155 = .ok (.goto (-21), 3) := by decide +kernel
theorem dX5_commit_158 : decode cX5_commit 158 = .ok (.goto 76, 3) := by decide +kernel
theorem dX5_commit_161 : decode cX5_commit 161 = .ok (.iload_n 3, 1) := by decide +kernel
theorem dX5_commit_162 : decode cX5_commit 162 = .ok (.ifCond .ne 11, 3) := by decide +kernel
theorem dX5_commit_165 : decode cX5_commit 165 = .ok (.aload_n 0, 1) := by decide +kernel
theorem dX5_commit_166 : decode cX5_commit 166 = .ok (.iload_n 1, 1) := by decide +kernel
theorem dX5_commit_167 : decode cX5_commit 167 = .ok (.invokevirtual 144, 3) := by decide +kernel
theorem dX5_commit_170 : decode cX5_commit 170 = .ok (.goto 64, 3) := by decide +kernel
theorem dX5_commit_173 : decode cX5_commit 173 = .ok (.aload_n 0, 1) := by decide +kernel
theorem dX5_commit_174 : decode cX5_commit 174 = .ok (.iload_n 1, 1) := by decide +kernel
theorem dX5_commit_175 : decode cX5_commit 175 = .ok (.iload_n 2, 1) := by decide +kernel
theorem dX5_commit_176 : decode cX5_commit 176 = .ok (.invokevirtual 147, 3) := by decide +kernel
theorem dX5_commit_179 : decode cX5_commit 179 = .ok (.aload_n 0, 1) := by decide +kernel
theorem dX5_commit_180 : decode cX5_commit 180 = .ok (.getfield 27, 3) := by decide +kernel
theorem dX5_commit_183 : decode cX5_commit 183 = .ok (.iload_n 1, 1) := by decide +kernel
theorem dX5_commit_184 : decode cX5_commit 184 = .ok (.iconst 1, 1) := by decide +kernel
theorem dX5_commit_185 : decode cX5_commit 185 = .ok (.iastore, 1) := by decide +kernel
theorem dX5_commit_186 : decode cX5_commit 186 = .ok (.aload_n 0, 1) := by decide +kernel
theorem dX5_commit_187 : decode cX5_commit 187 = .ok (.getfield 66, 3) := by decide +kernel
theorem dX5_commit_190 : decode cX5_commit 190 = .ok (.iload_n 1, 1) := by decide +kernel
theorem dX5_commit_191 : decode cX5_commit 191 = .ok (.iconst 1, 1) := by decide +kernel
theorem dX5_commit_192 : decode cX5_commit 192 = .ok (.bastore, 1) := by decide +kernel
theorem dX5_commit_193 : decode cX5_commit 193 = .ok (.iconst 0, 1) := by decide +kernel
theorem dX5_commit_194 : decode cX5_commit 194 = .ok (.istore 4, 2) := by decide +kernel
theorem dX5_commit_196 : decode cX5_commit 196 = .ok (.iload 4, 2) := by decide +kernel
theorem dX5_commit_198 : decode cX5_commit 198 = .ok (.aload_n 0, 1) := by decide +kernel
theorem dX5_commit_199 : decode cX5_commit 199 = .ok (.getfield 7, 3) := by decide +kernel
theorem dX5_commit_202 : decode cX5_commit 202 = .ok (.if_icmp .ge 32, 3) := by decide +kernel
theorem dX5_commit_205 : decode cX5_commit 205 = .ok (.aload_n 0, 1) := by decide +kernel
theorem dX5_commit_206 : decode cX5_commit 206 = .ok (.getfield 45, 3) := by decide +kernel
theorem dX5_commit_209 : decode cX5_commit 209 = .ok (.iconst 5, 1) := by decide +kernel
theorem dX5_commit_210 : decode cX5_commit 210 = .ok (.iload_n 1, 1) := by decide +kernel
theorem dX5_commit_211 : decode cX5_commit 211 = .ok (.imul, 1) := by decide +kernel
theorem dX5_commit_212 : decode cX5_commit 212 = .ok (.iload 4, 2) := by decide +kernel
theorem dX5_commit_214 : decode cX5_commit 214 = .ok (.iadd, 1) := by decide +kernel
theorem dX5_commit_215 : decode cX5_commit 215 = .ok (.baload, 1) := by decide +kernel
theorem dX5_commit_216 : decode cX5_commit 216 = .ok (.ifCond .eq 12, 3) := by decide +kernel
theorem dX5_commit_219 : decode cX5_commit 219 = .ok (.aload_n 0, 1) := by decide +kernel
theorem dX5_commit_220 : decode cX5_commit 220 = .ok (.iconst 1, 1) := by decide +kernel
theorem dX5_commit_221 : decode cX5_commit 221 = .ok (.iload_n 2, 1) := by decide +kernel
theorem dX5_commit_222 : decode cX5_commit 222 = .ok (.iload 4, 2) := by decide +kernel
theorem dX5_commit_224 : decode cX5_commit 224 = .ok (.iload_n 1, 1) := by decide +kernel
theorem dX5_commit_225 : decode cX5_commit 225 = .ok (.invokevirtual 137, 3) := by decide +kernel
theorem dX5_commit_228 : decode cX5_commit 228 = .ok (.iinc 4 1, 3) := by decide +kernel
theorem dX5_commit_231 : decode cX5_commit 231 = .ok (.goto (-35), 3) := by decide +kernel
theorem dX5_commit_234 : decode cX5_commit 234 = .ok (.aload_n 0, 1) := by decide +kernel
theorem dX5_commit_235 : decode cX5_commit 235 = .ok (.getfield 27, 3) := by decide +kernel
theorem dX5_commit_238 : decode cX5_commit 238 = .ok (.iload_n 1, 1) := by decide +kernel
theorem dX5_commit_239 : decode cX5_commit 239 = .ok (.iaload, 1) := by decide +kernel
theorem dX5_commit_240 : decode cX5_commit 240 = .ok (.ireturn, 1) := by decide +kernel
set_option maxRecDepth 20000 in
theorem ggX5_abort_X5_isOne : GoodIn wsX5_abort wsX5_isOne := goodIn_r _ [6, 7, 13, 14, 15, 16, 17, 18, 19, 20, 21, 22, 23, 24, 25, 26, 27, 28, 29, 30, 31, 32, 33, 34, 35, 36, 37, 38, 39, 40] (by decide +kernel) (by decide +kernel)
set_option maxRecDepth 20000 in
theorem gX5_abort_X5_isOne : GoodIn wsX5_abort (wsV RX5 109 RX5 yX5_isOne wsX5_isOne) := goodIn_app (goodIn_of _ (by decide +kernel)) ggX5_abort_X5_isOne
set_option maxRecDepth 20000 in
theorem ggX5_abort_X5_fails : GoodIn wsX5_abort wsX5_fails := goodIn_r _ [11, 12, 13, 14, 15, 16, 17, 18, 19, 20, 21, 22, 23, 24, 25, 26, 27, 28, 29, 30, 31, 32, 33, 34, 35, 36, 37, 38, 39, 40] (by decide +kernel) (by decide +kernel)
set_option maxRecDepth 20000 in
theorem gX5_abort_X5_fails : GoodIn wsX5_abort (wsV RX5 97 RX5 yX5_fails wsX5_fails) := goodIn_app (goodIn_of _ (by decide +kernel)) ggX5_abort_X5_fails
theorem dX5_abort_0 : decode cX5_abort 0 = .ok (.aload_n 0, 1) := by decide +kernel
theorem dX5_abort_1 : decode cX5_abort 1 = .ok (.aload_n 0, 1) := by decide +kernel
theorem dX5_abort_2 : decode cX5_abort 2 = .ok (.iload_n 1, 1) := by decide +kernel
theorem dX5_abort_3 : decode cX5_abort 3 = .ok (.invokevirtual 109, 3) := by decide +kernel
theorem dX5_abort_6 : decode cX5_abort 6 = .ok (.ifCond .ne 7, 3) := by decide +kernel
theorem dX5_abort_9 : decode cX5_abort 9 = .ok (.iconst 1, 1) := by decide +kernel
theorem dX5_abort_10 : decode cX5_abort 10 = .ok (.goto 4, 3) := by decide +kernel
theorem dX5_abort_13 : decode cX5_abort 13 = .ok (.iconst 0, 1) := by decide +kernel
theorem dX5_abort_14 : decode cX5_abort 14 = .ok (.iconst 1, 1) := by decide +kernel
theorem dX5_abort_15 : decode cX5_abort 15 = .ok (.invokevirtual 97, 3) := by decide +kernel
theorem dX5_abort_18 : decode cX5_abort 18 = .ok (.ifCond .ne 25, 3) := by decide +kernel
theorem dX5_abort_21 : decode cX5_abort 21 = .ok (.aload_n 0, 1) := by decide +kernel
theorem dX5_abort_22 : decode cX5_abort 22 = .ok (.aload_n 0, 1) := by decide +kernel
theorem dX5_abort_23 : decode cX5_abort 23 = .ok (.getfield 27, 3) := by decide +kernel
theorem dX5_abort_26 : decode cX5_abort 26 = .ok (.iload_n 1, 1) := by decide +kernel
theorem dX5_abort_27 : decode cX5_abort 27 = .ok (.iaload, 1) := by decide +kernel
theorem dX5_abort_28 : decode cX5_abort 28 = .ok (.ifCond .eq 7, 3) := by decide +kernel
theorem dX5_abort_31 : decode cX5_abort 31 = .ok (.iconst 1, 1) := by decide +kernel
theorem dX5_abort_32 : decode cX5_abort 32 = .ok (.goto 4, 3) := by decide +kernel
theorem dX5_abort_35 : decode cX5_abort 35 = .ok (.iconst 0, 1) := by decide +kernel
theorem dX5_abort_36 : decode cX5_abort 36 = .ok (.iconst 2, 1) := by decide +kernel
theorem dX5_abort_37 : decode cX5_abort 37 = .ok (.invokevirtual 97, 3) := by decide +kernel
theorem dX5_abort_40 : decode cX5_abort 40 = .ok (.ifCond .eq 4, 3) := by decide +kernel
theorem dX5_abort_43 : decode cX5_abort 43 = .ok (.return_, 1) := by decide +kernel
theorem dX5_abort_44 : decode cX5_abort 44 = .ok (.aload_n 0, 1) := by decide +kernel
theorem dX5_abort_45 : decode cX5_abort 45 = .ok (.getfield 27, 3) := by decide +kernel
theorem dX5_abort_48 : decode cX5_abort 48 = .ok (.iload_n 1, 1) := by decide +kernel
theorem dX5_abort_49 : decode cX5_abort 49 = .ok (.iconst 3, 1) := by decide +kernel
theorem dX5_abort_50 : decode cX5_abort 50 = .ok (.iastore, 1) := by decide +kernel
theorem dX5_abort_51 : decode cX5_abort 51 = .ok (.return_, 1) := by decide +kernel
set_option maxRecDepth 20000 in
theorem ggX5_again_X5_isOne : GoodIn wsX5_again wsX5_isOne := goodIn_r _ [14, 15, 27, 28, 29, 30, 31, 32, 33, 34, 35, 36, 37, 38, 39, 40, 41, 42, 43, 44, 45, 46, 47, 48, 49, 50, 51, 52, 53, 54] (by decide +kernel) (by decide +kernel)
set_option maxRecDepth 20000 in
theorem gX5_again_X5_isOne : GoodIn wsX5_again (wsV RX5 109 RX5 yX5_isOne wsX5_isOne) := goodIn_app (goodIn_of _ (by decide +kernel)) ggX5_again_X5_isOne
set_option maxRecDepth 20000 in
theorem ggX5_again_X5_fails : GoodIn wsX5_again wsX5_fails := goodIn_r _ [19, 20, 27, 28, 29, 30, 31, 32, 33, 34, 35, 36, 37, 38, 39, 40, 41, 42, 43, 44, 45, 46, 47, 48, 49, 50, 51, 52, 53, 54] (by decide +kernel) (by decide +kernel)
set_option maxRecDepth 20000 in
theorem gX5_again_X5_fails : GoodIn wsX5_again (wsV RX5 97 RX5 yX5_fails wsX5_fails) := goodIn_app (goodIn_of _ (by decide +kernel)) ggX5_again_X5_fails
set_option maxRecDepth 20000 in
theorem ggX5_again_X5_send : GoodIn wsX5_again wsX5_send := goodIn_r _ [24, 3, 25, 26, 27, 28, 29, 30, 31, 32, 33, 34, 35, 36, 37, 38, 39, 40, 41, 42, 43, 44, 45, 46, 47, 48, 49, 50, 51, 52, 53, 54] (by decide +kernel) (by decide +kernel)
set_option maxRecDepth 20000 in
theorem gX5_again_X5_send : GoodIn wsX5_again (wsV RX5 137 RX5 yX5_send wsX5_send) := goodIn_app (goodIn_of _ (by decide +kernel)) ggX5_again_X5_send
theorem dX5_again_0 : decode cX5_again 0 = .ok (.aload_n 0, 1) := by decide +kernel
theorem dX5_again_1 : decode cX5_again 1 = .ok (.aload_n 0, 1) := by decide +kernel
theorem dX5_again_2 : decode cX5_again 2 = .ok (.iload_n 1, 1) := by decide +kernel
theorem dX5_again_3 : decode cX5_again 3 = .ok (.invokevirtual 109, 3) := by decide +kernel
theorem dX5_again_6 : decode cX5_again 6 = .ok (.ifCond .ne 7, 3) := by decide +kernel
theorem dX5_again_9 : decode cX5_again 9 = .ok (.iconst 1, 1) := by decide +kernel
theorem dX5_again_10 : decode cX5_again 10 = .ok (.goto 4, 3) := by decide +kernel
theorem dX5_again_13 : decode cX5_again 13 = .ok (.iconst 0, 1) := by decide +kernel
theorem dX5_again_14 : decode cX5_again 14 = .ok (.iconst 1, 1) := by decide +kernel
theorem dX5_again_15 : decode cX5_again 15 = .ok (.invokevirtual 97, 3) := by decide +kernel
theorem dX5_again_18 : decode cX5_again 18 = .ok (.ifCond .ne 22, 3) := by decide +kernel
theorem dX5_again_21 : decode cX5_again 21 = .ok (.aload_n 0, 1) := by decide +kernel
theorem dX5_again_22 : decode cX5_again 22 = .ok (.aload_n 0, 1) := by decide +kernel
theorem dX5_again_23 : decode cX5_again 23 = .ok (.getfield 17, 3) := by decide +kernel
theorem dX5_again_26 : decode cX5_again 26 = .ok (.aload_n 0, 1) := by decide +kernel
theorem dX5_again_27 : decode cX5_again 27 = .ok (.getfield 24, 3) := by decide +kernel
theorem dX5_again_30 : decode cX5_again 30 = .ok (.iload_n 1, 1) := by decide +kernel
theorem dX5_again_31 : decode cX5_again 31 = .ok (.iaload, 1) := by decide +kernel
theorem dX5_again_32 : decode cX5_again 32 = .ok (.baload, 1) := by decide +kernel
theorem dX5_again_33 : decode cX5_again 33 = .ok (.iconst 2, 1) := by decide +kernel
theorem dX5_again_34 : decode cX5_again 34 = .ok (.invokevirtual 97, 3) := by decide +kernel
theorem dX5_again_37 : decode cX5_again 37 = .ok (.ifCond .eq 5, 3) := by decide +kernel
theorem dX5_again_40 : decode cX5_again 40 = .ok (.iconst 0, 1) := by decide +kernel
theorem dX5_again_41 : decode cX5_again 41 = .ok (.ireturn, 1) := by decide +kernel
theorem dX5_again_42 : decode cX5_again 42 = .ok (.iload_n 1, 1) := by decide +kernel
theorem dX5_again_43 : decode cX5_again 43 = .ok (.istore_n 2, 1) := by decide +kernel
theorem dX5_again_44 : decode cX5_again 44 = .ok (.aload_n 0, 1) := by decide +kernel
theorem dX5_again_45 : decode cX5_again 45 = .ok (.getfield 94, 3) := by decide +kernel
theorem dX5_again_48 : decode cX5_again 48 = .ok (.istore_n 3, 1) := by decide +kernel
theorem dX5_again_49 : decode cX5_again 49 = .ok (.iconst 0, 1) := by decide +kernel
theorem dX5_again_50 : decode cX5_again 50 = .ok (.istore 4, 2) := by decide +kernel
theorem dX5_again_52 : decode cX5_again 52 = .ok (.iload 4, 2) := by decide +kernel
theorem dX5_again_54 : decode cX5_again 54 = .ok (.aload_n 0, 1) := by decide +kernel
theorem dX5_again_55 : decode cX5_again 55 = .ok (.getfield 7, 3) := by decide +kernel
theorem dX5_again_58 : decode cX5_again 58 = .ok (.if_icmp .ge 146, 3) := by decide +kernel
theorem dX5_again_61 : decode cX5_again 61 = .ok (.aload_n 0, 1) := by decide +kernel
theorem dX5_again_62 : decode cX5_again 62 = .ok (.getfield 27, 3) := by decide +kernel
theorem dX5_again_65 : decode cX5_again 65 = .ok (.iload_n 2, 1) := by decide +kernel
theorem dX5_again_66 : decode cX5_again 66 = .ok (.iaload, 1) := by decide +kernel
theorem dX5_again_67 : decode cX5_again 67 = .ok (.iconst 1, 1) := by decide +kernel
theorem dX5_again_68 : decode cX5_again 68 = .ok (.if_icmp .ne 45, 3) := by decide +kernel
theorem dX5_again_71 : decode cX5_again 71 = .ok (.aload_n 0, 1) := by decide +kernel
theorem dX5_again_72 : decode cX5_again 72 = .ok (.getfield 45, 3) := by decide +kernel
theorem dX5_again_75 : decode cX5_again 75 = .ok (.iconst 5, 1) := by decide +kernel
theorem dX5_again_76 : decode cX5_again 76 = .ok (.iload_n 2, 1) := by decide +kernel
theorem dX5_again_77 : decode cX5_again 77 = .ok (.imul, 1) := by decide +kernel
theorem dX5_again_78 : decode cX5_again 78 = .ok (.iload 4, 2) := by decide +kernel
theorem dX5_again_80 : decode cX5_again 80 = .ok (.iadd, 1) := by decide +kernel
theorem dX5_again_81 : decode cX5_again 81 = .ok (.baload, 1) := by decide +kernel
theorem dX5_again_82 : decode cX5_again 82 = .ok (.ifCond .eq 31, 3) := by decide +kernel
theorem dX5_again_85 : decode cX5_again 85 = .ok (.aload_n 0, 1) := by decide +kernel
theorem dX5_again_86 : decode cX5_again 86 = .ok (.getfield 48, 3) := by decide +kernel
theorem dX5_again_89 : decode cX5_again 89 = .ok (.iconst 5, 1) := by decide +kernel
theorem dX5_again_90 : decode cX5_again 90 = .ok (.iload_n 2, 1) := by decide +kernel
theorem dX5_again_91 : decode cX5_again 91 = .ok (.imul, 1) := by decide +kernel
theorem dX5_again_92 : decode cX5_again 92 = .ok (.iload 4, 2) := by decide +kernel
theorem dX5_again_94 : decode cX5_again 94 = .ok (.iadd, 1) := by decide +kernel
theorem dX5_again_95 : decode cX5_again 95 = .ok (.baload, 1) := by decide +kernel
theorem dX5_again_96 : decode cX5_again 96 = .ok (.ifCond .ne 17, 3) := by decide +kernel
theorem dX5_again_99 : decode cX5_again 99 = .ok (.aload_n 0, 1) := by decide +kernel
theorem dX5_again_100 : decode cX5_again 100 = .ok (.iconst 1, 1) := by decide +kernel
theorem dX5_again_101 : decode cX5_again 101 = .ok (.aload_n 0, 1) := by decide +kernel
theorem dX5_again_102 : decode cX5_again 102 = .ok (.getfield 24, 3) := by decide +kernel
theorem dX5_again_105 : decode cX5_again 105 = .ok (.iload_n 2, 1) := by decide +kernel
theorem dX5_again_106 : decode cX5_again 106 = .ok (.iaload, 1) := by decide +kernel
theorem dX5_again_107 : decode cX5_again 107 = .ok (.iload 4, 2) := by decide +kernel
theorem dX5_again_109 : decode cX5_again 109 = .ok (.iload_n 2, 1) := by decide +kernel
theorem dX5_again_110 : decode cX5_again 110 = .ok (.invokevirtual 137, 3) := by decide +kernel
theorem dX5_again_113 : decode cX5_again 113 = .ok (.aload_n 0, 1) := by decide +kernel
theorem dX5_again_114 : decode cX5_again 114 = .ok (.getfield 27, 3) := by decide +kernel
theorem dX5_again_117 : decode cX5_again 117 = .ok (.iload_n 2, 1) := by decide +kernel
theorem dX5_again_118 : decode cX5_again 118 = .ok (.iaload, 1) := by decide +kernel
theorem dX5_again_119 : decode cX5_again 119 = .ok (.iconst 2, 1) := by decide +kernel
theorem dX5_again_120 : decode cX5_again 120 = .ok (.if_icmp .ne 31, 3) := by decide +kernel
theorem dX5_again_123 : decode cX5_again 123 = .ok (.aload_n 0, 1) := by decide +kernel
theorem dX5_again_124 : decode cX5_again 124 = .ok (.getfield 36, 3) := by decide +kernel
theorem dX5_again_127 : decode cX5_again 127 = .ok (.iconst 5, 1) := by decide +kernel
theorem dX5_again_128 : decode cX5_again 128 = .ok (.iload_n 2, 1) := by decide +kernel
theorem dX5_again_129 : decode cX5_again 129 = .ok (.imul, 1) := by decide +kernel
theorem dX5_again_130 : decode cX5_again 130 = .ok (.iload 4, 2) := by decide +kernel
theorem dX5_again_132 : decode cX5_again 132 = .ok (.iadd, 1) := by decide +kernel
theorem dX5_again_133 : decode cX5_again 133 = .ok (.iaload, 1) := by decide +kernel
theorem dX5_again_134 : decode cX5_again 134 = .ok (.ifCond .ne 17, 3) := by decide +kernel
theorem dX5_again_137 : decode cX5_again 137 = .ok (.aload_n 0, 1) := by decide +kernel
theorem dX5_again_138 : decode cX5_again 138 = .ok (.iconst 5, 1) := by decide +kernel
theorem dX5_again_139 : decode cX5_again 139 = .ok (.aload_n 0, 1) := by decide +kernel
theorem dX5_again_140 : decode cX5_again 140 = .ok (.getfield 24, 3) := by decide +kernel
theorem dX5_again_143 : decode cX5_again 143 = .ok (.iload_n 2, 1) := by decide +kernel
theorem dX5_again_144 : decode cX5_again 144 = .ok (.iaload, 1) := by decide +kernel
theorem dX5_again_145 : decode cX5_again 145 = .ok (.iload 4, 2) := by decide +kernel
theorem dX5_again_147 : decode cX5_again 147 = .ok (.iload_n 2, 1) := by decide +kernel
theorem dX5_again_148 : decode cX5_again 148 = .ok (.invokevirtual 137, 3) := by decide +kernel
theorem dX5_again_151 : decode cX5_again 151 = .ok (.aload_n 0, 1) := by decide +kernel
theorem dX5_again_152 : decode cX5_again 152 = .ok (.getfield 27, 3) := by decide +kernel
theorem dX5_again_155 : decode cX5_again 155 = .ok (.iload_n 2, 1) := by decide +kernel
theorem dX5_again_156 : decode cX5_again 156 = .ok (.iaload, 1) := by decide +kernel
theorem dX5_again_157 : decode cX5_again 157 = .ok (.iconst 2, 1) := by decide +kernel
theorem dX5_again_158 : decode cX5_again 158 = .ok (.if_icmp .le 40, 3) := by decide +kernel
theorem dX5_again_161 : decode cX5_again 161 = .ok (.aload_n 0, 1) := by decide +kernel
theorem dX5_again_162 : decode cX5_again 162 = .ok (.getfield 66, 3) := by decide +kernel
theorem dX5_again_165 : decode cX5_again 165 = .ok (.iload_n 2, 1) := by decide +kernel
theorem dX5_again_166 : decode cX5_again 166 = .ok (.baload, 1) := by decide +kernel
theorem dX5_again_167 : decode cX5_again 167 = .ok (.ifCond .eq 31, 3) := by decide +kernel
theorem dX5_again_170 : decode cX5_again 170 = .ok (.aload_n 0, 1) := by decide +kernel
theorem dX5_again_171 : decode cX5_again 171 = .ok (.getfield 45, 3) := by decide +kernel
theorem dX5_again_174 : decode cX5_again 174 = .ok (.iconst 5, 1) := by decide +kernel
theorem dX5_again_175 : decode cX5_again 175 = .ok (.iload_n 2, 1) := by decide +kernel
theorem dX5_again_176 : decode cX5_again 176 = .ok (.imul, 1) := by decide +kernel
theorem dX5_again_177 : decode cX5_again 177 = .ok (.iload 4, 2) := by decide +kernel
theorem dX5_again_179 : decode cX5_again 179 = .ok (.iadd, 1) := by decide +kernel
theorem dX5_again_180 : decode cX5_again 180 = .ok (.baload, 1) := by decide +kernel
theorem dX5_again_181 : decode cX5_again 181 = .ok (.ifCond .eq 17, 3) := by decide +kernel
theorem dX5_again_184 : decode cX5_again 184 = .ok (.aload_n 0, 1) := by decide +kernel
theorem dX5_again_185 : decode cX5_again 185 = .ok (.iconst 4, 1) := by decide +kernel
theorem dX5_again_186 : decode cX5_again 186 = .ok (.aload_n 0, 1) := by decide +kernel
theorem dX5_again_187 : decode cX5_again 187 = .ok (.getfield 24, 3) := by decide +kernel
theorem dX5_again_190 : decode cX5_again 190 = .ok (.iload_n 2, 1) := by decide +kernel
theorem dX5_again_191 : decode cX5_again 191 = .ok (.iaload, 1) := by decide +kernel
theorem dX5_again_192 : decode cX5_again 192 = .ok (.iload 4, 2) := by decide +kernel
theorem dX5_again_194 : decode cX5_again 194 = .ok (.iload_n 2, 1) := by decide +kernel
theorem dX5_again_195 : decode cX5_again 195 = .ok (.invokevirtual 137, 3) := by decide +kernel
theorem dX5_again_198 : decode cX5_again 198 = .ok (.iinc 4 1, 3) := by decide +kernel
theorem dX5_again_201 : decode cX5_again 201 = .ok (.goto (-149), 3) := by decide +kernel
theorem dX5_again_204 : decode cX5_again 204 = .ok (.aload_n 0, 1) := by decide +kernel
theorem dX5_again_205 : decode cX5_again 205 = .ok (.getfield 94, 3) := by decide +kernel
theorem dX5_again_208 : decode cX5_again 208 = .ok (.iload_n 3, 1) := by decide +kernel
theorem dX5_again_209 : decode cX5_again 209 = .ok (.isub, 1) := by decide +kernel
theorem dX5_again_210 : decode cX5_again 210 = .ok (.ireturn, 1) := by decide +kernel
theorem dX5_isNext_0 : decode cX5_isNext 0 = .ok (.aload_n 0, 1) := by decide +kernel
theorem dX5_isNext_1 : decode cX5_isNext 1 = .ok (.getfield 39, 3) := by decide +kernel
theorem dX5_isNext_4 : decode cX5_isNext 4 = .ok (.iconst 5, 1) := by decide +kernel
theorem dX5_isNext_5 : decode cX5_isNext 5 = .ok (.iload_n 1, 1) := by decide +kernel
theorem dX5_isNext_6 : decode cX5_isNext 6 = .ok (.imul, 1) := by decide +kernel
theorem dX5_isNext_7 : decode cX5_isNext 7 = .ok (.iload_n 2, 1) := by decide +kernel
theorem dX5_isNext_8 : decode cX5_isNext 8 = .ok (.iadd, 1) := by decide +kernel
theorem dX5_isNext_9 : decode cX5_isNext 9 = .ok (.baload, 1) := by decide +kernel
theorem dX5_isNext_10 : decode cX5_isNext 10 = .ok (.ifCond .eq 33, 3) := by decide +kernel
theorem dX5_isNext_13 : decode cX5_isNext 13 = .ok (.aload_n 0, 1) := by decide +kernel
theorem dX5_isNext_14 : decode cX5_isNext 14 = .ok (.getfield 30, 3) := by decide +kernel
theorem dX5_isNext_17 : decode cX5_isNext 17 = .ok (.iload_n 1, 1) := by decide +kernel
theorem dX5_isNext_18 : decode cX5_isNext 18 = .ok (.iaload, 1) := by decide +kernel
theorem dX5_isNext_19 : decode cX5_isNext 19 = .ok (.aload_n 0, 1) := by decide +kernel
theorem dX5_isNext_20 : decode cX5_isNext 20 = .ok (.getfield 13, 3) := by decide +kernel
theorem dX5_isNext_23 : decode cX5_isNext 23 = .ok (.iconst 5, 1) := by decide +kernel
theorem dX5_isNext_24 : decode cX5_isNext 24 = .ok (.iload_n 2, 1) := by decide +kernel
theorem dX5_isNext_25 : decode cX5_isNext 25 = .ok (.imul, 1) := by decide +kernel
theorem dX5_isNext_26 : decode cX5_isNext 26 = .ok (.aload_n 0, 1) := by decide +kernel
theorem dX5_isNext_27 : decode cX5_isNext 27 = .ok (.getfield 24, 3) := by decide +kernel
theorem dX5_isNext_30 : decode cX5_isNext 30 = .ok (.iload_n 1, 1) := by decide +kernel
theorem dX5_isNext_31 : decode cX5_isNext 31 = .ok (.iaload, 1) := by decide +kernel
theorem dX5_isNext_32 : decode cX5_isNext 32 = .ok (.iadd, 1) := by decide +kernel
theorem dX5_isNext_33 : decode cX5_isNext 33 = .ok (.iaload, 1) := by decide +kernel
theorem dX5_isNext_34 : decode cX5_isNext 34 = .ok (.iconst 1, 1) := by decide +kernel
theorem dX5_isNext_35 : decode cX5_isNext 35 = .ok (.iadd, 1) := by decide +kernel
theorem dX5_isNext_36 : decode cX5_isNext 36 = .ok (.if_icmp .ne 7, 3) := by decide +kernel
theorem dX5_isNext_39 : decode cX5_isNext 39 = .ok (.iconst 1, 1) := by decide +kernel
theorem dX5_isNext_40 : decode cX5_isNext 40 = .ok (.goto 4, 3) := by decide +kernel
theorem dX5_isNext_43 : decode cX5_isNext 43 = .ok (.iconst 0, 1) := by decide +kernel
theorem dX5_isNext_44 : decode cX5_isNext 44 = .ok (.istore_n 3, 1) := by decide +kernel
theorem dX5_isNext_45 : decode cX5_isNext 45 = .ok (.iconst 0, 1) := by decide +kernel
theorem dX5_isNext_46 : decode cX5_isNext 46 = .ok (.istore 4, 2) := by decide +kernel
theorem dX5_isNext_48 : decode cX5_isNext 48 = .ok (.iload 4, 2) := by decide +kernel
theorem dX5_isNext_50 : decode cX5_isNext 50 = .ok (.aload_n 0, 1) := by decide +kernel
theorem dX5_isNext_51 : decode cX5_isNext 51 = .ok (.getfield 7, 3) := by decide +kernel
theorem dX5_isNext_54 : decode cX5_isNext 54 = .ok (.if_icmp .ge 36, 3) := by decide +kernel
theorem dX5_isNext_57 : decode cX5_isNext 57 = .ok (.aload_n 0, 1) := by decide +kernel
theorem dX5_isNext_58 : decode cX5_isNext 58 = .ok (.getfield 33, 3) := by decide +kernel
theorem dX5_isNext_61 : decode cX5_isNext 61 = .ok (.iconst 5, 1) := by decide +kernel
theorem dX5_isNext_62 : decode cX5_isNext 62 = .ok (.iload_n 1, 1) := by decide +kernel
theorem dX5_isNext_63 : decode cX5_isNext 63 = .ok (.imul, 1) := by decide +kernel
theorem dX5_isNext_64 : decode cX5_isNext 64 = .ok (.iload 4, 2) := by decide +kernel
theorem dX5_isNext_66 : decode cX5_isNext 66 = .ok (.iadd, 1) := by decide +kernel
theorem dX5_isNext_67 : decode cX5_isNext 67 = .ok (.iaload, 1) := by decide +kernel
theorem dX5_isNext_68 : decode cX5_isNext 68 = .ok (.aload_n 0, 1) := by decide +kernel
theorem dX5_isNext_69 : decode cX5_isNext 69 = .ok (.getfield 13, 3) := by decide +kernel
theorem dX5_isNext_72 : decode cX5_isNext 72 = .ok (.iconst 5, 1) := by decide +kernel
theorem dX5_isNext_73 : decode cX5_isNext 73 = .ok (.iload_n 2, 1) := by decide +kernel
theorem dX5_isNext_74 : decode cX5_isNext 74 = .ok (.imul, 1) := by decide +kernel
theorem dX5_isNext_75 : decode cX5_isNext 75 = .ok (.iload 4, 2) := by decide +kernel
theorem dX5_isNext_77 : decode cX5_isNext 77 = .ok (.iadd, 1) := by decide +kernel
theorem dX5_isNext_78 : decode cX5_isNext 78 = .ok (.iaload, 1) := by decide +kernel
theorem dX5_isNext_79 : decode cX5_isNext 79 = .ok (.if_icmp .le 5, 3) := by decide +kernel
theorem dX5_isNext_82 : decode cX5_isNext 82 = .ok (.iconst 0, 1) := by decide +kernel
theorem dX5_isNext_83 : decode cX5_isNext 83 = .ok (.istore_n 3, 1) := by decide +kernel
theorem dX5_isNext_84 : decode cX5_isNext 84 = .ok (.iinc 4 1, 3) := by decide +kernel
theorem dX5_isNext_87 : decode cX5_isNext 87 = .ok (.goto (-39), 3) := by decide +kernel
theorem dX5_isNext_90 : decode cX5_isNext 90 = .ok (.iload_n 3, 1) := by decide +kernel
theorem dX5_isNext_91 : decode cX5_isNext 91 = .ok (.ireturn, 1) := by decide +kernel
set_option maxRecDepth 20000 in
theorem ggX5_settles_X5_isNext : GoodIn wsX5_settles wsX5_isNext := goodIn_r _ [6, 7, 8, 9, 10, 11, 12, 24, 25, 26, 27, 28, 29, 30, 31, 32, 33, 34, 35, 36, 37, 38, 39, 40, 41, 42, 43, 44, 45, 46, 47, 48, 49, 50, 51] (by decide +kernel) (by decide +kernel)
set_option maxRecDepth 20000 in
theorem gX5_settles_X5_isNext : GoodIn wsX5_settles (wsV RX5 150 RX5 yX5_isNext wsX5_isNext) := goodIn_app (goodIn_of _ (by decide +kernel)) ggX5_settles_X5_isNext
set_option maxRecDepth 20000 in
theorem ggX5_settles_X5_applies : GoodIn wsX5_settles wsX5_applies := goodIn_r _ [16, 9, 10, 17, 18, 7, 19, 20, 21, 5, 22, 23, 24, 25, 26, 27, 28, 29, 30, 31, 32, 33, 34, 35, 36, 37, 38, 39, 40, 41, 42, 43, 44, 45, 46, 47, 48, 49, 50, 51] (by decide +kernel) (by decide +kernel)
set_option maxRecDepth 20000 in
theorem gX5_settles_X5_applies : GoodIn wsX5_settles (wsV RX5 134 RX5 yX5_applies wsX5_applies) := goodIn_app (goodIn_of _ (by decide +kernel)) ggX5_settles_X5_applies
theorem dX5_settles_0 : decode cX5_settles 0 = .ok (.iconst 0, 1) := by decide +kernel
theorem dX5_settles_1 : decode cX5_settles 1 = .ok (.istore_n 2, 1) := by decide +kernel
theorem dX5_settles_2 : decode cX5_settles 2 = .ok (.iconst 0, 1) := by decide +kernel
theorem dX5_settles_3 : decode cX5_settles 3 = .ok (.istore_n 3, 1) := by decide +kernel
theorem dX5_settles_4 : decode cX5_settles 4 = .ok (.iload_n 3, 1) := by decide +kernel
theorem dX5_settles_5 : decode cX5_settles 5 = .ok (.iconst (-1), 1) := by decide +kernel
theorem dX5_settles_6 : decode cX5_settles 6 = .ok (.if_icmp .eq 54, 3) := by decide +kernel
theorem dX5_settles_9 : decode cX5_settles 9 = .ok (.iconst (-1), 1) := by decide +kernel
theorem dX5_settles_10 : decode cX5_settles 10 = .ok (.istore_n 3, 1) := by decide +kernel
theorem dX5_settles_11 : decode cX5_settles 11 = .ok (.aload_n 0, 1) := by decide +kernel
theorem dX5_settles_12 : decode cX5_settles 12 = .ok (.getfield 88, 3) := by decide +kernel
theorem dX5_settles_15 : decode cX5_settles 15 = .ok (.iconst 1, 1) := by decide +kernel
theorem dX5_settles_16 : decode cX5_settles 16 = .ok (.isub, 1) := by decide +kernel
theorem dX5_settles_17 : decode cX5_settles 17 = .ok (.istore 4, 2) := by decide +kernel
theorem dX5_settles_19 : decode cX5_settles 19 = .ok (.iload 4, 2) := by decide +kernel
theorem dX5_settles_21 : decode cX5_settles 21 = .ok (.ifCond .lt 22, 3) := by decide +kernel
theorem dX5_settles_24 : decode cX5_settles 24 = .ok (.aload_n 0, 1) := by decide +kernel
theorem dX5_settles_25 : decode cX5_settles 25 = .ok (.iload 4, 2) := by decide +kernel
theorem dX5_settles_27 : decode cX5_settles 27 = .ok (.iload_n 1, 1) := by decide +kernel
theorem dX5_settles_28 : decode cX5_settles 28 = .ok (.invokevirtual 150, 3) := by decide +kernel
theorem dX5_settles_31 : decode cX5_settles 31 = .ok (.ifCond .eq 6, 3) := by decide +kernel
theorem dX5_settles_34 : decode cX5_settles 34 = .ok (.iload 4, 2) := by decide +kernel
theorem dX5_settles_36 : decode cX5_settles 36 = .ok (.istore_n 3, 1) := by decide +kernel
theorem dX5_settles_37 : decode cX5_settles 37 = .ok (.iinc 4 (-1), 3) := by decide +kernel
theorem dX5_settles_40 : decode cX5_settles 40 = .ok (.goto (-21), 3) := by decide +kernel
theorem dX5_settles_43 : decode cX5_settles 43 = .ok (.iload_n 3, 1) := by decide +kernel
theorem dX5_settles_44 : decode cX5_settles 44 = .ok (.iconst (-1), 1) := by decide +kernel
theorem dX5_settles_45 : decode cX5_settles 45 = .ok (.if_icmp .eq (-41), 3) := by decide +kernel
theorem dX5_settles_48 : decode cX5_settles 48 = .ok (.aload_n 0, 1) := by decide +kernel
theorem dX5_settles_49 : decode cX5_settles 49 = .ok (.iload_n 3, 1) := by decide +kernel
theorem dX5_settles_50 : decode cX5_settles 50 = .ok (.iload_n 1, 1) := by decide +kernel
theorem dX5_settles_51 : decode cX5_settles 51 = .ok (.invokevirtual 134, 3) := by decide +kernel
theorem dX5_settles_54 : decode cX5_settles 54 = .ok (.iinc 2 1, 3) := by decide +kernel
theorem dX5_settles_57 : decode cX5_settles 57 = .ok (.goto (-53), 3) := by decide +kernel
theorem dX5_settles_60 : decode cX5_settles 60 = .ok (.iload_n 2, 1) := by decide +kernel
theorem dX5_settles_61 : decode cX5_settles 61 = .ok (.ireturn, 1) := by decide +kernel
theorem dX5_allSaid_0 : decode cX5_allSaid 0 = .ok (.iconst 1, 1) := by decide +kernel
theorem dX5_allSaid_1 : decode cX5_allSaid 1 = .ok (.istore_n 2, 1) := by decide +kernel
theorem dX5_allSaid_2 : decode cX5_allSaid 2 = .ok (.iconst 0, 1) := by decide +kernel
theorem dX5_allSaid_3 : decode cX5_allSaid 3 = .ok (.istore_n 3, 1) := by decide +kernel
theorem dX5_allSaid_4 : decode cX5_allSaid 4 = .ok (.iload_n 3, 1) := by decide +kernel
theorem dX5_allSaid_5 : decode cX5_allSaid 5 = .ok (.aload_n 0, 1) := by decide +kernel
theorem dX5_allSaid_6 : decode cX5_allSaid 6 = .ok (.getfield 7, 3) := by decide +kernel
theorem dX5_allSaid_9 : decode cX5_allSaid 9 = .ok (.if_icmp .ge 37, 3) := by decide +kernel
theorem dX5_allSaid_12 : decode cX5_allSaid 12 = .ok (.aload_n 0, 1) := by decide +kernel
theorem dX5_allSaid_13 : decode cX5_allSaid 13 = .ok (.getfield 45, 3) := by decide +kernel
theorem dX5_allSaid_16 : decode cX5_allSaid 16 = .ok (.iconst 5, 1) := by decide +kernel
theorem dX5_allSaid_17 : decode cX5_allSaid 17 = .ok (.iload_n 1, 1) := by decide +kernel
theorem dX5_allSaid_18 : decode cX5_allSaid 18 = .ok (.imul, 1) := by decide +kernel
theorem dX5_allSaid_19 : decode cX5_allSaid 19 = .ok (.iload_n 3, 1) := by decide +kernel
theorem dX5_allSaid_20 : decode cX5_allSaid 20 = .ok (.iadd, 1) := by decide +kernel
theorem dX5_allSaid_21 : decode cX5_allSaid 21 = .ok (.baload, 1) := by decide +kernel
theorem dX5_allSaid_22 : decode cX5_allSaid 22 = .ok (.ifCond .eq 18, 3) := by decide +kernel
theorem dX5_allSaid_25 : decode cX5_allSaid 25 = .ok (.aload_n 0, 1) := by decide +kernel
theorem dX5_allSaid_26 : decode cX5_allSaid 26 = .ok (.getfield 48, 3) := by decide +kernel
theorem dX5_allSaid_29 : decode cX5_allSaid 29 = .ok (.iconst 5, 1) := by decide +kernel
theorem dX5_allSaid_30 : decode cX5_allSaid 30 = .ok (.iload_n 1, 1) := by decide +kernel
theorem dX5_allSaid_31 : decode cX5_allSaid 31 = .ok (.imul, 1) := by decide +kernel
theorem dX5_allSaid_32 : decode cX5_allSaid 32 = .ok (.iload_n 3, 1) := by decide +kernel
theorem dX5_allSaid_33 : decode cX5_allSaid 33 = .ok (.iadd, 1) := by decide +kernel
theorem dX5_allSaid_34 : decode cX5_allSaid 34 = .ok (.baload, 1) := by decide +kernel
theorem dX5_allSaid_35 : decode cX5_allSaid 35 = .ok (.ifCond .ne 5, 3) := by decide +kernel
theorem dX5_allSaid_38 : decode cX5_allSaid 38 = .ok (.iconst 0, 1) := by decide +kernel
theorem dX5_allSaid_39 : decode cX5_allSaid 39 = .ok (.istore_n 2, 1) := by decide +kernel
theorem dX5_allSaid_40 : decode cX5_allSaid 40 = .ok (.iinc 3 1, 3) := by decide +kernel
theorem dX5_allSaid_43 : decode cX5_allSaid 43 = .ok (.goto (-39), 3) := by decide +kernel
theorem dX5_allSaid_46 : decode cX5_allSaid 46 = .ok (.iload_n 2, 1) := by decide +kernel
theorem dX5_allSaid_47 : decode cX5_allSaid 47 = .ok (.ireturn, 1) := by decide +kernel
theorem dX5_takesOut_0 : decode cX5_takesOut 0 = .ok (.iconst 4, 1) := by decide +kernel
theorem dX5_takesOut_1 : decode cX5_takesOut 1 = .ok (.iload_n 1, 1) := by decide +kernel
theorem dX5_takesOut_2 : decode cX5_takesOut 2 = .ok (.imul, 1) := by decide +kernel
theorem dX5_takesOut_3 : decode cX5_takesOut 3 = .ok (.istore_n 2, 1) := by decide +kernel
theorem dX5_takesOut_4 : decode cX5_takesOut 4 = .ok (.iload_n 2, 1) := by decide +kernel
theorem dX5_takesOut_5 : decode cX5_takesOut 5 = .ok (.iconst 4, 1) := by decide +kernel
theorem dX5_takesOut_6 : decode cX5_takesOut 6 = .ok (.iadd, 1) := by decide +kernel
theorem dX5_takesOut_7 : decode cX5_takesOut 7 = .ok (.iconst 4, 1) := by decide +kernel
theorem dX5_takesOut_8 : decode cX5_takesOut 8 = .ok (.aload_n 0, 1) := by decide +kernel
theorem dX5_takesOut_9 : decode cX5_takesOut 9 = .ok (.getfield 91, 3) := by decide +kernel
theorem dX5_takesOut_12 : decode cX5_takesOut 12 = .ok (.imul, 1) := by decide +kernel
theorem dX5_takesOut_13 : decode cX5_takesOut 13 = .ok (.if_icmp .ge 23, 3) := by decide +kernel
theorem dX5_takesOut_16 : decode cX5_takesOut 16 = .ok (.aload_n 0, 1) := by decide +kernel
theorem dX5_takesOut_17 : decode cX5_takesOut 17 = .ok (.getfield 72, 3) := by decide +kernel
theorem dX5_takesOut_20 : decode cX5_takesOut 20 = .ok (.iload_n 2, 1) := by decide +kernel
theorem dX5_takesOut_21 : decode cX5_takesOut 21 = .ok (.aload_n 0, 1) := by decide +kernel
theorem dX5_takesOut_22 : decode cX5_takesOut 22 = .ok (.getfield 72, 3) := by decide +kernel
theorem dX5_takesOut_25 : decode cX5_takesOut 25 = .ok (.iload_n 2, 1) := by decide +kernel
theorem dX5_takesOut_26 : decode cX5_takesOut 26 = .ok (.iconst 4, 1) := by decide +kernel
theorem dX5_takesOut_27 : decode cX5_takesOut 27 = .ok (.iadd, 1) := by decide +kernel
theorem dX5_takesOut_28 : decode cX5_takesOut 28 = .ok (.iaload, 1) := by decide +kernel
theorem dX5_takesOut_29 : decode cX5_takesOut 29 = .ok (.iastore, 1) := by decide +kernel
theorem dX5_takesOut_30 : decode cX5_takesOut 30 = .ok (.iinc 2 1, 3) := by decide +kernel
theorem dX5_takesOut_33 : decode cX5_takesOut 33 = .ok (.goto (-29), 3) := by decide +kernel
theorem dX5_takesOut_36 : decode cX5_takesOut 36 = .ok (.aload_n 0, 1) := by decide +kernel
theorem dX5_takesOut_37 : decode cX5_takesOut 37 = .ok (.dup, 1) := by decide +kernel
theorem dX5_takesOut_38 : decode cX5_takesOut 38 = .ok (.getfield 91, 3) := by decide +kernel
theorem dX5_takesOut_41 : decode cX5_takesOut 41 = .ok (.iconst 1, 1) := by decide +kernel
theorem dX5_takesOut_42 : decode cX5_takesOut 42 = .ok (.isub, 1) := by decide +kernel
theorem dX5_takesOut_43 : decode cX5_takesOut 43 = .ok (.putfield 91, 3) := by decide +kernel
theorem dX5_takesOut_46 : decode cX5_takesOut 46 = .ok (.return_, 1) := by decide +kernel
set_option maxRecDepth 20000 in
theorem ggX5_deliver_X5_fails : GoodIn wsX5_deliver wsX5_fails := goodIn_r _ [13, 14, 78, 79, 80, 81, 82, 83, 84, 85, 86, 87, 88, 89, 90, 91, 92, 93, 94, 95, 96, 97, 98, 99, 100, 101, 102, 103, 104, 105] (by decide +kernel) (by decide +kernel)
set_option maxRecDepth 20000 in
theorem gX5_deliver_X5_fails : GoodIn wsX5_deliver (wsV RX5 97 RX5 yX5_fails wsX5_fails) := goodIn_app (goodIn_of _ (by decide +kernel)) ggX5_deliver_X5_fails
set_option maxRecDepth 20000 in
theorem ggX5_deliver_X5_takesOut : GoodIn wsX5_deliver wsX5_takesOut := goodIn_r _ [18, 1, 2, 78, 79, 80, 81, 82, 83, 84, 85, 86, 87, 88, 89, 90, 91, 92, 93, 94, 95, 96, 97, 98, 99, 100, 101, 102, 103, 104, 105] (by decide +kernel) (by decide +kernel)
set_option maxRecDepth 20000 in
theorem gX5_deliver_X5_takesOut : GoodIn wsX5_deliver (wsV RX5 153 RX5 yX5_takesOut wsX5_takesOut) := goodIn_app (goodIn_of _ (by decide +kernel)) ggX5_deliver_X5_takesOut
set_option maxRecDepth 20000 in
theorem ggX5_deliver_X5_allFit : GoodIn wsX5_deliver wsX5_allFit := goodIn_r _ [22, 23, 24, 25, 26, 27, 12, 28, 29, 30, 4, 31, 32, 33, 34, 6, 35, 36, 37, 78, 79, 80, 81, 82, 83, 84, 85, 86, 87, 88, 89, 90, 91, 92, 93, 94, 95, 96, 97, 98, 99, 100, 101, 102, 103, 104, 105] (by decide +kernel) (by decide +kernel)
set_option maxRecDepth 20000 in
theorem gX5_deliver_X5_allFit : GoodIn wsX5_deliver (wsV RX5 141 RX5 yX5_allFit wsX5_allFit) := goodIn_app (goodIn_of _ (by decide +kernel)) ggX5_deliver_X5_allFit
set_option maxRecDepth 20000 in
theorem ggX5_deliver_X5_send : GoodIn wsX5_deliver wsX5_send := goodIn_r _ [41, 42, 1, 2, 78, 79, 80, 81, 82, 83, 84, 85, 86, 87, 88, 89, 90, 91, 92, 93, 94, 95, 96, 97, 98, 99, 100, 101, 102, 103, 104, 105] (by decide +kernel) (by decide +kernel)
set_option maxRecDepth 20000 in
theorem gX5_deliver_X5_send : GoodIn wsX5_deliver (wsV RX5 137 RX5 yX5_send wsX5_send) := goodIn_app (goodIn_of _ (by decide +kernel)) ggX5_deliver_X5_send
set_option maxRecDepth 20000 in
theorem ggX5_deliver_X5_lock : GoodIn wsX5_deliver wsX5_lock := goodIn_r _ [46, 23, 24, 29, 78, 79, 80, 81, 82, 83, 84, 85, 86, 87, 88, 89, 90, 91, 92, 93, 94, 95, 96, 97, 98, 99, 100, 101, 102, 103, 104, 105] (by decide +kernel) (by decide +kernel)
set_option maxRecDepth 20000 in
theorem gX5_deliver_X5_lock : GoodIn wsX5_deliver (wsV RX5 147 RX5 yX5_lock wsX5_lock) := goodIn_app (goodIn_of _ (by decide +kernel)) ggX5_deliver_X5_lock
set_option maxRecDepth 20000 in
theorem ggX5_deliver_X5_frees : GoodIn wsX5_deliver wsX5_frees := goodIn_r _ [50, 37, 24, 51, 52, 53, 54, 12, 55, 29, 38, 39, 40, 41, 42, 1, 2, 78, 79, 80, 81, 82, 83, 84, 85, 86, 87, 88, 89, 90, 91, 92, 93, 94, 95, 96, 97, 98, 99, 100, 101, 102, 103, 104, 105] (by decide +kernel) (by decide +kernel)
set_option maxRecDepth 20000 in
theorem gX5_deliver_X5_frees : GoodIn wsX5_deliver (wsV RX5 156 RX5 yX5_frees wsX5_frees) := goodIn_app (goodIn_of _ (by decide +kernel)) ggX5_deliver_X5_frees
set_option maxRecDepth 20000 in
theorem ggX5_deliver_X5_allSaid : GoodIn wsX5_deliver wsX5_allSaid := goodIn_r _ [59, 24, 51, 7, 78, 79, 80, 81, 82, 83, 84, 85, 86, 87, 88, 89, 90, 91, 92, 93, 94, 95, 96, 97, 98, 99, 100, 101, 102, 103, 104, 105] (by decide +kernel) (by decide +kernel)
set_option maxRecDepth 20000 in
theorem gX5_deliver_X5_allSaid : GoodIn wsX5_deliver (wsV RX5 159 RX5 yX5_allSaid wsX5_allSaid) := goodIn_app (goodIn_of _ (by decide +kernel)) ggX5_deliver_X5_allSaid
set_option maxRecDepth 20000 in
theorem ggX5_deliver_X5_commits : GoodIn wsX5_deliver wsX5_commits := goodIn_r _ [63, 37, 6, 35, 64, 24, 65, 66, 67, 12, 68, 69, 4, 8, 52, 53, 54, 55, 29, 38, 39, 40, 41, 42, 1, 2, 78, 79, 80, 81, 82, 83, 84, 85, 86, 87, 88, 89, 90, 91, 92, 93, 94, 95, 96, 97, 98, 99, 100, 101, 102, 103, 104, 105] (by decide +kernel) (by decide +kernel)
set_option maxRecDepth 20000 in
theorem gX5_deliver_X5_commits : GoodIn wsX5_deliver (wsV RX5 144 RX5 yX5_commits wsX5_commits) := goodIn_app (goodIn_of _ (by decide +kernel)) ggX5_deliver_X5_commits
set_option maxRecDepth 20000 in
theorem ggX5_deliver_X5_settles : GoodIn wsX5_deliver wsX5_settles := goodIn_r _ [73, 30, 74, 75, 76, 12, 77, 8, 35, 64, 37, 24, 36, 65, 66, 67, 68, 69, 4, 52, 53, 54, 55, 29, 78, 79, 80, 81, 82, 83, 84, 85, 86, 87, 88, 89, 90, 91, 92, 93, 94, 95, 96, 97, 98, 99, 100, 101, 102, 103, 104, 105] (by decide +kernel) (by decide +kernel)
set_option maxRecDepth 20000 in
theorem gX5_deliver_X5_settles : GoodIn wsX5_deliver (wsV RX5 162 RX5 yX5_settles wsX5_settles) := goodIn_app (goodIn_of _ (by decide +kernel)) ggX5_deliver_X5_settles
set_option maxRecDepth 20000 in
theorem ggX5_deliver_X5_unlock : GoodIn wsX5_deliver wsX5_unlock := goodIn_r _ [55, 29, 78, 79, 80, 81, 82, 83, 84, 85, 86, 87, 88, 89, 90, 91, 92, 93, 94, 95, 96, 97, 98, 99, 100, 101, 102, 103, 104, 105] (by decide +kernel) (by decide +kernel)
set_option maxRecDepth 20000 in
theorem gX5_deliver_X5_unlock : GoodIn wsX5_deliver (wsV RX5 130 RX5 yX5_unlock wsX5_unlock) := goodIn_app (goodIn_of _ (by decide +kernel)) ggX5_deliver_X5_unlock
theorem dX5_deliver_0 : decode cX5_deliver 0 = .ok (.aload_n 0, 1) := by decide +kernel
theorem dX5_deliver_1 : decode cX5_deliver 1 = .ok (.iload_n 1, 1) := by decide +kernel
theorem dX5_deliver_2 : decode cX5_deliver 2 = .ok (.ifCond .lt 11, 3) := by decide +kernel
theorem dX5_deliver_5 : decode cX5_deliver 5 = .ok (.iload_n 1, 1) := by decide +kernel
theorem dX5_deliver_6 : decode cX5_deliver 6 = .ok (.aload_n 0, 1) := by decide +kernel
theorem dX5_deliver_7 : decode cX5_deliver 7 = .ok (.getfield 91, 3) := by decide +kernel
theorem dX5_deliver_10 : decode cX5_deliver 10 = .ok (.if_icmp .lt 7, 3) := by decide +kernel
theorem dX5_deliver_13 : decode cX5_deliver 13 = .ok (.iconst 1, 1) := by decide +kernel
theorem dX5_deliver_14 : decode cX5_deliver 14 = .ok (.goto 4, 3) := by decide +kernel
theorem dX5_deliver_17 : decode cX5_deliver 17 = .ok (.iconst 0, 1) := by decide +kernel
theorem dX5_deliver_18 : decode cX5_deliver 18 = .ok (.iconst 1, 1) := by decide +kernel
theorem dX5_deliver_19 : decode cX5_deliver 19 = .ok (.invokevirtual 97, 3) := by decide +kernel
theorem dX5_deliver_22 : decode cX5_deliver 22 = .ok (.ifCond .eq 5, 3) := by decide +kernel
theorem dX5_deliver_25 : decode cX5_deliver 25 = .ok (.iconst 0, 1) := by decide +kernel
theorem dX5_deliver_26 : decode cX5_deliver 26 = .ok (.ireturn, 1) := by decide +kernel
theorem dX5_deliver_27 : decode cX5_deliver 27 = .ok (.aload_n 0, 1) := by decide +kernel
theorem dX5_deliver_28 : decode cX5_deliver 28 = .ok (.getfield 72, 3) := by decide +kernel
theorem dX5_deliver_31 : decode cX5_deliver 31 = .ok (.iconst 4, 1) := by decide +kernel
theorem dX5_deliver_32 : decode cX5_deliver 32 = .ok (.iload_n 1, 1) := by decide +kernel
theorem dX5_deliver_33 : decode cX5_deliver 33 = .ok (.imul, 1) := by decide +kernel
theorem dX5_deliver_34 : decode cX5_deliver 34 = .ok (.iaload, 1) := by decide +kernel
theorem dX5_deliver_35 : decode cX5_deliver 35 = .ok (.istore_n 2, 1) := by decide +kernel
theorem dX5_deliver_36 : decode cX5_deliver 36 = .ok (.aload_n 0, 1) := by decide +kernel
theorem dX5_deliver_37 : decode cX5_deliver 37 = .ok (.getfield 72, 3) := by decide +kernel
theorem dX5_deliver_40 : decode cX5_deliver 40 = .ok (.iconst 4, 1) := by decide +kernel
theorem dX5_deliver_41 : decode cX5_deliver 41 = .ok (.iload_n 1, 1) := by decide +kernel
theorem dX5_deliver_42 : decode cX5_deliver 42 = .ok (.imul, 1) := by decide +kernel
theorem dX5_deliver_43 : decode cX5_deliver 43 = .ok (.iconst 1, 1) := by decide +kernel
theorem dX5_deliver_44 : decode cX5_deliver 44 = .ok (.iadd, 1) := by decide +kernel
theorem dX5_deliver_45 : decode cX5_deliver 45 = .ok (.iaload, 1) := by decide +kernel
theorem dX5_deliver_46 : decode cX5_deliver 46 = .ok (.istore_n 3, 1) := by decide +kernel
theorem dX5_deliver_47 : decode cX5_deliver 47 = .ok (.aload_n 0, 1) := by decide +kernel
theorem dX5_deliver_48 : decode cX5_deliver 48 = .ok (.getfield 72, 3) := by decide +kernel
theorem dX5_deliver_51 : decode cX5_deliver 51 = .ok (.iconst 4, 1) := by decide +kernel
theorem dX5_deliver_52 : decode cX5_deliver 52 = .ok (.iload_n 1, 1) := by decide +kernel
theorem dX5_deliver_53 : decode cX5_deliver 53 = .ok (.imul, 1) := by decide +kernel
theorem dX5_deliver_54 : decode cX5_deliver 54 = .ok (.iconst 2, 1) := by decide +kernel
theorem dX5_deliver_55 : decode cX5_deliver 55 = .ok (.iadd, 1) := by decide +kernel
theorem dX5_deliver_56 : decode cX5_deliver 56 = .ok (.iaload, 1) := by decide +kernel
theorem dX5_deliver_57 : decode cX5_deliver 57 = .ok (.istore 4, 2) := by decide +kernel
theorem dX5_deliver_59 : decode cX5_deliver 59 = .ok (.aload_n 0, 1) := by decide +kernel
theorem dX5_deliver_60 : decode cX5_deliver 60 = .ok (.getfield 72, 3) := by decide +kernel
theorem dX5_deliver_63 : decode cX5_deliver 63 = .ok (.iconst 4, 1) := by decide +kernel
theorem dX5_deliver_64 : decode cX5_deliver 64 = .ok (.iload_n 1, 1) := by decide +kernel
theorem dX5_deliver_65 : decode cX5_deliver 65 = .ok (.imul, 1) := by decide +kernel
theorem dX5_deliver_66 : decode cX5_deliver 66 = .ok (.iconst 3, 1) := by decide +kernel
theorem dX5_deliver_67 : decode cX5_deliver 67 = .ok (.iadd, 1) := by decide +kernel
theorem dX5_deliver_68 : decode cX5_deliver 68 = .ok (.iaload, 1) := by decide +kernel
theorem dX5_deliver_69 : decode cX5_deliver 69 = .ok (.istore 5, 2) := by decide +kernel
theorem dX5_deliver_71 : decode cX5_deliver 71 = .ok (.aload_n 0, 1) := by decide +kernel
theorem dX5_deliver_72 : decode cX5_deliver 72 = .ok (.iload_n 1, 1) := by decide +kernel
theorem dX5_deliver_73 : decode cX5_deliver 73 = .ok (.invokevirtual 153, 3) := by decide +kernel
theorem dX5_deliver_76 : decode cX5_deliver 76 = .ok (.aload_n 0, 1) := by decide +kernel
theorem dX5_deliver_77 : decode cX5_deliver 77 = .ok (.getfield 17, 3) := by decide +kernel
theorem dX5_deliver_80 : decode cX5_deliver 80 = .ok (.iload 4, 2) := by decide +kernel
theorem dX5_deliver_82 : decode cX5_deliver 82 = .ok (.baload, 1) := by decide +kernel
theorem dX5_deliver_83 : decode cX5_deliver 83 = .ok (.ifCond .eq 5, 3) := by decide +kernel
theorem dX5_deliver_86 : decode cX5_deliver 86 = .ok (.iconst 0, 1) := by decide +kernel
theorem dX5_deliver_87 : decode cX5_deliver 87 = .ok (.ireturn, 1) := by decide +kernel
theorem dX5_deliver_88 : decode cX5_deliver 88 = .ok (.iload_n 2, 1) := by decide +kernel
theorem dX5_deliver_89 : decode cX5_deliver 89 = .ok (.iconst 1, 1) := by decide +kernel
theorem dX5_deliver_90 : decode cX5_deliver 90 = .ok (.if_icmp .ne 79, 3) := by decide +kernel
theorem dX5_deliver_93 : decode cX5_deliver 93 = .ok (.aload_n 0, 1) := by decide +kernel
theorem dX5_deliver_94 : decode cX5_deliver 94 = .ok (.getfield 36, 3) := by decide +kernel
theorem dX5_deliver_97 : decode cX5_deliver 97 = .ok (.iconst 5, 1) := by decide +kernel
theorem dX5_deliver_98 : decode cX5_deliver 98 = .ok (.iload 5, 2) := by decide +kernel
theorem dX5_deliver_100 : decode cX5_deliver 100 = .ok (.imul, 1) := by decide +kernel
theorem dX5_deliver_101 : decode cX5_deliver 101 = .ok (.iload 4, 2) := by decide +kernel
theorem dX5_deliver_103 : decode cX5_deliver 103 = .ok (.iadd, 1) := by decide +kernel
theorem dX5_deliver_104 : decode cX5_deliver 104 = .ok (.iaload, 1) := by decide +kernel
theorem dX5_deliver_105 : decode cX5_deliver 105 = .ok (.ifCond .le 5, 3) := by decide +kernel
theorem dX5_deliver_108 : decode cX5_deliver 108 = .ok (.iconst 0, 1) := by decide +kernel
theorem dX5_deliver_109 : decode cX5_deliver 109 = .ok (.ireturn, 1) := by decide +kernel
theorem dX5_deliver_110 : decode cX5_deliver 110 = .ok (.aload_n 0, 1) := by decide +kernel
theorem dX5_deliver_111 : decode cX5_deliver 111 = .ok (.getfield 42, 3) := by decide +kernel
theorem dX5_deliver_114 : decode cX5_deliver 114 = .ok (.iconst 5, 1) := by decide +kernel
theorem dX5_deliver_115 : decode cX5_deliver 115 = .ok (.iload 5, 2) := by decide +kernel
theorem dX5_deliver_117 : decode cX5_deliver 117 = .ok (.imul, 1) := by decide +kernel
theorem dX5_deliver_118 : decode cX5_deliver 118 = .ok (.iload 4, 2) := by decide +kernel
theorem dX5_deliver_120 : decode cX5_deliver 120 = .ok (.iadd, 1) := by decide +kernel
theorem dX5_deliver_121 : decode cX5_deliver 121 = .ok (.baload, 1) := by decide +kernel
theorem dX5_deliver_122 : decode cX5_deliver 122 = .ok (.ifCond .ne 14, 3) := by decide +kernel
theorem dX5_deliver_125 : decode cX5_deliver 125 = .ok (.aload_n 0, 1) := by decide +kernel
theorem dX5_deliver_126 : decode cX5_deliver 126 = .ok (.iload 5, 2) := by decide +kernel
theorem dX5_deliver_128 : decode cX5_deliver 128 = .ok (.iload 4, 2) := by decide +kernel
theorem dX5_deliver_130 : decode cX5_deliver 130 = .ok (.invokevirtual 141, 3) := by decide +kernel
theorem dX5_deliver_133 : decode cX5_deliver 133 = .ok (.ifCond .ne 16, 3) := by decide +kernel
theorem dX5_deliver_136 : decode cX5_deliver 136 = .ok (.aload_n 0, 1) := by decide +kernel
theorem dX5_deliver_137 : decode cX5_deliver 137 = .ok (.iconst 3, 1) := by decide +kernel
theorem dX5_deliver_138 : decode cX5_deliver 138 = .ok (.iload 4, 2) := by decide +kernel
theorem dX5_deliver_140 : decode cX5_deliver 140 = .ok (.iload_n 3, 1) := by decide +kernel
theorem dX5_deliver_141 : decode cX5_deliver 141 = .ok (.iload 5, 2) := by decide +kernel
theorem dX5_deliver_143 : decode cX5_deliver 143 = .ok (.invokevirtual 137, 3) := by decide +kernel
theorem dX5_deliver_146 : decode cX5_deliver 146 = .ok (.goto 21, 3) := by decide +kernel
theorem dX5_deliver_149 : decode cX5_deliver 149 = .ok (.aload_n 0, 1) := by decide +kernel
theorem dX5_deliver_150 : decode cX5_deliver 150 = .ok (.iload 5, 2) := by decide +kernel
theorem dX5_deliver_152 : decode cX5_deliver 152 = .ok (.iload 4, 2) := by decide +kernel
theorem dX5_deliver_154 : decode cX5_deliver 154 = .ok (.invokevirtual 147, 3) := by decide +kernel
theorem dX5_deliver_157 : decode cX5_deliver 157 = .ok (.aload_n 0, 1) := by decide +kernel
theorem dX5_deliver_158 : decode cX5_deliver 158 = .ok (.iconst 2, 1) := by decide +kernel
theorem dX5_deliver_159 : decode cX5_deliver 159 = .ok (.iload 4, 2) := by decide +kernel
theorem dX5_deliver_161 : decode cX5_deliver 161 = .ok (.iload_n 3, 1) := by decide +kernel
theorem dX5_deliver_162 : decode cX5_deliver 162 = .ok (.iload 5, 2) := by decide +kernel
theorem dX5_deliver_164 : decode cX5_deliver 164 = .ok (.invokevirtual 137, 3) := by decide +kernel
theorem dX5_deliver_167 : decode cX5_deliver 167 = .ok (.iconst 0, 1) := by decide +kernel
theorem dX5_deliver_168 : decode cX5_deliver 168 = .ok (.ireturn, 1) := by decide +kernel
theorem dX5_deliver_169 : decode cX5_deliver 169 = .ok (.iload_n 2, 1) := by decide +kernel
theorem dX5_deliver_170 : decode cX5_deliver 170 = .ok (.iconst 2, 1) := by decide +kernel
theorem dX5_deliver_171 : decode cX5_deliver 171 = .ok (.if_icmp .eq 8, 3) := by decide +kernel
theorem dX5_deliver_174 : decode cX5_deliver 174 = .ok (.iload_n 2, 1) := by decide +kernel
theorem dX5_deliver_175 : decode cX5_deliver 175 = .ok (.iconst 3, 1) := by decide +kernel
theorem dX5_deliver_176 : decode cX5_deliver 176 = .ok (.if_icmp .ne 75, 3) := by decide +kernel
theorem dX5_deliver_179 : decode cX5_deliver 179 = .ok (.aload_n 0, 1) := by decide +kernel
theorem dX5_deliver_180 : decode cX5_deliver 180 = .ok (.getfield 27, 3) := by decide +kernel
theorem dX5_deliver_183 : decode cX5_deliver 183 = .ok (.iload 5, 2) := by decide +kernel
theorem dX5_deliver_185 : decode cX5_deliver 185 = .ok (.iaload, 1) := by decide +kernel
theorem dX5_deliver_186 : decode cX5_deliver 186 = .ok (.iconst 1, 1) := by decide +kernel
theorem dX5_deliver_187 : decode cX5_deliver 187 = .ok (.if_icmp .eq 5, 3) := by decide +kernel
theorem dX5_deliver_190 : decode cX5_deliver 190 = .ok (.iconst 0, 1) := by decide +kernel
theorem dX5_deliver_191 : decode cX5_deliver 191 = .ok (.ireturn, 1) := by decide +kernel
theorem dX5_deliver_192 : decode cX5_deliver 192 = .ok (.iload_n 2, 1) := by decide +kernel
theorem dX5_deliver_193 : decode cX5_deliver 193 = .ok (.iconst 3, 1) := by decide +kernel
theorem dX5_deliver_194 : decode cX5_deliver 194 = .ok (.if_icmp .ne 19, 3) := by decide +kernel
theorem dX5_deliver_197 : decode cX5_deliver 197 = .ok (.aload_n 0, 1) := by decide +kernel
theorem dX5_deliver_198 : decode cX5_deliver 198 = .ok (.getfield 27, 3) := by decide +kernel
theorem dX5_deliver_201 : decode cX5_deliver 201 = .ok (.iload 5, 2) := by decide +kernel
theorem dX5_deliver_203 : decode cX5_deliver 203 = .ok (.iconst 3, 1) := by decide +kernel
theorem dX5_deliver_204 : decode cX5_deliver 204 = .ok (.iastore, 1) := by decide +kernel
theorem dX5_deliver_205 : decode cX5_deliver 205 = .ok (.aload_n 0, 1) := by decide +kernel
theorem dX5_deliver_206 : decode cX5_deliver 206 = .ok (.iload 5, 2) := by decide +kernel
theorem dX5_deliver_208 : decode cX5_deliver 208 = .ok (.invokevirtual 156, 3) := by decide +kernel
theorem dX5_deliver_211 : decode cX5_deliver 211 = .ok (.iconst 0, 1) := by decide +kernel
theorem dX5_deliver_212 : decode cX5_deliver 212 = .ok (.ireturn, 1) := by decide +kernel
theorem dX5_deliver_213 : decode cX5_deliver 213 = .ok (.aload_n 0, 1) := by decide +kernel
theorem dX5_deliver_214 : decode cX5_deliver 214 = .ok (.getfield 48, 3) := by decide +kernel
theorem dX5_deliver_217 : decode cX5_deliver 217 = .ok (.iconst 5, 1) := by decide +kernel
theorem dX5_deliver_218 : decode cX5_deliver 218 = .ok (.iload 5, 2) := by decide +kernel
theorem dX5_deliver_220 : decode cX5_deliver 220 = .ok (.imul, 1) := by decide +kernel
theorem dX5_deliver_221 : decode cX5_deliver 221 = .ok (.iload_n 3, 1) := by decide +kernel
theorem dX5_deliver_222 : decode cX5_deliver 222 = .ok (.iadd, 1) := by decide +kernel
theorem dX5_deliver_223 : decode cX5_deliver 223 = .ok (.iconst 1, 1) := by decide +kernel
theorem dX5_deliver_224 : decode cX5_deliver 224 = .ok (.bastore, 1) := by decide +kernel
theorem dX5_deliver_225 : decode cX5_deliver 225 = .ok (.aload_n 0, 1) := by decide +kernel
theorem dX5_deliver_226 : decode cX5_deliver 226 = .ok (.iload 5, 2) := by decide +kernel
theorem dX5_deliver_228 : decode cX5_deliver 228 = .ok (.invokevirtual 159, 3) := by decide +kernel
theorem dX5_deliver_231 : decode cX5_deliver 231 = .ok (.ifCond .ne 5, 3) := by decide +kernel
theorem dX5_deliver_234 : decode cX5_deliver 234 = .ok (.iconst 0, 1) := by decide +kernel
theorem dX5_deliver_235 : decode cX5_deliver 235 = .ok (.ireturn, 1) := by decide +kernel
theorem dX5_deliver_236 : decode cX5_deliver 236 = .ok (.aload_n 0, 1) := by decide +kernel
theorem dX5_deliver_237 : decode cX5_deliver 237 = .ok (.iload 5, 2) := by decide +kernel
theorem dX5_deliver_239 : decode cX5_deliver 239 = .ok (.invokevirtual 144, 3) := by decide +kernel
theorem dX5_deliver_242 : decode cX5_deliver 242 = .ok (.iconst 1, 1) := by decide +kernel
theorem dX5_deliver_243 : decode cX5_deliver 243 = .ok (.aload_n 0, 1) := by decide +kernel
theorem dX5_deliver_244 : decode cX5_deliver 244 = .ok (.iload 4, 2) := by decide +kernel
theorem dX5_deliver_246 : decode cX5_deliver 246 = .ok (.invokevirtual 162, 3) := by decide +kernel
theorem dX5_deliver_249 : decode cX5_deliver 249 = .ok (.iadd, 1) := by decide +kernel
theorem dX5_deliver_250 : decode cX5_deliver 250 = .ok (.ireturn, 1) := by decide +kernel
theorem dX5_deliver_251 : decode cX5_deliver 251 = .ok (.iload_n 2, 1) := by decide +kernel
theorem dX5_deliver_252 : decode cX5_deliver 252 = .ok (.iconst 4, 1) := by decide +kernel
theorem dX5_deliver_253 : decode cX5_deliver 253 = .ok (.if_icmp .ne 26, 3) := by decide +kernel
theorem dX5_deliver_256 : decode cX5_deliver 256 = .ok (.aload_n 0, 1) := by decide +kernel
theorem dX5_deliver_257 : decode cX5_deliver 257 = .ok (.getfield 42, 3) := by decide +kernel
theorem dX5_deliver_260 : decode cX5_deliver 260 = .ok (.iconst 5, 1) := by decide +kernel
theorem dX5_deliver_261 : decode cX5_deliver 261 = .ok (.iload 5, 2) := by decide +kernel
theorem dX5_deliver_263 : decode cX5_deliver 263 = .ok (.imul, 1) := by decide +kernel
theorem dX5_deliver_264 : decode cX5_deliver 264 = .ok (.iload 4, 2) := by decide +kernel
theorem dX5_deliver_266 : decode cX5_deliver 266 = .ok (.iadd, 1) := by decide +kernel
theorem dX5_deliver_267 : decode cX5_deliver 267 = .ok (.iconst 1, 1) := by decide +kernel
theorem dX5_deliver_268 : decode cX5_deliver 268 = .ok (.bastore, 1) := by decide +kernel
theorem dX5_deliver_269 : decode cX5_deliver 269 = .ok (.aload_n 0, 1) := by decide +kernel
theorem dX5_deliver_270 : decode cX5_deliver 270 = .ok (.iload 5, 2) := by decide +kernel
theorem dX5_deliver_272 : decode cX5_deliver 272 = .ok (.iload 4, 2) := by decide +kernel
theorem dX5_deliver_274 : decode cX5_deliver 274 = .ok (.invokevirtual 130, 3) := by decide +kernel
theorem dX5_deliver_277 : decode cX5_deliver 277 = .ok (.iconst 0, 1) := by decide +kernel
theorem dX5_deliver_278 : decode cX5_deliver 278 = .ok (.ireturn, 1) := by decide +kernel
theorem dX5_deliver_279 : decode cX5_deliver 279 = .ok (.aload_n 0, 1) := by decide +kernel
theorem dX5_deliver_280 : decode cX5_deliver 280 = .ok (.getfield 36, 3) := by decide +kernel
theorem dX5_deliver_283 : decode cX5_deliver 283 = .ok (.iconst 5, 1) := by decide +kernel
theorem dX5_deliver_284 : decode cX5_deliver 284 = .ok (.iload 5, 2) := by decide +kernel
theorem dX5_deliver_286 : decode cX5_deliver 286 = .ok (.imul, 1) := by decide +kernel
theorem dX5_deliver_287 : decode cX5_deliver 287 = .ok (.iload 4, 2) := by decide +kernel
theorem dX5_deliver_289 : decode cX5_deliver 289 = .ok (.iadd, 1) := by decide +kernel
theorem dX5_deliver_290 : decode cX5_deliver 290 = .ok (.iaload, 1) := by decide +kernel
theorem dX5_deliver_291 : decode cX5_deliver 291 = .ok (.ifCond .ne 16, 3) := by decide +kernel
theorem dX5_deliver_294 : decode cX5_deliver 294 = .ok (.aload_n 0, 1) := by decide +kernel
theorem dX5_deliver_295 : decode cX5_deliver 295 = .ok (.getfield 39, 3) := by decide +kernel
theorem dX5_deliver_298 : decode cX5_deliver 298 = .ok (.iconst 5, 1) := by decide +kernel
theorem dX5_deliver_299 : decode cX5_deliver 299 = .ok (.iload 5, 2) := by decide +kernel
theorem dX5_deliver_301 : decode cX5_deliver 301 = .ok (.imul, 1) := by decide +kernel
theorem dX5_deliver_302 : decode cX5_deliver 302 = .ok (.iload 4, 2) := by decide +kernel
theorem dX5_deliver_304 : decode cX5_deliver 304 = .ok (.iadd, 1) := by decide +kernel
theorem dX5_deliver_305 : decode cX5_deliver 305 = .ok (.iconst 1, 1) := by decide +kernel
theorem dX5_deliver_306 : decode cX5_deliver 306 = .ok (.bastore, 1) := by decide +kernel
theorem dX5_deliver_307 : decode cX5_deliver 307 = .ok (.aload_n 0, 1) := by decide +kernel
theorem dX5_deliver_308 : decode cX5_deliver 308 = .ok (.iload 4, 2) := by decide +kernel
theorem dX5_deliver_310 : decode cX5_deliver 310 = .ok (.invokevirtual 162, 3) := by decide +kernel
theorem dX5_deliver_313 : decode cX5_deliver 313 = .ok (.ireturn, 1) := by decide +kernel
set_option maxRecDepth 20000 in
theorem ggX5_drop_X5_fails : GoodIn wsX5_drop wsX5_fails := goodIn_r _ [7, 8, 13, 14, 15, 16, 17, 18, 19, 20, 21, 22, 23, 24, 25, 26, 27, 28, 29, 30, 31, 32, 33, 34, 35, 36, 37, 38, 39, 40] (by decide +kernel) (by decide +kernel)
set_option maxRecDepth 20000 in
theorem gX5_drop_X5_fails : GoodIn wsX5_drop (wsV RX5 97 RX5 yX5_fails wsX5_fails) := goodIn_app (goodIn_of _ (by decide +kernel)) ggX5_drop_X5_fails
set_option maxRecDepth 20000 in
theorem ggX5_drop_X5_takesOut : GoodIn wsX5_drop wsX5_takesOut := goodIn_r _ [12, 1, 2, 13, 14, 15, 16, 17, 18, 19, 20, 21, 22, 23, 24, 25, 26, 27, 28, 29, 30, 31, 32, 33, 34, 35, 36, 37, 38, 39, 40] (by decide +kernel) (by decide +kernel)
set_option maxRecDepth 20000 in
theorem gX5_drop_X5_takesOut : GoodIn wsX5_drop (wsV RX5 153 RX5 yX5_takesOut wsX5_takesOut) := goodIn_app (goodIn_of _ (by decide +kernel)) ggX5_drop_X5_takesOut
theorem dX5_drop_0 : decode cX5_drop 0 = .ok (.aload_n 0, 1) := by decide +kernel
theorem dX5_drop_1 : decode cX5_drop 1 = .ok (.iload_n 1, 1) := by decide +kernel
theorem dX5_drop_2 : decode cX5_drop 2 = .ok (.ifCond .lt 11, 3) := by decide +kernel
theorem dX5_drop_5 : decode cX5_drop 5 = .ok (.iload_n 1, 1) := by decide +kernel
theorem dX5_drop_6 : decode cX5_drop 6 = .ok (.aload_n 0, 1) := by decide +kernel
theorem dX5_drop_7 : decode cX5_drop 7 = .ok (.getfield 91, 3) := by decide +kernel
theorem dX5_drop_10 : decode cX5_drop 10 = .ok (.if_icmp .lt 7, 3) := by decide +kernel
theorem dX5_drop_13 : decode cX5_drop 13 = .ok (.iconst 1, 1) := by decide +kernel
theorem dX5_drop_14 : decode cX5_drop 14 = .ok (.goto 4, 3) := by decide +kernel
theorem dX5_drop_17 : decode cX5_drop 17 = .ok (.iconst 0, 1) := by decide +kernel
theorem dX5_drop_18 : decode cX5_drop 18 = .ok (.iconst 1, 1) := by decide +kernel
theorem dX5_drop_19 : decode cX5_drop 19 = .ok (.invokevirtual 97, 3) := by decide +kernel
theorem dX5_drop_22 : decode cX5_drop 22 = .ok (.ifCond .eq 5, 3) := by decide +kernel
theorem dX5_drop_25 : decode cX5_drop 25 = .ok (.iconst 0, 1) := by decide +kernel
theorem dX5_drop_26 : decode cX5_drop 26 = .ok (.ireturn, 1) := by decide +kernel
theorem dX5_drop_27 : decode cX5_drop 27 = .ok (.aload_n 0, 1) := by decide +kernel
theorem dX5_drop_28 : decode cX5_drop 28 = .ok (.getfield 72, 3) := by decide +kernel
theorem dX5_drop_31 : decode cX5_drop 31 = .ok (.iconst 4, 1) := by decide +kernel
theorem dX5_drop_32 : decode cX5_drop 32 = .ok (.iload_n 1, 1) := by decide +kernel
theorem dX5_drop_33 : decode cX5_drop 33 = .ok (.imul, 1) := by decide +kernel
theorem dX5_drop_34 : decode cX5_drop 34 = .ok (.iaload, 1) := by decide +kernel
theorem dX5_drop_35 : decode cX5_drop 35 = .ok (.istore_n 2, 1) := by decide +kernel
theorem dX5_drop_36 : decode cX5_drop 36 = .ok (.aload_n 0, 1) := by decide +kernel
theorem dX5_drop_37 : decode cX5_drop 37 = .ok (.iload_n 1, 1) := by decide +kernel
theorem dX5_drop_38 : decode cX5_drop 38 = .ok (.invokevirtual 153, 3) := by decide +kernel
theorem dX5_drop_41 : decode cX5_drop 41 = .ok (.iload_n 2, 1) := by decide +kernel
theorem dX5_drop_42 : decode cX5_drop 42 = .ok (.ireturn, 1) := by decide +kernel
set_option maxRecDepth 20000 in
theorem ggX5_copy_X5_fails : GoodIn wsX5_copy wsX5_fails := goodIn_r _ [7, 8, 9, 10, 11, 12, 13, 14, 15, 16, 17, 18, 19, 20, 21, 22, 23, 24, 25, 26, 27, 28, 29, 30, 31, 32, 33, 34, 35, 36] (by decide +kernel) (by decide +kernel)
set_option maxRecDepth 20000 in
theorem gX5_copy_X5_fails : GoodIn wsX5_copy (wsV RX5 97 RX5 yX5_fails wsX5_fails) := goodIn_app (goodIn_of _ (by decide +kernel)) ggX5_copy_X5_fails
theorem dX5_copy_0 : decode cX5_copy 0 = .ok (.aload_n 0, 1) := by decide +kernel
theorem dX5_copy_1 : decode cX5_copy 1 = .ok (.iload_n 1, 1) := by decide +kernel
theorem dX5_copy_2 : decode cX5_copy 2 = .ok (.ifCond .lt 11, 3) := by decide +kernel
theorem dX5_copy_5 : decode cX5_copy 5 = .ok (.iload_n 1, 1) := by decide +kernel
theorem dX5_copy_6 : decode cX5_copy 6 = .ok (.aload_n 0, 1) := by decide +kernel
theorem dX5_copy_7 : decode cX5_copy 7 = .ok (.getfield 91, 3) := by decide +kernel
theorem dX5_copy_10 : decode cX5_copy 10 = .ok (.if_icmp .lt 7, 3) := by decide +kernel
theorem dX5_copy_13 : decode cX5_copy 13 = .ok (.iconst 1, 1) := by decide +kernel
theorem dX5_copy_14 : decode cX5_copy 14 = .ok (.goto 4, 3) := by decide +kernel
theorem dX5_copy_17 : decode cX5_copy 17 = .ok (.iconst 0, 1) := by decide +kernel
theorem dX5_copy_18 : decode cX5_copy 18 = .ok (.iconst 1, 1) := by decide +kernel
theorem dX5_copy_19 : decode cX5_copy 19 = .ok (.invokevirtual 97, 3) := by decide +kernel
theorem dX5_copy_22 : decode cX5_copy 22 = .ok (.ifCond .eq 5, 3) := by decide +kernel
theorem dX5_copy_25 : decode cX5_copy 25 = .ok (.iconst 0, 1) := by decide +kernel
theorem dX5_copy_26 : decode cX5_copy 26 = .ok (.ireturn, 1) := by decide +kernel
theorem dX5_copy_27 : decode cX5_copy 27 = .ok (.aload_n 0, 1) := by decide +kernel
theorem dX5_copy_28 : decode cX5_copy 28 = .ok (.getfield 91, 3) := by decide +kernel
theorem dX5_copy_31 : decode cX5_copy 31 = .ok (.sipush 300, 3) := by decide +kernel
theorem dX5_copy_34 : decode cX5_copy 34 = .ok (.if_icmp .ne 5, 3) := by decide +kernel
theorem dX5_copy_37 : decode cX5_copy 37 = .ok (.iconst 0, 1) := by decide +kernel
theorem dX5_copy_38 : decode cX5_copy 38 = .ok (.ireturn, 1) := by decide +kernel
theorem dX5_copy_39 : decode cX5_copy 39 = .ok (.iconst 0, 1) := by decide +kernel
theorem dX5_copy_40 : decode cX5_copy 40 = .ok (.istore_n 2, 1) := by decide +kernel
theorem dX5_copy_41 : decode cX5_copy 41 = .ok (.iload_n 2, 1) := by decide +kernel
theorem dX5_copy_42 : decode cX5_copy 42 = .ok (.iconst 4, 1) := by decide +kernel
theorem dX5_copy_43 : decode cX5_copy 43 = .ok (.if_icmp .ge 32, 3) := by decide +kernel
theorem dX5_copy_46 : decode cX5_copy 46 = .ok (.aload_n 0, 1) := by decide +kernel
theorem dX5_copy_47 : decode cX5_copy 47 = .ok (.getfield 72, 3) := by decide +kernel
theorem dX5_copy_50 : decode cX5_copy 50 = .ok (.iconst 4, 1) := by decide +kernel
theorem dX5_copy_51 : decode cX5_copy 51 = .ok (.aload_n 0, 1) := by decide +kernel
theorem dX5_copy_52 : decode cX5_copy 52 = .ok (.getfield 91, 3) := by decide +kernel
theorem dX5_copy_55 : decode cX5_copy 55 = .ok (.imul, 1) := by decide +kernel
theorem dX5_copy_56 : decode cX5_copy 56 = .ok (.iload_n 2, 1) := by decide +kernel
theorem dX5_copy_57 : decode cX5_copy 57 = .ok (.iadd, 1) := by decide +kernel
theorem dX5_copy_58 : decode cX5_copy 58 = .ok (.aload_n 0, 1) := by decide +kernel
theorem dX5_copy_59 : decode cX5_copy 59 = .ok (.getfield 72, 3) := by decide +kernel
theorem dX5_copy_62 : decode cX5_copy 62 = .ok (.iconst 4, 1) := by decide +kernel
theorem dX5_copy_63 : decode cX5_copy 63 = .ok (.iload_n 1, 1) := by decide +kernel
theorem dX5_copy_64 : decode cX5_copy 64 = .ok (.imul, 1) := by decide +kernel
theorem dX5_copy_65 : decode cX5_copy 65 = .ok (.iload_n 2, 1) := by decide +kernel
theorem dX5_copy_66 : decode cX5_copy 66 = .ok (.iadd, 1) := by decide +kernel
theorem dX5_copy_67 : decode cX5_copy 67 = .ok (.iaload, 1) := by decide +kernel
theorem dX5_copy_68 : decode cX5_copy 68 = .ok (.iastore, 1) := by decide +kernel
theorem dX5_copy_69 : decode cX5_copy 69 = .ok (.iinc 2 1, 3) := by decide +kernel
theorem dX5_copy_72 : decode cX5_copy 72 = .ok (.goto (-31), 3) := by decide +kernel
theorem dX5_copy_75 : decode cX5_copy 75 = .ok (.aload_n 0, 1) := by decide +kernel
theorem dX5_copy_76 : decode cX5_copy 76 = .ok (.dup, 1) := by decide +kernel
theorem dX5_copy_77 : decode cX5_copy 77 = .ok (.getfield 91, 3) := by decide +kernel
theorem dX5_copy_80 : decode cX5_copy 80 = .ok (.iconst 1, 1) := by decide +kernel
theorem dX5_copy_81 : decode cX5_copy 81 = .ok (.iadd, 1) := by decide +kernel
theorem dX5_copy_82 : decode cX5_copy 82 = .ok (.putfield 91, 3) := by decide +kernel
theorem dX5_copy_85 : decode cX5_copy 85 = .ok (.iconst 1, 1) := by decide +kernel
theorem dX5_copy_86 : decode cX5_copy 86 = .ok (.ireturn, 1) := by decide +kernel
theorem dX5_put_0 : decode cX5_put 0 = .ok (.aload_n 0, 1) := by decide +kernel
theorem dX5_put_1 : decode cX5_put 1 = .ok (.getfield 75, 3) := by decide +kernel
theorem dX5_put_4 : decode cX5_put 4 = .ok (.aload_n 0, 1) := by decide +kernel
theorem dX5_put_5 : decode cX5_put 5 = .ok (.getfield 165, 3) := by decide +kernel
theorem dX5_put_8 : decode cX5_put 8 = .ok (.iload_n 1, 1) := by decide +kernel
theorem dX5_put_9 : decode cX5_put 9 = .ok (.sipush 255, 3) := by decide +kernel
theorem dX5_put_12 : decode cX5_put 12 = .ok (.iand, 1) := by decide +kernel
theorem dX5_put_13 : decode cX5_put 13 = .ok (.iastore, 1) := by decide +kernel
theorem dX5_put_14 : decode cX5_put 14 = .ok (.aload_n 0, 1) := by decide +kernel
theorem dX5_put_15 : decode cX5_put 15 = .ok (.dup, 1) := by decide +kernel
theorem dX5_put_16 : decode cX5_put 16 = .ok (.getfield 165, 3) := by decide +kernel
theorem dX5_put_19 : decode cX5_put 19 = .ok (.iconst 1, 1) := by decide +kernel
theorem dX5_put_20 : decode cX5_put 20 = .ok (.iadd, 1) := by decide +kernel
theorem dX5_put_21 : decode cX5_put 21 = .ok (.putfield 165, 3) := by decide +kernel
theorem dX5_put_24 : decode cX5_put 24 = .ok (.return_, 1) := by decide +kernel
set_option maxRecDepth 20000 in
theorem ggX5_putTwo_X5_put : GoodIn wsX5_putTwo wsX5_put := goodIn_r _ [5, 6, 7, 8, 9, 10, 11, 12, 13, 14, 15, 16, 17, 18, 19, 20, 21, 22, 23, 24, 25, 26, 27, 28, 29, 30, 31, 32, 33, 34, 35] (by decide +kernel) (by decide +kernel)
set_option maxRecDepth 20000 in
theorem gX5_putTwo_X5_put : GoodIn wsX5_putTwo (wsV RX5 168 RX5 yX5_put wsX5_put) := goodIn_app (goodIn_of _ (by decide +kernel)) ggX5_putTwo_X5_put
theorem dX5_putTwo_0 : decode cX5_putTwo 0 = .ok (.aload_n 0, 1) := by decide +kernel
theorem dX5_putTwo_1 : decode cX5_putTwo 1 = .ok (.iload_n 1, 1) := by decide +kernel
theorem dX5_putTwo_2 : decode cX5_putTwo 2 = .ok (.bipush 8, 2) := by decide +kernel
theorem dX5_putTwo_4 : decode cX5_putTwo 4 = .ok (.ishr, 1) := by decide +kernel
theorem dX5_putTwo_5 : decode cX5_putTwo 5 = .ok (.invokevirtual 168, 3) := by decide +kernel
theorem dX5_putTwo_8 : decode cX5_putTwo 8 = .ok (.aload_n 0, 1) := by decide +kernel
theorem dX5_putTwo_9 : decode cX5_putTwo 9 = .ok (.iload_n 1, 1) := by decide +kernel
theorem dX5_putTwo_10 : decode cX5_putTwo 10 = .ok (.invokevirtual 168, 3) := by decide +kernel
theorem dX5_putTwo_13 : decode cX5_putTwo 13 = .ok (.return_, 1) := by decide +kernel
set_option maxRecDepth 20000 in
theorem ggX5_putStart_X5_putTwo : GoodIn wsX5_putStart wsX5_putTwo := goodIn_r _ [7, 8, 9, 10, 6, 11, 12, 13, 14, 15, 16, 17, 18, 19, 20, 21, 22, 23, 24, 25, 26, 27, 28, 29, 30, 31, 32, 33, 34, 35, 36, 37, 38, 39, 40, 41] (by decide +kernel) (by decide +kernel)
set_option maxRecDepth 20000 in
theorem gX5_putStart_X5_putTwo : GoodIn wsX5_putStart (wsV RX5 171 RX5 yX5_putTwo wsX5_putTwo) := goodIn_app (goodIn_of _ (by decide +kernel)) ggX5_putStart_X5_putTwo
theorem dX5_putStart_0 : decode cX5_putStart 0 = .ok (.iconst 0, 1) := by decide +kernel
theorem dX5_putStart_1 : decode cX5_putStart 1 = .ok (.istore_n 2, 1) := by decide +kernel
theorem dX5_putStart_2 : decode cX5_putStart 2 = .ok (.iload_n 2, 1) := by decide +kernel
theorem dX5_putStart_3 : decode cX5_putStart 3 = .ok (.aload_n 0, 1) := by decide +kernel
theorem dX5_putStart_4 : decode cX5_putStart 4 = .ok (.getfield 7, 3) := by decide +kernel
theorem dX5_putStart_7 : decode cX5_putStart 7 = .ok (.if_icmp .ge 23, 3) := by decide +kernel
theorem dX5_putStart_10 : decode cX5_putStart 10 = .ok (.aload_n 0, 1) := by decide +kernel
theorem dX5_putStart_11 : decode cX5_putStart 11 = .ok (.aload_n 0, 1) := by decide +kernel
theorem dX5_putStart_12 : decode cX5_putStart 12 = .ok (.getfield 33, 3) := by decide +kernel
theorem dX5_putStart_15 : decode cX5_putStart 15 = .ok (.iconst 5, 1) := by decide +kernel
theorem dX5_putStart_16 : decode cX5_putStart 16 = .ok (.iload_n 1, 1) := by decide +kernel
theorem dX5_putStart_17 : decode cX5_putStart 17 = .ok (.imul, 1) := by decide +kernel
theorem dX5_putStart_18 : decode cX5_putStart 18 = .ok (.iload_n 2, 1) := by decide +kernel
theorem dX5_putStart_19 : decode cX5_putStart 19 = .ok (.iadd, 1) := by decide +kernel
theorem dX5_putStart_20 : decode cX5_putStart 20 = .ok (.iaload, 1) := by decide +kernel
theorem dX5_putStart_21 : decode cX5_putStart 21 = .ok (.invokevirtual 171, 3) := by decide +kernel
theorem dX5_putStart_24 : decode cX5_putStart 24 = .ok (.iinc 2 1, 3) := by decide +kernel
theorem dX5_putStart_27 : decode cX5_putStart 27 = .ok (.goto (-25), 3) := by decide +kernel
theorem dX5_putStart_30 : decode cX5_putStart 30 = .ok (.return_, 1) := by decide +kernel
set_option maxRecDepth 20000 in
theorem ggX5_byteOf_X5_fails : GoodIn wsX5_byteOf wsX5_fails := goodIn_r _ [17, 18, 32, 33, 34, 35, 36, 37, 38, 39, 40, 41, 42, 43, 44, 45, 46, 47, 48, 49, 50, 51, 52, 53, 54, 55, 56, 57, 58, 59] (by decide +kernel) (by decide +kernel)
set_option maxRecDepth 20000 in
theorem gX5_byteOf_X5_fails : GoodIn wsX5_byteOf (wsV RX5 97 RX5 yX5_fails wsX5_fails) := goodIn_app (goodIn_of _ (by decide +kernel)) ggX5_byteOf_X5_fails
set_option maxRecDepth 20000 in
theorem ggX5_byteOf_X5_put : GoodIn wsX5_byteOf wsX5_put := goodIn_r _ [22, 7, 3, 32, 33, 34, 35, 36, 37, 38, 39, 40, 41, 42, 43, 44, 45, 46, 47, 48, 49, 50, 51, 52, 53, 54, 55, 56, 57, 58, 59] (by decide +kernel) (by decide +kernel)
set_option maxRecDepth 20000 in
theorem gX5_byteOf_X5_put : GoodIn wsX5_byteOf (wsV RX5 168 RX5 yX5_put wsX5_put) := goodIn_app (goodIn_of _ (by decide +kernel)) ggX5_byteOf_X5_put
set_option maxRecDepth 20000 in
theorem ggX5_byteOf_X5_putTwo : GoodIn wsX5_byteOf wsX5_putTwo := goodIn_r _ [26, 19, 20, 21, 16, 22, 7, 3, 32, 33, 34, 35, 36, 37, 38, 39, 40, 41, 42, 43, 44, 45, 46, 47, 48, 49, 50, 51, 52, 53, 54, 55, 56, 57, 58, 59] (by decide +kernel) (by decide +kernel)
set_option maxRecDepth 20000 in
theorem gX5_byteOf_X5_putTwo : GoodIn wsX5_byteOf (wsV RX5 171 RX5 yX5_putTwo wsX5_putTwo) := goodIn_app (goodIn_of _ (by decide +kernel)) ggX5_byteOf_X5_putTwo
set_option maxRecDepth 20000 in
theorem ggX5_byteOf_X5_putStart : GoodIn wsX5_byteOf wsX5_putStart := goodIn_r _ [30, 6, 31, 23, 24, 25, 16, 26, 19, 20, 21, 22, 7, 3, 32, 33, 34, 35, 36, 37, 38, 39, 40, 41, 42, 43, 44, 45, 46, 47, 48, 49, 50, 51, 52, 53, 54, 55, 56, 57, 58, 59] (by decide +kernel) (by decide +kernel)
set_option maxRecDepth 20000 in
theorem gX5_byteOf_X5_putStart : GoodIn wsX5_byteOf (wsV RX5 174 RX5 yX5_putStart wsX5_putStart) := goodIn_app (goodIn_of _ (by decide +kernel)) ggX5_byteOf_X5_putStart
theorem dX5_byteOf_0 : decode cX5_byteOf 0 = .ok (.aload_n 0, 1) := by decide +kernel
theorem dX5_byteOf_1 : decode cX5_byteOf 1 = .ok (.iload_n 1, 1) := by decide +kernel
theorem dX5_byteOf_2 : decode cX5_byteOf 2 = .ok (.ifCond .lt 11, 3) := by decide +kernel
theorem dX5_byteOf_5 : decode cX5_byteOf 5 = .ok (.iload_n 1, 1) := by decide +kernel
theorem dX5_byteOf_6 : decode cX5_byteOf 6 = .ok (.aload_n 0, 1) := by decide +kernel
theorem dX5_byteOf_7 : decode cX5_byteOf 7 = .ok (.getfield 91, 3) := by decide +kernel
theorem dX5_byteOf_10 : decode cX5_byteOf 10 = .ok (.if_icmp .lt 7, 3) := by decide +kernel
