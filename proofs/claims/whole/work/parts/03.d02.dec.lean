theorem dX5_commit_2 : decode cX5_commit 2 = .ok (.iload_n 1, 1) := by decide +kernel
theorem dX5_commit_3 : decode cX5_commit 3 = .ok (.invokevirtual 109, 3) := by decide +kernel
theorem dX5_commit_6 : decode cX5_commit 6 = .ok (.ifCond .ne 7, 3) := by decide +kernel
theorem dX5_commit_9 : decode cX5_commit 9 = .ok (.iconst 1, 1) := by decide +kernel
theorem dX5_commit_10 : decode cX5_commit 10 = .ok (.goto 4, 3) := by decide +kernel
theorem dX5_commit_13 : decode cX5_commit 13 = .ok (.iconst 0, 1) := by decide +kernel
theorem dX5_commit_14 : decode cX5_commit 14 = .ok (.iconst 1, 1) := by decide +kernel
theorem dX5_commit_15 : decode cX5_commit 15 = .ok (.invokevirtual 97, 3) := by decide +kernel
theorem dX5_commit_18 : decode cX5_commit 18 = .ok (.ifCond .ne 25, 3) := by decide +kernel
theorem dX5_commit_21 : decode cX5_commit 21 = .ok (.aload_n 0, 1) := by decide +kernel
theorem dX5_commit_22 : decode cX5_commit 22 = .ok (.aload_n 0, 1) := by decide +kernel
theorem dX5_commit_23 : decode cX5_commit 23 = .ok (.getfield 27, 3) := by decide +kernel
theorem dX5_commit_26 : decode cX5_commit 26 = .ok (.iload_n 1, 1) := by decide +kernel
theorem dX5_commit_27 : decode cX5_commit 27 = .ok (.iaload, 1) := by decide +kernel
theorem dX5_commit_28 : decode cX5_commit 28 = .ok (.ifCond .eq 7, 3) := by decide +kernel
theorem dX5_commit_31 : decode cX5_commit 31 = .ok (.iconst 1, 1) := by decide +kernel
theorem dX5_commit_32 : decode cX5_commit 32 = .ok (.goto 4, 3) := by decide +kernel
theorem dX5_commit_35 : decode cX5_commit 35 = .ok (.iconst 0, 1) := by decide +kernel
theorem dX5_commit_36 : decode cX5_commit 36 = .ok (.iconst 2, 1) := by decide +kernel
theorem dX5_commit_37 : decode cX5_commit 37 = .ok (.invokevirtual 97, 3) := by decide +kernel
theorem dX5_commit_40 : decode cX5_commit 40 = .ok (.ifCond .eq 5, 3) := by decide +kernel
theorem dX5_commit_43 : decode cX5_commit 43 = .ok (.iconst 0, 1) := by decide +kernel
theorem dX5_commit_44 : decode cX5_commit 44 = .ok (.ireturn, 1) := by decide +kernel
theorem dX5_commit_45 : decode cX5_commit 45 = .ok (.aload_n 0, 1) := by decide +kernel
theorem dX5_commit_46 : decode cX5_commit 46 = .ok (.getfield 24, 3) := by decide +kernel
theorem dX5_commit_49 : decode cX5_commit 49 = .ok (.iload_n 1, 1) := by decide +kernel
theorem dX5_commit_50 : decode cX5_commit 50 = .ok (.iaload, 1) := by decide +kernel
theorem dX5_commit_51 : decode cX5_commit 51 = .ok (.istore_n 2, 1) := by decide +kernel
theorem dX5_commit_52 : decode cX5_commit 52 = .ok (.iconst 0, 1) := by decide +kernel
theorem dX5_commit_53 : decode cX5_commit 53 = .ok (.istore_n 3, 1) := by decide +kernel
theorem dX5_commit_54 : decode cX5_commit 54 = .ok (.iconst 0, 1) := by decide +kernel
theorem dX5_commit_55 : decode cX5_commit 55 = .ok (.istore 4, 2) := by decide +kernel
theorem dX5_commit_57 : decode cX5_commit 57 = .ok (.iload 4, 2) := by decide +kernel
theorem dX5_commit_59 : decode cX5_commit 59 = .ok (.bipush 20, 2) := by decide +kernel
theorem dX5_commit_61 : decode cX5_commit 61 = .ok (.if_icmp .ge 54, 3) := by decide +kernel
theorem dX5_commit_64 : decode cX5_commit 64 = .ok (.aload_n 0, 1) := by decide +kernel
theorem dX5_commit_65 : decode cX5_commit 65 = .ok (.getfield 51, 3) := by decide +kernel
theorem dX5_commit_68 : decode cX5_commit 68 = .ok (.bipush 20, 2) := by decide +kernel
theorem dX5_commit_70 : decode cX5_commit 70 = .ok (.iload_n 1, 1) := by decide +kernel
theorem dX5_commit_71 : decode cX5_commit 71 = .ok (.imul, 1) := by decide +kernel
theorem dX5_commit_72 : decode cX5_commit 72 = .ok (.iload 4, 2) := by decide +kernel
theorem dX5_commit_74 : decode cX5_commit 74 = .ok (.iadd, 1) := by decide +kernel
theorem dX5_commit_75 : decode cX5_commit 75 = .ok (.baload, 1) := by decide +kernel
theorem dX5_commit_76 : decode cX5_commit 76 = .ok (.ifCond .eq 33, 3) := by decide +kernel
theorem dX5_commit_79 : decode cX5_commit 79 = .ok (.iload 4, 2) := by decide +kernel
theorem dX5_commit_81 : decode cX5_commit 81 = .ok (.aload_n 0, 1) := by decide +kernel
theorem dX5_commit_82 : decode cX5_commit 82 = .ok (.getfield 7, 3) := by decide +kernel
theorem dX5_commit_85 : decode cX5_commit 85 = .ok (.irem, 1) := by decide +kernel
theorem dX5_commit_86 : decode cX5_commit 86 = .ok (.iload_n 2, 1) := by decide +kernel
theorem dX5_commit_87 : decode cX5_commit 87 = .ok (.if_icmp .eq 22, 3) := by decide +kernel
theorem dX5_commit_90 : decode cX5_commit 90 = .ok (.iconst 1, 1) := by decide +kernel
theorem dX5_commit_91 : decode cX5_commit 91 = .ok (.istore_n 3, 1) := by decide +kernel
theorem dX5_commit_92 : decode cX5_commit 92 = .ok (.aload_n 0, 1) := by decide +kernel
theorem dX5_commit_93 : decode cX5_commit 93 = .ok (.getfield 45, 3) := by decide +kernel
theorem dX5_commit_96 : decode cX5_commit 96 = .ok (.iconst 5, 1) := by decide +kernel
theorem dX5_commit_97 : decode cX5_commit 97 = .ok (.iload_n 1, 1) := by decide +kernel
theorem dX5_commit_98 : decode cX5_commit 98 = .ok (.imul, 1) := by decide +kernel
theorem dX5_commit_99 : decode cX5_commit 99 = .ok (.iload 4, 2) := by decide +kernel
theorem dX5_commit_101 : decode cX5_commit 101 = .ok (.aload_n 0, 1) := by decide +kernel
theorem dX5_commit_102 : decode cX5_commit 102 = .ok (.getfield 7, 3) := by decide +kernel
theorem dX5_commit_105 : decode cX5_commit 105 = .ok (.irem, 1) := by decide +kernel
theorem dX5_commit_106 : decode cX5_commit 106 = .ok (.iadd, 1) := by decide +kernel
theorem dX5_commit_107 : decode cX5_commit 107 = .ok (.iconst 1, 1) := by decide +kernel
theorem dX5_commit_108 : decode cX5_commit 108 = .ok (.bastore, 1) := by decide +kernel
theorem dX5_commit_109 : decode cX5_commit 109 = .ok (.iinc 4 1, 3) := by decide +kernel
theorem dX5_commit_112 : decode cX5_commit 112 = .ok (.goto (-55), 3) := by decide +kernel
theorem dX5_commit_115 : decode cX5_commit 115 = .ok (.aload_n 0, 1) := by decide +kernel
theorem dX5_commit_116 : decode cX5_commit 116 = .ok (.iload_n 1, 1) := by decide +kernel
theorem dX5_commit_117 : decode cX5_commit 117 = .ok (.iload_n 2, 1) := by decide +kernel
theorem dX5_commit_118 : decode cX5_commit 118 = .ok (.invokevirtual 141, 3) := by decide +kernel
theorem dX5_commit_121 : decode cX5_commit 121 = .ok (.ifCond .ne 40, 3) := by decide +kernel
theorem dX5_commit_124 : decode cX5_commit 124 = .ok (.aload_n 0, 1) := by decide +kernel
theorem dX5_commit_125 : decode cX5_commit 125 = .ok (.getfield 27, 3) := by decide +kernel
theorem dX5_commit_128 : decode cX5_commit 128 = .ok (.iload_n 1, 1) := by decide +kernel
theorem dX5_commit_129 : decode cX5_commit 129 = .ok (.iconst 3, 1) := by decide +kernel
theorem dX5_commit_130 : decode cX5_commit 130 = .ok (.iastore, 1) := by decide +kernel
theorem dX5_commit_131 : decode cX5_commit 131 = .ok (.iconst 0, 1) := by decide +kernel
theorem dX5_commit_132 : decode cX5_commit 132 = .ok (.istore 4, 2) := by decide +kernel
theorem dX5_commit_134 : decode cX5_commit 134 = .ok (.iload 4, 2) := by decide +kernel
theorem dX5_commit_136 : decode cX5_commit 136 = .ok (.iconst 5, 1) := by decide +kernel
theorem dX5_commit_137 : decode cX5_commit 137 = .ok (.if_icmp .ge 21, 3) := by decide +kernel
theorem dX5_commit_140 : decode cX5_commit 140 = .ok (.aload_n 0, 1) := by decide +kernel
theorem dX5_commit_141 : decode cX5_commit 141 = .ok (.getfield 45, 3) := by decide +kernel
theorem dX5_commit_144 : decode cX5_commit 144 = .ok (.iconst 5, 1) := by decide +kernel
theorem dX5_commit_145 : decode cX5_commit 145 = .ok (.iload_n 1, 1) := by decide +kernel
theorem dX5_commit_146 : decode cX5_commit 146 = .ok (.imul, 1) := by decide +kernel
theorem dX5_commit_147 : decode cX5_commit 147 = .ok (.iload 4, 2) := by decide +kernel
theorem dX5_commit_149 : decode cX5_commit 149 = .ok (.iadd, 1) := by decide +kernel
theorem dX5_commit_150 : decode cX5_commit 150 = .ok (.iconst 0, 1) := by decide +kernel
theorem dX5_commit_151 : decode cX5_commit 151 = .ok (.bastore, 1) := by decide +kernel
theorem dX5_commit_152 : decode cX5_commit 152 = .ok (.iinc 4 1, 3) := by decide +kernel
theorem dX5_commit_155 : decode cX5_commit 155 = .ok (.goto (-21), 3) := by decide +kernel
theorem dX5_commit_158 : decode cX5_commit 158 = .ok (.goto 76, 3) := by decide +kernel
theorem dX5_commit_161 : decode cX5_commit 161 = .ok (.iload_n 3, 1) := by decide +kernel
theorem dX5_commit_162 : decode cX5_commit 162 = .ok (.ifCond .ne 11, 3) := by decide +kernel
theorem dX5_commit_165 : decode cX5_commit 165 = .ok (.aload_n 0, 1) := by decide +kernel
theorem dX5_commit_166 : decode cX5_commit 166 = .ok (.iload_n 1, 1) := by decide +kernel
theorem dX5_commit_167 : decode cX5_commit 167 = .ok (.invokevirtual 144, 3) := by decide +kernel
theorem dX5_commit_170 : decode cX5_commit 170 = .ok (.goto 64, 3) := by decide +kernel
theorem dX5_commit_173 : decode cX5_commit 173 = .ok (.aload_n 0, 1) := by decide +kernel
theorem dX5_commit_174 : decode cX5_commit 174 = .ok (.iload_n 1, 1) := by decide +kernel
theorem dX5_commit_175 : decode cX5_commit 175 = .ok (.iload_n 2, 1) := by decide +kernel
theorem dX5_commit_176 : decode cX5_commit 176 = .ok (.invokevirtual 147, 3) := by decide +kernel
theorem dX5_commit_179 : decode cX5_commit 179 = .ok (.aload_n 0, 1) := by decide +kernel
theorem dX5_commit_180 : decode cX5_commit 180 = .ok (.getfield 27, 3) := by decide +kernel
theorem dX5_commit_183 : decode cX5_commit 183 = .ok (.iload_n 1, 1) := by decide +kernel
theorem dX5_commit_184 : decode cX5_commit 184 = .ok (.iconst 1, 1) := by decide +kernel
theorem dX5_commit_185 : decode cX5_commit 185 = .ok (.iastore, 1) := by decide +kernel
theorem dX5_commit_186 : decode cX5_commit 186 = .ok (.aload_n 0, 1) := by decide +kernel
theorem dX5_commit_187 : decode cX5_commit 187 = .ok (.getfield 66, 3) := by decide +kernel
theorem dX5_commit_190 : decode cX5_commit 190 = .ok (.iload_n 1, 1) := by decide +kernel
theorem dX5_commit_191 : decode cX5_commit 191 = .ok (.iconst 1, 1) := by decide +kernel
theorem dX5_commit_192 : decode cX5_commit 192 = .ok (.bastore, 1) := by decide +kernel
theorem dX5_commit_193 : decode cX5_commit 193 = .ok (.iconst 0, 1) := by decide +kernel
theorem dX5_commit_194 : decode cX5_commit 194 = .ok (.istore 4, 2) := by decide +kernel
theorem dX5_commit_196 : decode cX5_commit 196 = .ok (.iload 4, 2) := by decide +kernel
theorem dX5_commit_198 : decode cX5_commit 198 = .ok (.aload_n 0, 1) := by decide +kernel
theorem dX5_commit_199 : decode cX5_commit 199 = .ok (.getfield 7, 3) := by decide +kernel
theorem dX5_commit_202 : decode cX5_commit 202 = .ok (.if_icmp .ge 32, 3) := by decide +kernel
theorem dX5_commit_205 : decode cX5_commit 205 = .ok (.aload_n 0, 1) := by decide +kernel
theorem dX5_commit_206 : decode cX5_commit 206 = .ok (.getfield 45, 3) := by decide +kernel
theorem dX5_commit_209 : decode cX5_commit 209 = .ok (.iconst 5, 1) := by decide +kernel
theorem dX5_commit_210 : decode cX5_commit 210 = .ok (.iload_n 1, 1) := by decide +kernel
theorem dX5_commit_211 : decode cX5_commit 211 = .ok (.imul, 1) := by decide +kernel
theorem dX5_commit_212 : decode cX5_commit 212 = .ok (.iload 4, 2) := by decide +kernel
theorem dX5_commit_214 : decode cX5_commit 214 = .ok (.iadd, 1) := by decide +kernel
theorem dX5_commit_215 : decode cX5_commit 215 = .ok (.baload, 1) := by decide +kernel
theorem dX5_commit_216 : decode cX5_commit 216 = .ok (.ifCond .eq 12, 3) := by decide +kernel
theorem dX5_commit_219 : decode cX5_commit 219 = .ok (.aload_n 0, 1) := by decide +kernel
theorem dX5_commit_220 : decode cX5_commit 220 = .ok (.iconst 1, 1) := by decide +kernel
theorem dX5_commit_221 : decode cX5_commit 221 = .ok (.iload_n 2, 1) := by decide +kernel
theorem dX5_commit_222 : decode cX5_commit 222 = .ok (.iload 4, 2) := by decide +kernel
theorem dX5_commit_224 : decode cX5_commit 224 = .ok (.iload_n 1, 1) := by decide +kernel
theorem dX5_commit_225 : decode cX5_commit 225 = .ok (.invokevirtual 137, 3) := by decide +kernel
theorem dX5_commit_228 : decode cX5_commit 228 = .ok (.iinc 4 1, 3) := by decide +kernel
theorem dX5_commit_231 : decode cX5_commit 231 = .ok (.goto (-35), 3) := by decide +kernel
theorem dX5_commit_234 : decode cX5_commit 234 = .ok (.aload_n 0, 1) := by decide +kernel
theorem dX5_commit_235 : decode cX5_commit 235 = .ok (.getfield 27, 3) := by decide +kernel
theorem dX5_commit_238 : decode cX5_commit 238 = .ok (.iload_n 1, 1) := by decide +kernel
theorem dX5_commit_239 : decode cX5_commit 239 = .ok (.iaload, 1) := by decide +kernel
theorem dX5_commit_240 : decode cX5_commit 240 = .ok (.ireturn, 1) := by decide +kernel
theorem dX5_abort_0 : decode cX5_abort 0 = .ok (.aload_n 0, 1) := by decide +kernel
theorem dX5_abort_1 : decode cX5_abort 1 = .ok (.aload_n 0, 1) := by decide +kernel
theorem dX5_abort_2 : decode cX5_abort 2 = .ok (.iload_n 1, 1) := by decide +kernel
theorem dX5_abort_3 : decode cX5_abort 3 = .ok (.invokevirtual 109, 3) := by decide +kernel
theorem dX5_abort_6 : decode cX5_abort 6 = .ok (.ifCond .ne 7, 3) := by decide +kernel
theorem dX5_abort_9 : decode cX5_abort 9 = .ok (.iconst 1, 1) := by decide +kernel
theorem dX5_abort_10 : decode cX5_abort 10 = .ok (.goto 4, 3) := by decide +kernel
theorem dX5_abort_13 : decode cX5_abort 13 = .ok (.iconst 0, 1) := by decide +kernel
theorem dX5_abort_14 : decode cX5_abort 14 = .ok (.iconst 1, 1) := by decide +kernel
theorem dX5_abort_15 : decode cX5_abort 15 = .ok (.invokevirtual 97, 3) := by decide +kernel
theorem dX5_abort_18 : decode cX5_abort 18 = .ok (.ifCond .ne 25, 3) := by decide +kernel
theorem dX5_abort_21 : decode cX5_abort 21 = .ok (.aload_n 0, 1) := by decide +kernel
theorem dX5_abort_22 : decode cX5_abort 22 = .ok (.aload_n 0, 1) := by decide +kernel
theorem dX5_abort_23 : decode cX5_abort 23 = .ok (.getfield 27, 3) := by decide +kernel
theorem dX5_abort_26 : decode cX5_abort 26 = .ok (.iload_n 1, 1) := by decide +kernel
theorem dX5_abort_27 : decode cX5_abort 27 = .ok (.iaload, 1) := by decide +kernel
theorem dX5_abort_28 : decode cX5_abort 28 = .ok (.ifCond .eq 7, 3) := by decide +kernel
theorem dX5_abort_31 : decode cX5_abort 31 = .ok (.iconst 1, 1) := by decide +kernel
theorem dX5_abort_32 : decode cX5_abort 32 = .ok (.goto 4, 3) := by decide +kernel
theorem dX5_abort_35 : decode cX5_abort 35 = .ok (.iconst 0, 1) := by decide +kernel
theorem dX5_abort_36 : decode cX5_abort 36 = .ok (.iconst 2, 1) := by decide +kernel
theorem dX5_abort_37 : decode cX5_abort 37 = .ok (.invokevirtual 97, 3) := by decide +kernel
theorem dX5_abort_40 : decode cX5_abort 40 = .ok (.ifCond .eq 4, 3) := by decide +kernel
theorem dX5_abort_43 : decode cX5_abort 43 = .ok (.return_, 1) := by decide +kernel
theorem dX5_abort_44 : decode cX5_abort 44 = .ok (.aload_n 0, 1) := by decide +kernel
theorem dX5_abort_45 : decode cX5_abort 45 = .ok (.getfield 27, 3) := by decide +kernel
theorem dX5_abort_48 : decode cX5_abort 48 = .ok (.iload_n 1, 1) := by decide +kernel
theorem dX5_abort_49 : decode cX5_abort 49 = .ok (.iconst 3, 1) := by decide +kernel
theorem dX5_abort_50 : decode cX5_abort 50 = .ok (.iastore, 1) := by decide +kernel
theorem dX5_abort_51 : decode cX5_abort 51 = .ok (.return_, 1) := by decide +kernel
theorem dX5_again_0 : decode cX5_again 0 = .ok (.aload_n 0, 1) := by decide +kernel
theorem dX5_again_1 : decode cX5_again 1 = .ok (.aload_n 0, 1) := by decide +kernel
theorem dX5_again_2 : decode cX5_again 2 = .ok (.iload_n 1, 1) := by decide +kernel
theorem dX5_again_3 : decode cX5_again 3 = .ok (.invokevirtual 109, 3) := by decide +kernel
theorem dX5_again_6 : decode cX5_again 6 = .ok (.ifCond .ne 7, 3) := by decide +kernel
theorem dX5_again_9 : decode cX5_again 9 = .ok (.iconst 1, 1) := by decide +kernel
theorem dX5_again_10 : decode cX5_again 10 = .ok (.goto 4, 3) := by decide +kernel
theorem dX5_again_13 : decode cX5_again 13 = .ok (.iconst 0, 1) := by decide +kernel
theorem dX5_again_14 : decode cX5_again 14 = .ok (.iconst 1, 1) := by decide +kernel
theorem dX5_again_15 : decode cX5_again 15 = .ok (.invokevirtual 97, 3) := by decide +kernel
theorem dX5_again_18 : decode cX5_again 18 = .ok (.ifCond .ne 22, 3) := by decide +kernel
theorem dX5_again_21 : decode cX5_again 21 = .ok (.aload_n 0, 1) := by decide +kernel
theorem dX5_again_22 : decode cX5_again 22 = .ok (.aload_n 0, 1) := by decide +kernel
theorem dX5_again_23 : decode cX5_again 23 = .ok (.getfield 17, 3) := by decide +kernel
theorem dX5_again_26 : decode cX5_again 26 = .ok (.aload_n 0, 1) := by decide +kernel
theorem dX5_again_27 : decode cX5_again 27 = .ok (.getfield 24, 3) := by decide +kernel
theorem dX5_again_30 : decode cX5_again 30 = .ok (.iload_n 1, 1) := by decide +kernel
theorem dX5_again_31 : decode cX5_again 31 = .ok (.iaload, 1) := by decide +kernel
theorem dX5_again_32 : decode cX5_again 32 = .ok (.baload, 1) := by decide +kernel
theorem dX5_again_33 : decode cX5_again 33 = .ok (.iconst 2, 1) := by decide +kernel
theorem dX5_again_34 : decode cX5_again 34 = .ok (.invokevirtual 97, 3) := by decide +kernel
theorem dX5_again_37 : decode cX5_again 37 = .ok (.ifCond .eq 5, 3) := by decide +kernel
theorem dX5_again_40 : decode cX5_again 40 = .ok (.iconst 0, 1) := by decide +kernel
theorem dX5_again_41 : decode cX5_again 41 = .ok (.ireturn, 1) := by decide +kernel
theorem dX5_again_42 : decode cX5_again 42 = .ok (.iload_n 1, 1) := by decide +kernel
theorem dX5_again_43 : decode cX5_again 43 = .ok (.istore_n 2, 1) := by decide +kernel
theorem dX5_again_44 : decode cX5_again 44 = .ok (.aload_n 0, 1) := by decide +kernel
theorem dX5_again_45 : decode cX5_again 45 = .ok (.getfield 94, 3) := by decide +kernel
theorem dX5_again_48 : decode cX5_again 48 = .ok (.istore_n 3, 1) := by decide +kernel
theorem dX5_again_49 : decode cX5_again 49 = .ok (.iconst 0, 1) := by decide +kernel
theorem dX5_again_50 : decode cX5_again 50 = .ok (.istore 4, 2) := by decide +kernel
theorem dX5_again_52 : decode cX5_again 52 = .ok (.iload 4, 2) := by decide +kernel
theorem dX5_again_54 : decode cX5_again 54 = .ok (.aload_n 0, 1) := by decide +kernel
theorem dX5_again_55 : decode cX5_again 55 = .ok (.getfield 7, 3) := by decide +kernel
theorem dX5_again_58 : decode cX5_again 58 = .ok (.if_icmp .ge 146, 3) := by decide +kernel
theorem dX5_again_61 : decode cX5_again 61 = .ok (.aload_n 0, 1) := by decide +kernel
theorem dX5_again_62 : decode cX5_again 62 = .ok (.getfield 27, 3) := by decide +kernel
theorem dX5_again_65 : decode cX5_again 65 = .ok (.iload_n 2, 1) := by decide +kernel
theorem dX5_again_66 : decode cX5_again 66 = .ok (.iaload, 1) := by decide +kernel
theorem dX5_again_67 : decode cX5_again 67 = .ok (.iconst 1, 1) := by decide +kernel
theorem dX5_again_68 : decode cX5_again 68 = .ok (.if_icmp .ne 45, 3) := by decide +kernel
theorem dX5_again_71 : decode cX5_again 71 = .ok (.aload_n 0, 1) := by decide +kernel
theorem dX5_again_72 : decode cX5_again 72 = .ok (.getfield 45, 3) := by decide +kernel
theorem dX5_again_75 : decode cX5_again 75 = .ok (.iconst 5, 1) := by decide +kernel
theorem dX5_again_76 : decode cX5_again 76 = .ok (.iload_n 2, 1) := by decide +kernel
theorem dX5_again_77 : decode cX5_again 77 = .ok (.imul, 1) := by decide +kernel
theorem dX5_again_78 : decode cX5_again 78 = .ok (.iload 4, 2) := by decide +kernel
theorem dX5_again_80 : decode cX5_again 80 = .ok (.iadd, 1) := by decide +kernel
theorem dX5_again_81 : decode cX5_again 81 = .ok (.baload, 1) := by decide +kernel
theorem dX5_again_82 : decode cX5_again 82 = .ok (.ifCond .eq 31, 3) := by decide +kernel
theorem dX5_again_85 : decode cX5_again 85 = .ok (.aload_n 0, 1) := by decide +kernel
theorem dX5_again_86 : decode cX5_again 86 = .ok (.getfield 48, 3) := by decide +kernel
theorem dX5_again_89 : decode cX5_again 89 = .ok (.iconst 5, 1) := by decide +kernel
theorem dX5_again_90 : decode cX5_again 90 = .ok (.iload_n 2, 1) := by decide +kernel
theorem dX5_again_91 : decode cX5_again 91 = .ok (.imul, 1) := by decide +kernel
theorem dX5_again_92 : decode cX5_again 92 = .ok (.iload 4, 2) := by decide +kernel
theorem dX5_again_94 : decode cX5_again 94 = .ok (.iadd, 1) := by decide +kernel
theorem dX5_again_95 : decode cX5_again 95 = .ok (.baload, 1) := by decide +kernel
theorem dX5_again_96 : decode cX5_again 96 = .ok (.ifCond .ne 17, 3) := by decide +kernel
theorem dX5_again_99 : decode cX5_again 99 = .ok (.aload_n 0, 1) := by decide +kernel
theorem dX5_again_100 : decode cX5_again 100 = .ok (.iconst 1, 1) := by decide +kernel
theorem dX5_again_101 : decode cX5_again 101 = .ok (.aload_n 0, 1) := by decide +kernel
theorem dX5_again_102 : decode cX5_again 102 = .ok (.getfield 24, 3) := by decide +kernel
theorem dX5_again_105 : decode cX5_again 105 = .ok (.iload_n 2, 1) := by decide +kernel
theorem dX5_again_106 : decode cX5_again 106 = .ok (.iaload, 1) := by decide +kernel
theorem dX5_again_107 : decode cX5_again 107 = .ok (.iload 4, 2) := by decide +kernel
theorem dX5_again_109 : decode cX5_again 109 = .ok (.iload_n 2, 1) := by decide +kernel
theorem dX5_again_110 : decode cX5_again 110 = .ok (.invokevirtual 137, 3) := by decide +kernel
theorem dX5_again_113 : decode cX5_again 113 = .ok (.aload_n 0, 1) := by decide +kernel
theorem dX5_again_114 : decode cX5_again 114 = .ok (.getfield 27, 3) := by decide +kernel
theorem dX5_again_117 : decode cX5_again 117 = .ok (.iload_n 2, 1) := by decide +kernel
theorem dX5_again_118 : decode cX5_again 118 = .ok (.iaload, 1) := by decide +kernel
theorem dX5_again_119 : decode cX5_again 119 = .ok (.iconst 2, 1) := by decide +kernel
theorem dX5_again_120 : decode cX5_again 120 = .ok (.if_icmp .ne 31, 3) := by decide +kernel
theorem dX5_again_123 : decode cX5_again 123 = .ok (.aload_n 0, 1) := by decide +kernel
theorem dX5_again_124 : decode cX5_again 124 = .ok (.getfield 36, 3) := by decide +kernel
theorem dX5_again_127 : decode cX5_again 127 = .ok (.iconst 5, 1) := by decide +kernel
theorem dX5_again_128 : decode cX5_again 128 = .ok (.iload_n 2, 1) := by decide +kernel
theorem dX5_again_129 : decode cX5_again 129 = .ok (.imul, 1) := by decide +kernel
theorem dX5_again_130 : decode cX5_again 130 = .ok (.iload 4, 2) := by decide +kernel
theorem dX5_again_132 : decode cX5_again 132 = .ok (.iadd, 1) := by decide +kernel
theorem dX5_again_133 : decode cX5_again 133 = .ok (.iaload, 1) := by decide +kernel
theorem dX5_again_134 : decode cX5_again 134 = .ok (.ifCond .ne 17, 3) := by decide +kernel
theorem dX5_again_137 : decode cX5_again 137 = .ok (.aload_n 0, 1) := by decide +kernel
theorem dX5_again_138 : decode cX5_again 138 = .ok (.iconst 5, 1) := by decide +kernel
theorem dX5_again_139 : decode cX5_again 139 = .ok (.aload_n 0, 1) := by decide +kernel
theorem dX5_again_140 : decode cX5_again 140 = .ok (.getfield 24, 3) := by decide +kernel
theorem dX5_again_143 : decode cX5_again 143 = .ok (.iload_n 2, 1) := by decide +kernel
theorem dX5_again_144 : decode cX5_again 144 = .ok (.iaload, 1) := by decide +kernel
theorem dX5_again_145 : decode cX5_again 145 = .ok (.iload 4, 2) := by decide +kernel
theorem dX5_again_147 : decode cX5_again 147 = .ok (.iload_n 2, 1) := by decide +kernel
theorem dX5_again_148 : decode cX5_again 148 = .ok (.invokevirtual 137, 3) := by decide +kernel
theorem dX5_again_151 : decode cX5_again 151 = .ok (.aload_n 0, 1) := by decide +kernel
theorem dX5_again_152 : decode cX5_again 152 = .ok (.getfield 27, 3) := by decide +kernel
theorem dX5_again_155 : decode cX5_again 155 = .ok (.iload_n 2, 1) := by decide +kernel
theorem dX5_again_156 : decode cX5_again 156 = .ok (.iaload, 1) := by decide +kernel
theorem dX5_again_157 : decode cX5_again 157 = .ok (.iconst 2, 1) := by decide +kernel
theorem dX5_again_158 : decode cX5_again 158 = .ok (.if_icmp .le 40, 3) := by decide +kernel
theorem dX5_again_161 : decode cX5_again 161 = .ok (.aload_n 0, 1) := by decide +kernel
theorem dX5_again_162 : decode cX5_again 162 = .ok (.getfield 66, 3) := by decide +kernel
theorem dX5_again_165 : decode cX5_again 165 = .ok (.iload_n 2, 1) := by decide +kernel
theorem dX5_again_166 : decode cX5_again 166 = .ok (.baload, 1) := by decide +kernel
theorem dX5_again_167 : decode cX5_again 167 = .ok (.ifCond .eq 31, 3) := by decide +kernel
theorem dX5_again_170 : decode cX5_again 170 = .ok (.aload_n 0, 1) := by decide +kernel
theorem dX5_again_171 : decode cX5_again 171 = .ok (.getfield 45, 3) := by decide +kernel
theorem dX5_again_174 : decode cX5_again 174 = .ok (.iconst 5, 1) := by decide +kernel
theorem dX5_again_175 : decode cX5_again 175 = .ok (.iload_n 2, 1) := by decide +kernel
theorem dX5_again_176 : decode cX5_again 176 = .ok (.imul, 1) := by decide +kernel
theorem dX5_again_177 : decode cX5_again 177 = .ok (.iload 4, 2) := by decide +kernel
theorem dX5_again_179 : decode cX5_again 179 = .ok (.iadd, 1) := by decide +kernel
theorem dX5_again_180 : decode cX5_again 180 = .ok (.baload, 1) := by decide +kernel
theorem dX5_again_181 : decode cX5_again 181 = .ok (.ifCond .eq 17, 3) := by decide +kernel
theorem dX5_again_184 : decode cX5_again 184 = .ok (.aload_n 0, 1) := by decide +kernel
theorem dX5_again_185 : decode cX5_again 185 = .ok (.iconst 4, 1) := by decide +kernel
theorem dX5_again_186 : decode cX5_again 186 = .ok (.aload_n 0, 1) := by decide +kernel
theorem dX5_again_187 : decode cX5_again 187 = .ok (.getfield 24, 3) := by decide +kernel
theorem dX5_again_190 : decode cX5_again 190 = .ok (.iload_n 2, 1) := by decide +kernel
theorem dX5_again_191 : decode cX5_again 191 = .ok (.iaload, 1) := by decide +kernel
theorem dX5_again_192 : decode cX5_again 192 = .ok (.iload 4, 2) := by decide +kernel
theorem dX5_again_194 : decode cX5_again 194 = .ok (.iload_n 2, 1) := by decide +kernel
theorem dX5_again_195 : decode cX5_again 195 = .ok (.invokevirtual 137, 3) := by decide +kernel
theorem dX5_again_198 : decode cX5_again 198 = .ok (.iinc 4 1, 3) := by decide +kernel
theorem dX5_again_201 : decode cX5_again 201 = .ok (.goto (-149), 3) := by decide +kernel
theorem dX5_again_204 : decode cX5_again 204 = .ok (.aload_n 0, 1) := by decide +kernel
theorem dX5_again_205 : decode cX5_again 205 = .ok (.getfield 94, 3) := by decide +kernel
theorem dX5_again_208 : decode cX5_again 208 = .ok (.iload_n 3, 1) := by decide +kernel
theorem dX5_again_209 : decode cX5_again 209 = .ok (.isub, 1) := by decide +kernel
theorem dX5_again_210 : decode cX5_again 210 = .ok (.ireturn, 1) := by decide +kernel
theorem dX5_isNext_0 : decode cX5_isNext 0 = .ok (.aload_n 0, 1) := by decide +kernel
theorem dX5_isNext_1 : decode cX5_isNext 1 = .ok (.getfield 39, 3) := by decide +kernel
theorem dX5_isNext_4 : decode cX5_isNext 4 = .ok (.iconst 5, 1) := by decide +kernel
theorem dX5_isNext_5 : decode cX5_isNext 5 = .ok (.iload_n 1, 1) := by decide +kernel
theorem dX5_isNext_6 : decode cX5_isNext 6 = .ok (.imul, 1) := by decide +kernel
theorem dX5_isNext_7 : decode cX5_isNext 7 = .ok (.iload_n 2, 1) := by decide +kernel
theorem dX5_isNext_8 : decode cX5_isNext 8 = .ok (.iadd, 1) := by decide +kernel
theorem dX5_isNext_9 : decode cX5_isNext 9 = .ok (.baload, 1) := by decide +kernel
theorem dX5_isNext_10 : decode cX5_isNext 10 = .ok (.ifCond .eq 33, 3) := by decide +kernel
theorem dX5_isNext_13 : decode cX5_isNext 13 = .ok (.aload_n 0, 1) := by decide +kernel
theorem dX5_isNext_14 : decode cX5_isNext 14 = .ok (.getfield 30, 3) := by decide +kernel
theorem dX5_isNext_17 : decode cX5_isNext 17 = .ok (.iload_n 1, 1) := by decide +kernel
theorem dX5_isNext_18 : decode cX5_isNext 18 = .ok (.iaload, 1) := by decide +kernel
theorem dX5_isNext_19 : decode cX5_isNext 19 = .ok (.aload_n 0, 1) := by decide +kernel
theorem dX5_isNext_20 : decode cX5_isNext 20 = .ok (.getfield 13, 3) := by decide +kernel
theorem dX5_isNext_23 : decode cX5_isNext 23 = .ok (.iconst 5, 1) := by decide +kernel
theorem dX5_isNext_24 : decode cX5_isNext 24 = .ok (.iload_n 2, 1) := by decide +kernel
theorem dX5_isNext_25 : decode cX5_isNext 25 = .ok (.imul, 1) := by decide +kernel
theorem dX5_isNext_26 : decode cX5_isNext 26 = .ok (.aload_n 0, 1) := by decide +kernel
theorem dX5_isNext_27 : decode cX5_isNext 27 = .ok (.getfield 24, 3) := by decide +kernel
theorem dX5_isNext_30 : decode cX5_isNext 30 = .ok (.iload_n 1, 1) := by decide +kernel
theorem dX5_isNext_31 : decode cX5_isNext 31 = .ok (.iaload, 1) := by decide +kernel
theorem dX5_isNext_32 : decode cX5_isNext 32 = .ok (.iadd, 1) := by decide +kernel
theorem dX5_isNext_33 : decode cX5_isNext 33 = .ok (.iaload, 1) := by decide +kernel
theorem dX5_isNext_34 : decode cX5_isNext 34 = .ok (.iconst 1, 1) := by decide +kernel
theorem dX5_isNext_35 : decode cX5_isNext 35 = .ok (.iadd, 1) := by decide +kernel
theorem dX5_isNext_36 : decode cX5_isNext 36 = .ok (.if_icmp .ne 7, 3) := by decide +kernel
theorem dX5_isNext_39 : decode cX5_isNext 39 = .ok (.iconst 1, 1) := by decide +kernel
theorem dX5_isNext_40 : decode cX5_isNext 40 = .ok (.goto 4, 3) := by decide +kernel
theorem dX5_isNext_43 : decode cX5_isNext 43 = .ok (.iconst 0, 1) := by decide +kernel
theorem dX5_isNext_44 : decode cX5_isNext 44 = .ok (.istore_n 3, 1) := by decide +kernel
theorem dX5_isNext_45 : decode cX5_isNext 45 = .ok (.iconst 0, 1) := by decide +kernel
theorem dX5_isNext_46 : decode cX5_isNext 46 = .ok (.istore 4, 2) := by decide +kernel
theorem dX5_isNext_48 : decode cX5_isNext 48 = .ok (.iload 4, 2) := by decide +kernel
theorem dX5_isNext_50 : decode cX5_isNext 50 = .ok (.aload_n 0, 1) := by decide +kernel
theorem dX5_isNext_51 : decode cX5_isNext 51 = .ok (.getfield 7, 3) := by decide +kernel
theorem dX5_isNext_54 : decode cX5_isNext 54 = .ok (.if_icmp .ge 36, 3) := by decide +kernel
theorem dX5_isNext_57 : decode cX5_isNext 57 = .ok (.aload_n 0, 1) := by decide +kernel
theorem dX5_isNext_58 : decode cX5_isNext 58 = .ok (.getfield 33, 3) := by decide +kernel
theorem dX5_isNext_61 : decode cX5_isNext 61 = .ok (.iconst 5, 1) := by decide +kernel
theorem dX5_isNext_62 : decode cX5_isNext 62 = .ok (.iload_n 1, 1) := by decide +kernel
theorem dX5_isNext_63 : decode cX5_isNext 63 = .ok (.imul, 1) := by decide +kernel
theorem dX5_isNext_64 : decode cX5_isNext 64 = .ok (.iload 4, 2) := by decide +kernel
theorem dX5_isNext_66 : decode cX5_isNext 66 = .ok (.iadd, 1) := by decide +kernel
theorem dX5_isNext_67 : decode cX5_isNext 67 = .ok (.iaload, 1) := by decide +kernel
theorem dX5_isNext_68 : decode cX5_isNext 68 = .ok (.aload_n 0, 1) := by decide +kernel
theorem dX5_isNext_69 : decode cX5_isNext 69 = .ok (.getfield 13, 3) := by decide +kernel
theorem dX5_isNext_72 : decode cX5_isNext 72 = .ok (.iconst 5, 1) := by decide +kernel
theorem dX5_isNext_73 : decode cX5_isNext 73 = .ok (.iload_n 2, 1) := by decide +kernel
theorem dX5_isNext_74 : decode cX5_isNext 74 = .ok (.imul, 1) := by decide +kernel
theorem dX5_isNext_75 : decode cX5_isNext 75 = .ok (.iload 4, 2) := by decide +kernel
theorem dX5_isNext_77 : decode cX5_isNext 77 = .ok (.iadd, 1) := by decide +kernel
theorem dX5_isNext_78 : decode cX5_isNext 78 = .ok (.iaload, 1) := by decide +kernel
theorem dX5_isNext_79 : decode cX5_isNext 79 = .ok (.if_icmp .le 5, 3) := by decide +kernel
theorem dX5_isNext_82 : decode cX5_isNext 82 = .ok (.iconst 0, 1) := by decide +kernel
theorem dX5_isNext_83 : decode cX5_isNext 83 = .ok (.istore_n 3, 1) := by decide +kernel
theorem dX5_isNext_84 : decode cX5_isNext 84 = .ok (.iinc 4 1, 3) := by decide +kernel
theorem dX5_isNext_87 : decode cX5_isNext 87 = .ok (.goto (-39), 3) := by decide +kernel
theorem dX5_isNext_90 : decode cX5_isNext 90 = .ok (.iload_n 3, 1) := by decide +kernel
theorem dX5_isNext_91 : decode cX5_isNext 91 = .ok (.ireturn, 1) := by decide +kernel
theorem dX5_settles_0 : decode cX5_settles 0 = .ok (.iconst 0, 1) := by decide +kernel
theorem dX5_settles_1 : decode cX5_settles 1 = .ok (.istore_n 2, 1) := by decide +kernel
theorem dX5_settles_2 : decode cX5_settles 2 = .ok (.iconst 0, 1) := by decide +kernel
theorem dX5_settles_3 : decode cX5_settles 3 = .ok (.istore_n 3, 1) := by decide +kernel
theorem dX5_settles_4 : decode cX5_settles 4 = .ok (.iload_n 3, 1) := by decide +kernel
theorem dX5_settles_5 : decode cX5_settles 5 = .ok (.iconst (-1), 1) := by decide +kernel
theorem dX5_settles_6 : decode cX5_settles 6 = .ok (.if_icmp .eq 54, 3) := by decide +kernel
theorem dX5_settles_9 : decode cX5_settles 9 = .ok (.iconst (-1), 1) := by decide +kernel
theorem dX5_settles_10 : decode cX5_settles 10 = .ok (.istore_n 3, 1) := by decide +kernel
theorem dX5_settles_11 : decode cX5_settles 11 = .ok (.aload_n 0, 1) := by decide +kernel
theorem dX5_settles_12 : decode cX5_settles 12 = .ok (.getfield 88, 3) := by decide +kernel
theorem dX5_settles_15 : decode cX5_settles 15 = .ok (.iconst 1, 1) := by decide +kernel
theorem dX5_settles_16 : decode cX5_settles 16 = .ok (.isub, 1) := by decide +kernel
theorem dX5_settles_17 : decode cX5_settles 17 = .ok (.istore 4, 2) := by decide +kernel
theorem dX5_settles_19 : decode cX5_settles 19 = .ok (.iload 4, 2) := by decide +kernel
theorem dX5_settles_21 : decode cX5_settles 21 = .ok (.ifCond .lt 22, 3) := by decide +kernel
theorem dX5_settles_24 : decode cX5_settles 24 = .ok (.aload_n 0, 1) := by decide +kernel
theorem dX5_settles_25 : decode cX5_settles 25 = .ok (.iload 4, 2) := by decide +kernel
theorem dX5_settles_27 : decode cX5_settles 27 = .ok (.iload_n 1, 1) := by decide +kernel
theorem dX5_settles_28 : decode cX5_settles 28 = .ok (.invokevirtual 150, 3) := by decide +kernel
theorem dX5_settles_31 : decode cX5_settles 31 = .ok (.ifCond .eq 6, 3) := by decide +kernel
theorem dX5_settles_34 : decode cX5_settles 34 = .ok (.iload 4, 2) := by decide +kernel
theorem dX5_settles_36 : decode cX5_settles 36 = .ok (.istore_n 3, 1) := by decide +kernel
theorem dX5_settles_37 : decode cX5_settles 37 = .ok (.iinc 4 (-1), 3) := by decide +kernel
theorem dX5_settles_40 : decode cX5_settles 40 = .ok (.goto (-21), 3) := by decide +kernel
theorem dX5_settles_43 : decode cX5_settles 43 = .ok (.iload_n 3, 1) := by decide +kernel
theorem dX5_settles_44 : decode cX5_settles 44 = .ok (.iconst (-1), 1) := by decide +kernel
theorem dX5_settles_45 : decode cX5_settles 45 = .ok (.if_icmp .eq (-41), 3) := by decide +kernel
theorem dX5_settles_48 : decode cX5_settles 48 = .ok (.aload_n 0, 1) := by decide +kernel
theorem dX5_settles_49 : decode cX5_settles 49 = .ok (.iload_n 3, 1) := by decide +kernel
theorem dX5_settles_50 : decode cX5_settles 50 = .ok (.iload_n 1, 1) := by decide +kernel
theorem dX5_settles_51 : decode cX5_settles 51 = .ok (.invokevirtual 134, 3) := by decide +kernel
theorem dX5_settles_54 : decode cX5_settles 54 = .ok (.iinc 2 1, 3) := by decide +kernel
theorem dX5_settles_57 : decode cX5_settles 57 = .ok (.goto (-53), 3) := by decide +kernel
theorem dX5_settles_60 : decode cX5_settles 60 = .ok (.iload_n 2, 1) := by decide +kernel
theorem dX5_settles_61 : decode cX5_settles 61 = .ok (.ireturn, 1) := by decide +kernel
theorem dX5_allSaid_0 : decode cX5_allSaid 0 = .ok (.iconst 1, 1) := by decide +kernel
theorem dX5_allSaid_1 : decode cX5_allSaid 1 = .ok (.istore_n 2, 1) := by decide +kernel
theorem dX5_allSaid_2 : decode cX5_allSaid 2 = .ok (.iconst 0, 1) := by decide +kernel
theorem dX5_allSaid_3 : decode cX5_allSaid 3 = .ok (.istore_n 3, 1) := by decide +kernel
theorem dX5_allSaid_4 : decode cX5_allSaid 4 = .ok (.iload_n 3, 1) := by decide +kernel
theorem dX5_allSaid_5 : decode cX5_allSaid 5 = .ok (.aload_n 0, 1) := by decide +kernel
theorem dX5_allSaid_6 : decode cX5_allSaid 6 = .ok (.getfield 7, 3) := by decide +kernel
theorem dX5_allSaid_9 : decode cX5_allSaid 9 = .ok (.if_icmp .ge 37, 3) := by decide +kernel
theorem dX5_allSaid_12 : decode cX5_allSaid 12 = .ok (.aload_n 0, 1) := by decide +kernel
theorem dX5_allSaid_13 : decode cX5_allSaid 13 = .ok (.getfield 45, 3) := by decide +kernel
theorem dX5_allSaid_16 : decode cX5_allSaid 16 = .ok (.iconst 5, 1) := by decide +kernel
theorem dX5_allSaid_17 : decode cX5_allSaid 17 = .ok (.iload_n 1, 1) := by decide +kernel
theorem dX5_allSaid_18 : decode cX5_allSaid 18 = .ok (.imul, 1) := by decide +kernel
theorem dX5_allSaid_19 : decode cX5_allSaid 19 = .ok (.iload_n 3, 1) := by decide +kernel
theorem dX5_allSaid_20 : decode cX5_allSaid 20 = .ok (.iadd, 1) := by decide +kernel
theorem dX5_allSaid_21 : decode cX5_allSaid 21 = .ok (.baload, 1) := by decide +kernel
theorem dX5_allSaid_22 : decode cX5_allSaid 22 = .ok (.ifCond .eq 18, 3) := by decide +kernel
theorem dX5_allSaid_25 : decode cX5_allSaid 25 = .ok (.aload_n 0, 1) := by decide +kernel
theorem dX5_allSaid_26 : decode cX5_allSaid 26 = .ok (.getfield 48, 3) := by decide +kernel
theorem dX5_allSaid_29 : decode cX5_allSaid 29 = .ok (.iconst 5, 1) := by decide +kernel
theorem dX5_allSaid_30 : decode cX5_allSaid 30 = .ok (.iload_n 1, 1) := by decide +kernel
theorem dX5_allSaid_31 : decode cX5_allSaid 31 = .ok (.imul, 1) := by decide +kernel
theorem dX5_allSaid_32 : decode cX5_allSaid 32 = .ok (.iload_n 3, 1) := by decide +kernel
theorem dX5_allSaid_33 : decode cX5_allSaid 33 = .ok (.iadd, 1) := by decide +kernel
theorem dX5_allSaid_34 : decode cX5_allSaid 34 = .ok (.baload, 1) := by decide +kernel
theorem dX5_allSaid_35 : decode cX5_allSaid 35 = .ok (.ifCond .ne 5, 3) := by decide +kernel
theorem dX5_allSaid_38 : decode cX5_allSaid 38 = .ok (.iconst 0, 1) := by decide +kernel
theorem dX5_allSaid_39 : decode cX5_allSaid 39 = .ok (.istore_n 2, 1) := by decide +kernel
theorem dX5_allSaid_40 : decode cX5_allSaid 40 = .ok (.iinc 3 1, 3) := by decide +kernel
theorem dX5_allSaid_43 : decode cX5_allSaid 43 = .ok (.goto (-39), 3) := by decide +kernel
theorem dX5_allSaid_46 : decode cX5_allSaid 46 = .ok (.iload_n 2, 1) := by decide +kernel
theorem dX5_allSaid_47 : decode cX5_allSaid 47 = .ok (.ireturn, 1) := by decide +kernel
theorem dX5_takesOut_0 : decode cX5_takesOut 0 = .ok (.iconst 4, 1) := by decide +kernel
theorem dX5_takesOut_1 : decode cX5_takesOut 1 = .ok (.iload_n 1, 1) := by decide +kernel
theorem dX5_takesOut_2 : decode cX5_takesOut 2 = .ok (.imul, 1) := by decide +kernel
theorem dX5_takesOut_3 : decode cX5_takesOut 3 = .ok (.istore_n 2, 1) := by decide +kernel
theorem dX5_takesOut_4 : decode cX5_takesOut 4 = .ok (.iload_n 2, 1) := by decide +kernel
theorem dX5_takesOut_5 : decode cX5_takesOut 5 = .ok (.iconst 4, 1) := by decide +kernel
theorem dX5_takesOut_6 : decode cX5_takesOut 6 = .ok (.iadd, 1) := by decide +kernel
theorem dX5_takesOut_7 : decode cX5_takesOut 7 = .ok (.iconst 4, 1) := by decide +kernel
theorem dX5_takesOut_8 : decode cX5_takesOut 8 = .ok (.aload_n 0, 1) := by decide +kernel
theorem dX5_takesOut_9 : decode cX5_takesOut 9 = .ok (.getfield 91, 3) := by decide +kernel
theorem dX5_takesOut_12 : decode cX5_takesOut 12 = .ok (.imul, 1) := by decide +kernel
theorem dX5_takesOut_13 : decode cX5_takesOut 13 = .ok (.if_icmp .ge 23, 3) := by decide +kernel
theorem dX5_takesOut_16 : decode cX5_takesOut 16 = .ok (.aload_n 0, 1) := by decide +kernel
theorem dX5_takesOut_17 : decode cX5_takesOut 17 = .ok (.getfield 72, 3) := by decide +kernel
theorem dX5_takesOut_20 : decode cX5_takesOut 20 = .ok (.iload_n 2, 1) := by decide +kernel
theorem dX5_takesOut_21 : decode cX5_takesOut 21 = .ok (.aload_n 0, 1) := by decide +kernel
theorem dX5_takesOut_22 : decode cX5_takesOut 22 = .ok (.getfield 72, 3) := by decide +kernel
theorem dX5_takesOut_25 : decode cX5_takesOut 25 = .ok (.iload_n 2, 1) := by decide +kernel
theorem dX5_takesOut_26 : decode cX5_takesOut 26 = .ok (.iconst 4, 1) := by decide +kernel
theorem dX5_takesOut_27 : decode cX5_takesOut 27 = .ok (.iadd, 1) := by decide +kernel
theorem dX5_takesOut_28 : decode cX5_takesOut 28 = .ok (.iaload, 1) := by decide +kernel
theorem dX5_takesOut_29 : decode cX5_takesOut 29 = .ok (.iastore, 1) := by decide +kernel
theorem dX5_takesOut_30 : decode cX5_takesOut 30 = .ok (.iinc 2 1, 3) := by decide +kernel
theorem dX5_takesOut_33 : decode cX5_takesOut 33 = .ok (.goto (-29), 3) := by decide +kernel
theorem dX5_takesOut_36 : decode cX5_takesOut 36 = .ok (.aload_n 0, 1) := by decide +kernel
theorem dX5_takesOut_37 : decode cX5_takesOut 37 = .ok (.dup, 1) := by decide +kernel
theorem dX5_takesOut_38 : decode cX5_takesOut 38 = .ok (.getfield 91, 3) := by decide +kernel
theorem dX5_takesOut_41 : decode cX5_takesOut 41 = .ok (.iconst 1, 1) := by decide +kernel
theorem dX5_takesOut_42 : decode cX5_takesOut 42 = .ok (.isub, 1) := by decide +kernel
theorem dX5_takesOut_43 : decode cX5_takesOut 43 = .ok (.putfield 91, 3) := by decide +kernel
theorem dX5_takesOut_46 : decode cX5_takesOut 46 = .ok (.return_, 1) := by decide +kernel
theorem dX5_deliver_0 : decode cX5_deliver 0 = .ok (.aload_n 0, 1) := by decide +kernel
theorem dX5_deliver_1 : decode cX5_deliver 1 = .ok (.iload_n 1, 1) := by decide +kernel
theorem dX5_deliver_2 : decode cX5_deliver 2 = .ok (.ifCond .lt 11, 3) := by decide +kernel
theorem dX5_deliver_5 : decode cX5_deliver 5 = .ok (.iload_n 1, 1) := by decide +kernel
theorem dX5_deliver_6 : decode cX5_deliver 6 = .ok (.aload_n 0, 1) := by decide +kernel
theorem dX5_deliver_7 : decode cX5_deliver 7 = .ok (.getfield 91, 3) := by decide +kernel
theorem dX5_deliver_10 : decode cX5_deliver 10 = .ok (.if_icmp .lt 7, 3) := by decide +kernel
theorem dX5_deliver_13 : decode cX5_deliver 13 = .ok (.iconst 1, 1) := by decide +kernel
theorem dX5_deliver_14 : decode cX5_deliver 14 = .ok (.goto 4, 3) := by decide +kernel
theorem dX5_deliver_17 : decode cX5_deliver 17 = .ok (.iconst 0, 1) := by decide +kernel
theorem dX5_deliver_18 : decode cX5_deliver 18 = .ok (.iconst 1, 1) := by decide +kernel
theorem dX5_deliver_19 : decode cX5_deliver 19 = .ok (.invokevirtual 97, 3) := by decide +kernel
theorem dX5_deliver_22 : decode cX5_deliver 22 = .ok (.ifCond .eq 5, 3) := by decide +kernel
theorem dX5_deliver_25 : decode cX5_deliver 25 = .ok (.iconst 0, 1) := by decide +kernel
theorem dX5_deliver_26 : decode cX5_deliver 26 = .ok (.ireturn, 1) := by decide +kernel
theorem dX5_deliver_27 : decode cX5_deliver 27 = .ok (.aload_n 0, 1) := by decide +kernel
theorem dX5_deliver_28 : decode cX5_deliver 28 = .ok (.getfield 72, 3) := by decide +kernel
theorem dX5_deliver_31 : decode cX5_deliver 31 = .ok (.iconst 4, 1) := by decide +kernel
theorem dX5_deliver_32 : decode cX5_deliver 32 = .ok (.iload_n 1, 1) := by decide +kernel
theorem dX5_deliver_33 : decode cX5_deliver 33 = .ok (.imul, 1) := by decide +kernel
theorem dX5_deliver_34 : decode cX5_deliver 34 = .ok (.iaload, 1) := by decide +kernel
theorem dX5_deliver_35 : decode cX5_deliver 35 = .ok (.istore_n 2, 1) := by decide +kernel
theorem dX5_deliver_36 : decode cX5_deliver 36 = .ok (.aload_n 0, 1) := by decide +kernel
theorem dX5_deliver_37 : decode cX5_deliver 37 = .ok (.getfield 72, 3) := by decide +kernel
theorem dX5_deliver_40 : decode cX5_deliver 40 = .ok (.iconst 4, 1) := by decide +kernel
theorem dX5_deliver_41 : decode cX5_deliver 41 = .ok (.iload_n 1, 1) := by decide +kernel
theorem dX5_deliver_42 : decode cX5_deliver 42 = .ok (.imul, 1) := by decide +kernel
theorem dX5_deliver_43 : decode cX5_deliver 43 = .ok (.iconst 1, 1) := by decide +kernel
theorem dX5_deliver_44 : decode cX5_deliver 44 = .ok (.iadd, 1) := by decide +kernel
theorem dX5_deliver_45 : decode cX5_deliver 45 = .ok (.iaload, 1) := by decide +kernel
theorem dX5_deliver_46 : decode cX5_deliver 46 = .ok (.istore_n 3, 1) := by decide +kernel
theorem dX5_deliver_47 : decode cX5_deliver 47 = .ok (.aload_n 0, 1) := by decide +kernel
theorem dX5_deliver_48 : decode cX5_deliver 48 = .ok (.getfield 72, 3) := by decide +kernel
theorem dX5_deliver_51 : decode cX5_deliver 51 = .ok (.iconst 4, 1) := by decide +kernel
theorem dX5_deliver_52 : decode cX5_deliver 52 = .ok (.iload_n 1, 1) := by decide +kernel
theorem dX5_deliver_53 : decode cX5_deliver 53 = .ok (.imul, 1) := by decide +kernel
theorem dX5_deliver_54 : decode cX5_deliver 54 = .ok (.iconst 2, 1) := by decide +kernel
theorem dX5_deliver_55 : decode cX5_deliver 55 = .ok (.iadd, 1) := by decide +kernel
theorem dX5_deliver_56 : decode cX5_deliver 56 = .ok (.iaload, 1) := by decide +kernel
theorem dX5_deliver_57 : decode cX5_deliver 57 = .ok (.istore 4, 2) := by decide +kernel
theorem dX5_deliver_59 : decode cX5_deliver 59 = .ok (.aload_n 0, 1) := by decide +kernel
theorem dX5_deliver_60 : decode cX5_deliver 60 = .ok (.getfield 72, 3) := by decide +kernel
theorem dX5_deliver_63 : decode cX5_deliver 63 = .ok (.iconst 4, 1) := by decide +kernel
theorem dX5_deliver_64 : decode cX5_deliver 64 = .ok (.iload_n 1, 1) := by decide +kernel
theorem dX5_deliver_65 : decode cX5_deliver 65 = .ok (.imul, 1) := by decide +kernel
theorem dX5_deliver_66 : decode cX5_deliver 66 = .ok (.iconst 3, 1) := by decide +kernel
theorem dX5_deliver_67 : decode cX5_deliver 67 = .ok (.iadd, 1) := by decide +kernel
theorem dX5_deliver_68 : decode cX5_deliver 68 = .ok (.iaload, 1) := by decide +kernel
theorem dX5_deliver_69 : decode cX5_deliver 69 = .ok (.istore 5, 2) := by decide +kernel
theorem dX5_deliver_71 : decode cX5_deliver 71 = .ok (.aload_n 0, 1) := by decide +kernel
theorem dX5_deliver_72 : decode cX5_deliver 72 = .ok (.iload_n 1, 1) := by decide +kernel
theorem dX5_deliver_73 : decode cX5_deliver 73 = .ok (.invokevirtual 153, 3) := by decide +kernel
theorem dX5_deliver_76 : decode cX5_deliver 76 = .ok (.aload_n 0, 1) := by decide +kernel
theorem dX5_deliver_77 : decode cX5_deliver 77 = .ok (.getfield 17, 3) := by decide +kernel
theorem dX5_deliver_80 : decode cX5_deliver 80 = .ok (.iload 4, 2) := by decide +kernel
theorem dX5_deliver_82 : decode cX5_deliver 82 = .ok (.baload, 1) := by decide +kernel
theorem dX5_deliver_83 : decode cX5_deliver 83 = .ok (.ifCond .eq 5, 3) := by decide +kernel
theorem dX5_deliver_86 : decode cX5_deliver 86 = .ok (.iconst 0, 1) := by decide +kernel
theorem dX5_deliver_87 : decode cX5_deliver 87 = .ok (.ireturn, 1) := by decide +kernel
theorem dX5_deliver_88 : decode cX5_deliver 88 = .ok (.iload_n 2, 1) := by decide +kernel
theorem dX5_deliver_89 : decode cX5_deliver 89 = .ok (.iconst 1, 1) := by decide +kernel
theorem dX5_deliver_90 : decode cX5_deliver 90 = .ok (.if_icmp .ne 79, 3) := by decide +kernel
theorem dX5_deliver_93 : decode cX5_deliver 93 = .ok (.aload_n 0, 1) := by decide +kernel
theorem dX5_deliver_94 : decode cX5_deliver 94 = .ok (.getfield 36, 3) := by decide +kernel
theorem dX5_deliver_97 : decode cX5_deliver 97 = .ok (.iconst 5, 1) := by decide +kernel
theorem dX5_deliver_98 : decode cX5_deliver 98 = .ok (.iload 5, 2) := by decide +kernel
theorem dX5_deliver_100 : decode cX5_deliver 100 = .ok (.imul, 1) := by decide +kernel
theorem dX5_deliver_101 : decode cX5_deliver 101 = .ok (.iload 4, 2) := by decide +kernel
theorem dX5_deliver_103 : decode cX5_deliver 103 = .ok (.iadd, 1) := by decide +kernel
theorem dX5_deliver_104 : decode cX5_deliver 104 = .ok (.iaload, 1) := by decide +kernel
theorem dX5_deliver_105 : decode cX5_deliver 105 = .ok (.ifCond .le 5, 3) := by decide +kernel
theorem dX5_deliver_108 : decode cX5_deliver 108 = .ok (.iconst 0, 1) := by decide +kernel
theorem dX5_deliver_109 : decode cX5_deliver 109 = .ok (.ireturn, 1) := by decide +kernel
theorem dX5_deliver_110 : decode cX5_deliver 110 = .ok (.aload_n 0, 1) := by decide +kernel
theorem dX5_deliver_111 : decode cX5_deliver 111 = .ok (.getfield 42, 3) := by decide +kernel
theorem dX5_deliver_114 : decode cX5_deliver 114 = .ok (.iconst 5, 1) := by decide +kernel
theorem dX5_deliver_115 : decode cX5_deliver 115 = .ok (.iload 5, 2) := by decide +kernel
theorem dX5_deliver_117 : decode cX5_deliver 117 = .ok (.imul, 1) := by decide +kernel
theorem dX5_deliver_118 : decode cX5_deliver 118 = .ok (.iload 4, 2) := by decide +kernel
theorem dX5_deliver_120 : decode cX5_deliver 120 = .ok (.iadd, 1) := by decide +kernel
theorem dX5_deliver_121 : decode cX5_deliver 121 = .ok (.baload, 1) := by decide +kernel
theorem dX5_deliver_122 : decode cX5_deliver 122 = .ok (.ifCond .ne 14, 3) := by decide +kernel
theorem dX5_deliver_125 : decode cX5_deliver 125 = .ok (.aload_n 0, 1) := by decide +kernel
theorem dX5_deliver_126 : decode cX5_deliver 126 = .ok (.iload 5, 2) := by decide +kernel
theorem dX5_deliver_128 : decode cX5_deliver 128 = .ok (.iload 4, 2) := by decide +kernel
theorem dX5_deliver_130 : decode cX5_deliver 130 = .ok (.invokevirtual 141, 3) := by decide +kernel
theorem dX5_deliver_133 : decode cX5_deliver 133 = .ok (.ifCond .ne 16, 3) := by decide +kernel
theorem dX5_deliver_136 : decode cX5_deliver 136 = .ok (.aload_n 0, 1) := by decide +kernel
theorem dX5_deliver_137 : decode cX5_deliver 137 = .ok (.iconst 3, 1) := by decide +kernel
theorem dX5_deliver_138 : decode cX5_deliver 138 = .ok (.iload 4, 2) := by decide +kernel
theorem dX5_deliver_140 : decode cX5_deliver 140 = .ok (.iload_n 3, 1) := by decide +kernel
theorem dX5_deliver_141 : decode cX5_deliver 141 = .ok (.iload 5, 2) := by decide +kernel
theorem dX5_deliver_143 : decode cX5_deliver 143 = .ok (.invokevirtual 137, 3) := by decide +kernel
theorem dX5_deliver_146 : decode cX5_deliver 146 = .ok (.goto 21, 3) := by decide +kernel
theorem dX5_deliver_149 : decode cX5_deliver 149 = .ok (.aload_n 0, 1) := by decide +kernel
theorem dX5_deliver_150 : decode cX5_deliver 150 = .ok (.iload 5, 2) := by decide +kernel
theorem dX5_deliver_152 : decode cX5_deliver 152 = .ok (.iload 4, 2) := by decide +kernel
theorem dX5_deliver_154 : decode cX5_deliver 154 = .ok (.invokevirtual 147, 3) := by decide +kernel
theorem dX5_deliver_157 : decode cX5_deliver 157 = .ok (.aload_n 0, 1) := by decide +kernel
theorem dX5_deliver_158 : decode cX5_deliver 158 = .ok (.iconst 2, 1) := by decide +kernel
theorem dX5_deliver_159 : decode cX5_deliver 159 = .ok (.iload 4, 2) := by decide +kernel
theorem dX5_deliver_161 : decode cX5_deliver 161 = .ok (.iload_n 3, 1) := by decide +kernel
theorem dX5_deliver_162 : decode cX5_deliver 162 = .ok (.iload 5, 2) := by decide +kernel
theorem dX5_deliver_164 : decode cX5_deliver 164 = .ok (.invokevirtual 137, 3) := by decide +kernel
theorem dX5_deliver_167 : decode cX5_deliver 167 = .ok (.iconst 0, 1) := by decide +kernel
theorem dX5_deliver_168 : decode cX5_deliver 168 = .ok (.ireturn, 1) := by decide +kernel
theorem dX5_deliver_169 : decode cX5_deliver 169 = .ok (.iload_n 2, 1) := by decide +kernel
theorem dX5_deliver_170 : decode cX5_deliver 170 = .ok (.iconst 2, 1) := by decide +kernel
theorem dX5_deliver_171 : decode cX5_deliver 171 = .ok (.if_icmp .eq 8, 3) := by decide +kernel
theorem dX5_deliver_174 : decode cX5_deliver 174 = .ok (.iload_n 2, 1) := by decide +kernel
theorem dX5_deliver_175 : decode cX5_deliver 175 = .ok (.iconst 3, 1) := by decide +kernel
theorem dX5_deliver_176 : decode cX5_deliver 176 = .ok (.if_icmp .ne 75, 3) := by decide +kernel
theorem dX5_deliver_179 : decode cX5_deliver 179 = .ok (.aload_n 0, 1) := by decide +kernel
theorem dX5_deliver_180 : decode cX5_deliver 180 = .ok (.getfield 27, 3) := by decide +kernel
theorem dX5_deliver_183 : decode cX5_deliver 183 = .ok (.iload 5, 2) := by decide +kernel
theorem dX5_deliver_185 : decode cX5_deliver 185 = .ok (.iaload, 1) := by decide +kernel
theorem dX5_deliver_186 : decode cX5_deliver 186 = .ok (.iconst 1, 1) := by decide +kernel
theorem dX5_deliver_187 : decode cX5_deliver 187 = .ok (.if_icmp .eq 5, 3) := by decide +kernel
theorem dX5_deliver_190 : decode cX5_deliver 190 = .ok (.iconst 0, 1) := by decide +kernel
theorem dX5_deliver_191 : decode cX5_deliver 191 = .ok (.ireturn, 1) := by decide +kernel
theorem dX5_deliver_192 : decode cX5_deliver 192 = .ok (.iload_n 2, 1) := by decide +kernel
theorem dX5_deliver_193 : decode cX5_deliver 193 = .ok (.iconst 3, 1) := by decide +kernel
theorem dX5_deliver_194 : decode cX5_deliver 194 = .ok (.if_icmp .ne 19, 3) := by decide +kernel
theorem dX5_deliver_197 : decode cX5_deliver 197 = .ok (.aload_n 0, 1) := by decide +kernel
theorem dX5_deliver_198 : decode cX5_deliver 198 = .ok (.getfield 27, 3) := by decide +kernel
theorem dX5_deliver_201 : decode cX5_deliver 201 = .ok (.iload 5, 2) := by decide +kernel
theorem dX5_deliver_203 : decode cX5_deliver 203 = .ok (.iconst 3, 1) := by decide +kernel
theorem dX5_deliver_204 : decode cX5_deliver 204 = .ok (.iastore, 1) := by decide +kernel
theorem dX5_deliver_205 : decode cX5_deliver 205 = .ok (.aload_n 0, 1) := by decide +kernel
theorem dX5_deliver_206 : decode cX5_deliver 206 = .ok (.iload 5, 2) := by decide +kernel
theorem dX5_deliver_208 : decode cX5_deliver 208 = .ok (.invokevirtual 156, 3) := by decide +kernel
theorem dX5_deliver_211 : decode cX5_deliver 211 = .ok (.iconst 0, 1) := by decide +kernel
theorem dX5_deliver_212 : decode cX5_deliver 212 = .ok (.ireturn, 1) := by decide +kernel
theorem dX5_deliver_213 : decode cX5_deliver 213 = .ok (.aload_n 0, 1) := by decide +kernel
theorem dX5_deliver_214 : decode cX5_deliver 214 = .ok (.getfield 48, 3) := by decide +kernel
theorem dX5_deliver_217 : decode cX5_deliver 217 = .ok (.iconst 5, 1) := by decide +kernel
theorem dX5_deliver_218 : decode cX5_deliver 218 = .ok (.iload 5, 2) := by decide +kernel
theorem dX5_deliver_220 : decode cX5_deliver 220 = .ok (.imul, 1) := by decide +kernel
theorem dX5_deliver_221 : decode cX5_deliver 221 = .ok (.iload_n 3, 1) := by decide +kernel
theorem dX5_deliver_222 : decode cX5_deliver 222 = .ok (.iadd, 1) := by decide +kernel
theorem dX5_deliver_223 : decode cX5_deliver 223 = .ok (.iconst 1, 1) := by decide +kernel
theorem dX5_deliver_224 : decode cX5_deliver 224 = .ok (.bastore, 1) := by decide +kernel
theorem dX5_deliver_225 : decode cX5_deliver 225 = .ok (.aload_n 0, 1) := by decide +kernel
theorem dX5_deliver_226 : decode cX5_deliver 226 = .ok (.iload 5, 2) := by decide +kernel
theorem dX5_deliver_228 : decode cX5_deliver 228 = .ok (.invokevirtual 159, 3) := by decide +kernel
theorem dX5_deliver_231 : decode cX5_deliver 231 = .ok (.ifCond .ne 5, 3) := by decide +kernel
theorem dX5_deliver_234 : decode cX5_deliver 234 = .ok (.iconst 0, 1) := by decide +kernel
theorem dX5_deliver_235 : decode cX5_deliver 235 = .ok (.ireturn, 1) := by decide +kernel
theorem dX5_deliver_236 : decode cX5_deliver 236 = .ok (.aload_n 0, 1) := by decide +kernel
theorem dX5_deliver_237 : decode cX5_deliver 237 = .ok (.iload 5, 2) := by decide +kernel
theorem dX5_deliver_239 : decode cX5_deliver 239 = .ok (.invokevirtual 144, 3) := by decide +kernel
theorem dX5_deliver_242 : decode cX5_deliver 242 = .ok (.iconst 1, 1) := by decide +kernel
theorem dX5_deliver_243 : decode cX5_deliver 243 = .ok (.aload_n 0, 1) := by decide +kernel
theorem dX5_deliver_244 : decode cX5_deliver 244 = .ok (.iload 4, 2) := by decide +kernel
theorem dX5_deliver_246 : decode cX5_deliver 246 = .ok (.invokevirtual 162, 3) := by decide +kernel
theorem dX5_deliver_249 : decode cX5_deliver 249 = .ok (.iadd, 1) := by decide +kernel
theorem dX5_deliver_250 : decode cX5_deliver 250 = .ok (.ireturn, 1) := by decide +kernel
theorem dX5_deliver_251 : decode cX5_deliver 251 = .ok (.iload_n 2, 1) := by decide +kernel
theorem dX5_deliver_252 : decode cX5_deliver 252 = .ok (.iconst 4, 1) := by decide +kernel
theorem dX5_deliver_253 : decode cX5_deliver 253 = .ok (.if_icmp .ne 26, 3) := by decide +kernel
theorem dX5_deliver_256 : decode cX5_deliver 256 = .ok (.aload_n 0, 1) := by decide +kernel
theorem dX5_deliver_257 : decode cX5_deliver 257 = .ok (.getfield 42, 3) := by decide +kernel
theorem dX5_deliver_260 : decode cX5_deliver 260 = .ok (.iconst 5, 1) := by decide +kernel
theorem dX5_deliver_261 : decode cX5_deliver 261 = .ok (.iload 5, 2) := by decide +kernel
theorem dX5_deliver_263 : decode cX5_deliver 263 = .ok (.imul, 1) := by decide +kernel
theorem dX5_deliver_264 : decode cX5_deliver 264 = .ok (.iload 4, 2) := by decide +kernel
theorem dX5_deliver_266 : decode cX5_deliver 266 = .ok (.iadd, 1) := by decide +kernel
theorem dX5_deliver_267 : decode cX5_deliver 267 = .ok (.iconst 1, 1) := by decide +kernel
theorem dX5_deliver_268 : decode cX5_deliver 268 = .ok (.bastore, 1) := by decide +kernel
theorem dX5_deliver_269 : decode cX5_deliver 269 = .ok (.aload_n 0, 1) := by decide +kernel
theorem dX5_deliver_270 : decode cX5_deliver 270 = .ok (.iload 5, 2) := by decide +kernel
theorem dX5_deliver_272 : decode cX5_deliver 272 = .ok (.iload 4, 2) := by decide +kernel
theorem dX5_deliver_274 : decode cX5_deliver 274 = .ok (.invokevirtual 130, 3) := by decide +kernel
theorem dX5_deliver_277 : decode cX5_deliver 277 = .ok (.iconst 0, 1) := by decide +kernel
theorem dX5_deliver_278 : decode cX5_deliver 278 = .ok (.ireturn, 1) := by decide +kernel
theorem dX5_deliver_279 : decode cX5_deliver 279 = .ok (.aload_n 0, 1) := by decide +kernel
theorem dX5_deliver_280 : decode cX5_deliver 280 = .ok (.getfield 36, 3) := by decide +kernel
theorem dX5_deliver_283 : decode cX5_deliver 283 = .ok (.iconst 5, 1) := by decide +kernel
theorem dX5_deliver_284 : decode cX5_deliver 284 = .ok (.iload 5, 2) := by decide +kernel
theorem dX5_deliver_286 : decode cX5_deliver 286 = .ok (.imul, 1) := by decide +kernel
theorem dX5_deliver_287 : decode cX5_deliver 287 = .ok (.iload 4, 2) := by decide +kernel
theorem dX5_deliver_289 : decode cX5_deliver 289 = .ok (.iadd, 1) := by decide +kernel
theorem dX5_deliver_290 : decode cX5_deliver 290 = .ok (.iaload, 1) := by decide +kernel
theorem dX5_deliver_291 : decode cX5_deliver 291 = .ok (.ifCond .ne 16, 3) := by decide +kernel
theorem dX5_deliver_294 : decode cX5_deliver 294 = .ok (.aload_n 0, 1) := by decide +kernel
theorem dX5_deliver_295 : decode cX5_deliver 295 = .ok (.getfield 39, 3) := by decide +kernel
theorem dX5_deliver_298 : decode cX5_deliver 298 = .ok (.iconst 5, 1) := by decide +kernel
theorem dX5_deliver_299 : decode cX5_deliver 299 = .ok (.iload 5, 2) := by decide +kernel
theorem dX5_deliver_301 : decode cX5_deliver 301 = .ok (.imul, 1) := by decide +kernel
theorem dX5_deliver_302 : decode cX5_deliver 302 = .ok (.iload 4, 2) := by decide +kernel
theorem dX5_deliver_304 : decode cX5_deliver 304 = .ok (.iadd, 1) := by decide +kernel
theorem dX5_deliver_305 : decode cX5_deliver 305 = .ok (.iconst 1, 1) := by decide +kernel
theorem dX5_deliver_306 : decode cX5_deliver 306 = .ok (.bastore, 1) := by decide +kernel
theorem dX5_deliver_307 : decode cX5_deliver 307 = .ok (.aload_n 0, 1) := by decide +kernel
theorem dX5_deliver_308 : decode cX5_deliver 308 = .ok (.iload 4, 2) := by decide +kernel
theorem dX5_deliver_310 : decode cX5_deliver 310 = .ok (.invokevirtual 162, 3) := by decide +kernel
theorem dX5_deliver_313 : decode cX5_deliver 313 = .ok (.ireturn, 1) := by decide +kernel
theorem dX5_drop_0 : decode cX5_drop 0 = .ok (.aload_n 0, 1) := by decide +kernel
theorem dX5_drop_1 : decode cX5_drop 1 = .ok (.iload_n 1, 1) := by decide +kernel
theorem dX5_drop_2 : decode cX5_drop 2 = .ok (.ifCond .lt 11, 3) := by decide +kernel
theorem dX5_drop_5 : decode cX5_drop 5 = .ok (.iload_n 1, 1) := by decide +kernel
theorem dX5_drop_6 : decode cX5_drop 6 = .ok (.aload_n 0, 1) := by decide +kernel
theorem dX5_drop_7 : decode cX5_drop 7 = .ok (.getfield 91, 3) := by decide +kernel
theorem dX5_drop_10 : decode cX5_drop 10 = .ok (.if_icmp .lt 7, 3) := by decide +kernel
theorem dX5_drop_13 : decode cX5_drop 13 = .ok (.iconst 1, 1) := by decide +kernel
theorem dX5_drop_14 : decode cX5_drop 14 = .ok (.goto 4, 3) := by decide +kernel
theorem dX5_drop_17 : decode cX5_drop 17 = .ok (.iconst 0, 1) := by decide +kernel
theorem dX5_drop_18 : decode cX5_drop 18 = .ok (.iconst 1, 1) := by decide +kernel
theorem dX5_drop_19 : decode cX5_drop 19 = .ok (.invokevirtual 97, 3) := by decide +kernel
theorem dX5_drop_22 : decode cX5_drop 22 = .ok (.ifCond .eq 5, 3) := by decide +kernel
theorem dX5_drop_25 : decode cX5_drop 25 = .ok (.iconst 0, 1) := by decide +kernel
theorem dX5_drop_26 : decode cX5_drop 26 = .ok (.ireturn, 1) := by decide +kernel
theorem dX5_drop_27 : decode cX5_drop 27 = .ok (.aload_n 0, 1) := by decide +kernel
theorem dX5_drop_28 : decode cX5_drop 28 = .ok (.getfield 72, 3) := by decide +kernel
theorem dX5_drop_31 : decode cX5_drop 31 = .ok (.iconst 4, 1) := by decide +kernel
theorem dX5_drop_32 : decode cX5_drop 32 = .ok (.iload_n 1, 1) := by decide +kernel
theorem dX5_drop_33 : decode cX5_drop 33 = .ok (.imul, 1) := by decide +kernel
theorem dX5_drop_34 : decode cX5_drop 34 = .ok (.iaload, 1) := by decide +kernel
theorem dX5_drop_35 : decode cX5_drop 35 = .ok (.istore_n 2, 1) := by decide +kernel
theorem dX5_drop_36 : decode cX5_drop 36 = .ok (.aload_n 0, 1) := by decide +kernel
theorem dX5_drop_37 : decode cX5_drop 37 = .ok (.iload_n 1, 1) := by decide +kernel
theorem dX5_drop_38 : decode cX5_drop 38 = .ok (.invokevirtual 153, 3) := by decide +kernel
theorem dX5_drop_41 : decode cX5_drop 41 = .ok (.iload_n 2, 1) := by decide +kernel
theorem dX5_drop_42 : decode cX5_drop 42 = .ok (.ireturn, 1) := by decide +kernel
theorem dX5_copy_0 : decode cX5_copy 0 = .ok (.aload_n 0, 1) := by decide +kernel
theorem dX5_copy_1 : decode cX5_copy 1 = .ok (.iload_n 1, 1) := by decide +kernel
theorem dX5_copy_2 : decode cX5_copy 2 = .ok (.ifCond .lt 11, 3) := by decide +kernel
theorem dX5_copy_5 : decode cX5_copy 5 = .ok (.iload_n 1, 1) := by decide +kernel
theorem dX5_copy_6 : decode cX5_copy 6 = .ok (.aload_n 0, 1) := by decide +kernel
theorem dX5_copy_7 : decode cX5_copy 7 = .ok (.getfield 91, 3) := by decide +kernel
theorem dX5_copy_10 : decode cX5_copy 10 = .ok (.if_icmp .lt 7, 3) := by decide +kernel
theorem dX5_copy_13 : decode cX5_copy 13 = .ok (.iconst 1, 1) := by decide +kernel
theorem dX5_copy_14 : decode cX5_copy 14 = .ok (.goto 4, 3) := by decide +kernel
theorem dX5_copy_17 : decode cX5_copy 17 = .ok (.iconst 0, 1) := by decide +kernel
theorem dX5_copy_18 : decode cX5_copy 18 = .ok (.iconst 1, 1) := by decide +kernel
theorem dX5_copy_19 : decode cX5_copy 19 = .ok (.invokevirtual 97, 3) := by decide +kernel
theorem dX5_copy_22 : decode cX5_copy 22 = .ok (.ifCond .eq 5, 3) := by decide +kernel
theorem dX5_copy_25 : decode cX5_copy 25 = .ok (.iconst 0, 1) := by decide +kernel
theorem dX5_copy_26 : decode cX5_copy 26 = .ok (.ireturn, 1) := by decide +kernel
theorem dX5_copy_27 : decode cX5_copy 27 = .ok (.aload_n 0, 1) := by decide +kernel
theorem dX5_copy_28 : decode cX5_copy 28 = .ok (.getfield 91, 3) := by decide +kernel
theorem dX5_copy_31 : decode cX5_copy 31 = .ok (.sipush 300, 3) := by decide +kernel
theorem dX5_copy_34 : decode cX5_copy 34 = .ok (.if_icmp .ne 5, 3) := by decide +kernel
theorem dX5_copy_37 : decode cX5_copy 37 = .ok (.iconst 0, 1) := by decide +kernel
theorem dX5_copy_38 : decode cX5_copy 38 = .ok (.ireturn, 1) := by decide +kernel
theorem dX5_copy_39 : decode cX5_copy 39 = .ok (.iconst 0, 1) := by decide +kernel
theorem dX5_copy_40 : decode cX5_copy 40 = .ok (.istore_n 2, 1) := by decide +kernel
theorem dX5_copy_41 : decode cX5_copy 41 = .ok (.iload_n 2, 1) := by decide +kernel
theorem dX5_copy_42 : decode cX5_copy 42 = .ok (.iconst 4, 1) := by decide +kernel
theorem dX5_copy_43 : decode cX5_copy 43 = .ok (.if_icmp .ge 32, 3) := by decide +kernel
theorem dX5_copy_46 : decode cX5_copy 46 = .ok (.aload_n 0, 1) := by decide +kernel
theorem dX5_copy_47 : decode cX5_copy 47 = .ok (.getfield 72, 3) := by decide +kernel
theorem dX5_copy_50 : decode cX5_copy 50 = .ok (.iconst 4, 1) := by decide +kernel
theorem dX5_copy_51 : decode cX5_copy 51 = .ok (.aload_n 0, 1) := by decide +kernel
theorem dX5_copy_52 : decode cX5_copy 52 = .ok (.getfield 91, 3) := by decide +kernel
theorem dX5_copy_55 : decode cX5_copy 55 = .ok (.imul, 1) := by decide +kernel
theorem dX5_copy_56 : decode cX5_copy 56 = .ok (.iload_n 2, 1) := by decide +kernel
theorem dX5_copy_57 : decode cX5_copy 57 = .ok (.iadd, 1) := by decide +kernel
theorem dX5_copy_58 : decode cX5_copy 58 = .ok (.aload_n 0, 1) := by decide +kernel
theorem dX5_copy_59 : decode cX5_copy 59 = .ok (.getfield 72, 3) := by decide +kernel
theorem dX5_copy_62 : decode cX5_copy 62 = .ok (.iconst 4, 1) := by decide +kernel
theorem dX5_copy_63 : decode cX5_copy 63 = .ok (.iload_n 1, 1) := by decide +kernel
theorem dX5_copy_64 : decode cX5_copy 64 = .ok (.imul, 1) := by decide +kernel
theorem dX5_copy_65 : decode cX5_copy 65 = .ok (.iload_n 2, 1) := by decide +kernel
theorem dX5_copy_66 : decode cX5_copy 66 = .ok (.iadd, 1) := by decide +kernel
theorem dX5_copy_67 : decode cX5_copy 67 = .ok (.iaload, 1) := by decide +kernel
theorem dX5_copy_68 : decode cX5_copy 68 = .ok (.iastore, 1) := by decide +kernel
theorem dX5_copy_69 : decode cX5_copy 69 = .ok (.iinc 2 1, 3) := by decide +kernel
theorem dX5_copy_72 : decode cX5_copy 72 = .ok (.goto (-31), 3) := by decide +kernel
theorem dX5_copy_75 : decode cX5_copy 75 = .ok (.aload_n 0, 1) := by decide +kernel
theorem dX5_copy_76 : decode cX5_copy 76 = .ok (.dup, 1) := by decide +kernel
theorem dX5_copy_77 : decode cX5_copy 77 = .ok (.getfield 91, 3) := by decide +kernel
theorem dX5_copy_80 : decode cX5_copy 80 = .ok (.iconst 1, 1) := by decide +kernel
theorem dX5_copy_81 : decode cX5_copy 81 = .ok (.iadd, 1) := by decide +kernel
theorem dX5_copy_82 : decode cX5_copy 82 = .ok (.putfield 91, 3) := by decide +kernel
theorem dX5_copy_85 : decode cX5_copy 85 = .ok (.iconst 1, 1) := by decide +kernel
theorem dX5_copy_86 : decode cX5_copy 86 = .ok (.ireturn, 1) := by decide +kernel
theorem dX5_put_0 : decode cX5_put 0 = .ok (.aload_n 0, 1) := by decide +kernel
theorem dX5_put_1 : decode cX5_put 1 = .ok (.getfield 75, 3) := by decide +kernel
theorem dX5_put_4 : decode cX5_put 4 = .ok (.aload_n 0, 1) := by decide +kernel
theorem dX5_put_5 : decode cX5_put 5 = .ok (.getfield 165, 3) := by decide +kernel
theorem dX5_put_8 : decode cX5_put 8 = .ok (.iload_n 1, 1) := by decide +kernel
theorem dX5_put_9 : decode cX5_put 9 = .ok (.sipush 255, 3) := by decide +kernel
theorem dX5_put_12 : decode cX5_put 12 = .ok (.iand, 1) := by decide +kernel
theorem dX5_put_13 : decode cX5_put 13 = .ok (.iastore, 1) := by decide +kernel
theorem dX5_put_14 : decode cX5_put 14 = .ok (.aload_n 0, 1) := by decide +kernel
theorem dX5_put_15 : decode cX5_put 15 = .ok (.dup, 1) := by decide +kernel
theorem dX5_put_16 : decode cX5_put 16 = .ok (.getfield 165, 3) := by decide +kernel
theorem dX5_put_19 : decode cX5_put 19 = .ok (.iconst 1, 1) := by decide +kernel
theorem dX5_put_20 : decode cX5_put 20 = .ok (.iadd, 1) := by decide +kernel
theorem dX5_put_21 : decode cX5_put 21 = .ok (.putfield 165, 3) := by decide +kernel
theorem dX5_put_24 : decode cX5_put 24 = .ok (.return_, 1) := by decide +kernel
theorem dX5_putTwo_0 : decode cX5_putTwo 0 = .ok (.aload_n 0, 1) := by decide +kernel
theorem dX5_putTwo_1 : decode cX5_putTwo 1 = .ok (.iload_n 1, 1) := by decide +kernel
theorem dX5_putTwo_2 : decode cX5_putTwo 2 = .ok (.bipush 8, 2) := by decide +kernel
theorem dX5_putTwo_4 : decode cX5_putTwo 4 = .ok (.ishr, 1) := by decide +kernel
theorem dX5_putTwo_5 : decode cX5_putTwo 5 = .ok (.invokevirtual 168, 3) := by decide +kernel
theorem dX5_putTwo_8 : decode cX5_putTwo 8 = .ok (.aload_n 0, 1) := by decide +kernel
theorem dX5_putTwo_9 : decode cX5_putTwo 9 = .ok (.iload_n 1, 1) := by decide +kernel
theorem dX5_putTwo_10 : decode cX5_putTwo 10 = .ok (.invokevirtual 168, 3) := by decide +kernel
theorem dX5_putTwo_13 : decode cX5_putTwo 13 = .ok (.return_, 1) := by decide +kernel
theorem dX5_putStart_0 : decode cX5_putStart 0 = .ok (.iconst 0, 1) := by decide +kernel
theorem dX5_putStart_1 : decode cX5_putStart 1 = .ok (.istore_n 2, 1) := by decide +kernel
theorem dX5_putStart_2 : decode cX5_putStart 2 = .ok (.iload_n 2, 1) := by decide +kernel
theorem dX5_putStart_3 : decode cX5_putStart 3 = .ok (.aload_n 0, 1) := by decide +kernel
theorem dX5_putStart_4 : decode cX5_putStart 4 = .ok (.getfield 7, 3) := by decide +kernel
theorem dX5_putStart_7 : decode cX5_putStart 7 = .ok (.if_icmp .ge 23, 3) := by decide +kernel
theorem dX5_putStart_10 : decode cX5_putStart 10 = .ok (.aload_n 0, 1) := by decide +kernel
theorem dX5_putStart_11 : decode cX5_putStart 11 = .ok (.aload_n 0, 1) := by decide +kernel
theorem dX5_putStart_12 : decode cX5_putStart 12 = .ok (.getfield 33, 3) := by decide +kernel
theorem dX5_putStart_15 : decode cX5_putStart 15 = .ok (.iconst 5, 1) := by decide +kernel
theorem dX5_putStart_16 : decode cX5_putStart 16 = .ok (.iload_n 1, 1) := by decide +kernel
theorem dX5_putStart_17 : decode cX5_putStart 17 = .ok (.imul, 1) := by decide +kernel
theorem dX5_putStart_18 : decode cX5_putStart 18 = .ok (.iload_n 2, 1) := by decide +kernel
theorem dX5_putStart_19 : decode cX5_putStart 19 = .ok (.iadd, 1) := by decide +kernel
theorem dX5_putStart_20 : decode cX5_putStart 20 = .ok (.iaload, 1) := by decide +kernel
theorem dX5_putStart_21 : decode cX5_putStart 21 = .ok (.invokevirtual 171, 3) := by decide +kernel
theorem dX5_putStart_24 : decode cX5_putStart 24 = .ok (.iinc 2 1, 3) := by decide +kernel
theorem dX5_putStart_27 : decode cX5_putStart 27 = .ok (.goto (-25), 3) := by decide +kernel
theorem dX5_putStart_30 : decode cX5_putStart 30 = .ok (.return_, 1) := by decide +kernel
theorem dX5_byteOf_0 : decode cX5_byteOf 0 = .ok (.aload_n 0, 1) := by decide +kernel
theorem dX5_byteOf_1 : decode cX5_byteOf 1 = .ok (.iload_n 1, 1) := by decide +kernel
theorem dX5_byteOf_2 : decode cX5_byteOf 2 = .ok (.ifCond .lt 11, 3) := by decide +kernel
theorem dX5_byteOf_5 : decode cX5_byteOf 5 = .ok (.iload_n 1, 1) := by decide +kernel
theorem dX5_byteOf_6 : decode cX5_byteOf 6 = .ok (.aload_n 0, 1) := by decide +kernel
theorem dX5_byteOf_7 : decode cX5_byteOf 7 = .ok (.getfield 91, 3) := by decide +kernel
theorem dX5_byteOf_10 : decode cX5_byteOf 10 = .ok (.if_icmp .lt 7, 3) := by decide +kernel
theorem dX5_byteOf_13 : decode cX5_byteOf 13 = .ok (.iconst 1, 1) := by decide +kernel
theorem dX5_byteOf_14 : decode cX5_byteOf 14 = .ok (.goto 4, 3) := by decide +kernel
theorem dX5_byteOf_17 : decode cX5_byteOf 17 = .ok (.iconst 0, 1) := by decide +kernel
theorem dX5_byteOf_18 : decode cX5_byteOf 18 = .ok (.iconst 1, 1) := by decide +kernel
theorem dX5_byteOf_19 : decode cX5_byteOf 19 = .ok (.invokevirtual 97, 3) := by decide +kernel
theorem dX5_byteOf_22 : decode cX5_byteOf 22 = .ok (.ifCond .eq 5, 3) := by decide +kernel
theorem dX5_byteOf_25 : decode cX5_byteOf 25 = .ok (.iconst 0, 1) := by decide +kernel
theorem dX5_byteOf_26 : decode cX5_byteOf 26 = .ok (.ireturn, 1) := by decide +kernel
theorem dX5_byteOf_27 : decode cX5_byteOf 27 = .ok (.aload_n 0, 1) := by decide +kernel
theorem dX5_byteOf_28 : decode cX5_byteOf 28 = .ok (.getfield 72, 3) := by decide +kernel
theorem dX5_byteOf_31 : decode cX5_byteOf 31 = .ok (.iconst 4, 1) := by decide +kernel
theorem dX5_byteOf_32 : decode cX5_byteOf 32 = .ok (.iload_n 1, 1) := by decide +kernel
theorem dX5_byteOf_33 : decode cX5_byteOf 33 = .ok (.imul, 1) := by decide +kernel
theorem dX5_byteOf_34 : decode cX5_byteOf 34 = .ok (.iaload, 1) := by decide +kernel
theorem dX5_byteOf_35 : decode cX5_byteOf 35 = .ok (.istore_n 3, 1) := by decide +kernel
theorem dX5_byteOf_36 : decode cX5_byteOf 36 = .ok (.aload_n 0, 1) := by decide +kernel
theorem dX5_byteOf_37 : decode cX5_byteOf 37 = .ok (.getfield 72, 3) := by decide +kernel
theorem dX5_byteOf_40 : decode cX5_byteOf 40 = .ok (.iconst 4, 1) := by decide +kernel
theorem dX5_byteOf_41 : decode cX5_byteOf 41 = .ok (.iload_n 1, 1) := by decide +kernel
theorem dX5_byteOf_42 : decode cX5_byteOf 42 = .ok (.imul, 1) := by decide +kernel
theorem dX5_byteOf_43 : decode cX5_byteOf 43 = .ok (.iconst 2, 1) := by decide +kernel
theorem dX5_byteOf_44 : decode cX5_byteOf 44 = .ok (.iadd, 1) := by decide +kernel
theorem dX5_byteOf_45 : decode cX5_byteOf 45 = .ok (.iaload, 1) := by decide +kernel
theorem dX5_byteOf_46 : decode cX5_byteOf 46 = .ok (.istore 4, 2) := by decide +kernel
theorem dX5_byteOf_48 : decode cX5_byteOf 48 = .ok (.aload_n 0, 1) := by decide +kernel
theorem dX5_byteOf_49 : decode cX5_byteOf 49 = .ok (.getfield 72, 3) := by decide +kernel
theorem dX5_byteOf_52 : decode cX5_byteOf 52 = .ok (.iconst 4, 1) := by decide +kernel
theorem dX5_byteOf_53 : decode cX5_byteOf 53 = .ok (.iload_n 1, 1) := by decide +kernel
theorem dX5_byteOf_54 : decode cX5_byteOf 54 = .ok (.imul, 1) := by decide +kernel
theorem dX5_byteOf_55 : decode cX5_byteOf 55 = .ok (.iconst 3, 1) := by decide +kernel
theorem dX5_byteOf_56 : decode cX5_byteOf 56 = .ok (.iadd, 1) := by decide +kernel
theorem dX5_byteOf_57 : decode cX5_byteOf 57 = .ok (.iaload, 1) := by decide +kernel
theorem dX5_byteOf_58 : decode cX5_byteOf 58 = .ok (.istore 5, 2) := by decide +kernel
theorem dX5_byteOf_60 : decode cX5_byteOf 60 = .ok (.aload_n 0, 1) := by decide +kernel
theorem dX5_byteOf_61 : decode cX5_byteOf 61 = .ok (.iconst 0, 1) := by decide +kernel
theorem dX5_byteOf_62 : decode cX5_byteOf 62 = .ok (.putfield 165, 3) := by decide +kernel
theorem dX5_byteOf_65 : decode cX5_byteOf 65 = .ok (.aload_n 0, 1) := by decide +kernel
theorem dX5_byteOf_66 : decode cX5_byteOf 66 = .ok (.iload_n 3, 1) := by decide +kernel
theorem dX5_byteOf_67 : decode cX5_byteOf 67 = .ok (.invokevirtual 168, 3) := by decide +kernel
theorem dX5_byteOf_70 : decode cX5_byteOf 70 = .ok (.aload_n 0, 1) := by decide +kernel
theorem dX5_byteOf_71 : decode cX5_byteOf 71 = .ok (.aload_n 0, 1) := by decide +kernel
theorem dX5_byteOf_72 : decode cX5_byteOf 72 = .ok (.getfield 72, 3) := by decide +kernel
theorem dX5_byteOf_75 : decode cX5_byteOf 75 = .ok (.iconst 4, 1) := by decide +kernel
theorem dX5_byteOf_76 : decode cX5_byteOf 76 = .ok (.iload_n 1, 1) := by decide +kernel
theorem dX5_byteOf_77 : decode cX5_byteOf 77 = .ok (.imul, 1) := by decide +kernel
theorem dX5_byteOf_78 : decode cX5_byteOf 78 = .ok (.iconst 1, 1) := by decide +kernel
theorem dX5_byteOf_79 : decode cX5_byteOf 79 = .ok (.iadd, 1) := by decide +kernel
theorem dX5_byteOf_80 : decode cX5_byteOf 80 = .ok (.iaload, 1) := by decide +kernel
theorem dX5_byteOf_81 : decode cX5_byteOf 81 = .ok (.invokevirtual 168, 3) := by decide +kernel
theorem dX5_byteOf_84 : decode cX5_byteOf 84 = .ok (.aload_n 0, 1) := by decide +kernel
theorem dX5_byteOf_85 : decode cX5_byteOf 85 = .ok (.iload 4, 2) := by decide +kernel
theorem dX5_byteOf_87 : decode cX5_byteOf 87 = .ok (.invokevirtual 168, 3) := by decide +kernel
theorem dX5_byteOf_90 : decode cX5_byteOf 90 = .ok (.aload_n 0, 1) := by decide +kernel
theorem dX5_byteOf_91 : decode cX5_byteOf 91 = .ok (.iload 5, 2) := by decide +kernel
theorem dX5_byteOf_93 : decode cX5_byteOf 93 = .ok (.invokevirtual 171, 3) := by decide +kernel
theorem dX5_byteOf_96 : decode cX5_byteOf 96 = .ok (.iload_n 3, 1) := by decide +kernel
theorem dX5_byteOf_97 : decode cX5_byteOf 97 = .ok (.iconst 1, 1) := by decide +kernel
theorem dX5_byteOf_98 : decode cX5_byteOf 98 = .ok (.if_icmp .eq 8, 3) := by decide +kernel
theorem dX5_byteOf_101 : decode cX5_byteOf 101 = .ok (.iload_n 3, 1) := by decide +kernel
theorem dX5_byteOf_102 : decode cX5_byteOf 102 = .ok (.iconst 5, 1) := by decide +kernel
theorem dX5_byteOf_103 : decode cX5_byteOf 103 = .ok (.if_icmp .ne 9, 3) := by decide +kernel
theorem dX5_byteOf_106 : decode cX5_byteOf 106 = .ok (.aload_n 0, 1) := by decide +kernel
theorem dX5_byteOf_107 : decode cX5_byteOf 107 = .ok (.iload 5, 2) := by decide +kernel
theorem dX5_byteOf_109 : decode cX5_byteOf 109 = .ok (.invokevirtual 174, 3) := by decide +kernel
theorem dX5_byteOf_112 : decode cX5_byteOf 112 = .ok (.iload_n 3, 1) := by decide +kernel
theorem dX5_byteOf_113 : decode cX5_byteOf 113 = .ok (.iconst 5, 1) := by decide +kernel
theorem dX5_byteOf_114 : decode cX5_byteOf 114 = .ok (.if_icmp .ne 14, 3) := by decide +kernel
theorem dX5_byteOf_117 : decode cX5_byteOf 117 = .ok (.aload_n 0, 1) := by decide +kernel
theorem dX5_byteOf_118 : decode cX5_byteOf 118 = .ok (.aload_n 0, 1) := by decide +kernel
theorem dX5_byteOf_119 : decode cX5_byteOf 119 = .ok (.getfield 30, 3) := by decide +kernel
theorem dX5_byteOf_122 : decode cX5_byteOf 122 = .ok (.iload 5, 2) := by decide +kernel
theorem dX5_byteOf_124 : decode cX5_byteOf 124 = .ok (.iaload, 1) := by decide +kernel
theorem dX5_byteOf_125 : decode cX5_byteOf 125 = .ok (.invokevirtual 171, 3) := by decide +kernel
theorem dX5_byteOf_128 : decode cX5_byteOf 128 = .ok (.iload_n 3, 1) := by decide +kernel
theorem dX5_byteOf_129 : decode cX5_byteOf 129 = .ok (.iconst 1, 1) := by decide +kernel
theorem dX5_byteOf_130 : decode cX5_byteOf 130 = .ok (.if_icmp .eq 8, 3) := by decide +kernel
theorem dX5_byteOf_133 : decode cX5_byteOf 133 = .ok (.iload_n 3, 1) := by decide +kernel
theorem dX5_byteOf_134 : decode cX5_byteOf 134 = .ok (.iconst 5, 1) := by decide +kernel
theorem dX5_byteOf_135 : decode cX5_byteOf 135 = .ok (.if_icmp .ne 125, 3) := by decide +kernel
theorem dX5_byteOf_138 : decode cX5_byteOf 138 = .ok (.aload_n 0, 1) := by decide +kernel
theorem dX5_byteOf_139 : decode cX5_byteOf 139 = .ok (.getfield 165, 3) := by decide +kernel
theorem dX5_byteOf_142 : decode cX5_byteOf 142 = .ok (.istore 6, 2) := by decide +kernel
theorem dX5_byteOf_144 : decode cX5_byteOf 144 = .ok (.aload_n 0, 1) := by decide +kernel
theorem dX5_byteOf_145 : decode cX5_byteOf 145 = .ok (.iconst 0, 1) := by decide +kernel
theorem dX5_byteOf_146 : decode cX5_byteOf 146 = .ok (.invokevirtual 168, 3) := by decide +kernel
theorem dX5_byteOf_149 : decode cX5_byteOf 149 = .ok (.iconst 0, 1) := by decide +kernel
theorem dX5_byteOf_150 : decode cX5_byteOf 150 = .ok (.istore 7, 2) := by decide +kernel
theorem dX5_byteOf_152 : decode cX5_byteOf 152 = .ok (.iload 7, 2) := by decide +kernel
theorem dX5_byteOf_154 : decode cX5_byteOf 154 = .ok (.bipush 20, 2) := by decide +kernel
theorem dX5_byteOf_156 : decode cX5_byteOf 156 = .ok (.if_icmp .ge 104, 3) := by decide +kernel
theorem dX5_byteOf_159 : decode cX5_byteOf 159 = .ok (.aload_n 0, 1) := by decide +kernel
theorem dX5_byteOf_160 : decode cX5_byteOf 160 = .ok (.getfield 51, 3) := by decide +kernel
theorem dX5_byteOf_163 : decode cX5_byteOf 163 = .ok (.bipush 20, 2) := by decide +kernel
theorem dX5_byteOf_165 : decode cX5_byteOf 165 = .ok (.iload 5, 2) := by decide +kernel
theorem dX5_byteOf_167 : decode cX5_byteOf 167 = .ok (.imul, 1) := by decide +kernel
theorem dX5_byteOf_168 : decode cX5_byteOf 168 = .ok (.iload 7, 2) := by decide +kernel
theorem dX5_byteOf_170 : decode cX5_byteOf 170 = .ok (.iadd, 1) := by decide +kernel
theorem dX5_byteOf_171 : decode cX5_byteOf 171 = .ok (.baload, 1) := by decide +kernel
theorem dX5_byteOf_172 : decode cX5_byteOf 172 = .ok (.ifCond .eq 82, 3) := by decide +kernel
theorem dX5_byteOf_175 : decode cX5_byteOf 175 = .ok (.iload_n 3, 1) := by decide +kernel
theorem dX5_byteOf_176 : decode cX5_byteOf 176 = .ok (.iconst 1, 1) := by decide +kernel
theorem dX5_byteOf_177 : decode cX5_byteOf 177 = .ok (.if_icmp .ne 18, 3) := by decide +kernel
theorem dX5_byteOf_180 : decode cX5_byteOf 180 = .ok (.iload 7, 2) := by decide +kernel
theorem dX5_byteOf_182 : decode cX5_byteOf 182 = .ok (.aload_n 0, 1) := by decide +kernel
theorem dX5_byteOf_183 : decode cX5_byteOf 183 = .ok (.getfield 7, 3) := by decide +kernel
theorem dX5_byteOf_186 : decode cX5_byteOf 186 = .ok (.irem, 1) := by decide +kernel
theorem dX5_byteOf_187 : decode cX5_byteOf 187 = .ok (.iload 4, 2) := by decide +kernel
theorem dX5_byteOf_189 : decode cX5_byteOf 189 = .ok (.if_icmp .eq 6, 3) := by decide +kernel
theorem dX5_byteOf_192 : decode cX5_byteOf 192 = .ok (.goto 62, 3) := by decide +kernel
theorem dX5_byteOf_195 : decode cX5_byteOf 195 = .ok (.aload_n 0, 1) := by decide +kernel
theorem dX5_byteOf_196 : decode cX5_byteOf 196 = .ok (.getfield 75, 3) := by decide +kernel
theorem dX5_byteOf_199 : decode cX5_byteOf 199 = .ok (.iload 6, 2) := by decide +kernel
theorem dX5_byteOf_201 : decode cX5_byteOf 201 = .ok (.dup2, 1) := by decide +kernel
theorem dX5_byteOf_202 : decode cX5_byteOf 202 = .ok (.iaload, 1) := by decide +kernel
theorem dX5_byteOf_203 : decode cX5_byteOf 203 = .ok (.iconst 1, 1) := by decide +kernel
theorem dX5_byteOf_204 : decode cX5_byteOf 204 = .ok (.iadd, 1) := by decide +kernel
theorem dX5_byteOf_205 : decode cX5_byteOf 205 = .ok (.iastore, 1) := by decide +kernel
theorem dX5_byteOf_206 : decode cX5_byteOf 206 = .ok (.aload_n 0, 1) := by decide +kernel
theorem dX5_byteOf_207 : decode cX5_byteOf 207 = .ok (.iload 7, 2) := by decide +kernel
theorem dX5_byteOf_209 : decode cX5_byteOf 209 = .ok (.invokevirtual 168, 3) := by decide +kernel
theorem dX5_byteOf_212 : decode cX5_byteOf 212 = .ok (.iload_n 3, 1) := by decide +kernel
theorem dX5_byteOf_213 : decode cX5_byteOf 213 = .ok (.iconst 5, 1) := by decide +kernel
theorem dX5_byteOf_214 : decode cX5_byteOf 214 = .ok (.if_icmp .ne 40, 3) := by decide +kernel
theorem dX5_byteOf_217 : decode cX5_byteOf 217 = .ok (.aload_n 0, 1) := by decide +kernel
theorem dX5_byteOf_218 : decode cX5_byteOf 218 = .ok (.aload_n 0, 1) := by decide +kernel
theorem dX5_byteOf_219 : decode cX5_byteOf 219 = .ok (.getfield 54, 3) := by decide +kernel
theorem dX5_byteOf_222 : decode cX5_byteOf 222 = .ok (.bipush 20, 2) := by decide +kernel
theorem dX5_byteOf_224 : decode cX5_byteOf 224 = .ok (.iload 5, 2) := by decide +kernel
theorem dX5_byteOf_226 : decode cX5_byteOf 226 = .ok (.imul, 1) := by decide +kernel
theorem dX5_byteOf_227 : decode cX5_byteOf 227 = .ok (.iload 7, 2) := by decide +kernel
theorem dX5_byteOf_229 : decode cX5_byteOf 229 = .ok (.iadd, 1) := by decide +kernel
theorem dX5_byteOf_230 : decode cX5_byteOf 230 = .ok (.iaload, 1) := by decide +kernel
theorem dX5_byteOf_231 : decode cX5_byteOf 231 = .ok (.bipush 16, 2) := by decide +kernel
theorem dX5_byteOf_233 : decode cX5_byteOf 233 = .ok (.ishr, 1) := by decide +kernel
theorem dX5_byteOf_234 : decode cX5_byteOf 234 = .ok (.invokevirtual 171, 3) := by decide +kernel
theorem dX5_byteOf_237 : decode cX5_byteOf 237 = .ok (.aload_n 0, 1) := by decide +kernel
theorem dX5_byteOf_238 : decode cX5_byteOf 238 = .ok (.aload_n 0, 1) := by decide +kernel
theorem dX5_byteOf_239 : decode cX5_byteOf 239 = .ok (.getfield 54, 3) := by decide +kernel
theorem dX5_byteOf_242 : decode cX5_byteOf 242 = .ok (.bipush 20, 2) := by decide +kernel
theorem dX5_byteOf_244 : decode cX5_byteOf 244 = .ok (.iload 5, 2) := by decide +kernel
theorem dX5_byteOf_246 : decode cX5_byteOf 246 = .ok (.imul, 1) := by decide +kernel
theorem dX5_byteOf_247 : decode cX5_byteOf 247 = .ok (.iload 7, 2) := by decide +kernel
theorem dX5_byteOf_249 : decode cX5_byteOf 249 = .ok (.iadd, 1) := by decide +kernel
theorem dX5_byteOf_250 : decode cX5_byteOf 250 = .ok (.iaload, 1) := by decide +kernel
theorem dX5_byteOf_251 : decode cX5_byteOf 251 = .ok (.invokevirtual 171, 3) := by decide +kernel
theorem dX5_byteOf_254 : decode cX5_byteOf 254 = .ok (.iinc 7 1, 3) := by decide +kernel
theorem dX5_byteOf_257 : decode cX5_byteOf 257 = .ok (.goto (-105), 3) := by decide +kernel
theorem dX5_byteOf_260 : decode cX5_byteOf 260 = .ok (.iload_n 3, 1) := by decide +kernel
theorem dX5_byteOf_261 : decode cX5_byteOf 261 = .ok (.iconst 5, 1) := by decide +kernel
theorem dX5_byteOf_262 : decode cX5_byteOf 262 = .ok (.if_icmp .ne 69, 3) := by decide +kernel
theorem dX5_byteOf_265 : decode cX5_byteOf 265 = .ok (.aload_n 0, 1) := by decide +kernel
theorem dX5_byteOf_266 : decode cX5_byteOf 266 = .ok (.aload_n 0, 1) := by decide +kernel
theorem dX5_byteOf_267 : decode cX5_byteOf 267 = .ok (.getfield 63, 3) := by decide +kernel
theorem dX5_byteOf_270 : decode cX5_byteOf 270 = .ok (.iload 5, 2) := by decide +kernel
theorem dX5_byteOf_272 : decode cX5_byteOf 272 = .ok (.iaload, 1) := by decide +kernel
theorem dX5_byteOf_273 : decode cX5_byteOf 273 = .ok (.invokevirtual 168, 3) := by decide +kernel
theorem dX5_byteOf_276 : decode cX5_byteOf 276 = .ok (.iconst 0, 1) := by decide +kernel
theorem dX5_byteOf_277 : decode cX5_byteOf 277 = .ok (.istore 6, 2) := by decide +kernel
theorem dX5_byteOf_279 : decode cX5_byteOf 279 = .ok (.iload 6, 2) := by decide +kernel
theorem dX5_byteOf_281 : decode cX5_byteOf 281 = .ok (.aload_n 0, 1) := by decide +kernel
theorem dX5_byteOf_282 : decode cX5_byteOf 282 = .ok (.getfield 63, 3) := by decide +kernel
theorem dX5_byteOf_285 : decode cX5_byteOf 285 = .ok (.iload 5, 2) := by decide +kernel
theorem dX5_byteOf_287 : decode cX5_byteOf 287 = .ok (.iaload, 1) := by decide +kernel
theorem dX5_byteOf_288 : decode cX5_byteOf 288 = .ok (.if_icmp .ge 43, 3) := by decide +kernel
theorem dX5_byteOf_291 : decode cX5_byteOf 291 = .ok (.aload_n 0, 1) := by decide +kernel
theorem dX5_byteOf_292 : decode cX5_byteOf 292 = .ok (.aload_n 0, 1) := by decide +kernel
theorem dX5_byteOf_293 : decode cX5_byteOf 293 = .ok (.getfield 57, 3) := by decide +kernel
theorem dX5_byteOf_296 : decode cX5_byteOf 296 = .ok (.bipush 20, 2) := by decide +kernel
theorem dX5_byteOf_298 : decode cX5_byteOf 298 = .ok (.iload 5, 2) := by decide +kernel
theorem dX5_byteOf_300 : decode cX5_byteOf 300 = .ok (.imul, 1) := by decide +kernel
theorem dX5_byteOf_301 : decode cX5_byteOf 301 = .ok (.iload 6, 2) := by decide +kernel
theorem dX5_byteOf_303 : decode cX5_byteOf 303 = .ok (.iadd, 1) := by decide +kernel
theorem dX5_byteOf_304 : decode cX5_byteOf 304 = .ok (.iaload, 1) := by decide +kernel
theorem dX5_byteOf_305 : decode cX5_byteOf 305 = .ok (.invokevirtual 168, 3) := by decide +kernel
theorem dX5_byteOf_308 : decode cX5_byteOf 308 = .ok (.aload_n 0, 1) := by decide +kernel
theorem dX5_byteOf_309 : decode cX5_byteOf 309 = .ok (.aload_n 0, 1) := by decide +kernel
theorem dX5_byteOf_310 : decode cX5_byteOf 310 = .ok (.getfield 60, 3) := by decide +kernel
theorem dX5_byteOf_313 : decode cX5_byteOf 313 = .ok (.bipush 20, 2) := by decide +kernel
theorem dX5_byteOf_315 : decode cX5_byteOf 315 = .ok (.iload 5, 2) := by decide +kernel
theorem dX5_byteOf_317 : decode cX5_byteOf 317 = .ok (.imul, 1) := by decide +kernel
theorem dX5_byteOf_318 : decode cX5_byteOf 318 = .ok (.iload 6, 2) := by decide +kernel
theorem dX5_byteOf_320 : decode cX5_byteOf 320 = .ok (.iadd, 1) := by decide +kernel
theorem dX5_byteOf_321 : decode cX5_byteOf 321 = .ok (.iaload, 1) := by decide +kernel
theorem dX5_byteOf_322 : decode cX5_byteOf 322 = .ok (.invokevirtual 168, 3) := by decide +kernel
theorem dX5_byteOf_325 : decode cX5_byteOf 325 = .ok (.iinc 6 1, 3) := by decide +kernel
theorem dX5_byteOf_328 : decode cX5_byteOf 328 = .ok (.goto (-49), 3) := by decide +kernel
theorem dX5_byteOf_331 : decode cX5_byteOf 331 = .ok (.iconst 0, 1) := by decide +kernel
theorem dX5_byteOf_332 : decode cX5_byteOf 332 = .ok (.istore 6, 2) := by decide +kernel
theorem dX5_byteOf_334 : decode cX5_byteOf 334 = .ok (.iconst 0, 1) := by decide +kernel
theorem dX5_byteOf_335 : decode cX5_byteOf 335 = .ok (.istore 7, 2) := by decide +kernel
theorem dX5_byteOf_337 : decode cX5_byteOf 337 = .ok (.iload 7, 2) := by decide +kernel
theorem dX5_byteOf_339 : decode cX5_byteOf 339 = .ok (.aload_n 0, 1) := by decide +kernel
theorem dX5_byteOf_340 : decode cX5_byteOf 340 = .ok (.getfield 165, 3) := by decide +kernel
theorem dX5_byteOf_343 : decode cX5_byteOf 343 = .ok (.if_icmp .ge 32, 3) := by decide +kernel
theorem dX5_byteOf_346 : decode cX5_byteOf 346 = .ok (.iload 6, 2) := by decide +kernel
theorem dX5_byteOf_348 : decode cX5_byteOf 348 = .ok (.iconst 3, 1) := by decide +kernel
theorem dX5_byteOf_349 : decode cX5_byteOf 349 = .ok (.ishl, 1) := by decide +kernel
theorem dX5_byteOf_350 : decode cX5_byteOf 350 = .ok (.ldc 177, 2) := by decide +kernel
theorem dX5_byteOf_352 : decode cX5_byteOf 352 = .ok (.iand, 1) := by decide +kernel
theorem dX5_byteOf_353 : decode cX5_byteOf 353 = .ok (.iload 6, 2) := by decide +kernel
theorem dX5_byteOf_355 : decode cX5_byteOf 355 = .ok (.bipush 13, 2) := by decide +kernel
theorem dX5_byteOf_357 : decode cX5_byteOf 357 = .ok (.ishr, 1) := by decide +kernel
theorem dX5_byteOf_358 : decode cX5_byteOf 358 = .ok (.ior, 1) := by decide +kernel
theorem dX5_byteOf_359 : decode cX5_byteOf 359 = .ok (.aload_n 0, 1) := by decide +kernel
theorem dX5_byteOf_360 : decode cX5_byteOf 360 = .ok (.getfield 75, 3) := by decide +kernel
theorem dX5_byteOf_363 : decode cX5_byteOf 363 = .ok (.iload 7, 2) := by decide +kernel
theorem dX5_byteOf_365 : decode cX5_byteOf 365 = .ok (.iaload, 1) := by decide +kernel
theorem dX5_byteOf_366 : decode cX5_byteOf 366 = .ok (.ixor, 1) := by decide +kernel
theorem dX5_byteOf_367 : decode cX5_byteOf 367 = .ok (.istore 6, 2) := by decide +kernel
theorem dX5_byteOf_369 : decode cX5_byteOf 369 = .ok (.iinc 7 1, 3) := by decide +kernel
theorem dX5_byteOf_372 : decode cX5_byteOf 372 = .ok (.goto (-35), 3) := by decide +kernel
theorem dX5_byteOf_375 : decode cX5_byteOf 375 = .ok (.aload_n 0, 1) := by decide +kernel
theorem dX5_byteOf_376 : decode cX5_byteOf 376 = .ok (.iload 6, 2) := by decide +kernel
theorem dX5_byteOf_378 : decode cX5_byteOf 378 = .ok (.invokevirtual 171, 3) := by decide +kernel
theorem dX5_byteOf_381 : decode cX5_byteOf 381 = .ok (.iload_n 2, 1) := by decide +kernel
theorem dX5_byteOf_382 : decode cX5_byteOf 382 = .ok (.ifCond .lt 20, 3) := by decide +kernel
theorem dX5_byteOf_385 : decode cX5_byteOf 385 = .ok (.iload_n 2, 1) := by decide +kernel
theorem dX5_byteOf_386 : decode cX5_byteOf 386 = .ok (.aload_n 0, 1) := by decide +kernel
theorem dX5_byteOf_387 : decode cX5_byteOf 387 = .ok (.getfield 165, 3) := by decide +kernel
theorem dX5_byteOf_390 : decode cX5_byteOf 390 = .ok (.if_icmp .ge 12, 3) := by decide +kernel
theorem dX5_byteOf_393 : decode cX5_byteOf 393 = .ok (.aload_n 0, 1) := by decide +kernel
theorem dX5_byteOf_394 : decode cX5_byteOf 394 = .ok (.getfield 75, 3) := by decide +kernel
theorem dX5_byteOf_397 : decode cX5_byteOf 397 = .ok (.iload_n 2, 1) := by decide +kernel
theorem dX5_byteOf_398 : decode cX5_byteOf 398 = .ok (.iaload, 1) := by decide +kernel
theorem dX5_byteOf_399 : decode cX5_byteOf 399 = .ok (.goto 4, 3) := by decide +kernel
theorem dX5_byteOf_402 : decode cX5_byteOf 402 = .ok (.iconst (-1), 1) := by decide +kernel
theorem dX5_byteOf_403 : decode cX5_byteOf 403 = .ok (.ireturn, 1) := by decide +kernel
theorem dX5_crash_0 : decode cX5_crash 0 = .ok (.aload_n 0, 1) := by decide +kernel
theorem dX5_crash_1 : decode cX5_crash 1 = .ok (.aload_n 0, 1) := by decide +kernel
theorem dX5_crash_2 : decode cX5_crash 2 = .ok (.iload_n 1, 1) := by decide +kernel
theorem dX5_crash_3 : decode cX5_crash 3 = .ok (.invokevirtual 101, 3) := by decide +kernel
theorem dX5_crash_6 : decode cX5_crash 6 = .ok (.ifCond .ne 7, 3) := by decide +kernel
theorem dX5_crash_9 : decode cX5_crash 9 = .ok (.iconst 1, 1) := by decide +kernel
theorem dX5_crash_10 : decode cX5_crash 10 = .ok (.goto 4, 3) := by decide +kernel
theorem dX5_crash_13 : decode cX5_crash 13 = .ok (.iconst 0, 1) := by decide +kernel
theorem dX5_crash_14 : decode cX5_crash 14 = .ok (.iconst 1, 1) := by decide +kernel
theorem dX5_crash_15 : decode cX5_crash 15 = .ok (.invokevirtual 97, 3) := by decide +kernel
theorem dX5_crash_18 : decode cX5_crash 18 = .ok (.ifCond .ne 17, 3) := by decide +kernel
theorem dX5_crash_21 : decode cX5_crash 21 = .ok (.aload_n 0, 1) := by decide +kernel
theorem dX5_crash_22 : decode cX5_crash 22 = .ok (.aload_n 0, 1) := by decide +kernel
theorem dX5_crash_23 : decode cX5_crash 23 = .ok (.getfield 17, 3) := by decide +kernel
theorem dX5_crash_26 : decode cX5_crash 26 = .ok (.iload_n 1, 1) := by decide +kernel
theorem dX5_crash_27 : decode cX5_crash 27 = .ok (.baload, 1) := by decide +kernel
theorem dX5_crash_28 : decode cX5_crash 28 = .ok (.iconst 2, 1) := by decide +kernel
theorem dX5_crash_29 : decode cX5_crash 29 = .ok (.invokevirtual 97, 3) := by decide +kernel
theorem dX5_crash_32 : decode cX5_crash 32 = .ok (.ifCond .eq 4, 3) := by decide +kernel
theorem dX5_crash_35 : decode cX5_crash 35 = .ok (.return_, 1) := by decide +kernel
theorem dX5_crash_36 : decode cX5_crash 36 = .ok (.aload_n 0, 1) := by decide +kernel
theorem dX5_crash_37 : decode cX5_crash 37 = .ok (.getfield 17, 3) := by decide +kernel
theorem dX5_crash_40 : decode cX5_crash 40 = .ok (.iload_n 1, 1) := by decide +kernel
theorem dX5_crash_41 : decode cX5_crash 41 = .ok (.iconst 1, 1) := by decide +kernel
theorem dX5_crash_42 : decode cX5_crash 42 = .ok (.bastore, 1) := by decide +kernel
theorem dX5_crash_43 : decode cX5_crash 43 = .ok (.iconst 0, 1) := by decide +kernel
theorem dX5_crash_44 : decode cX5_crash 44 = .ok (.istore_n 2, 1) := by decide +kernel
theorem dX5_crash_45 : decode cX5_crash 45 = .ok (.iload_n 2, 1) := by decide +kernel
theorem dX5_crash_46 : decode cX5_crash 46 = .ok (.aload_n 0, 1) := by decide +kernel
theorem dX5_crash_47 : decode cX5_crash 47 = .ok (.getfield 88, 3) := by decide +kernel
theorem dX5_crash_50 : decode cX5_crash 50 = .ok (.if_icmp .ge 71, 3) := by decide +kernel
theorem dX5_crash_53 : decode cX5_crash 53 = .ok (.aload_n 0, 1) := by decide +kernel
theorem dX5_crash_54 : decode cX5_crash 54 = .ok (.getfield 39, 3) := by decide +kernel
theorem dX5_crash_57 : decode cX5_crash 57 = .ok (.iconst 5, 1) := by decide +kernel
theorem dX5_crash_58 : decode cX5_crash 58 = .ok (.iload_n 2, 1) := by decide +kernel
theorem dX5_crash_59 : decode cX5_crash 59 = .ok (.imul, 1) := by decide +kernel
theorem dX5_crash_60 : decode cX5_crash 60 = .ok (.iload_n 1, 1) := by decide +kernel
theorem dX5_crash_61 : decode cX5_crash 61 = .ok (.iadd, 1) := by decide +kernel
theorem dX5_crash_62 : decode cX5_crash 62 = .ok (.iconst 0, 1) := by decide +kernel
theorem dX5_crash_63 : decode cX5_crash 63 = .ok (.bastore, 1) := by decide +kernel
theorem dX5_crash_64 : decode cX5_crash 64 = .ok (.aload_n 0, 1) := by decide +kernel
theorem dX5_crash_65 : decode cX5_crash 65 = .ok (.getfield 24, 3) := by decide +kernel
theorem dX5_crash_68 : decode cX5_crash 68 = .ok (.iload_n 2, 1) := by decide +kernel
theorem dX5_crash_69 : decode cX5_crash 69 = .ok (.iaload, 1) := by decide +kernel
theorem dX5_crash_70 : decode cX5_crash 70 = .ok (.iload_n 1, 1) := by decide +kernel
theorem dX5_crash_71 : decode cX5_crash 71 = .ok (.if_icmp .ne 44, 3) := by decide +kernel
theorem dX5_crash_74 : decode cX5_crash 74 = .ok (.aload_n 0, 1) := by decide +kernel
theorem dX5_crash_75 : decode cX5_crash 75 = .ok (.getfield 27, 3) := by decide +kernel
theorem dX5_crash_78 : decode cX5_crash 78 = .ok (.iload_n 2, 1) := by decide +kernel
theorem dX5_crash_79 : decode cX5_crash 79 = .ok (.iaload, 1) := by decide +kernel
theorem dX5_crash_80 : decode cX5_crash 80 = .ok (.iconst 1, 1) := by decide +kernel
theorem dX5_crash_81 : decode cX5_crash 81 = .ok (.if_icmp .le 6, 3) := by decide +kernel
theorem dX5_crash_84 : decode cX5_crash 84 = .ok (.goto 31, 3) := by decide +kernel
theorem dX5_crash_87 : decode cX5_crash 87 = .ok (.aload_n 0, 1) := by decide +kernel
theorem dX5_crash_88 : decode cX5_crash 88 = .ok (.getfield 69, 3) := by decide +kernel
theorem dX5_crash_91 : decode cX5_crash 91 = .ok (.iload_n 2, 1) := by decide +kernel
theorem dX5_crash_92 : decode cX5_crash 92 = .ok (.aload_n 0, 1) := by decide +kernel
theorem dX5_crash_93 : decode cX5_crash 93 = .ok (.getfield 27, 3) := by decide +kernel
theorem dX5_crash_96 : decode cX5_crash 96 = .ok (.iload_n 2, 1) := by decide +kernel
theorem dX5_crash_97 : decode cX5_crash 97 = .ok (.iaload, 1) := by decide +kernel
theorem dX5_crash_98 : decode cX5_crash 98 = .ok (.iconst 1, 1) := by decide +kernel
theorem dX5_crash_99 : decode cX5_crash 99 = .ok (.if_icmp .ne 7, 3) := by decide +kernel
theorem dX5_crash_102 : decode cX5_crash 102 = .ok (.iconst 1, 1) := by decide +kernel
theorem dX5_crash_103 : decode cX5_crash 103 = .ok (.goto 4, 3) := by decide +kernel
theorem dX5_crash_106 : decode cX5_crash 106 = .ok (.iconst 0, 1) := by decide +kernel
theorem dX5_crash_107 : decode cX5_crash 107 = .ok (.bastore, 1) := by decide +kernel
theorem dX5_crash_108 : decode cX5_crash 108 = .ok (.aload_n 0, 1) := by decide +kernel
theorem dX5_crash_109 : decode cX5_crash 109 = .ok (.getfield 27, 3) := by decide +kernel
theorem dX5_crash_112 : decode cX5_crash 112 = .ok (.iload_n 2, 1) := by decide +kernel
theorem dX5_crash_113 : decode cX5_crash 113 = .ok (.iconst 4, 1) := by decide +kernel
theorem dX5_crash_114 : decode cX5_crash 114 = .ok (.iastore, 1) := by decide +kernel
theorem dX5_crash_115 : decode cX5_crash 115 = .ok (.iinc 2 1, 3) := by decide +kernel
theorem dX5_crash_118 : decode cX5_crash 118 = .ok (.goto (-73), 3) := by decide +kernel
theorem dX5_crash_121 : decode cX5_crash 121 = .ok (.return_, 1) := by decide +kernel
theorem dX5_restart_0 : decode cX5_restart 0 = .ok (.aload_n 0, 1) := by decide +kernel
theorem dX5_restart_1 : decode cX5_restart 1 = .ok (.aload_n 0, 1) := by decide +kernel
theorem dX5_restart_2 : decode cX5_restart 2 = .ok (.iload_n 1, 1) := by decide +kernel
theorem dX5_restart_3 : decode cX5_restart 3 = .ok (.invokevirtual 101, 3) := by decide +kernel
theorem dX5_restart_6 : decode cX5_restart 6 = .ok (.ifCond .ne 7, 3) := by decide +kernel
theorem dX5_restart_9 : decode cX5_restart 9 = .ok (.iconst 1, 1) := by decide +kernel
theorem dX5_restart_10 : decode cX5_restart 10 = .ok (.goto 4, 3) := by decide +kernel
theorem dX5_restart_13 : decode cX5_restart 13 = .ok (.iconst 0, 1) := by decide +kernel
theorem dX5_restart_14 : decode cX5_restart 14 = .ok (.iconst 1, 1) := by decide +kernel
theorem dX5_restart_15 : decode cX5_restart 15 = .ok (.invokevirtual 97, 3) := by decide +kernel
theorem dX5_restart_18 : decode cX5_restart 18 = .ok (.ifCond .ne 25, 3) := by decide +kernel
theorem dX5_restart_21 : decode cX5_restart 21 = .ok (.aload_n 0, 1) := by decide +kernel
theorem dX5_restart_22 : decode cX5_restart 22 = .ok (.aload_n 0, 1) := by decide +kernel
theorem dX5_restart_23 : decode cX5_restart 23 = .ok (.getfield 17, 3) := by decide +kernel
theorem dX5_restart_26 : decode cX5_restart 26 = .ok (.iload_n 1, 1) := by decide +kernel
theorem dX5_restart_27 : decode cX5_restart 27 = .ok (.baload, 1) := by decide +kernel
theorem dX5_restart_28 : decode cX5_restart 28 = .ok (.ifCond .ne 7, 3) := by decide +kernel
theorem dX5_restart_31 : decode cX5_restart 31 = .ok (.iconst 1, 1) := by decide +kernel
theorem dX5_restart_32 : decode cX5_restart 32 = .ok (.goto 4, 3) := by decide +kernel
theorem dX5_restart_35 : decode cX5_restart 35 = .ok (.iconst 0, 1) := by decide +kernel
theorem dX5_restart_36 : decode cX5_restart 36 = .ok (.iconst 2, 1) := by decide +kernel
theorem dX5_restart_37 : decode cX5_restart 37 = .ok (.invokevirtual 97, 3) := by decide +kernel
theorem dX5_restart_40 : decode cX5_restart 40 = .ok (.ifCond .eq 4, 3) := by decide +kernel
theorem dX5_restart_43 : decode cX5_restart 43 = .ok (.return_, 1) := by decide +kernel
theorem dX5_restart_44 : decode cX5_restart 44 = .ok (.aload_n 0, 1) := by decide +kernel
theorem dX5_restart_45 : decode cX5_restart 45 = .ok (.getfield 17, 3) := by decide +kernel
theorem dX5_restart_48 : decode cX5_restart 48 = .ok (.iload_n 1, 1) := by decide +kernel
theorem dX5_restart_49 : decode cX5_restart 49 = .ok (.iconst 0, 1) := by decide +kernel
theorem dX5_restart_50 : decode cX5_restart 50 = .ok (.bastore, 1) := by decide +kernel
theorem dX5_restart_51 : decode cX5_restart 51 = .ok (.iconst 0, 1) := by decide +kernel
theorem dX5_restart_52 : decode cX5_restart 52 = .ok (.istore_n 2, 1) := by decide +kernel
theorem dX5_restart_53 : decode cX5_restart 53 = .ok (.iload_n 2, 1) := by decide +kernel
theorem dX5_restart_54 : decode cX5_restart 54 = .ok (.aload_n 0, 1) := by decide +kernel
theorem dX5_restart_55 : decode cX5_restart 55 = .ok (.getfield 88, 3) := by decide +kernel
theorem dX5_restart_58 : decode cX5_restart 58 = .ok (.if_icmp .ge 40, 3) := by decide +kernel
theorem dX5_restart_61 : decode cX5_restart 61 = .ok (.aload_n 0, 1) := by decide +kernel
theorem dX5_restart_62 : decode cX5_restart 62 = .ok (.getfield 24, 3) := by decide +kernel
theorem dX5_restart_65 : decode cX5_restart 65 = .ok (.iload_n 2, 1) := by decide +kernel
theorem dX5_restart_66 : decode cX5_restart 66 = .ok (.iaload, 1) := by decide +kernel
theorem dX5_restart_67 : decode cX5_restart 67 = .ok (.iload_n 1, 1) := by decide +kernel
theorem dX5_restart_68 : decode cX5_restart 68 = .ok (.if_icmp .ne 24, 3) := by decide +kernel
theorem dX5_restart_71 : decode cX5_restart 71 = .ok (.aload_n 0, 1) := by decide +kernel
theorem dX5_restart_72 : decode cX5_restart 72 = .ok (.getfield 69, 3) := by decide +kernel
theorem dX5_restart_75 : decode cX5_restart 75 = .ok (.iload_n 2, 1) := by decide +kernel
theorem dX5_restart_76 : decode cX5_restart 76 = .ok (.baload, 1) := by decide +kernel
theorem dX5_restart_77 : decode cX5_restart 77 = .ok (.ifCond .eq 15, 3) := by decide +kernel
theorem dX5_restart_80 : decode cX5_restart 80 = .ok (.aload_n 0, 1) := by decide +kernel
theorem dX5_restart_81 : decode cX5_restart 81 = .ok (.getfield 69, 3) := by decide +kernel
theorem dX5_restart_84 : decode cX5_restart 84 = .ok (.iload_n 2, 1) := by decide +kernel
theorem dX5_restart_85 : decode cX5_restart 85 = .ok (.iconst 0, 1) := by decide +kernel
theorem dX5_restart_86 : decode cX5_restart 86 = .ok (.bastore, 1) := by decide +kernel
theorem dX5_restart_87 : decode cX5_restart 87 = .ok (.aload_n 0, 1) := by decide +kernel
theorem dX5_restart_88 : decode cX5_restart 88 = .ok (.iload_n 2, 1) := by decide +kernel
theorem dX5_restart_89 : decode cX5_restart 89 = .ok (.invokevirtual 156, 3) := by decide +kernel
theorem dX5_restart_92 : decode cX5_restart 92 = .ok (.iinc 2 1, 3) := by decide +kernel
theorem dX5_restart_95 : decode cX5_restart 95 = .ok (.goto (-42), 3) := by decide +kernel
theorem dX5_restart_98 : decode cX5_restart 98 = .ok (.return_, 1) := by decide +kernel
theorem dX5_about_0 : decode cX5_about 0 = .ok (.aload_n 0, 1) := by decide +kernel
theorem dX5_about_1 : decode cX5_about 1 = .ok (.aload_n 0, 1) := by decide +kernel
theorem dX5_about_2 : decode cX5_about 2 = .ok (.iload_n 1, 1) := by decide +kernel
theorem dX5_about_3 : decode cX5_about 3 = .ok (.invokevirtual 109, 3) := by decide +kernel
theorem dX5_about_6 : decode cX5_about 6 = .ok (.ifCond .eq 12, 3) := by decide +kernel
theorem dX5_about_9 : decode cX5_about 9 = .ok (.iload_n 2, 1) := by decide +kernel
theorem dX5_about_10 : decode cX5_about 10 = .ok (.ifCond .lt 8, 3) := by decide +kernel
theorem dX5_about_13 : decode cX5_about 13 = .ok (.iload_n 2, 1) := by decide +kernel
theorem dX5_about_14 : decode cX5_about 14 = .ok (.iconst 4, 1) := by decide +kernel
theorem dX5_about_15 : decode cX5_about 15 = .ok (.if_icmp .le 7, 3) := by decide +kernel
theorem dX5_about_18 : decode cX5_about 18 = .ok (.iconst 1, 1) := by decide +kernel
theorem dX5_about_19 : decode cX5_about 19 = .ok (.goto 4, 3) := by decide +kernel
theorem dX5_about_22 : decode cX5_about 22 = .ok (.iconst 0, 1) := by decide +kernel
theorem dX5_about_23 : decode cX5_about 23 = .ok (.iconst 1, 1) := by decide +kernel
theorem dX5_about_24 : decode cX5_about 24 = .ok (.invokevirtual 97, 3) := by decide +kernel
theorem dX5_about_27 : decode cX5_about 27 = .ok (.ifCond .eq 5, 3) := by decide +kernel
theorem dX5_about_30 : decode cX5_about 30 = .ok (.iconst 0, 1) := by decide +kernel
theorem dX5_about_31 : decode cX5_about 31 = .ok (.ireturn, 1) := by decide +kernel
theorem dX5_about_32 : decode cX5_about 32 = .ok (.iload_n 1, 1) := by decide +kernel
theorem dX5_about_33 : decode cX5_about 33 = .ok (.istore_n 3, 1) := by decide +kernel
theorem dX5_about_34 : decode cX5_about 34 = .ok (.iload_n 2, 1) := by decide +kernel
theorem dX5_about_35 : decode cX5_about 35 = .ok (.ifCond .ne 10, 3) := by decide +kernel
theorem dX5_about_38 : decode cX5_about 38 = .ok (.aload_n 0, 1) := by decide +kernel
theorem dX5_about_39 : decode cX5_about 39 = .ok (.getfield 27, 3) := by decide +kernel
theorem dX5_about_42 : decode cX5_about 42 = .ok (.iload_n 3, 1) := by decide +kernel
theorem dX5_about_43 : decode cX5_about 43 = .ok (.iaload, 1) := by decide +kernel
theorem dX5_about_44 : decode cX5_about 44 = .ok (.ireturn, 1) := by decide +kernel
theorem dX5_about_45 : decode cX5_about 45 = .ok (.iload_n 2, 1) := by decide +kernel
theorem dX5_about_46 : decode cX5_about 46 = .ok (.iconst 1, 1) := by decide +kernel
theorem dX5_about_47 : decode cX5_about 47 = .ok (.if_icmp .ne 10, 3) := by decide +kernel
theorem dX5_about_50 : decode cX5_about 50 = .ok (.aload_n 0, 1) := by decide +kernel
theorem dX5_about_51 : decode cX5_about 51 = .ok (.getfield 24, 3) := by decide +kernel
theorem dX5_about_54 : decode cX5_about 54 = .ok (.iload_n 3, 1) := by decide +kernel
theorem dX5_about_55 : decode cX5_about 55 = .ok (.iaload, 1) := by decide +kernel
theorem dX5_about_56 : decode cX5_about 56 = .ok (.ireturn, 1) := by decide +kernel
theorem dX5_about_57 : decode cX5_about 57 = .ok (.iload_n 2, 1) := by decide +kernel
theorem dX5_about_58 : decode cX5_about 58 = .ok (.iconst 2, 1) := by decide +kernel
theorem dX5_about_59 : decode cX5_about 59 = .ok (.if_icmp .ne 10, 3) := by decide +kernel
theorem dX5_about_62 : decode cX5_about 62 = .ok (.aload_n 0, 1) := by decide +kernel
theorem dX5_about_63 : decode cX5_about 63 = .ok (.getfield 30, 3) := by decide +kernel
theorem dX5_about_66 : decode cX5_about 66 = .ok (.iload_n 3, 1) := by decide +kernel
theorem dX5_about_67 : decode cX5_about 67 = .ok (.iaload, 1) := by decide +kernel
theorem dX5_about_68 : decode cX5_about 68 = .ok (.ireturn, 1) := by decide +kernel
theorem dX5_about_69 : decode cX5_about 69 = .ok (.iconst 0, 1) := by decide +kernel
theorem dX5_about_70 : decode cX5_about 70 = .ok (.istore 4, 2) := by decide +kernel
theorem dX5_about_72 : decode cX5_about 72 = .ok (.iconst 0, 1) := by decide +kernel
theorem dX5_about_73 : decode cX5_about 73 = .ok (.istore 5, 2) := by decide +kernel
theorem dX5_about_75 : decode cX5_about 75 = .ok (.iload 5, 2) := by decide +kernel
theorem dX5_about_77 : decode cX5_about 77 = .ok (.aload_n 0, 1) := by decide +kernel
theorem dX5_about_78 : decode cX5_about 78 = .ok (.getfield 7, 3) := by decide +kernel
theorem dX5_about_81 : decode cX5_about 81 = .ok (.if_icmp .ge 60, 3) := by decide +kernel
theorem dX5_about_84 : decode cX5_about 84 = .ok (.iload 4, 2) := by decide +kernel
theorem dX5_about_86 : decode cX5_about 86 = .ok (.iload_n 2, 1) := by decide +kernel
theorem dX5_about_87 : decode cX5_about 87 = .ok (.iconst 3, 1) := by decide +kernel
theorem dX5_about_88 : decode cX5_about 88 = .ok (.if_icmp .ne 25, 3) := by decide +kernel
theorem dX5_about_91 : decode cX5_about 91 = .ok (.aload_n 0, 1) := by decide +kernel
theorem dX5_about_92 : decode cX5_about 92 = .ok (.getfield 36, 3) := by decide +kernel
theorem dX5_about_95 : decode cX5_about 95 = .ok (.iconst 5, 1) := by decide +kernel
theorem dX5_about_96 : decode cX5_about 96 = .ok (.iload_n 3, 1) := by decide +kernel
theorem dX5_about_97 : decode cX5_about 97 = .ok (.imul, 1) := by decide +kernel
theorem dX5_about_98 : decode cX5_about 98 = .ok (.iload 5, 2) := by decide +kernel
theorem dX5_about_100 : decode cX5_about 100 = .ok (.iadd, 1) := by decide +kernel
theorem dX5_about_101 : decode cX5_about 101 = .ok (.iaload, 1) := by decide +kernel
theorem dX5_about_102 : decode cX5_about 102 = .ok (.ifCond .le 7, 3) := by decide +kernel
theorem dX5_about_105 : decode cX5_about 105 = .ok (.iconst 1, 1) := by decide +kernel
theorem dX5_about_106 : decode cX5_about 106 = .ok (.goto 26, 3) := by decide +kernel
theorem dX5_about_109 : decode cX5_about 109 = .ok (.iconst 0, 1) := by decide +kernel
theorem dX5_about_110 : decode cX5_about 110 = .ok (.goto 22, 3) := by decide +kernel
theorem dX5_about_113 : decode cX5_about 113 = .ok (.aload_n 0, 1) := by decide +kernel
theorem dX5_about_114 : decode cX5_about 114 = .ok (.getfield 48, 3) := by decide +kernel
theorem dX5_about_117 : decode cX5_about 117 = .ok (.iconst 5, 1) := by decide +kernel
theorem dX5_about_118 : decode cX5_about 118 = .ok (.iload_n 3, 1) := by decide +kernel
theorem dX5_about_119 : decode cX5_about 119 = .ok (.imul, 1) := by decide +kernel
theorem dX5_about_120 : decode cX5_about 120 = .ok (.iload 5, 2) := by decide +kernel
theorem dX5_about_122 : decode cX5_about 122 = .ok (.iadd, 1) := by decide +kernel
theorem dX5_about_123 : decode cX5_about 123 = .ok (.baload, 1) := by decide +kernel
theorem dX5_about_124 : decode cX5_about 124 = .ok (.ifCond .eq 7, 3) := by decide +kernel
theorem dX5_about_127 : decode cX5_about 127 = .ok (.iconst 1, 1) := by decide +kernel
theorem dX5_about_128 : decode cX5_about 128 = .ok (.goto 4, 3) := by decide +kernel
theorem dX5_about_131 : decode cX5_about 131 = .ok (.iconst 0, 1) := by decide +kernel
theorem dX5_about_132 : decode cX5_about 132 = .ok (.iadd, 1) := by decide +kernel
theorem dX5_about_133 : decode cX5_about 133 = .ok (.istore 4, 2) := by decide +kernel
theorem dX5_about_135 : decode cX5_about 135 = .ok (.iinc 5 1, 3) := by decide +kernel
theorem dX5_about_138 : decode cX5_about 138 = .ok (.goto (-63), 3) := by decide +kernel
theorem dX5_about_141 : decode cX5_about 141 = .ok (.iload 4, 2) := by decide +kernel
theorem dX5_about_143 : decode cX5_about 143 = .ok (.ireturn, 1) := by decide +kernel
theorem dX5_vector_0 : decode cX5_vector 0 = .ok (.aload_n 0, 1) := by decide +kernel
theorem dX5_vector_1 : decode cX5_vector 1 = .ok (.aload_n 0, 1) := by decide +kernel
theorem dX5_vector_2 : decode cX5_vector 2 = .ok (.iload_n 1, 1) := by decide +kernel
theorem dX5_vector_3 : decode cX5_vector 3 = .ok (.invokevirtual 101, 3) := by decide +kernel
theorem dX5_vector_6 : decode cX5_vector 6 = .ok (.ifCond .eq 11, 3) := by decide +kernel
theorem dX5_vector_9 : decode cX5_vector 9 = .ok (.aload_n 0, 1) := by decide +kernel
theorem dX5_vector_10 : decode cX5_vector 10 = .ok (.iload_n 2, 1) := by decide +kernel
theorem dX5_vector_11 : decode cX5_vector 11 = .ok (.invokevirtual 101, 3) := by decide +kernel
theorem dX5_vector_14 : decode cX5_vector 14 = .ok (.ifCond .ne 7, 3) := by decide +kernel
theorem dX5_vector_17 : decode cX5_vector 17 = .ok (.iconst 1, 1) := by decide +kernel
theorem dX5_vector_18 : decode cX5_vector 18 = .ok (.goto 4, 3) := by decide +kernel
theorem dX5_vector_21 : decode cX5_vector 21 = .ok (.iconst 0, 1) := by decide +kernel
theorem dX5_vector_22 : decode cX5_vector 22 = .ok (.iconst 1, 1) := by decide +kernel
theorem dX5_vector_23 : decode cX5_vector 23 = .ok (.invokevirtual 97, 3) := by decide +kernel
theorem dX5_vector_26 : decode cX5_vector 26 = .ok (.ifCond .eq 7, 3) := by decide +kernel
theorem dX5_vector_29 : decode cX5_vector 29 = .ok (.iconst 0, 1) := by decide +kernel
theorem dX5_vector_30 : decode cX5_vector 30 = .ok (.goto 13, 3) := by decide +kernel
theorem dX5_vector_33 : decode cX5_vector 33 = .ok (.aload_n 0, 1) := by decide +kernel
theorem dX5_vector_34 : decode cX5_vector 34 = .ok (.getfield 13, 3) := by decide +kernel
theorem dX5_vector_37 : decode cX5_vector 37 = .ok (.iconst 5, 1) := by decide +kernel
theorem dX5_vector_38 : decode cX5_vector 38 = .ok (.iload_n 1, 1) := by decide +kernel
theorem dX5_vector_39 : decode cX5_vector 39 = .ok (.imul, 1) := by decide +kernel
theorem dX5_vector_40 : decode cX5_vector 40 = .ok (.iload_n 2, 1) := by decide +kernel
theorem dX5_vector_41 : decode cX5_vector 41 = .ok (.iadd, 1) := by decide +kernel
theorem dX5_vector_42 : decode cX5_vector 42 = .ok (.iaload, 1) := by decide +kernel
theorem dX5_vector_43 : decode cX5_vector 43 = .ok (.ireturn, 1) := by decide +kernel
theorem dX5_value_0 : decode cX5_value 0 = .ok (.aload_n 0, 1) := by decide +kernel
theorem dX5_value_1 : decode cX5_value 1 = .ok (.aload_n 0, 1) := by decide +kernel
theorem dX5_value_2 : decode cX5_value 2 = .ok (.iload_n 1, 1) := by decide +kernel
theorem dX5_value_3 : decode cX5_value 3 = .ok (.invokevirtual 101, 3) := by decide +kernel
theorem dX5_value_6 : decode cX5_value 6 = .ok (.ifCond .eq 10, 3) := by decide +kernel
theorem dX5_value_9 : decode cX5_value 9 = .ok (.iload_n 2, 1) := by decide +kernel
theorem dX5_value_10 : decode cX5_value 10 = .ok (.invokestatic 112, 3) := by decide +kernel
theorem dX5_value_13 : decode cX5_value 13 = .ok (.ifCond .ne 7, 3) := by decide +kernel
theorem dX5_value_16 : decode cX5_value 16 = .ok (.iconst 1, 1) := by decide +kernel
theorem dX5_value_17 : decode cX5_value 17 = .ok (.goto 4, 3) := by decide +kernel
theorem dX5_value_20 : decode cX5_value 20 = .ok (.iconst 0, 1) := by decide +kernel
theorem dX5_value_21 : decode cX5_value 21 = .ok (.iconst 1, 1) := by decide +kernel
theorem dX5_value_22 : decode cX5_value 22 = .ok (.invokevirtual 97, 3) := by decide +kernel
theorem dX5_value_25 : decode cX5_value 25 = .ok (.ifCond .eq 7, 3) := by decide +kernel
theorem dX5_value_28 : decode cX5_value 28 = .ok (.iconst 0, 1) := by decide +kernel
theorem dX5_value_29 : decode cX5_value 29 = .ok (.goto 10, 3) := by decide +kernel
theorem dX5_value_32 : decode cX5_value 32 = .ok (.aload_n 0, 1) := by decide +kernel
theorem dX5_value_33 : decode cX5_value 33 = .ok (.iload_n 1, 1) := by decide +kernel
theorem dX5_value_34 : decode cX5_value 34 = .ok (.iload_n 2, 1) := by decide +kernel
theorem dX5_value_35 : decode cX5_value 35 = .ok (.iconst (-1), 1) := by decide +kernel
theorem dX5_value_36 : decode cX5_value 36 = .ok (.invokevirtual 115, 3) := by decide +kernel
theorem dX5_value_39 : decode cX5_value 39 = .ok (.ireturn, 1) := by decide +kernel
theorem dX5_locked_0 : decode cX5_locked 0 = .ok (.aload_n 0, 1) := by decide +kernel
theorem dX5_locked_1 : decode cX5_locked 1 = .ok (.aload_n 0, 1) := by decide +kernel
theorem dX5_locked_2 : decode cX5_locked 2 = .ok (.iload_n 1, 1) := by decide +kernel
theorem dX5_locked_3 : decode cX5_locked 3 = .ok (.invokevirtual 101, 3) := by decide +kernel
theorem dX5_locked_6 : decode cX5_locked 6 = .ok (.ifCond .eq 10, 3) := by decide +kernel
theorem dX5_locked_9 : decode cX5_locked 9 = .ok (.iload_n 2, 1) := by decide +kernel
theorem dX5_locked_10 : decode cX5_locked 10 = .ok (.invokestatic 112, 3) := by decide +kernel
theorem dX5_locked_13 : decode cX5_locked 13 = .ok (.ifCond .ne 7, 3) := by decide +kernel
theorem dX5_locked_16 : decode cX5_locked 16 = .ok (.iconst 1, 1) := by decide +kernel
theorem dX5_locked_17 : decode cX5_locked 17 = .ok (.goto 4, 3) := by decide +kernel
theorem dX5_locked_20 : decode cX5_locked 20 = .ok (.iconst 0, 1) := by decide +kernel
theorem dX5_locked_21 : decode cX5_locked 21 = .ok (.iconst 1, 1) := by decide +kernel
theorem dX5_locked_22 : decode cX5_locked 22 = .ok (.invokevirtual 97, 3) := by decide +kernel
theorem dX5_locked_25 : decode cX5_locked 25 = .ok (.ifCond .eq 7, 3) := by decide +kernel
theorem dX5_locked_28 : decode cX5_locked 28 = .ok (.iconst 0, 1) := by decide +kernel
theorem dX5_locked_29 : decode cX5_locked 29 = .ok (.goto 14, 3) := by decide +kernel
theorem dX5_locked_32 : decode cX5_locked 32 = .ok (.aload_n 0, 1) := by decide +kernel
theorem dX5_locked_33 : decode cX5_locked 33 = .ok (.getfield 21, 3) := by decide +kernel
theorem dX5_locked_36 : decode cX5_locked 36 = .ok (.bipush 20, 2) := by decide +kernel
theorem dX5_locked_38 : decode cX5_locked 38 = .ok (.iload_n 1, 1) := by decide +kernel
theorem dX5_locked_39 : decode cX5_locked 39 = .ok (.imul, 1) := by decide +kernel
theorem dX5_locked_40 : decode cX5_locked 40 = .ok (.iload_n 2, 1) := by decide +kernel
theorem dX5_locked_41 : decode cX5_locked 41 = .ok (.iadd, 1) := by decide +kernel
theorem dX5_locked_42 : decode cX5_locked 42 = .ok (.iaload, 1) := by decide +kernel
theorem dX5_locked_43 : decode cX5_locked 43 = .ok (.ireturn, 1) := by decide +kernel
theorem dX5_total_0 : decode cX5_total 0 = .ok (.aload_n 0, 1) := by decide +kernel
theorem dX5_total_1 : decode cX5_total 1 = .ok (.iload_n 1, 1) := by decide +kernel
theorem dX5_total_2 : decode cX5_total 2 = .ok (.ifCond .lt 8, 3) := by decide +kernel
theorem dX5_total_5 : decode cX5_total 5 = .ok (.iload_n 1, 1) := by decide +kernel
theorem dX5_total_6 : decode cX5_total 6 = .ok (.iconst 4, 1) := by decide +kernel
theorem dX5_total_7 : decode cX5_total 7 = .ok (.if_icmp .le 7, 3) := by decide +kernel
theorem dX5_total_10 : decode cX5_total 10 = .ok (.iconst 1, 1) := by decide +kernel
theorem dX5_total_11 : decode cX5_total 11 = .ok (.goto 4, 3) := by decide +kernel
theorem dX5_total_14 : decode cX5_total 14 = .ok (.iconst 0, 1) := by decide +kernel
theorem dX5_total_15 : decode cX5_total 15 = .ok (.iconst 1, 1) := by decide +kernel
theorem dX5_total_16 : decode cX5_total 16 = .ok (.invokevirtual 97, 3) := by decide +kernel
theorem dX5_total_19 : decode cX5_total 19 = .ok (.ifCond .eq 5, 3) := by decide +kernel
theorem dX5_total_22 : decode cX5_total 22 = .ok (.iconst 0, 1) := by decide +kernel
theorem dX5_total_23 : decode cX5_total 23 = .ok (.ireturn, 1) := by decide +kernel
theorem dX5_total_24 : decode cX5_total 24 = .ok (.iload_n 1, 1) := by decide +kernel
theorem dX5_total_25 : decode cX5_total 25 = .ok (.ifCond .ne 8, 3) := by decide +kernel
theorem dX5_total_28 : decode cX5_total 28 = .ok (.aload_n 0, 1) := by decide +kernel
theorem dX5_total_29 : decode cX5_total 29 = .ok (.getfield 88, 3) := by decide +kernel
theorem dX5_total_32 : decode cX5_total 32 = .ok (.ireturn, 1) := by decide +kernel
theorem dX5_total_33 : decode cX5_total 33 = .ok (.iload_n 1, 1) := by decide +kernel
theorem dX5_total_34 : decode cX5_total 34 = .ok (.iconst 1, 1) := by decide +kernel
theorem dX5_total_35 : decode cX5_total 35 = .ok (.if_icmp .ne 8, 3) := by decide +kernel
theorem dX5_total_38 : decode cX5_total 38 = .ok (.aload_n 0, 1) := by decide +kernel
theorem dX5_total_39 : decode cX5_total 39 = .ok (.getfield 91, 3) := by decide +kernel
theorem dX5_total_42 : decode cX5_total 42 = .ok (.ireturn, 1) := by decide +kernel
theorem dX5_total_43 : decode cX5_total 43 = .ok (.iload_n 1, 1) := by decide +kernel
theorem dX5_total_44 : decode cX5_total 44 = .ok (.iconst 2, 1) := by decide +kernel
theorem dX5_total_45 : decode cX5_total 45 = .ok (.if_icmp .ne 8, 3) := by decide +kernel
theorem dX5_total_48 : decode cX5_total 48 = .ok (.aload_n 0, 1) := by decide +kernel
theorem dX5_total_49 : decode cX5_total 49 = .ok (.getfield 94, 3) := by decide +kernel
theorem dX5_total_52 : decode cX5_total 52 = .ok (.ireturn, 1) := by decide +kernel
theorem dX5_total_53 : decode cX5_total 53 = .ok (.iconst 0, 1) := by decide +kernel
theorem dX5_total_54 : decode cX5_total 54 = .ok (.istore_n 2, 1) := by decide +kernel
theorem dX5_total_55 : decode cX5_total 55 = .ok (.iconst 0, 1) := by decide +kernel
theorem dX5_total_56 : decode cX5_total 56 = .ok (.istore_n 3, 1) := by decide +kernel
theorem dX5_total_57 : decode cX5_total 57 = .ok (.iload_n 3, 1) := by decide +kernel
theorem dX5_total_58 : decode cX5_total 58 = .ok (.iconst 5, 1) := by decide +kernel
theorem dX5_total_59 : decode cX5_total 59 = .ok (.aload_n 0, 1) := by decide +kernel
theorem dX5_total_60 : decode cX5_total 60 = .ok (.getfield 88, 3) := by decide +kernel
theorem dX5_total_63 : decode cX5_total 63 = .ok (.imul, 1) := by decide +kernel
theorem dX5_total_64 : decode cX5_total 64 = .ok (.if_icmp .ge 31, 3) := by decide +kernel
theorem dX5_total_67 : decode cX5_total 67 = .ok (.iload_n 1, 1) := by decide +kernel
theorem dX5_total_68 : decode cX5_total 68 = .ok (.iconst 3, 1) := by decide +kernel
theorem dX5_total_69 : decode cX5_total 69 = .ok (.if_icmp .ne 26, 3) := by decide +kernel
theorem dX5_total_72 : decode cX5_total 72 = .ok (.iload_n 2, 1) := by decide +kernel
theorem dX5_total_73 : decode cX5_total 73 = .ok (.aload_n 0, 1) := by decide +kernel
theorem dX5_total_74 : decode cX5_total 74 = .ok (.getfield 39, 3) := by decide +kernel
theorem dX5_total_77 : decode cX5_total 77 = .ok (.iload_n 3, 1) := by decide +kernel
theorem dX5_total_78 : decode cX5_total 78 = .ok (.baload, 1) := by decide +kernel
theorem dX5_total_79 : decode cX5_total 79 = .ok (.ifCond .eq 7, 3) := by decide +kernel
theorem dX5_total_82 : decode cX5_total 82 = .ok (.iconst 1, 1) := by decide +kernel
theorem dX5_total_83 : decode cX5_total 83 = .ok (.goto 4, 3) := by decide +kernel
theorem dX5_total_86 : decode cX5_total 86 = .ok (.iconst 0, 1) := by decide +kernel
theorem dX5_total_87 : decode cX5_total 87 = .ok (.iadd, 1) := by decide +kernel
theorem dX5_total_88 : decode cX5_total 88 = .ok (.istore_n 2, 1) := by decide +kernel
theorem dX5_total_89 : decode cX5_total 89 = .ok (.iinc 3 1, 3) := by decide +kernel
theorem dX5_total_92 : decode cX5_total 92 = .ok (.goto (-35), 3) := by decide +kernel
theorem dX5_total_95 : decode cX5_total 95 = .ok (.iconst 0, 1) := by decide +kernel
theorem dX5_total_96 : decode cX5_total 96 = .ok (.istore_n 3, 1) := by decide +kernel
theorem dX5_total_97 : decode cX5_total 97 = .ok (.iload_n 3, 1) := by decide +kernel
theorem dX5_total_98 : decode cX5_total 98 = .ok (.aload_n 0, 1) := by decide +kernel
theorem dX5_total_99 : decode cX5_total 99 = .ok (.getfield 7, 3) := by decide +kernel
theorem dX5_total_102 : decode cX5_total 102 = .ok (.if_icmp .ge 31, 3) := by decide +kernel
theorem dX5_total_105 : decode cX5_total 105 = .ok (.iload_n 1, 1) := by decide +kernel
theorem dX5_total_106 : decode cX5_total 106 = .ok (.iconst 4, 1) := by decide +kernel
theorem dX5_total_107 : decode cX5_total 107 = .ok (.if_icmp .ne 26, 3) := by decide +kernel
theorem dX5_total_110 : decode cX5_total 110 = .ok (.iload_n 2, 1) := by decide +kernel
theorem dX5_total_111 : decode cX5_total 111 = .ok (.aload_n 0, 1) := by decide +kernel
theorem dX5_total_112 : decode cX5_total 112 = .ok (.getfield 17, 3) := by decide +kernel
theorem dX5_total_115 : decode cX5_total 115 = .ok (.iload_n 3, 1) := by decide +kernel
theorem dX5_total_116 : decode cX5_total 116 = .ok (.baload, 1) := by decide +kernel
theorem dX5_total_117 : decode cX5_total 117 = .ok (.ifCond .eq 7, 3) := by decide +kernel
theorem dX5_total_120 : decode cX5_total 120 = .ok (.iconst 0, 1) := by decide +kernel
theorem dX5_total_121 : decode cX5_total 121 = .ok (.goto 4, 3) := by decide +kernel
theorem dX5_total_124 : decode cX5_total 124 = .ok (.iconst 1, 1) := by decide +kernel
theorem dX5_total_125 : decode cX5_total 125 = .ok (.iadd, 1) := by decide +kernel
theorem dX5_total_126 : decode cX5_total 126 = .ok (.istore_n 2, 1) := by decide +kernel
theorem dX5_total_127 : decode cX5_total 127 = .ok (.iinc 3 1, 3) := by decide +kernel
theorem dX5_total_130 : decode cX5_total 130 = .ok (.goto (-33), 3) := by decide +kernel
theorem dX5_total_133 : decode cX5_total 133 = .ok (.iload_n 2, 1) := by decide +kernel
theorem dX5_total_134 : decode cX5_total 134 = .ok (.ireturn, 1) := by decide +kernel
theorem dJ6_bitCount_0f7a4_0 : decode cJ6_bitCount_0f7a4 0 = .ok (.iload_n 0, 1) := by decide +kernel
theorem dJ6_bitCount_0f7a4_1 : decode cJ6_bitCount_0f7a4 1 = .ok (.iload_n 0, 1) := by decide +kernel
theorem dJ6_bitCount_0f7a4_2 : decode cJ6_bitCount_0f7a4 2 = .ok (.iconst 1, 1) := by decide +kernel
theorem dJ6_bitCount_0f7a4_3 : decode cJ6_bitCount_0f7a4 3 = .ok (.iushr, 1) := by decide +kernel
theorem dJ6_bitCount_0f7a4_4 : decode cJ6_bitCount_0f7a4 4 = .ok (.ldc_w 265, 3) := by decide +kernel
theorem dJ6_bitCount_0f7a4_7 : decode cJ6_bitCount_0f7a4 7 = .ok (.iand, 1) := by decide +kernel
theorem dJ6_bitCount_0f7a4_8 : decode cJ6_bitCount_0f7a4 8 = .ok (.isub, 1) := by decide +kernel
theorem dJ6_bitCount_0f7a4_9 : decode cJ6_bitCount_0f7a4 9 = .ok (.istore_n 0, 1) := by decide +kernel
theorem dJ6_bitCount_0f7a4_10 : decode cJ6_bitCount_0f7a4 10 = .ok (.iload_n 0, 1) := by decide +kernel
theorem dJ6_bitCount_0f7a4_11 : decode cJ6_bitCount_0f7a4 11 = .ok (.ldc_w 266, 3) := by decide +kernel
theorem dJ6_bitCount_0f7a4_14 : decode cJ6_bitCount_0f7a4 14 = .ok (.iand, 1) := by decide +kernel
theorem dJ6_bitCount_0f7a4_15 : decode cJ6_bitCount_0f7a4 15 = .ok (.iload_n 0, 1) := by decide +kernel
theorem dJ6_bitCount_0f7a4_16 : decode cJ6_bitCount_0f7a4 16 = .ok (.iconst 2, 1) := by decide +kernel
theorem dJ6_bitCount_0f7a4_17 : decode cJ6_bitCount_0f7a4 17 = .ok (.iushr, 1) := by decide +kernel
theorem dJ6_bitCount_0f7a4_18 : decode cJ6_bitCount_0f7a4 18 = .ok (.ldc_w 266, 3) := by decide +kernel
theorem dJ6_bitCount_0f7a4_21 : decode cJ6_bitCount_0f7a4 21 = .ok (.iand, 1) := by decide +kernel
theorem dJ6_bitCount_0f7a4_22 : decode cJ6_bitCount_0f7a4 22 = .ok (.iadd, 1) := by decide +kernel
theorem dJ6_bitCount_0f7a4_23 : decode cJ6_bitCount_0f7a4 23 = .ok (.istore_n 0, 1) := by decide +kernel
theorem dJ6_bitCount_0f7a4_24 : decode cJ6_bitCount_0f7a4 24 = .ok (.iload_n 0, 1) := by decide +kernel
theorem dJ6_bitCount_0f7a4_25 : decode cJ6_bitCount_0f7a4 25 = .ok (.iload_n 0, 1) := by decide +kernel
theorem dJ6_bitCount_0f7a4_26 : decode cJ6_bitCount_0f7a4 26 = .ok (.iconst 4, 1) := by decide +kernel
theorem dJ6_bitCount_0f7a4_27 : decode cJ6_bitCount_0f7a4 27 = .ok (.iushr, 1) := by decide +kernel
theorem dJ6_bitCount_0f7a4_28 : decode cJ6_bitCount_0f7a4 28 = .ok (.iadd, 1) := by decide +kernel
theorem dJ6_bitCount_0f7a4_29 : decode cJ6_bitCount_0f7a4 29 = .ok (.ldc_w 267, 3) := by decide +kernel
theorem dJ6_bitCount_0f7a4_32 : decode cJ6_bitCount_0f7a4 32 = .ok (.iand, 1) := by decide +kernel
theorem dJ6_bitCount_0f7a4_33 : decode cJ6_bitCount_0f7a4 33 = .ok (.istore_n 0, 1) := by decide +kernel
theorem dJ6_bitCount_0f7a4_34 : decode cJ6_bitCount_0f7a4 34 = .ok (.iload_n 0, 1) := by decide +kernel
theorem dJ6_bitCount_0f7a4_35 : decode cJ6_bitCount_0f7a4 35 = .ok (.iload_n 0, 1) := by decide +kernel
theorem dJ6_bitCount_0f7a4_36 : decode cJ6_bitCount_0f7a4 36 = .ok (.bipush 8, 2) := by decide +kernel
theorem dJ6_bitCount_0f7a4_38 : decode cJ6_bitCount_0f7a4 38 = .ok (.iushr, 1) := by decide +kernel
theorem dJ6_bitCount_0f7a4_39 : decode cJ6_bitCount_0f7a4 39 = .ok (.iadd, 1) := by decide +kernel
theorem dJ6_bitCount_0f7a4_40 : decode cJ6_bitCount_0f7a4 40 = .ok (.istore_n 0, 1) := by decide +kernel
theorem dJ6_bitCount_0f7a4_41 : decode cJ6_bitCount_0f7a4 41 = .ok (.iload_n 0, 1) := by decide +kernel
theorem dJ6_bitCount_0f7a4_42 : decode cJ6_bitCount_0f7a4 42 = .ok (.iload_n 0, 1) := by decide +kernel
theorem dJ6_bitCount_0f7a4_43 : decode cJ6_bitCount_0f7a4 43 = .ok (.bipush 16, 2) := by decide +kernel
theorem dJ6_bitCount_0f7a4_45 : decode cJ6_bitCount_0f7a4 45 = .ok (.iushr, 1) := by decide +kernel
theorem dJ6_bitCount_0f7a4_46 : decode cJ6_bitCount_0f7a4 46 = .ok (.iadd, 1) := by decide +kernel
theorem dJ6_bitCount_0f7a4_47 : decode cJ6_bitCount_0f7a4 47 = .ok (.istore_n 0, 1) := by decide +kernel
theorem dJ6_bitCount_0f7a4_48 : decode cJ6_bitCount_0f7a4 48 = .ok (.iload_n 0, 1) := by decide +kernel
theorem dJ6_bitCount_0f7a4_49 : decode cJ6_bitCount_0f7a4 49 = .ok (.bipush 63, 2) := by decide +kernel
theorem dJ6_bitCount_0f7a4_51 : decode cJ6_bitCount_0f7a4 51 = .ok (.iand, 1) := by decide +kernel
theorem dJ6_bitCount_0f7a4_52 : decode cJ6_bitCount_0f7a4 52 = .ok (.ireturn, 1) := by decide +kernel
theorem dJ9_max_7cf53_0 : decode cJ9_max_7cf53 0 = .ok (.iload_n 0, 1) := by decide +kernel
theorem dJ9_max_7cf53_1 : decode cJ9_max_7cf53 1 = .ok (.iload_n 1, 1) := by decide +kernel
theorem dJ9_max_7cf53_2 : decode cJ9_max_7cf53 2 = .ok (.if_icmp .lt 7, 3) := by decide +kernel
theorem dJ9_max_7cf53_5 : decode cJ9_max_7cf53 5 = .ok (.iload_n 0, 1) := by decide +kernel
theorem dJ9_max_7cf53_6 : decode cJ9_max_7cf53 6 = .ok (.goto 4, 3) := by decide +kernel
theorem dJ9_max_7cf53_9 : decode cJ9_max_7cf53 9 = .ok (.iload_n 1, 1) := by decide +kernel
theorem dJ9_max_7cf53_10 : decode cJ9_max_7cf53 10 = .ok (.ireturn, 1) := by decide +kernel
theorem dJ9_min_7cf53_0 : decode cJ9_min_7cf53 0 = .ok (.iload_n 0, 1) := by decide +kernel
theorem dJ9_min_7cf53_1 : decode cJ9_min_7cf53 1 = .ok (.iload_n 1, 1) := by decide +kernel
theorem dJ9_min_7cf53_2 : decode cJ9_min_7cf53 2 = .ok (.if_icmp .gt 7, 3) := by decide +kernel
theorem dJ9_min_7cf53_5 : decode cJ9_min_7cf53 5 = .ok (.iload_n 0, 1) := by decide +kernel
theorem dJ9_min_7cf53_6 : decode cJ9_min_7cf53 6 = .ok (.goto 4, 3) := by decide +kernel
theorem dJ9_min_7cf53_9 : decode cJ9_min_7cf53 9 = .ok (.iload_n 1, 1) := by decide +kernel
theorem dJ9_min_7cf53_10 : decode cJ9_min_7cf53 10 = .ok (.ireturn, 1) := by decide +kernel
theorem dJxe7f93_init_da8c8_0 : decode cJxe7f93_init_da8c8 0 = .ok (.aload_n 0, 1) := by decide +kernel
theorem dJxe7f93_init_da8c8_1 : decode cJxe7f93_init_da8c8 1 = .ok (.invokespecial 1, 3) := by decide +kernel
theorem dJxe7f93_init_da8c8_4 : decode cJxe7f93_init_da8c8 4 = .ok (.return_, 1) := by decide +kernel
theorem dJxa1e45_init_da8c8_0 : decode cJxa1e45_init_da8c8 0 = .ok (.aload_n 0, 1) := by decide +kernel
theorem dJxa1e45_init_da8c8_1 : decode cJxa1e45_init_da8c8 1 = .ok (.invokespecial 1, 3) := by decide +kernel
theorem dJxa1e45_init_da8c8_4 : decode cJxa1e45_init_da8c8 4 = .ok (.return_, 1) := by decide +kernel
theorem dJxc12de_init_da8c8_0 : decode cJxc12de_init_da8c8 0 = .ok (.aload_n 0, 1) := by decide +kernel
theorem dJxc12de_init_da8c8_1 : decode cJxc12de_init_da8c8 1 = .ok (.invokespecial 1, 3) := by decide +kernel
theorem dJxc12de_init_da8c8_4 : decode cJxc12de_init_da8c8 4 = .ok (.aload_n 0, 1) := by decide +kernel
theorem dJxc12de_init_da8c8_5 : decode cJxc12de_init_da8c8 5 = .ok (.iconst 0, 1) := by decide +kernel
theorem dJxc12de_init_da8c8_6 : decode cJxc12de_init_da8c8 6 = .ok (.putfield 7, 3) := by decide +kernel
theorem dJxc12de_init_da8c8_9 : decode cJxc12de_init_da8c8 9 = .ok (.return_, 1) := by decide +kernel
theorem dJx4a65c_init_da8c8_0 : decode cJx4a65c_init_da8c8 0 = .ok (.aload_n 0, 1) := by decide +kernel
theorem dJx4a65c_init_da8c8_1 : decode cJx4a65c_init_da8c8 1 = .ok (.invokespecial 1, 3) := by decide +kernel
theorem dJx4a65c_init_da8c8_4 : decode cJx4a65c_init_da8c8 4 = .ok (.aload_n 0, 1) := by decide +kernel
theorem dJx4a65c_init_da8c8_5 : decode cJx4a65c_init_da8c8 5 = .ok (.getstatic 39, 3) := by decide +kernel
theorem dJx4a65c_init_da8c8_8 : decode cJx4a65c_init_da8c8 8 = .ok (.putfield 9, 3) := by decide +kernel
theorem dJx4a65c_init_da8c8_11 : decode cJx4a65c_init_da8c8 11 = .ok (.return_, 1) := by decide +kernel
theorem dJx4a65c_grow_92f84_0 : decode cJx4a65c_grow_92f84 0 = .ok (.aload_n 0, 1) := by decide +kernel
theorem dJx4a65c_grow_92f84_1 : decode cJx4a65c_grow_92f84 1 = .ok (.getfield 9, 3) := by decide +kernel
theorem dJx4a65c_grow_92f84_4 : decode cJx4a65c_grow_92f84 4 = .ok (.arraylength, 1) := by decide +kernel
theorem dJx4a65c_grow_92f84_5 : decode cJx4a65c_grow_92f84 5 = .ok (.istore_n 2, 1) := by decide +kernel
theorem dJx4a65c_grow_92f84_6 : decode cJx4a65c_grow_92f84 6 = .ok (.iload_n 2, 1) := by decide +kernel
theorem dJx4a65c_grow_92f84_7 : decode cJx4a65c_grow_92f84 7 = .ok (.ifCond .gt 13, 3) := by decide +kernel
theorem dJx4a65c_grow_92f84_10 : decode cJx4a65c_grow_92f84 10 = .ok (.aload_n 0, 1) := by decide +kernel
theorem dJx4a65c_grow_92f84_11 : decode cJx4a65c_grow_92f84 11 = .ok (.getfield 9, 3) := by decide +kernel
theorem dJx4a65c_grow_92f84_14 : decode cJx4a65c_grow_92f84 14 = .ok (.getstatic 39, 3) := by decide +kernel
theorem dJx4a65c_grow_92f84_17 : decode cJx4a65c_grow_92f84 17 = .ok (.if_acmp .eq 28, 3) := by decide +kernel
theorem dJx4a65c_grow_92f84_20 : decode cJx4a65c_grow_92f84 20 = .ok (.iload_n 2, 1) := by decide +kernel
theorem dJx4a65c_grow_92f84_21 : decode cJx4a65c_grow_92f84 21 = .ok (.iload_n 1, 1) := by decide +kernel
theorem dJx4a65c_grow_92f84_22 : decode cJx4a65c_grow_92f84 22 = .ok (.iload_n 2, 1) := by decide +kernel
theorem dJx4a65c_grow_92f84_23 : decode cJx4a65c_grow_92f84 23 = .ok (.isub, 1) := by decide +kernel
theorem dJx4a65c_grow_92f84_24 : decode cJx4a65c_grow_92f84 24 = .ok (.iload_n 2, 1) := by decide +kernel
theorem dJx4a65c_grow_92f84_25 : decode cJx4a65c_grow_92f84 25 = .ok (.iconst 1, 1) := by decide +kernel
theorem dJx4a65c_grow_92f84_26 : decode cJx4a65c_grow_92f84 26 = .ok (.ishr, 1) := by decide +kernel
theorem dJx4a65c_grow_92f84_27 : decode cJx4a65c_grow_92f84 27 = .ok (.invokestatic 73, 3) := by decide +kernel
theorem dJx4a65c_grow_92f84_30 : decode cJx4a65c_grow_92f84 30 = .ok (.istore_n 3, 1) := by decide +kernel
theorem dJx4a65c_grow_92f84_31 : decode cJx4a65c_grow_92f84 31 = .ok (.aload_n 0, 1) := by decide +kernel
theorem dJx4a65c_grow_92f84_32 : decode cJx4a65c_grow_92f84 32 = .ok (.aload_n 0, 1) := by decide +kernel
theorem dJx4a65c_grow_92f84_33 : decode cJx4a65c_grow_92f84 33 = .ok (.getfield 9, 3) := by decide +kernel
theorem dJx4a65c_grow_92f84_36 : decode cJx4a65c_grow_92f84 36 = .ok (.iload_n 3, 1) := by decide +kernel
theorem dJx4a65c_grow_92f84_37 : decode cJx4a65c_grow_92f84 37 = .ok (.invokestatic 66, 3) := by decide +kernel
theorem dJx4a65c_grow_92f84_40 : decode cJx4a65c_grow_92f84 40 = .ok (.dup_x1, 1) := by decide +kernel
theorem dJx4a65c_grow_92f84_41 : decode cJx4a65c_grow_92f84 41 = .ok (.putfield 9, 3) := by decide +kernel
theorem dJx4a65c_grow_92f84_44 : decode cJx4a65c_grow_92f84 44 = .ok (.areturn, 1) := by decide +kernel
theorem dJx4a65c_grow_92f84_45 : decode cJx4a65c_grow_92f84 45 = .ok (.aload_n 0, 1) := by decide +kernel
theorem dJx4a65c_grow_92f84_46 : decode cJx4a65c_grow_92f84 46 = .ok (.bipush 10, 2) := by decide +kernel
theorem dJx4a65c_grow_92f84_48 : decode cJx4a65c_grow_92f84 48 = .ok (.iload_n 1, 1) := by decide +kernel
theorem dJx4a65c_grow_92f84_49 : decode cJx4a65c_grow_92f84 49 = .ok (.invokestatic 79, 3) := by decide +kernel
theorem dJx4a65c_grow_92f84_52 : decode cJx4a65c_grow_92f84 52 = .ok (.anewarray 7, 3) := by decide +kernel
theorem dJx4a65c_grow_92f84_55 : decode cJx4a65c_grow_92f84 55 = .ok (.dup_x1, 1) := by decide +kernel
theorem dJx4a65c_grow_92f84_56 : decode cJx4a65c_grow_92f84 56 = .ok (.putfield 9, 3) := by decide +kernel
theorem dJx4a65c_grow_92f84_59 : decode cJx4a65c_grow_92f84 59 = .ok (.areturn, 1) := by decide +kernel
theorem dJx4a65c_grow_d5877_0 : decode cJx4a65c_grow_d5877 0 = .ok (.aload_n 0, 1) := by decide +kernel
theorem dJx4a65c_grow_d5877_1 : decode cJx4a65c_grow_d5877 1 = .ok (.aload_n 0, 1) := by decide +kernel
theorem dJx4a65c_grow_d5877_2 : decode cJx4a65c_grow_d5877 2 = .ok (.getfield 48, 3) := by decide +kernel
theorem dJx4a65c_grow_d5877_5 : decode cJx4a65c_grow_d5877 5 = .ok (.iconst 1, 1) := by decide +kernel
theorem dJx4a65c_grow_d5877_6 : decode cJx4a65c_grow_d5877 6 = .ok (.iadd, 1) := by decide +kernel
theorem dJx4a65c_grow_d5877_7 : decode cJx4a65c_grow_d5877 7 = .ok (.invokevirtual 69, 3) := by decide +kernel
theorem dJx4a65c_grow_d5877_10 : decode cJx4a65c_grow_d5877 10 = .ok (.areturn, 1) := by decide +kernel
theorem dJx4a65c_size_8abf5_0 : decode cJx4a65c_size_8abf5 0 = .ok (.aload_n 0, 1) := by decide +kernel
