theorem dX5_byteOf_13 : decode cX5_byteOf 13 = .ok (.iconst 1, 1) := by decide +kernel
theorem dX5_byteOf_14 : decode cX5_byteOf 14 = .ok (.goto 4, 3) := by decide +kernel
theorem dX5_byteOf_17 : decode cX5_byteOf 17 = .ok (.iconst 0, 1) := by decide +kernel
theorem dX5_byteOf_18 : decode cX5_byteOf 18 = .ok (.iconst 1, 1) := by decide +kernel
theorem dX5_byteOf_19 : decode cX5_byteOf 19 = .ok (.invokevirtual 97, 3) := by decide +kernel
theorem dX5_byteOf_22 : decode cX5_byteOf 22 = .ok (.ifCond .eq 5, 3) := by decide +kernel
theorem dX5_byteOf_25 : decode cX5_byteOf 25 = .ok (.iconst 0, 1) := by decide +kernel
theorem dX5_byteOf_26 : decode cX5_byteOf 26 = .ok (.ireturn, 1) := by decide +kernel
theorem dX5_byteOf_27 : decode cX5_byteOf 27 = .ok (.aload_n 0, 1) := by decide +kernel
theorem dX5_byteOf_28 : decode cX5_byteOf 28 = .ok (.getfield 72, 3) := by decide +kernel
theorem dX5_byteOf_31 : decode cX5_byteOf 31 = .ok (.iconst 4, 1) := by decide +kernel
theorem dX5_byteOf_32 : decode cX5_byteOf 32 = .ok (.iload_n 1, 1) := by decide +kernel
theorem dX5_byteOf_33 : decode cX5_byteOf 33 = .ok (.imul, 1) := by decide +kernel
theorem dX5_byteOf_34 : decode cX5_byteOf 34 = .ok (.iaload, 1) := by decide +kernel
theorem dX5_byteOf_35 : decode cX5_byteOf 35 = .ok (.istore_n 3, 1) := by decide +kernel
theorem dX5_byteOf_36 : decode cX5_byteOf 36 = .ok (.aload_n 0, 1) := by decide +kernel
theorem dX5_byteOf_37 : decode cX5_byteOf 37 = .ok (.getfield 72, 3) := by decide +kernel
theorem dX5_byteOf_40 : decode cX5_byteOf 40 = .ok (.iconst 4, 1) := by decide +kernel
theorem dX5_byteOf_41 : decode cX5_byteOf 41 = .ok (.iload_n 1, 1) := by decide +kernel
theorem dX5_byteOf_42 : decode cX5_byteOf 42 = .ok (.imul, 1) := by decide +kernel
theorem dX5_byteOf_43 : decode cX5_byteOf 43 = .ok (.iconst 2, 1) := by decide +kernel
theorem dX5_byteOf_44 : decode cX5_byteOf 44 = .ok (.iadd, 1) := by decide +kernel
theorem dX5_byteOf_45 : decode cX5_byteOf 45 = .ok (.iaload, 1) := by decide +kernel
theorem dX5_byteOf_46 : decode cX5_byteOf 46 = .ok (.istore 4, 2) := by decide +kernel
theorem dX5_byteOf_48 : decode cX5_byteOf 48 = .ok (.aload_n 0, 1) := by decide +kernel
theorem dX5_byteOf_49 : decode cX5_byteOf 49 = .ok (.getfield 72, 3) := by decide +kernel
theorem dX5_byteOf_52 : decode cX5_byteOf 52 = .ok (.iconst 4, 1) := by decide +kernel
theorem dX5_byteOf_53 : decode cX5_byteOf 53 = .ok (.iload_n 1, 1) := by decide +kernel
theorem dX5_byteOf_54 : decode cX5_byteOf 54 = .ok (.imul, 1) := by decide +kernel
theorem dX5_byteOf_55 : decode cX5_byteOf 55 = .ok (.iconst 3, 1) := by decide +kernel
theorem dX5_byteOf_56 : decode cX5_byteOf 56 = .ok (.iadd, 1) := by decide +kernel
theorem dX5_byteOf_57 : decode cX5_byteOf 57 = .ok (.iaload, 1) := by decide +kernel
theorem dX5_byteOf_58 : decode cX5_byteOf 58 = .ok (.istore 5, 2) := by decide +kernel
theorem dX5_byteOf_60 : decode cX5_byteOf 60 = .ok (.aload_n 0, 1) := by decide +kernel
theorem dX5_byteOf_61 : decode cX5_byteOf 61 = .ok (.iconst 0, 1) := by decide +kernel
theorem dX5_byteOf_62 : decode cX5_byteOf 62 = .ok (.putfield 165, 3) := by decide +kernel
theorem dX5_byteOf_65 : decode cX5_byteOf 65 = .ok (.aload_n 0, 1) := by decide +kernel
theorem dX5_byteOf_66 : decode cX5_byteOf 66 = .ok (.iload_n 3, 1) := by decide +kernel
theorem dX5_byteOf_67 : decode cX5_byteOf 67 = .ok (.invokevirtual 168, 3) := by decide +kernel
theorem dX5_byteOf_70 : decode cX5_byteOf 70 = .ok (.aload_n 0, 1) := by decide +kernel
theorem dX5_byteOf_71 : decode cX5_byteOf 71 = .ok (.aload_n 0, 1) := by decide +kernel
theorem dX5_byteOf_72 : decode cX5_byteOf 72 = .ok (.getfield 72, 3) := by decide +kernel
theorem dX5_byteOf_75 : decode cX5_byteOf 75 = .ok (.iconst 4, 1) := by decide +kernel
theorem dX5_byteOf_76 : decode cX5_byteOf 76 = .ok (.iload_n 1, 1) := by decide +kernel
theorem dX5_byteOf_77 : decode cX5_byteOf 77 = .ok (.imul, 1) := by decide +kernel
theorem dX5_byteOf_78 : decode cX5_byteOf 78 = .ok (.iconst 1, 1) := by decide +kernel
theorem dX5_byteOf_79 : decode cX5_byteOf 79 = .ok (.iadd, 1) := by decide +kernel
theorem dX5_byteOf_80 : decode cX5_byteOf 80 = .ok (.iaload, 1) := by decide +kernel
theorem dX5_byteOf_81 : decode cX5_byteOf 81 = .ok (.invokevirtual 168, 3) := by decide +kernel
theorem dX5_byteOf_84 : decode cX5_byteOf 84 = .ok (.aload_n 0, 1) := by decide +kernel
theorem dX5_byteOf_85 : decode cX5_byteOf 85 = .ok (.iload 4, 2) := by decide +kernel
theorem dX5_byteOf_87 : decode cX5_byteOf 87 = .ok (.invokevirtual 168, 3) := by decide +kernel
theorem dX5_byteOf_90 : decode cX5_byteOf 90 = .ok (.aload_n 0, 1) := by decide +kernel
theorem dX5_byteOf_91 : decode cX5_byteOf 91 = .ok (.iload 5, 2) := by decide +kernel
theorem dX5_byteOf_93 : decode cX5_byteOf 93 = .ok (.invokevirtual 171, 3) := by decide +kernel
theorem dX5_byteOf_96 : decode cX5_byteOf 96 = .ok (.iload_n 3, 1) := by decide +kernel
theorem dX5_byteOf_97 : decode cX5_byteOf 97 = .ok (.iconst 1, 1) := by decide +kernel
theorem dX5_byteOf_98 : decode cX5_byteOf 98 = .ok (.if_icmp .eq 8, 3) := by decide +kernel
theorem dX5_byteOf_101 : decode cX5_byteOf 101 = .ok (.iload_n 3, 1) := by decide +kernel
theorem dX5_byteOf_102 : decode cX5_byteOf 102 = .ok (.iconst 5, 1) := by decide +kernel
theorem dX5_byteOf_103 : decode cX5_byteOf 103 = .ok (.if_icmp .ne 9, 3) := by decide +kernel
theorem dX5_byteOf_106 : decode cX5_byteOf 106 = .ok (.aload_n 0, 1) := by decide +kernel
theorem dX5_byteOf_107 : decode cX5_byteOf 107 = .ok (.iload 5, 2) := by decide +kernel
theorem dX5_byteOf_109 : decode cX5_byteOf 109 = .ok (.invokevirtual 174, 3) := by decide +kernel
theorem dX5_byteOf_112 : decode cX5_byteOf 112 = .ok (.iload_n 3, 1) := by decide +kernel
theorem dX5_byteOf_113 : decode cX5_byteOf 113 = .ok (.iconst 5, 1) := by decide +kernel
theorem dX5_byteOf_114 : decode cX5_byteOf 114 = .ok (.if_icmp .ne 14, 3) := by decide +kernel
theorem dX5_byteOf_117 : decode cX5_byteOf 117 = .ok (.aload_n 0, 1) := by decide +kernel
theorem dX5_byteOf_118 : decode cX5_byteOf 118 = .ok (.aload_n 0, 1) := by decide +kernel
theorem dX5_byteOf_119 : decode cX5_byteOf 119 = .ok (.getfield 30, 3) := by decide +kernel
theorem dX5_byteOf_122 : decode cX5_byteOf 122 = .ok (.iload 5, 2) := by decide +kernel
theorem dX5_byteOf_124 : decode cX5_byteOf 124 = .ok (.iaload, 1) := by decide +kernel
theorem dX5_byteOf_125 : decode cX5_byteOf 125 = .ok (.invokevirtual 171, 3) := by decide +kernel
theorem dX5_byteOf_128 : decode cX5_byteOf 128 = .ok (.iload_n 3, 1) := by decide +kernel
theorem dX5_byteOf_129 : decode cX5_byteOf 129 = .ok (.iconst 1, 1) := by decide +kernel
theorem dX5_byteOf_130 : decode cX5_byteOf 130 = .ok (.if_icmp .eq 8, 3) := by decide +kernel
theorem dX5_byteOf_133 : decode cX5_byteOf 133 = .ok (.iload_n 3, 1) := by decide +kernel
theorem dX5_byteOf_134 : decode cX5_byteOf 134 = .ok (.iconst 5, 1) := by decide +kernel
theorem dX5_byteOf_135 : decode cX5_byteOf 135 = .ok (.if_icmp .ne 125, 3) := by decide +kernel
theorem dX5_byteOf_138 : decode cX5_byteOf 138 = .ok (.aload_n 0, 1) := by decide +kernel
theorem dX5_byteOf_139 : decode cX5_byteOf 139 = .ok (.getfield 165, 3) := by decide +kernel
theorem dX5_byteOf_142 : decode cX5_byteOf 142 = .ok (.istore 6, 2) := by decide +kernel
theorem dX5_byteOf_144 : decode cX5_byteOf 144 = .ok (.aload_n 0, 1) := by decide +kernel
theorem dX5_byteOf_145 : decode cX5_byteOf 145 = .ok (.iconst 0, 1) := by decide +kernel
theorem dX5_byteOf_146 : decode cX5_byteOf 146 = .ok (.invokevirtual 168, 3) := by decide +kernel
theorem dX5_byteOf_149 : decode cX5_byteOf 149 = .ok (.iconst 0, 1) := by decide +kernel
theorem dX5_byteOf_150 : decode cX5_byteOf 150 = .ok (.istore 7, 2) := by decide +kernel
theorem dX5_byteOf_152 : decode cX5_byteOf 152 = .ok (.iload 7, 2) := by decide +kernel
theorem dX5_byteOf_154 : decode cX5_byteOf 154 = .ok (.bipush 20, 2) := by decide +kernel
theorem dX5_byteOf_156 : decode cX5_byteOf 156 = .ok (.if_icmp .ge 104, 3) := by decide +kernel
theorem dX5_byteOf_159 : decode cX5_byteOf 159 = .ok (.aload_n 0, 1) := by decide +kernel
theorem dX5_byteOf_160 : decode cX5_byteOf 160 = .ok (.getfield 51, 3) := by decide +kernel
theorem dX5_byteOf_163 : decode cX5_byteOf 163 = .ok (.bipush 20, 2) := by decide +kernel
theorem dX5_byteOf_165 : decode cX5_byteOf 165 = .ok (.iload 5, 2) := by decide +kernel
theorem dX5_byteOf_167 : decode cX5_byteOf 167 = .ok (.imul, 1) := by decide +kernel
theorem dX5_byteOf_168 : decode cX5_byteOf 168 = .ok (.iload 7, 2) := by decide +kernel
theorem dX5_byteOf_170 : decode cX5_byteOf 170 = .ok (.iadd, 1) := by decide +kernel
theorem dX5_byteOf_171 : decode cX5_byteOf 171 = .ok (.baload, 1) := by decide +kernel
theorem dX5_byteOf_172 : decode cX5_byteOf 172 = .ok (.ifCond .eq 82, 3) := by decide +kernel
theorem dX5_byteOf_175 : decode cX5_byteOf 175 = .ok (.iload_n 3, 1) := by decide +kernel
theorem dX5_byteOf_176 : decode cX5_byteOf 176 = .ok (.iconst 1, 1) := by decide +kernel
theorem dX5_byteOf_177 : decode cX5_byteOf 177 = .ok (.if_icmp .ne 18, 3) := by decide +kernel
theorem dX5_byteOf_180 : decode cX5_byteOf 180 = .ok (.iload 7, 2) := by decide +kernel
theorem dX5_byteOf_182 : decode cX5_byteOf 182 = .ok (.aload_n 0, 1) := by decide +kernel
theorem dX5_byteOf_183 : decode cX5_byteOf 183 = .ok (.getfield 7, 3) := by decide +kernel
theorem dX5_byteOf_186 : decode cX5_byteOf 186 = .ok (.irem, 1) := by decide +kernel
theorem dX5_byteOf_187 : decode cX5_byteOf 187 = .ok (.iload 4, 2) := by decide +kernel
theorem dX5_byteOf_189 : decode cX5_byteOf 189 = .ok (.if_icmp .eq 6, 3) := by decide +kernel
theorem dX5_byteOf_192 : decode cX5_byteOf 192 = .ok (.goto 62, 3) := by decide +kernel
theorem dX5_byteOf_195 : decode cX5_byteOf 195 = .ok (.aload_n 0, 1) := by decide +kernel
theorem dX5_byteOf_196 : decode cX5_byteOf 196 = .ok (.getfield 75, 3) := by decide +kernel
theorem dX5_byteOf_199 : decode cX5_byteOf 199 = .ok (.iload 6, 2) := by decide +kernel
theorem dX5_byteOf_201 : decode cX5_byteOf 201 = .ok (.dup2, 1) := by decide +kernel
theorem dX5_byteOf_202 : decode cX5_byteOf 202 = .ok (.iaload, 1) := by decide +kernel
theorem dX5_byteOf_203 : decode cX5_byteOf 203 = .ok (.iconst 1, 1) := by decide +kernel
theorem dX5_byteOf_204 : decode cX5_byteOf 204 = .ok (.iadd, 1) := by decide +kernel
theorem dX5_byteOf_205 : decode cX5_byteOf 205 = .ok (.iastore, 1) := by decide +kernel
theorem dX5_byteOf_206 : decode cX5_byteOf 206 = .ok (.aload_n 0, 1) := by decide +kernel
theorem dX5_byteOf_207 : decode cX5_byteOf 207 = .ok (.iload 7, 2) := by decide +kernel
theorem dX5_byteOf_209 : decode cX5_byteOf 209 = .ok (.invokevirtual 168, 3) := by decide +kernel
theorem dX5_byteOf_212 : decode cX5_byteOf 212 = .ok (.iload_n 3, 1) := by decide +kernel
theorem dX5_byteOf_213 : decode cX5_byteOf 213 = .ok (.iconst 5, 1) := by decide +kernel
theorem dX5_byteOf_214 : decode cX5_byteOf 214 = .ok (.if_icmp .ne 40, 3) := by decide +kernel
theorem dX5_byteOf_217 : decode cX5_byteOf 217 = .ok (.aload_n 0, 1) := by decide +kernel
theorem dX5_byteOf_218 : decode cX5_byteOf 218 = .ok (.aload_n 0, 1) := by decide +kernel
theorem dX5_byteOf_219 : decode cX5_byteOf 219 = .ok (.getfield 54, 3) := by decide +kernel
theorem dX5_byteOf_222 : decode cX5_byteOf 222 = .ok (.bipush 20, 2) := by decide +kernel
theorem dX5_byteOf_224 : decode cX5_byteOf 224 = .ok (.iload 5, 2) := by decide +kernel
theorem dX5_byteOf_226 : decode cX5_byteOf 226 = .ok (.imul, 1) := by decide +kernel
theorem dX5_byteOf_227 : decode cX5_byteOf 227 = .ok (.iload 7, 2) := by decide +kernel
theorem dX5_byteOf_229 : decode cX5_byteOf 229 = .ok (.iadd, 1) := by decide +kernel
theorem dX5_byteOf_230 : decode cX5_byteOf 230 = .ok (.iaload, 1) := by decide +kernel
theorem dX5_byteOf_231 : decode cX5_byteOf 231 = .ok (.bipush 16, 2) := by decide +kernel
theorem dX5_byteOf_233 : decode cX5_byteOf 233 = .ok (.ishr, 1) := by decide +kernel
theorem dX5_byteOf_234 : decode cX5_byteOf 234 = .ok (.invokevirtual 171, 3) := by decide +kernel
theorem dX5_byteOf_237 : decode cX5_byteOf 237 = .ok (.aload_n 0, 1) := by decide +kernel
theorem dX5_byteOf_238 : decode cX5_byteOf 238 = .ok (.aload_n 0, 1) := by decide +kernel
theorem dX5_byteOf_239 : decode cX5_byteOf 239 = .ok (.getfield 54, 3) := by decide +kernel
theorem dX5_byteOf_242 : decode cX5_byteOf 242 = .ok (.bipush 20, 2) := by decide +kernel
theorem dX5_byteOf_244 : decode cX5_byteOf 244 = .ok (.iload 5, 2) := by decide +kernel
theorem dX5_byteOf_246 : decode cX5_byteOf 246 = .ok (.imul, 1) := by decide +kernel
theorem dX5_byteOf_247 : decode cX5_byteOf 247 = .ok (.iload 7, 2) := by decide +kernel
theorem dX5_byteOf_249 : decode cX5_byteOf 249 = .ok (.iadd, 1) := by decide +kernel
theorem dX5_byteOf_250 : decode cX5_byteOf 250 = .ok (.iaload, 1) := by decide +kernel
theorem dX5_byteOf_251 : decode cX5_byteOf 251 = .ok (.invokevirtual 171, 3) := by decide +kernel
theorem dX5_byteOf_254 : decode cX5_byteOf 254 = .ok (.iinc 7 1, 3) := by decide +kernel
theorem dX5_byteOf_257 : decode cX5_byteOf 257 = .ok (.goto (-105), 3) := by decide +kernel
theorem dX5_byteOf_260 : decode cX5_byteOf 260 = .ok (.iload_n 3, 1) := by decide +kernel
theorem dX5_byteOf_261 : decode cX5_byteOf 261 = .ok (.iconst 5, 1) := by decide +kernel
theorem dX5_byteOf_262 : decode cX5_byteOf 262 = .ok (.if_icmp .ne 69, 3) := by decide +kernel
theorem dX5_byteOf_265 : decode cX5_byteOf 265 = .ok (.aload_n 0, 1) := by decide +kernel
theorem dX5_byteOf_266 : decode cX5_byteOf 266 = .ok (.aload_n 0, 1) := by decide +kernel
theorem dX5_byteOf_267 : decode cX5_byteOf 267 = .ok (.getfield 63, 3) := by decide +kernel
theorem dX5_byteOf_270 : decode cX5_byteOf 270 = .ok (.iload 5, 2) := by decide +kernel
theorem dX5_byteOf_272 : decode cX5_byteOf 272 = .ok (.iaload, 1) := by decide +kernel
theorem dX5_byteOf_273 : decode cX5_byteOf 273 = .ok (.invokevirtual 168, 3) := by decide +kernel
theorem dX5_byteOf_276 : decode cX5_byteOf 276 = .ok (.iconst 0, 1) := by decide +kernel
theorem dX5_byteOf_277 : decode cX5_byteOf 277 = .ok (.istore 6, 2) := by decide +kernel
theorem dX5_byteOf_279 : decode cX5_byteOf 279 = .ok (.iload 6, 2) := by decide +kernel
theorem dX5_byteOf_281 : decode cX5_byteOf 281 = .ok (.aload_n 0, 1) := by decide +kernel
theorem dX5_byteOf_282 : decode cX5_byteOf 282 = .ok (.getfield 63, 3) := by decide +kernel
theorem dX5_byteOf_285 : decode cX5_byteOf 285 = .ok (.iload 5, 2) := by decide +kernel
theorem dX5_byteOf_287 : decode cX5_byteOf 287 = .ok (.iaload, 1) := by decide +kernel
theorem dX5_byteOf_288 : decode cX5_byteOf 288 = .ok (.if_icmp .ge 43, 3) := by decide +kernel
theorem dX5_byteOf_291 : decode cX5_byteOf 291 = .ok (.aload_n 0, 1) := by decide +kernel
theorem dX5_byteOf_292 : decode cX5_byteOf 292 = .ok (.aload_n 0, 1) := by decide +kernel
theorem dX5_byteOf_293 : decode cX5_byteOf 293 = .ok (.getfield 57, 3) := by decide +kernel
theorem dX5_byteOf_296 : decode cX5_byteOf 296 = .ok (.bipush 20, 2) := by decide +kernel
theorem dX5_byteOf_298 : decode cX5_byteOf 298 = .ok (.iload 5, 2) := by decide +kernel
theorem dX5_byteOf_300 : decode cX5_byteOf 300 = .ok (.imul, 1) := by decide +kernel
theorem dX5_byteOf_301 : decode cX5_byteOf 301 = .ok (.iload 6, 2) := by decide +kernel
theorem dX5_byteOf_303 : decode cX5_byteOf 303 = .ok (.iadd, 1) := by decide +kernel
theorem dX5_byteOf_304 : decode cX5_byteOf 304 = .ok (.iaload, 1) := by decide +kernel
theorem dX5_byteOf_305 : decode cX5_byteOf 305 = .ok (.invokevirtual 168, 3) := by decide +kernel
theorem dX5_byteOf_308 : decode cX5_byteOf 308 = .ok (.aload_n 0, 1) := by decide +kernel
theorem dX5_byteOf_309 : decode cX5_byteOf 309 = .ok (.aload_n 0, 1) := by decide +kernel
theorem dX5_byteOf_310 : decode cX5_byteOf 310 = .ok (.getfield 60, 3) := by decide +kernel
theorem dX5_byteOf_313 : decode cX5_byteOf 313 = .ok (.bipush 20, 2) := by decide +kernel
theorem dX5_byteOf_315 : decode cX5_byteOf 315 = .ok (.iload 5, 2) := by decide +kernel
theorem dX5_byteOf_317 : decode cX5_byteOf 317 = .ok (.imul, 1) := by decide +kernel
theorem dX5_byteOf_318 : decode cX5_byteOf 318 = .ok (.iload 6, 2) := by decide +kernel
theorem dX5_byteOf_320 : decode cX5_byteOf 320 = .ok (.iadd, 1) := by decide +kernel
theorem dX5_byteOf_321 : decode cX5_byteOf 321 = .ok (.iaload, 1) := by decide +kernel
theorem dX5_byteOf_322 : decode cX5_byteOf 322 = .ok (.invokevirtual 168, 3) := by decide +kernel
theorem dX5_byteOf_325 : decode cX5_byteOf 325 = .ok (.iinc 6 1, 3) := by decide +kernel
theorem dX5_byteOf_328 : decode cX5_byteOf 328 = .ok (.goto (-49), 3) := by decide +kernel
theorem dX5_byteOf_331 : decode cX5_byteOf 331 = .ok (.iconst 0, 1) := by decide +kernel
theorem dX5_byteOf_332 : decode cX5_byteOf 332 = .ok (.istore 6, 2) := by decide +kernel
theorem dX5_byteOf_334 : decode cX5_byteOf 334 = .ok (.iconst 0, 1) := by decide +kernel
theorem dX5_byteOf_335 : decode cX5_byteOf 335 = .ok (.istore 7, 2) := by decide +kernel
theorem dX5_byteOf_337 : decode cX5_byteOf 337 = .ok (.iload 7, 2) := by decide +kernel
theorem dX5_byteOf_339 : decode cX5_byteOf 339 = .ok (.aload_n 0, 1) := by decide +kernel
theorem dX5_byteOf_340 : decode cX5_byteOf 340 = .ok (.getfield 165, 3) := by decide +kernel
theorem dX5_byteOf_343 : decode cX5_byteOf 343 = .ok (.if_icmp .ge 32, 3) := by decide +kernel
theorem dX5_byteOf_346 : decode cX5_byteOf 346 = .ok (.iload 6, 2) := by decide +kernel
theorem dX5_byteOf_348 : decode cX5_byteOf 348 = .ok (.iconst 3, 1) := by decide +kernel
theorem dX5_byteOf_349 : decode cX5_byteOf 349 = .ok (.ishl, 1) := by decide +kernel
theorem dX5_byteOf_350 : decode cX5_byteOf 350 = .ok (.ldc 177, 2) := by decide +kernel
theorem dX5_byteOf_352 : decode cX5_byteOf 352 = .ok (.iand, 1) := by decide +kernel
theorem dX5_byteOf_353 : decode cX5_byteOf 353 = .ok (.iload 6, 2) := by decide +kernel
theorem dX5_byteOf_355 : decode cX5_byteOf 355 = .ok (.bipush 13, 2) := by decide +kernel
theorem dX5_byteOf_357 : decode cX5_byteOf 357 = .ok (.ishr, 1) := by decide +kernel
theorem dX5_byteOf_358 : decode cX5_byteOf 358 = .ok (.ior, 1) := by decide +kernel
theorem dX5_byteOf_359 : decode cX5_byteOf 359 = .ok (.aload_n 0, 1) := by decide +kernel
theorem dX5_byteOf_360 : decode cX5_byteOf 360 = .ok (.getfield 75, 3) := by decide +kernel
theorem dX5_byteOf_363 : decode cX5_byteOf 363 = .ok (.iload 7, 2) := by decide +kernel
theorem dX5_byteOf_365 : decode cX5_byteOf 365 = .ok (.iaload, 1) := by decide +kernel
theorem dX5_byteOf_366 : decode cX5_byteOf 366 = .ok (.ixor, 1) := by decide +kernel
theorem dX5_byteOf_367 : decode cX5_byteOf 367 = .ok (.istore 6, 2) := by decide +kernel
theorem dX5_byteOf_369 : decode cX5_byteOf 369 = .ok (.iinc 7 1, 3) := by decide +kernel
theorem dX5_byteOf_372 : decode cX5_byteOf 372 = .ok (.goto (-35), 3) := by decide +kernel
theorem dX5_byteOf_375 : decode cX5_byteOf 375 = .ok (.aload_n 0, 1) := by decide +kernel
theorem dX5_byteOf_376 : decode cX5_byteOf 376 = .ok (.iload 6, 2) := by decide +kernel
theorem dX5_byteOf_378 : decode cX5_byteOf 378 = .ok (.invokevirtual 171, 3) := by decide +kernel
theorem dX5_byteOf_381 : decode cX5_byteOf 381 = .ok (.iload_n 2, 1) := by decide +kernel
theorem dX5_byteOf_382 : decode cX5_byteOf 382 = .ok (.ifCond .lt 20, 3) := by decide +kernel
theorem dX5_byteOf_385 : decode cX5_byteOf 385 = .ok (.iload_n 2, 1) := by decide +kernel
theorem dX5_byteOf_386 : decode cX5_byteOf 386 = .ok (.aload_n 0, 1) := by decide +kernel
theorem dX5_byteOf_387 : decode cX5_byteOf 387 = .ok (.getfield 165, 3) := by decide +kernel
theorem dX5_byteOf_390 : decode cX5_byteOf 390 = .ok (.if_icmp .ge 12, 3) := by decide +kernel
theorem dX5_byteOf_393 : decode cX5_byteOf 393 = .ok (.aload_n 0, 1) := by decide +kernel
theorem dX5_byteOf_394 : decode cX5_byteOf 394 = .ok (.getfield 75, 3) := by decide +kernel
theorem dX5_byteOf_397 : decode cX5_byteOf 397 = .ok (.iload_n 2, 1) := by decide +kernel
theorem dX5_byteOf_398 : decode cX5_byteOf 398 = .ok (.iaload, 1) := by decide +kernel
theorem dX5_byteOf_399 : decode cX5_byteOf 399 = .ok (.goto 4, 3) := by decide +kernel
theorem dX5_byteOf_402 : decode cX5_byteOf 402 = .ok (.iconst (-1), 1) := by decide +kernel
theorem dX5_byteOf_403 : decode cX5_byteOf 403 = .ok (.ireturn, 1) := by decide +kernel
set_option maxRecDepth 20000 in
theorem ggX5_crash_X5_isSite : GoodIn wsX5_crash wsX5_isSite := goodIn_r _ [11, 12, 18, 19, 20, 21, 22, 23, 24, 25, 26, 27, 28, 29, 30, 31, 32, 33, 34, 35, 36, 37, 38, 39, 40, 41, 42, 43, 44, 45] (by decide +kernel) (by decide +kernel)
set_option maxRecDepth 20000 in
theorem gX5_crash_X5_isSite : GoodIn wsX5_crash (wsV RX5 101 RX5 yX5_isSite wsX5_isSite) := goodIn_app (goodIn_of _ (by decide +kernel)) ggX5_crash_X5_isSite
set_option maxRecDepth 20000 in
theorem ggX5_crash_X5_fails : GoodIn wsX5_crash wsX5_fails := goodIn_r _ [16, 17, 18, 19, 20, 21, 22, 23, 24, 25, 26, 27, 28, 29, 30, 31, 32, 33, 34, 35, 36, 37, 38, 39, 40, 41, 42, 43, 44, 45] (by decide +kernel) (by decide +kernel)
set_option maxRecDepth 20000 in
theorem gX5_crash_X5_fails : GoodIn wsX5_crash (wsV RX5 97 RX5 yX5_fails wsX5_fails) := goodIn_app (goodIn_of _ (by decide +kernel)) ggX5_crash_X5_fails
theorem dX5_crash_0 : decode cX5_crash 0 = .ok (.aload_n 0, 1) := by decide +kernel
theorem dX5_crash_1 : decode cX5_crash 1 = .ok (.aload_n 0, 1) := by decide +kernel
theorem dX5_crash_2 : decode cX5_crash 2 = .ok (.iload_n 1, 1) := by decide +kernel
theorem dX5_crash_3 : decode cX5_crash 3 = .ok (.invokevirtual 101, 3) := by decide +kernel
theorem dX5_crash_6 : decode cX5_crash 6 = .ok (.ifCond .ne 7, 3) := by decide +kernel
theorem dX5_crash_9 : decode cX5_crash 9 = .ok (.iconst 1, 1) := by decide +kernel
theorem dX5_crash_10 : decode cX5_crash 10 = .ok (.goto 4, 3) := by decide +kernel
theorem dX5_crash_13 : decode cX5_crash 13 = .ok (.iconst 0, 1) := by decide +kernel
theorem dX5_crash_14 : decode cX5_crash 14 = .ok (.iconst 1, 1) := by decide +kernel
theorem dX5_crash_15 : decode cX5_crash 15 = .ok (.invokevirtual 97, 3) := by decide +kernel
theorem dX5_crash_18 : decode cX5_crash 18 = .ok (.ifCond .ne 17, 3) := by decide +kernel
theorem dX5_crash_21 : decode cX5_crash 21 = .ok (.aload_n 0, 1) := by decide +kernel
theorem dX5_crash_22 : decode cX5_crash 22 = .ok (.aload_n 0, 1) := by decide +kernel
theorem dX5_crash_23 : decode cX5_crash 23 = .ok (.getfield 17, 3) := by decide +kernel
theorem dX5_crash_26 : decode cX5_crash 26 = .ok (.iload_n 1, 1) := by decide +kernel
theorem dX5_crash_27 : decode cX5_crash 27 = .ok (.baload, 1) := by decide +kernel
theorem dX5_crash_28 : decode cX5_crash 28 = .ok (.iconst 2, 1) := by decide +kernel
theorem dX5_crash_29 : decode cX5_crash 29 = .ok (.invokevirtual 97, 3) := by decide +kernel
theorem dX5_crash_32 : decode cX5_crash 32 = .ok (.ifCond .eq 4, 3) := by decide +kernel
theorem dX5_crash_35 : decode cX5_crash 35 = .ok (.return_, 1) := by decide +kernel
theorem dX5_crash_36 : decode cX5_crash 36 = .ok (.aload_n 0, 1) := by decide +kernel
theorem dX5_crash_37 : decode cX5_crash 37 = .ok (.getfield 17, 3) := by decide +kernel
theorem dX5_crash_40 : decode cX5_crash 40 = .ok (.iload_n 1, 1) := by decide +kernel
theorem dX5_crash_41 : decode cX5_crash 41 = .ok (.iconst 1, 1) := by decide +kernel
theorem dX5_crash_42 : decode cX5_crash 42 = .ok (.bastore, 1) := by decide +kernel
theorem dX5_crash_43 : decode cX5_crash 43 = .ok (.iconst 0, 1) := by decide +kernel
theorem dX5_crash_44 : decode cX5_crash 44 = .ok (.istore_n 2, 1) := by decide +kernel
theorem dX5_crash_45 : decode cX5_crash 45 = .ok (.iload_n 2, 1) := by decide +kernel
theorem dX5_crash_46 : decode cX5_crash 46 = .ok (.aload_n 0, 1) := by decide +kernel
theorem dX5_crash_47 : decode cX5_crash 47 = .ok (.getfield 88, 3) := by decide +kernel
theorem dX5_crash_50 : decode cX5_crash 50 = .ok (.if_icmp .ge 71, 3) := by decide +kernel
theorem dX5_crash_53 : decode cX5_crash 53 = .ok (.aload_n 0, 1) := by decide +kernel
theorem dX5_crash_54 : decode cX5_crash 54 = .ok (.getfield 39, 3) := by decide +kernel
theorem dX5_crash_57 : decode cX5_crash 57 = .ok (.iconst 5, 1) := by decide +kernel
theorem dX5_crash_58 : decode cX5_crash 58 = .ok (.iload_n 2, 1) := by decide +kernel
theorem dX5_crash_59 : decode cX5_crash 59 = .ok (.imul, 1) := by decide +kernel
theorem dX5_crash_60 : decode cX5_crash 60 = .ok (.iload_n 1, 1) := by decide +kernel
theorem dX5_crash_61 : decode cX5_crash 61 = .ok (.iadd, 1) := by decide +kernel
theorem dX5_crash_62 : decode cX5_crash 62 = .ok (.iconst 0, 1) := by decide +kernel
theorem dX5_crash_63 : decode cX5_crash 63 = .ok (.bastore, 1) := by decide +kernel
theorem dX5_crash_64 : decode cX5_crash 64 = .ok (.aload_n 0, 1) := by decide +kernel
theorem dX5_crash_65 : decode cX5_crash 65 = .ok (.getfield 24, 3) := by decide +kernel
theorem dX5_crash_68 : decode cX5_crash 68 = .ok (.iload_n 2, 1) := by decide +kernel
theorem dX5_crash_69 : decode cX5_crash 69 = .ok (.iaload, 1) := by decide +kernel
theorem dX5_crash_70 : decode cX5_crash 70 = .ok (.iload_n 1, 1) := by decide +kernel
theorem dX5_crash_71 : decode cX5_crash 71 = .ok (.if_icmp .ne 44, 3) := by decide +kernel
theorem dX5_crash_74 : decode cX5_crash 74 = .ok (.aload_n 0, 1) := by decide +kernel
theorem dX5_crash_75 : decode cX5_crash 75 = .ok (.getfield 27, 3) := by decide +kernel
theorem dX5_crash_78 : decode cX5_crash 78 = .ok (.iload_n 2, 1) := by decide +kernel
theorem dX5_crash_79 : decode cX5_crash 79 = .ok (.iaload, 1) := by decide +kernel
theorem dX5_crash_80 : decode cX5_crash 80 = .ok (.iconst 1, 1) := by decide +kernel
theorem dX5_crash_81 : decode cX5_crash 81 = .ok (.if_icmp .le 6, 3) := by decide +kernel
theorem dX5_crash_84 : decode cX5_crash 84 = .ok (.goto 31, 3) := by decide +kernel
theorem dX5_crash_87 : decode cX5_crash 87 = .ok (.aload_n 0, 1) := by decide +kernel
theorem dX5_crash_88 : decode cX5_crash 88 = .ok (.getfield 69, 3) := by decide +kernel
theorem dX5_crash_91 : decode cX5_crash 91 = .ok (.iload_n 2, 1) := by decide +kernel
theorem dX5_crash_92 : decode cX5_crash 92 = .ok (.aload_n 0, 1) := by decide +kernel
theorem dX5_crash_93 : decode cX5_crash 93 = .ok (.getfield 27, 3) := by decide +kernel
theorem dX5_crash_96 : decode cX5_crash 96 = .ok (.iload_n 2, 1) := by decide +kernel
theorem dX5_crash_97 : decode cX5_crash 97 = .ok (.iaload, 1) := by decide +kernel
theorem dX5_crash_98 : decode cX5_crash 98 = .ok (.iconst 1, 1) := by decide +kernel
theorem dX5_crash_99 : decode cX5_crash 99 = .ok (.if_icmp .ne 7, 3) := by decide +kernel
theorem dX5_crash_102 : decode cX5_crash 102 = .ok (.iconst 1, 1) := by decide +kernel
theorem dX5_crash_103 : decode cX5_crash 103 = .ok (.goto 4, 3) := by decide +kernel
theorem dX5_crash_106 : decode cX5_crash 106 = .ok (.iconst 0, 1) := by decide +kernel
theorem dX5_crash_107 : decode cX5_crash 107 = .ok (.bastore, 1) := by decide +kernel
theorem dX5_crash_108 : decode cX5_crash 108 = .ok (.aload_n 0, 1) := by decide +kernel
theorem dX5_crash_109 : decode cX5_crash 109 = .ok (.getfield 27, 3) := by decide +kernel
theorem dX5_crash_112 : decode cX5_crash 112 = .ok (.iload_n 2, 1) := by decide +kernel
theorem dX5_crash_113 : decode cX5_crash 113 = .ok (.iconst 4, 1) := by decide +kernel
theorem dX5_crash_114 : decode cX5_crash 114 = .ok (.iastore, 1) := by decide +kernel
theorem dX5_crash_115 : decode cX5_crash 115 = .ok (.iinc 2 1, 3) := by decide +kernel
theorem dX5_crash_118 : decode cX5_crash 118 = .ok (.goto (-73), 3) := by decide +kernel
theorem dX5_crash_121 : decode cX5_crash 121 = .ok (.return_, 1) := by decide +kernel
set_option maxRecDepth 20000 in
theorem ggX5_restart_X5_isSite : GoodIn wsX5_restart wsX5_isSite := goodIn_r _ [9, 10, 33, 34, 35, 36, 37, 38, 39, 40, 41, 42, 43, 44, 45, 46, 47, 48, 49, 50, 51, 52, 53, 54, 55, 56, 57, 58, 59, 60] (by decide +kernel) (by decide +kernel)
set_option maxRecDepth 20000 in
theorem gX5_restart_X5_isSite : GoodIn wsX5_restart (wsV RX5 101 RX5 yX5_isSite wsX5_isSite) := goodIn_app (goodIn_of _ (by decide +kernel)) ggX5_restart_X5_isSite
set_option maxRecDepth 20000 in
theorem ggX5_restart_X5_fails : GoodIn wsX5_restart wsX5_fails := goodIn_r _ [14, 15, 33, 34, 35, 36, 37, 38, 39, 40, 41, 42, 43, 44, 45, 46, 47, 48, 49, 50, 51, 52, 53, 54, 55, 56, 57, 58, 59, 60] (by decide +kernel) (by decide +kernel)
set_option maxRecDepth 20000 in
theorem gX5_restart_X5_fails : GoodIn wsX5_restart (wsV RX5 97 RX5 yX5_fails wsX5_fails) := goodIn_app (goodIn_of _ (by decide +kernel)) ggX5_restart_X5_fails
set_option maxRecDepth 20000 in
theorem ggX5_restart_X5_frees : GoodIn wsX5_restart wsX5_frees := goodIn_r _ [19, 3, 10, 20, 21, 22, 23, 8, 24, 25, 26, 27, 28, 29, 30, 31, 32, 33, 34, 35, 36, 37, 38, 39, 40, 41, 42, 43, 44, 45, 46, 47, 48, 49, 50, 51, 52, 53, 54, 55, 56, 57, 58, 59, 60] (by decide +kernel) (by decide +kernel)
set_option maxRecDepth 20000 in
theorem gX5_restart_X5_frees : GoodIn wsX5_restart (wsV RX5 156 RX5 yX5_frees wsX5_frees) := goodIn_app (goodIn_of _ (by decide +kernel)) ggX5_restart_X5_frees
theorem dX5_restart_0 : decode cX5_restart 0 = .ok (.aload_n 0, 1) := by decide +kernel
theorem dX5_restart_1 : decode cX5_restart 1 = .ok (.aload_n 0, 1) := by decide +kernel
theorem dX5_restart_2 : decode cX5_restart 2 = .ok (.iload_n 1, 1) := by decide +kernel
theorem dX5_restart_3 : decode cX5_restart 3 = .ok (.invokevirtual 101, 3) := by decide +kernel
theorem dX5_restart_6 : decode cX5_restart 6 = .ok (.ifCond .ne 7, 3) := by decide +kernel
theorem dX5_restart_9 : decode cX5_restart 9 = .ok (.iconst 1, 1) := by decide +kernel
theorem dX5_restart_10 : decode cX5_restart 10 = .ok (.goto 4, 3) := by decide +kernel
theorem dX5_restart_13 : decode cX5_restart 13 = .ok (.iconst 0, 1) := by decide +kernel
theorem dX5_restart_14 : decode cX5_restart 14 = .ok (.iconst 1, 1) := by decide +kernel
theorem dX5_restart_15 : decode cX5_restart 15 = .ok (.invokevirtual 97, 3) := by decide +kernel
theorem dX5_restart_18 : decode cX5_restart 18 = .ok (.ifCond .ne 25, 3) := by decide +kernel
theorem dX5_restart_21 : decode cX5_restart 21 = .ok (.aload_n 0, 1) := by decide +kernel
theorem dX5_restart_22 : decode cX5_restart 22 = .ok (.aload_n 0, 1) := by decide +kernel
theorem dX5_restart_23 : decode cX5_restart 23 = .ok (.getfield 17, 3) := by decide +kernel
theorem dX5_restart_26 : decode cX5_restart 26 = .ok (.iload_n 1, 1) := by decide +kernel
theorem dX5_restart_27 : decode cX5_restart 27 = .ok (.baload, 1) := by decide +kernel
theorem dX5_restart_28 : decode cX5_restart 28 = .ok (.ifCond .ne 7, 3) := by decide +kernel
theorem dX5_restart_31 : decode cX5_restart 31 = .ok (.iconst 1, 1) := by decide +kernel
theorem dX5_restart_32 : decode cX5_restart 32 = .ok (.goto 4, 3) := by decide +kernel
theorem dX5_restart_35 : decode cX5_restart 35 = .ok (.iconst 0, 1) := by decide +kernel
theorem dX5_restart_36 : decode cX5_restart 36 = .ok (.iconst 2, 1) := by decide +kernel
theorem dX5_restart_37 : decode cX5_restart 37 = .ok (.invokevirtual 97, 3) := by decide +kernel
theorem dX5_restart_40 : decode cX5_restart 40 = .ok (.ifCond .eq 4, 3) := by decide +kernel
theorem dX5_restart_43 : decode cX5_restart 43 = .ok (.return_, 1) := by decide +kernel
theorem dX5_restart_44 : decode cX5_restart 44 = .ok (.aload_n 0, 1) := by decide +kernel
theorem dX5_restart_45 : decode cX5_restart 45 = .ok (.getfield 17, 3) := by decide +kernel
theorem dX5_restart_48 : decode cX5_restart 48 = .ok (.iload_n 1, 1) := by decide +kernel
theorem dX5_restart_49 : decode cX5_restart 49 = .ok (.iconst 0, 1) := by decide +kernel
theorem dX5_restart_50 : decode cX5_restart 50 = .ok (.bastore, 1) := by decide +kernel
theorem dX5_restart_51 : decode cX5_restart 51 = .ok (.iconst 0, 1) := by decide +kernel
theorem dX5_restart_52 : decode cX5_restart 52 = .ok (.istore_n 2, 1) := by decide +kernel
theorem dX5_restart_53 : decode cX5_restart 53 = .ok (.iload_n 2, 1) := by decide +kernel
theorem dX5_restart_54 : decode cX5_restart 54 = .ok (.aload_n 0, 1) := by decide +kernel
theorem dX5_restart_55 : decode cX5_restart 55 = .ok (.getfield 88, 3) := by decide +kernel
theorem dX5_restart_58 : decode cX5_restart 58 = .ok (.if_icmp .ge 40, 3) := by decide +kernel
theorem dX5_restart_61 : decode cX5_restart 61 = .ok (.aload_n 0, 1) := by decide +kernel
theorem dX5_restart_62 : decode cX5_restart 62 = .ok (.getfield 24, 3) := by decide +kernel
theorem dX5_restart_65 : decode cX5_restart 65 = .ok (.iload_n 2, 1) := by decide +kernel
theorem dX5_restart_66 : decode cX5_restart 66 = .ok (.iaload, 1) := by decide +kernel
theorem dX5_restart_67 : decode cX5_restart 67 = .ok (.iload_n 1, 1) := by decide +kernel
theorem dX5_restart_68 : decode cX5_restart 68 = .ok (.if_icmp .ne 24, 3) := by decide +kernel
theorem dX5_restart_71 : decode cX5_restart 71 = .ok (.aload_n 0, 1) := by decide +kernel
theorem dX5_restart_72 : decode cX5_restart 72 = .ok (.getfield 69, 3) := by decide +kernel
theorem dX5_restart_75 : decode cX5_restart 75 = .ok (.iload_n 2, 1) := by decide +kernel
theorem dX5_restart_76 : decode cX5_restart 76 = .ok (.baload, 1) := by decide +kernel
theorem dX5_restart_77 : decode cX5_restart 77 = .ok (.ifCond .eq 15, 3) := by decide +kernel
theorem dX5_restart_80 : decode cX5_restart 80 = .ok (.aload_n 0, 1) := by decide +kernel
theorem dX5_restart_81 : decode cX5_restart 81 = .ok (.getfield 69, 3) := by decide +kernel
theorem dX5_restart_84 : decode cX5_restart 84 = .ok (.iload_n 2, 1) := by decide +kernel
theorem dX5_restart_85 : decode cX5_restart 85 = .ok (.iconst 0, 1) := by decide +kernel
theorem dX5_restart_86 : decode cX5_restart 86 = .ok (.bastore, 1) := by decide +kernel
theorem dX5_restart_87 : decode cX5_restart 87 = .ok (.aload_n 0, 1) := by decide +kernel
theorem dX5_restart_88 : decode cX5_restart 88 = .ok (.iload_n 2, 1) := by decide +kernel
theorem dX5_restart_89 : decode cX5_restart 89 = .ok (.invokevirtual 156, 3) := by decide +kernel
theorem dX5_restart_92 : decode cX5_restart 92 = .ok (.iinc 2 1, 3) := by decide +kernel
theorem dX5_restart_95 : decode cX5_restart 95 = .ok (.goto (-42), 3) := by decide +kernel
theorem dX5_restart_98 : decode cX5_restart 98 = .ok (.return_, 1) := by decide +kernel
set_option maxRecDepth 20000 in
theorem ggX5_about_X5_isOne : GoodIn wsX5_about wsX5_isOne := goodIn_r _ [11, 12, 18, 19, 20, 21, 22, 23, 24, 25, 26, 27, 28, 29, 30, 31, 32, 33, 34, 35, 36, 37, 38, 39, 40, 41, 42, 43, 44, 45] (by decide +kernel) (by decide +kernel)
set_option maxRecDepth 20000 in
theorem gX5_about_X5_isOne : GoodIn wsX5_about (wsV RX5 109 RX5 yX5_isOne wsX5_isOne) := goodIn_app (goodIn_of _ (by decide +kernel)) ggX5_about_X5_isOne
set_option maxRecDepth 20000 in
theorem ggX5_about_X5_fails : GoodIn wsX5_about wsX5_fails := goodIn_r _ [16, 17, 18, 19, 20, 21, 22, 23, 24, 25, 26, 27, 28, 29, 30, 31, 32, 33, 34, 35, 36, 37, 38, 39, 40, 41, 42, 43, 44, 45] (by decide +kernel) (by decide +kernel)
set_option maxRecDepth 20000 in
theorem gX5_about_X5_fails : GoodIn wsX5_about (wsV RX5 97 RX5 yX5_fails wsX5_fails) := goodIn_app (goodIn_of _ (by decide +kernel)) ggX5_about_X5_fails
theorem dX5_about_0 : decode cX5_about 0 = .ok (.aload_n 0, 1) := by decide +kernel
theorem dX5_about_1 : decode cX5_about 1 = .ok (.aload_n 0, 1) := by decide +kernel
theorem dX5_about_2 : decode cX5_about 2 = .ok (.iload_n 1, 1) := by decide +kernel
theorem dX5_about_3 : decode cX5_about 3 = .ok (.invokevirtual 109, 3) := by decide +kernel
theorem dX5_about_6 : decode cX5_about 6 = .ok (.ifCond .eq 12, 3) := by decide +kernel
theorem dX5_about_9 : decode cX5_about 9 = .ok (.iload_n 2, 1) := by decide +kernel
theorem dX5_about_10 : decode cX5_about 10 = .ok (.ifCond .lt 8, 3) := by decide +kernel
theorem dX5_about_13 : decode cX5_about 13 = .ok (.iload_n 2, 1) := by decide +kernel
theorem dX5_about_14 : decode cX5_about 14 = .ok (.iconst 4, 1) := by decide +kernel
theorem dX5_about_15 : decode cX5_about 15 = .ok (.if_icmp .le 7, 3) := by decide +kernel
theorem dX5_about_18 : decode cX5_about 18 = .ok (.iconst 1, 1) := by decide +kernel
theorem dX5_about_19 : decode cX5_about 19 = .ok (.goto 4, 3) := by decide +kernel
theorem dX5_about_22 : decode cX5_about 22 = .ok (.iconst 0, 1) := by decide +kernel
theorem dX5_about_23 : decode cX5_about 23 = .ok (.iconst 1, 1) := by decide +kernel
theorem dX5_about_24 : decode cX5_about 24 = .ok (.invokevirtual 97, 3) := by decide +kernel
theorem dX5_about_27 : decode cX5_about 27 = .ok (.ifCond .eq 5, 3) := by decide +kernel
theorem dX5_about_30 : decode cX5_about 30 = .ok (.iconst 0, 1) := by decide +kernel
theorem dX5_about_31 : decode cX5_about 31 = .ok (.ireturn, 1) := by decide +kernel
theorem dX5_about_32 : decode cX5_about 32 = .ok (.iload_n 1, 1) := by decide +kernel
theorem dX5_about_33 : decode cX5_about 33 = .ok (.istore_n 3, 1) := by decide +kernel
theorem dX5_about_34 : decode cX5_about 34 = .ok (.iload_n 2, 1) := by decide +kernel
theorem dX5_about_35 : decode cX5_about 35 = .ok (.ifCond .ne 10, 3) := by decide +kernel
theorem dX5_about_38 : decode cX5_about 38 = .ok (.aload_n 0, 1) := by decide +kernel
theorem dX5_about_39 : decode cX5_about 39 = .ok (.getfield 27, 3) := by decide +kernel
theorem dX5_about_42 : decode cX5_about 42 = .ok (.iload_n 3, 1) := by decide +kernel
theorem dX5_about_43 : decode cX5_about 43 = .ok (.iaload, 1) := by decide +kernel
theorem dX5_about_44 : decode cX5_about 44 = .ok (.ireturn, 1) := by decide +kernel
theorem dX5_about_45 : decode cX5_about 45 = .ok (.iload_n 2, 1) := by decide +kernel
theorem dX5_about_46 : decode cX5_about 46 = .ok (.iconst 1, 1) := by decide +kernel
theorem dX5_about_47 : decode cX5_about 47 = .ok (.if_icmp .ne 10, 3) := by decide +kernel
theorem dX5_about_50 : decode cX5_about 50 = .ok (.aload_n 0, 1) := by decide +kernel
theorem dX5_about_51 : decode cX5_about 51 = .ok (.getfield 24, 3) := by decide +kernel
theorem dX5_about_54 : decode cX5_about 54 = .ok (.iload_n 3, 1) := by decide +kernel
theorem dX5_about_55 : decode cX5_about 55 = .ok (.iaload, 1) := by decide +kernel
theorem dX5_about_56 : decode cX5_about 56 = .ok (.ireturn, 1) := by decide +kernel
theorem dX5_about_57 : decode cX5_about 57 = .ok (.iload_n 2, 1) := by decide +kernel
theorem dX5_about_58 : decode cX5_about 58 = .ok (.iconst 2, 1) := by decide +kernel
theorem dX5_about_59 : decode cX5_about 59 = .ok (.if_icmp .ne 10, 3) := by decide +kernel
theorem dX5_about_62 : decode cX5_about 62 = .ok (.aload_n 0, 1) := by decide +kernel
theorem dX5_about_63 : decode cX5_about 63 = .ok (.getfield 30, 3) := by decide +kernel
theorem dX5_about_66 : decode cX5_about 66 = .ok (.iload_n 3, 1) := by decide +kernel
theorem dX5_about_67 : decode cX5_about 67 = .ok (.iaload, 1) := by decide +kernel
theorem dX5_about_68 : decode cX5_about 68 = .ok (.ireturn, 1) := by decide +kernel
theorem dX5_about_69 : decode cX5_about 69 = .ok (.iconst 0, 1) := by decide +kernel
theorem dX5_about_70 : decode cX5_about 70 = .ok (.istore 4, 2) := by decide +kernel
theorem dX5_about_72 : decode cX5_about 72 = .ok (.iconst 0, 1) := by decide +kernel
theorem dX5_about_73 : decode cX5_about 73 = .ok (.istore 5, 2) := by decide +kernel
theorem dX5_about_75 : decode cX5_about 75 = .ok (.iload 5, 2) := by decide +kernel
theorem dX5_about_77 : decode cX5_about 77 = .ok (.aload_n 0, 1) := by decide +kernel
theorem dX5_about_78 : decode cX5_about 78 = .ok (.getfield 7, 3) := by decide +kernel
theorem dX5_about_81 : decode cX5_about 81 = .ok (.if_icmp .ge 60, 3) := by decide +kernel
theorem dX5_about_84 : decode cX5_about 84 = .ok (.iload 4, 2) := by decide +kernel
theorem dX5_about_86 : decode cX5_about 86 = .ok (.iload_n 2, 1) := by decide +kernel
theorem dX5_about_87 : decode cX5_about 87 = .ok (.iconst 3, 1) := by decide +kernel
theorem dX5_about_88 : decode cX5_about 88 = .ok (.if_icmp .ne 25, 3) := by decide +kernel
theorem dX5_about_91 : decode cX5_about 91 = .ok (.aload_n 0, 1) := by decide +kernel
theorem dX5_about_92 : decode cX5_about 92 = .ok (.getfield 36, 3) := by decide +kernel
theorem dX5_about_95 : decode cX5_about 95 = .ok (.iconst 5, 1) := by decide +kernel
theorem dX5_about_96 : decode cX5_about 96 = .ok (.iload_n 3, 1) := by decide +kernel
theorem dX5_about_97 : decode cX5_about 97 = .ok (.imul, 1) := by decide +kernel
theorem dX5_about_98 : decode cX5_about 98 = .ok (.iload 5, 2) := by decide +kernel
theorem dX5_about_100 : decode cX5_about 100 = .ok (.iadd, 1) := by decide +kernel
theorem dX5_about_101 : decode cX5_about 101 = .ok (.iaload, 1) := by decide +kernel
theorem dX5_about_102 : decode cX5_about 102 = .ok (.ifCond .le 7, 3) := by decide +kernel
theorem dX5_about_105 : decode cX5_about 105 = .ok (.iconst 1, 1) := by decide +kernel
theorem dX5_about_106 : decode cX5_about 106 = .ok (.goto 26, 3) := by decide +kernel
theorem dX5_about_109 : decode cX5_about 109 = .ok (.iconst 0, 1) := by decide +kernel
theorem dX5_about_110 : decode cX5_about 110 = .ok (.goto 22, 3) := by decide +kernel
theorem dX5_about_113 : decode cX5_about 113 = .ok (.aload_n 0, 1) := by decide +kernel
theorem dX5_about_114 : decode cX5_about 114 = .ok (.getfield 48, 3) := by decide +kernel
theorem dX5_about_117 : decode cX5_about 117 = .ok (.iconst 5, 1) := by decide +kernel
theorem dX5_about_118 : decode cX5_about 118 = .ok (.iload_n 3, 1) := by decide +kernel
theorem dX5_about_119 : decode cX5_about 119 = .ok (.imul, 1) := by decide +kernel
theorem dX5_about_120 : decode cX5_about 120 = .ok (.iload 5, 2) := by decide +kernel
theorem dX5_about_122 : decode cX5_about 122 = .ok (.iadd, 1) := by decide +kernel
theorem dX5_about_123 : decode cX5_about 123 = .ok (.baload, 1) := by decide +kernel
theorem dX5_about_124 : decode cX5_about 124 = .ok (.ifCond .eq 7, 3) := by decide +kernel
theorem dX5_about_127 : decode cX5_about 127 = .ok (.iconst 1, 1) := by decide +kernel
theorem dX5_about_128 : decode cX5_about 128 = .ok (.goto 4, 3) := by decide +kernel
theorem dX5_about_131 : decode cX5_about 131 = .ok (.iconst 0, 1) := by decide +kernel
theorem dX5_about_132 : decode cX5_about 132 = .ok (.iadd, 1) := by decide +kernel
theorem dX5_about_133 : decode cX5_about 133 = .ok (.istore 4, 2) := by decide +kernel
theorem dX5_about_135 : decode cX5_about 135 = .ok (.iinc 5 1, 3) := by decide +kernel
theorem dX5_about_138 : decode cX5_about 138 = .ok (.goto (-63), 3) := by decide +kernel
theorem dX5_about_141 : decode cX5_about 141 = .ok (.iload 4, 2) := by decide +kernel
theorem dX5_about_143 : decode cX5_about 143 = .ok (.ireturn, 1) := by decide +kernel
set_option maxRecDepth 20000 in
theorem ggX5_vector_X5_isSite : GoodIn wsX5_vector wsX5_isSite := goodIn_r _ [6, 7, 13, 14, 15, 16, 17, 18, 19, 20, 21, 22, 23, 24, 25, 26, 27, 28, 29, 30, 31, 32, 33, 34, 35, 36, 37, 38, 39, 40] (by decide +kernel) (by decide +kernel)
set_option maxRecDepth 20000 in
theorem gX5_vector_X5_isSite : GoodIn wsX5_vector (wsV RX5 101 RX5 yX5_isSite wsX5_isSite) := goodIn_app (goodIn_of _ (by decide +kernel)) ggX5_vector_X5_isSite
set_option maxRecDepth 20000 in
theorem ggX5_vector_X5_fails : GoodIn wsX5_vector wsX5_fails := goodIn_r _ [11, 12, 13, 14, 15, 16, 17, 18, 19, 20, 21, 22, 23, 24, 25, 26, 27, 28, 29, 30, 31, 32, 33, 34, 35, 36, 37, 38, 39, 40] (by decide +kernel) (by decide +kernel)
set_option maxRecDepth 20000 in
theorem gX5_vector_X5_fails : GoodIn wsX5_vector (wsV RX5 97 RX5 yX5_fails wsX5_fails) := goodIn_app (goodIn_of _ (by decide +kernel)) ggX5_vector_X5_fails
theorem dX5_vector_0 : decode cX5_vector 0 = .ok (.aload_n 0, 1) := by decide +kernel
theorem dX5_vector_1 : decode cX5_vector 1 = .ok (.aload_n 0, 1) := by decide +kernel
theorem dX5_vector_2 : decode cX5_vector 2 = .ok (.iload_n 1, 1) := by decide +kernel
theorem dX5_vector_3 : decode cX5_vector 3 = .ok (.invokevirtual 101, 3) := by decide +kernel
theorem dX5_vector_6 : decode cX5_vector 6 = .ok (.ifCond .eq 11, 3) := by decide +kernel
theorem dX5_vector_9 : decode cX5_vector 9 = .ok (.aload_n 0, 1) := by decide +kernel
theorem dX5_vector_10 : decode cX5_vector 10 = .ok (.iload_n 2, 1) := by decide +kernel
theorem dX5_vector_11 : decode cX5_vector 11 = .ok (.invokevirtual 101, 3) := by decide +kernel
theorem dX5_vector_14 : decode cX5_vector 14 = .ok (.ifCond .ne 7, 3) := by decide +kernel
theorem dX5_vector_17 : decode cX5_vector 17 = .ok (.iconst 1, 1) := by decide +kernel
theorem dX5_vector_18 : decode cX5_vector 18 = .ok (.goto 4, 3) := by decide +kernel
theorem dX5_vector_21 : decode cX5_vector 21 = .ok (.iconst 0, 1) := by decide +kernel
theorem dX5_vector_22 : decode cX5_vector 22 = .ok (.iconst 1, 1) := by decide +kernel
theorem dX5_vector_23 : decode cX5_vector 23 = .ok (.invokevirtual 97, 3) := by decide +kernel
theorem dX5_vector_26 : decode cX5_vector 26 = .ok (.ifCond .eq 7, 3) := by decide +kernel
theorem dX5_vector_29 : decode cX5_vector 29 = .ok (.iconst 0, 1) := by decide +kernel
theorem dX5_vector_30 : decode cX5_vector 30 = .ok (.goto 13, 3) := by decide +kernel
theorem dX5_vector_33 : decode cX5_vector 33 = .ok (.aload_n 0, 1) := by decide +kernel
theorem dX5_vector_34 : decode cX5_vector 34 = .ok (.getfield 13, 3) := by decide +kernel
theorem dX5_vector_37 : decode cX5_vector 37 = .ok (.iconst 5, 1) := by decide +kernel
theorem dX5_vector_38 : decode cX5_vector 38 = .ok (.iload_n 1, 1) := by decide +kernel
theorem dX5_vector_39 : decode cX5_vector 39 = .ok (.imul, 1) := by decide +kernel
theorem dX5_vector_40 : decode cX5_vector 40 = .ok (.iload_n 2, 1) := by decide +kernel
theorem dX5_vector_41 : decode cX5_vector 41 = .ok (.iadd, 1) := by decide +kernel
theorem dX5_vector_42 : decode cX5_vector 42 = .ok (.iaload, 1) := by decide +kernel
theorem dX5_vector_43 : decode cX5_vector 43 = .ok (.ireturn, 1) := by decide +kernel
set_option maxRecDepth 20000 in
theorem ggX5_value_X5_isSite : GoodIn wsX5_value wsX5_isSite := goodIn_r _ [5, 6, 31, 32, 33, 34, 35, 36, 37, 38, 39, 40, 41, 42, 43, 44, 45, 46, 47, 48, 49, 50, 51, 52, 53, 54, 55, 56, 57, 58] (by decide +kernel) (by decide +kernel)
set_option maxRecDepth 20000 in
theorem gX5_value_X5_isSite : GoodIn wsX5_value (wsV RX5 101 RX5 yX5_isSite wsX5_isSite) := goodIn_app (goodIn_of _ (by decide +kernel)) ggX5_value_X5_isSite
set_option maxRecDepth 20000 in
theorem ggX5_value_X5_isObject : GoodIn wsX5_value wsX5_isObject := goodIn_r _ [9] (by decide +kernel) (by decide +kernel)
set_option maxRecDepth 20000 in
theorem gX5_value_X5_isObject : GoodIn wsX5_value (va_wsS RX5 112 yX5_isObject wsX5_isObject) := goodIn_app (goodIn_of _ (by decide +kernel)) ggX5_value_X5_isObject
set_option maxRecDepth 20000 in
theorem ggX5_value_X5_fails : GoodIn wsX5_value wsX5_fails := goodIn_r _ [13, 14, 31, 32, 33, 34, 35, 36, 37, 38, 39, 40, 41, 42, 43, 44, 45, 46, 47, 48, 49, 50, 51, 52, 53, 54, 55, 56, 57, 58] (by decide +kernel) (by decide +kernel)
set_option maxRecDepth 20000 in
theorem gX5_value_X5_fails : GoodIn wsX5_value (wsV RX5 97 RX5 yX5_fails wsX5_fails) := goodIn_app (goodIn_of _ (by decide +kernel)) ggX5_value_X5_fails
set_option maxRecDepth 20000 in
theorem ggX5_value_X5_latest : GoodIn wsX5_value wsX5_latest := goodIn_r _ [18, 19, 20, 21, 22, 23, 24, 25, 4, 26, 27, 28, 29, 30, 31, 32, 33, 34, 35, 36, 37, 38, 39, 40, 41, 42, 43, 44, 45, 46, 47, 48, 49, 50, 51, 52, 53, 54, 55, 56, 57, 58] (by decide +kernel) (by decide +kernel)
set_option maxRecDepth 20000 in
theorem gX5_value_X5_latest : GoodIn wsX5_value (wsV RX5 115 RX5 yX5_latest wsX5_latest) := goodIn_app (goodIn_of _ (by decide +kernel)) ggX5_value_X5_latest
theorem dX5_value_0 : decode cX5_value 0 = .ok (.aload_n 0, 1) := by decide +kernel
theorem dX5_value_1 : decode cX5_value 1 = .ok (.aload_n 0, 1) := by decide +kernel
theorem dX5_value_2 : decode cX5_value 2 = .ok (.iload_n 1, 1) := by decide +kernel
theorem dX5_value_3 : decode cX5_value 3 = .ok (.invokevirtual 101, 3) := by decide +kernel
theorem dX5_value_6 : decode cX5_value 6 = .ok (.ifCond .eq 10, 3) := by decide +kernel
theorem dX5_value_9 : decode cX5_value 9 = .ok (.iload_n 2, 1) := by decide +kernel
theorem dX5_value_10 : decode cX5_value 10 = .ok (.invokestatic 112, 3) := by decide +kernel
theorem dX5_value_13 : decode cX5_value 13 = .ok (.ifCond .ne 7, 3) := by decide +kernel
theorem dX5_value_16 : decode cX5_value 16 = .ok (.iconst 1, 1) := by decide +kernel
theorem dX5_value_17 : decode cX5_value 17 = .ok (.goto 4, 3) := by decide +kernel
theorem dX5_value_20 : decode cX5_value 20 = .ok (.iconst 0, 1) := by decide +kernel
theorem dX5_value_21 : decode cX5_value 21 = .ok (.iconst 1, 1) := by decide +kernel
theorem dX5_value_22 : decode cX5_value 22 = .ok (.invokevirtual 97, 3) := by decide +kernel
theorem dX5_value_25 : decode cX5_value 25 = .ok (.ifCond .eq 7, 3) := by decide +kernel
theorem dX5_value_28 : decode cX5_value 28 = .ok (.iconst 0, 1) := by decide +kernel
theorem dX5_value_29 : decode cX5_value 29 = .ok (.goto 10, 3) := by decide +kernel
theorem dX5_value_32 : decode cX5_value 32 = .ok (.aload_n 0, 1) := by decide +kernel
theorem dX5_value_33 : decode cX5_value 33 = .ok (.iload_n 1, 1) := by decide +kernel
theorem dX5_value_34 : decode cX5_value 34 = .ok (.iload_n 2, 1) := by decide +kernel
theorem dX5_value_35 : decode cX5_value 35 = .ok (.iconst (-1), 1) := by decide +kernel
theorem dX5_value_36 : decode cX5_value 36 = .ok (.invokevirtual 115, 3) := by decide +kernel
theorem dX5_value_39 : decode cX5_value 39 = .ok (.ireturn, 1) := by decide +kernel
set_option maxRecDepth 20000 in
theorem ggX5_locked_X5_isSite : GoodIn wsX5_locked wsX5_isSite := goodIn_r _ [6, 7, 16, 17, 18, 19, 20, 21, 22, 23, 24, 25, 26, 27, 28, 29, 30, 31, 32, 33, 34, 35, 36, 37, 38, 39, 40, 41, 42, 43] (by decide +kernel) (by decide +kernel)
set_option maxRecDepth 20000 in
theorem gX5_locked_X5_isSite : GoodIn wsX5_locked (wsV RX5 101 RX5 yX5_isSite wsX5_isSite) := goodIn_app (goodIn_of _ (by decide +kernel)) ggX5_locked_X5_isSite
set_option maxRecDepth 20000 in
theorem ggX5_locked_X5_isObject : GoodIn wsX5_locked wsX5_isObject := goodIn_r _ [10] (by decide +kernel) (by decide +kernel)
set_option maxRecDepth 20000 in
theorem gX5_locked_X5_isObject : GoodIn wsX5_locked (va_wsS RX5 112 yX5_isObject wsX5_isObject) := goodIn_app (goodIn_of _ (by decide +kernel)) ggX5_locked_X5_isObject
set_option maxRecDepth 20000 in
theorem ggX5_locked_X5_fails : GoodIn wsX5_locked wsX5_fails := goodIn_r _ [14, 15, 16, 17, 18, 19, 20, 21, 22, 23, 24, 25, 26, 27, 28, 29, 30, 31, 32, 33, 34, 35, 36, 37, 38, 39, 40, 41, 42, 43] (by decide +kernel) (by decide +kernel)
set_option maxRecDepth 20000 in
theorem gX5_locked_X5_fails : GoodIn wsX5_locked (wsV RX5 97 RX5 yX5_fails wsX5_fails) := goodIn_app (goodIn_of _ (by decide +kernel)) ggX5_locked_X5_fails
theorem dX5_locked_0 : decode cX5_locked 0 = .ok (.aload_n 0, 1) := by decide +kernel
theorem dX5_locked_1 : decode cX5_locked 1 = .ok (.aload_n 0, 1) := by decide +kernel
theorem dX5_locked_2 : decode cX5_locked 2 = .ok (.iload_n 1, 1) := by decide +kernel
theorem dX5_locked_3 : decode cX5_locked 3 = .ok (.invokevirtual 101, 3) := by decide +kernel
theorem dX5_locked_6 : decode cX5_locked 6 = .ok (.ifCond .eq 10, 3) := by decide +kernel
theorem dX5_locked_9 : decode cX5_locked 9 = .ok (.iload_n 2, 1) := by decide +kernel
theorem dX5_locked_10 : decode cX5_locked 10 = .ok (.invokestatic 112, 3) := by decide +kernel
theorem dX5_locked_13 : decode cX5_locked 13 = .ok (.ifCond .ne 7, 3) := by decide +kernel
theorem dX5_locked_16 : decode cX5_locked 16 = .ok (.iconst 1, 1) := by decide +kernel
theorem dX5_locked_17 : decode cX5_locked 17 = .ok (.goto 4, 3) := by decide +kernel
theorem dX5_locked_20 : decode cX5_locked 20 = .ok (.iconst 0, 1) := by decide +kernel
theorem dX5_locked_21 : decode cX5_locked 21 = .ok (.iconst 1, 1) := by decide +kernel
theorem dX5_locked_22 : decode cX5_locked 22 = .ok (.invokevirtual 97, 3) := by decide +kernel
theorem dX5_locked_25 : decode cX5_locked 25 = .ok (.ifCond .eq 7, 3) := by decide +kernel
theorem dX5_locked_28 : decode cX5_locked 28 = .ok (.iconst 0, 1) := by decide +kernel
theorem dX5_locked_29 : decode cX5_locked 29 = .ok (.goto 14, 3) := by decide +kernel
theorem dX5_locked_32 : decode cX5_locked 32 = .ok (.aload_n 0, 1) := by decide +kernel
theorem dX5_locked_33 : decode cX5_locked 33 = .ok (.getfield 21, 3) := by decide +kernel
theorem dX5_locked_36 : decode cX5_locked 36 = .ok (.bipush 20, 2) := by decide +kernel
theorem dX5_locked_38 : decode cX5_locked 38 = .ok (.iload_n 1, 1) := by decide +kernel
theorem dX5_locked_39 : decode cX5_locked 39 = .ok (.imul, 1) := by decide +kernel
theorem dX5_locked_40 : decode cX5_locked 40 = .ok (.iload_n 2, 1) := by decide +kernel
theorem dX5_locked_41 : decode cX5_locked 41 = .ok (.iadd, 1) := by decide +kernel
theorem dX5_locked_42 : decode cX5_locked 42 = .ok (.iaload, 1) := by decide +kernel
theorem dX5_locked_43 : decode cX5_locked 43 = .ok (.ireturn, 1) := by decide +kernel
set_option maxRecDepth 20000 in
theorem ggX5_total_X5_fails : GoodIn wsX5_total wsX5_fails := goodIn_r _ [11, 12, 13, 14, 15, 16, 17, 18, 19, 20, 21, 22, 23, 24, 25, 26, 27, 28, 29, 30, 31, 32, 33, 34, 35, 36, 37, 38, 39, 40] (by decide +kernel) (by decide +kernel)
set_option maxRecDepth 20000 in
theorem gX5_total_X5_fails : GoodIn wsX5_total (wsV RX5 97 RX5 yX5_fails wsX5_fails) := goodIn_app (goodIn_of _ (by decide +kernel)) ggX5_total_X5_fails
theorem dX5_total_0 : decode cX5_total 0 = .ok (.aload_n 0, 1) := by decide +kernel
theorem dX5_total_1 : decode cX5_total 1 = .ok (.iload_n 1, 1) := by decide +kernel
theorem dX5_total_2 : decode cX5_total 2 = .ok (.ifCond .lt 8, 3) := by decide +kernel
theorem dX5_total_5 : decode cX5_total 5 = .ok (.iload_n 1, 1) := by decide +kernel
theorem dX5_total_6 : decode cX5_total 6 = .ok (.iconst 4, 1) := by decide +kernel
theorem dX5_total_7 : decode cX5_total 7 = .ok (.if_icmp .le 7, 3) := by decide +kernel
theorem dX5_total_10 : decode cX5_total 10 = .ok (.iconst 1, 1) := by decide +kernel
theorem dX5_total_11 : decode cX5_total 11 = .ok (.goto 4, 3) := by decide +kernel
theorem dX5_total_14 : decode cX5_total 14 = .ok (.iconst 0, 1) := by decide +kernel
theorem dX5_total_15 : decode cX5_total 15 = .ok (.iconst 1, 1) := by decide +kernel
theorem dX5_total_16 : decode cX5_total 16 = .ok (.invokevirtual 97, 3) := by decide +kernel
theorem dX5_total_19 : decode cX5_total 19 = .ok (.ifCond .eq 5, 3) := by decide +kernel
theorem dX5_total_22 : decode cX5_total 22 = .ok (.iconst 0, 1) := by decide +kernel
theorem dX5_total_23 : decode cX5_total 23 = .ok (.ireturn, 1) := by decide +kernel
theorem dX5_total_24 : decode cX5_total 24 = .ok (.iload_n 1, 1) := by decide +kernel
theorem dX5_total_25 : decode cX5_total 25 = .ok (.ifCond .ne 8, 3) := by decide +kernel
theorem dX5_total_28 : decode cX5_total 28 = .ok (.aload_n 0, 1) := by decide +kernel
theorem dX5_total_29 : decode cX5_total 29 = .ok (.getfield 88, 3) := by decide +kernel
theorem dX5_total_32 : decode cX5_total 32 = .ok (.ireturn, 1) := by decide +kernel
theorem dX5_total_33 : decode cX5_total 33 = .ok (.iload_n 1, 1) := by decide +kernel
theorem dX5_total_34 : decode cX5_total 34 = .ok (.iconst 1, 1) := by decide +kernel
theorem dX5_total_35 : decode cX5_total 35 = .ok (.if_icmp .ne 8, 3) := by decide +kernel
theorem dX5_total_38 : decode cX5_total 38 = .ok (.aload_n 0, 1) := by decide +kernel
theorem dX5_total_39 : decode cX5_total 39 = .ok (.getfield 91, 3) := by decide +kernel
theorem dX5_total_42 : decode cX5_total 42 = .ok (.ireturn, 1) := by decide +kernel
theorem dX5_total_43 : decode cX5_total 43 = .ok (.iload_n 1, 1) := by decide +kernel
theorem dX5_total_44 : decode cX5_total 44 = .ok (.iconst 2, 1) := by decide +kernel
theorem dX5_total_45 : decode cX5_total 45 = .ok (.if_icmp .ne 8, 3) := by decide +kernel
theorem dX5_total_48 : decode cX5_total 48 = .ok (.aload_n 0, 1) := by decide +kernel
theorem dX5_total_49 : decode cX5_total 49 = .ok (.getfield 94, 3) := by decide +kernel
theorem dX5_total_52 : decode cX5_total 52 = .ok (.ireturn, 1) := by decide +kernel
theorem dX5_total_53 : decode cX5_total 53 = .ok (.iconst 0, 1) := by decide +kernel
theorem dX5_total_54 : decode cX5_total 54 = .ok (.istore_n 2, 1) := by decide +kernel
theorem dX5_total_55 : decode cX5_total 55 = .ok (.iconst 0, 1) := by decide +kernel
theorem dX5_total_56 : decode cX5_total 56 = .ok (.istore_n 3, 1) := by decide +kernel
theorem dX5_total_57 : decode cX5_total 57 = .ok (.iload_n 3, 1) := by decide +kernel
theorem dX5_total_58 : decode cX5_total 58 = .ok (.iconst 5, 1) := by decide +kernel
theorem dX5_total_59 : decode cX5_total 59 = .ok (.aload_n 0, 1) := by decide +kernel
theorem dX5_total_60 : decode cX5_total 60 = .ok (.getfield 88, 3) := by decide +kernel
theorem dX5_total_63 : decode cX5_total 63 = .ok (.imul, 1) := by decide +kernel
theorem dX5_total_64 : decode cX5_total 64 = .ok (.if_icmp .ge 31, 3) := by decide +kernel
theorem dX5_total_67 : decode cX5_total 67 = .ok (.iload_n 1, 1) := by decide +kernel
theorem dX5_total_68 : decode cX5_total 68 = .ok (.iconst 3, 1) := by decide +kernel
theorem dX5_total_69 : decode cX5_total 69 = .ok (.if_icmp .ne 26, 3) := by decide +kernel
theorem dX5_total_72 : decode cX5_total 72 = .ok (.iload_n 2, 1) := by decide +kernel
theorem dX5_total_73 : decode cX5_total 73 = .ok (.aload_n 0, 1) := by decide +kernel
theorem dX5_total_74 : decode cX5_total 74 = .ok (.getfield 39, 3) := by decide +kernel
theorem dX5_total_77 : decode cX5_total 77 = .ok (.iload_n 3, 1) := by decide +kernel
theorem dX5_total_78 : decode cX5_total 78 = .ok (.baload, 1) := by decide +kernel
theorem dX5_total_79 : decode cX5_total 79 = .ok (.ifCond .eq 7, 3) := by decide +kernel
theorem dX5_total_82 : decode cX5_total 82 = .ok (.iconst 1, 1) := by decide +kernel
theorem dX5_total_83 : decode cX5_total 83 = .ok (.goto 4, 3) := by decide +kernel
theorem dX5_total_86 : decode cX5_total 86 = .ok (.iconst 0, 1) := by decide +kernel
theorem dX5_total_87 : decode cX5_total 87 = .ok (.iadd, 1) := by decide +kernel
theorem dX5_total_88 : decode cX5_total 88 = .ok (.istore_n 2, 1) := by decide +kernel
theorem dX5_total_89 : decode cX5_total 89 = .ok (.iinc 3 1, 3) := by decide +kernel
theorem dX5_total_92 : decode cX5_total 92 = .ok (.goto (-35), 3) := by decide +kernel
theorem dX5_total_95 : decode cX5_total 95 = .ok (.iconst 0, 1) := by decide +kernel
theorem dX5_total_96 : decode cX5_total 96 = .ok (.istore_n 3, 1) := by decide +kernel
theorem dX5_total_97 : decode cX5_total 97 = .ok (.iload_n 3, 1) := by decide +kernel
theorem dX5_total_98 : decode cX5_total 98 = .ok (.aload_n 0, 1) := by decide +kernel
theorem dX5_total_99 : decode cX5_total 99 = .ok (.getfield 7, 3) := by decide +kernel
theorem dX5_total_102 : decode cX5_total 102 = .ok (.if_icmp .ge 31, 3) := by decide +kernel
theorem dX5_total_105 : decode cX5_total 105 = .ok (.iload_n 1, 1) := by decide +kernel
theorem dX5_total_106 : decode cX5_total 106 = .ok (.iconst 4, 1) := by decide +kernel
theorem dX5_total_107 : decode cX5_total 107 = .ok (.if_icmp .ne 26, 3) := by decide +kernel
theorem dX5_total_110 : decode cX5_total 110 = .ok (.iload_n 2, 1) := by decide +kernel
theorem dX5_total_111 : decode cX5_total 111 = .ok (.aload_n 0, 1) := by decide +kernel
theorem dX5_total_112 : decode cX5_total 112 = .ok (.getfield 17, 3) := by decide +kernel
theorem dX5_total_115 : decode cX5_total 115 = .ok (.iload_n 3, 1) := by decide +kernel
theorem dX5_total_116 : decode cX5_total 116 = .ok (.baload, 1) := by decide +kernel
theorem dX5_total_117 : decode cX5_total 117 = .ok (.ifCond .eq 7, 3) := by decide +kernel
theorem dX5_total_120 : decode cX5_total 120 = .ok (.iconst 0, 1) := by decide +kernel
theorem dX5_total_121 : decode cX5_total 121 = .ok (.goto 4, 3) := by decide +kernel
theorem dX5_total_124 : decode cX5_total 124 = .ok (.iconst 1, 1) := by decide +kernel
theorem dX5_total_125 : decode cX5_total 125 = .ok (.iadd, 1) := by decide +kernel
theorem dX5_total_126 : decode cX5_total 126 = .ok (.istore_n 2, 1) := by decide +kernel
theorem dX5_total_127 : decode cX5_total 127 = .ok (.iinc 3 1, 3) := by decide +kernel
theorem dX5_total_130 : decode cX5_total 130 = .ok (.goto (-33), 3) := by decide +kernel
theorem dX5_total_133 : decode cX5_total 133 = .ok (.iload_n 2, 1) := by decide +kernel
theorem dX5_total_134 : decode cX5_total 134 = .ok (.ireturn, 1) := by decide +kernel
theorem dJ6_bitCount_0f7a4_0 : decode cJ6_bitCount_0f7a4 0 = .ok (.iload_n 0, 1) := by decide +kernel
theorem dJ6_bitCount_0f7a4_1 : decode cJ6_bitCount_0f7a4 1 = .ok (.iload_n 0, 1) := by decide +kernel
theorem dJ6_bitCount_0f7a4_2 : decode cJ6_bitCount_0f7a4 2 = .ok (.iconst 1, 1) := by decide +kernel
theorem dJ6_bitCount_0f7a4_3 : decode cJ6_bitCount_0f7a4 3 = .ok (.iushr, 1) := by decide +kernel
theorem dJ6_bitCount_0f7a4_4 : decode cJ6_bitCount_0f7a4 4 = .ok (.ldc_w 265, 3) := by decide +kernel
theorem dJ6_bitCount_0f7a4_7 : decode cJ6_bitCount_0f7a4 7 = .ok (.iand, 1) := by decide +kernel
theorem dJ6_bitCount_0f7a4_8 : decode cJ6_bitCount_0f7a4 8 = .ok (.isub, 1) := by decide +kernel
theorem dJ6_bitCount_0f7a4_9 : decode cJ6_bitCount_0f7a4 9 = .ok (.istore_n 0, 1) := by decide +kernel
theorem dJ6_bitCount_0f7a4_10 : decode cJ6_bitCount_0f7a4 10 = .ok (.iload_n 0, 1) := by decide +kernel
theorem dJ6_bitCount_0f7a4_11 : decode cJ6_bitCount_0f7a4 11 = .ok (.ldc_w 266, 3) := by decide +kernel
theorem dJ6_bitCount_0f7a4_14 : decode cJ6_bitCount_0f7a4 14 = .ok (.iand, 1) := by decide +kernel
theorem dJ6_bitCount_0f7a4_15 : decode cJ6_bitCount_0f7a4 15 = .ok (.iload_n 0, 1) := by decide +kernel
theorem dJ6_bitCount_0f7a4_16 : decode cJ6_bitCount_0f7a4 16 = .ok (.iconst 2, 1) := by decide +kernel
theorem dJ6_bitCount_0f7a4_17 : decode cJ6_bitCount_0f7a4 17 = .ok (.iushr, 1) := by decide +kernel
theorem dJ6_bitCount_0f7a4_18 : decode cJ6_bitCount_0f7a4 18 = .ok (.ldc_w 266, 3) := by decide +kernel
theorem dJ6_bitCount_0f7a4_21 : decode cJ6_bitCount_0f7a4 21 = .ok (.iand, 1) := by decide +kernel
theorem dJ6_bitCount_0f7a4_22 : decode cJ6_bitCount_0f7a4 22 = .ok (.iadd, 1) := by decide +kernel
theorem dJ6_bitCount_0f7a4_23 : decode cJ6_bitCount_0f7a4 23 = .ok (.istore_n 0, 1) := by decide +kernel
theorem dJ6_bitCount_0f7a4_24 : decode cJ6_bitCount_0f7a4 24 = .ok (.iload_n 0, 1) := by decide +kernel
theorem dJ6_bitCount_0f7a4_25 : decode cJ6_bitCount_0f7a4 25 = .ok (.iload_n 0, 1) := by decide +kernel
theorem dJ6_bitCount_0f7a4_26 : decode cJ6_bitCount_0f7a4 26 = .ok (.iconst 4, 1) := by decide +kernel
theorem dJ6_bitCount_0f7a4_27 : decode cJ6_bitCount_0f7a4 27 = .ok (.iushr, 1) := by decide +kernel
theorem dJ6_bitCount_0f7a4_28 : decode cJ6_bitCount_0f7a4 28 = .ok (.iadd, 1) := by decide +kernel
theorem dJ6_bitCount_0f7a4_29 : decode cJ6_bitCount_0f7a4 29 = .ok (.ldc_w 267, 3) := by decide +kernel
theorem dJ6_bitCount_0f7a4_32 : decode cJ6_bitCount_0f7a4 32 = .ok (.iand, 1) := by decide +kernel
theorem dJ6_bitCount_0f7a4_33 : decode cJ6_bitCount_0f7a4 33 = .ok (.istore_n 0, 1) := by decide +kernel
theorem dJ6_bitCount_0f7a4_34 : decode cJ6_bitCount_0f7a4 34 = .ok (.iload_n 0, 1) := by decide +kernel
theorem dJ6_bitCount_0f7a4_35 : decode cJ6_bitCount_0f7a4 35 = .ok (.iload_n 0, 1) := by decide +kernel
theorem dJ6_bitCount_0f7a4_36 : decode cJ6_bitCount_0f7a4 36 = .ok (.bipush 8, 2) := by decide +kernel
theorem dJ6_bitCount_0f7a4_38 : decode cJ6_bitCount_0f7a4 38 = .ok (.iushr, 1) := by decide +kernel
theorem dJ6_bitCount_0f7a4_39 : decode cJ6_bitCount_0f7a4 39 = .ok (.iadd, 1) := by decide +kernel
theorem dJ6_bitCount_0f7a4_40 : decode cJ6_bitCount_0f7a4 40 = .ok (.istore_n 0, 1) := by decide +kernel
theorem dJ6_bitCount_0f7a4_41 : decode cJ6_bitCount_0f7a4 41 = .ok (.iload_n 0, 1) := by decide +kernel
theorem dJ6_bitCount_0f7a4_42 : decode cJ6_bitCount_0f7a4 42 = .ok (.iload_n 0, 1) := by decide +kernel
theorem dJ6_bitCount_0f7a4_43 : decode cJ6_bitCount_0f7a4 43 = .ok (.bipush 16, 2) := by decide +kernel
theorem dJ6_bitCount_0f7a4_45 : decode cJ6_bitCount_0f7a4 45 = .ok (.iushr, 1) := by decide +kernel
theorem dJ6_bitCount_0f7a4_46 : decode cJ6_bitCount_0f7a4 46 = .ok (.iadd, 1) := by decide +kernel
theorem dJ6_bitCount_0f7a4_47 : decode cJ6_bitCount_0f7a4 47 = .ok (.istore_n 0, 1) := by decide +kernel
theorem dJ6_bitCount_0f7a4_48 : decode cJ6_bitCount_0f7a4 48 = .ok (.iload_n 0, 1) := by decide +kernel
theorem dJ6_bitCount_0f7a4_49 : decode cJ6_bitCount_0f7a4 49 = .ok (.bipush 63, 2) := by decide +kernel
theorem dJ6_bitCount_0f7a4_51 : decode cJ6_bitCount_0f7a4 51 = .ok (.iand, 1) := by decide +kernel
theorem dJ6_bitCount_0f7a4_52 : decode cJ6_bitCount_0f7a4 52 = .ok (.ireturn, 1) := by decide +kernel
theorem dJ9_max_7cf53_0 : decode cJ9_max_7cf53 0 = .ok (.iload_n 0, 1) := by decide +kernel
theorem dJ9_max_7cf53_1 : decode cJ9_max_7cf53 1 = .ok (.iload_n 1, 1) := by decide +kernel
theorem dJ9_max_7cf53_2 : decode cJ9_max_7cf53 2 = .ok (.if_icmp .lt 7, 3) := by decide +kernel
theorem dJ9_max_7cf53_5 : decode cJ9_max_7cf53 5 = .ok (.iload_n 0, 1) := by decide +kernel
theorem dJ9_max_7cf53_6 : decode cJ9_max_7cf53 6 = .ok (.goto 4, 3) := by decide +kernel
theorem dJ9_max_7cf53_9 : decode cJ9_max_7cf53 9 = .ok (.iload_n 1, 1) := by decide +kernel
theorem dJ9_max_7cf53_10 : decode cJ9_max_7cf53 10 = .ok (.ireturn, 1) := by decide +kernel
theorem dJ9_min_7cf53_0 : decode cJ9_min_7cf53 0 = .ok (.iload_n 0, 1) := by decide +kernel
theorem dJ9_min_7cf53_1 : decode cJ9_min_7cf53 1 = .ok (.iload_n 1, 1) := by decide +kernel
theorem dJ9_min_7cf53_2 : decode cJ9_min_7cf53 2 = .ok (.if_icmp .gt 7, 3) := by decide +kernel
theorem dJ9_min_7cf53_5 : decode cJ9_min_7cf53 5 = .ok (.iload_n 0, 1) := by decide +kernel
theorem dJ9_min_7cf53_6 : decode cJ9_min_7cf53 6 = .ok (.goto 4, 3) := by decide +kernel
theorem dJ9_min_7cf53_9 : decode cJ9_min_7cf53 9 = .ok (.iload_n 1, 1) := by decide +kernel
theorem dJ9_min_7cf53_10 : decode cJ9_min_7cf53 10 = .ok (.ireturn, 1) := by decide +kernel
theorem dJxe7f93_init_da8c8_0 : decode cJxe7f93_init_da8c8 0 = .ok (.aload_n 0, 1) := by decide +kernel
theorem dJxe7f93_init_da8c8_1 : decode cJxe7f93_init_da8c8 1 = .ok (.invokespecial 1, 3) := by decide +kernel
theorem dJxe7f93_init_da8c8_4 : decode cJxe7f93_init_da8c8 4 = .ok (.return_, 1) := by decide +kernel
theorem dJxa1e45_init_da8c8_0 : decode cJxa1e45_init_da8c8 0 = .ok (.aload_n 0, 1) := by decide +kernel
theorem dJxa1e45_init_da8c8_1 : decode cJxa1e45_init_da8c8 1 = .ok (.invokespecial 1, 3) := by decide +kernel
theorem dJxa1e45_init_da8c8_4 : decode cJxa1e45_init_da8c8 4 = .ok (.return_, 1) := by decide +kernel
set_option maxRecDepth 20000 in
theorem ggJxc12de_init_da8c8_Jxa1e45_init_da8c8 : GoodIn wsJxc12de_init_da8c8 wsJxa1e45_init_da8c8 := goodIn_r _ [5, 6, 7, 8] (by decide +kernel) (by decide +kernel)
set_option maxRecDepth 20000 in
theorem gJxc12de_init_da8c8_Jxa1e45_init_da8c8 : GoodIn wsJxc12de_init_da8c8 (wsJxa1e45_init_da8c8) := ggJxc12de_init_da8c8_Jxa1e45_init_da8c8
theorem dJxc12de_init_da8c8_0 : decode cJxc12de_init_da8c8 0 = .ok (.aload_n 0, 1) := by decide +kernel
theorem dJxc12de_init_da8c8_1 : decode cJxc12de_init_da8c8 1 = .ok (.invokespecial 1, 3) := by decide +kernel
theorem dJxc12de_init_da8c8_4 : decode cJxc12de_init_da8c8 4 = .ok (.aload_n 0, 1) := by decide +kernel
theorem dJxc12de_init_da8c8_5 : decode cJxc12de_init_da8c8 5 = .ok (.iconst 0, 1) := by decide +kernel
theorem dJxc12de_init_da8c8_6 : decode cJxc12de_init_da8c8 6 = .ok (.putfield 7, 3) := by decide +kernel
theorem dJxc12de_init_da8c8_9 : decode cJxc12de_init_da8c8 9 = .ok (.return_, 1) := by decide +kernel
set_option maxRecDepth 20000 in
theorem ggJx4a65c_init_da8c8_Jxc12de_init_da8c8 : GoodIn wsJx4a65c_init_da8c8 wsJxc12de_init_da8c8 := goodIn_r _ [6, 7, 8, 9, 10, 11, 12, 13, 14, 15, 16, 17] (by decide +kernel) (by decide +kernel)
set_option maxRecDepth 20000 in
theorem gJx4a65c_init_da8c8_Jxc12de_init_da8c8 : GoodIn wsJx4a65c_init_da8c8 (wsJxc12de_init_da8c8) := ggJx4a65c_init_da8c8_Jxc12de_init_da8c8
theorem dJx4a65c_init_da8c8_0 : decode cJx4a65c_init_da8c8 0 = .ok (.aload_n 0, 1) := by decide +kernel
theorem dJx4a65c_init_da8c8_1 : decode cJx4a65c_init_da8c8 1 = .ok (.invokespecial 1, 3) := by decide +kernel
theorem dJx4a65c_init_da8c8_4 : decode cJx4a65c_init_da8c8 4 = .ok (.aload_n 0, 1) := by decide +kernel
theorem dJx4a65c_init_da8c8_5 : decode cJx4a65c_init_da8c8 5 = .ok (.getstatic 39, 3) := by decide +kernel
theorem dJx4a65c_init_da8c8_8 : decode cJx4a65c_init_da8c8 8 = .ok (.putfield 9, 3) := by decide +kernel
theorem dJx4a65c_init_da8c8_11 : decode cJx4a65c_init_da8c8 11 = .ok (.return_, 1) := by decide +kernel
set_option maxRecDepth 20000 in
theorem ggJx4a65c_grow_92f84_J8_newLength_cabcc : GoodIn wsJx4a65c_grow_92f84 wsJ8_newLength_cabcc := goodIn_r _ [11, 12, 4, 5, 6, 13, 14, 15, 10, 16] (by decide +kernel) (by decide +kernel)
set_option maxRecDepth 20000 in
theorem gJx4a65c_grow_92f84_J8_newLength_cabcc : GoodIn wsJx4a65c_grow_92f84 (va_wsS RJx4a65c 73 yJ8_newLength_cabcc wsJ8_newLength_cabcc) := goodIn_app (goodIn_of _ (by decide +kernel)) ggJx4a65c_grow_92f84_J8_newLength_cabcc
set_option maxRecDepth 20000 in
theorem ggJx4a65c_grow_92f84_J7_copyOf_1904c : GoodIn wsJx4a65c_grow_92f84 wsJ7_copyOf_1904c := goodIn_r _ [20, 21, 22, 23, 24, 25, 26, 19, 27, 28, 29, 30, 31, 5, 32, 33, 34, 35, 36] (by decide +kernel) (by decide +kernel)
set_option maxRecDepth 20000 in
theorem gJx4a65c_grow_92f84_J7_copyOf_1904c : GoodIn wsJx4a65c_grow_92f84 (va_wsS RJx4a65c 66 yJ7_copyOf_1904c wsJ7_copyOf_1904c) := goodIn_app (goodIn_of _ (by decide +kernel)) ggJx4a65c_grow_92f84_J7_copyOf_1904c
theorem dJx4a65c_grow_92f84_0 : decode cJx4a65c_grow_92f84 0 = .ok (.aload_n 0, 1) := by decide +kernel
theorem dJx4a65c_grow_92f84_1 : decode cJx4a65c_grow_92f84 1 = .ok (.getfield 9, 3) := by decide +kernel
theorem dJx4a65c_grow_92f84_4 : decode cJx4a65c_grow_92f84 4 = .ok (.arraylength, 1) := by decide +kernel
theorem dJx4a65c_grow_92f84_5 : decode cJx4a65c_grow_92f84 5 = .ok (.istore_n 2, 1) := by decide +kernel
theorem dJx4a65c_grow_92f84_6 : decode cJx4a65c_grow_92f84 6 = .ok (.iload_n 2, 1) := by decide +kernel
theorem dJx4a65c_grow_92f84_7 : decode cJx4a65c_grow_92f84 7 = .ok (.ifCond .gt 13, 3) := by decide +kernel
theorem dJx4a65c_grow_92f84_10 : decode cJx4a65c_grow_92f84 10 = .ok (.aload_n 0, 1) := by decide +kernel
theorem dJx4a65c_grow_92f84_11 : decode cJx4a65c_grow_92f84 11 = .ok (.getfield 9, 3) := by decide +kernel
theorem dJx4a65c_grow_92f84_14 : decode cJx4a65c_grow_92f84 14 = .ok (.getstatic 39, 3) := by decide +kernel
theorem dJx4a65c_grow_92f84_17 : decode cJx4a65c_grow_92f84 17 = .ok (.if_acmp .eq 28, 3) := by decide +kernel
theorem dJx4a65c_grow_92f84_20 : decode cJx4a65c_grow_92f84 20 = .ok (.iload_n 2, 1) := by decide +kernel
theorem dJx4a65c_grow_92f84_21 : decode cJx4a65c_grow_92f84 21 = .ok (.iload_n 1, 1) := by decide +kernel
theorem dJx4a65c_grow_92f84_22 : decode cJx4a65c_grow_92f84 22 = .ok (.iload_n 2, 1) := by decide +kernel
theorem dJx4a65c_grow_92f84_23 : decode cJx4a65c_grow_92f84 23 = .ok (.isub, 1) := by decide +kernel
theorem dJx4a65c_grow_92f84_24 : decode cJx4a65c_grow_92f84 24 = .ok (.iload_n 2, 1) := by decide +kernel
theorem dJx4a65c_grow_92f84_25 : decode cJx4a65c_grow_92f84 25 = .ok (.iconst 1, 1) := by decide +kernel
theorem dJx4a65c_grow_92f84_26 : decode cJx4a65c_grow_92f84 26 = .ok (.ishr, 1) := by decide +kernel
theorem dJx4a65c_grow_92f84_27 : decode cJx4a65c_grow_92f84 27 = .ok (.invokestatic 73, 3) := by decide +kernel
theorem dJx4a65c_grow_92f84_30 : decode cJx4a65c_grow_92f84 30 = .ok (.istore_n 3, 1) := by decide +kernel
theorem dJx4a65c_grow_92f84_31 : decode cJx4a65c_grow_92f84 31 = .ok (.aload_n 0, 1) := by decide +kernel
theorem dJx4a65c_grow_92f84_32 : decode cJx4a65c_grow_92f84 32 = .ok (.aload_n 0, 1) := by decide +kernel
theorem dJx4a65c_grow_92f84_33 : decode cJx4a65c_grow_92f84 33 = .ok (.getfield 9, 3) := by decide +kernel
theorem dJx4a65c_grow_92f84_36 : decode cJx4a65c_grow_92f84 36 = .ok (.iload_n 3, 1) := by decide +kernel
theorem dJx4a65c_grow_92f84_37 : decode cJx4a65c_grow_92f84 37 = .ok (.invokestatic 66, 3) := by decide +kernel
theorem dJx4a65c_grow_92f84_40 : decode cJx4a65c_grow_92f84 40 = .ok (.dup_x1, 1) := by decide +kernel
theorem dJx4a65c_grow_92f84_41 : decode cJx4a65c_grow_92f84 41 = .ok (.putfield 9, 3) := by decide +kernel
theorem dJx4a65c_grow_92f84_44 : decode cJx4a65c_grow_92f84 44 = .ok (.areturn, 1) := by decide +kernel
theorem dJx4a65c_grow_92f84_45 : decode cJx4a65c_grow_92f84 45 = .ok (.aload_n 0, 1) := by decide +kernel
theorem dJx4a65c_grow_92f84_46 : decode cJx4a65c_grow_92f84 46 = .ok (.bipush 10, 2) := by decide +kernel
theorem dJx4a65c_grow_92f84_48 : decode cJx4a65c_grow_92f84 48 = .ok (.iload_n 1, 1) := by decide +kernel
theorem dJx4a65c_grow_92f84_49 : decode cJx4a65c_grow_92f84 49 = .ok (.invokestatic 79, 3) := by decide +kernel
theorem dJx4a65c_grow_92f84_52 : decode cJx4a65c_grow_92f84 52 = .ok (.anewarray 7, 3) := by decide +kernel
theorem dJx4a65c_grow_92f84_55 : decode cJx4a65c_grow_92f84 55 = .ok (.dup_x1, 1) := by decide +kernel
theorem dJx4a65c_grow_92f84_56 : decode cJx4a65c_grow_92f84 56 = .ok (.putfield 9, 3) := by decide +kernel
theorem dJx4a65c_grow_92f84_59 : decode cJx4a65c_grow_92f84 59 = .ok (.areturn, 1) := by decide +kernel
set_option maxRecDepth 20000 in
theorem ggJx4a65c_grow_d5877_Jx4a65c_grow_92f84 : GoodIn wsJx4a65c_grow_d5877 wsJx4a65c_grow_92f84 := goodIn_r _ [6, 7, 8, 9, 10, 11, 12, 13, 14, 15, 16, 17, 18, 19, 20, 21, 22, 23, 24, 25, 26, 27, 28, 29, 30, 31, 32, 33, 34, 35, 36, 37, 38, 39, 40, 41, 42, 43, 44, 45] (by decide +kernel) (by decide +kernel)
set_option maxRecDepth 20000 in
theorem gJx4a65c_grow_d5877_Jx4a65c_grow_92f84 : GoodIn wsJx4a65c_grow_d5877 (wsV RJx4a65c 69 RJx4a65c yJx4a65c_grow_92f84 wsJx4a65c_grow_92f84) := goodIn_app (goodIn_of _ (by decide +kernel)) ggJx4a65c_grow_d5877_Jx4a65c_grow_92f84
theorem dJx4a65c_grow_d5877_0 : decode cJx4a65c_grow_d5877 0 = .ok (.aload_n 0, 1) := by decide +kernel
theorem dJx4a65c_grow_d5877_1 : decode cJx4a65c_grow_d5877 1 = .ok (.aload_n 0, 1) := by decide +kernel
theorem dJx4a65c_grow_d5877_2 : decode cJx4a65c_grow_d5877 2 = .ok (.getfield 48, 3) := by decide +kernel
theorem dJx4a65c_grow_d5877_5 : decode cJx4a65c_grow_d5877 5 = .ok (.iconst 1, 1) := by decide +kernel
theorem dJx4a65c_grow_d5877_6 : decode cJx4a65c_grow_d5877 6 = .ok (.iadd, 1) := by decide +kernel
theorem dJx4a65c_grow_d5877_7 : decode cJx4a65c_grow_d5877 7 = .ok (.invokevirtual 69, 3) := by decide +kernel
theorem dJx4a65c_grow_d5877_10 : decode cJx4a65c_grow_d5877 10 = .ok (.areturn, 1) := by decide +kernel
theorem dJx4a65c_size_8abf5_0 : decode cJx4a65c_size_8abf5 0 = .ok (.aload_n 0, 1) := by decide +kernel
theorem dJx4a65c_size_8abf5_1 : decode cJx4a65c_size_8abf5 1 = .ok (.getfield 48, 3) := by decide +kernel
theorem dJx4a65c_size_8abf5_4 : decode cJx4a65c_size_8abf5 4 = .ok (.ireturn, 1) := by decide +kernel
theorem dJx4a65c_elementData_915e3_0 : decode cJx4a65c_elementData_915e3 0 = .ok (.aload_n 0, 1) := by decide +kernel
theorem dJx4a65c_elementData_915e3_1 : decode cJx4a65c_elementData_915e3 1 = .ok (.getfield 9, 3) := by decide +kernel
theorem dJx4a65c_elementData_915e3_4 : decode cJx4a65c_elementData_915e3 4 = .ok (.iload_n 1, 1) := by decide +kernel
theorem dJx4a65c_elementData_915e3_5 : decode cJx4a65c_elementData_915e3 5 = .ok (.aaload, 1) := by decide +kernel
theorem dJx4a65c_elementData_915e3_6 : decode cJx4a65c_elementData_915e3 6 = .ok (.areturn, 1) := by decide +kernel
set_option maxRecDepth 20000 in
theorem ggJx4a65c_get_915e3_J15_checkIndex_7cf53 : GoodIn wsJx4a65c_get_915e3 wsJ15_checkIndex_7cf53 := goodIn_r _ [5, 6, 7, 8, 9] (by decide +kernel) (by decide +kernel)
set_option maxRecDepth 20000 in
theorem gJx4a65c_get_915e3_J15_checkIndex_7cf53 : GoodIn wsJx4a65c_get_915e3 (va_wsS RJx4a65c 118 yJ15_checkIndex_7cf53 wsJ15_checkIndex_7cf53) := goodIn_app (goodIn_of _ (by decide +kernel)) ggJx4a65c_get_915e3_J15_checkIndex_7cf53
set_option maxRecDepth 20000 in
theorem ggJx4a65c_get_915e3_Jx4a65c_elementData_915e3 : GoodIn wsJx4a65c_get_915e3 wsJx4a65c_elementData_915e3 := goodIn_r _ [14, 15, 16, 17, 18] (by decide +kernel) (by decide +kernel)
set_option maxRecDepth 20000 in
theorem gJx4a65c_get_915e3_Jx4a65c_elementData_915e3 : GoodIn wsJx4a65c_get_915e3 (wsV RJx4a65c 123 RJx4a65c yJx4a65c_elementData_915e3 wsJx4a65c_elementData_915e3) := goodIn_app (goodIn_of _ (by decide +kernel)) ggJx4a65c_get_915e3_Jx4a65c_elementData_915e3
theorem dJx4a65c_get_915e3_0 : decode cJx4a65c_get_915e3 0 = .ok (.iload_n 1, 1) := by decide +kernel
theorem dJx4a65c_get_915e3_1 : decode cJx4a65c_get_915e3 1 = .ok (.aload_n 0, 1) := by decide +kernel
theorem dJx4a65c_get_915e3_2 : decode cJx4a65c_get_915e3 2 = .ok (.getfield 48, 3) := by decide +kernel
theorem dJx4a65c_get_915e3_5 : decode cJx4a65c_get_915e3 5 = .ok (.invokestatic 118, 3) := by decide +kernel
theorem dJx4a65c_get_915e3_8 : decode cJx4a65c_get_915e3 8 = .ok (.pop, 1) := by decide +kernel
theorem dJx4a65c_get_915e3_9 : decode cJx4a65c_get_915e3 9 = .ok (.aload_n 0, 1) := by decide +kernel
theorem dJx4a65c_get_915e3_10 : decode cJx4a65c_get_915e3 10 = .ok (.iload_n 1, 1) := by decide +kernel
theorem dJx4a65c_get_915e3_11 : decode cJx4a65c_get_915e3 11 = .ok (.invokevirtual 123, 3) := by decide +kernel
theorem dJx4a65c_get_915e3_14 : decode cJx4a65c_get_915e3 14 = .ok (.areturn, 1) := by decide +kernel
set_option maxRecDepth 20000 in
theorem ggJx4a65c_add_72be8_Jx4a65c_grow_d5877 : GoodIn wsJx4a65c_add_72be8 wsJx4a65c_grow_d5877 := goodIn_r _ [6, 1, 7, 8, 9, 5, 10, 11, 12, 13, 14, 15, 16, 17, 18, 19, 20, 21, 22, 23, 24, 25, 26, 27, 28, 29, 30, 31, 32, 33, 34, 35, 36, 37, 38, 39, 40, 41, 42, 43, 44, 45, 46, 47, 48, 49] (by decide +kernel) (by decide +kernel)
set_option maxRecDepth 20000 in
theorem gJx4a65c_add_72be8_Jx4a65c_grow_d5877 : GoodIn wsJx4a65c_add_72be8 (wsV RJx4a65c 129 RJx4a65c yJx4a65c_grow_d5877 wsJx4a65c_grow_d5877) := goodIn_app (goodIn_of _ (by decide +kernel)) ggJx4a65c_add_72be8_Jx4a65c_grow_d5877
theorem dJx4a65c_add_72be8_0 : decode cJx4a65c_add_72be8 0 = .ok (.iload_n 3, 1) := by decide +kernel
theorem dJx4a65c_add_72be8_1 : decode cJx4a65c_add_72be8 1 = .ok (.aload_n 2, 1) := by decide +kernel
theorem dJx4a65c_add_72be8_2 : decode cJx4a65c_add_72be8 2 = .ok (.arraylength, 1) := by decide +kernel
theorem dJx4a65c_add_72be8_3 : decode cJx4a65c_add_72be8 3 = .ok (.if_icmp .ne 8, 3) := by decide +kernel
theorem dJx4a65c_add_72be8_6 : decode cJx4a65c_add_72be8 6 = .ok (.aload_n 0, 1) := by decide +kernel
theorem dJx4a65c_add_72be8_7 : decode cJx4a65c_add_72be8 7 = .ok (.invokevirtual 129, 3) := by decide +kernel
theorem dJx4a65c_add_72be8_10 : decode cJx4a65c_add_72be8 10 = .ok (.astore_n 2, 1) := by decide +kernel
theorem dJx4a65c_add_72be8_11 : decode cJx4a65c_add_72be8 11 = .ok (.aload_n 2, 1) := by decide +kernel
theorem dJx4a65c_add_72be8_12 : decode cJx4a65c_add_72be8 12 = .ok (.iload_n 3, 1) := by decide +kernel
theorem dJx4a65c_add_72be8_13 : decode cJx4a65c_add_72be8 13 = .ok (.aload_n 1, 1) := by decide +kernel
theorem dJx4a65c_add_72be8_14 : decode cJx4a65c_add_72be8 14 = .ok (.aastore, 1) := by decide +kernel
theorem dJx4a65c_add_72be8_15 : decode cJx4a65c_add_72be8 15 = .ok (.aload_n 0, 1) := by decide +kernel
theorem dJx4a65c_add_72be8_16 : decode cJx4a65c_add_72be8 16 = .ok (.iload_n 3, 1) := by decide +kernel
theorem dJx4a65c_add_72be8_17 : decode cJx4a65c_add_72be8 17 = .ok (.iconst 1, 1) := by decide +kernel
theorem dJx4a65c_add_72be8_18 : decode cJx4a65c_add_72be8 18 = .ok (.iadd, 1) := by decide +kernel
theorem dJx4a65c_add_72be8_19 : decode cJx4a65c_add_72be8 19 = .ok (.putfield 48, 3) := by decide +kernel
theorem dJx4a65c_add_72be8_22 : decode cJx4a65c_add_72be8 22 = .ok (.return_, 1) := by decide +kernel
set_option maxRecDepth 20000 in
theorem ggJx4a65c_add_9ea2d_Jx4a65c_add_72be8 : GoodIn wsJx4a65c_add_9ea2d wsJx4a65c_add_72be8 := goodIn_r _ [9, 4, 10, 11, 12, 8, 13, 14, 15, 16, 17, 3, 18, 19, 20, 21, 22, 23, 24, 25, 26, 27, 28, 29, 30, 31, 32, 33, 34, 35, 36, 37, 38, 39, 40, 41, 42, 43, 44, 45, 46, 47, 48, 49, 50, 51, 52, 53, 54, 55] (by decide +kernel) (by decide +kernel)
set_option maxRecDepth 20000 in
theorem gJx4a65c_add_9ea2d_Jx4a65c_add_72be8 : GoodIn wsJx4a65c_add_9ea2d (wsV RJx4a65c 131 RJx4a65c yJx4a65c_add_72be8 wsJx4a65c_add_72be8) := goodIn_app (goodIn_of _ (by decide +kernel)) ggJx4a65c_add_9ea2d_Jx4a65c_add_72be8
theorem dJx4a65c_add_9ea2d_0 : decode cJx4a65c_add_9ea2d 0 = .ok (.aload_n 0, 1) := by decide +kernel
theorem dJx4a65c_add_9ea2d_1 : decode cJx4a65c_add_9ea2d 1 = .ok (.dup, 1) := by decide +kernel
theorem dJx4a65c_add_9ea2d_2 : decode cJx4a65c_add_9ea2d 2 = .ok (.getfield 63, 3) := by decide +kernel
theorem dJx4a65c_add_9ea2d_5 : decode cJx4a65c_add_9ea2d 5 = .ok (.iconst 1, 1) := by decide +kernel
theorem dJx4a65c_add_9ea2d_6 : decode cJx4a65c_add_9ea2d 6 = .ok (.iadd, 1) := by decide +kernel
theorem dJx4a65c_add_9ea2d_7 : decode cJx4a65c_add_9ea2d 7 = .ok (.putfield 63, 3) := by decide +kernel
theorem dJx4a65c_add_9ea2d_10 : decode cJx4a65c_add_9ea2d 10 = .ok (.aload_n 0, 1) := by decide +kernel
theorem dJx4a65c_add_9ea2d_11 : decode cJx4a65c_add_9ea2d 11 = .ok (.aload_n 1, 1) := by decide +kernel
theorem dJx4a65c_add_9ea2d_12 : decode cJx4a65c_add_9ea2d 12 = .ok (.aload_n 0, 1) := by decide +kernel
theorem dJx4a65c_add_9ea2d_13 : decode cJx4a65c_add_9ea2d 13 = .ok (.getfield 9, 3) := by decide +kernel
theorem dJx4a65c_add_9ea2d_16 : decode cJx4a65c_add_9ea2d 16 = .ok (.aload_n 0, 1) := by decide +kernel
theorem dJx4a65c_add_9ea2d_17 : decode cJx4a65c_add_9ea2d 17 = .ok (.getfield 48, 3) := by decide +kernel
theorem dJx4a65c_add_9ea2d_20 : decode cJx4a65c_add_9ea2d 20 = .ok (.invokevirtual 131, 3) := by decide +kernel
theorem dJx4a65c_add_9ea2d_23 : decode cJx4a65c_add_9ea2d 23 = .ok (.iconst 1, 1) := by decide +kernel
theorem dJx4a65c_add_9ea2d_24 : decode cJx4a65c_add_9ea2d 24 = .ok (.ireturn, 1) := by decide +kernel
set_option maxRecDepth 20000 in
theorem ggJx4a65c_remove_915e3_J15_checkIndex_7cf53 : GoodIn wsJx4a65c_remove_915e3 wsJ15_checkIndex_7cf53 := goodIn_r _ [6, 7, 8, 9, 10] (by decide +kernel) (by decide +kernel)
set_option maxRecDepth 20000 in
theorem gJx4a65c_remove_915e3_J15_checkIndex_7cf53 : GoodIn wsJx4a65c_remove_915e3 (va_wsS RJx4a65c 118 yJ15_checkIndex_7cf53 wsJ15_checkIndex_7cf53) := goodIn_app (goodIn_of _ (by decide +kernel)) ggJx4a65c_remove_915e3_J15_checkIndex_7cf53
set_option maxRecDepth 20000 in
theorem ggJx4a65c_remove_915e3_Jx4a65c_fastRemove_b59b0 : GoodIn wsJx4a65c_remove_915e3 wsJx4a65c_fastRemove_b59b0 := goodIn_r _ [15, 16, 17, 1, 18, 19, 20, 21, 22, 23, 24] (by decide +kernel) (by decide +kernel)
set_option maxRecDepth 20000 in
theorem gJx4a65c_remove_915e3_Jx4a65c_fastRemove_b59b0 : GoodIn wsJx4a65c_remove_915e3 (wsV RJx4a65c 144 RJx4a65c yJx4a65c_fastRemove_b59b0 wsJx4a65c_fastRemove_b59b0) := goodIn_app (goodIn_of _ (by decide +kernel)) ggJx4a65c_remove_915e3_Jx4a65c_fastRemove_b59b0
theorem dJx4a65c_remove_915e3_0 : decode cJx4a65c_remove_915e3 0 = .ok (.iload_n 1, 1) := by decide +kernel
theorem dJx4a65c_remove_915e3_1 : decode cJx4a65c_remove_915e3 1 = .ok (.aload_n 0, 1) := by decide +kernel
theorem dJx4a65c_remove_915e3_2 : decode cJx4a65c_remove_915e3 2 = .ok (.getfield 48, 3) := by decide +kernel
theorem dJx4a65c_remove_915e3_5 : decode cJx4a65c_remove_915e3 5 = .ok (.invokestatic 118, 3) := by decide +kernel
theorem dJx4a65c_remove_915e3_8 : decode cJx4a65c_remove_915e3 8 = .ok (.pop, 1) := by decide +kernel
theorem dJx4a65c_remove_915e3_9 : decode cJx4a65c_remove_915e3 9 = .ok (.aload_n 0, 1) := by decide +kernel
theorem dJx4a65c_remove_915e3_10 : decode cJx4a65c_remove_915e3 10 = .ok (.getfield 9, 3) := by decide +kernel
theorem dJx4a65c_remove_915e3_13 : decode cJx4a65c_remove_915e3 13 = .ok (.astore_n 2, 1) := by decide +kernel
theorem dJx4a65c_remove_915e3_14 : decode cJx4a65c_remove_915e3 14 = .ok (.aload_n 2, 1) := by decide +kernel
theorem dJx4a65c_remove_915e3_15 : decode cJx4a65c_remove_915e3 15 = .ok (.iload_n 1, 1) := by decide +kernel
theorem dJx4a65c_remove_915e3_16 : decode cJx4a65c_remove_915e3 16 = .ok (.aaload, 1) := by decide +kernel
theorem dJx4a65c_remove_915e3_17 : decode cJx4a65c_remove_915e3 17 = .ok (.astore_n 3, 1) := by decide +kernel
theorem dJx4a65c_remove_915e3_18 : decode cJx4a65c_remove_915e3 18 = .ok (.aload_n 0, 1) := by decide +kernel
theorem dJx4a65c_remove_915e3_19 : decode cJx4a65c_remove_915e3 19 = .ok (.aload_n 2, 1) := by decide +kernel
theorem dJx4a65c_remove_915e3_20 : decode cJx4a65c_remove_915e3 20 = .ok (.iload_n 1, 1) := by decide +kernel
theorem dJx4a65c_remove_915e3_21 : decode cJx4a65c_remove_915e3 21 = .ok (.invokevirtual 144, 3) := by decide +kernel
theorem dJx4a65c_remove_915e3_24 : decode cJx4a65c_remove_915e3 24 = .ok (.aload_n 3, 1) := by decide +kernel
theorem dJx4a65c_remove_915e3_25 : decode cJx4a65c_remove_915e3 25 = .ok (.areturn, 1) := by decide +kernel
theorem dJx4a65c_fastRemove_b59b0_0 : decode cJx4a65c_fastRemove_b59b0 0 = .ok (.aload_n 0, 1) := by decide +kernel
theorem dJx4a65c_fastRemove_b59b0_1 : decode cJx4a65c_fastRemove_b59b0 1 = .ok (.dup, 1) := by decide +kernel
theorem dJx4a65c_fastRemove_b59b0_2 : decode cJx4a65c_fastRemove_b59b0 2 = .ok (.getfield 63, 3) := by decide +kernel
theorem dJx4a65c_fastRemove_b59b0_5 : decode cJx4a65c_fastRemove_b59b0 5 = .ok (.iconst 1, 1) := by decide +kernel
theorem dJx4a65c_fastRemove_b59b0_6 : decode cJx4a65c_fastRemove_b59b0 6 = .ok (.iadd, 1) := by decide +kernel
theorem dJx4a65c_fastRemove_b59b0_7 : decode cJx4a65c_fastRemove_b59b0 7 = .ok (.putfield 63, 3) := by decide +kernel
theorem dJx4a65c_fastRemove_b59b0_10 : decode cJx4a65c_fastRemove_b59b0 10 = .ok (.aload_n 0, 1) := by decide +kernel
theorem dJx4a65c_fastRemove_b59b0_11 : decode cJx4a65c_fastRemove_b59b0 11 = .ok (.getfield 48, 3) := by decide +kernel
theorem dJx4a65c_fastRemove_b59b0_14 : decode cJx4a65c_fastRemove_b59b0 14 = .ok (.iconst 1, 1) := by decide +kernel
theorem dJx4a65c_fastRemove_b59b0_15 : decode cJx4a65c_fastRemove_b59b0 15 = .ok (.isub, 1) := by decide +kernel
theorem dJx4a65c_fastRemove_b59b0_16 : decode cJx4a65c_fastRemove_b59b0 16 = .ok (.dup, 1) := by decide +kernel
theorem dJx4a65c_fastRemove_b59b0_17 : decode cJx4a65c_fastRemove_b59b0 17 = .ok (.istore_n 3, 1) := by decide +kernel
theorem dJx4a65c_fastRemove_b59b0_18 : decode cJx4a65c_fastRemove_b59b0 18 = .ok (.iload_n 2, 1) := by decide +kernel
theorem dJx4a65c_fastRemove_b59b0_19 : decode cJx4a65c_fastRemove_b59b0 19 = .ok (.if_icmp .le 15, 3) := by decide +kernel
theorem dJx4a65c_fastRemove_b59b0_22 : decode cJx4a65c_fastRemove_b59b0 22 = .ok (.aload_n 1, 1) := by decide +kernel
theorem dJx4a65c_fastRemove_b59b0_23 : decode cJx4a65c_fastRemove_b59b0 23 = .ok (.iload_n 2, 1) := by decide +kernel
theorem dJx4a65c_fastRemove_b59b0_24 : decode cJx4a65c_fastRemove_b59b0 24 = .ok (.iconst 1, 1) := by decide +kernel
theorem dJx4a65c_fastRemove_b59b0_25 : decode cJx4a65c_fastRemove_b59b0 25 = .ok (.iadd, 1) := by decide +kernel
theorem dJx4a65c_fastRemove_b59b0_26 : decode cJx4a65c_fastRemove_b59b0 26 = .ok (.aload_n 1, 1) := by decide +kernel
theorem dJx4a65c_fastRemove_b59b0_27 : decode cJx4a65c_fastRemove_b59b0 27 = .ok (.iload_n 2, 1) := by decide +kernel
theorem dJx4a65c_fastRemove_b59b0_28 : decode cJx4a65c_fastRemove_b59b0 28 = .ok (.iload_n 3, 1) := by decide +kernel
theorem dJx4a65c_fastRemove_b59b0_29 : decode cJx4a65c_fastRemove_b59b0 29 = .ok (.iload_n 2, 1) := by decide +kernel
theorem dJx4a65c_fastRemove_b59b0_30 : decode cJx4a65c_fastRemove_b59b0 30 = .ok (.isub, 1) := by decide +kernel
theorem dJx4a65c_fastRemove_b59b0_31 : decode cJx4a65c_fastRemove_b59b0 31 = .ok (.invokestatic 112, 3) := by decide +kernel
theorem dJx4a65c_fastRemove_b59b0_34 : decode cJx4a65c_fastRemove_b59b0 34 = .ok (.aload_n 1, 1) := by decide +kernel
theorem dJx4a65c_fastRemove_b59b0_35 : decode cJx4a65c_fastRemove_b59b0 35 = .ok (.aload_n 0, 1) := by decide +kernel
theorem dJx4a65c_fastRemove_b59b0_36 : decode cJx4a65c_fastRemove_b59b0 36 = .ok (.iload_n 3, 1) := by decide +kernel
theorem dJx4a65c_fastRemove_b59b0_37 : decode cJx4a65c_fastRemove_b59b0 37 = .ok (.dup_x1, 1) := by decide +kernel
theorem dJx4a65c_fastRemove_b59b0_38 : decode cJx4a65c_fastRemove_b59b0 38 = .ok (.putfield 48, 3) := by decide +kernel
theorem dJx4a65c_fastRemove_b59b0_41 : decode cJx4a65c_fastRemove_b59b0 41 = .ok (.aconst_null, 1) := by decide +kernel
theorem dJx4a65c_fastRemove_b59b0_42 : decode cJx4a65c_fastRemove_b59b0 42 = .ok (.aastore, 1) := by decide +kernel
theorem dJx4a65c_fastRemove_b59b0_43 : decode cJx4a65c_fastRemove_b59b0 43 = .ok (.return_, 1) := by decide +kernel
theorem dJx4a65c_clear_da8c8_0 : decode cJx4a65c_clear_da8c8 0 = .ok (.aload_n 0, 1) := by decide +kernel
theorem dJx4a65c_clear_da8c8_1 : decode cJx4a65c_clear_da8c8 1 = .ok (.dup, 1) := by decide +kernel
theorem dJx4a65c_clear_da8c8_2 : decode cJx4a65c_clear_da8c8 2 = .ok (.getfield 63, 3) := by decide +kernel
theorem dJx4a65c_clear_da8c8_5 : decode cJx4a65c_clear_da8c8 5 = .ok (.iconst 1, 1) := by decide +kernel
theorem dJx4a65c_clear_da8c8_6 : decode cJx4a65c_clear_da8c8 6 = .ok (.iadd, 1) := by decide +kernel
theorem dJx4a65c_clear_da8c8_7 : decode cJx4a65c_clear_da8c8 7 = .ok (.putfield 63, 3) := by decide +kernel
theorem dJx4a65c_clear_da8c8_10 : decode cJx4a65c_clear_da8c8 10 = .ok (.aload_n 0, 1) := by decide +kernel
theorem dJx4a65c_clear_da8c8_11 : decode cJx4a65c_clear_da8c8 11 = .ok (.getfield 9, 3) := by decide +kernel
theorem dJx4a65c_clear_da8c8_14 : decode cJx4a65c_clear_da8c8 14 = .ok (.astore_n 1, 1) := by decide +kernel
theorem dJx4a65c_clear_da8c8_15 : decode cJx4a65c_clear_da8c8 15 = .ok (.aload_n 0, 1) := by decide +kernel
theorem dJx4a65c_clear_da8c8_16 : decode cJx4a65c_clear_da8c8 16 = .ok (.getfield 48, 3) := by decide +kernel
theorem dJx4a65c_clear_da8c8_19 : decode cJx4a65c_clear_da8c8 19 = .ok (.istore_n 2, 1) := by decide +kernel
theorem dJx4a65c_clear_da8c8_20 : decode cJx4a65c_clear_da8c8 20 = .ok (.aload_n 0, 1) := by decide +kernel
theorem dJx4a65c_clear_da8c8_21 : decode cJx4a65c_clear_da8c8 21 = .ok (.iconst 0, 1) := by decide +kernel
theorem dJx4a65c_clear_da8c8_22 : decode cJx4a65c_clear_da8c8 22 = .ok (.dup_x1, 1) := by decide +kernel
theorem dJx4a65c_clear_da8c8_23 : decode cJx4a65c_clear_da8c8 23 = .ok (.putfield 48, 3) := by decide +kernel
theorem dJx4a65c_clear_da8c8_26 : decode cJx4a65c_clear_da8c8 26 = .ok (.istore_n 3, 1) := by decide +kernel
theorem dJx4a65c_clear_da8c8_27 : decode cJx4a65c_clear_da8c8 27 = .ok (.iload_n 3, 1) := by decide +kernel
theorem dJx4a65c_clear_da8c8_28 : decode cJx4a65c_clear_da8c8 28 = .ok (.iload_n 2, 1) := by decide +kernel
theorem dJx4a65c_clear_da8c8_29 : decode cJx4a65c_clear_da8c8 29 = .ok (.if_icmp .ge 13, 3) := by decide +kernel
theorem dJx4a65c_clear_da8c8_32 : decode cJx4a65c_clear_da8c8 32 = .ok (.aload_n 1, 1) := by decide +kernel
theorem dJx4a65c_clear_da8c8_33 : decode cJx4a65c_clear_da8c8 33 = .ok (.iload_n 3, 1) := by decide +kernel
theorem dJx4a65c_clear_da8c8_34 : decode cJx4a65c_clear_da8c8 34 = .ok (.aconst_null, 1) := by decide +kernel
theorem dJx4a65c_clear_da8c8_35 : decode cJx4a65c_clear_da8c8 35 = .ok (.aastore, 1) := by decide +kernel
theorem dJx4a65c_clear_da8c8_36 : decode cJx4a65c_clear_da8c8 36 = .ok (.iinc 3 1, 3) := by decide +kernel
theorem dJx4a65c_clear_da8c8_39 : decode cJx4a65c_clear_da8c8 39 = .ok (.goto (-12), 3) := by decide +kernel
theorem dJx4a65c_clear_da8c8_42 : decode cJx4a65c_clear_da8c8 42 = .ok (.return_, 1) := by decide +kernel
set_option maxRecDepth 20000 in
theorem ggJ7_copyOf_1904c_J7_copyOf_6403c : GoodIn wsJ7_copyOf_1904c wsJ7_copyOf_6403c := goodIn_r _ [8, 9, 10, 11, 12, 13, 14, 15, 16, 17, 18] (by decide +kernel) (by decide +kernel)
set_option maxRecDepth 20000 in
theorem gJ7_copyOf_1904c_J7_copyOf_6403c : GoodIn wsJ7_copyOf_1904c (va_wsS RJ7 300 yJ7_copyOf_6403c wsJ7_copyOf_6403c) := goodIn_app (goodIn_of _ (by decide +kernel)) ggJ7_copyOf_1904c_J7_copyOf_6403c
theorem dJ7_copyOf_1904c_0 : decode cJ7_copyOf_1904c 0 = .ok (.aload_n 0, 1) := by decide +kernel
theorem dJ7_copyOf_1904c_1 : decode cJ7_copyOf_1904c 1 = .ok (.iload_n 1, 1) := by decide +kernel
theorem dJ7_copyOf_1904c_2 : decode cJ7_copyOf_1904c 2 = .ok (.aload_n 0, 1) := by decide +kernel
theorem dJ7_copyOf_1904c_3 : decode cJ7_copyOf_1904c 3 = .ok (.invokevirtual 86, 3) := by decide +kernel
theorem dJ7_copyOf_1904c_6 : decode cJ7_copyOf_1904c 6 = .ok (.invokestatic 300, 3) := by decide +kernel
theorem dJ7_copyOf_1904c_9 : decode cJ7_copyOf_1904c 9 = .ok (.areturn, 1) := by decide +kernel
theorem dJ7_copyOf_6403c_0 : decode cJ7_copyOf_6403c 0 = .ok (.aload_n 2, 1) := by decide +kernel
theorem dJ7_copyOf_6403c_1 : decode cJ7_copyOf_6403c 1 = .ok (.ldc 110, 2) := by decide +kernel
theorem dJ7_copyOf_6403c_3 : decode cJ7_copyOf_6403c 3 = .ok (.if_acmp .ne 10, 3) := by decide +kernel
theorem dJ7_copyOf_6403c_6 : decode cJ7_copyOf_6403c 6 = .ok (.iload_n 1, 1) := by decide +kernel
theorem dJ7_copyOf_6403c_7 : decode cJ7_copyOf_6403c 7 = .ok (.anewarray 2, 3) := by decide +kernel
theorem dJ7_copyOf_6403c_10 : decode cJ7_copyOf_6403c 10 = .ok (.goto 14, 3) := by decide +kernel
theorem dJ7_copyOf_6403c_13 : decode cJ7_copyOf_6403c 13 = .ok (.aload_n 2, 1) := by decide +kernel
theorem dJ7_copyOf_6403c_14 : decode cJ7_copyOf_6403c 14 = .ok (.invokevirtual 90, 3) := by decide +kernel
theorem dJ7_copyOf_6403c_17 : decode cJ7_copyOf_6403c 17 = .ok (.iload_n 1, 1) := by decide +kernel
theorem dJ7_copyOf_6403c_18 : decode cJ7_copyOf_6403c 18 = .ok (.invokestatic 95, 3) := by decide +kernel
theorem dJ7_copyOf_6403c_21 : decode cJ7_copyOf_6403c 21 = .ok (.checkcast 110, 3) := by decide +kernel
theorem dJ7_copyOf_6403c_24 : decode cJ7_copyOf_6403c 24 = .ok (.astore_n 3, 1) := by decide +kernel
theorem dJ7_copyOf_6403c_25 : decode cJ7_copyOf_6403c 25 = .ok (.aload_n 0, 1) := by decide +kernel
theorem dJ7_copyOf_6403c_26 : decode cJ7_copyOf_6403c 26 = .ok (.iconst 0, 1) := by decide +kernel
theorem dJ7_copyOf_6403c_27 : decode cJ7_copyOf_6403c 27 = .ok (.aload_n 3, 1) := by decide +kernel
theorem dJ7_copyOf_6403c_28 : decode cJ7_copyOf_6403c 28 = .ok (.iconst 0, 1) := by decide +kernel
theorem dJ7_copyOf_6403c_29 : decode cJ7_copyOf_6403c 29 = .ok (.aload_n 0, 1) := by decide +kernel
theorem dJ7_copyOf_6403c_30 : decode cJ7_copyOf_6403c 30 = .ok (.arraylength, 1) := by decide +kernel
theorem dJ7_copyOf_6403c_31 : decode cJ7_copyOf_6403c 31 = .ok (.iload_n 1, 1) := by decide +kernel
theorem dJ7_copyOf_6403c_32 : decode cJ7_copyOf_6403c 32 = .ok (.invokestatic 304, 3) := by decide +kernel
theorem dJ7_copyOf_6403c_35 : decode cJ7_copyOf_6403c 35 = .ok (.invokestatic 150, 3) := by decide +kernel
theorem dJ7_copyOf_6403c_38 : decode cJ7_copyOf_6403c 38 = .ok (.aload_n 3, 1) := by decide +kernel
theorem dJ7_copyOf_6403c_39 : decode cJ7_copyOf_6403c 39 = .ok (.areturn, 1) := by decide +kernel
set_option maxRecDepth 20000 in
theorem ggJ15_checkIndex_7cf53_J3_checkIndex_8e157 : GoodIn wsJ15_checkIndex_7cf53 wsJ3_checkIndex_8e157 := goodIn_r _ [4] (by decide +kernel) (by decide +kernel)
set_option maxRecDepth 20000 in
theorem gJ15_checkIndex_7cf53_J3_checkIndex_8e157 : GoodIn wsJ15_checkIndex_7cf53 (va_wsS RJ15 105 yJ3_checkIndex_8e157 wsJ3_checkIndex_8e157) := goodIn_app (goodIn_of _ (by decide +kernel)) ggJ15_checkIndex_7cf53_J3_checkIndex_8e157
theorem dJ15_checkIndex_7cf53_0 : decode cJ15_checkIndex_7cf53 0 = .ok (.iload_n 0, 1) := by decide +kernel
theorem dJ15_checkIndex_7cf53_1 : decode cJ15_checkIndex_7cf53 1 = .ok (.iload_n 1, 1) := by decide +kernel
theorem dJ15_checkIndex_7cf53_2 : decode cJ15_checkIndex_7cf53 2 = .ok (.aconst_null, 1) := by decide +kernel
theorem dJ15_checkIndex_7cf53_3 : decode cJ15_checkIndex_7cf53 3 = .ok (.invokestatic 105, 3) := by decide +kernel
theorem dJ15_checkIndex_7cf53_6 : decode cJ15_checkIndex_7cf53 6 = .ok (.ireturn, 1) := by decide +kernel
set_option maxRecDepth 20000 in
theorem ggJ8_newLength_cabcc_J8_hugeLength_7cf53 : GoodIn wsJ8_newLength_cabcc wsJ8_hugeLength_7cf53 := goodIn_r _ [9, 5] (by decide +kernel) (by decide +kernel)
set_option maxRecDepth 20000 in
theorem gJ8_newLength_cabcc_J8_hugeLength_7cf53 : GoodIn wsJ8_newLength_cabcc (va_wsS RJ8 201 yJ8_hugeLength_7cf53 wsJ8_hugeLength_7cf53) := goodIn_app (goodIn_of _ (by decide +kernel)) ggJ8_newLength_cabcc_J8_hugeLength_7cf53
theorem dJ8_newLength_cabcc_0 : decode cJ8_newLength_cabcc 0 = .ok (.iload_n 0, 1) := by decide +kernel
theorem dJ8_newLength_cabcc_1 : decode cJ8_newLength_cabcc 1 = .ok (.iload_n 1, 1) := by decide +kernel
