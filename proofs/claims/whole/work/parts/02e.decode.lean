theorem dX10_worth_51 : decode cX10_worth 51 = .ok (.iaload, 1) := by decide +kernel
theorem dX10_worth_52 : decode cX10_worth 52 = .ok (.if_icmp .ne 21, 3) := by decide +kernel
theorem dX10_worth_55 : decode cX10_worth 55 = .ok (.iload 4, 2) := by decide +kernel
theorem dX10_worth_57 : decode cX10_worth 57 = .ok (.aload_n 0, 1) := by decide +kernel
theorem dX10_worth_58 : decode cX10_worth 58 = .ok (.getfield 29, 3) := by decide +kernel
theorem dX10_worth_61 : decode cX10_worth 61 = .ok (.if_icmp .gt 12, 3) := by decide +kernel
theorem dX10_worth_64 : decode cX10_worth 64 = .ok (.sipush 10000, 3) := by decide +kernel
theorem dX10_worth_67 : decode cX10_worth 67 = .ok (.iload 4, 2) := by decide +kernel
theorem dX10_worth_69 : decode cX10_worth 69 = .ok (.isub, 1) := by decide +kernel
theorem dX10_worth_70 : decode cX10_worth 70 = .ok (.goto 4, 3) := by decide +kernel
theorem dX10_worth_73 : decode cX10_worth 73 = .ok (.iconst 0, 1) := by decide +kernel
theorem dX10_worth_74 : decode cX10_worth 74 = .ok (.ireturn, 1) := by decide +kernel
theorem dX10_joins_0 : decode cX10_joins 0 = .ok (.aload_n 0, 1) := by decide +kernel
theorem dX10_joins_1 : decode cX10_joins 1 = .ok (.iconst 0, 1) := by decide +kernel
theorem dX10_joins_2 : decode cX10_joins 2 = .ok (.putfield 242, 3) := by decide +kernel
theorem dX10_joins_5 : decode cX10_joins 5 = .ok (.iconst 0, 1) := by decide +kernel
theorem dX10_joins_6 : decode cX10_joins 6 = .ok (.istore_n 1, 1) := by decide +kernel
theorem dX10_joins_7 : decode cX10_joins 7 = .ok (.iload_n 1, 1) := by decide +kernel
theorem dX10_joins_8 : decode cX10_joins 8 = .ok (.aload_n 0, 1) := by decide +kernel
theorem dX10_joins_9 : decode cX10_joins 9 = .ok (.getfield 176, 3) := by decide +kernel
theorem dX10_joins_12 : decode cX10_joins 12 = .ok (.if_icmp .ge 50, 3) := by decide +kernel
theorem dX10_joins_15 : decode cX10_joins 15 = .ok (.aload_n 0, 1) := by decide +kernel
theorem dX10_joins_16 : decode cX10_joins 16 = .ok (.getfield 242, 3) := by decide +kernel
theorem dX10_joins_19 : decode cX10_joins 19 = .ok (.bipush 12, 2) := by decide +kernel
theorem dX10_joins_21 : decode cX10_joins 21 = .ok (.if_icmp .ge 41, 3) := by decide +kernel
theorem dX10_joins_24 : decode cX10_joins 24 = .ok (.aload_n 0, 1) := by decide +kernel
theorem dX10_joins_25 : decode cX10_joins 25 = .ok (.getfield 56, 3) := by decide +kernel
theorem dX10_joins_28 : decode cX10_joins 28 = .ok (.iload_n 1, 1) := by decide +kernel
theorem dX10_joins_29 : decode cX10_joins 29 = .ok (.baload, 1) := by decide +kernel
theorem dX10_joins_30 : decode cX10_joins 30 = .ok (.ifCond .ne 6, 3) := by decide +kernel
theorem dX10_joins_33 : decode cX10_joins 33 = .ok (.goto 23, 3) := by decide +kernel
theorem dX10_joins_36 : decode cX10_joins 36 = .ok (.aload_n 0, 1) := by decide +kernel
theorem dX10_joins_37 : decode cX10_joins 37 = .ok (.getfield 132, 3) := by decide +kernel
theorem dX10_joins_40 : decode cX10_joins 40 = .ok (.aload_n 0, 1) := by decide +kernel
theorem dX10_joins_41 : decode cX10_joins 41 = .ok (.getfield 242, 3) := by decide +kernel
theorem dX10_joins_44 : decode cX10_joins 44 = .ok (.iload_n 1, 1) := by decide +kernel
theorem dX10_joins_45 : decode cX10_joins 45 = .ok (.iastore, 1) := by decide +kernel
theorem dX10_joins_46 : decode cX10_joins 46 = .ok (.aload_n 0, 1) := by decide +kernel
theorem dX10_joins_47 : decode cX10_joins 47 = .ok (.dup, 1) := by decide +kernel
theorem dX10_joins_48 : decode cX10_joins 48 = .ok (.getfield 242, 3) := by decide +kernel
theorem dX10_joins_51 : decode cX10_joins 51 = .ok (.iconst 1, 1) := by decide +kernel
theorem dX10_joins_52 : decode cX10_joins 52 = .ok (.iadd, 1) := by decide +kernel
theorem dX10_joins_53 : decode cX10_joins 53 = .ok (.putfield 242, 3) := by decide +kernel
theorem dX10_joins_56 : decode cX10_joins 56 = .ok (.iinc 1 1, 3) := by decide +kernel
theorem dX10_joins_59 : decode cX10_joins 59 = .ok (.goto (-52), 3) := by decide +kernel
theorem dX10_joins_62 : decode cX10_joins 62 = .ok (.iconst 1, 1) := by decide +kernel
theorem dX10_joins_63 : decode cX10_joins 63 = .ok (.aload_n 0, 1) := by decide +kernel
theorem dX10_joins_64 : decode cX10_joins 64 = .ok (.getfield 242, 3) := by decide +kernel
theorem dX10_joins_67 : decode cX10_joins 67 = .ok (.ishl, 1) := by decide +kernel
theorem dX10_joins_68 : decode cX10_joins 68 = .ok (.istore_n 1, 1) := by decide +kernel
theorem dX10_joins_69 : decode cX10_joins 69 = .ok (.iconst 0, 1) := by decide +kernel
theorem dX10_joins_70 : decode cX10_joins 70 = .ok (.istore_n 2, 1) := by decide +kernel
theorem dX10_joins_71 : decode cX10_joins 71 = .ok (.iload_n 2, 1) := by decide +kernel
theorem dX10_joins_72 : decode cX10_joins 72 = .ok (.iload_n 1, 1) := by decide +kernel
theorem dX10_joins_73 : decode cX10_joins 73 = .ok (.if_icmp .ge 24, 3) := by decide +kernel
theorem dX10_joins_76 : decode cX10_joins 76 = .ok (.aload_n 0, 1) := by decide +kernel
theorem dX10_joins_77 : decode cX10_joins 77 = .ok (.getfield 136, 3) := by decide +kernel
theorem dX10_joins_80 : decode cX10_joins 80 = .ok (.aload_n 0, 1) := by decide +kernel
theorem dX10_joins_81 : decode cX10_joins 81 = .ok (.getfield 239, 3) := by decide +kernel
theorem dX10_joins_84 : decode cX10_joins 84 = .ok (.bipush 12, 2) := by decide +kernel
theorem dX10_joins_86 : decode cX10_joins 86 = .ok (.ishl, 1) := by decide +kernel
theorem dX10_joins_87 : decode cX10_joins 87 = .ok (.iload_n 2, 1) := by decide +kernel
theorem dX10_joins_88 : decode cX10_joins 88 = .ok (.iadd, 1) := by decide +kernel
theorem dX10_joins_89 : decode cX10_joins 89 = .ok (.iconst 0, 1) := by decide +kernel
theorem dX10_joins_90 : decode cX10_joins 90 = .ok (.iastore, 1) := by decide +kernel
theorem dX10_joins_91 : decode cX10_joins 91 = .ok (.iinc 2 1, 3) := by decide +kernel
theorem dX10_joins_94 : decode cX10_joins 94 = .ok (.goto (-23), 3) := by decide +kernel
theorem dX10_joins_97 : decode cX10_joins 97 = .ok (.aload_n 0, 1) := by decide +kernel
theorem dX10_joins_98 : decode cX10_joins 98 = .ok (.getfield 239, 3) := by decide +kernel
theorem dX10_joins_101 : decode cX10_joins 101 = .ok (.iconst 1, 1) := by decide +kernel
theorem dX10_joins_102 : decode cX10_joins 102 = .ok (.isub, 1) := by decide +kernel
theorem dX10_joins_103 : decode cX10_joins 103 = .ok (.istore_n 2, 1) := by decide +kernel
theorem dX10_joins_104 : decode cX10_joins 104 = .ok (.iload_n 2, 1) := by decide +kernel
theorem dX10_joins_105 : decode cX10_joins 105 = .ok (.ifCond .lt 120, 3) := by decide +kernel
theorem dX10_joins_108 : decode cX10_joins 108 = .ok (.iconst 0, 1) := by decide +kernel
theorem dX10_joins_109 : decode cX10_joins 109 = .ok (.istore_n 3, 1) := by decide +kernel
theorem dX10_joins_110 : decode cX10_joins 110 = .ok (.iload_n 3, 1) := by decide +kernel
theorem dX10_joins_111 : decode cX10_joins 111 = .ok (.iload_n 1, 1) := by decide +kernel
theorem dX10_joins_112 : decode cX10_joins 112 = .ok (.if_icmp .ge 107, 3) := by decide +kernel
theorem dX10_joins_115 : decode cX10_joins 115 = .ok (.aload_n 0, 1) := by decide +kernel
theorem dX10_joins_116 : decode cX10_joins 116 = .ok (.getfield 136, 3) := by decide +kernel
theorem dX10_joins_119 : decode cX10_joins 119 = .ok (.iload_n 2, 1) := by decide +kernel
theorem dX10_joins_120 : decode cX10_joins 120 = .ok (.iconst 1, 1) := by decide +kernel
theorem dX10_joins_121 : decode cX10_joins 121 = .ok (.iadd, 1) := by decide +kernel
theorem dX10_joins_122 : decode cX10_joins 122 = .ok (.bipush 12, 2) := by decide +kernel
theorem dX10_joins_124 : decode cX10_joins 124 = .ok (.ishl, 1) := by decide +kernel
theorem dX10_joins_125 : decode cX10_joins 125 = .ok (.iload_n 3, 1) := by decide +kernel
theorem dX10_joins_126 : decode cX10_joins 126 = .ok (.iadd, 1) := by decide +kernel
theorem dX10_joins_127 : decode cX10_joins 127 = .ok (.iaload, 1) := by decide +kernel
theorem dX10_joins_128 : decode cX10_joins 128 = .ok (.istore 4, 2) := by decide +kernel
theorem dX10_joins_130 : decode cX10_joins 130 = .ok (.iconst 0, 1) := by decide +kernel
theorem dX10_joins_131 : decode cX10_joins 131 = .ok (.istore 5, 2) := by decide +kernel
theorem dX10_joins_133 : decode cX10_joins 133 = .ok (.iload 5, 2) := by decide +kernel
theorem dX10_joins_135 : decode cX10_joins 135 = .ok (.aload_n 0, 1) := by decide +kernel
theorem dX10_joins_136 : decode cX10_joins 136 = .ok (.getfield 242, 3) := by decide +kernel
theorem dX10_joins_139 : decode cX10_joins 139 = .ok (.if_icmp .ge 61, 3) := by decide +kernel
theorem dX10_joins_142 : decode cX10_joins 142 = .ok (.iload_n 3, 1) := by decide +kernel
theorem dX10_joins_143 : decode cX10_joins 143 = .ok (.iload 5, 2) := by decide +kernel
theorem dX10_joins_145 : decode cX10_joins 145 = .ok (.ishr, 1) := by decide +kernel
theorem dX10_joins_146 : decode cX10_joins 146 = .ok (.iconst 1, 1) := by decide +kernel
theorem dX10_joins_147 : decode cX10_joins 147 = .ok (.iand, 1) := by decide +kernel
theorem dX10_joins_148 : decode cX10_joins 148 = .ok (.ifCond .ne 46, 3) := by decide +kernel
theorem dX10_joins_151 : decode cX10_joins 151 = .ok (.aload_n 0, 1) := by decide +kernel
theorem dX10_joins_152 : decode cX10_joins 152 = .ok (.iload_n 2, 1) := by decide +kernel
theorem dX10_joins_153 : decode cX10_joins 153 = .ok (.iload 5, 2) := by decide +kernel
theorem dX10_joins_155 : decode cX10_joins 155 = .ok (.invokevirtual 245, 3) := by decide +kernel
theorem dX10_joins_158 : decode cX10_joins 158 = .ok (.ifCond .le 36, 3) := by decide +kernel
theorem dX10_joins_161 : decode cX10_joins 161 = .ok (.iload 4, 2) := by decide +kernel
theorem dX10_joins_163 : decode cX10_joins 163 = .ok (.aload_n 0, 1) := by decide +kernel
theorem dX10_joins_164 : decode cX10_joins 164 = .ok (.iload_n 2, 1) := by decide +kernel
theorem dX10_joins_165 : decode cX10_joins 165 = .ok (.iload 5, 2) := by decide +kernel
theorem dX10_joins_167 : decode cX10_joins 167 = .ok (.invokevirtual 245, 3) := by decide +kernel
theorem dX10_joins_170 : decode cX10_joins 170 = .ok (.aload_n 0, 1) := by decide +kernel
theorem dX10_joins_171 : decode cX10_joins 171 = .ok (.getfield 136, 3) := by decide +kernel
theorem dX10_joins_174 : decode cX10_joins 174 = .ok (.iload_n 2, 1) := by decide +kernel
theorem dX10_joins_175 : decode cX10_joins 175 = .ok (.iconst 1, 1) := by decide +kernel
theorem dX10_joins_176 : decode cX10_joins 176 = .ok (.iadd, 1) := by decide +kernel
theorem dX10_joins_177 : decode cX10_joins 177 = .ok (.bipush 12, 2) := by decide +kernel
theorem dX10_joins_179 : decode cX10_joins 179 = .ok (.ishl, 1) := by decide +kernel
theorem dX10_joins_180 : decode cX10_joins 180 = .ok (.iload_n 3, 1) := by decide +kernel
theorem dX10_joins_181 : decode cX10_joins 181 = .ok (.iconst 1, 1) := by decide +kernel
theorem dX10_joins_182 : decode cX10_joins 182 = .ok (.iload 5, 2) := by decide +kernel
theorem dX10_joins_184 : decode cX10_joins 184 = .ok (.ishl, 1) := by decide +kernel
theorem dX10_joins_185 : decode cX10_joins 185 = .ok (.ior, 1) := by decide +kernel
theorem dX10_joins_186 : decode cX10_joins 186 = .ok (.iadd, 1) := by decide +kernel
theorem dX10_joins_187 : decode cX10_joins 187 = .ok (.iaload, 1) := by decide +kernel
theorem dX10_joins_188 : decode cX10_joins 188 = .ok (.iadd, 1) := by decide +kernel
theorem dX10_joins_189 : decode cX10_joins 189 = .ok (.invokestatic 167, 3) := by decide +kernel
theorem dX10_joins_192 : decode cX10_joins 192 = .ok (.istore 4, 2) := by decide +kernel
theorem dX10_joins_194 : decode cX10_joins 194 = .ok (.iinc 5 1, 3) := by decide +kernel
theorem dX10_joins_197 : decode cX10_joins 197 = .ok (.goto (-64), 3) := by decide +kernel
theorem dX10_joins_200 : decode cX10_joins 200 = .ok (.aload_n 0, 1) := by decide +kernel
theorem dX10_joins_201 : decode cX10_joins 201 = .ok (.getfield 136, 3) := by decide +kernel
theorem dX10_joins_204 : decode cX10_joins 204 = .ok (.iload_n 2, 1) := by decide +kernel
theorem dX10_joins_205 : decode cX10_joins 205 = .ok (.bipush 12, 2) := by decide +kernel
theorem dX10_joins_207 : decode cX10_joins 207 = .ok (.ishl, 1) := by decide +kernel
theorem dX10_joins_208 : decode cX10_joins 208 = .ok (.iload_n 3, 1) := by decide +kernel
theorem dX10_joins_209 : decode cX10_joins 209 = .ok (.iadd, 1) := by decide +kernel
theorem dX10_joins_210 : decode cX10_joins 210 = .ok (.iload 4, 2) := by decide +kernel
theorem dX10_joins_212 : decode cX10_joins 212 = .ok (.iastore, 1) := by decide +kernel
theorem dX10_joins_213 : decode cX10_joins 213 = .ok (.iinc 3 1, 3) := by decide +kernel
theorem dX10_joins_216 : decode cX10_joins 216 = .ok (.goto (-106), 3) := by decide +kernel
theorem dX10_joins_219 : decode cX10_joins 219 = .ok (.iinc 2 (-1), 3) := by decide +kernel
theorem dX10_joins_222 : decode cX10_joins 222 = .ok (.goto (-118), 3) := by decide +kernel
theorem dX10_joins_225 : decode cX10_joins 225 = .ok (.iconst 0, 1) := by decide +kernel
theorem dX10_joins_226 : decode cX10_joins 226 = .ok (.istore_n 2, 1) := by decide +kernel
theorem dX10_joins_227 : decode cX10_joins 227 = .ok (.iconst 0, 1) := by decide +kernel
theorem dX10_joins_228 : decode cX10_joins 228 = .ok (.istore_n 3, 1) := by decide +kernel
theorem dX10_joins_229 : decode cX10_joins 229 = .ok (.iload_n 3, 1) := by decide +kernel
theorem dX10_joins_230 : decode cX10_joins 230 = .ok (.aload_n 0, 1) := by decide +kernel
theorem dX10_joins_231 : decode cX10_joins 231 = .ok (.getfield 239, 3) := by decide +kernel
theorem dX10_joins_234 : decode cX10_joins 234 = .ok (.if_icmp .ge 134, 3) := by decide +kernel
theorem dX10_joins_237 : decode cX10_joins 237 = .ok (.aload_n 0, 1) := by decide +kernel
theorem dX10_joins_238 : decode cX10_joins 238 = .ok (.getfield 139, 3) := by decide +kernel
theorem dX10_joins_241 : decode cX10_joins 241 = .ok (.iload_n 3, 1) := by decide +kernel
theorem dX10_joins_242 : decode cX10_joins 242 = .ok (.bipush (-9), 2) := by decide +kernel
theorem dX10_joins_244 : decode cX10_joins 244 = .ok (.iastore, 1) := by decide +kernel
theorem dX10_joins_245 : decode cX10_joins 245 = .ok (.iconst (-1), 1) := by decide +kernel
theorem dX10_joins_246 : decode cX10_joins 246 = .ok (.istore 4, 2) := by decide +kernel
theorem dX10_joins_248 : decode cX10_joins 248 = .ok (.iconst 0, 1) := by decide +kernel
theorem dX10_joins_249 : decode cX10_joins 249 = .ok (.istore 5, 2) := by decide +kernel
theorem dX10_joins_251 : decode cX10_joins 251 = .ok (.iload 5, 2) := by decide +kernel
theorem dX10_joins_253 : decode cX10_joins 253 = .ok (.aload_n 0, 1) := by decide +kernel
theorem dX10_joins_254 : decode cX10_joins 254 = .ok (.getfield 242, 3) := by decide +kernel
theorem dX10_joins_257 : decode cX10_joins 257 = .ok (.if_icmp .ge 77, 3) := by decide +kernel
theorem dX10_joins_260 : decode cX10_joins 260 = .ok (.iload 4, 2) := by decide +kernel
theorem dX10_joins_262 : decode cX10_joins 262 = .ok (.ifCond .ge 72, 3) := by decide +kernel
theorem dX10_joins_265 : decode cX10_joins 265 = .ok (.iload_n 2, 1) := by decide +kernel
theorem dX10_joins_266 : decode cX10_joins 266 = .ok (.iload 5, 2) := by decide +kernel
theorem dX10_joins_268 : decode cX10_joins 268 = .ok (.ishr, 1) := by decide +kernel
theorem dX10_joins_269 : decode cX10_joins 269 = .ok (.iconst 1, 1) := by decide +kernel
theorem dX10_joins_270 : decode cX10_joins 270 = .ok (.iand, 1) := by decide +kernel
theorem dX10_joins_271 : decode cX10_joins 271 = .ok (.ifCond .ne 57, 3) := by decide +kernel
theorem dX10_joins_274 : decode cX10_joins 274 = .ok (.aload_n 0, 1) := by decide +kernel
theorem dX10_joins_275 : decode cX10_joins 275 = .ok (.iload_n 3, 1) := by decide +kernel
theorem dX10_joins_276 : decode cX10_joins 276 = .ok (.iload 5, 2) := by decide +kernel
theorem dX10_joins_278 : decode cX10_joins 278 = .ok (.invokevirtual 245, 3) := by decide +kernel
theorem dX10_joins_281 : decode cX10_joins 281 = .ok (.ifCond .le 47, 3) := by decide +kernel
theorem dX10_joins_284 : decode cX10_joins 284 = .ok (.aload_n 0, 1) := by decide +kernel
theorem dX10_joins_285 : decode cX10_joins 285 = .ok (.iload_n 3, 1) := by decide +kernel
theorem dX10_joins_286 : decode cX10_joins 286 = .ok (.iload 5, 2) := by decide +kernel
theorem dX10_joins_288 : decode cX10_joins 288 = .ok (.invokevirtual 245, 3) := by decide +kernel
theorem dX10_joins_291 : decode cX10_joins 291 = .ok (.aload_n 0, 1) := by decide +kernel
theorem dX10_joins_292 : decode cX10_joins 292 = .ok (.getfield 136, 3) := by decide +kernel
theorem dX10_joins_295 : decode cX10_joins 295 = .ok (.iload_n 3, 1) := by decide +kernel
theorem dX10_joins_296 : decode cX10_joins 296 = .ok (.iconst 1, 1) := by decide +kernel
theorem dX10_joins_297 : decode cX10_joins 297 = .ok (.iadd, 1) := by decide +kernel
theorem dX10_joins_298 : decode cX10_joins 298 = .ok (.bipush 12, 2) := by decide +kernel
theorem dX10_joins_300 : decode cX10_joins 300 = .ok (.ishl, 1) := by decide +kernel
theorem dX10_joins_301 : decode cX10_joins 301 = .ok (.iload_n 2, 1) := by decide +kernel
theorem dX10_joins_302 : decode cX10_joins 302 = .ok (.iconst 1, 1) := by decide +kernel
theorem dX10_joins_303 : decode cX10_joins 303 = .ok (.iload 5, 2) := by decide +kernel
theorem dX10_joins_305 : decode cX10_joins 305 = .ok (.ishl, 1) := by decide +kernel
theorem dX10_joins_306 : decode cX10_joins 306 = .ok (.ior, 1) := by decide +kernel
theorem dX10_joins_307 : decode cX10_joins 307 = .ok (.iadd, 1) := by decide +kernel
theorem dX10_joins_308 : decode cX10_joins 308 = .ok (.iaload, 1) := by decide +kernel
theorem dX10_joins_309 : decode cX10_joins 309 = .ok (.iadd, 1) := by decide +kernel
theorem dX10_joins_310 : decode cX10_joins 310 = .ok (.aload_n 0, 1) := by decide +kernel
theorem dX10_joins_311 : decode cX10_joins 311 = .ok (.getfield 136, 3) := by decide +kernel
theorem dX10_joins_314 : decode cX10_joins 314 = .ok (.iload_n 3, 1) := by decide +kernel
theorem dX10_joins_315 : decode cX10_joins 315 = .ok (.bipush 12, 2) := by decide +kernel
theorem dX10_joins_317 : decode cX10_joins 317 = .ok (.ishl, 1) := by decide +kernel
theorem dX10_joins_318 : decode cX10_joins 318 = .ok (.iload_n 2, 1) := by decide +kernel
theorem dX10_joins_319 : decode cX10_joins 319 = .ok (.iadd, 1) := by decide +kernel
theorem dX10_joins_320 : decode cX10_joins 320 = .ok (.iaload, 1) := by decide +kernel
theorem dX10_joins_321 : decode cX10_joins 321 = .ok (.if_icmp .ne 7, 3) := by decide +kernel
theorem dX10_joins_324 : decode cX10_joins 324 = .ok (.iload 5, 2) := by decide +kernel
theorem dX10_joins_326 : decode cX10_joins 326 = .ok (.istore 4, 2) := by decide +kernel
theorem dX10_joins_328 : decode cX10_joins 328 = .ok (.iinc 5 1, 3) := by decide +kernel
theorem dX10_joins_331 : decode cX10_joins 331 = .ok (.goto (-80), 3) := by decide +kernel
theorem dX10_joins_334 : decode cX10_joins 334 = .ok (.iload 4, 2) := by decide +kernel
theorem dX10_joins_336 : decode cX10_joins 336 = .ok (.ifCond .ge 6, 3) := by decide +kernel
theorem dX10_joins_339 : decode cX10_joins 339 = .ok (.goto 23, 3) := by decide +kernel
theorem dX10_joins_342 : decode cX10_joins 342 = .ok (.aload_n 0, 1) := by decide +kernel
theorem dX10_joins_343 : decode cX10_joins 343 = .ok (.getfield 139, 3) := by decide +kernel
theorem dX10_joins_346 : decode cX10_joins 346 = .ok (.iload_n 3, 1) := by decide +kernel
theorem dX10_joins_347 : decode cX10_joins 347 = .ok (.aload_n 0, 1) := by decide +kernel
theorem dX10_joins_348 : decode cX10_joins 348 = .ok (.getfield 132, 3) := by decide +kernel
theorem dX10_joins_351 : decode cX10_joins 351 = .ok (.iload 4, 2) := by decide +kernel
theorem dX10_joins_353 : decode cX10_joins 353 = .ok (.iaload, 1) := by decide +kernel
theorem dX10_joins_354 : decode cX10_joins 354 = .ok (.iastore, 1) := by decide +kernel
theorem dX10_joins_355 : decode cX10_joins 355 = .ok (.iload_n 2, 1) := by decide +kernel
theorem dX10_joins_356 : decode cX10_joins 356 = .ok (.iconst 1, 1) := by decide +kernel
theorem dX10_joins_357 : decode cX10_joins 357 = .ok (.iload 4, 2) := by decide +kernel
theorem dX10_joins_359 : decode cX10_joins 359 = .ok (.ishl, 1) := by decide +kernel
theorem dX10_joins_360 : decode cX10_joins 360 = .ok (.ior, 1) := by decide +kernel
theorem dX10_joins_361 : decode cX10_joins 361 = .ok (.istore_n 2, 1) := by decide +kernel
theorem dX10_joins_362 : decode cX10_joins 362 = .ok (.iinc 3 1, 3) := by decide +kernel
theorem dX10_joins_365 : decode cX10_joins 365 = .ok (.goto (-136), 3) := by decide +kernel
theorem dX10_joins_368 : decode cX10_joins 368 = .ok (.aload_n 0, 1) := by decide +kernel
theorem dX10_joins_369 : decode cX10_joins 369 = .ok (.getfield 136, 3) := by decide +kernel
theorem dX10_joins_372 : decode cX10_joins 372 = .ok (.iconst 0, 1) := by decide +kernel
theorem dX10_joins_373 : decode cX10_joins 373 = .ok (.iaload, 1) := by decide +kernel
theorem dX10_joins_374 : decode cX10_joins 374 = .ok (.ireturn, 1) := by decide +kernel
theorem dX10_join_0 : decode cX10_join 0 = .ok (.iload_n 1, 1) := by decide +kernel
theorem dX10_join_1 : decode cX10_join 1 = .ok (.iconst 2, 1) := by decide +kernel
theorem dX10_join_2 : decode cX10_join 2 = .ok (.invokestatic 153, 3) := by decide +kernel
theorem dX10_join_5 : decode cX10_join 5 = .ok (.ifCond .ne 10, 3) := by decide +kernel
theorem dX10_join_8 : decode cX10_join 8 = .ok (.aload_n 0, 1) := by decide +kernel
theorem dX10_join_9 : decode cX10_join 9 = .ok (.bipush (-2), 2) := by decide +kernel
theorem dX10_join_11 : decode cX10_join 11 = .ok (.invokevirtual 149, 3) := by decide +kernel
theorem dX10_join_14 : decode cX10_join 14 = .ok (.ireturn, 1) := by decide +kernel
theorem dX10_join_15 : decode cX10_join 15 = .ok (.aload_n 0, 1) := by decide +kernel
theorem dX10_join_16 : decode cX10_join 16 = .ok (.invokevirtual 248, 3) := by decide +kernel
theorem dX10_join_19 : decode cX10_join 19 = .ok (.istore_n 2, 1) := by decide +kernel
theorem dX10_join_20 : decode cX10_join 20 = .ok (.iload_n 2, 1) := by decide +kernel
theorem dX10_join_21 : decode cX10_join 21 = .ok (.sipush 9999, 3) := by decide +kernel
theorem dX10_join_24 : decode cX10_join 24 = .ok (.iadd, 1) := by decide +kernel
theorem dX10_join_25 : decode cX10_join 25 = .ok (.sipush 10000, 3) := by decide +kernel
theorem dX10_join_28 : decode cX10_join 28 = .ok (.idiv, 1) := by decide +kernel
theorem dX10_join_29 : decode cX10_join 29 = .ok (.istore_n 3, 1) := by decide +kernel
theorem dX10_join_30 : decode cX10_join 30 = .ok (.iload_n 1, 1) := by decide +kernel
theorem dX10_join_31 : decode cX10_join 31 = .ok (.ifCond .ne 7, 3) := by decide +kernel
theorem dX10_join_34 : decode cX10_join 34 = .ok (.iload_n 3, 1) := by decide +kernel
theorem dX10_join_35 : decode cX10_join 35 = .ok (.goto 10, 3) := by decide +kernel
theorem dX10_join_38 : decode cX10_join 38 = .ok (.sipush 10000, 3) := by decide +kernel
theorem dX10_join_41 : decode cX10_join 41 = .ok (.iload_n 3, 1) := by decide +kernel
theorem dX10_join_42 : decode cX10_join 42 = .ok (.imul, 1) := by decide +kernel
theorem dX10_join_43 : decode cX10_join 43 = .ok (.iload_n 2, 1) := by decide +kernel
theorem dX10_join_44 : decode cX10_join 44 = .ok (.isub, 1) := by decide +kernel
theorem dX10_join_45 : decode cX10_join 45 = .ok (.ireturn, 1) := by decide +kernel
theorem dX10_joined_0 : decode cX10_joined 0 = .ok (.iload_n 1, 1) := by decide +kernel
theorem dX10_joined_1 : decode cX10_joined 1 = .ok (.aload_n 0, 1) := by decide +kernel
theorem dX10_joined_2 : decode cX10_joined 2 = .ok (.getfield 239, 3) := by decide +kernel
theorem dX10_joined_5 : decode cX10_joined 5 = .ok (.invokestatic 153, 3) := by decide +kernel
theorem dX10_joined_8 : decode cX10_joined 8 = .ok (.ifCond .ne 9, 3) := by decide +kernel
theorem dX10_joined_11 : decode cX10_joined 11 = .ok (.aload_n 0, 1) := by decide +kernel
theorem dX10_joined_12 : decode cX10_joined 12 = .ok (.iconst (-1), 1) := by decide +kernel
theorem dX10_joined_13 : decode cX10_joined 13 = .ok (.invokevirtual 149, 3) := by decide +kernel
theorem dX10_joined_16 : decode cX10_joined 16 = .ok (.ireturn, 1) := by decide +kernel
theorem dX10_joined_17 : decode cX10_joined 17 = .ok (.aload_n 0, 1) := by decide +kernel
theorem dX10_joined_18 : decode cX10_joined 18 = .ok (.invokevirtual 248, 3) := by decide +kernel
theorem dX10_joined_21 : decode cX10_joined 21 = .ok (.istore_n 2, 1) := by decide +kernel
theorem dX10_joined_22 : decode cX10_joined 22 = .ok (.aload_n 0, 1) := by decide +kernel
theorem dX10_joined_23 : decode cX10_joined 23 = .ok (.getfield 139, 3) := by decide +kernel
theorem dX10_joined_26 : decode cX10_joined 26 = .ok (.iload_n 1, 1) := by decide +kernel
theorem dX10_joined_27 : decode cX10_joined 27 = .ok (.iaload, 1) := by decide +kernel
theorem dX10_joined_28 : decode cX10_joined 28 = .ok (.ireturn, 1) := by decide +kernel
theorem dX10_job_0 : decode cX10_job 0 = .ok (.iload_n 1, 1) := by decide +kernel
theorem dX10_job_1 : decode cX10_job 1 = .ok (.iconst 1, 1) := by decide +kernel
theorem dX10_job_2 : decode cX10_job 2 = .ok (.if_icmp .lt 11, 3) := by decide +kernel
theorem dX10_job_5 : decode cX10_job 5 = .ok (.iload_n 2, 1) := by decide +kernel
theorem dX10_job_6 : decode cX10_job 6 = .ok (.ifCond .lt 7, 3) := by decide +kernel
theorem dX10_job_9 : decode cX10_job 9 = .ok (.iload_n 3, 1) := by decide +kernel
theorem dX10_job_10 : decode cX10_job 10 = .ok (.ifCond .ge 10, 3) := by decide +kernel
theorem dX10_job_13 : decode cX10_job 13 = .ok (.aload_n 0, 1) := by decide +kernel
theorem dX10_job_14 : decode cX10_job 14 = .ok (.bipush (-4), 2) := by decide +kernel
theorem dX10_job_16 : decode cX10_job 16 = .ok (.invokevirtual 149, 3) := by decide +kernel
theorem dX10_job_19 : decode cX10_job 19 = .ok (.ireturn, 1) := by decide +kernel
theorem dX10_job_20 : decode cX10_job 20 = .ok (.iload_n 1, 1) := by decide +kernel
theorem dX10_job_21 : decode cX10_job 21 = .ok (.bipush 40, 2) := by decide +kernel
theorem dX10_job_23 : decode cX10_job 23 = .ok (.if_icmp .gt 25, 3) := by decide +kernel
theorem dX10_job_26 : decode cX10_job 26 = .ok (.iload_n 2, 1) := by decide +kernel
theorem dX10_job_27 : decode cX10_job 27 = .ok (.sipush 400, 3) := by decide +kernel
theorem dX10_job_30 : decode cX10_job 30 = .ok (.if_icmp .gt 18, 3) := by decide +kernel
theorem dX10_job_33 : decode cX10_job 33 = .ok (.iload_n 3, 1) := by decide +kernel
theorem dX10_job_34 : decode cX10_job 34 = .ok (.bipush 15, 2) := by decide +kernel
theorem dX10_job_36 : decode cX10_job 36 = .ok (.if_icmp .gt 12, 3) := by decide +kernel
theorem dX10_job_39 : decode cX10_job 39 = .ok (.aload_n 0, 1) := by decide +kernel
theorem dX10_job_40 : decode cX10_job 40 = .ok (.getfield 252, 3) := by decide +kernel
theorem dX10_job_43 : decode cX10_job 43 = .ok (.bipush 8, 2) := by decide +kernel
theorem dX10_job_45 : decode cX10_job 45 = .ok (.if_icmp .ne 10, 3) := by decide +kernel
theorem dX10_job_48 : decode cX10_job 48 = .ok (.aload_n 0, 1) := by decide +kernel
theorem dX10_job_49 : decode cX10_job 49 = .ok (.bipush (-6), 2) := by decide +kernel
theorem dX10_job_51 : decode cX10_job 51 = .ok (.invokevirtual 149, 3) := by decide +kernel
theorem dX10_job_54 : decode cX10_job 54 = .ok (.ireturn, 1) := by decide +kernel
theorem dX10_job_55 : decode cX10_job 55 = .ok (.aload_n 0, 1) := by decide +kernel
theorem dX10_job_56 : decode cX10_job 56 = .ok (.getfield 120, 3) := by decide +kernel
theorem dX10_job_59 : decode cX10_job 59 = .ok (.aload_n 0, 1) := by decide +kernel
theorem dX10_job_60 : decode cX10_job 60 = .ok (.getfield 252, 3) := by decide +kernel
theorem dX10_job_63 : decode cX10_job 63 = .ok (.iload_n 1, 1) := by decide +kernel
theorem dX10_job_64 : decode cX10_job 64 = .ok (.iastore, 1) := by decide +kernel
theorem dX10_job_65 : decode cX10_job 65 = .ok (.aload_n 0, 1) := by decide +kernel
theorem dX10_job_66 : decode cX10_job 66 = .ok (.getfield 123, 3) := by decide +kernel
theorem dX10_job_69 : decode cX10_job 69 = .ok (.aload_n 0, 1) := by decide +kernel
theorem dX10_job_70 : decode cX10_job 70 = .ok (.getfield 252, 3) := by decide +kernel
theorem dX10_job_73 : decode cX10_job 73 = .ok (.iload_n 2, 1) := by decide +kernel
theorem dX10_job_74 : decode cX10_job 74 = .ok (.iastore, 1) := by decide +kernel
theorem dX10_job_75 : decode cX10_job 75 = .ok (.aload_n 0, 1) := by decide +kernel
theorem dX10_job_76 : decode cX10_job 76 = .ok (.getfield 126, 3) := by decide +kernel
theorem dX10_job_79 : decode cX10_job 79 = .ok (.aload_n 0, 1) := by decide +kernel
theorem dX10_job_80 : decode cX10_job 80 = .ok (.getfield 252, 3) := by decide +kernel
theorem dX10_job_83 : decode cX10_job 83 = .ok (.iload_n 3, 1) := by decide +kernel
theorem dX10_job_84 : decode cX10_job 84 = .ok (.iastore, 1) := by decide +kernel
theorem dX10_job_85 : decode cX10_job 85 = .ok (.aload_n 0, 1) := by decide +kernel
theorem dX10_job_86 : decode cX10_job 86 = .ok (.dup, 1) := by decide +kernel
theorem dX10_job_87 : decode cX10_job 87 = .ok (.getfield 252, 3) := by decide +kernel
theorem dX10_job_90 : decode cX10_job 90 = .ok (.iconst 1, 1) := by decide +kernel
theorem dX10_job_91 : decode cX10_job 91 = .ok (.iadd, 1) := by decide +kernel
theorem dX10_job_92 : decode cX10_job 92 = .ok (.putfield 252, 3) := by decide +kernel
theorem dX10_job_95 : decode cX10_job 95 = .ok (.aload_n 0, 1) := by decide +kernel
theorem dX10_job_96 : decode cX10_job 96 = .ok (.getfield 252, 3) := by decide +kernel
theorem dX10_job_99 : decode cX10_job 99 = .ok (.iconst 1, 1) := by decide +kernel
theorem dX10_job_100 : decode cX10_job 100 = .ok (.isub, 1) := by decide +kernel
theorem dX10_job_101 : decode cX10_job 101 = .ok (.ireturn, 1) := by decide +kernel
theorem dX10_gang_0 : decode cX10_gang 0 = .ok (.iload_n 1, 1) := by decide +kernel
theorem dX10_gang_1 : decode cX10_gang 1 = .ok (.iconst 2, 1) := by decide +kernel
theorem dX10_gang_2 : decode cX10_gang 2 = .ok (.invokestatic 153, 3) := by decide +kernel
theorem dX10_gang_5 : decode cX10_gang 5 = .ok (.ifCond .eq 13, 3) := by decide +kernel
theorem dX10_gang_8 : decode cX10_gang 8 = .ok (.iload_n 2, 1) := by decide +kernel
theorem dX10_gang_9 : decode cX10_gang 9 = .ok (.iconst 0, 1) := by decide +kernel
theorem dX10_gang_10 : decode cX10_gang 10 = .ok (.bipush 15, 2) := by decide +kernel
theorem dX10_gang_12 : decode cX10_gang 12 = .ok (.invokestatic 160, 3) := by decide +kernel
theorem dX10_gang_15 : decode cX10_gang 15 = .ok (.goto 4, 3) := by decide +kernel
theorem dX10_gang_18 : decode cX10_gang 18 = .ok (.iconst (-1), 1) := by decide +kernel
theorem dX10_gang_19 : decode cX10_gang 19 = .ok (.istore_n 3, 1) := by decide +kernel
theorem dX10_gang_20 : decode cX10_gang 20 = .ok (.iload_n 3, 1) := by decide +kernel
theorem dX10_gang_21 : decode cX10_gang 21 = .ok (.ifCond .eq 9, 3) := by decide +kernel
theorem dX10_gang_24 : decode cX10_gang 24 = .ok (.aload_n 0, 1) := by decide +kernel
theorem dX10_gang_25 : decode cX10_gang 25 = .ok (.iload_n 3, 1) := by decide +kernel
theorem dX10_gang_26 : decode cX10_gang 26 = .ok (.invokevirtual 149, 3) := by decide +kernel
theorem dX10_gang_29 : decode cX10_gang 29 = .ok (.ireturn, 1) := by decide +kernel
theorem dX10_gang_30 : decode cX10_gang 30 = .ok (.aload_n 0, 1) := by decide +kernel
theorem dX10_gang_31 : decode cX10_gang 31 = .ok (.getfield 129, 3) := by decide +kernel
theorem dX10_gang_34 : decode cX10_gang 34 = .ok (.iload_n 1, 1) := by decide +kernel
theorem dX10_gang_35 : decode cX10_gang 35 = .ok (.iaload, 1) := by decide +kernel
theorem dX10_gang_36 : decode cX10_gang 36 = .ok (.istore 4, 2) := by decide +kernel
theorem dX10_gang_38 : decode cX10_gang 38 = .ok (.aload_n 0, 1) := by decide +kernel
theorem dX10_gang_39 : decode cX10_gang 39 = .ok (.getfield 129, 3) := by decide +kernel
theorem dX10_gang_42 : decode cX10_gang 42 = .ok (.iload_n 1, 1) := by decide +kernel
theorem dX10_gang_43 : decode cX10_gang 43 = .ok (.iload_n 2, 1) := by decide +kernel
theorem dX10_gang_44 : decode cX10_gang 44 = .ok (.iastore, 1) := by decide +kernel
theorem dX10_gang_45 : decode cX10_gang 45 = .ok (.iload 4, 2) := by decide +kernel
theorem dX10_gang_47 : decode cX10_gang 47 = .ok (.ireturn, 1) := by decide +kernel
theorem dX10_plans_0 : decode cX10_plans 0 = .ok (.iconst 0, 1) := by decide +kernel
theorem dX10_plans_1 : decode cX10_plans 1 = .ok (.istore_n 1, 1) := by decide +kernel
theorem dX10_plans_2 : decode cX10_plans 2 = .ok (.iload_n 1, 1) := by decide +kernel
theorem dX10_plans_3 : decode cX10_plans 3 = .ok (.aload_n 0, 1) := by decide +kernel
theorem dX10_plans_4 : decode cX10_plans 4 = .ok (.getfield 252, 3) := by decide +kernel
theorem dX10_plans_7 : decode cX10_plans 7 = .ok (.if_icmp .ge 64, 3) := by decide +kernel
theorem dX10_plans_10 : decode cX10_plans 10 = .ok (.iload_n 1, 1) := by decide +kernel
theorem dX10_plans_11 : decode cX10_plans 11 = .ok (.istore_n 2, 1) := by decide +kernel
theorem dX10_plans_12 : decode cX10_plans 12 = .ok (.iload_n 2, 1) := by decide +kernel
theorem dX10_plans_13 : decode cX10_plans 13 = .ok (.ifCond .le 45, 3) := by decide +kernel
theorem dX10_plans_16 : decode cX10_plans 16 = .ok (.aload_n 0, 1) := by decide +kernel
theorem dX10_plans_17 : decode cX10_plans 17 = .ok (.getfield 123, 3) := by decide +kernel
theorem dX10_plans_20 : decode cX10_plans 20 = .ok (.aload_n 0, 1) := by decide +kernel
theorem dX10_plans_21 : decode cX10_plans 21 = .ok (.getfield 142, 3) := by decide +kernel
theorem dX10_plans_24 : decode cX10_plans 24 = .ok (.iload_n 2, 1) := by decide +kernel
theorem dX10_plans_25 : decode cX10_plans 25 = .ok (.iconst 1, 1) := by decide +kernel
theorem dX10_plans_26 : decode cX10_plans 26 = .ok (.isub, 1) := by decide +kernel
theorem dX10_plans_27 : decode cX10_plans 27 = .ok (.iaload, 1) := by decide +kernel
theorem dX10_plans_28 : decode cX10_plans 28 = .ok (.iaload, 1) := by decide +kernel
theorem dX10_plans_29 : decode cX10_plans 29 = .ok (.aload_n 0, 1) := by decide +kernel
theorem dX10_plans_30 : decode cX10_plans 30 = .ok (.getfield 123, 3) := by decide +kernel
theorem dX10_plans_33 : decode cX10_plans 33 = .ok (.iload_n 1, 1) := by decide +kernel
theorem dX10_plans_34 : decode cX10_plans 34 = .ok (.iaload, 1) := by decide +kernel
theorem dX10_plans_35 : decode cX10_plans 35 = .ok (.if_icmp .le 23, 3) := by decide +kernel
theorem dX10_plans_38 : decode cX10_plans 38 = .ok (.aload_n 0, 1) := by decide +kernel
theorem dX10_plans_39 : decode cX10_plans 39 = .ok (.getfield 142, 3) := by decide +kernel
theorem dX10_plans_42 : decode cX10_plans 42 = .ok (.iload_n 2, 1) := by decide +kernel
theorem dX10_plans_43 : decode cX10_plans 43 = .ok (.aload_n 0, 1) := by decide +kernel
theorem dX10_plans_44 : decode cX10_plans 44 = .ok (.getfield 142, 3) := by decide +kernel
theorem dX10_plans_47 : decode cX10_plans 47 = .ok (.iload_n 2, 1) := by decide +kernel
theorem dX10_plans_48 : decode cX10_plans 48 = .ok (.iconst 1, 1) := by decide +kernel
theorem dX10_plans_49 : decode cX10_plans 49 = .ok (.isub, 1) := by decide +kernel
theorem dX10_plans_50 : decode cX10_plans 50 = .ok (.iaload, 1) := by decide +kernel
theorem dX10_plans_51 : decode cX10_plans 51 = .ok (.iastore, 1) := by decide +kernel
theorem dX10_plans_52 : decode cX10_plans 52 = .ok (.iinc 2 (-1), 3) := by decide +kernel
theorem dX10_plans_55 : decode cX10_plans 55 = .ok (.goto (-43), 3) := by decide +kernel
theorem dX10_plans_58 : decode cX10_plans 58 = .ok (.aload_n 0, 1) := by decide +kernel
theorem dX10_plans_59 : decode cX10_plans 59 = .ok (.getfield 142, 3) := by decide +kernel
theorem dX10_plans_62 : decode cX10_plans 62 = .ok (.iload_n 2, 1) := by decide +kernel
theorem dX10_plans_63 : decode cX10_plans 63 = .ok (.iload_n 1, 1) := by decide +kernel
theorem dX10_plans_64 : decode cX10_plans 64 = .ok (.iastore, 1) := by decide +kernel
theorem dX10_plans_65 : decode cX10_plans 65 = .ok (.iinc 1 1, 3) := by decide +kernel
theorem dX10_plans_68 : decode cX10_plans 68 = .ok (.goto (-66), 3) := by decide +kernel
theorem dX10_plans_71 : decode cX10_plans 71 = .ok (.aload_n 0, 1) := by decide +kernel
theorem dX10_plans_72 : decode cX10_plans 72 = .ok (.iconst (-1), 1) := by decide +kernel
theorem dX10_plans_73 : decode cX10_plans 73 = .ok (.putfield 255, 3) := by decide +kernel
theorem dX10_plans_76 : decode cX10_plans 76 = .ok (.iconst 0, 1) := by decide +kernel
theorem dX10_plans_77 : decode cX10_plans 77 = .ok (.istore_n 1, 1) := by decide +kernel
theorem dX10_plans_78 : decode cX10_plans 78 = .ok (.iload_n 1, 1) := by decide +kernel
theorem dX10_plans_79 : decode cX10_plans 79 = .ok (.iconst 1, 1) := by decide +kernel
theorem dX10_plans_80 : decode cX10_plans 80 = .ok (.aload_n 0, 1) := by decide +kernel
theorem dX10_plans_81 : decode cX10_plans 81 = .ok (.getfield 252, 3) := by decide +kernel
theorem dX10_plans_84 : decode cX10_plans 84 = .ok (.ishl, 1) := by decide +kernel
theorem dX10_plans_85 : decode cX10_plans 85 = .ok (.if_icmp .ge 14, 3) := by decide +kernel
theorem dX10_plans_88 : decode cX10_plans 88 = .ok (.aload_n 0, 1) := by decide +kernel
theorem dX10_plans_89 : decode cX10_plans 89 = .ok (.iload_n 1, 1) := by decide +kernel
theorem dX10_plans_90 : decode cX10_plans 90 = .ok (.invokevirtual 258, 3) := by decide +kernel
theorem dX10_plans_93 : decode cX10_plans 93 = .ok (.iinc 1 1, 3) := by decide +kernel
theorem dX10_plans_96 : decode cX10_plans 96 = .ok (.goto (-18), 3) := by decide +kernel
theorem dX10_plans_99 : decode cX10_plans 99 = .ok (.return_, 1) := by decide +kernel
theorem dX10_gangIn_0 : decode cX10_gangIn 0 = .ok (.iload_n 1, 1) := by decide +kernel
theorem dX10_gangIn_1 : decode cX10_gangIn 1 = .ok (.aload_n 0, 1) := by decide +kernel
theorem dX10_gangIn_2 : decode cX10_gangIn 2 = .ok (.getfield 252, 3) := by decide +kernel
theorem dX10_gangIn_5 : decode cX10_gangIn 5 = .ok (.iconst 1, 1) := by decide +kernel
theorem dX10_gangIn_6 : decode cX10_gangIn 6 = .ok (.isub, 1) := by decide +kernel
theorem dX10_gangIn_7 : decode cX10_gangIn 7 = .ok (.iload_n 2, 1) := by decide +kernel
theorem dX10_gangIn_8 : decode cX10_gangIn 8 = .ok (.isub, 1) := by decide +kernel
theorem dX10_gangIn_9 : decode cX10_gangIn 9 = .ok (.ishr, 1) := by decide +kernel
theorem dX10_gangIn_10 : decode cX10_gangIn 10 = .ok (.iconst 1, 1) := by decide +kernel
theorem dX10_gangIn_11 : decode cX10_gangIn 11 = .ok (.iand, 1) := by decide +kernel
theorem dX10_gangIn_12 : decode cX10_gangIn 12 = .ok (.ireturn, 1) := by decide +kernel
theorem dX10_tries_0 : decode cX10_tries 0 = .ok (.aload_n 0, 1) := by decide +kernel
theorem dX10_tries_1 : decode cX10_tries 1 = .ok (.getfield 145, 3) := by decide +kernel
theorem dX10_tries_4 : decode cX10_tries 4 = .ok (.iconst 0, 1) := by decide +kernel
theorem dX10_tries_5 : decode cX10_tries 5 = .ok (.iconst 0, 1) := by decide +kernel
theorem dX10_tries_6 : decode cX10_tries 6 = .ok (.iastore, 1) := by decide +kernel
theorem dX10_tries_7 : decode cX10_tries 7 = .ok (.aload_n 0, 1) := by decide +kernel
theorem dX10_tries_8 : decode cX10_tries 8 = .ok (.getfield 145, 3) := by decide +kernel
theorem dX10_tries_11 : decode cX10_tries 11 = .ok (.iconst 1, 1) := by decide +kernel
theorem dX10_tries_12 : decode cX10_tries 12 = .ok (.iconst 0, 1) := by decide +kernel
theorem dX10_tries_13 : decode cX10_tries 13 = .ok (.iastore, 1) := by decide +kernel
theorem dX10_tries_14 : decode cX10_tries 14 = .ok (.iconst 0, 1) := by decide +kernel
theorem dX10_tries_15 : decode cX10_tries 15 = .ok (.istore_n 2, 1) := by decide +kernel
theorem dX10_tries_16 : decode cX10_tries 16 = .ok (.iconst 0, 1) := by decide +kernel
theorem dX10_tries_17 : decode cX10_tries 17 = .ok (.istore_n 3, 1) := by decide +kernel
theorem dX10_tries_18 : decode cX10_tries 18 = .ok (.iconst 0, 1) := by decide +kernel
theorem dX10_tries_19 : decode cX10_tries 19 = .ok (.istore 4, 2) := by decide +kernel
theorem dX10_tries_21 : decode cX10_tries 21 = .ok (.iload 4, 2) := by decide +kernel
theorem dX10_tries_23 : decode cX10_tries 23 = .ok (.aload_n 0, 1) := by decide +kernel
theorem dX10_tries_24 : decode cX10_tries 24 = .ok (.getfield 252, 3) := by decide +kernel
theorem dX10_tries_27 : decode cX10_tries 27 = .ok (.if_icmp .ge 98, 3) := by decide +kernel
theorem dX10_tries_30 : decode cX10_tries 30 = .ok (.aload_n 0, 1) := by decide +kernel
theorem dX10_tries_31 : decode cX10_tries 31 = .ok (.getfield 142, 3) := by decide +kernel
theorem dX10_tries_34 : decode cX10_tries 34 = .ok (.iload 4, 2) := by decide +kernel
theorem dX10_tries_36 : decode cX10_tries 36 = .ok (.iaload, 1) := by decide +kernel
theorem dX10_tries_37 : decode cX10_tries 37 = .ok (.istore 5, 2) := by decide +kernel
theorem dX10_tries_39 : decode cX10_tries 39 = .ok (.aload_n 0, 1) := by decide +kernel
theorem dX10_tries_40 : decode cX10_tries 40 = .ok (.iload_n 1, 1) := by decide +kernel
theorem dX10_tries_41 : decode cX10_tries 41 = .ok (.iload 5, 2) := by decide +kernel
theorem dX10_tries_43 : decode cX10_tries 43 = .ok (.invokevirtual 262, 3) := by decide +kernel
theorem dX10_tries_46 : decode cX10_tries 46 = .ok (.istore 6, 2) := by decide +kernel
theorem dX10_tries_48 : decode cX10_tries 48 = .ok (.aload_n 0, 1) := by decide +kernel
theorem dX10_tries_49 : decode cX10_tries 49 = .ok (.getfield 126, 3) := by decide +kernel
theorem dX10_tries_52 : decode cX10_tries 52 = .ok (.iload 5, 2) := by decide +kernel
theorem dX10_tries_54 : decode cX10_tries 54 = .ok (.iaload, 1) := by decide +kernel
theorem dX10_tries_55 : decode cX10_tries 55 = .ok (.aload_n 0, 1) := by decide +kernel
theorem dX10_tries_56 : decode cX10_tries 56 = .ok (.getfield 129, 3) := by decide +kernel
theorem dX10_tries_59 : decode cX10_tries 59 = .ok (.iload 6, 2) := by decide +kernel
theorem dX10_tries_61 : decode cX10_tries 61 = .ok (.iaload, 1) := by decide +kernel
theorem dX10_tries_62 : decode cX10_tries 62 = .ok (.iconst (-1), 1) := by decide +kernel
theorem dX10_tries_63 : decode cX10_tries 63 = .ok (.ixor, 1) := by decide +kernel
theorem dX10_tries_64 : decode cX10_tries 64 = .ok (.iand, 1) := by decide +kernel
theorem dX10_tries_65 : decode cX10_tries 65 = .ok (.ifCond .eq 4, 3) := by decide +kernel
theorem dX10_tries_68 : decode cX10_tries 68 = .ok (.return_, 1) := by decide +kernel
theorem dX10_tries_69 : decode cX10_tries 69 = .ok (.aload_n 0, 1) := by decide +kernel
theorem dX10_tries_70 : decode cX10_tries 70 = .ok (.getfield 145, 3) := by decide +kernel
theorem dX10_tries_73 : decode cX10_tries 73 = .ok (.iload 6, 2) := by decide +kernel
theorem dX10_tries_75 : decode cX10_tries 75 = .ok (.dup2, 1) := by decide +kernel
theorem dX10_tries_76 : decode cX10_tries 76 = .ok (.iaload, 1) := by decide +kernel
theorem dX10_tries_77 : decode cX10_tries 77 = .ok (.aload_n 0, 1) := by decide +kernel
theorem dX10_tries_78 : decode cX10_tries 78 = .ok (.getfield 120, 3) := by decide +kernel
theorem dX10_tries_81 : decode cX10_tries 81 = .ok (.iload 5, 2) := by decide +kernel
theorem dX10_tries_83 : decode cX10_tries 83 = .ok (.iaload, 1) := by decide +kernel
theorem dX10_tries_84 : decode cX10_tries 84 = .ok (.iadd, 1) := by decide +kernel
theorem dX10_tries_85 : decode cX10_tries 85 = .ok (.iastore, 1) := by decide +kernel
theorem dX10_tries_86 : decode cX10_tries 86 = .ok (.iconst 0, 1) := by decide +kernel
theorem dX10_tries_87 : decode cX10_tries 87 = .ok (.aload_n 0, 1) := by decide +kernel
theorem dX10_tries_88 : decode cX10_tries 88 = .ok (.getfield 145, 3) := by decide +kernel
theorem dX10_tries_91 : decode cX10_tries 91 = .ok (.iload 6, 2) := by decide +kernel
theorem dX10_tries_93 : decode cX10_tries 93 = .ok (.iaload, 1) := by decide +kernel
theorem dX10_tries_94 : decode cX10_tries 94 = .ok (.aload_n 0, 1) := by decide +kernel
theorem dX10_tries_95 : decode cX10_tries 95 = .ok (.getfield 123, 3) := by decide +kernel
theorem dX10_tries_98 : decode cX10_tries 98 = .ok (.iload 5, 2) := by decide +kernel
theorem dX10_tries_100 : decode cX10_tries 100 = .ok (.iaload, 1) := by decide +kernel
theorem dX10_tries_101 : decode cX10_tries 101 = .ok (.isub, 1) := by decide +kernel
theorem dX10_tries_102 : decode cX10_tries 102 = .ok (.invokestatic 167, 3) := by decide +kernel
theorem dX10_tries_105 : decode cX10_tries 105 = .ok (.istore 7, 2) := by decide +kernel
theorem dX10_tries_107 : decode cX10_tries 107 = .ok (.iload_n 2, 1) := by decide +kernel
theorem dX10_tries_108 : decode cX10_tries 108 = .ok (.iload 7, 2) := by decide +kernel
theorem dX10_tries_110 : decode cX10_tries 110 = .ok (.invokestatic 167, 3) := by decide +kernel
theorem dX10_tries_113 : decode cX10_tries 113 = .ok (.istore_n 2, 1) := by decide +kernel
theorem dX10_tries_114 : decode cX10_tries 114 = .ok (.iload_n 3, 1) := by decide +kernel
theorem dX10_tries_115 : decode cX10_tries 115 = .ok (.iload 7, 2) := by decide +kernel
theorem dX10_tries_117 : decode cX10_tries 117 = .ok (.iadd, 1) := by decide +kernel
theorem dX10_tries_118 : decode cX10_tries 118 = .ok (.istore_n 3, 1) := by decide +kernel
theorem dX10_tries_119 : decode cX10_tries 119 = .ok (.iinc 4 1, 3) := by decide +kernel
theorem dX10_tries_122 : decode cX10_tries 122 = .ok (.goto (-101), 3) := by decide +kernel
theorem dX10_tries_125 : decode cX10_tries 125 = .ok (.aload_n 0, 1) := by decide +kernel
theorem dX10_tries_126 : decode cX10_tries 126 = .ok (.getfield 255, 3) := by decide +kernel
theorem dX10_tries_129 : decode cX10_tries 129 = .ok (.ifCond .lt 28, 3) := by decide +kernel
theorem dX10_tries_132 : decode cX10_tries 132 = .ok (.iload_n 2, 1) := by decide +kernel
theorem dX10_tries_133 : decode cX10_tries 133 = .ok (.aload_n 0, 1) := by decide +kernel
theorem dX10_tries_134 : decode cX10_tries 134 = .ok (.getfield 265, 3) := by decide +kernel
theorem dX10_tries_137 : decode cX10_tries 137 = .ok (.if_icmp .gt 19, 3) := by decide +kernel
theorem dX10_tries_140 : decode cX10_tries 140 = .ok (.iload_n 2, 1) := by decide +kernel
theorem dX10_tries_141 : decode cX10_tries 141 = .ok (.aload_n 0, 1) := by decide +kernel
theorem dX10_tries_142 : decode cX10_tries 142 = .ok (.getfield 265, 3) := by decide +kernel
theorem dX10_tries_145 : decode cX10_tries 145 = .ok (.if_icmp .ne 12, 3) := by decide +kernel
theorem dX10_tries_148 : decode cX10_tries 148 = .ok (.iload_n 3, 1) := by decide +kernel
theorem dX10_tries_149 : decode cX10_tries 149 = .ok (.aload_n 0, 1) := by decide +kernel
theorem dX10_tries_150 : decode cX10_tries 150 = .ok (.getfield 268, 3) := by decide +kernel
theorem dX10_tries_153 : decode cX10_tries 153 = .ok (.if_icmp .lt 4, 3) := by decide +kernel
theorem dX10_tries_156 : decode cX10_tries 156 = .ok (.return_, 1) := by decide +kernel
theorem dX10_tries_157 : decode cX10_tries 157 = .ok (.aload_n 0, 1) := by decide +kernel
theorem dX10_tries_158 : decode cX10_tries 158 = .ok (.iload_n 1, 1) := by decide +kernel
theorem dX10_tries_159 : decode cX10_tries 159 = .ok (.putfield 255, 3) := by decide +kernel
theorem dX10_tries_162 : decode cX10_tries 162 = .ok (.aload_n 0, 1) := by decide +kernel
theorem dX10_tries_163 : decode cX10_tries 163 = .ok (.iload_n 2, 1) := by decide +kernel
theorem dX10_tries_164 : decode cX10_tries 164 = .ok (.putfield 265, 3) := by decide +kernel
theorem dX10_tries_167 : decode cX10_tries 167 = .ok (.aload_n 0, 1) := by decide +kernel
theorem dX10_tries_168 : decode cX10_tries 168 = .ok (.iload_n 3, 1) := by decide +kernel
theorem dX10_tries_169 : decode cX10_tries 169 = .ok (.putfield 268, 3) := by decide +kernel
theorem dX10_tries_172 : decode cX10_tries 172 = .ok (.return_, 1) := by decide +kernel
theorem dX10_plan_0 : decode cX10_plan 0 = .ok (.iload_n 1, 1) := by decide +kernel
theorem dX10_plan_1 : decode cX10_plan 1 = .ok (.iconst 2, 1) := by decide +kernel
theorem dX10_plan_2 : decode cX10_plan 2 = .ok (.invokestatic 153, 3) := by decide +kernel
theorem dX10_plan_5 : decode cX10_plan 5 = .ok (.ifCond .ne 10, 3) := by decide +kernel
theorem dX10_plan_8 : decode cX10_plan 8 = .ok (.aload_n 0, 1) := by decide +kernel
theorem dX10_plan_9 : decode cX10_plan 9 = .ok (.bipush (-2), 2) := by decide +kernel
theorem dX10_plan_11 : decode cX10_plan 11 = .ok (.invokevirtual 149, 3) := by decide +kernel
theorem dX10_plan_14 : decode cX10_plan 14 = .ok (.ireturn, 1) := by decide +kernel
theorem dX10_plan_15 : decode cX10_plan 15 = .ok (.aload_n 0, 1) := by decide +kernel
theorem dX10_plan_16 : decode cX10_plan 16 = .ok (.invokevirtual 271, 3) := by decide +kernel
theorem dX10_plan_19 : decode cX10_plan 19 = .ok (.aload_n 0, 1) := by decide +kernel
theorem dX10_plan_20 : decode cX10_plan 20 = .ok (.getfield 255, 3) := by decide +kernel
theorem dX10_plan_23 : decode cX10_plan 23 = .ok (.ifCond .ge 8, 3) := by decide +kernel
theorem dX10_plan_26 : decode cX10_plan 26 = .ok (.bipush (-9), 2) := by decide +kernel
theorem dX10_plan_28 : decode cX10_plan 28 = .ok (.goto 18, 3) := by decide +kernel
theorem dX10_plan_31 : decode cX10_plan 31 = .ok (.iload_n 1, 1) := by decide +kernel
theorem dX10_plan_32 : decode cX10_plan 32 = .ok (.ifCond .ne 10, 3) := by decide +kernel
theorem dX10_plan_35 : decode cX10_plan 35 = .ok (.aload_n 0, 1) := by decide +kernel
theorem dX10_plan_36 : decode cX10_plan 36 = .ok (.getfield 265, 3) := by decide +kernel
theorem dX10_plan_39 : decode cX10_plan 39 = .ok (.goto 7, 3) := by decide +kernel
theorem dX10_plan_42 : decode cX10_plan 42 = .ok (.aload_n 0, 1) := by decide +kernel
theorem dX10_plan_43 : decode cX10_plan 43 = .ok (.getfield 268, 3) := by decide +kernel
theorem dX10_plan_46 : decode cX10_plan 46 = .ok (.ireturn, 1) := by decide +kernel
theorem dX10_gangOf_0 : decode cX10_gangOf 0 = .ok (.iload_n 1, 1) := by decide +kernel
theorem dX10_gangOf_1 : decode cX10_gangOf 1 = .ok (.aload_n 0, 1) := by decide +kernel
theorem dX10_gangOf_2 : decode cX10_gangOf 2 = .ok (.getfield 252, 3) := by decide +kernel
theorem dX10_gangOf_5 : decode cX10_gangOf 5 = .ok (.invokestatic 153, 3) := by decide +kernel
theorem dX10_gangOf_8 : decode cX10_gangOf 8 = .ok (.ifCond .ne 9, 3) := by decide +kernel
theorem dX10_gangOf_11 : decode cX10_gangOf 11 = .ok (.aload_n 0, 1) := by decide +kernel
theorem dX10_gangOf_12 : decode cX10_gangOf 12 = .ok (.iconst (-1), 1) := by decide +kernel
theorem dX10_gangOf_13 : decode cX10_gangOf 13 = .ok (.invokevirtual 149, 3) := by decide +kernel
theorem dX10_gangOf_16 : decode cX10_gangOf 16 = .ok (.ireturn, 1) := by decide +kernel
theorem dX10_gangOf_17 : decode cX10_gangOf 17 = .ok (.aload_n 0, 1) := by decide +kernel
theorem dX10_gangOf_18 : decode cX10_gangOf 18 = .ok (.invokevirtual 271, 3) := by decide +kernel
theorem dX10_gangOf_21 : decode cX10_gangOf 21 = .ok (.aload_n 0, 1) := by decide +kernel
theorem dX10_gangOf_22 : decode cX10_gangOf 22 = .ok (.getfield 255, 3) := by decide +kernel
theorem dX10_gangOf_25 : decode cX10_gangOf 25 = .ok (.ifCond .ge 8, 3) := by decide +kernel
theorem dX10_gangOf_28 : decode cX10_gangOf 28 = .ok (.bipush (-9), 2) := by decide +kernel
theorem dX10_gangOf_30 : decode cX10_gangOf 30 = .ok (.goto 12, 3) := by decide +kernel
theorem dX10_gangOf_33 : decode cX10_gangOf 33 = .ok (.aload_n 0, 1) := by decide +kernel
theorem dX10_gangOf_34 : decode cX10_gangOf 34 = .ok (.aload_n 0, 1) := by decide +kernel
theorem dX10_gangOf_35 : decode cX10_gangOf 35 = .ok (.getfield 255, 3) := by decide +kernel
theorem dX10_gangOf_38 : decode cX10_gangOf 38 = .ok (.iload_n 1, 1) := by decide +kernel
theorem dX10_gangOf_39 : decode cX10_gangOf 39 = .ok (.invokevirtual 262, 3) := by decide +kernel
theorem dX10_gangOf_42 : decode cX10_gangOf 42 = .ok (.ireturn, 1) := by decide +kernel
theorem dX10_rail_0 : decode cX10_rail 0 = .ok (.iload_n 1, 1) := by decide +kernel
theorem dX10_rail_1 : decode cX10_rail 1 = .ok (.invokestatic 179, 3) := by decide +kernel
theorem dX10_rail_4 : decode cX10_rail 4 = .ok (.ifCond .ne 7, 3) := by decide +kernel
theorem dX10_rail_7 : decode cX10_rail 7 = .ok (.iconst (-1), 1) := by decide +kernel
theorem dX10_rail_8 : decode cX10_rail 8 = .ok (.goto 40, 3) := by decide +kernel
theorem dX10_rail_11 : decode cX10_rail 11 = .ok (.iload_n 2, 1) := by decide +kernel
theorem dX10_rail_12 : decode cX10_rail 12 = .ok (.iconst 2, 1) := by decide +kernel
theorem dX10_rail_13 : decode cX10_rail 13 = .ok (.invokestatic 153, 3) := by decide +kernel
theorem dX10_rail_16 : decode cX10_rail 16 = .ok (.ifCond .ne 8, 3) := by decide +kernel
theorem dX10_rail_19 : decode cX10_rail 19 = .ok (.bipush (-2), 2) := by decide +kernel
theorem dX10_rail_21 : decode cX10_rail 21 = .ok (.goto 27, 3) := by decide +kernel
theorem dX10_rail_24 : decode cX10_rail 24 = .ok (.iload_n 3, 1) := by decide +kernel
theorem dX10_rail_25 : decode cX10_rail 25 = .ok (.iload_n 2, 1) := by decide +kernel
theorem dX10_rail_26 : decode cX10_rail 26 = .ok (.ifCond .ne 8, 3) := by decide +kernel
theorem dX10_rail_29 : decode cX10_rail 29 = .ok (.bipush (-30), 2) := by decide +kernel
theorem dX10_rail_31 : decode cX10_rail 31 = .ok (.goto 4, 3) := by decide +kernel
theorem dX10_rail_34 : decode cX10_rail 34 = .ok (.iconst 0, 1) := by decide +kernel
theorem dX10_rail_35 : decode cX10_rail 35 = .ok (.iload_n 2, 1) := by decide +kernel
theorem dX10_rail_36 : decode cX10_rail 36 = .ok (.ifCond .ne 8, 3) := by decide +kernel
theorem dX10_rail_39 : decode cX10_rail 39 = .ok (.bipush 50, 2) := by decide +kernel
theorem dX10_rail_41 : decode cX10_rail 41 = .ok (.goto 4, 3) := by decide +kernel
theorem dX10_rail_44 : decode cX10_rail 44 = .ok (.iconst 5, 1) := by decide +kernel
theorem dX10_rail_45 : decode cX10_rail 45 = .ok (.invokestatic 160, 3) := by decide +kernel
theorem dX10_rail_48 : decode cX10_rail 48 = .ok (.istore 4, 2) := by decide +kernel
theorem dX10_rail_50 : decode cX10_rail 50 = .ok (.iload 4, 2) := by decide +kernel
theorem dX10_rail_52 : decode cX10_rail 52 = .ok (.ifCond .eq 10, 3) := by decide +kernel
theorem dX10_rail_55 : decode cX10_rail 55 = .ok (.aload_n 0, 1) := by decide +kernel
theorem dX10_rail_56 : decode cX10_rail 56 = .ok (.iload 4, 2) := by decide +kernel
theorem dX10_rail_58 : decode cX10_rail 58 = .ok (.invokevirtual 164, 3) := by decide +kernel
theorem dX10_rail_61 : decode cX10_rail 61 = .ok (.ireturn, 1) := by decide +kernel
theorem dX10_rail_62 : decode cX10_rail 62 = .ok (.iload_n 2, 1) := by decide +kernel
theorem dX10_rail_63 : decode cX10_rail 63 = .ok (.ifCond .ne 12, 3) := by decide +kernel
theorem dX10_rail_66 : decode cX10_rail 66 = .ok (.aload_n 0, 1) := by decide +kernel
theorem dX10_rail_67 : decode cX10_rail 67 = .ok (.getfield 99, 3) := by decide +kernel
theorem dX10_rail_70 : decode cX10_rail 70 = .ok (.iload_n 1, 1) := by decide +kernel
theorem dX10_rail_71 : decode cX10_rail 71 = .ok (.iaload, 1) := by decide +kernel
theorem dX10_rail_72 : decode cX10_rail 72 = .ok (.goto 9, 3) := by decide +kernel
theorem dX10_rail_75 : decode cX10_rail 75 = .ok (.aload_n 0, 1) := by decide +kernel
theorem dX10_rail_76 : decode cX10_rail 76 = .ok (.getfield 102, 3) := by decide +kernel
theorem dX10_rail_79 : decode cX10_rail 79 = .ok (.iload_n 1, 1) := by decide +kernel
theorem dX10_rail_80 : decode cX10_rail 80 = .ok (.iaload, 1) := by decide +kernel
theorem dX10_rail_81 : decode cX10_rail 81 = .ok (.istore 5, 2) := by decide +kernel
theorem dX10_rail_83 : decode cX10_rail 83 = .ok (.iload_n 2, 1) := by decide +kernel
theorem dX10_rail_84 : decode cX10_rail 84 = .ok (.ifCond .ne 13, 3) := by decide +kernel
theorem dX10_rail_87 : decode cX10_rail 87 = .ok (.aload_n 0, 1) := by decide +kernel
theorem dX10_rail_88 : decode cX10_rail 88 = .ok (.getfield 99, 3) := by decide +kernel
theorem dX10_rail_91 : decode cX10_rail 91 = .ok (.iload_n 1, 1) := by decide +kernel
theorem dX10_rail_92 : decode cX10_rail 92 = .ok (.iload_n 3, 1) := by decide +kernel
theorem dX10_rail_93 : decode cX10_rail 93 = .ok (.iastore, 1) := by decide +kernel
theorem dX10_rail_94 : decode cX10_rail 94 = .ok (.goto 10, 3) := by decide +kernel
theorem dX10_rail_97 : decode cX10_rail 97 = .ok (.aload_n 0, 1) := by decide +kernel
theorem dX10_rail_98 : decode cX10_rail 98 = .ok (.getfield 102, 3) := by decide +kernel
theorem dX10_rail_101 : decode cX10_rail 101 = .ok (.iload_n 1, 1) := by decide +kernel
theorem dX10_rail_102 : decode cX10_rail 102 = .ok (.iload_n 3, 1) := by decide +kernel
theorem dX10_rail_103 : decode cX10_rail 103 = .ok (.iastore, 1) := by decide +kernel
theorem dX10_rail_104 : decode cX10_rail 104 = .ok (.iload 5, 2) := by decide +kernel
theorem dX10_rail_106 : decode cX10_rail 106 = .ok (.ireturn, 1) := by decide +kernel
theorem dX10_heat_0 : decode cX10_heat 0 = .ok (.iload_n 1, 1) := by decide +kernel
theorem dX10_heat_1 : decode cX10_heat 1 = .ok (.invokestatic 179, 3) := by decide +kernel
theorem dX10_heat_4 : decode cX10_heat 4 = .ok (.ifCond .eq 11, 3) := by decide +kernel
theorem dX10_heat_7 : decode cX10_heat 7 = .ok (.aload_n 0, 1) := by decide +kernel
theorem dX10_heat_8 : decode cX10_heat 8 = .ok (.iload_n 1, 1) := by decide +kernel
theorem dX10_heat_9 : decode cX10_heat 9 = .ok (.invokevirtual 215, 3) := by decide +kernel
theorem dX10_heat_12 : decode cX10_heat 12 = .ok (.goto 8, 3) := by decide +kernel
theorem dX10_heat_15 : decode cX10_heat 15 = .ok (.aload_n 0, 1) := by decide +kernel
theorem dX10_heat_16 : decode cX10_heat 16 = .ok (.iconst (-1), 1) := by decide +kernel
theorem dX10_heat_17 : decode cX10_heat 17 = .ok (.invokevirtual 149, 3) := by decide +kernel
theorem dX10_heat_20 : decode cX10_heat 20 = .ok (.ireturn, 1) := by decide +kernel
theorem dX10_cracks_0 : decode cX10_cracks 0 = .ok (.iconst 0, 1) := by decide +kernel
theorem dX10_cracks_1 : decode cX10_cracks 1 = .ok (.istore_n 2, 1) := by decide +kernel
theorem dX10_cracks_2 : decode cX10_cracks 2 = .ok (.iconst 0, 1) := by decide +kernel
theorem dX10_cracks_3 : decode cX10_cracks 3 = .ok (.istore_n 3, 1) := by decide +kernel
theorem dX10_cracks_4 : decode cX10_cracks 4 = .ok (.iload_n 3, 1) := by decide +kernel
theorem dX10_cracks_5 : decode cX10_cracks 5 = .ok (.aload_n 0, 1) := by decide +kernel
theorem dX10_cracks_6 : decode cX10_cracks 6 = .ok (.getfield 176, 3) := by decide +kernel
theorem dX10_cracks_9 : decode cX10_cracks 9 = .ok (.if_icmp .ge 37, 3) := by decide +kernel
theorem dX10_cracks_12 : decode cX10_cracks 12 = .ok (.iload_n 2, 1) := by decide +kernel
theorem dX10_cracks_13 : decode cX10_cracks 13 = .ok (.aload_n 0, 1) := by decide +kernel
theorem dX10_cracks_14 : decode cX10_cracks 14 = .ok (.getfield 44, 3) := by decide +kernel
theorem dX10_cracks_17 : decode cX10_cracks 17 = .ok (.iload_n 3, 1) := by decide +kernel
theorem dX10_cracks_18 : decode cX10_cracks 18 = .ok (.iaload, 1) := by decide +kernel
theorem dX10_cracks_19 : decode cX10_cracks 19 = .ok (.iconst 3, 1) := by decide +kernel
theorem dX10_cracks_20 : decode cX10_cracks 20 = .ok (.if_icmp .ne 17, 3) := by decide +kernel
theorem dX10_cracks_23 : decode cX10_cracks 23 = .ok (.aload_n 0, 1) := by decide +kernel
theorem dX10_cracks_24 : decode cX10_cracks 24 = .ok (.getfield 47, 3) := by decide +kernel
theorem dX10_cracks_27 : decode cX10_cracks 27 = .ok (.iload_n 3, 1) := by decide +kernel
theorem dX10_cracks_28 : decode cX10_cracks 28 = .ok (.iaload, 1) := by decide +kernel
theorem dX10_cracks_29 : decode cX10_cracks 29 = .ok (.iload_n 1, 1) := by decide +kernel
theorem dX10_cracks_30 : decode cX10_cracks 30 = .ok (.if_icmp .ne 7, 3) := by decide +kernel
theorem dX10_cracks_33 : decode cX10_cracks 33 = .ok (.iconst 1, 1) := by decide +kernel
theorem dX10_cracks_34 : decode cX10_cracks 34 = .ok (.goto 4, 3) := by decide +kernel
theorem dX10_cracks_37 : decode cX10_cracks 37 = .ok (.iconst 0, 1) := by decide +kernel
theorem dX10_cracks_38 : decode cX10_cracks 38 = .ok (.iadd, 1) := by decide +kernel
theorem dX10_cracks_39 : decode cX10_cracks 39 = .ok (.istore_n 2, 1) := by decide +kernel
theorem dX10_cracks_40 : decode cX10_cracks 40 = .ok (.iinc 3 1, 3) := by decide +kernel
theorem dX10_cracks_43 : decode cX10_cracks 43 = .ok (.goto (-39), 3) := by decide +kernel
theorem dX10_cracks_46 : decode cX10_cracks 46 = .ok (.iload_n 2, 1) := by decide +kernel
theorem dX10_cracks_47 : decode cX10_cracks 47 = .ok (.ireturn, 1) := by decide +kernel
theorem dX10_milesOf_0 : decode cX10_milesOf 0 = .ok (.iconst 0, 1) := by decide +kernel
theorem dX10_milesOf_1 : decode cX10_milesOf 1 = .ok (.istore_n 2, 1) := by decide +kernel
theorem dX10_milesOf_2 : decode cX10_milesOf 2 = .ok (.iconst 0, 1) := by decide +kernel
theorem dX10_milesOf_3 : decode cX10_milesOf 3 = .ok (.istore_n 3, 1) := by decide +kernel
theorem dX10_milesOf_4 : decode cX10_milesOf 4 = .ok (.iload_n 3, 1) := by decide +kernel
theorem dX10_milesOf_5 : decode cX10_milesOf 5 = .ok (.bipush 20, 2) := by decide +kernel
theorem dX10_milesOf_7 : decode cX10_milesOf 7 = .ok (.if_icmp .ge 27, 3) := by decide +kernel
theorem dX10_milesOf_10 : decode cX10_milesOf 10 = .ok (.iload_n 2, 1) := by decide +kernel
theorem dX10_milesOf_11 : decode cX10_milesOf 11 = .ok (.aload_n 0, 1) := by decide +kernel
theorem dX10_milesOf_12 : decode cX10_milesOf 12 = .ok (.getfield 102, 3) := by decide +kernel
theorem dX10_milesOf_15 : decode cX10_milesOf 15 = .ok (.iload_n 3, 1) := by decide +kernel
theorem dX10_milesOf_16 : decode cX10_milesOf 16 = .ok (.iaload, 1) := by decide +kernel
theorem dX10_milesOf_17 : decode cX10_milesOf 17 = .ok (.iload_n 1, 1) := by decide +kernel
theorem dX10_milesOf_18 : decode cX10_milesOf 18 = .ok (.if_icmp .ne 7, 3) := by decide +kernel
theorem dX10_milesOf_21 : decode cX10_milesOf 21 = .ok (.iconst 1, 1) := by decide +kernel
theorem dX10_milesOf_22 : decode cX10_milesOf 22 = .ok (.goto 4, 3) := by decide +kernel
theorem dX10_milesOf_25 : decode cX10_milesOf 25 = .ok (.iconst 0, 1) := by decide +kernel
theorem dX10_milesOf_26 : decode cX10_milesOf 26 = .ok (.iadd, 1) := by decide +kernel
theorem dX10_milesOf_27 : decode cX10_milesOf 27 = .ok (.istore_n 2, 1) := by decide +kernel
theorem dX10_milesOf_28 : decode cX10_milesOf 28 = .ok (.iinc 3 1, 3) := by decide +kernel
theorem dX10_milesOf_31 : decode cX10_milesOf 31 = .ok (.goto (-27), 3) := by decide +kernel
theorem dX10_milesOf_34 : decode cX10_milesOf 34 = .ok (.iload_n 2, 1) := by decide +kernel
theorem dX10_milesOf_35 : decode cX10_milesOf 35 = .ok (.ireturn, 1) := by decide +kernel
theorem dX10_lot_0 : decode cX10_lot 0 = .ok (.iload_n 1, 1) := by decide +kernel
theorem dX10_lot_1 : decode cX10_lot 1 = .ok (.bipush 6, 2) := by decide +kernel
theorem dX10_lot_3 : decode cX10_lot 3 = .ok (.invokestatic 153, 3) := by decide +kernel
theorem dX10_lot_6 : decode cX10_lot 6 = .ok (.ifCond .ne 9, 3) := by decide +kernel
theorem dX10_lot_9 : decode cX10_lot 9 = .ok (.aload_n 0, 1) := by decide +kernel
theorem dX10_lot_10 : decode cX10_lot 10 = .ok (.iconst (-1), 1) := by decide +kernel
theorem dX10_lot_11 : decode cX10_lot 11 = .ok (.invokevirtual 149, 3) := by decide +kernel
theorem dX10_lot_14 : decode cX10_lot 14 = .ok (.ireturn, 1) := by decide +kernel
theorem dX10_lot_15 : decode cX10_lot 15 = .ok (.iload_n 2, 1) := by decide +kernel
theorem dX10_lot_16 : decode cX10_lot 16 = .ok (.ifCond .ne 11, 3) := by decide +kernel
theorem dX10_lot_19 : decode cX10_lot 19 = .ok (.aload_n 0, 1) := by decide +kernel
theorem dX10_lot_20 : decode cX10_lot 20 = .ok (.iload_n 1, 1) := by decide +kernel
theorem dX10_lot_21 : decode cX10_lot 21 = .ok (.invokevirtual 274, 3) := by decide +kernel
theorem dX10_lot_24 : decode cX10_lot 24 = .ok (.goto 22, 3) := by decide +kernel
theorem dX10_lot_27 : decode cX10_lot 27 = .ok (.iload_n 2, 1) := by decide +kernel
theorem dX10_lot_28 : decode cX10_lot 28 = .ok (.iconst 1, 1) := by decide +kernel
theorem dX10_lot_29 : decode cX10_lot 29 = .ok (.if_icmp .ne 11, 3) := by decide +kernel
theorem dX10_lot_32 : decode cX10_lot 32 = .ok (.aload_n 0, 1) := by decide +kernel
theorem dX10_lot_33 : decode cX10_lot 33 = .ok (.iload_n 1, 1) := by decide +kernel
theorem dX10_lot_34 : decode cX10_lot 34 = .ok (.invokevirtual 277, 3) := by decide +kernel
theorem dX10_lot_37 : decode cX10_lot 37 = .ok (.goto 9, 3) := by decide +kernel
theorem dX10_lot_40 : decode cX10_lot 40 = .ok (.aload_n 0, 1) := by decide +kernel
theorem dX10_lot_41 : decode cX10_lot 41 = .ok (.bipush (-2), 2) := by decide +kernel
theorem dX10_lot_43 : decode cX10_lot 43 = .ok (.invokevirtual 149, 3) := by decide +kernel
theorem dX10_lot_46 : decode cX10_lot 46 = .ok (.ireturn, 1) := by decide +kernel
theorem dX10_worstOf_0 : decode cX10_worstOf 0 = .ok (.bipush (-9), 2) := by decide +kernel
theorem dX10_worstOf_2 : decode cX10_worstOf 2 = .ok (.istore_n 1, 1) := by decide +kernel
theorem dX10_worstOf_3 : decode cX10_worstOf 3 = .ok (.iconst 0, 1) := by decide +kernel
theorem dX10_worstOf_4 : decode cX10_worstOf 4 = .ok (.istore_n 2, 1) := by decide +kernel
theorem dX10_worstOf_5 : decode cX10_worstOf 5 = .ok (.iload_n 2, 1) := by decide +kernel
theorem dX10_worstOf_6 : decode cX10_worstOf 6 = .ok (.bipush 6, 2) := by decide +kernel
theorem dX10_worstOf_8 : decode cX10_worstOf 8 = .ok (.if_icmp .ge 59, 3) := by decide +kernel
theorem dX10_worstOf_11 : decode cX10_worstOf 11 = .ok (.aload_n 0, 1) := by decide +kernel
theorem dX10_worstOf_12 : decode cX10_worstOf 12 = .ok (.iload_n 2, 1) := by decide +kernel
theorem dX10_worstOf_13 : decode cX10_worstOf 13 = .ok (.invokevirtual 277, 3) := by decide +kernel
theorem dX10_worstOf_16 : decode cX10_worstOf 16 = .ok (.ifCond .eq 45, 3) := by decide +kernel
theorem dX10_worstOf_19 : decode cX10_worstOf 19 = .ok (.aload_n 0, 1) := by decide +kernel
theorem dX10_worstOf_20 : decode cX10_worstOf 20 = .ok (.iload_n 2, 1) := by decide +kernel
theorem dX10_worstOf_21 : decode cX10_worstOf 21 = .ok (.invokevirtual 274, 3) := by decide +kernel
theorem dX10_worstOf_24 : decode cX10_worstOf 24 = .ok (.ifCond .ne 6, 3) := by decide +kernel
theorem dX10_worstOf_27 : decode cX10_worstOf 27 = .ok (.goto 34, 3) := by decide +kernel
theorem dX10_worstOf_30 : decode cX10_worstOf 30 = .ok (.iload_n 1, 1) := by decide +kernel
theorem dX10_worstOf_31 : decode cX10_worstOf 31 = .ok (.ifCond .lt 28, 3) := by decide +kernel
theorem dX10_worstOf_34 : decode cX10_worstOf 34 = .ok (.aload_n 0, 1) := by decide +kernel
theorem dX10_worstOf_35 : decode cX10_worstOf 35 = .ok (.iload_n 2, 1) := by decide +kernel
theorem dX10_worstOf_36 : decode cX10_worstOf 36 = .ok (.invokevirtual 274, 3) := by decide +kernel
theorem dX10_worstOf_39 : decode cX10_worstOf 39 = .ok (.aload_n 0, 1) := by decide +kernel
theorem dX10_worstOf_40 : decode cX10_worstOf 40 = .ok (.iload_n 1, 1) := by decide +kernel
theorem dX10_worstOf_41 : decode cX10_worstOf 41 = .ok (.invokevirtual 277, 3) := by decide +kernel
theorem dX10_worstOf_44 : decode cX10_worstOf 44 = .ok (.imul, 1) := by decide +kernel
theorem dX10_worstOf_45 : decode cX10_worstOf 45 = .ok (.aload_n 0, 1) := by decide +kernel
theorem dX10_worstOf_46 : decode cX10_worstOf 46 = .ok (.iload_n 1, 1) := by decide +kernel
theorem dX10_worstOf_47 : decode cX10_worstOf 47 = .ok (.invokevirtual 274, 3) := by decide +kernel
theorem dX10_worstOf_50 : decode cX10_worstOf 50 = .ok (.aload_n 0, 1) := by decide +kernel
theorem dX10_worstOf_51 : decode cX10_worstOf 51 = .ok (.iload_n 2, 1) := by decide +kernel
theorem dX10_worstOf_52 : decode cX10_worstOf 52 = .ok (.invokevirtual 277, 3) := by decide +kernel
theorem dX10_worstOf_55 : decode cX10_worstOf 55 = .ok (.imul, 1) := by decide +kernel
theorem dX10_worstOf_56 : decode cX10_worstOf 56 = .ok (.if_icmp .le 5, 3) := by decide +kernel
theorem dX10_worstOf_59 : decode cX10_worstOf 59 = .ok (.iload_n 2, 1) := by decide +kernel
theorem dX10_worstOf_60 : decode cX10_worstOf 60 = .ok (.istore_n 1, 1) := by decide +kernel
theorem dX10_worstOf_61 : decode cX10_worstOf 61 = .ok (.iinc 2 1, 3) := by decide +kernel
theorem dX10_worstOf_64 : decode cX10_worstOf 64 = .ok (.goto (-59), 3) := by decide +kernel
theorem dX10_worstOf_67 : decode cX10_worstOf 67 = .ok (.iload_n 1, 1) := by decide +kernel
theorem dX10_worstOf_68 : decode cX10_worstOf 68 = .ok (.ireturn, 1) := by decide +kernel
theorem dX10_worst_0 : decode cX10_worst 0 = .ok (.aload_n 0, 1) := by decide +kernel
theorem dX10_worst_1 : decode cX10_worst 1 = .ok (.invokevirtual 280, 3) := by decide +kernel
theorem dX10_worst_4 : decode cX10_worst 4 = .ok (.ireturn, 1) := by decide +kernel
theorem dX10_sure_0 : decode cX10_sure 0 = .ok (.aload_n 0, 1) := by decide +kernel
theorem dX10_sure_1 : decode cX10_sure 1 = .ok (.invokevirtual 280, 3) := by decide +kernel
theorem dX10_sure_4 : decode cX10_sure 4 = .ok (.istore_n 1, 1) := by decide +kernel
theorem dX10_sure_5 : decode cX10_sure 5 = .ok (.iload_n 1, 1) := by decide +kernel
theorem dX10_sure_6 : decode cX10_sure 6 = .ok (.ifCond .lt 7, 3) := by decide +kernel
theorem dX10_sure_9 : decode cX10_sure 9 = .ok (.iconst 1, 1) := by decide +kernel
theorem dX10_sure_10 : decode cX10_sure 10 = .ok (.goto 4, 3) := by decide +kernel
theorem dX10_sure_13 : decode cX10_sure 13 = .ok (.iconst 0, 1) := by decide +kernel
theorem dX10_sure_14 : decode cX10_sure 14 = .ok (.istore_n 2, 1) := by decide +kernel
theorem dX10_sure_15 : decode cX10_sure 15 = .ok (.iconst 0, 1) := by decide +kernel
theorem dX10_sure_16 : decode cX10_sure 16 = .ok (.istore_n 3, 1) := by decide +kernel
theorem dX10_sure_17 : decode cX10_sure 17 = .ok (.iload_n 3, 1) := by decide +kernel
theorem dX10_sure_18 : decode cX10_sure 18 = .ok (.bipush 6, 2) := by decide +kernel
theorem dX10_sure_20 : decode cX10_sure 20 = .ok (.if_icmp .ge 59, 3) := by decide +kernel
theorem dX10_sure_23 : decode cX10_sure 23 = .ok (.iload_n 2, 1) := by decide +kernel
theorem dX10_sure_24 : decode cX10_sure 24 = .ok (.ifCond .eq 55, 3) := by decide +kernel
theorem dX10_sure_27 : decode cX10_sure 27 = .ok (.iload_n 3, 1) := by decide +kernel
theorem dX10_sure_28 : decode cX10_sure 28 = .ok (.iload_n 1, 1) := by decide +kernel
theorem dX10_sure_29 : decode cX10_sure 29 = .ok (.if_icmp .eq 38, 3) := by decide +kernel
theorem dX10_sure_32 : decode cX10_sure 32 = .ok (.aload_n 0, 1) := by decide +kernel
theorem dX10_sure_33 : decode cX10_sure 33 = .ok (.iload_n 3, 1) := by decide +kernel
theorem dX10_sure_34 : decode cX10_sure 34 = .ok (.invokevirtual 277, 3) := by decide +kernel
theorem dX10_sure_37 : decode cX10_sure 37 = .ok (.ifCond .eq 30, 3) := by decide +kernel
theorem dX10_sure_40 : decode cX10_sure 40 = .ok (.aload_n 0, 1) := by decide +kernel
theorem dX10_sure_41 : decode cX10_sure 41 = .ok (.iload_n 1, 1) := by decide +kernel
theorem dX10_sure_42 : decode cX10_sure 42 = .ok (.invokevirtual 274, 3) := by decide +kernel
theorem dX10_sure_45 : decode cX10_sure 45 = .ok (.aload_n 0, 1) := by decide +kernel
theorem dX10_sure_46 : decode cX10_sure 46 = .ok (.iload_n 3, 1) := by decide +kernel
theorem dX10_sure_47 : decode cX10_sure 47 = .ok (.invokevirtual 277, 3) := by decide +kernel
theorem dX10_sure_50 : decode cX10_sure 50 = .ok (.imul, 1) := by decide +kernel
theorem dX10_sure_51 : decode cX10_sure 51 = .ok (.iconst 2, 1) := by decide +kernel
theorem dX10_sure_52 : decode cX10_sure 52 = .ok (.aload_n 0, 1) := by decide +kernel
theorem dX10_sure_53 : decode cX10_sure 53 = .ok (.iload_n 3, 1) := by decide +kernel
theorem dX10_sure_54 : decode cX10_sure 54 = .ok (.invokevirtual 274, 3) := by decide +kernel
theorem dX10_sure_57 : decode cX10_sure 57 = .ok (.imul, 1) := by decide +kernel
theorem dX10_sure_58 : decode cX10_sure 58 = .ok (.aload_n 0, 1) := by decide +kernel
theorem dX10_sure_59 : decode cX10_sure 59 = .ok (.iload_n 1, 1) := by decide +kernel
theorem dX10_sure_60 : decode cX10_sure 60 = .ok (.invokevirtual 277, 3) := by decide +kernel
theorem dX10_sure_63 : decode cX10_sure 63 = .ok (.imul, 1) := by decide +kernel
theorem dX10_sure_64 : decode cX10_sure 64 = .ok (.if_icmp .le 7, 3) := by decide +kernel
theorem dX10_sure_67 : decode cX10_sure 67 = .ok (.iconst 1, 1) := by decide +kernel
theorem dX10_sure_68 : decode cX10_sure 68 = .ok (.goto 4, 3) := by decide +kernel
theorem dX10_sure_71 : decode cX10_sure 71 = .ok (.iconst 0, 1) := by decide +kernel
theorem dX10_sure_72 : decode cX10_sure 72 = .ok (.istore_n 2, 1) := by decide +kernel
theorem dX10_sure_73 : decode cX10_sure 73 = .ok (.iinc 3 1, 3) := by decide +kernel
theorem dX10_sure_76 : decode cX10_sure 76 = .ok (.goto (-59), 3) := by decide +kernel
theorem dX10_sure_79 : decode cX10_sure 79 = .ok (.iload_n 2, 1) := by decide +kernel
theorem dX10_sure_80 : decode cX10_sure 80 = .ok (.ifCond .eq 7, 3) := by decide +kernel
theorem dX10_sure_83 : decode cX10_sure 83 = .ok (.iconst 1, 1) := by decide +kernel
theorem dX10_sure_84 : decode cX10_sure 84 = .ok (.goto 4, 3) := by decide +kernel
theorem dX10_sure_87 : decode cX10_sure 87 = .ok (.iconst 0, 1) := by decide +kernel
theorem dX10_sure_88 : decode cX10_sure 88 = .ok (.ireturn, 1) := by decide +kernel
theorem dX10_count_0 : decode cX10_count 0 = .ok (.iload_n 1, 1) := by decide +kernel
theorem dX10_count_1 : decode cX10_count 1 = .ok (.bipush 10, 2) := by decide +kernel
theorem dX10_count_3 : decode cX10_count 3 = .ok (.if_icmp .le 19, 3) := by decide +kernel
theorem dX10_count_6 : decode cX10_count 6 = .ok (.iload_n 1, 1) := by decide +kernel
theorem dX10_count_7 : decode cX10_count 7 = .ok (.bipush 17, 2) := by decide +kernel
theorem dX10_count_9 : decode cX10_count 9 = .ok (.if_icmp .ge 13, 3) := by decide +kernel
theorem dX10_count_12 : decode cX10_count 12 = .ok (.aload_n 0, 1) := by decide +kernel
theorem dX10_count_13 : decode cX10_count 13 = .ok (.getfield 7, 3) := by decide +kernel
theorem dX10_count_16 : decode cX10_count 16 = .ok (.iload_n 1, 1) := by decide +kernel
theorem dX10_count_17 : decode cX10_count 17 = .ok (.bipush 10, 2) := by decide +kernel
theorem dX10_count_19 : decode cX10_count 19 = .ok (.isub, 1) := by decide +kernel
theorem dX10_count_20 : decode cX10_count 20 = .ok (.iaload, 1) := by decide +kernel
theorem dX10_count_21 : decode cX10_count 21 = .ok (.ireturn, 1) := by decide +kernel
theorem dX10_count_22 : decode cX10_count 22 = .ok (.iconst 0, 1) := by decide +kernel
theorem dX10_count_23 : decode cX10_count 23 = .ok (.istore_n 2, 1) := by decide +kernel
theorem dX10_count_24 : decode cX10_count 24 = .ok (.iload_n 1, 1) := by decide +kernel
theorem dX10_count_25 : decode cX10_count 25 = .ok (.tableswitch 163 0 9 #[55, 60, 65, 100, 105, 110, 115, 148, 153, 158], 55) := by decide +kernel
theorem dX10_count_80 : decode cX10_count 80 = .ok (.aload_n 0, 1) := by decide +kernel
theorem dX10_count_81 : decode cX10_count 81 = .ok (.getfield 157, 3) := by decide +kernel
theorem dX10_count_84 : decode cX10_count 84 = .ok (.ireturn, 1) := by decide +kernel
theorem dX10_count_85 : decode cX10_count 85 = .ok (.aload_n 0, 1) := by decide +kernel
theorem dX10_count_86 : decode cX10_count 86 = .ok (.getfield 176, 3) := by decide +kernel
theorem dX10_count_89 : decode cX10_count 89 = .ok (.ireturn, 1) := by decide +kernel
theorem dX10_count_90 : decode cX10_count 90 = .ok (.iconst 0, 1) := by decide +kernel
theorem dX10_count_91 : decode cX10_count 91 = .ok (.istore_n 3, 1) := by decide +kernel
theorem dX10_count_92 : decode cX10_count 92 = .ok (.iload_n 3, 1) := by decide +kernel
theorem dX10_count_93 : decode cX10_count 93 = .ok (.aload_n 0, 1) := by decide +kernel
theorem dX10_count_94 : decode cX10_count 94 = .ok (.getfield 176, 3) := by decide +kernel
theorem dX10_count_97 : decode cX10_count 97 = .ok (.if_icmp .ge 26, 3) := by decide +kernel
theorem dX10_count_100 : decode cX10_count 100 = .ok (.iload_n 2, 1) := by decide +kernel
theorem dX10_count_101 : decode cX10_count 101 = .ok (.aload_n 0, 1) := by decide +kernel
theorem dX10_count_102 : decode cX10_count 102 = .ok (.getfield 56, 3) := by decide +kernel
theorem dX10_count_105 : decode cX10_count 105 = .ok (.iload_n 3, 1) := by decide +kernel
theorem dX10_count_106 : decode cX10_count 106 = .ok (.baload, 1) := by decide +kernel
theorem dX10_count_107 : decode cX10_count 107 = .ok (.ifCond .eq 7, 3) := by decide +kernel
theorem dX10_count_110 : decode cX10_count 110 = .ok (.iconst 1, 1) := by decide +kernel
theorem dX10_count_111 : decode cX10_count 111 = .ok (.goto 4, 3) := by decide +kernel
theorem dX10_count_114 : decode cX10_count 114 = .ok (.iconst 0, 1) := by decide +kernel
theorem dX10_count_115 : decode cX10_count 115 = .ok (.iadd, 1) := by decide +kernel
theorem dX10_count_116 : decode cX10_count 116 = .ok (.istore_n 2, 1) := by decide +kernel
theorem dX10_count_117 : decode cX10_count 117 = .ok (.iinc 3 1, 3) := by decide +kernel
theorem dX10_count_120 : decode cX10_count 120 = .ok (.goto (-28), 3) := by decide +kernel
theorem dX10_count_123 : decode cX10_count 123 = .ok (.iload_n 2, 1) := by decide +kernel
theorem dX10_count_124 : decode cX10_count 124 = .ok (.ireturn, 1) := by decide +kernel
theorem dX10_count_125 : decode cX10_count 125 = .ok (.aload_n 0, 1) := by decide +kernel
theorem dX10_count_126 : decode cX10_count 126 = .ok (.getfield 183, 3) := by decide +kernel
theorem dX10_count_129 : decode cX10_count 129 = .ok (.ireturn, 1) := by decide +kernel
theorem dX10_count_130 : decode cX10_count 130 = .ok (.aload_n 0, 1) := by decide +kernel
theorem dX10_count_131 : decode cX10_count 131 = .ok (.getfield 197, 3) := by decide +kernel
theorem dX10_count_134 : decode cX10_count 134 = .ok (.ireturn, 1) := by decide +kernel
theorem dX10_count_135 : decode cX10_count 135 = .ok (.aload_n 0, 1) := by decide +kernel
theorem dX10_count_136 : decode cX10_count 136 = .ok (.getfield 203, 3) := by decide +kernel
theorem dX10_count_139 : decode cX10_count 139 = .ok (.ireturn, 1) := by decide +kernel
theorem dX10_count_140 : decode cX10_count 140 = .ok (.iconst 0, 1) := by decide +kernel
theorem dX10_count_141 : decode cX10_count 141 = .ok (.istore_n 3, 1) := by decide +kernel
theorem dX10_count_142 : decode cX10_count 142 = .ok (.iload_n 3, 1) := by decide +kernel
theorem dX10_count_143 : decode cX10_count 143 = .ok (.bipush 20, 2) := by decide +kernel
theorem dX10_count_145 : decode cX10_count 145 = .ok (.if_icmp .ge 26, 3) := by decide +kernel
theorem dX10_count_148 : decode cX10_count 148 = .ok (.iload_n 2, 1) := by decide +kernel
theorem dX10_count_149 : decode cX10_count 149 = .ok (.aload_n 0, 1) := by decide +kernel
theorem dX10_count_150 : decode cX10_count 150 = .ok (.getfield 84, 3) := by decide +kernel
theorem dX10_count_153 : decode cX10_count 153 = .ok (.iload_n 3, 1) := by decide +kernel
theorem dX10_count_154 : decode cX10_count 154 = .ok (.iaload, 1) := by decide +kernel
theorem dX10_count_155 : decode cX10_count 155 = .ok (.ifCond .le 7, 3) := by decide +kernel
theorem dX10_count_158 : decode cX10_count 158 = .ok (.iconst 1, 1) := by decide +kernel
theorem dX10_count_159 : decode cX10_count 159 = .ok (.goto 4, 3) := by decide +kernel
theorem dX10_count_162 : decode cX10_count 162 = .ok (.iconst 0, 1) := by decide +kernel
theorem dX10_count_163 : decode cX10_count 163 = .ok (.iadd, 1) := by decide +kernel
theorem dX10_count_164 : decode cX10_count 164 = .ok (.istore_n 2, 1) := by decide +kernel
theorem dX10_count_165 : decode cX10_count 165 = .ok (.iinc 3 1, 3) := by decide +kernel
theorem dX10_count_168 : decode cX10_count 168 = .ok (.goto (-26), 3) := by decide +kernel
theorem dX10_count_171 : decode cX10_count 171 = .ok (.iload_n 2, 1) := by decide +kernel
theorem dX10_count_172 : decode cX10_count 172 = .ok (.ireturn, 1) := by decide +kernel
theorem dX10_count_173 : decode cX10_count 173 = .ok (.aload_n 0, 1) := by decide +kernel
theorem dX10_count_174 : decode cX10_count 174 = .ok (.getfield 224, 3) := by decide +kernel
theorem dX10_count_177 : decode cX10_count 177 = .ok (.ireturn, 1) := by decide +kernel
theorem dX10_count_178 : decode cX10_count 178 = .ok (.aload_n 0, 1) := by decide +kernel
theorem dX10_count_179 : decode cX10_count 179 = .ok (.getfield 239, 3) := by decide +kernel
theorem dX10_count_182 : decode cX10_count 182 = .ok (.ireturn, 1) := by decide +kernel
theorem dX10_count_183 : decode cX10_count 183 = .ok (.aload_n 0, 1) := by decide +kernel
theorem dX10_count_184 : decode cX10_count 184 = .ok (.getfield 252, 3) := by decide +kernel
theorem dX10_count_187 : decode cX10_count 187 = .ok (.ireturn, 1) := by decide +kernel
theorem dX10_count_188 : decode cX10_count 188 = .ok (.bipush (-9), 2) := by decide +kernel
theorem dX10_count_190 : decode cX10_count 190 = .ok (.ireturn, 1) := by decide +kernel
theorem dL_law_0 : decode cL_law 0 = .ok (.new 7, 3) := by decide +kernel
theorem dL_law_3 : decode cL_law 3 = .ok (.dup, 1) := by decide +kernel
theorem dL_law_4 : decode cL_law 4 = .ok (.invokespecial 9, 3) := by decide +kernel
theorem dL_law_7 : decode cL_law 7 = .ok (.astore_n 1, 1) := by decide +kernel
theorem dL_law_8 : decode cL_law 8 = .ok (.new 10, 3) := by decide +kernel
theorem dL_law_11 : decode cL_law 11 = .ok (.dup, 1) := by decide +kernel
theorem dL_law_12 : decode cL_law 12 = .ok (.invokespecial 12, 3) := by decide +kernel
theorem dL_law_15 : decode cL_law 15 = .ok (.astore_n 2, 1) := by decide +kernel
theorem dL_law_16 : decode cL_law 16 = .ok (.iconst 0, 1) := by decide +kernel
theorem dL_law_17 : decode cL_law 17 = .ok (.istore_n 3, 1) := by decide +kernel
theorem dL_law_18 : decode cL_law 18 = .ok (.iload_n 3, 1) := by decide +kernel
theorem dL_law_19 : decode cL_law 19 = .ok (.aload_n 0, 1) := by decide +kernel
theorem dL_law_20 : decode cL_law 20 = .ok (.arraylength, 1) := by decide +kernel
theorem dL_law_21 : decode cL_law 21 = .ok (.bipush 7, 2) := by decide +kernel
theorem dL_law_23 : decode cL_law 23 = .ok (.isub, 1) := by decide +kernel
theorem dL_law_24 : decode cL_law 24 = .ok (.if_icmp .gt 1371, 3) := by decide +kernel
theorem dL_law_27 : decode cL_law 27 = .ok (.aload_n 0, 1) := by decide +kernel
theorem dL_law_28 : decode cL_law 28 = .ok (.iload_n 3, 1) := by decide +kernel
theorem dL_law_29 : decode cL_law 29 = .ok (.iaload, 1) := by decide +kernel
theorem dL_law_30 : decode cL_law 30 = .ok (.bipush 63, 2) := by decide +kernel
theorem dL_law_32 : decode cL_law 32 = .ok (.iand, 1) := by decide +kernel
theorem dL_law_33 : decode cL_law 33 = .ok (.tableswitch 1356 0 36 #[163, 206, 239, 272, 347, 390, 423, 486, 509, 532, 545, 578, 611, 634, 647, 680, 703, 736, 779, 822, 855, 878, 911, 964, 997, 1040, 1063, 1086, 1129, 1162, 1185, 1208, 1251, 1274, 1307, 1320, 1333], 163) := by decide +kernel
theorem dL_law_196 : decode cL_law 196 = .ok (.aload_n 1, 1) := by decide +kernel
theorem dL_law_197 : decode cL_law 197 = .ok (.aload_n 0, 1) := by decide +kernel
theorem dL_law_198 : decode cL_law 198 = .ok (.iload_n 3, 1) := by decide +kernel
theorem dL_law_199 : decode cL_law 199 = .ok (.iconst 1, 1) := by decide +kernel
theorem dL_law_200 : decode cL_law 200 = .ok (.iadd, 1) := by decide +kernel
theorem dL_law_201 : decode cL_law 201 = .ok (.iaload, 1) := by decide +kernel
theorem dL_law_202 : decode cL_law 202 = .ok (.aload_n 0, 1) := by decide +kernel
theorem dL_law_203 : decode cL_law 203 = .ok (.iload_n 3, 1) := by decide +kernel
theorem dL_law_204 : decode cL_law 204 = .ok (.iconst 2, 1) := by decide +kernel
theorem dL_law_205 : decode cL_law 205 = .ok (.iadd, 1) := by decide +kernel
theorem dL_law_206 : decode cL_law 206 = .ok (.iaload, 1) := by decide +kernel
theorem dL_law_207 : decode cL_law 207 = .ok (.aload_n 0, 1) := by decide +kernel
theorem dL_law_208 : decode cL_law 208 = .ok (.iload_n 3, 1) := by decide +kernel
theorem dL_law_209 : decode cL_law 209 = .ok (.iconst 3, 1) := by decide +kernel
theorem dL_law_210 : decode cL_law 210 = .ok (.iadd, 1) := by decide +kernel
theorem dL_law_211 : decode cL_law 211 = .ok (.iaload, 1) := by decide +kernel
theorem dL_law_212 : decode cL_law 212 = .ok (.invokevirtual 13, 3) := by decide +kernel
theorem dL_law_215 : decode cL_law 215 = .ok (.aload_n 2, 1) := by decide +kernel
theorem dL_law_216 : decode cL_law 216 = .ok (.aload_n 0, 1) := by decide +kernel
theorem dL_law_217 : decode cL_law 217 = .ok (.iload_n 3, 1) := by decide +kernel
theorem dL_law_218 : decode cL_law 218 = .ok (.iconst 1, 1) := by decide +kernel
theorem dL_law_219 : decode cL_law 219 = .ok (.iadd, 1) := by decide +kernel
theorem dL_law_220 : decode cL_law 220 = .ok (.iaload, 1) := by decide +kernel
theorem dL_law_221 : decode cL_law 221 = .ok (.aload_n 0, 1) := by decide +kernel
theorem dL_law_222 : decode cL_law 222 = .ok (.iload_n 3, 1) := by decide +kernel
theorem dL_law_223 : decode cL_law 223 = .ok (.iconst 2, 1) := by decide +kernel
theorem dL_law_224 : decode cL_law 224 = .ok (.iadd, 1) := by decide +kernel
theorem dL_law_225 : decode cL_law 225 = .ok (.iaload, 1) := by decide +kernel
theorem dL_law_226 : decode cL_law 226 = .ok (.aload_n 0, 1) := by decide +kernel
theorem dL_law_227 : decode cL_law 227 = .ok (.iload_n 3, 1) := by decide +kernel
theorem dL_law_228 : decode cL_law 228 = .ok (.iconst 3, 1) := by decide +kernel
theorem dL_law_229 : decode cL_law 229 = .ok (.iadd, 1) := by decide +kernel
theorem dL_law_230 : decode cL_law 230 = .ok (.iaload, 1) := by decide +kernel
theorem dL_law_231 : decode cL_law 231 = .ok (.invokevirtual 17, 3) := by decide +kernel
theorem dL_law_234 : decode cL_law 234 = .ok (.if_icmp .eq 1155, 3) := by decide +kernel
theorem dL_law_237 : decode cL_law 237 = .ok (.iconst 0, 1) := by decide +kernel
theorem dL_law_238 : decode cL_law 238 = .ok (.ireturn, 1) := by decide +kernel
theorem dL_law_239 : decode cL_law 239 = .ok (.aload_n 1, 1) := by decide +kernel
theorem dL_law_240 : decode cL_law 240 = .ok (.aload_n 0, 1) := by decide +kernel
theorem dL_law_241 : decode cL_law 241 = .ok (.iload_n 3, 1) := by decide +kernel
theorem dL_law_242 : decode cL_law 242 = .ok (.iconst 1, 1) := by decide +kernel
theorem dL_law_243 : decode cL_law 243 = .ok (.iadd, 1) := by decide +kernel
theorem dL_law_244 : decode cL_law 244 = .ok (.iaload, 1) := by decide +kernel
theorem dL_law_245 : decode cL_law 245 = .ok (.aload_n 0, 1) := by decide +kernel
theorem dL_law_246 : decode cL_law 246 = .ok (.iload_n 3, 1) := by decide +kernel
theorem dL_law_247 : decode cL_law 247 = .ok (.iconst 2, 1) := by decide +kernel
theorem dL_law_248 : decode cL_law 248 = .ok (.iadd, 1) := by decide +kernel
theorem dL_law_249 : decode cL_law 249 = .ok (.iaload, 1) := by decide +kernel
theorem dL_law_250 : decode cL_law 250 = .ok (.invokevirtual 18, 3) := by decide +kernel
theorem dL_law_253 : decode cL_law 253 = .ok (.aload_n 2, 1) := by decide +kernel
theorem dL_law_254 : decode cL_law 254 = .ok (.aload_n 0, 1) := by decide +kernel
theorem dL_law_255 : decode cL_law 255 = .ok (.iload_n 3, 1) := by decide +kernel
theorem dL_law_256 : decode cL_law 256 = .ok (.iconst 1, 1) := by decide +kernel
theorem dL_law_257 : decode cL_law 257 = .ok (.iadd, 1) := by decide +kernel
theorem dL_law_258 : decode cL_law 258 = .ok (.iaload, 1) := by decide +kernel
theorem dL_law_259 : decode cL_law 259 = .ok (.aload_n 0, 1) := by decide +kernel
theorem dL_law_260 : decode cL_law 260 = .ok (.iload_n 3, 1) := by decide +kernel
theorem dL_law_261 : decode cL_law 261 = .ok (.iconst 2, 1) := by decide +kernel
theorem dL_law_262 : decode cL_law 262 = .ok (.iadd, 1) := by decide +kernel
theorem dL_law_263 : decode cL_law 263 = .ok (.iaload, 1) := by decide +kernel
theorem dL_law_264 : decode cL_law 264 = .ok (.invokevirtual 22, 3) := by decide +kernel
theorem dL_law_267 : decode cL_law 267 = .ok (.if_icmp .eq 1122, 3) := by decide +kernel
theorem dL_law_270 : decode cL_law 270 = .ok (.iconst 0, 1) := by decide +kernel
theorem dL_law_271 : decode cL_law 271 = .ok (.ireturn, 1) := by decide +kernel
theorem dL_law_272 : decode cL_law 272 = .ok (.aload_n 1, 1) := by decide +kernel
theorem dL_law_273 : decode cL_law 273 = .ok (.aload_n 0, 1) := by decide +kernel
theorem dL_law_274 : decode cL_law 274 = .ok (.iload_n 3, 1) := by decide +kernel
theorem dL_law_275 : decode cL_law 275 = .ok (.iconst 1, 1) := by decide +kernel
theorem dL_law_276 : decode cL_law 276 = .ok (.iadd, 1) := by decide +kernel
theorem dL_law_277 : decode cL_law 277 = .ok (.iaload, 1) := by decide +kernel
theorem dL_law_278 : decode cL_law 278 = .ok (.aload_n 0, 1) := by decide +kernel
theorem dL_law_279 : decode cL_law 279 = .ok (.iload_n 3, 1) := by decide +kernel
theorem dL_law_280 : decode cL_law 280 = .ok (.iconst 2, 1) := by decide +kernel
theorem dL_law_281 : decode cL_law 281 = .ok (.iadd, 1) := by decide +kernel
theorem dL_law_282 : decode cL_law 282 = .ok (.iaload, 1) := by decide +kernel
theorem dL_law_283 : decode cL_law 283 = .ok (.invokevirtual 23, 3) := by decide +kernel
theorem dL_law_286 : decode cL_law 286 = .ok (.aload_n 2, 1) := by decide +kernel
theorem dL_law_287 : decode cL_law 287 = .ok (.aload_n 0, 1) := by decide +kernel
theorem dL_law_288 : decode cL_law 288 = .ok (.iload_n 3, 1) := by decide +kernel
theorem dL_law_289 : decode cL_law 289 = .ok (.iconst 1, 1) := by decide +kernel
theorem dL_law_290 : decode cL_law 290 = .ok (.iadd, 1) := by decide +kernel
theorem dL_law_291 : decode cL_law 291 = .ok (.iaload, 1) := by decide +kernel
theorem dL_law_292 : decode cL_law 292 = .ok (.aload_n 0, 1) := by decide +kernel
theorem dL_law_293 : decode cL_law 293 = .ok (.iload_n 3, 1) := by decide +kernel
theorem dL_law_294 : decode cL_law 294 = .ok (.iconst 2, 1) := by decide +kernel
theorem dL_law_295 : decode cL_law 295 = .ok (.iadd, 1) := by decide +kernel
theorem dL_law_296 : decode cL_law 296 = .ok (.iaload, 1) := by decide +kernel
theorem dL_law_297 : decode cL_law 297 = .ok (.invokevirtual 26, 3) := by decide +kernel
theorem dL_law_300 : decode cL_law 300 = .ok (.if_icmp .eq 1089, 3) := by decide +kernel
theorem dL_law_303 : decode cL_law 303 = .ok (.iconst 0, 1) := by decide +kernel
theorem dL_law_304 : decode cL_law 304 = .ok (.ireturn, 1) := by decide +kernel
theorem dL_law_305 : decode cL_law 305 = .ok (.aload_n 1, 1) := by decide +kernel
theorem dL_law_306 : decode cL_law 306 = .ok (.aload_n 0, 1) := by decide +kernel
theorem dL_law_307 : decode cL_law 307 = .ok (.iload_n 3, 1) := by decide +kernel
theorem dL_law_308 : decode cL_law 308 = .ok (.iconst 1, 1) := by decide +kernel
theorem dL_law_309 : decode cL_law 309 = .ok (.iadd, 1) := by decide +kernel
theorem dL_law_310 : decode cL_law 310 = .ok (.iaload, 1) := by decide +kernel
theorem dL_law_311 : decode cL_law 311 = .ok (.aload_n 0, 1) := by decide +kernel
theorem dL_law_312 : decode cL_law 312 = .ok (.iload_n 3, 1) := by decide +kernel
theorem dL_law_313 : decode cL_law 313 = .ok (.iconst 2, 1) := by decide +kernel
theorem dL_law_314 : decode cL_law 314 = .ok (.iadd, 1) := by decide +kernel
theorem dL_law_315 : decode cL_law 315 = .ok (.iaload, 1) := by decide +kernel
theorem dL_law_316 : decode cL_law 316 = .ok (.aload_n 0, 1) := by decide +kernel
theorem dL_law_317 : decode cL_law 317 = .ok (.iload_n 3, 1) := by decide +kernel
theorem dL_law_318 : decode cL_law 318 = .ok (.iconst 3, 1) := by decide +kernel
theorem dL_law_319 : decode cL_law 319 = .ok (.iadd, 1) := by decide +kernel
theorem dL_law_320 : decode cL_law 320 = .ok (.iaload, 1) := by decide +kernel
theorem dL_law_321 : decode cL_law 321 = .ok (.aload_n 0, 1) := by decide +kernel
theorem dL_law_322 : decode cL_law 322 = .ok (.iload_n 3, 1) := by decide +kernel
theorem dL_law_323 : decode cL_law 323 = .ok (.iconst 4, 1) := by decide +kernel
theorem dL_law_324 : decode cL_law 324 = .ok (.iadd, 1) := by decide +kernel
theorem dL_law_325 : decode cL_law 325 = .ok (.iaload, 1) := by decide +kernel
theorem dL_law_326 : decode cL_law 326 = .ok (.aload_n 0, 1) := by decide +kernel
theorem dL_law_327 : decode cL_law 327 = .ok (.iload_n 3, 1) := by decide +kernel
theorem dL_law_328 : decode cL_law 328 = .ok (.iconst 5, 1) := by decide +kernel
theorem dL_law_329 : decode cL_law 329 = .ok (.iadd, 1) := by decide +kernel
theorem dL_law_330 : decode cL_law 330 = .ok (.iaload, 1) := by decide +kernel
theorem dL_law_331 : decode cL_law 331 = .ok (.aload_n 0, 1) := by decide +kernel
theorem dL_law_332 : decode cL_law 332 = .ok (.iload_n 3, 1) := by decide +kernel
theorem dL_law_333 : decode cL_law 333 = .ok (.bipush 6, 2) := by decide +kernel
theorem dL_law_335 : decode cL_law 335 = .ok (.iadd, 1) := by decide +kernel
theorem dL_law_336 : decode cL_law 336 = .ok (.iaload, 1) := by decide +kernel
theorem dL_law_337 : decode cL_law 337 = .ok (.invokevirtual 27, 3) := by decide +kernel
theorem dL_law_340 : decode cL_law 340 = .ok (.aload_n 2, 1) := by decide +kernel
theorem dL_law_341 : decode cL_law 341 = .ok (.aload_n 0, 1) := by decide +kernel
theorem dL_law_342 : decode cL_law 342 = .ok (.iload_n 3, 1) := by decide +kernel
theorem dL_law_343 : decode cL_law 343 = .ok (.iconst 1, 1) := by decide +kernel
theorem dL_law_344 : decode cL_law 344 = .ok (.iadd, 1) := by decide +kernel
theorem dL_law_345 : decode cL_law 345 = .ok (.iaload, 1) := by decide +kernel
theorem dL_law_346 : decode cL_law 346 = .ok (.aload_n 0, 1) := by decide +kernel
theorem dL_law_347 : decode cL_law 347 = .ok (.iload_n 3, 1) := by decide +kernel
theorem dL_law_348 : decode cL_law 348 = .ok (.iconst 2, 1) := by decide +kernel
theorem dL_law_349 : decode cL_law 349 = .ok (.iadd, 1) := by decide +kernel
theorem dL_law_350 : decode cL_law 350 = .ok (.iaload, 1) := by decide +kernel
theorem dL_law_351 : decode cL_law 351 = .ok (.aload_n 0, 1) := by decide +kernel
theorem dL_law_352 : decode cL_law 352 = .ok (.iload_n 3, 1) := by decide +kernel
theorem dL_law_353 : decode cL_law 353 = .ok (.iconst 3, 1) := by decide +kernel
theorem dL_law_354 : decode cL_law 354 = .ok (.iadd, 1) := by decide +kernel
theorem dL_law_355 : decode cL_law 355 = .ok (.iaload, 1) := by decide +kernel
theorem dL_law_356 : decode cL_law 356 = .ok (.aload_n 0, 1) := by decide +kernel
theorem dL_law_357 : decode cL_law 357 = .ok (.iload_n 3, 1) := by decide +kernel
theorem dL_law_358 : decode cL_law 358 = .ok (.iconst 4, 1) := by decide +kernel
theorem dL_law_359 : decode cL_law 359 = .ok (.iadd, 1) := by decide +kernel
theorem dL_law_360 : decode cL_law 360 = .ok (.iaload, 1) := by decide +kernel
theorem dL_law_361 : decode cL_law 361 = .ok (.aload_n 0, 1) := by decide +kernel
theorem dL_law_362 : decode cL_law 362 = .ok (.iload_n 3, 1) := by decide +kernel
theorem dL_law_363 : decode cL_law 363 = .ok (.iconst 5, 1) := by decide +kernel
theorem dL_law_364 : decode cL_law 364 = .ok (.iadd, 1) := by decide +kernel
theorem dL_law_365 : decode cL_law 365 = .ok (.iaload, 1) := by decide +kernel
theorem dL_law_366 : decode cL_law 366 = .ok (.aload_n 0, 1) := by decide +kernel
theorem dL_law_367 : decode cL_law 367 = .ok (.iload_n 3, 1) := by decide +kernel
theorem dL_law_368 : decode cL_law 368 = .ok (.bipush 6, 2) := by decide +kernel
theorem dL_law_370 : decode cL_law 370 = .ok (.iadd, 1) := by decide +kernel
theorem dL_law_371 : decode cL_law 371 = .ok (.iaload, 1) := by decide +kernel
theorem dL_law_372 : decode cL_law 372 = .ok (.invokevirtual 31, 3) := by decide +kernel
theorem dL_law_375 : decode cL_law 375 = .ok (.if_icmp .eq 1014, 3) := by decide +kernel
theorem dL_law_378 : decode cL_law 378 = .ok (.iconst 0, 1) := by decide +kernel
theorem dL_law_379 : decode cL_law 379 = .ok (.ireturn, 1) := by decide +kernel
theorem dL_law_380 : decode cL_law 380 = .ok (.aload_n 1, 1) := by decide +kernel
theorem dL_law_381 : decode cL_law 381 = .ok (.aload_n 0, 1) := by decide +kernel
theorem dL_law_382 : decode cL_law 382 = .ok (.iload_n 3, 1) := by decide +kernel
theorem dL_law_383 : decode cL_law 383 = .ok (.iconst 1, 1) := by decide +kernel
theorem dL_law_384 : decode cL_law 384 = .ok (.iadd, 1) := by decide +kernel
theorem dL_law_385 : decode cL_law 385 = .ok (.iaload, 1) := by decide +kernel
theorem dL_law_386 : decode cL_law 386 = .ok (.aload_n 0, 1) := by decide +kernel
theorem dL_law_387 : decode cL_law 387 = .ok (.iload_n 3, 1) := by decide +kernel
theorem dL_law_388 : decode cL_law 388 = .ok (.iconst 2, 1) := by decide +kernel
theorem dL_law_389 : decode cL_law 389 = .ok (.iadd, 1) := by decide +kernel
theorem dL_law_390 : decode cL_law 390 = .ok (.iaload, 1) := by decide +kernel
theorem dL_law_391 : decode cL_law 391 = .ok (.aload_n 0, 1) := by decide +kernel
theorem dL_law_392 : decode cL_law 392 = .ok (.iload_n 3, 1) := by decide +kernel
theorem dL_law_393 : decode cL_law 393 = .ok (.iconst 3, 1) := by decide +kernel
theorem dL_law_394 : decode cL_law 394 = .ok (.iadd, 1) := by decide +kernel
theorem dL_law_395 : decode cL_law 395 = .ok (.iaload, 1) := by decide +kernel
theorem dL_law_396 : decode cL_law 396 = .ok (.invokevirtual 32, 3) := by decide +kernel
theorem dL_law_399 : decode cL_law 399 = .ok (.aload_n 2, 1) := by decide +kernel
theorem dL_law_400 : decode cL_law 400 = .ok (.aload_n 0, 1) := by decide +kernel
theorem dL_law_401 : decode cL_law 401 = .ok (.iload_n 3, 1) := by decide +kernel
theorem dL_law_402 : decode cL_law 402 = .ok (.iconst 1, 1) := by decide +kernel
theorem dL_law_403 : decode cL_law 403 = .ok (.iadd, 1) := by decide +kernel
theorem dL_law_404 : decode cL_law 404 = .ok (.iaload, 1) := by decide +kernel
theorem dL_law_405 : decode cL_law 405 = .ok (.aload_n 0, 1) := by decide +kernel
theorem dL_law_406 : decode cL_law 406 = .ok (.iload_n 3, 1) := by decide +kernel
theorem dL_law_407 : decode cL_law 407 = .ok (.iconst 2, 1) := by decide +kernel
theorem dL_law_408 : decode cL_law 408 = .ok (.iadd, 1) := by decide +kernel
theorem dL_law_409 : decode cL_law 409 = .ok (.iaload, 1) := by decide +kernel
theorem dL_law_410 : decode cL_law 410 = .ok (.aload_n 0, 1) := by decide +kernel
theorem dL_law_411 : decode cL_law 411 = .ok (.iload_n 3, 1) := by decide +kernel
theorem dL_law_412 : decode cL_law 412 = .ok (.iconst 3, 1) := by decide +kernel
theorem dL_law_413 : decode cL_law 413 = .ok (.iadd, 1) := by decide +kernel
theorem dL_law_414 : decode cL_law 414 = .ok (.iaload, 1) := by decide +kernel
theorem dL_law_415 : decode cL_law 415 = .ok (.invokevirtual 35, 3) := by decide +kernel
theorem dL_law_418 : decode cL_law 418 = .ok (.if_icmp .eq 971, 3) := by decide +kernel
theorem dL_law_421 : decode cL_law 421 = .ok (.iconst 0, 1) := by decide +kernel
theorem dL_law_422 : decode cL_law 422 = .ok (.ireturn, 1) := by decide +kernel
theorem dL_law_423 : decode cL_law 423 = .ok (.aload_n 1, 1) := by decide +kernel
theorem dL_law_424 : decode cL_law 424 = .ok (.aload_n 0, 1) := by decide +kernel
theorem dL_law_425 : decode cL_law 425 = .ok (.iload_n 3, 1) := by decide +kernel
theorem dL_law_426 : decode cL_law 426 = .ok (.iconst 1, 1) := by decide +kernel
theorem dL_law_427 : decode cL_law 427 = .ok (.iadd, 1) := by decide +kernel
theorem dL_law_428 : decode cL_law 428 = .ok (.iaload, 1) := by decide +kernel
theorem dL_law_429 : decode cL_law 429 = .ok (.aload_n 0, 1) := by decide +kernel
theorem dL_law_430 : decode cL_law 430 = .ok (.iload_n 3, 1) := by decide +kernel
theorem dL_law_431 : decode cL_law 431 = .ok (.iconst 2, 1) := by decide +kernel
theorem dL_law_432 : decode cL_law 432 = .ok (.iadd, 1) := by decide +kernel
theorem dL_law_433 : decode cL_law 433 = .ok (.iaload, 1) := by decide +kernel
theorem dL_law_434 : decode cL_law 434 = .ok (.invokevirtual 36, 3) := by decide +kernel
theorem dL_law_437 : decode cL_law 437 = .ok (.aload_n 2, 1) := by decide +kernel
theorem dL_law_438 : decode cL_law 438 = .ok (.aload_n 0, 1) := by decide +kernel
theorem dL_law_439 : decode cL_law 439 = .ok (.iload_n 3, 1) := by decide +kernel
theorem dL_law_440 : decode cL_law 440 = .ok (.iconst 1, 1) := by decide +kernel
theorem dL_law_441 : decode cL_law 441 = .ok (.iadd, 1) := by decide +kernel
theorem dL_law_442 : decode cL_law 442 = .ok (.iaload, 1) := by decide +kernel
theorem dL_law_443 : decode cL_law 443 = .ok (.aload_n 0, 1) := by decide +kernel
theorem dL_law_444 : decode cL_law 444 = .ok (.iload_n 3, 1) := by decide +kernel
theorem dL_law_445 : decode cL_law 445 = .ok (.iconst 2, 1) := by decide +kernel
theorem dL_law_446 : decode cL_law 446 = .ok (.iadd, 1) := by decide +kernel
theorem dL_law_447 : decode cL_law 447 = .ok (.iaload, 1) := by decide +kernel
theorem dL_law_448 : decode cL_law 448 = .ok (.invokevirtual 39, 3) := by decide +kernel
theorem dL_law_451 : decode cL_law 451 = .ok (.if_icmp .eq 938, 3) := by decide +kernel
theorem dL_law_454 : decode cL_law 454 = .ok (.iconst 0, 1) := by decide +kernel
theorem dL_law_455 : decode cL_law 455 = .ok (.ireturn, 1) := by decide +kernel
theorem dL_law_456 : decode cL_law 456 = .ok (.aload_n 1, 1) := by decide +kernel
theorem dL_law_457 : decode cL_law 457 = .ok (.aload_n 0, 1) := by decide +kernel
theorem dL_law_458 : decode cL_law 458 = .ok (.iload_n 3, 1) := by decide +kernel
theorem dL_law_459 : decode cL_law 459 = .ok (.iconst 1, 1) := by decide +kernel
theorem dL_law_460 : decode cL_law 460 = .ok (.iadd, 1) := by decide +kernel
theorem dL_law_461 : decode cL_law 461 = .ok (.iaload, 1) := by decide +kernel
theorem dL_law_462 : decode cL_law 462 = .ok (.aload_n 0, 1) := by decide +kernel
theorem dL_law_463 : decode cL_law 463 = .ok (.iload_n 3, 1) := by decide +kernel
theorem dL_law_464 : decode cL_law 464 = .ok (.iconst 2, 1) := by decide +kernel
theorem dL_law_465 : decode cL_law 465 = .ok (.iadd, 1) := by decide +kernel
theorem dL_law_466 : decode cL_law 466 = .ok (.iaload, 1) := by decide +kernel
theorem dL_law_467 : decode cL_law 467 = .ok (.aload_n 0, 1) := by decide +kernel
theorem dL_law_468 : decode cL_law 468 = .ok (.iload_n 3, 1) := by decide +kernel
theorem dL_law_469 : decode cL_law 469 = .ok (.iconst 3, 1) := by decide +kernel
theorem dL_law_470 : decode cL_law 470 = .ok (.iadd, 1) := by decide +kernel
theorem dL_law_471 : decode cL_law 471 = .ok (.iaload, 1) := by decide +kernel
theorem dL_law_472 : decode cL_law 472 = .ok (.aload_n 0, 1) := by decide +kernel
theorem dL_law_473 : decode cL_law 473 = .ok (.iload_n 3, 1) := by decide +kernel
theorem dL_law_474 : decode cL_law 474 = .ok (.iconst 4, 1) := by decide +kernel
theorem dL_law_475 : decode cL_law 475 = .ok (.iadd, 1) := by decide +kernel
theorem dL_law_476 : decode cL_law 476 = .ok (.iaload, 1) := by decide +kernel
theorem dL_law_477 : decode cL_law 477 = .ok (.aload_n 0, 1) := by decide +kernel
theorem dL_law_478 : decode cL_law 478 = .ok (.iload_n 3, 1) := by decide +kernel
theorem dL_law_479 : decode cL_law 479 = .ok (.iconst 5, 1) := by decide +kernel
theorem dL_law_480 : decode cL_law 480 = .ok (.iadd, 1) := by decide +kernel
theorem dL_law_481 : decode cL_law 481 = .ok (.iaload, 1) := by decide +kernel
theorem dL_law_482 : decode cL_law 482 = .ok (.invokevirtual 40, 3) := by decide +kernel
theorem dL_law_485 : decode cL_law 485 = .ok (.aload_n 2, 1) := by decide +kernel
theorem dL_law_486 : decode cL_law 486 = .ok (.aload_n 0, 1) := by decide +kernel
theorem dL_law_487 : decode cL_law 487 = .ok (.iload_n 3, 1) := by decide +kernel
theorem dL_law_488 : decode cL_law 488 = .ok (.iconst 1, 1) := by decide +kernel
theorem dL_law_489 : decode cL_law 489 = .ok (.iadd, 1) := by decide +kernel
theorem dL_law_490 : decode cL_law 490 = .ok (.iaload, 1) := by decide +kernel
theorem dL_law_491 : decode cL_law 491 = .ok (.aload_n 0, 1) := by decide +kernel
theorem dL_law_492 : decode cL_law 492 = .ok (.iload_n 3, 1) := by decide +kernel
theorem dL_law_493 : decode cL_law 493 = .ok (.iconst 2, 1) := by decide +kernel
theorem dL_law_494 : decode cL_law 494 = .ok (.iadd, 1) := by decide +kernel
theorem dL_law_495 : decode cL_law 495 = .ok (.iaload, 1) := by decide +kernel
theorem dL_law_496 : decode cL_law 496 = .ok (.aload_n 0, 1) := by decide +kernel
theorem dL_law_497 : decode cL_law 497 = .ok (.iload_n 3, 1) := by decide +kernel
theorem dL_law_498 : decode cL_law 498 = .ok (.iconst 3, 1) := by decide +kernel
theorem dL_law_499 : decode cL_law 499 = .ok (.iadd, 1) := by decide +kernel
theorem dL_law_500 : decode cL_law 500 = .ok (.iaload, 1) := by decide +kernel
theorem dL_law_501 : decode cL_law 501 = .ok (.aload_n 0, 1) := by decide +kernel
theorem dL_law_502 : decode cL_law 502 = .ok (.iload_n 3, 1) := by decide +kernel
theorem dL_law_503 : decode cL_law 503 = .ok (.iconst 4, 1) := by decide +kernel
theorem dL_law_504 : decode cL_law 504 = .ok (.iadd, 1) := by decide +kernel
theorem dL_law_505 : decode cL_law 505 = .ok (.iaload, 1) := by decide +kernel
theorem dL_law_506 : decode cL_law 506 = .ok (.aload_n 0, 1) := by decide +kernel
theorem dL_law_507 : decode cL_law 507 = .ok (.iload_n 3, 1) := by decide +kernel
theorem dL_law_508 : decode cL_law 508 = .ok (.iconst 5, 1) := by decide +kernel
theorem dL_law_509 : decode cL_law 509 = .ok (.iadd, 1) := by decide +kernel
theorem dL_law_510 : decode cL_law 510 = .ok (.iaload, 1) := by decide +kernel
theorem dL_law_511 : decode cL_law 511 = .ok (.invokevirtual 44, 3) := by decide +kernel
theorem dL_law_514 : decode cL_law 514 = .ok (.if_icmp .eq 875, 3) := by decide +kernel
theorem dL_law_517 : decode cL_law 517 = .ok (.iconst 0, 1) := by decide +kernel
theorem dL_law_518 : decode cL_law 518 = .ok (.ireturn, 1) := by decide +kernel
theorem dL_law_519 : decode cL_law 519 = .ok (.aload_n 1, 1) := by decide +kernel
theorem dL_law_520 : decode cL_law 520 = .ok (.aload_n 0, 1) := by decide +kernel
theorem dL_law_521 : decode cL_law 521 = .ok (.iload_n 3, 1) := by decide +kernel
theorem dL_law_522 : decode cL_law 522 = .ok (.iconst 1, 1) := by decide +kernel
theorem dL_law_523 : decode cL_law 523 = .ok (.iadd, 1) := by decide +kernel
theorem dL_law_524 : decode cL_law 524 = .ok (.iaload, 1) := by decide +kernel
theorem dL_law_525 : decode cL_law 525 = .ok (.invokevirtual 45, 3) := by decide +kernel
theorem dL_law_528 : decode cL_law 528 = .ok (.aload_n 2, 1) := by decide +kernel
theorem dL_law_529 : decode cL_law 529 = .ok (.aload_n 0, 1) := by decide +kernel
theorem dL_law_530 : decode cL_law 530 = .ok (.iload_n 3, 1) := by decide +kernel
theorem dL_law_531 : decode cL_law 531 = .ok (.iconst 1, 1) := by decide +kernel
theorem dL_law_532 : decode cL_law 532 = .ok (.iadd, 1) := by decide +kernel
theorem dL_law_533 : decode cL_law 533 = .ok (.iaload, 1) := by decide +kernel
theorem dL_law_534 : decode cL_law 534 = .ok (.invokevirtual 49, 3) := by decide +kernel
theorem dL_law_537 : decode cL_law 537 = .ok (.if_icmp .eq 852, 3) := by decide +kernel
theorem dL_law_540 : decode cL_law 540 = .ok (.iconst 0, 1) := by decide +kernel
theorem dL_law_541 : decode cL_law 541 = .ok (.ireturn, 1) := by decide +kernel
theorem dL_law_542 : decode cL_law 542 = .ok (.aload_n 1, 1) := by decide +kernel
theorem dL_law_543 : decode cL_law 543 = .ok (.aload_n 0, 1) := by decide +kernel
theorem dL_law_544 : decode cL_law 544 = .ok (.iload_n 3, 1) := by decide +kernel
theorem dL_law_545 : decode cL_law 545 = .ok (.iconst 1, 1) := by decide +kernel
theorem dL_law_546 : decode cL_law 546 = .ok (.iadd, 1) := by decide +kernel
theorem dL_law_547 : decode cL_law 547 = .ok (.iaload, 1) := by decide +kernel
theorem dL_law_548 : decode cL_law 548 = .ok (.invokevirtual 50, 3) := by decide +kernel
theorem dL_law_551 : decode cL_law 551 = .ok (.aload_n 2, 1) := by decide +kernel
theorem dL_law_552 : decode cL_law 552 = .ok (.aload_n 0, 1) := by decide +kernel
theorem dL_law_553 : decode cL_law 553 = .ok (.iload_n 3, 1) := by decide +kernel
theorem dL_law_554 : decode cL_law 554 = .ok (.iconst 1, 1) := by decide +kernel
theorem dL_law_555 : decode cL_law 555 = .ok (.iadd, 1) := by decide +kernel
theorem dL_law_556 : decode cL_law 556 = .ok (.iaload, 1) := by decide +kernel
theorem dL_law_557 : decode cL_law 557 = .ok (.invokevirtual 53, 3) := by decide +kernel
theorem dL_law_560 : decode cL_law 560 = .ok (.if_icmp .eq 829, 3) := by decide +kernel
theorem dL_law_563 : decode cL_law 563 = .ok (.iconst 0, 1) := by decide +kernel
theorem dL_law_564 : decode cL_law 564 = .ok (.ireturn, 1) := by decide +kernel
theorem dL_law_565 : decode cL_law 565 = .ok (.aload_n 1, 1) := by decide +kernel
theorem dL_law_566 : decode cL_law 566 = .ok (.invokevirtual 54, 3) := by decide +kernel
theorem dL_law_569 : decode cL_law 569 = .ok (.aload_n 2, 1) := by decide +kernel
theorem dL_law_570 : decode cL_law 570 = .ok (.invokevirtual 58, 3) := by decide +kernel
theorem dL_law_573 : decode cL_law 573 = .ok (.if_icmp .eq 816, 3) := by decide +kernel
theorem dL_law_576 : decode cL_law 576 = .ok (.iconst 0, 1) := by decide +kernel
theorem dL_law_577 : decode cL_law 577 = .ok (.ireturn, 1) := by decide +kernel
theorem dL_law_578 : decode cL_law 578 = .ok (.aload_n 1, 1) := by decide +kernel
theorem dL_law_579 : decode cL_law 579 = .ok (.aload_n 0, 1) := by decide +kernel
theorem dL_law_580 : decode cL_law 580 = .ok (.iload_n 3, 1) := by decide +kernel
theorem dL_law_581 : decode cL_law 581 = .ok (.iconst 1, 1) := by decide +kernel
theorem dL_law_582 : decode cL_law 582 = .ok (.iadd, 1) := by decide +kernel
theorem dL_law_583 : decode cL_law 583 = .ok (.iaload, 1) := by decide +kernel
theorem dL_law_584 : decode cL_law 584 = .ok (.aload_n 0, 1) := by decide +kernel
theorem dL_law_585 : decode cL_law 585 = .ok (.iload_n 3, 1) := by decide +kernel
theorem dL_law_586 : decode cL_law 586 = .ok (.iconst 2, 1) := by decide +kernel
theorem dL_law_587 : decode cL_law 587 = .ok (.iadd, 1) := by decide +kernel
theorem dL_law_588 : decode cL_law 588 = .ok (.iaload, 1) := by decide +kernel
theorem dL_law_589 : decode cL_law 589 = .ok (.invokevirtual 59, 3) := by decide +kernel
theorem dL_law_592 : decode cL_law 592 = .ok (.aload_n 2, 1) := by decide +kernel
theorem dL_law_593 : decode cL_law 593 = .ok (.aload_n 0, 1) := by decide +kernel
theorem dL_law_594 : decode cL_law 594 = .ok (.iload_n 3, 1) := by decide +kernel
theorem dL_law_595 : decode cL_law 595 = .ok (.iconst 1, 1) := by decide +kernel
theorem dL_law_596 : decode cL_law 596 = .ok (.iadd, 1) := by decide +kernel
theorem dL_law_597 : decode cL_law 597 = .ok (.iaload, 1) := by decide +kernel
theorem dL_law_598 : decode cL_law 598 = .ok (.aload_n 0, 1) := by decide +kernel
theorem dL_law_599 : decode cL_law 599 = .ok (.iload_n 3, 1) := by decide +kernel
theorem dL_law_600 : decode cL_law 600 = .ok (.iconst 2, 1) := by decide +kernel
theorem dL_law_601 : decode cL_law 601 = .ok (.iadd, 1) := by decide +kernel
theorem dL_law_602 : decode cL_law 602 = .ok (.iaload, 1) := by decide +kernel
theorem dL_law_603 : decode cL_law 603 = .ok (.invokevirtual 62, 3) := by decide +kernel
theorem dL_law_606 : decode cL_law 606 = .ok (.if_icmp .eq 783, 3) := by decide +kernel
theorem dL_law_609 : decode cL_law 609 = .ok (.iconst 0, 1) := by decide +kernel
theorem dL_law_610 : decode cL_law 610 = .ok (.ireturn, 1) := by decide +kernel
theorem dL_law_611 : decode cL_law 611 = .ok (.aload_n 1, 1) := by decide +kernel
theorem dL_law_612 : decode cL_law 612 = .ok (.aload_n 0, 1) := by decide +kernel
theorem dL_law_613 : decode cL_law 613 = .ok (.iload_n 3, 1) := by decide +kernel
theorem dL_law_614 : decode cL_law 614 = .ok (.iconst 1, 1) := by decide +kernel
theorem dL_law_615 : decode cL_law 615 = .ok (.iadd, 1) := by decide +kernel
theorem dL_law_616 : decode cL_law 616 = .ok (.iaload, 1) := by decide +kernel
theorem dL_law_617 : decode cL_law 617 = .ok (.aload_n 0, 1) := by decide +kernel
theorem dL_law_618 : decode cL_law 618 = .ok (.iload_n 3, 1) := by decide +kernel
theorem dL_law_619 : decode cL_law 619 = .ok (.iconst 2, 1) := by decide +kernel
theorem dL_law_620 : decode cL_law 620 = .ok (.iadd, 1) := by decide +kernel
theorem dL_law_621 : decode cL_law 621 = .ok (.iaload, 1) := by decide +kernel
theorem dL_law_622 : decode cL_law 622 = .ok (.invokevirtual 63, 3) := by decide +kernel
theorem dL_law_625 : decode cL_law 625 = .ok (.aload_n 2, 1) := by decide +kernel
theorem dL_law_626 : decode cL_law 626 = .ok (.aload_n 0, 1) := by decide +kernel
theorem dL_law_627 : decode cL_law 627 = .ok (.iload_n 3, 1) := by decide +kernel
theorem dL_law_628 : decode cL_law 628 = .ok (.iconst 1, 1) := by decide +kernel
theorem dL_law_629 : decode cL_law 629 = .ok (.iadd, 1) := by decide +kernel
theorem dL_law_630 : decode cL_law 630 = .ok (.iaload, 1) := by decide +kernel
theorem dL_law_631 : decode cL_law 631 = .ok (.aload_n 0, 1) := by decide +kernel
theorem dL_law_632 : decode cL_law 632 = .ok (.iload_n 3, 1) := by decide +kernel
theorem dL_law_633 : decode cL_law 633 = .ok (.iconst 2, 1) := by decide +kernel
theorem dL_law_634 : decode cL_law 634 = .ok (.iadd, 1) := by decide +kernel
theorem dL_law_635 : decode cL_law 635 = .ok (.iaload, 1) := by decide +kernel
theorem dL_law_636 : decode cL_law 636 = .ok (.invokevirtual 66, 3) := by decide +kernel
theorem dL_law_639 : decode cL_law 639 = .ok (.if_icmp .eq 750, 3) := by decide +kernel
