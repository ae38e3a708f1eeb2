set_option maxRecDepth 20000 in
theorem ggL_isWell_X7_gathering : GoodIn wsL_isWell wsX7_gathering := goodIn_r _ [197, 6, 7, 10, 11, 12, 13, 14, 15, 16, 17, 18, 19, 20, 21, 22, 23, 24, 25, 26, 27, 28, 29, 30, 31, 32, 33, 34, 35, 36, 37, 38, 39, 40, 41, 42, 43, 44, 45, 46, 47, 48, 49, 50, 51, 52, 53, 54, 55, 56, 57, 58, 59, 60, 61, 62, 63, 64, 65, 66, 4, 67, 68, 69, 70, 118, 119, 120, 121, 198, 199, 200, 201, 104, 105, 106, 107, 91, 202, 203, 204, 205, 206, 207, 208, 209, 96, 97, 98, 99, 100, 101, 102, 103, 210, 211, 212, 213, 214, 131, 132, 133, 134, 135, 323, 324, 325, 326, 327, 328, 329, 330, 331, 332, 333, 334, 335, 336, 337, 338, 339, 340] (by decide +kernel) (by decide +kernel)
set_option maxRecDepth 20000 in
theorem gL_isWell_X7_gathering : GoodIn wsL_isWell (wsV RL 80 RX7 yX7_gathering wsX7_gathering) := goodIn_app (goodIn_of _ (by decide +kernel)) ggL_isWell_X7_gathering
set_option maxRecDepth 20000 in
theorem ggL_isWell_X7_leastCost : GoodIn wsL_isWell wsX7_leastCost := goodIn_r _ [218, 219, 7, 220, 221, 4, 222, 223, 224, 225, 226, 227, 228, 229, 230, 231, 232, 233, 21, 234, 23, 235, 236, 237, 27, 238, 239, 25, 26, 28, 29, 240, 51, 52, 53, 241, 242, 243, 244, 245, 246, 247, 248, 249, 250, 251, 252, 31, 32, 33, 24, 253, 254, 114, 115, 116, 117, 55, 56, 57, 77, 59, 60, 61, 255, 256, 257, 258, 259, 260, 261, 262, 263, 264, 265, 66, 67, 68, 69, 70, 266, 145, 146, 147, 148, 19, 20, 22, 267, 268, 269, 270, 271, 272, 273, 274, 275, 276, 277, 278, 279, 280, 281, 282, 283, 284, 285, 286, 287, 288, 289, 290, 291, 292, 293, 294, 295, 296, 297, 298, 299, 300, 301, 302, 303, 134, 135, 304, 305, 306, 307, 308, 309, 310, 311, 312, 313, 314, 315, 316, 317, 41, 42, 43, 318, 63, 64, 65, 319, 320, 321, 322, 140, 141, 142, 143, 6, 10, 11, 12, 13, 14, 15, 16, 17, 18, 30, 34, 35, 36, 37, 38, 39, 40, 44, 45, 46, 47, 48, 49, 50, 54, 58, 62, 118, 119, 120, 121, 144, 126, 127, 128, 129, 130, 131, 132, 133, 100, 101, 102, 103, 91, 149, 136, 137, 138, 139, 76, 112, 323, 324, 325, 326, 327, 328, 329, 330, 331, 345, 346, 347, 348, 339, 340, 332, 333, 334, 335, 336, 337, 338] (by decide +kernel) (by decide +kernel)
set_option maxRecDepth 20000 in
theorem gL_isWell_X7_leastCost : GoodIn wsL_isWell (wsV RL 42 RX7 yX7_leastCost wsX7_leastCost) := goodIn_app (goodIn_of _ (by decide +kernel)) ggL_isWell_X7_leastCost
theorem dL_isWell_0 : decode cL_isWell 0 = .ok (.aload_n 0, 1) := by decide +kernel
theorem dL_isWell_1 : decode cL_isWell 1 = .ok (.bipush 10, 2) := by decide +kernel
theorem dL_isWell_3 : decode cL_isWell 3 = .ok (.invokevirtual 9, 3) := by decide +kernel
theorem dL_isWell_6 : decode cL_isWell 6 = .ok (.istore_n 1, 1) := by decide +kernel
theorem dL_isWell_7 : decode cL_isWell 7 = .ok (.aload_n 0, 1) := by decide +kernel
theorem dL_isWell_8 : decode cL_isWell 8 = .ok (.bipush 6, 2) := by decide +kernel
theorem dL_isWell_10 : decode cL_isWell 10 = .ok (.invokevirtual 9, 3) := by decide +kernel
theorem dL_isWell_13 : decode cL_isWell 13 = .ok (.istore_n 2, 1) := by decide +kernel
theorem dL_isWell_14 : decode cL_isWell 14 = .ok (.iconst 0, 1) := by decide +kernel
theorem dL_isWell_15 : decode cL_isWell 15 = .ok (.istore_n 3, 1) := by decide +kernel
theorem dL_isWell_16 : decode cL_isWell 16 = .ok (.iconst 0, 1) := by decide +kernel
theorem dL_isWell_17 : decode cL_isWell 17 = .ok (.istore 4, 2) := by decide +kernel
theorem dL_isWell_19 : decode cL_isWell 19 = .ok (.iconst 0, 1) := by decide +kernel
theorem dL_isWell_20 : decode cL_isWell 20 = .ok (.istore 5, 2) := by decide +kernel
theorem dL_isWell_22 : decode cL_isWell 22 = .ok (.iconst 0, 1) := by decide +kernel
theorem dL_isWell_23 : decode cL_isWell 23 = .ok (.istore 6, 2) := by decide +kernel
theorem dL_isWell_25 : decode cL_isWell 25 = .ok (.iconst 0, 1) := by decide +kernel
theorem dL_isWell_26 : decode cL_isWell 26 = .ok (.istore 7, 2) := by decide +kernel
theorem dL_isWell_28 : decode cL_isWell 28 = .ok (.iload_n 2, 1) := by decide +kernel
theorem dL_isWell_29 : decode cL_isWell 29 = .ok (.iload_n 1, 1) := by decide +kernel
theorem dL_isWell_30 : decode cL_isWell 30 = .ok (.aload_n 0, 1) := by decide +kernel
theorem dL_isWell_31 : decode cL_isWell 31 = .ok (.iconst 5, 1) := by decide +kernel
theorem dL_isWell_32 : decode cL_isWell 32 = .ok (.invokevirtual 9, 3) := by decide +kernel
theorem dL_isWell_35 : decode cL_isWell 35 = .ok (.imul, 1) := by decide +kernel
theorem dL_isWell_36 : decode cL_isWell 36 = .ok (.if_icmp .ne 27, 3) := by decide +kernel
theorem dL_isWell_39 : decode cL_isWell 39 = .ok (.aload_n 0, 1) := by decide +kernel
theorem dL_isWell_40 : decode cL_isWell 40 = .ok (.iconst 4, 1) := by decide +kernel
theorem dL_isWell_41 : decode cL_isWell 41 = .ok (.invokevirtual 9, 3) := by decide +kernel
theorem dL_isWell_44 : decode cL_isWell 44 = .ok (.iload_n 2, 1) := by decide +kernel
theorem dL_isWell_45 : decode cL_isWell 45 = .ok (.if_icmp .gt 18, 3) := by decide +kernel
theorem dL_isWell_48 : decode cL_isWell 48 = .ok (.aload_n 0, 1) := by decide +kernel
theorem dL_isWell_49 : decode cL_isWell 49 = .ok (.iconst 4, 1) := by decide +kernel
theorem dL_isWell_50 : decode cL_isWell 50 = .ok (.invokevirtual 9, 3) := by decide +kernel
theorem dL_isWell_53 : decode cL_isWell 53 = .ok (.iload_n 1, 1) := by decide +kernel
theorem dL_isWell_54 : decode cL_isWell 54 = .ok (.iadd, 1) := by decide +kernel
theorem dL_isWell_55 : decode cL_isWell 55 = .ok (.iload_n 2, 1) := by decide +kernel
theorem dL_isWell_56 : decode cL_isWell 56 = .ok (.if_icmp .le 7, 3) := by decide +kernel
theorem dL_isWell_59 : decode cL_isWell 59 = .ok (.iconst 1, 1) := by decide +kernel
theorem dL_isWell_60 : decode cL_isWell 60 = .ok (.goto 4, 3) := by decide +kernel
theorem dL_isWell_63 : decode cL_isWell 63 = .ok (.iconst 0, 1) := by decide +kernel
theorem dL_isWell_64 : decode cL_isWell 64 = .ok (.istore 8, 2) := by decide +kernel
theorem dL_isWell_66 : decode cL_isWell 66 = .ok (.iconst 1, 1) := by decide +kernel
theorem dL_isWell_67 : decode cL_isWell 67 = .ok (.istore 9, 2) := by decide +kernel
theorem dL_isWell_69 : decode cL_isWell 69 = .ok (.iload 9, 2) := by decide +kernel
theorem dL_isWell_71 : decode cL_isWell 71 = .ok (.iload_n 2, 1) := by decide +kernel
theorem dL_isWell_72 : decode cL_isWell 72 = .ok (.if_icmp .gt 362, 3) := by decide +kernel
theorem dL_isWell_75 : decode cL_isWell 75 = .ok (.iload 8, 2) := by decide +kernel
theorem dL_isWell_77 : decode cL_isWell 77 = .ok (.ifCond .eq 357, 3) := by decide +kernel
theorem dL_isWell_80 : decode cL_isWell 80 = .ok (.aload_n 0, 1) := by decide +kernel
theorem dL_isWell_81 : decode cL_isWell 81 = .ok (.iload 9, 2) := by decide +kernel
theorem dL_isWell_83 : decode cL_isWell 83 = .ok (.iconst 1, 1) := by decide +kernel
theorem dL_isWell_84 : decode cL_isWell 84 = .ok (.invokevirtual 77, 3) := by decide +kernel
theorem dL_isWell_87 : decode cL_isWell 87 = .ok (.istore 10, 2) := by decide +kernel
theorem dL_isWell_89 : decode cL_isWell 89 = .ok (.aload_n 0, 1) := by decide +kernel
theorem dL_isWell_90 : decode cL_isWell 90 = .ok (.iload 9, 2) := by decide +kernel
theorem dL_isWell_92 : decode cL_isWell 92 = .ok (.iconst 0, 1) := by decide +kernel
theorem dL_isWell_93 : decode cL_isWell 93 = .ok (.invokevirtual 77, 3) := by decide +kernel
theorem dL_isWell_96 : decode cL_isWell 96 = .ok (.istore 11, 2) := by decide +kernel
theorem dL_isWell_98 : decode cL_isWell 98 = .ok (.aload_n 0, 1) := by decide +kernel
theorem dL_isWell_99 : decode cL_isWell 99 = .ok (.iload 9, 2) := by decide +kernel
theorem dL_isWell_101 : decode cL_isWell 101 = .ok (.iconst 4, 1) := by decide +kernel
theorem dL_isWell_102 : decode cL_isWell 102 = .ok (.invokevirtual 77, 3) := by decide +kernel
theorem dL_isWell_105 : decode cL_isWell 105 = .ok (.istore 12, 2) := by decide +kernel
theorem dL_isWell_107 : decode cL_isWell 107 = .ok (.iload_n 3, 1) := by decide +kernel
theorem dL_isWell_108 : decode cL_isWell 108 = .ok (.iload 10, 2) := by decide +kernel
theorem dL_isWell_110 : decode cL_isWell 110 = .ok (.iconst 2, 1) := by decide +kernel
theorem dL_isWell_111 : decode cL_isWell 111 = .ok (.if_icmp .eq 9, 3) := by decide +kernel
theorem dL_isWell_114 : decode cL_isWell 114 = .ok (.iload 10, 2) := by decide +kernel
theorem dL_isWell_116 : decode cL_isWell 116 = .ok (.iconst 3, 1) := by decide +kernel
theorem dL_isWell_117 : decode cL_isWell 117 = .ok (.if_icmp .ne 7, 3) := by decide +kernel
theorem dL_isWell_120 : decode cL_isWell 120 = .ok (.iconst 1, 1) := by decide +kernel
theorem dL_isWell_121 : decode cL_isWell 121 = .ok (.goto 4, 3) := by decide +kernel
theorem dL_isWell_124 : decode cL_isWell 124 = .ok (.iconst 0, 1) := by decide +kernel
theorem dL_isWell_125 : decode cL_isWell 125 = .ok (.iadd, 1) := by decide +kernel
theorem dL_isWell_126 : decode cL_isWell 126 = .ok (.istore_n 3, 1) := by decide +kernel
theorem dL_isWell_127 : decode cL_isWell 127 = .ok (.iload 4, 2) := by decide +kernel
theorem dL_isWell_129 : decode cL_isWell 129 = .ok (.iload 10, 2) := by decide +kernel
theorem dL_isWell_131 : decode cL_isWell 131 = .ok (.ifCond .ne 7, 3) := by decide +kernel
theorem dL_isWell_134 : decode cL_isWell 134 = .ok (.iconst 1, 1) := by decide +kernel
theorem dL_isWell_135 : decode cL_isWell 135 = .ok (.goto 4, 3) := by decide +kernel
theorem dL_isWell_138 : decode cL_isWell 138 = .ok (.iconst 0, 1) := by decide +kernel
theorem dL_isWell_139 : decode cL_isWell 139 = .ok (.iadd, 1) := by decide +kernel
theorem dL_isWell_140 : decode cL_isWell 140 = .ok (.istore 4, 2) := by decide +kernel
theorem dL_isWell_142 : decode cL_isWell 142 = .ok (.iload 5, 2) := by decide +kernel
theorem dL_isWell_144 : decode cL_isWell 144 = .ok (.iload 10, 2) := by decide +kernel
theorem dL_isWell_146 : decode cL_isWell 146 = .ok (.iconst 4, 1) := by decide +kernel
theorem dL_isWell_147 : decode cL_isWell 147 = .ok (.if_icmp .ne 7, 3) := by decide +kernel
theorem dL_isWell_150 : decode cL_isWell 150 = .ok (.iconst 1, 1) := by decide +kernel
theorem dL_isWell_151 : decode cL_isWell 151 = .ok (.goto 4, 3) := by decide +kernel
theorem dL_isWell_154 : decode cL_isWell 154 = .ok (.iconst 0, 1) := by decide +kernel
theorem dL_isWell_155 : decode cL_isWell 155 = .ok (.iadd, 1) := by decide +kernel
theorem dL_isWell_156 : decode cL_isWell 156 = .ok (.istore 5, 2) := by decide +kernel
theorem dL_isWell_158 : decode cL_isWell 158 = .ok (.iload 10, 2) := by decide +kernel
theorem dL_isWell_160 : decode cL_isWell 160 = .ok (.ifCond .lt 141, 3) := by decide +kernel
theorem dL_isWell_163 : decode cL_isWell 163 = .ok (.iload 10, 2) := by decide +kernel
theorem dL_isWell_165 : decode cL_isWell 165 = .ok (.iconst 5, 1) := by decide +kernel
theorem dL_isWell_166 : decode cL_isWell 166 = .ok (.if_icmp .ge 135, 3) := by decide +kernel
theorem dL_isWell_169 : decode cL_isWell 169 = .ok (.iload 11, 2) := by decide +kernel
theorem dL_isWell_171 : decode cL_isWell 171 = .ok (.bipush (-5), 2) := by decide +kernel
theorem dL_isWell_173 : decode cL_isWell 173 = .ok (.if_icmp .ne 7, 3) := by decide +kernel
theorem dL_isWell_176 : decode cL_isWell 176 = .ok (.iconst 1, 1) := by decide +kernel
theorem dL_isWell_177 : decode cL_isWell 177 = .ok (.goto 4, 3) := by decide +kernel
theorem dL_isWell_180 : decode cL_isWell 180 = .ok (.iconst 0, 1) := by decide +kernel
theorem dL_isWell_181 : decode cL_isWell 181 = .ok (.iload 10, 2) := by decide +kernel
theorem dL_isWell_183 : decode cL_isWell 183 = .ok (.ifCond .eq 9, 3) := by decide +kernel
theorem dL_isWell_186 : decode cL_isWell 186 = .ok (.iload 10, 2) := by decide +kernel
theorem dL_isWell_188 : decode cL_isWell 188 = .ok (.iconst 4, 1) := by decide +kernel
theorem dL_isWell_189 : decode cL_isWell 189 = .ok (.if_icmp .ne 7, 3) := by decide +kernel
theorem dL_isWell_192 : decode cL_isWell 192 = .ok (.iconst 1, 1) := by decide +kernel
theorem dL_isWell_193 : decode cL_isWell 193 = .ok (.goto 4, 3) := by decide +kernel
theorem dL_isWell_196 : decode cL_isWell 196 = .ok (.iconst 0, 1) := by decide +kernel
theorem dL_isWell_197 : decode cL_isWell 197 = .ok (.if_icmp .ne 104, 3) := by decide +kernel
theorem dL_isWell_200 : decode cL_isWell 200 = .ok (.iload 10, 2) := by decide +kernel
theorem dL_isWell_202 : decode cL_isWell 202 = .ok (.iconst 4, 1) := by decide +kernel
theorem dL_isWell_203 : decode cL_isWell 203 = .ok (.if_icmp .ne 7, 3) := by decide +kernel
theorem dL_isWell_206 : decode cL_isWell 206 = .ok (.iconst 1, 1) := by decide +kernel
theorem dL_isWell_207 : decode cL_isWell 207 = .ok (.goto 4, 3) := by decide +kernel
theorem dL_isWell_210 : decode cL_isWell 210 = .ok (.iconst 0, 1) := by decide +kernel
theorem dL_isWell_211 : decode cL_isWell 211 = .ok (.iload 9, 2) := by decide +kernel
theorem dL_isWell_213 : decode cL_isWell 213 = .ok (.aload_n 0, 1) := by decide +kernel
theorem dL_isWell_214 : decode cL_isWell 214 = .ok (.iconst 4, 1) := by decide +kernel
theorem dL_isWell_215 : decode cL_isWell 215 = .ok (.invokevirtual 9, 3) := by decide +kernel
theorem dL_isWell_218 : decode cL_isWell 218 = .ok (.if_icmp .le 7, 3) := by decide +kernel
theorem dL_isWell_221 : decode cL_isWell 221 = .ok (.iconst 1, 1) := by decide +kernel
theorem dL_isWell_222 : decode cL_isWell 222 = .ok (.goto 4, 3) := by decide +kernel
theorem dL_isWell_225 : decode cL_isWell 225 = .ok (.iconst 0, 1) := by decide +kernel
theorem dL_isWell_226 : decode cL_isWell 226 = .ok (.if_icmp .ne 75, 3) := by decide +kernel
theorem dL_isWell_229 : decode cL_isWell 229 = .ok (.aload_n 0, 1) := by decide +kernel
theorem dL_isWell_230 : decode cL_isWell 230 = .ok (.iload 9, 2) := by decide +kernel
theorem dL_isWell_232 : decode cL_isWell 232 = .ok (.iconst 2, 1) := by decide +kernel
theorem dL_isWell_233 : decode cL_isWell 233 = .ok (.invokevirtual 77, 3) := by decide +kernel
theorem dL_isWell_236 : decode cL_isWell 236 = .ok (.iload 9, 2) := by decide +kernel
theorem dL_isWell_238 : decode cL_isWell 238 = .ok (.iconst 1, 1) := by decide +kernel
theorem dL_isWell_239 : decode cL_isWell 239 = .ok (.isub, 1) := by decide +kernel
theorem dL_isWell_240 : decode cL_isWell 240 = .ok (.iload_n 1, 1) := by decide +kernel
theorem dL_isWell_241 : decode cL_isWell 241 = .ok (.idiv, 1) := by decide +kernel
theorem dL_isWell_242 : decode cL_isWell 242 = .ok (.if_icmp .ne 59, 3) := by decide +kernel
theorem dL_isWell_245 : decode cL_isWell 245 = .ok (.iload 12, 2) := by decide +kernel
theorem dL_isWell_247 : decode cL_isWell 247 = .ok (.bipush (-5), 2) := by decide +kernel
theorem dL_isWell_249 : decode cL_isWell 249 = .ok (.if_icmp .ne 18, 3) := by decide +kernel
theorem dL_isWell_252 : decode cL_isWell 252 = .ok (.iload 9, 2) := by decide +kernel
theorem dL_isWell_254 : decode cL_isWell 254 = .ok (.iconst 1, 1) := by decide +kernel
theorem dL_isWell_255 : decode cL_isWell 255 = .ok (.if_icmp .eq 42, 3) := by decide +kernel
theorem dL_isWell_258 : decode cL_isWell 258 = .ok (.iload 9, 2) := by decide +kernel
theorem dL_isWell_260 : decode cL_isWell 260 = .ok (.iload_n 2, 1) := by decide +kernel
theorem dL_isWell_261 : decode cL_isWell 261 = .ok (.if_icmp .ne 40, 3) := by decide +kernel
theorem dL_isWell_264 : decode cL_isWell 264 = .ok (.goto 33, 3) := by decide +kernel
theorem dL_isWell_267 : decode cL_isWell 267 = .ok (.aload_n 0, 1) := by decide +kernel
theorem dL_isWell_268 : decode cL_isWell 268 = .ok (.iload 12, 2) := by decide +kernel
theorem dL_isWell_270 : decode cL_isWell 270 = .ok (.iconst 4, 1) := by decide +kernel
theorem dL_isWell_271 : decode cL_isWell 271 = .ok (.invokevirtual 77, 3) := by decide +kernel
theorem dL_isWell_274 : decode cL_isWell 274 = .ok (.iload 9, 2) := by decide +kernel
theorem dL_isWell_276 : decode cL_isWell 276 = .ok (.if_icmp .ne 25, 3) := by decide +kernel
theorem dL_isWell_279 : decode cL_isWell 279 = .ok (.iload 12, 2) := by decide +kernel
theorem dL_isWell_281 : decode cL_isWell 281 = .ok (.iload 9, 2) := by decide +kernel
theorem dL_isWell_283 : decode cL_isWell 283 = .ok (.isub, 1) := by decide +kernel
theorem dL_isWell_284 : decode cL_isWell 284 = .ok (.iconst 1, 1) := by decide +kernel
theorem dL_isWell_285 : decode cL_isWell 285 = .ok (.if_icmp .eq 12, 3) := by decide +kernel
theorem dL_isWell_288 : decode cL_isWell 288 = .ok (.iload 9, 2) := by decide +kernel
theorem dL_isWell_290 : decode cL_isWell 290 = .ok (.iload 12, 2) := by decide +kernel
theorem dL_isWell_292 : decode cL_isWell 292 = .ok (.isub, 1) := by decide +kernel
theorem dL_isWell_293 : decode cL_isWell 293 = .ok (.iconst 1, 1) := by decide +kernel
theorem dL_isWell_294 : decode cL_isWell 294 = .ok (.if_icmp .ne 7, 3) := by decide +kernel
theorem dL_isWell_297 : decode cL_isWell 297 = .ok (.iconst 1, 1) := by decide +kernel
theorem dL_isWell_298 : decode cL_isWell 298 = .ok (.goto 4, 3) := by decide +kernel
theorem dL_isWell_301 : decode cL_isWell 301 = .ok (.iconst 0, 1) := by decide +kernel
theorem dL_isWell_302 : decode cL_isWell 302 = .ok (.istore 8, 2) := by decide +kernel
theorem dL_isWell_304 : decode cL_isWell 304 = .ok (.iload 10, 2) := by decide +kernel
theorem dL_isWell_306 : decode cL_isWell 306 = .ok (.iconst 2, 1) := by decide +kernel
theorem dL_isWell_307 : decode cL_isWell 307 = .ok (.if_icmp .eq 9, 3) := by decide +kernel
theorem dL_isWell_310 : decode cL_isWell 310 = .ok (.iload 10, 2) := by decide +kernel
theorem dL_isWell_312 : decode cL_isWell 312 = .ok (.iconst 3, 1) := by decide +kernel
theorem dL_isWell_313 : decode cL_isWell 313 = .ok (.if_icmp .ne 115, 3) := by decide +kernel
theorem dL_isWell_316 : decode cL_isWell 316 = .ok (.iload 12, 2) := by decide +kernel
theorem dL_isWell_318 : decode cL_isWell 318 = .ok (.bipush (-5), 2) := by decide +kernel
theorem dL_isWell_320 : decode cL_isWell 320 = .ok (.if_icmp .eq 30, 3) := by decide +kernel
theorem dL_isWell_323 : decode cL_isWell 323 = .ok (.aload_n 0, 1) := by decide +kernel
theorem dL_isWell_324 : decode cL_isWell 324 = .ok (.iload 12, 2) := by decide +kernel
theorem dL_isWell_326 : decode cL_isWell 326 = .ok (.iconst 0, 1) := by decide +kernel
theorem dL_isWell_327 : decode cL_isWell 327 = .ok (.invokevirtual 77, 3) := by decide +kernel
theorem dL_isWell_330 : decode cL_isWell 330 = .ok (.iload 11, 2) := by decide +kernel
theorem dL_isWell_332 : decode cL_isWell 332 = .ok (.if_icmp .ne 18, 3) := by decide +kernel
theorem dL_isWell_335 : decode cL_isWell 335 = .ok (.aload_n 0, 1) := by decide +kernel
theorem dL_isWell_336 : decode cL_isWell 336 = .ok (.iload 12, 2) := by decide +kernel
theorem dL_isWell_338 : decode cL_isWell 338 = .ok (.iconst 1, 1) := by decide +kernel
theorem dL_isWell_339 : decode cL_isWell 339 = .ok (.invokevirtual 77, 3) := by decide +kernel
theorem dL_isWell_342 : decode cL_isWell 342 = .ok (.iconst 1, 1) := by decide +kernel
theorem dL_isWell_343 : decode cL_isWell 343 = .ok (.if_icmp .ne 7, 3) := by decide +kernel
theorem dL_isWell_346 : decode cL_isWell 346 = .ok (.iconst 1, 1) := by decide +kernel
theorem dL_isWell_347 : decode cL_isWell 347 = .ok (.goto 4, 3) := by decide +kernel
theorem dL_isWell_350 : decode cL_isWell 350 = .ok (.iconst 0, 1) := by decide +kernel
theorem dL_isWell_351 : decode cL_isWell 351 = .ok (.istore 13, 2) := by decide +kernel
theorem dL_isWell_353 : decode cL_isWell 353 = .ok (.iload 7, 2) := by decide +kernel
theorem dL_isWell_355 : decode cL_isWell 355 = .ok (.iload 13, 2) := by decide +kernel
theorem dL_isWell_357 : decode cL_isWell 357 = .ok (.ifCond .eq 7, 3) := by decide +kernel
theorem dL_isWell_360 : decode cL_isWell 360 = .ok (.iconst 1, 1) := by decide +kernel
theorem dL_isWell_361 : decode cL_isWell 361 = .ok (.goto 4, 3) := by decide +kernel
theorem dL_isWell_364 : decode cL_isWell 364 = .ok (.iconst 0, 1) := by decide +kernel
theorem dL_isWell_365 : decode cL_isWell 365 = .ok (.iadd, 1) := by decide +kernel
theorem dL_isWell_366 : decode cL_isWell 366 = .ok (.istore 7, 2) := by decide +kernel
theorem dL_isWell_368 : decode cL_isWell 368 = .ok (.iload 8, 2) := by decide +kernel
theorem dL_isWell_370 : decode cL_isWell 370 = .ok (.ifCond .eq 55, 3) := by decide +kernel
theorem dL_isWell_373 : decode cL_isWell 373 = .ok (.aload_n 0, 1) := by decide +kernel
theorem dL_isWell_374 : decode cL_isWell 374 = .ok (.iload 11, 2) := by decide +kernel
theorem dL_isWell_376 : decode cL_isWell 376 = .ok (.iconst 5, 1) := by decide +kernel
theorem dL_isWell_377 : decode cL_isWell 377 = .ok (.invokevirtual 22, 3) := by decide +kernel
theorem dL_isWell_380 : decode cL_isWell 380 = .ok (.iload 9, 2) := by decide +kernel
theorem dL_isWell_382 : decode cL_isWell 382 = .ok (.if_icmp .ne 43, 3) := by decide +kernel
theorem dL_isWell_385 : decode cL_isWell 385 = .ok (.aload_n 0, 1) := by decide +kernel
theorem dL_isWell_386 : decode cL_isWell 386 = .ok (.iload 11, 2) := by decide +kernel
theorem dL_isWell_388 : decode cL_isWell 388 = .ok (.iconst 1, 1) := by decide +kernel
theorem dL_isWell_389 : decode cL_isWell 389 = .ok (.invokevirtual 22, 3) := by decide +kernel
theorem dL_isWell_392 : decode cL_isWell 392 = .ok (.iload 10, 2) := by decide +kernel
theorem dL_isWell_394 : decode cL_isWell 394 = .ok (.iconst 1, 1) := by decide +kernel
theorem dL_isWell_395 : decode cL_isWell 395 = .ok (.isub, 1) := by decide +kernel
theorem dL_isWell_396 : decode cL_isWell 396 = .ok (.if_icmp .ne 29, 3) := by decide +kernel
theorem dL_isWell_399 : decode cL_isWell 399 = .ok (.aload_n 0, 1) := by decide +kernel
theorem dL_isWell_400 : decode cL_isWell 400 = .ok (.iload 11, 2) := by decide +kernel
theorem dL_isWell_402 : decode cL_isWell 402 = .ok (.bipush 6, 2) := by decide +kernel
theorem dL_isWell_404 : decode cL_isWell 404 = .ok (.invokevirtual 22, 3) := by decide +kernel
theorem dL_isWell_407 : decode cL_isWell 407 = .ok (.iconst 1, 1) := by decide +kernel
theorem dL_isWell_408 : decode cL_isWell 408 = .ok (.if_icmp .ne 7, 3) := by decide +kernel
theorem dL_isWell_411 : decode cL_isWell 411 = .ok (.iconst 1, 1) := by decide +kernel
theorem dL_isWell_412 : decode cL_isWell 412 = .ok (.goto 4, 3) := by decide +kernel
theorem dL_isWell_415 : decode cL_isWell 415 = .ok (.iconst 0, 1) := by decide +kernel
theorem dL_isWell_416 : decode cL_isWell 416 = .ok (.iload 13, 2) := by decide +kernel
theorem dL_isWell_418 : decode cL_isWell 418 = .ok (.if_icmp .ne 7, 3) := by decide +kernel
theorem dL_isWell_421 : decode cL_isWell 421 = .ok (.iconst 1, 1) := by decide +kernel
theorem dL_isWell_422 : decode cL_isWell 422 = .ok (.goto 4, 3) := by decide +kernel
theorem dL_isWell_425 : decode cL_isWell 425 = .ok (.iconst 0, 1) := by decide +kernel
theorem dL_isWell_426 : decode cL_isWell 426 = .ok (.istore 8, 2) := by decide +kernel
theorem dL_isWell_428 : decode cL_isWell 428 = .ok (.iinc 9 1, 3) := by decide +kernel
theorem dL_isWell_431 : decode cL_isWell 431 = .ok (.goto (-362), 3) := by decide +kernel
theorem dL_isWell_434 : decode cL_isWell 434 = .ok (.iconst 0, 1) := by decide +kernel
theorem dL_isWell_435 : decode cL_isWell 435 = .ok (.istore 9, 2) := by decide +kernel
theorem dL_isWell_437 : decode cL_isWell 437 = .ok (.iload 9, 2) := by decide +kernel
theorem dL_isWell_439 : decode cL_isWell 439 = .ok (.aload_n 0, 1) := by decide +kernel
theorem dL_isWell_440 : decode cL_isWell 440 = .ok (.iconst 5, 1) := by decide +kernel
theorem dL_isWell_441 : decode cL_isWell 441 = .ok (.invokevirtual 9, 3) := by decide +kernel
theorem dL_isWell_444 : decode cL_isWell 444 = .ok (.if_icmp .ge 139, 3) := by decide +kernel
theorem dL_isWell_447 : decode cL_isWell 447 = .ok (.iload 8, 2) := by decide +kernel
theorem dL_isWell_449 : decode cL_isWell 449 = .ok (.ifCond .eq 134, 3) := by decide +kernel
theorem dL_isWell_452 : decode cL_isWell 452 = .ok (.iconst 0, 1) := by decide +kernel
theorem dL_isWell_453 : decode cL_isWell 453 = .ok (.istore 10, 2) := by decide +kernel
theorem dL_isWell_455 : decode cL_isWell 455 = .ok (.iload_n 1, 1) := by decide +kernel
theorem dL_isWell_456 : decode cL_isWell 456 = .ok (.iload 9, 2) := by decide +kernel
theorem dL_isWell_458 : decode cL_isWell 458 = .ok (.imul, 1) := by decide +kernel
theorem dL_isWell_459 : decode cL_isWell 459 = .ok (.iconst 1, 1) := by decide +kernel
theorem dL_isWell_460 : decode cL_isWell 460 = .ok (.iadd, 1) := by decide +kernel
theorem dL_isWell_461 : decode cL_isWell 461 = .ok (.istore 11, 2) := by decide +kernel
theorem dL_isWell_463 : decode cL_isWell 463 = .ok (.iload 11, 2) := by decide +kernel
theorem dL_isWell_465 : decode cL_isWell 465 = .ok (.iload_n 1, 1) := by decide +kernel
theorem dL_isWell_466 : decode cL_isWell 466 = .ok (.iload 9, 2) := by decide +kernel
theorem dL_isWell_468 : decode cL_isWell 468 = .ok (.imul, 1) := by decide +kernel
theorem dL_isWell_469 : decode cL_isWell 469 = .ok (.iload_n 1, 1) := by decide +kernel
theorem dL_isWell_470 : decode cL_isWell 470 = .ok (.iadd, 1) := by decide +kernel
theorem dL_isWell_471 : decode cL_isWell 471 = .ok (.if_icmp .gt 38, 3) := by decide +kernel
theorem dL_isWell_474 : decode cL_isWell 474 = .ok (.iload 10, 2) := by decide +kernel
theorem dL_isWell_476 : decode cL_isWell 476 = .ok (.aload_n 0, 1) := by decide +kernel
theorem dL_isWell_477 : decode cL_isWell 477 = .ok (.iload 11, 2) := by decide +kernel
theorem dL_isWell_479 : decode cL_isWell 479 = .ok (.iconst 1, 1) := by decide +kernel
theorem dL_isWell_480 : decode cL_isWell 480 = .ok (.invokevirtual 77, 3) := by decide +kernel
theorem dL_isWell_483 : decode cL_isWell 483 = .ok (.iconst 3, 1) := by decide +kernel
theorem dL_isWell_484 : decode cL_isWell 484 = .ok (.if_icmp .ne 15, 3) := by decide +kernel
theorem dL_isWell_487 : decode cL_isWell 487 = .ok (.iconst 1, 1) := by decide +kernel
theorem dL_isWell_488 : decode cL_isWell 488 = .ok (.aload_n 0, 1) := by decide +kernel
theorem dL_isWell_489 : decode cL_isWell 489 = .ok (.iload 11, 2) := by decide +kernel
theorem dL_isWell_491 : decode cL_isWell 491 = .ok (.iconst 3, 1) := by decide +kernel
theorem dL_isWell_492 : decode cL_isWell 492 = .ok (.invokevirtual 77, 3) := by decide +kernel
theorem dL_isWell_495 : decode cL_isWell 495 = .ok (.ishl, 1) := by decide +kernel
theorem dL_isWell_496 : decode cL_isWell 496 = .ok (.goto 4, 3) := by decide +kernel
theorem dL_isWell_499 : decode cL_isWell 499 = .ok (.iconst 0, 1) := by decide +kernel
theorem dL_isWell_500 : decode cL_isWell 500 = .ok (.ior, 1) := by decide +kernel
theorem dL_isWell_501 : decode cL_isWell 501 = .ok (.istore 10, 2) := by decide +kernel
theorem dL_isWell_503 : decode cL_isWell 503 = .ok (.iinc 11 1, 3) := by decide +kernel
theorem dL_isWell_506 : decode cL_isWell 506 = .ok (.goto (-43), 3) := by decide +kernel
theorem dL_isWell_509 : decode cL_isWell 509 = .ok (.iload 6, 2) := by decide +kernel
theorem dL_isWell_511 : decode cL_isWell 511 = .ok (.iload 10, 2) := by decide +kernel
theorem dL_isWell_513 : decode cL_isWell 513 = .ok (.iconst 1, 1) := by decide +kernel
theorem dL_isWell_514 : decode cL_isWell 514 = .ok (.iand, 1) := by decide +kernel
theorem dL_isWell_515 : decode cL_isWell 515 = .ok (.iload 10, 2) := by decide +kernel
theorem dL_isWell_517 : decode cL_isWell 517 = .ok (.iconst 1, 1) := by decide +kernel
theorem dL_isWell_518 : decode cL_isWell 518 = .ok (.ishr, 1) := by decide +kernel
theorem dL_isWell_519 : decode cL_isWell 519 = .ok (.iadd, 1) := by decide +kernel
theorem dL_isWell_520 : decode cL_isWell 520 = .ok (.iadd, 1) := by decide +kernel
theorem dL_isWell_521 : decode cL_isWell 521 = .ok (.istore 6, 2) := by decide +kernel
theorem dL_isWell_523 : decode cL_isWell 523 = .ok (.aload_n 0, 1) := by decide +kernel
theorem dL_isWell_524 : decode cL_isWell 524 = .ok (.iload 9, 2) := by decide +kernel
theorem dL_isWell_526 : decode cL_isWell 526 = .ok (.iconst 4, 1) := by decide +kernel
theorem dL_isWell_527 : decode cL_isWell 527 = .ok (.invokevirtual 80, 3) := by decide +kernel
theorem dL_isWell_530 : decode cL_isWell 530 = .ok (.iload 10, 2) := by decide +kernel
theorem dL_isWell_532 : decode cL_isWell 532 = .ok (.iconst 1, 1) := by decide +kernel
theorem dL_isWell_533 : decode cL_isWell 533 = .ok (.iand, 1) := by decide +kernel
theorem dL_isWell_534 : decode cL_isWell 534 = .ok (.if_icmp .ne 40, 3) := by decide +kernel
theorem dL_isWell_537 : decode cL_isWell 537 = .ok (.aload_n 0, 1) := by decide +kernel
theorem dL_isWell_538 : decode cL_isWell 538 = .ok (.iload 9, 2) := by decide +kernel
theorem dL_isWell_540 : decode cL_isWell 540 = .ok (.iconst 5, 1) := by decide +kernel
theorem dL_isWell_541 : decode cL_isWell 541 = .ok (.invokevirtual 80, 3) := by decide +kernel
theorem dL_isWell_544 : decode cL_isWell 544 = .ok (.iload 10, 2) := by decide +kernel
theorem dL_isWell_546 : decode cL_isWell 546 = .ok (.iconst 1, 1) := by decide +kernel
theorem dL_isWell_547 : decode cL_isWell 547 = .ok (.ishr, 1) := by decide +kernel
theorem dL_isWell_548 : decode cL_isWell 548 = .ok (.if_icmp .ne 26, 3) := by decide +kernel
theorem dL_isWell_551 : decode cL_isWell 551 = .ok (.aload_n 0, 1) := by decide +kernel
theorem dL_isWell_552 : decode cL_isWell 552 = .ok (.iload 9, 2) := by decide +kernel
theorem dL_isWell_554 : decode cL_isWell 554 = .ok (.iconst 3, 1) := by decide +kernel
theorem dL_isWell_555 : decode cL_isWell 555 = .ok (.invokevirtual 80, 3) := by decide +kernel
theorem dL_isWell_558 : decode cL_isWell 558 = .ok (.iload 10, 2) := by decide +kernel
theorem dL_isWell_560 : decode cL_isWell 560 = .ok (.iconst 1, 1) := by decide +kernel
theorem dL_isWell_561 : decode cL_isWell 561 = .ok (.iand, 1) := by decide +kernel
theorem dL_isWell_562 : decode cL_isWell 562 = .ok (.iload 10, 2) := by decide +kernel
theorem dL_isWell_564 : decode cL_isWell 564 = .ok (.iconst 1, 1) := by decide +kernel
theorem dL_isWell_565 : decode cL_isWell 565 = .ok (.ishr, 1) := by decide +kernel
theorem dL_isWell_566 : decode cL_isWell 566 = .ok (.iadd, 1) := by decide +kernel
theorem dL_isWell_567 : decode cL_isWell 567 = .ok (.if_icmp .ne 7, 3) := by decide +kernel
theorem dL_isWell_570 : decode cL_isWell 570 = .ok (.iconst 1, 1) := by decide +kernel
theorem dL_isWell_571 : decode cL_isWell 571 = .ok (.goto 4, 3) := by decide +kernel
theorem dL_isWell_574 : decode cL_isWell 574 = .ok (.iconst 0, 1) := by decide +kernel
theorem dL_isWell_575 : decode cL_isWell 575 = .ok (.istore 8, 2) := by decide +kernel
theorem dL_isWell_577 : decode cL_isWell 577 = .ok (.iinc 9 1, 3) := by decide +kernel
theorem dL_isWell_580 : decode cL_isWell 580 = .ok (.goto (-143), 3) := by decide +kernel
theorem dL_isWell_583 : decode cL_isWell 583 = .ok (.iload 8, 2) := by decide +kernel
theorem dL_isWell_585 : decode cL_isWell 585 = .ok (.ifCond .eq 60, 3) := by decide +kernel
theorem dL_isWell_588 : decode cL_isWell 588 = .ok (.iload_n 3, 1) := by decide +kernel
theorem dL_isWell_589 : decode cL_isWell 589 = .ok (.aload_n 0, 1) := by decide +kernel
theorem dL_isWell_590 : decode cL_isWell 590 = .ok (.iconst 1, 1) := by decide +kernel
theorem dL_isWell_591 : decode cL_isWell 591 = .ok (.invokevirtual 9, 3) := by decide +kernel
theorem dL_isWell_594 : decode cL_isWell 594 = .ok (.if_icmp .ne 51, 3) := by decide +kernel
theorem dL_isWell_597 : decode cL_isWell 597 = .ok (.iload 4, 2) := by decide +kernel
theorem dL_isWell_599 : decode cL_isWell 599 = .ok (.aload_n 0, 1) := by decide +kernel
theorem dL_isWell_600 : decode cL_isWell 600 = .ok (.bipush 8, 2) := by decide +kernel
theorem dL_isWell_602 : decode cL_isWell 602 = .ok (.invokevirtual 9, 3) := by decide +kernel
theorem dL_isWell_605 : decode cL_isWell 605 = .ok (.if_icmp .ne 40, 3) := by decide +kernel
theorem dL_isWell_608 : decode cL_isWell 608 = .ok (.iload 5, 2) := by decide +kernel
theorem dL_isWell_610 : decode cL_isWell 610 = .ok (.iload_n 2, 1) := by decide +kernel
theorem dL_isWell_611 : decode cL_isWell 611 = .ok (.aload_n 0, 1) := by decide +kernel
theorem dL_isWell_612 : decode cL_isWell 612 = .ok (.iconst 4, 1) := by decide +kernel
theorem dL_isWell_613 : decode cL_isWell 613 = .ok (.invokevirtual 9, 3) := by decide +kernel
theorem dL_isWell_616 : decode cL_isWell 616 = .ok (.isub, 1) := by decide +kernel
theorem dL_isWell_617 : decode cL_isWell 617 = .ok (.if_icmp .ne 28, 3) := by decide +kernel
theorem dL_isWell_620 : decode cL_isWell 620 = .ok (.iload 7, 2) := by decide +kernel
theorem dL_isWell_622 : decode cL_isWell 622 = .ok (.aload_n 0, 1) := by decide +kernel
theorem dL_isWell_623 : decode cL_isWell 623 = .ok (.iconst 3, 1) := by decide +kernel
theorem dL_isWell_624 : decode cL_isWell 624 = .ok (.invokevirtual 9, 3) := by decide +kernel
theorem dL_isWell_627 : decode cL_isWell 627 = .ok (.if_icmp .ne 18, 3) := by decide +kernel
theorem dL_isWell_630 : decode cL_isWell 630 = .ok (.iload 6, 2) := by decide +kernel
theorem dL_isWell_632 : decode cL_isWell 632 = .ok (.aload_n 0, 1) := by decide +kernel
theorem dL_isWell_633 : decode cL_isWell 633 = .ok (.bipush 7, 2) := by decide +kernel
theorem dL_isWell_635 : decode cL_isWell 635 = .ok (.invokevirtual 9, 3) := by decide +kernel
theorem dL_isWell_638 : decode cL_isWell 638 = .ok (.if_icmp .ne 7, 3) := by decide +kernel
theorem dL_isWell_641 : decode cL_isWell 641 = .ok (.iconst 1, 1) := by decide +kernel
theorem dL_isWell_642 : decode cL_isWell 642 = .ok (.goto 4, 3) := by decide +kernel
theorem dL_isWell_645 : decode cL_isWell 645 = .ok (.iconst 0, 1) := by decide +kernel
theorem dL_isWell_646 : decode cL_isWell 646 = .ok (.istore 8, 2) := by decide +kernel
theorem dL_isWell_648 : decode cL_isWell 648 = .ok (.aload_n 0, 1) := by decide +kernel
theorem dL_isWell_649 : decode cL_isWell 649 = .ok (.iload_n 1, 1) := by decide +kernel
theorem dL_isWell_650 : decode cL_isWell 650 = .ok (.invokevirtual 42, 3) := by decide +kernel
theorem dL_isWell_653 : decode cL_isWell 653 = .ok (.istore 9, 2) := by decide +kernel
theorem dL_isWell_655 : decode cL_isWell 655 = .ok (.iload 8, 2) := by decide +kernel
theorem dL_isWell_657 : decode cL_isWell 657 = .ok (.ifCond .eq 95, 3) := by decide +kernel
theorem dL_isWell_660 : decode cL_isWell 660 = .ok (.aload_n 0, 1) := by decide +kernel
theorem dL_isWell_661 : decode cL_isWell 661 = .ok (.bipush 9, 2) := by decide +kernel
theorem dL_isWell_663 : decode cL_isWell 663 = .ok (.invokevirtual 9, 3) := by decide +kernel
theorem dL_isWell_666 : decode cL_isWell 666 = .ok (.aload_n 0, 1) := by decide +kernel
theorem dL_isWell_667 : decode cL_isWell 667 = .ok (.iconst 5, 1) := by decide +kernel
theorem dL_isWell_668 : decode cL_isWell 668 = .ok (.invokevirtual 9, 3) := by decide +kernel
theorem dL_isWell_671 : decode cL_isWell 671 = .ok (.aload_n 0, 1) := by decide +kernel
theorem dL_isWell_672 : decode cL_isWell 672 = .ok (.bipush 11, 2) := by decide +kernel
theorem dL_isWell_674 : decode cL_isWell 674 = .ok (.invokevirtual 9, 3) := by decide +kernel
theorem dL_isWell_677 : decode cL_isWell 677 = .ok (.aload_n 0, 1) := by decide +kernel
theorem dL_isWell_678 : decode cL_isWell 678 = .ok (.bipush 14, 2) := by decide +kernel
theorem dL_isWell_680 : decode cL_isWell 680 = .ok (.invokevirtual 9, 3) := by decide +kernel
theorem dL_isWell_683 : decode cL_isWell 683 = .ok (.bipush 10, 2) := by decide +kernel
theorem dL_isWell_685 : decode cL_isWell 685 = .ok (.idiv, 1) := by decide +kernel
theorem dL_isWell_686 : decode cL_isWell 686 = .ok (.iadd, 1) := by decide +kernel
theorem dL_isWell_687 : decode cL_isWell 687 = .ok (.imul, 1) := by decide +kernel
theorem dL_isWell_688 : decode cL_isWell 688 = .ok (.aload_n 0, 1) := by decide +kernel
theorem dL_isWell_689 : decode cL_isWell 689 = .ok (.bipush 7, 2) := by decide +kernel
theorem dL_isWell_691 : decode cL_isWell 691 = .ok (.invokevirtual 9, 3) := by decide +kernel
theorem dL_isWell_694 : decode cL_isWell 694 = .ok (.aload_n 0, 1) := by decide +kernel
theorem dL_isWell_695 : decode cL_isWell 695 = .ok (.bipush 12, 2) := by decide +kernel
theorem dL_isWell_697 : decode cL_isWell 697 = .ok (.invokevirtual 9, 3) := by decide +kernel
theorem dL_isWell_700 : decode cL_isWell 700 = .ok (.imul, 1) := by decide +kernel
theorem dL_isWell_701 : decode cL_isWell 701 = .ok (.iadd, 1) := by decide +kernel
theorem dL_isWell_702 : decode cL_isWell 702 = .ok (.aload_n 0, 1) := by decide +kernel
theorem dL_isWell_703 : decode cL_isWell 703 = .ok (.bipush 8, 2) := by decide +kernel
theorem dL_isWell_705 : decode cL_isWell 705 = .ok (.invokevirtual 9, 3) := by decide +kernel
theorem dL_isWell_708 : decode cL_isWell 708 = .ok (.aload_n 0, 1) := by decide +kernel
theorem dL_isWell_709 : decode cL_isWell 709 = .ok (.bipush 13, 2) := by decide +kernel
theorem dL_isWell_711 : decode cL_isWell 711 = .ok (.invokevirtual 9, 3) := by decide +kernel
theorem dL_isWell_714 : decode cL_isWell 714 = .ok (.imul, 1) := by decide +kernel
theorem dL_isWell_715 : decode cL_isWell 715 = .ok (.iadd, 1) := by decide +kernel
theorem dL_isWell_716 : decode cL_isWell 716 = .ok (.if_icmp .ne 36, 3) := by decide +kernel
theorem dL_isWell_719 : decode cL_isWell 719 = .ok (.aload_n 0, 1) := by decide +kernel
theorem dL_isWell_720 : decode cL_isWell 720 = .ok (.iconst 3, 1) := by decide +kernel
theorem dL_isWell_721 : decode cL_isWell 721 = .ok (.invokevirtual 9, 3) := by decide +kernel
theorem dL_isWell_724 : decode cL_isWell 724 = .ok (.aload_n 0, 1) := by decide +kernel
theorem dL_isWell_725 : decode cL_isWell 725 = .ok (.iconst 1, 1) := by decide +kernel
theorem dL_isWell_726 : decode cL_isWell 726 = .ok (.invokevirtual 9, 3) := by decide +kernel
theorem dL_isWell_729 : decode cL_isWell 729 = .ok (.if_icmp .lt 19, 3) := by decide +kernel
theorem dL_isWell_732 : decode cL_isWell 732 = .ok (.iload 9, 2) := by decide +kernel
theorem dL_isWell_734 : decode cL_isWell 734 = .ok (.ifCond .lt 18, 3) := by decide +kernel
theorem dL_isWell_737 : decode cL_isWell 737 = .ok (.iload 9, 2) := by decide +kernel
theorem dL_isWell_739 : decode cL_isWell 739 = .ok (.aload_n 0, 1) := by decide +kernel
theorem dL_isWell_740 : decode cL_isWell 740 = .ok (.bipush 9, 2) := by decide +kernel
theorem dL_isWell_742 : decode cL_isWell 742 = .ok (.invokevirtual 9, 3) := by decide +kernel
theorem dL_isWell_745 : decode cL_isWell 745 = .ok (.if_icmp .gt 7, 3) := by decide +kernel
theorem dL_isWell_748 : decode cL_isWell 748 = .ok (.iconst 1, 1) := by decide +kernel
theorem dL_isWell_749 : decode cL_isWell 749 = .ok (.goto 4, 3) := by decide +kernel
theorem dL_isWell_752 : decode cL_isWell 752 = .ok (.iconst 0, 1) := by decide +kernel
theorem dL_isWell_753 : decode cL_isWell 753 = .ok (.ireturn, 1) := by decide +kernel
