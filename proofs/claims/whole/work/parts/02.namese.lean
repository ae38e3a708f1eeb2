theorem dX8_tries_55 : decode cX8_tries 55 = .ok (.istore 7, 2) := by decide +kernel
theorem dX8_tries_57 : decode cX8_tries 57 = .ok (.iconst 1, 1) := by decide +kernel
theorem dX8_tries_58 : decode cX8_tries 58 = .ok (.istore 8, 2) := by decide +kernel
theorem dX8_tries_60 : decode cX8_tries 60 = .ok (.aload_n 0, 1) := by decide +kernel
theorem dX8_tries_61 : decode cX8_tries 61 = .ok (.iload_n 1, 1) := by decide +kernel
theorem dX8_tries_62 : decode cX8_tries 62 = .ok (.invokevirtual 50, 3) := by decide +kernel
theorem dX8_tries_65 : decode cX8_tries 65 = .ok (.ifCond .eq 39, 3) := by decide +kernel
theorem dX8_tries_68 : decode cX8_tries 68 = .ok (.iload 7, 2) := by decide +kernel
theorem dX8_tries_70 : decode cX8_tries 70 = .ok (.iconst 2, 1) := by decide +kernel
theorem dX8_tries_71 : decode cX8_tries 71 = .ok (.irem, 1) := by decide +kernel
theorem dX8_tries_72 : decode cX8_tries 72 = .ok (.ifCond .ne 10, 3) := by decide +kernel
theorem dX8_tries_75 : decode cX8_tries 75 = .ok (.iload 7, 2) := by decide +kernel
theorem dX8_tries_77 : decode cX8_tries 77 = .ok (.iconst 1, 1) := by decide +kernel
theorem dX8_tries_78 : decode cX8_tries 78 = .ok (.iadd, 1) := by decide +kernel
theorem dX8_tries_79 : decode cX8_tries 79 = .ok (.goto 7, 3) := by decide +kernel
theorem dX8_tries_82 : decode cX8_tries 82 = .ok (.iload 7, 2) := by decide +kernel
theorem dX8_tries_84 : decode cX8_tries 84 = .ok (.iconst 1, 1) := by decide +kernel
theorem dX8_tries_85 : decode cX8_tries 85 = .ok (.isub, 1) := by decide +kernel
theorem dX8_tries_86 : decode cX8_tries 86 = .ok (.istore 9, 2) := by decide +kernel
theorem dX8_tries_88 : decode cX8_tries 88 = .ok (.iload 9, 2) := by decide +kernel
theorem dX8_tries_90 : decode cX8_tries 90 = .ok (.i2l, 1) := by decide +kernel
theorem dX8_tries_91 : decode cX8_tries 91 = .ok (.iload 6, 2) := by decide +kernel
theorem dX8_tries_93 : decode cX8_tries 93 = .ok (.i2l, 1) := by decide +kernel
theorem dX8_tries_94 : decode cX8_tries 94 = .ok (.aload_n 0, 1) := by decide +kernel
theorem dX8_tries_95 : decode cX8_tries 95 = .ok (.getfield 111, 3) := by decide +kernel
theorem dX8_tries_98 : decode cX8_tries 98 = .ok (.i2l, 1) := by decide +kernel
theorem dX8_tries_99 : decode cX8_tries 99 = .ok (.invokestatic 42, 3) := by decide +kernel
theorem dX8_tries_102 : decode cX8_tries 102 = .ok (.istore 8, 2) := by decide +kernel
theorem dX8_tries_104 : decode cX8_tries 104 = .ok (.aload_n 0, 1) := by decide +kernel
theorem dX8_tries_105 : decode cX8_tries 105 = .ok (.iload_n 2, 1) := by decide +kernel
theorem dX8_tries_106 : decode cX8_tries 106 = .ok (.ifCond .le 21, 3) := by decide +kernel
theorem dX8_tries_109 : decode cX8_tries 109 = .ok (.aload_n 0, 1) := by decide +kernel
theorem dX8_tries_110 : decode cX8_tries 110 = .ok (.iload 7, 2) := by decide +kernel
theorem dX8_tries_112 : decode cX8_tries 112 = .ok (.invokevirtual 88, 3) := by decide +kernel
theorem dX8_tries_115 : decode cX8_tries 115 = .ok (.aload_n 0, 1) := by decide +kernel
theorem dX8_tries_116 : decode cX8_tries 116 = .ok (.iload_n 2, 1) := by decide +kernel
theorem dX8_tries_117 : decode cX8_tries 117 = .ok (.invokevirtual 88, 3) := by decide +kernel
theorem dX8_tries_120 : decode cX8_tries 120 = .ok (.if_icmp .ne 7, 3) := by decide +kernel
theorem dX8_tries_123 : decode cX8_tries 123 = .ok (.iload_n 3, 1) := by decide +kernel
theorem dX8_tries_124 : decode cX8_tries 124 = .ok (.goto 4, 3) := by decide +kernel
theorem dX8_tries_127 : decode cX8_tries 127 = .ok (.iconst 0, 1) := by decide +kernel
theorem dX8_tries_128 : decode cX8_tries 128 = .ok (.putfield 117, 3) := by decide +kernel
theorem dX8_tries_131 : decode cX8_tries 131 = .ok (.aload_n 0, 1) := by decide +kernel
theorem dX8_tries_132 : decode cX8_tries 132 = .ok (.getfield 7, 3) := by decide +kernel
theorem dX8_tries_135 : decode cX8_tries 135 = .ok (.bipush 18, 2) := by decide +kernel
theorem dX8_tries_137 : decode cX8_tries 137 = .ok (.iload_n 1, 1) := by decide +kernel
theorem dX8_tries_138 : decode cX8_tries 138 = .ok (.iadd, 1) := by decide +kernel
theorem dX8_tries_139 : decode cX8_tries 139 = .ok (.iaload, 1) := by decide +kernel
theorem dX8_tries_140 : decode cX8_tries 140 = .ok (.iconst 2, 1) := by decide +kernel
theorem dX8_tries_141 : decode cX8_tries 141 = .ok (.if_icmp .ne 53, 3) := by decide +kernel
theorem dX8_tries_144 : decode cX8_tries 144 = .ok (.iconst 1, 1) := by decide +kernel
theorem dX8_tries_145 : decode cX8_tries 145 = .ok (.aload_n 0, 1) := by decide +kernel
theorem dX8_tries_146 : decode cX8_tries 146 = .ok (.iload 7, 2) := by decide +kernel
theorem dX8_tries_148 : decode cX8_tries 148 = .ok (.invokevirtual 91, 3) := by decide +kernel
theorem dX8_tries_151 : decode cX8_tries 151 = .ok (.ishl, 1) := by decide +kernel
theorem dX8_tries_152 : decode cX8_tries 152 = .ok (.istore 9, 2) := by decide +kernel
theorem dX8_tries_154 : decode cX8_tries 154 = .ok (.aload_n 0, 1) := by decide +kernel
theorem dX8_tries_155 : decode cX8_tries 155 = .ok (.dup, 1) := by decide +kernel
theorem dX8_tries_156 : decode cX8_tries 156 = .ok (.getfield 114, 3) := by decide +kernel
theorem dX8_tries_159 : decode cX8_tries 159 = .ok (.aload_n 0, 1) := by decide +kernel
theorem dX8_tries_160 : decode cX8_tries 160 = .ok (.getfield 117, 3) := by decide +kernel
theorem dX8_tries_163 : decode cX8_tries 163 = .ok (.iload 9, 2) := by decide +kernel
theorem dX8_tries_165 : decode cX8_tries 165 = .ok (.iand, 1) := by decide +kernel
theorem dX8_tries_166 : decode cX8_tries 166 = .ok (.ifCond .ne 12, 3) := by decide +kernel
theorem dX8_tries_169 : decode cX8_tries 169 = .ok (.aload_n 0, 1) := by decide +kernel
theorem dX8_tries_170 : decode cX8_tries 170 = .ok (.getfield 7, 3) := by decide +kernel
theorem dX8_tries_173 : decode cX8_tries 173 = .ok (.iconst 2, 1) := by decide +kernel
theorem dX8_tries_174 : decode cX8_tries 174 = .ok (.iaload, 1) := by decide +kernel
theorem dX8_tries_175 : decode cX8_tries 175 = .ok (.goto 4, 3) := by decide +kernel
theorem dX8_tries_178 : decode cX8_tries 178 = .ok (.iconst 0, 1) := by decide +kernel
theorem dX8_tries_179 : decode cX8_tries 179 = .ok (.iadd, 1) := by decide +kernel
theorem dX8_tries_180 : decode cX8_tries 180 = .ok (.putfield 114, 3) := by decide +kernel
theorem dX8_tries_183 : decode cX8_tries 183 = .ok (.aload_n 0, 1) := by decide +kernel
theorem dX8_tries_184 : decode cX8_tries 184 = .ok (.dup, 1) := by decide +kernel
theorem dX8_tries_185 : decode cX8_tries 185 = .ok (.getfield 117, 3) := by decide +kernel
theorem dX8_tries_188 : decode cX8_tries 188 = .ok (.iload 9, 2) := by decide +kernel
theorem dX8_tries_190 : decode cX8_tries 190 = .ok (.ior, 1) := by decide +kernel
theorem dX8_tries_191 : decode cX8_tries 191 = .ok (.putfield 117, 3) := by decide +kernel
theorem dX8_tries_194 : decode cX8_tries 194 = .ok (.aload_n 0, 1) := by decide +kernel
theorem dX8_tries_195 : decode cX8_tries 195 = .ok (.aload_n 0, 1) := by decide +kernel
theorem dX8_tries_196 : decode cX8_tries 196 = .ok (.iload 7, 2) := by decide +kernel
theorem dX8_tries_198 : decode cX8_tries 198 = .ok (.invokevirtual 88, 3) := by decide +kernel
theorem dX8_tries_201 : decode cX8_tries 201 = .ok (.aload_n 0, 1) := by decide +kernel
theorem dX8_tries_202 : decode cX8_tries 202 = .ok (.aload_n 0, 1) := by decide +kernel
theorem dX8_tries_203 : decode cX8_tries 203 = .ok (.getfield 111, 3) := by decide +kernel
theorem dX8_tries_206 : decode cX8_tries 206 = .ok (.invokevirtual 88, 3) := by decide +kernel
theorem dX8_tries_209 : decode cX8_tries 209 = .ok (.if_icmp .ne 10, 3) := by decide +kernel
theorem dX8_tries_212 : decode cX8_tries 212 = .ok (.aload_n 0, 1) := by decide +kernel
theorem dX8_tries_213 : decode cX8_tries 213 = .ok (.getfield 117, 3) := by decide +kernel
theorem dX8_tries_216 : decode cX8_tries 216 = .ok (.goto 4, 3) := by decide +kernel
theorem dX8_tries_219 : decode cX8_tries 219 = .ok (.iconst 0, 1) := by decide +kernel
theorem dX8_tries_220 : decode cX8_tries 220 = .ok (.putfield 117, 3) := by decide +kernel
theorem dX8_tries_223 : decode cX8_tries 223 = .ok (.iload 8, 2) := by decide +kernel
theorem dX8_tries_225 : decode cX8_tries 225 = .ok (.ireturn, 1) := by decide +kernel
set_option maxRecDepth 20000 in
theorem ggX8_choicesOf_X8_hasPlate : GoodIn wsX8_choicesOf wsX8_hasPlate := goodIn_r _ [5, 6, 11, 12, 13, 14, 15, 16, 17, 18, 19, 20, 21, 22, 23, 24, 25, 26] (by decide +kernel) (by decide +kernel)
set_option maxRecDepth 20000 in
theorem gX8_choicesOf_X8_hasPlate : GoodIn wsX8_choicesOf (wsV RX8 50 RX8 yX8_hasPlate wsX8_hasPlate) := goodIn_app (goodIn_of _ (by decide +kernel)) ggX8_choicesOf_X8_hasPlate
set_option maxRecDepth 20000 in
theorem ggX8_choicesOf_X8_textOf : GoodIn wsX8_choicesOf wsX8_textOf := goodIn_r _ [10, 6, 11, 12, 13, 14, 15, 16, 17, 18, 19, 20, 21, 22, 23, 24, 25, 26] (by decide +kernel) (by decide +kernel)
set_option maxRecDepth 20000 in
theorem gX8_choicesOf_X8_textOf : GoodIn wsX8_choicesOf (wsV RX8 46 RX8 yX8_textOf wsX8_textOf) := goodIn_app (goodIn_of _ (by decide +kernel)) ggX8_choicesOf_X8_textOf
theorem dX8_choicesOf_0 : decode cX8_choicesOf 0 = .ok (.iconst 2, 1) := by decide +kernel
theorem dX8_choicesOf_1 : decode cX8_choicesOf 1 = .ok (.aload_n 0, 1) := by decide +kernel
theorem dX8_choicesOf_2 : decode cX8_choicesOf 2 = .ok (.iload_n 1, 1) := by decide +kernel
theorem dX8_choicesOf_3 : decode cX8_choicesOf 3 = .ok (.invokevirtual 50, 3) := by decide +kernel
theorem dX8_choicesOf_6 : decode cX8_choicesOf 6 = .ok (.ifCond .eq 13, 3) := by decide +kernel
theorem dX8_choicesOf_9 : decode cX8_choicesOf 9 = .ok (.aload_n 0, 1) := by decide +kernel
theorem dX8_choicesOf_10 : decode cX8_choicesOf 10 = .ok (.iload_n 1, 1) := by decide +kernel
theorem dX8_choicesOf_11 : decode cX8_choicesOf 11 = .ok (.invokevirtual 46, 3) := by decide +kernel
theorem dX8_choicesOf_14 : decode cX8_choicesOf 14 = .ok (.iconst 1, 1) := by decide +kernel
theorem dX8_choicesOf_15 : decode cX8_choicesOf 15 = .ok (.iadd, 1) := by decide +kernel
theorem dX8_choicesOf_16 : decode cX8_choicesOf 16 = .ok (.goto 4, 3) := by decide +kernel
theorem dX8_choicesOf_19 : decode cX8_choicesOf 19 = .ok (.iconst 1, 1) := by decide +kernel
theorem dX8_choicesOf_20 : decode cX8_choicesOf 20 = .ok (.imul, 1) := by decide +kernel
theorem dX8_choicesOf_21 : decode cX8_choicesOf 21 = .ok (.ireturn, 1) := by decide +kernel
set_option maxRecDepth 20000 in
theorem ggX8_costWith_X8_choicesOf : GoodIn wsX8_costWith wsX8_choicesOf := goodIn_r _ [10, 11, 12, 13, 9, 14, 15, 16, 17, 18, 19, 42, 43, 44, 45, 46, 47, 48, 49, 50, 51, 52, 53, 54, 55, 56, 57] (by decide +kernel) (by decide +kernel)
set_option maxRecDepth 20000 in
theorem gX8_costWith_X8_choicesOf : GoodIn wsX8_costWith (wsV RX8 120 RX8 yX8_choicesOf wsX8_choicesOf) := goodIn_app (goodIn_of _ (by decide +kernel)) ggX8_costWith_X8_choicesOf
set_option maxRecDepth 20000 in
theorem ggX8_costWith_X8_tries : GoodIn wsX8_costWith wsX8_tries := goodIn_r _ [23, 3, 15, 1, 4, 24, 25, 26, 9, 27, 16, 17, 18, 19, 11, 12, 13, 14, 28, 29, 30, 31, 32, 33, 34, 35, 36, 37, 38, 42, 43, 44, 45, 46, 47, 48, 49, 50, 51, 52, 53, 54, 55, 56, 57] (by decide +kernel) (by decide +kernel)
set_option maxRecDepth 20000 in
theorem gX8_costWith_X8_tries : GoodIn wsX8_costWith (wsV RX8 123 RX8 yX8_tries wsX8_tries) := goodIn_app (goodIn_of _ (by decide +kernel)) ggX8_costWith_X8_tries
set_option maxRecDepth 20000 in
theorem ggX8_costWith_X8_stateOf : GoodIn wsX8_costWith wsX8_stateOf := goodIn_r _ [41] (by decide +kernel) (by decide +kernel)
set_option maxRecDepth 20000 in
theorem gX8_costWith_X8_stateOf : GoodIn wsX8_costWith (va_wsS RX8 127 yX8_stateOf wsX8_stateOf) := goodIn_app (goodIn_of _ (by decide +kernel)) ggX8_costWith_X8_stateOf
theorem dX8_costWith_0 : decode cX8_costWith 0 = .ok (.aload_n 0, 1) := by decide +kernel
theorem dX8_costWith_1 : decode cX8_costWith 1 = .ok (.iload_n 1, 1) := by decide +kernel
theorem dX8_costWith_2 : decode cX8_costWith 2 = .ok (.invokevirtual 120, 3) := by decide +kernel
theorem dX8_costWith_5 : decode cX8_costWith 5 = .ok (.iconst 2, 1) := by decide +kernel
theorem dX8_costWith_6 : decode cX8_costWith 6 = .ok (.idiv, 1) := by decide +kernel
theorem dX8_costWith_7 : decode cX8_costWith 7 = .ok (.istore 5, 2) := by decide +kernel
theorem dX8_costWith_9 : decode cX8_costWith 9 = .ok (.aload_n 0, 1) := by decide +kernel
theorem dX8_costWith_10 : decode cX8_costWith 10 = .ok (.iload_n 1, 1) := by decide +kernel
theorem dX8_costWith_11 : decode cX8_costWith 11 = .ok (.iload_n 2, 1) := by decide +kernel
theorem dX8_costWith_12 : decode cX8_costWith 12 = .ok (.iload_n 3, 1) := by decide +kernel
theorem dX8_costWith_13 : decode cX8_costWith 13 = .ok (.iload 4, 2) := by decide +kernel
theorem dX8_costWith_15 : decode cX8_costWith 15 = .ok (.iload 5, 2) := by decide +kernel
theorem dX8_costWith_17 : decode cX8_costWith 17 = .ok (.idiv, 1) := by decide +kernel
theorem dX8_costWith_18 : decode cX8_costWith 18 = .ok (.iload 4, 2) := by decide +kernel
theorem dX8_costWith_20 : decode cX8_costWith 20 = .ok (.iload 5, 2) := by decide +kernel
theorem dX8_costWith_22 : decode cX8_costWith 22 = .ok (.irem, 1) := by decide +kernel
theorem dX8_costWith_23 : decode cX8_costWith 23 = .ok (.invokevirtual 123, 3) := by decide +kernel
theorem dX8_costWith_26 : decode cX8_costWith 26 = .ok (.istore 6, 2) := by decide +kernel
theorem dX8_costWith_28 : decode cX8_costWith 28 = .ok (.iload 6, 2) := by decide +kernel
theorem dX8_costWith_30 : decode cX8_costWith 30 = .ok (.ifCond .eq 30, 3) := by decide +kernel
theorem dX8_costWith_33 : decode cX8_costWith 33 = .ok (.aload_n 0, 1) := by decide +kernel
theorem dX8_costWith_34 : decode cX8_costWith 34 = .ok (.getfield 114, 3) := by decide +kernel
theorem dX8_costWith_37 : decode cX8_costWith 37 = .ok (.aload_n 0, 1) := by decide +kernel
theorem dX8_costWith_38 : decode cX8_costWith 38 = .ok (.getfield 25, 3) := by decide +kernel
theorem dX8_costWith_41 : decode cX8_costWith 41 = .ok (.iload_n 1, 1) := by decide +kernel
theorem dX8_costWith_42 : decode cX8_costWith 42 = .ok (.iconst 1, 1) := by decide +kernel
theorem dX8_costWith_43 : decode cX8_costWith 43 = .ok (.iadd, 1) := by decide +kernel
theorem dX8_costWith_44 : decode cX8_costWith 44 = .ok (.aload_n 0, 1) := by decide +kernel
theorem dX8_costWith_45 : decode cX8_costWith 45 = .ok (.getfield 111, 3) := by decide +kernel
theorem dX8_costWith_48 : decode cX8_costWith 48 = .ok (.aload_n 0, 1) := by decide +kernel
theorem dX8_costWith_49 : decode cX8_costWith 49 = .ok (.getfield 117, 3) := by decide +kernel
theorem dX8_costWith_52 : decode cX8_costWith 52 = .ok (.invokestatic 127, 3) := by decide +kernel
theorem dX8_costWith_55 : decode cX8_costWith 55 = .ok (.iaload, 1) := by decide +kernel
theorem dX8_costWith_56 : decode cX8_costWith 56 = .ok (.iadd, 1) := by decide +kernel
theorem dX8_costWith_57 : decode cX8_costWith 57 = .ok (.goto 5, 3) := by decide +kernel
theorem dX8_costWith_60 : decode cX8_costWith 60 = .ok (.ldc 130, 2) := by decide +kernel
theorem dX8_costWith_62 : decode cX8_costWith 62 = .ok (.ireturn, 1) := by decide +kernel
set_option maxRecDepth 20000 in
theorem ggX8_findsLeast_X8_stateOf : GoodIn wsX8_findsLeast wsX8_stateOf := goodIn_r _ [7] (by decide +kernel) (by decide +kernel)
set_option maxRecDepth 20000 in
theorem gX8_findsLeast_X8_stateOf : GoodIn wsX8_findsLeast (va_wsS RX8 127 yX8_stateOf wsX8_stateOf) := goodIn_app (goodIn_of _ (by decide +kernel)) ggX8_findsLeast_X8_stateOf
set_option maxRecDepth 20000 in
theorem ggX8_findsLeast_X8_gatheringsFor : GoodIn wsX8_findsLeast wsX8_gatheringsFor := goodIn_r _ [11, 1, 54, 55, 56, 57, 58, 59, 60, 61, 62, 63, 64, 65, 66, 67, 68, 69] (by decide +kernel) (by decide +kernel)
set_option maxRecDepth 20000 in
theorem gX8_findsLeast_X8_gatheringsFor : GoodIn wsX8_findsLeast (wsV RX8 61 RX8 yX8_gatheringsFor wsX8_gatheringsFor) := goodIn_app (goodIn_of _ (by decide +kernel)) ggX8_findsLeast_X8_gatheringsFor
set_option maxRecDepth 20000 in
theorem ggX8_findsLeast_X8_costOf : GoodIn wsX8_findsLeast wsX8_costOf := goodIn_r _ [15, 1, 54, 55, 56, 57, 58, 59, 60, 61, 62, 63, 64, 65, 66, 67, 68, 69] (by decide +kernel) (by decide +kernel)
set_option maxRecDepth 20000 in
theorem gX8_findsLeast_X8_costOf : GoodIn wsX8_findsLeast (wsV RX8 107 RX8 yX8_costOf wsX8_costOf) := goodIn_app (goodIn_of _ (by decide +kernel)) ggX8_findsLeast_X8_costOf
set_option maxRecDepth 20000 in
theorem ggX8_findsLeast_X8_choicesOf : GoodIn wsX8_findsLeast wsX8_choicesOf := goodIn_r _ [19, 20, 21, 22, 6, 23, 1, 24, 25, 26, 27, 54, 55, 56, 57, 58, 59, 60, 61, 62, 63, 64, 65, 66, 67, 68, 69] (by decide +kernel) (by decide +kernel)
set_option maxRecDepth 20000 in
theorem gX8_findsLeast_X8_choicesOf : GoodIn wsX8_findsLeast (wsV RX8 120 RX8 yX8_choicesOf wsX8_choicesOf) := goodIn_app (goodIn_of _ (by decide +kernel)) ggX8_findsLeast_X8_choicesOf
set_option maxRecDepth 20000 in
theorem ggX8_findsLeast_X8_costWith : GoodIn wsX8_findsLeast wsX8_costWith := goodIn_r _ [31, 32, 2, 33, 34, 3, 16, 17, 18, 6, 19, 20, 21, 22, 23, 1, 24, 25, 26, 27, 35, 36, 37, 38, 39, 40, 41, 42, 43, 44, 45, 46, 47, 48, 49, 50, 51, 52, 53, 4, 5, 7, 54, 55, 56, 57, 58, 59, 60, 61, 62, 63, 64, 65, 66, 67, 68, 69] (by decide +kernel) (by decide +kernel)
set_option maxRecDepth 20000 in
theorem gX8_findsLeast_X8_costWith : GoodIn wsX8_findsLeast (wsV RX8 131 RX8 yX8_costWith wsX8_costWith) := goodIn_app (goodIn_of _ (by decide +kernel)) ggX8_findsLeast_X8_costWith
theorem dX8_findsLeast_0 : decode cX8_findsLeast 0 = .ok (.aload_n 0, 1) := by decide +kernel
theorem dX8_findsLeast_1 : decode cX8_findsLeast 1 = .ok (.getfield 7, 3) := by decide +kernel
theorem dX8_findsLeast_4 : decode cX8_findsLeast 4 = .ok (.iconst 5, 1) := by decide +kernel
theorem dX8_findsLeast_5 : decode cX8_findsLeast 5 = .ok (.iaload, 1) := by decide +kernel
theorem dX8_findsLeast_6 : decode cX8_findsLeast 6 = .ok (.istore_n 1, 1) := by decide +kernel
theorem dX8_findsLeast_7 : decode cX8_findsLeast 7 = .ok (.iconst 0, 1) := by decide +kernel
theorem dX8_findsLeast_8 : decode cX8_findsLeast 8 = .ok (.istore_n 2, 1) := by decide +kernel
theorem dX8_findsLeast_9 : decode cX8_findsLeast 9 = .ok (.iload_n 2, 1) := by decide +kernel
theorem dX8_findsLeast_10 : decode cX8_findsLeast 10 = .ok (.bipush 64, 2) := by decide +kernel
theorem dX8_findsLeast_12 : decode cX8_findsLeast 12 = .ok (.if_icmp .ge 44, 3) := by decide +kernel
theorem dX8_findsLeast_15 : decode cX8_findsLeast 15 = .ok (.iconst 0, 1) := by decide +kernel
theorem dX8_findsLeast_16 : decode cX8_findsLeast 16 = .ok (.istore_n 3, 1) := by decide +kernel
theorem dX8_findsLeast_17 : decode cX8_findsLeast 17 = .ok (.iload_n 3, 1) := by decide +kernel
theorem dX8_findsLeast_18 : decode cX8_findsLeast 18 = .ok (.iconst 4, 1) := by decide +kernel
theorem dX8_findsLeast_19 : decode cX8_findsLeast 19 = .ok (.if_icmp .ge 31, 3) := by decide +kernel
theorem dX8_findsLeast_22 : decode cX8_findsLeast 22 = .ok (.aload_n 0, 1) := by decide +kernel
theorem dX8_findsLeast_23 : decode cX8_findsLeast 23 = .ok (.getfield 25, 3) := by decide +kernel
theorem dX8_findsLeast_26 : decode cX8_findsLeast 26 = .ok (.iload_n 1, 1) := by decide +kernel
theorem dX8_findsLeast_27 : decode cX8_findsLeast 27 = .ok (.iload_n 2, 1) := by decide +kernel
theorem dX8_findsLeast_28 : decode cX8_findsLeast 28 = .ok (.iload_n 3, 1) := by decide +kernel
theorem dX8_findsLeast_29 : decode cX8_findsLeast 29 = .ok (.invokestatic 127, 3) := by decide +kernel
theorem dX8_findsLeast_32 : decode cX8_findsLeast 32 = .ok (.aload_n 0, 1) := by decide +kernel
theorem dX8_findsLeast_33 : decode cX8_findsLeast 33 = .ok (.aload_n 0, 1) := by decide +kernel
theorem dX8_findsLeast_34 : decode cX8_findsLeast 34 = .ok (.iload_n 2, 1) := by decide +kernel
theorem dX8_findsLeast_35 : decode cX8_findsLeast 35 = .ok (.invokevirtual 61, 3) := by decide +kernel
theorem dX8_findsLeast_38 : decode cX8_findsLeast 38 = .ok (.iconst 0, 1) := by decide +kernel
theorem dX8_findsLeast_39 : decode cX8_findsLeast 39 = .ok (.iconst 0, 1) := by decide +kernel
theorem dX8_findsLeast_40 : decode cX8_findsLeast 40 = .ok (.invokevirtual 107, 3) := by decide +kernel
theorem dX8_findsLeast_43 : decode cX8_findsLeast 43 = .ok (.iastore, 1) := by decide +kernel
theorem dX8_findsLeast_44 : decode cX8_findsLeast 44 = .ok (.iinc 3 1, 3) := by decide +kernel
theorem dX8_findsLeast_47 : decode cX8_findsLeast 47 = .ok (.goto (-30), 3) := by decide +kernel
theorem dX8_findsLeast_50 : decode cX8_findsLeast 50 = .ok (.iinc 2 1, 3) := by decide +kernel
theorem dX8_findsLeast_53 : decode cX8_findsLeast 53 = .ok (.goto (-44), 3) := by decide +kernel
theorem dX8_findsLeast_56 : decode cX8_findsLeast 56 = .ok (.iload_n 1, 1) := by decide +kernel
theorem dX8_findsLeast_57 : decode cX8_findsLeast 57 = .ok (.iconst 1, 1) := by decide +kernel
theorem dX8_findsLeast_58 : decode cX8_findsLeast 58 = .ok (.isub, 1) := by decide +kernel
theorem dX8_findsLeast_59 : decode cX8_findsLeast 59 = .ok (.istore_n 2, 1) := by decide +kernel
theorem dX8_findsLeast_60 : decode cX8_findsLeast 60 = .ok (.iload_n 2, 1) := by decide +kernel
theorem dX8_findsLeast_61 : decode cX8_findsLeast 61 = .ok (.ifCond .lt 104, 3) := by decide +kernel
theorem dX8_findsLeast_64 : decode cX8_findsLeast 64 = .ok (.iconst 0, 1) := by decide +kernel
theorem dX8_findsLeast_65 : decode cX8_findsLeast 65 = .ok (.istore_n 3, 1) := by decide +kernel
theorem dX8_findsLeast_66 : decode cX8_findsLeast 66 = .ok (.iload_n 3, 1) := by decide +kernel
theorem dX8_findsLeast_67 : decode cX8_findsLeast 67 = .ok (.iconst 5, 1) := by decide +kernel
theorem dX8_findsLeast_68 : decode cX8_findsLeast 68 = .ok (.iload_n 2, 1) := by decide +kernel
theorem dX8_findsLeast_69 : decode cX8_findsLeast 69 = .ok (.imul, 1) := by decide +kernel
theorem dX8_findsLeast_70 : decode cX8_findsLeast 70 = .ok (.if_icmp .gt 89, 3) := by decide +kernel
theorem dX8_findsLeast_73 : decode cX8_findsLeast 73 = .ok (.iconst 0, 1) := by decide +kernel
theorem dX8_findsLeast_74 : decode cX8_findsLeast 74 = .ok (.istore 4, 2) := by decide +kernel
theorem dX8_findsLeast_76 : decode cX8_findsLeast 76 = .ok (.iload 4, 2) := by decide +kernel
theorem dX8_findsLeast_78 : decode cX8_findsLeast 78 = .ok (.iconst 4, 1) := by decide +kernel
theorem dX8_findsLeast_79 : decode cX8_findsLeast 79 = .ok (.if_icmp .ge 74, 3) := by decide +kernel
theorem dX8_findsLeast_82 : decode cX8_findsLeast 82 = .ok (.ldc 130, 2) := by decide +kernel
theorem dX8_findsLeast_84 : decode cX8_findsLeast 84 = .ok (.istore 5, 2) := by decide +kernel
theorem dX8_findsLeast_86 : decode cX8_findsLeast 86 = .ok (.iconst 0, 1) := by decide +kernel
theorem dX8_findsLeast_87 : decode cX8_findsLeast 87 = .ok (.istore 6, 2) := by decide +kernel
theorem dX8_findsLeast_89 : decode cX8_findsLeast 89 = .ok (.iload 6, 2) := by decide +kernel
theorem dX8_findsLeast_91 : decode cX8_findsLeast 91 = .ok (.aload_n 0, 1) := by decide +kernel
theorem dX8_findsLeast_92 : decode cX8_findsLeast 92 = .ok (.iload_n 2, 1) := by decide +kernel
theorem dX8_findsLeast_93 : decode cX8_findsLeast 93 = .ok (.invokevirtual 120, 3) := by decide +kernel
theorem dX8_findsLeast_96 : decode cX8_findsLeast 96 = .ok (.if_icmp .ge 37, 3) := by decide +kernel
theorem dX8_findsLeast_99 : decode cX8_findsLeast 99 = .ok (.aload_n 0, 1) := by decide +kernel
theorem dX8_findsLeast_100 : decode cX8_findsLeast 100 = .ok (.iload_n 2, 1) := by decide +kernel
theorem dX8_findsLeast_101 : decode cX8_findsLeast 101 = .ok (.iload_n 3, 1) := by decide +kernel
theorem dX8_findsLeast_102 : decode cX8_findsLeast 102 = .ok (.iload 4, 2) := by decide +kernel
theorem dX8_findsLeast_104 : decode cX8_findsLeast 104 = .ok (.iload 6, 2) := by decide +kernel
theorem dX8_findsLeast_106 : decode cX8_findsLeast 106 = .ok (.invokevirtual 131, 3) := by decide +kernel
theorem dX8_findsLeast_109 : decode cX8_findsLeast 109 = .ok (.istore 7, 2) := by decide +kernel
theorem dX8_findsLeast_111 : decode cX8_findsLeast 111 = .ok (.iload 7, 2) := by decide +kernel
theorem dX8_findsLeast_113 : decode cX8_findsLeast 113 = .ok (.iload 5, 2) := by decide +kernel
theorem dX8_findsLeast_115 : decode cX8_findsLeast 115 = .ok (.if_icmp .ge 8, 3) := by decide +kernel
theorem dX8_findsLeast_118 : decode cX8_findsLeast 118 = .ok (.iload 7, 2) := by decide +kernel
theorem dX8_findsLeast_120 : decode cX8_findsLeast 120 = .ok (.goto 5, 3) := by decide +kernel
theorem dX8_findsLeast_123 : decode cX8_findsLeast 123 = .ok (.iload 5, 2) := by decide +kernel
theorem dX8_findsLeast_125 : decode cX8_findsLeast 125 = .ok (.istore 5, 2) := by decide +kernel
theorem dX8_findsLeast_127 : decode cX8_findsLeast 127 = .ok (.iinc 6 1, 3) := by decide +kernel
theorem dX8_findsLeast_130 : decode cX8_findsLeast 130 = .ok (.goto (-41), 3) := by decide +kernel
theorem dX8_findsLeast_133 : decode cX8_findsLeast 133 = .ok (.aload_n 0, 1) := by decide +kernel
theorem dX8_findsLeast_134 : decode cX8_findsLeast 134 = .ok (.getfield 25, 3) := by decide +kernel
theorem dX8_findsLeast_137 : decode cX8_findsLeast 137 = .ok (.iload_n 2, 1) := by decide +kernel
theorem dX8_findsLeast_138 : decode cX8_findsLeast 138 = .ok (.iload_n 3, 1) := by decide +kernel
theorem dX8_findsLeast_139 : decode cX8_findsLeast 139 = .ok (.iload 4, 2) := by decide +kernel
theorem dX8_findsLeast_141 : decode cX8_findsLeast 141 = .ok (.invokestatic 127, 3) := by decide +kernel
theorem dX8_findsLeast_144 : decode cX8_findsLeast 144 = .ok (.iload 5, 2) := by decide +kernel
theorem dX8_findsLeast_146 : decode cX8_findsLeast 146 = .ok (.iastore, 1) := by decide +kernel
theorem dX8_findsLeast_147 : decode cX8_findsLeast 147 = .ok (.iinc 4 1, 3) := by decide +kernel
theorem dX8_findsLeast_150 : decode cX8_findsLeast 150 = .ok (.goto (-74), 3) := by decide +kernel
theorem dX8_findsLeast_153 : decode cX8_findsLeast 153 = .ok (.iinc 3 1, 3) := by decide +kernel
theorem dX8_findsLeast_156 : decode cX8_findsLeast 156 = .ok (.goto (-90), 3) := by decide +kernel
theorem dX8_findsLeast_159 : decode cX8_findsLeast 159 = .ok (.iinc 2 (-1), 3) := by decide +kernel
theorem dX8_findsLeast_162 : decode cX8_findsLeast 162 = .ok (.goto (-102), 3) := by decide +kernel
theorem dX8_findsLeast_165 : decode cX8_findsLeast 165 = .ok (.return_, 1) := by decide +kernel
set_option maxRecDepth 20000 in
theorem ggX8_leastOfAll_X8_findsLeast : GoodIn wsX8_leastOfAll wsX8_findsLeast := goodIn_r _ [6, 7, 1, 8, 9, 10, 5, 11, 12, 13, 14, 15, 16, 17, 18, 19, 20, 21, 22, 23, 24, 25, 26, 27, 28, 29, 30, 31, 32, 33, 34, 35, 36, 37, 38, 39, 40, 41, 42, 43, 44, 45, 46, 47, 48, 49, 50, 51, 52, 53, 54, 55, 56, 57, 58, 59, 60, 61, 62, 63, 64, 65, 66, 67, 68, 69, 70, 71, 72, 73] (by decide +kernel) (by decide +kernel)
set_option maxRecDepth 20000 in
theorem gX8_leastOfAll_X8_findsLeast : GoodIn wsX8_leastOfAll (wsV RX8 135 RX8 yX8_findsLeast wsX8_findsLeast) := goodIn_app (goodIn_of _ (by decide +kernel)) ggX8_leastOfAll_X8_findsLeast
theorem dX8_leastOfAll_0 : decode cX8_leastOfAll 0 = .ok (.aload_n 0, 1) := by decide +kernel
theorem dX8_leastOfAll_1 : decode cX8_leastOfAll 1 = .ok (.invokevirtual 135, 3) := by decide +kernel
theorem dX8_leastOfAll_4 : decode cX8_leastOfAll 4 = .ok (.aload_n 0, 1) := by decide +kernel
theorem dX8_leastOfAll_5 : decode cX8_leastOfAll 5 = .ok (.getfield 25, 3) := by decide +kernel
theorem dX8_leastOfAll_8 : decode cX8_leastOfAll 8 = .ok (.iconst 0, 1) := by decide +kernel
theorem dX8_leastOfAll_9 : decode cX8_leastOfAll 9 = .ok (.iaload, 1) := by decide +kernel
theorem dX8_leastOfAll_10 : decode cX8_leastOfAll 10 = .ok (.ireturn, 1) := by decide +kernel
set_option maxRecDepth 20000 in
theorem ggX8_chooses_X8_stateOf : GoodIn wsX8_chooses wsX8_stateOf := goodIn_r _ [8] (by decide +kernel) (by decide +kernel)
set_option maxRecDepth 20000 in
theorem gX8_chooses_X8_stateOf : GoodIn wsX8_chooses (va_wsS RX8 127 yX8_stateOf wsX8_stateOf) := goodIn_app (goodIn_of _ (by decide +kernel)) ggX8_chooses_X8_stateOf
set_option maxRecDepth 20000 in
theorem ggX8_chooses_X8_costWith : GoodIn wsX8_chooses wsX8_costWith := goodIn_r _ [12, 13, 2, 3, 4, 14, 15, 16, 17, 7, 18, 19, 20, 21, 22, 1, 23, 24, 25, 26, 27, 28, 29, 30, 31, 32, 33, 34, 35, 36, 37, 38, 39, 40, 41, 42, 43, 44, 45, 5, 6, 8, 46, 47, 48, 49, 50, 51, 52, 53, 54, 55, 56, 57, 58, 59, 60, 61] (by decide +kernel) (by decide +kernel)
set_option maxRecDepth 20000 in
theorem gX8_chooses_X8_costWith : GoodIn wsX8_chooses (wsV RX8 131 RX8 yX8_costWith wsX8_costWith) := goodIn_app (goodIn_of _ (by decide +kernel)) ggX8_chooses_X8_costWith
set_option maxRecDepth 20000 in
theorem ggX8_chooses_X8_choicesOf : GoodIn wsX8_chooses wsX8_choicesOf := goodIn_r _ [18, 19, 20, 21, 7, 22, 1, 23, 24, 25, 26, 46, 47, 48, 49, 50, 51, 52, 53, 54, 55, 56, 57, 58, 59, 60, 61] (by decide +kernel) (by decide +kernel)
set_option maxRecDepth 20000 in
theorem gX8_chooses_X8_choicesOf : GoodIn wsX8_chooses (wsV RX8 120 RX8 yX8_choicesOf wsX8_choicesOf) := goodIn_app (goodIn_of _ (by decide +kernel)) ggX8_chooses_X8_choicesOf
theorem dX8_chooses_0 : decode cX8_chooses 0 = .ok (.iconst 0, 1) := by decide +kernel
theorem dX8_chooses_1 : decode cX8_chooses 1 = .ok (.istore_n 1, 1) := by decide +kernel
theorem dX8_chooses_2 : decode cX8_chooses 2 = .ok (.iconst 0, 1) := by decide +kernel
theorem dX8_chooses_3 : decode cX8_chooses 3 = .ok (.istore_n 2, 1) := by decide +kernel
theorem dX8_chooses_4 : decode cX8_chooses 4 = .ok (.iconst 0, 1) := by decide +kernel
theorem dX8_chooses_5 : decode cX8_chooses 5 = .ok (.istore_n 3, 1) := by decide +kernel
theorem dX8_chooses_6 : decode cX8_chooses 6 = .ok (.iload_n 3, 1) := by decide +kernel
theorem dX8_chooses_7 : decode cX8_chooses 7 = .ok (.aload_n 0, 1) := by decide +kernel
theorem dX8_chooses_8 : decode cX8_chooses 8 = .ok (.getfield 7, 3) := by decide +kernel
theorem dX8_chooses_11 : decode cX8_chooses 11 = .ok (.iconst 5, 1) := by decide +kernel
theorem dX8_chooses_12 : decode cX8_chooses 12 = .ok (.iaload, 1) := by decide +kernel
theorem dX8_chooses_13 : decode cX8_chooses 13 = .ok (.if_icmp .ge 92, 3) := by decide +kernel
theorem dX8_chooses_16 : decode cX8_chooses 16 = .ok (.aload_n 0, 1) := by decide +kernel
theorem dX8_chooses_17 : decode cX8_chooses 17 = .ok (.getfield 25, 3) := by decide +kernel
theorem dX8_chooses_20 : decode cX8_chooses 20 = .ok (.iload_n 3, 1) := by decide +kernel
theorem dX8_chooses_21 : decode cX8_chooses 21 = .ok (.iload_n 1, 1) := by decide +kernel
theorem dX8_chooses_22 : decode cX8_chooses 22 = .ok (.iload_n 2, 1) := by decide +kernel
theorem dX8_chooses_23 : decode cX8_chooses 23 = .ok (.invokestatic 127, 3) := by decide +kernel
theorem dX8_chooses_26 : decode cX8_chooses 26 = .ok (.iaload, 1) := by decide +kernel
theorem dX8_chooses_27 : decode cX8_chooses 27 = .ok (.istore 4, 2) := by decide +kernel
theorem dX8_chooses_29 : decode cX8_chooses 29 = .ok (.iconst 0, 1) := by decide +kernel
theorem dX8_chooses_30 : decode cX8_chooses 30 = .ok (.istore 5, 2) := by decide +kernel
theorem dX8_chooses_32 : decode cX8_chooses 32 = .ok (.aload_n 0, 1) := by decide +kernel
theorem dX8_chooses_33 : decode cX8_chooses 33 = .ok (.iload_n 3, 1) := by decide +kernel
theorem dX8_chooses_34 : decode cX8_chooses 34 = .ok (.iload_n 1, 1) := by decide +kernel
theorem dX8_chooses_35 : decode cX8_chooses 35 = .ok (.iload_n 2, 1) := by decide +kernel
theorem dX8_chooses_36 : decode cX8_chooses 36 = .ok (.iload 5, 2) := by decide +kernel
theorem dX8_chooses_38 : decode cX8_chooses 38 = .ok (.invokevirtual 131, 3) := by decide +kernel
theorem dX8_chooses_41 : decode cX8_chooses 41 = .ok (.iload 4, 2) := by decide +kernel
theorem dX8_chooses_43 : decode cX8_chooses 43 = .ok (.if_icmp .le 9, 3) := by decide +kernel
theorem dX8_chooses_46 : decode cX8_chooses 46 = .ok (.iinc 5 1, 3) := by decide +kernel
theorem dX8_chooses_49 : decode cX8_chooses 49 = .ok (.goto (-17), 3) := by decide +kernel
theorem dX8_chooses_52 : decode cX8_chooses 52 = .ok (.aload_n 0, 1) := by decide +kernel
theorem dX8_chooses_53 : decode cX8_chooses 53 = .ok (.iload_n 3, 1) := by decide +kernel
theorem dX8_chooses_54 : decode cX8_chooses 54 = .ok (.invokevirtual 120, 3) := by decide +kernel
theorem dX8_chooses_57 : decode cX8_chooses 57 = .ok (.iconst 2, 1) := by decide +kernel
theorem dX8_chooses_58 : decode cX8_chooses 58 = .ok (.idiv, 1) := by decide +kernel
theorem dX8_chooses_59 : decode cX8_chooses 59 = .ok (.istore 6, 2) := by decide +kernel
theorem dX8_chooses_61 : decode cX8_chooses 61 = .ok (.aload_n 0, 1) := by decide +kernel
theorem dX8_chooses_62 : decode cX8_chooses 62 = .ok (.getfield 7, 3) := by decide +kernel
theorem dX8_chooses_65 : decode cX8_chooses 65 = .ok (.bipush 30, 2) := by decide +kernel
theorem dX8_chooses_67 : decode cX8_chooses 67 = .ok (.iload_n 3, 1) := by decide +kernel
theorem dX8_chooses_68 : decode cX8_chooses 68 = .ok (.iadd, 1) := by decide +kernel
theorem dX8_chooses_69 : decode cX8_chooses 69 = .ok (.iload 5, 2) := by decide +kernel
theorem dX8_chooses_71 : decode cX8_chooses 71 = .ok (.iload 6, 2) := by decide +kernel
theorem dX8_chooses_73 : decode cX8_chooses 73 = .ok (.idiv, 1) := by decide +kernel
theorem dX8_chooses_74 : decode cX8_chooses 74 = .ok (.iastore, 1) := by decide +kernel
theorem dX8_chooses_75 : decode cX8_chooses 75 = .ok (.aload_n 0, 1) := by decide +kernel
theorem dX8_chooses_76 : decode cX8_chooses 76 = .ok (.getfield 7, 3) := by decide +kernel
theorem dX8_chooses_79 : decode cX8_chooses 79 = .ok (.bipush 42, 2) := by decide +kernel
theorem dX8_chooses_81 : decode cX8_chooses 81 = .ok (.iload_n 3, 1) := by decide +kernel
theorem dX8_chooses_82 : decode cX8_chooses 82 = .ok (.iadd, 1) := by decide +kernel
theorem dX8_chooses_83 : decode cX8_chooses 83 = .ok (.iload 5, 2) := by decide +kernel
theorem dX8_chooses_85 : decode cX8_chooses 85 = .ok (.iload 6, 2) := by decide +kernel
theorem dX8_chooses_87 : decode cX8_chooses 87 = .ok (.irem, 1) := by decide +kernel
theorem dX8_chooses_88 : decode cX8_chooses 88 = .ok (.iastore, 1) := by decide +kernel
theorem dX8_chooses_89 : decode cX8_chooses 89 = .ok (.aload_n 0, 1) := by decide +kernel
theorem dX8_chooses_90 : decode cX8_chooses 90 = .ok (.getfield 111, 3) := by decide +kernel
theorem dX8_chooses_93 : decode cX8_chooses 93 = .ok (.istore_n 1, 1) := by decide +kernel
theorem dX8_chooses_94 : decode cX8_chooses 94 = .ok (.aload_n 0, 1) := by decide +kernel
theorem dX8_chooses_95 : decode cX8_chooses 95 = .ok (.getfield 117, 3) := by decide +kernel
theorem dX8_chooses_98 : decode cX8_chooses 98 = .ok (.istore_n 2, 1) := by decide +kernel
theorem dX8_chooses_99 : decode cX8_chooses 99 = .ok (.iinc 3 1, 3) := by decide +kernel
theorem dX8_chooses_102 : decode cX8_chooses 102 = .ok (.goto (-96), 3) := by decide +kernel
theorem dX8_chooses_105 : decode cX8_chooses 105 = .ok (.return_, 1) := by decide +kernel
theorem dX8_puts_0 : decode cX8_puts 0 = .ok (.aload_n 0, 1) := by decide +kernel
theorem dX8_puts_1 : decode cX8_puts 1 = .ok (.getfield 7, 3) := by decide +kernel
theorem dX8_puts_4 : decode cX8_puts 4 = .ok (.bipush 6, 2) := by decide +kernel
theorem dX8_puts_6 : decode cX8_puts 6 = .ok (.iload_n 1, 1) := by decide +kernel
theorem dX8_puts_7 : decode cX8_puts 7 = .ok (.iadd, 1) := by decide +kernel
theorem dX8_puts_8 : decode cX8_puts 8 = .ok (.iload_n 2, 1) := by decide +kernel
theorem dX8_puts_9 : decode cX8_puts 9 = .ok (.iastore, 1) := by decide +kernel
theorem dX8_puts_10 : decode cX8_puts 10 = .ok (.aload_n 0, 1) := by decide +kernel
theorem dX8_puts_11 : decode cX8_puts 11 = .ok (.getfield 7, 3) := by decide +kernel
theorem dX8_puts_14 : decode cX8_puts 14 = .ok (.bipush 18, 2) := by decide +kernel
theorem dX8_puts_16 : decode cX8_puts 16 = .ok (.iload_n 1, 1) := by decide +kernel
theorem dX8_puts_17 : decode cX8_puts 17 = .ok (.iadd, 1) := by decide +kernel
theorem dX8_puts_18 : decode cX8_puts 18 = .ok (.iload_n 3, 1) := by decide +kernel
theorem dX8_puts_19 : decode cX8_puts 19 = .ok (.iastore, 1) := by decide +kernel
theorem dX8_puts_20 : decode cX8_puts 20 = .ok (.aload_n 0, 1) := by decide +kernel
theorem dX8_puts_21 : decode cX8_puts 21 = .ok (.getfield 7, 3) := by decide +kernel
theorem dX8_puts_24 : decode cX8_puts 24 = .ok (.bipush 30, 2) := by decide +kernel
theorem dX8_puts_26 : decode cX8_puts 26 = .ok (.iload_n 1, 1) := by decide +kernel
theorem dX8_puts_27 : decode cX8_puts 27 = .ok (.iadd, 1) := by decide +kernel
theorem dX8_puts_28 : decode cX8_puts 28 = .ok (.iload 4, 2) := by decide +kernel
theorem dX8_puts_30 : decode cX8_puts 30 = .ok (.iastore, 1) := by decide +kernel
theorem dX8_puts_31 : decode cX8_puts 31 = .ok (.aload_n 0, 1) := by decide +kernel
theorem dX8_puts_32 : decode cX8_puts 32 = .ok (.getfield 7, 3) := by decide +kernel
theorem dX8_puts_35 : decode cX8_puts 35 = .ok (.bipush 42, 2) := by decide +kernel
theorem dX8_puts_37 : decode cX8_puts 37 = .ok (.iload_n 1, 1) := by decide +kernel
theorem dX8_puts_38 : decode cX8_puts 38 = .ok (.iadd, 1) := by decide +kernel
theorem dX8_puts_39 : decode cX8_puts 39 = .ok (.iload 5, 2) := by decide +kernel
theorem dX8_puts_41 : decode cX8_puts 41 = .ok (.iastore, 1) := by decide +kernel
theorem dX8_puts_42 : decode cX8_puts 42 = .ok (.return_, 1) := by decide +kernel
set_option maxRecDepth 20000 in
theorem ggX8_isText_X8_in : GoodIn wsX8_isText wsX8_in := goodIn_r _ [5] (by decide +kernel) (by decide +kernel)
set_option maxRecDepth 20000 in
theorem gX8_isText_X8_in : GoodIn wsX8_isText (va_wsS RX8 42 yX8_in wsX8_in) := goodIn_app (goodIn_of _ (by decide +kernel)) ggX8_isText_X8_in
theorem dX8_isText_0 : decode cX8_isText 0 = .ok (.iload_n 0, 1) := by decide +kernel
theorem dX8_isText_1 : decode cX8_isText 1 = .ok (.i2l, 1) := by decide +kernel
theorem dX8_isText_2 : decode cX8_isText 2 = .ok (.lconst 1, 1) := by decide +kernel
theorem dX8_isText_3 : decode cX8_isText 3 = .ok (.ldc2_w 138, 3) := by decide +kernel
theorem dX8_isText_6 : decode cX8_isText 6 = .ok (.invokestatic 42, 3) := by decide +kernel
theorem dX8_isText_9 : decode cX8_isText 9 = .ok (.ireturn, 1) := by decide +kernel
set_option maxRecDepth 20000 in
theorem ggX8_add_X8_isText : GoodIn wsX8_add wsX8_isText := goodIn_r _ [6, 7, 8, 9, 5, 10] (by decide +kernel) (by decide +kernel)
set_option maxRecDepth 20000 in
theorem gX8_add_X8_isText : GoodIn wsX8_add (va_wsS RX8 140 yX8_isText wsX8_isText) := goodIn_app (goodIn_of _ (by decide +kernel)) ggX8_add_X8_isText
set_option maxRecDepth 20000 in
theorem ggX8_add_X8_in : GoodIn wsX8_add wsX8_in := goodIn_r _ [10] (by decide +kernel) (by decide +kernel)
set_option maxRecDepth 20000 in
theorem gX8_add_X8_in : GoodIn wsX8_add (va_wsS RX8 42 yX8_in wsX8_in) := goodIn_app (goodIn_of _ (by decide +kernel)) ggX8_add_X8_in
set_option maxRecDepth 20000 in
theorem ggX8_add_X8_remember : GoodIn wsX8_add wsX8_remember := goodIn_r _ [14, 2, 15, 16, 17, 5, 18, 29, 30, 31, 32, 33, 34, 35, 36, 37, 38, 39, 40, 41, 42, 43, 44] (by decide +kernel) (by decide +kernel)
set_option maxRecDepth 20000 in
theorem gX8_add_X8_remember : GoodIn wsX8_add (wsV RX8 145 RX8 yX8_remember wsX8_remember) := goodIn_app (goodIn_of _ (by decide +kernel)) ggX8_add_X8_remember
set_option maxRecDepth 20000 in
theorem ggX8_add_X8_puts : GoodIn wsX8_add wsX8_puts := goodIn_r _ [22, 2, 29, 30, 31, 32, 33, 34, 35, 36, 37, 38, 39, 40, 41, 42, 43, 44] (by decide +kernel) (by decide +kernel)
set_option maxRecDepth 20000 in
theorem gX8_add_X8_puts : GoodIn wsX8_add (wsV RX8 148 RX8 yX8_puts wsX8_puts) := goodIn_app (goodIn_of _ (by decide +kernel)) ggX8_add_X8_puts
set_option maxRecDepth 20000 in
theorem ggX8_add_X8_acted : GoodIn wsX8_add wsX8_acted := goodIn_r _ [26, 27, 28, 15, 29, 30, 31, 32, 33, 34, 35, 36, 37, 38, 39, 40, 41, 42, 43, 44] (by decide +kernel) (by decide +kernel)
set_option maxRecDepth 20000 in
theorem gX8_add_X8_acted : GoodIn wsX8_add (wsV RX8 152 RX8 yX8_acted wsX8_acted) := goodIn_app (goodIn_of _ (by decide +kernel)) ggX8_add_X8_acted
theorem dX8_add_0 : decode cX8_add 0 = .ok (.iload_n 1, 1) := by decide +kernel
theorem dX8_add_1 : decode cX8_add 1 = .ok (.invokestatic 140, 3) := by decide +kernel
theorem dX8_add_4 : decode cX8_add 4 = .ok (.ifCond .eq 15, 3) := by decide +kernel
theorem dX8_add_7 : decode cX8_add 7 = .ok (.iload_n 2, 1) := by decide +kernel
theorem dX8_add_8 : decode cX8_add 8 = .ok (.i2l, 1) := by decide +kernel
theorem dX8_add_9 : decode cX8_add 9 = .ok (.lconst 0, 1) := by decide +kernel
theorem dX8_add_10 : decode cX8_add 10 = .ok (.ldc2_w 143, 3) := by decide +kernel
theorem dX8_add_13 : decode cX8_add 13 = .ok (.invokestatic 42, 3) := by decide +kernel
theorem dX8_add_16 : decode cX8_add 16 = .ok (.ifCond .ne 6, 3) := by decide +kernel
theorem dX8_add_19 : decode cX8_add 19 = .ok (.bipush (-2), 2) := by decide +kernel
theorem dX8_add_21 : decode cX8_add 21 = .ok (.ireturn, 1) := by decide +kernel
theorem dX8_add_22 : decode cX8_add 22 = .ok (.aload_n 0, 1) := by decide +kernel
theorem dX8_add_23 : decode cX8_add 23 = .ok (.getfield 7, 3) := by decide +kernel
theorem dX8_add_26 : decode cX8_add 26 = .ok (.iconst 5, 1) := by decide +kernel
theorem dX8_add_27 : decode cX8_add 27 = .ok (.iaload, 1) := by decide +kernel
theorem dX8_add_28 : decode cX8_add 28 = .ok (.bipush 12, 2) := by decide +kernel
theorem dX8_add_30 : decode cX8_add 30 = .ok (.if_icmp .ne 6, 3) := by decide +kernel
theorem dX8_add_33 : decode cX8_add 33 = .ok (.bipush (-3), 2) := by decide +kernel
theorem dX8_add_35 : decode cX8_add 35 = .ok (.ireturn, 1) := by decide +kernel
theorem dX8_add_36 : decode cX8_add 36 = .ok (.aload_n 0, 1) := by decide +kernel
theorem dX8_add_37 : decode cX8_add 37 = .ok (.invokevirtual 145, 3) := by decide +kernel
theorem dX8_add_40 : decode cX8_add 40 = .ok (.aload_n 0, 1) := by decide +kernel
theorem dX8_add_41 : decode cX8_add 41 = .ok (.aload_n 0, 1) := by decide +kernel
theorem dX8_add_42 : decode cX8_add 42 = .ok (.getfield 7, 3) := by decide +kernel
theorem dX8_add_45 : decode cX8_add 45 = .ok (.iconst 5, 1) := by decide +kernel
theorem dX8_add_46 : decode cX8_add 46 = .ok (.iaload, 1) := by decide +kernel
theorem dX8_add_47 : decode cX8_add 47 = .ok (.iload_n 1, 1) := by decide +kernel
theorem dX8_add_48 : decode cX8_add 48 = .ok (.iload_n 2, 1) := by decide +kernel
theorem dX8_add_49 : decode cX8_add 49 = .ok (.iconst 0, 1) := by decide +kernel
theorem dX8_add_50 : decode cX8_add 50 = .ok (.iconst 0, 1) := by decide +kernel
theorem dX8_add_51 : decode cX8_add 51 = .ok (.invokevirtual 148, 3) := by decide +kernel
theorem dX8_add_54 : decode cX8_add 54 = .ok (.aload_n 0, 1) := by decide +kernel
theorem dX8_add_55 : decode cX8_add 55 = .ok (.getfield 7, 3) := by decide +kernel
theorem dX8_add_58 : decode cX8_add 58 = .ok (.iconst 5, 1) := by decide +kernel
theorem dX8_add_59 : decode cX8_add 59 = .ok (.dup2, 1) := by decide +kernel
theorem dX8_add_60 : decode cX8_add 60 = .ok (.iaload, 1) := by decide +kernel
theorem dX8_add_61 : decode cX8_add 61 = .ok (.iconst 1, 1) := by decide +kernel
theorem dX8_add_62 : decode cX8_add 62 = .ok (.iadd, 1) := by decide +kernel
theorem dX8_add_63 : decode cX8_add 63 = .ok (.iastore, 1) := by decide +kernel
theorem dX8_add_64 : decode cX8_add 64 = .ok (.aload_n 0, 1) := by decide +kernel
theorem dX8_add_65 : decode cX8_add 65 = .ok (.aload_n 0, 1) := by decide +kernel
theorem dX8_add_66 : decode cX8_add 66 = .ok (.getfield 7, 3) := by decide +kernel
theorem dX8_add_69 : decode cX8_add 69 = .ok (.iconst 5, 1) := by decide +kernel
theorem dX8_add_70 : decode cX8_add 70 = .ok (.iaload, 1) := by decide +kernel
theorem dX8_add_71 : decode cX8_add 71 = .ok (.iconst 1, 1) := by decide +kernel
theorem dX8_add_72 : decode cX8_add 72 = .ok (.isub, 1) := by decide +kernel
theorem dX8_add_73 : decode cX8_add 73 = .ok (.invokevirtual 152, 3) := by decide +kernel
theorem dX8_add_76 : decode cX8_add 76 = .ok (.ireturn, 1) := by decide +kernel
set_option maxRecDepth 20000 in
theorem ggX8_carries_X8_puts : GoodIn wsX8_carries wsX8_puts := goodIn_r _ [6, 1, 7, 8, 9, 10, 11, 12, 13, 14, 15, 16, 17, 18, 19, 20, 21, 22] (by decide +kernel) (by decide +kernel)
set_option maxRecDepth 20000 in
theorem gX8_carries_X8_puts : GoodIn wsX8_carries (wsV RX8 148 RX8 yX8_puts wsX8_puts) := goodIn_app (goodIn_of _ (by decide +kernel)) ggX8_carries_X8_puts
theorem dX8_carries_0 : decode cX8_carries 0 = .ok (.aload_n 0, 1) := by decide +kernel
theorem dX8_carries_1 : decode cX8_carries 1 = .ok (.iload_n 2, 1) := by decide +kernel
theorem dX8_carries_2 : decode cX8_carries 2 = .ok (.aload_n 0, 1) := by decide +kernel
theorem dX8_carries_3 : decode cX8_carries 3 = .ok (.getfield 7, 3) := by decide +kernel
theorem dX8_carries_6 : decode cX8_carries 6 = .ok (.bipush 6, 2) := by decide +kernel
theorem dX8_carries_8 : decode cX8_carries 8 = .ok (.iload_n 1, 1) := by decide +kernel
theorem dX8_carries_9 : decode cX8_carries 9 = .ok (.iadd, 1) := by decide +kernel
theorem dX8_carries_10 : decode cX8_carries 10 = .ok (.iaload, 1) := by decide +kernel
theorem dX8_carries_11 : decode cX8_carries 11 = .ok (.aload_n 0, 1) := by decide +kernel
theorem dX8_carries_12 : decode cX8_carries 12 = .ok (.getfield 7, 3) := by decide +kernel
theorem dX8_carries_15 : decode cX8_carries 15 = .ok (.bipush 18, 2) := by decide +kernel
theorem dX8_carries_17 : decode cX8_carries 17 = .ok (.iload_n 1, 1) := by decide +kernel
theorem dX8_carries_18 : decode cX8_carries 18 = .ok (.iadd, 1) := by decide +kernel
theorem dX8_carries_19 : decode cX8_carries 19 = .ok (.iaload, 1) := by decide +kernel
theorem dX8_carries_20 : decode cX8_carries 20 = .ok (.aload_n 0, 1) := by decide +kernel
theorem dX8_carries_21 : decode cX8_carries 21 = .ok (.getfield 7, 3) := by decide +kernel
theorem dX8_carries_24 : decode cX8_carries 24 = .ok (.bipush 30, 2) := by decide +kernel
theorem dX8_carries_26 : decode cX8_carries 26 = .ok (.iload_n 1, 1) := by decide +kernel
theorem dX8_carries_27 : decode cX8_carries 27 = .ok (.iadd, 1) := by decide +kernel
theorem dX8_carries_28 : decode cX8_carries 28 = .ok (.iaload, 1) := by decide +kernel
theorem dX8_carries_29 : decode cX8_carries 29 = .ok (.aload_n 0, 1) := by decide +kernel
theorem dX8_carries_30 : decode cX8_carries 30 = .ok (.getfield 7, 3) := by decide +kernel
theorem dX8_carries_33 : decode cX8_carries 33 = .ok (.bipush 42, 2) := by decide +kernel
theorem dX8_carries_35 : decode cX8_carries 35 = .ok (.iload_n 1, 1) := by decide +kernel
theorem dX8_carries_36 : decode cX8_carries 36 = .ok (.iadd, 1) := by decide +kernel
theorem dX8_carries_37 : decode cX8_carries 37 = .ok (.iaload, 1) := by decide +kernel
theorem dX8_carries_38 : decode cX8_carries 38 = .ok (.invokevirtual 148, 3) := by decide +kernel
theorem dX8_carries_41 : decode cX8_carries 41 = .ok (.return_, 1) := by decide +kernel
set_option maxRecDepth 20000 in
theorem ggX8_remove_X8_isLot : GoodIn wsX8_remove wsX8_isLot := goodIn_r _ [6, 1, 7, 8, 5, 9, 32, 33, 34, 35, 36, 37, 38, 39, 40, 41, 42, 43, 44, 45, 46, 47] (by decide +kernel) (by decide +kernel)
set_option maxRecDepth 20000 in
theorem gX8_remove_X8_isLot : GoodIn wsX8_remove (wsV RX8 155 RX8 yX8_isLot wsX8_isLot) := goodIn_app (goodIn_of _ (by decide +kernel)) ggX8_remove_X8_isLot
set_option maxRecDepth 20000 in
theorem ggX8_remove_X8_remember : GoodIn wsX8_remove wsX8_remember := goodIn_r _ [13, 1, 14, 15, 16, 5, 17, 32, 33, 34, 35, 36, 37, 38, 39, 40, 41, 42, 43, 44, 45, 46, 47] (by decide +kernel) (by decide +kernel)
set_option maxRecDepth 20000 in
theorem gX8_remove_X8_remember : GoodIn wsX8_remove (wsV RX8 145 RX8 yX8_remember wsX8_remember) := goodIn_app (goodIn_of _ (by decide +kernel)) ggX8_remove_X8_remember
set_option maxRecDepth 20000 in
theorem ggX8_remove_X8_carries : GoodIn wsX8_remove wsX8_carries := goodIn_r _ [21, 1, 22, 23, 24, 5, 25, 32, 33, 34, 35, 36, 37, 38, 39, 40, 41, 42, 43, 44, 45, 46, 47] (by decide +kernel) (by decide +kernel)
set_option maxRecDepth 20000 in
theorem gX8_remove_X8_carries : GoodIn wsX8_remove (wsV RX8 158 RX8 yX8_carries wsX8_carries) := goodIn_app (goodIn_of _ (by decide +kernel)) ggX8_remove_X8_carries
set_option maxRecDepth 20000 in
theorem ggX8_remove_X8_puts : GoodIn wsX8_remove wsX8_puts := goodIn_r _ [25, 1, 32, 33, 34, 35, 36, 37, 38, 39, 40, 41, 42, 43, 44, 45, 46, 47] (by decide +kernel) (by decide +kernel)
set_option maxRecDepth 20000 in
theorem gX8_remove_X8_puts : GoodIn wsX8_remove (wsV RX8 148 RX8 yX8_puts wsX8_puts) := goodIn_app (goodIn_of _ (by decide +kernel)) ggX8_remove_X8_puts
set_option maxRecDepth 20000 in
theorem ggX8_remove_X8_acted : GoodIn wsX8_remove wsX8_acted := goodIn_r _ [29, 30, 31, 14, 32, 33, 34, 35, 36, 37, 38, 39, 40, 41, 42, 43, 44, 45, 46, 47] (by decide +kernel) (by decide +kernel)
set_option maxRecDepth 20000 in
theorem gX8_remove_X8_acted : GoodIn wsX8_remove (wsV RX8 152 RX8 yX8_acted wsX8_acted) := goodIn_app (goodIn_of _ (by decide +kernel)) ggX8_remove_X8_acted
theorem dX8_remove_0 : decode cX8_remove 0 = .ok (.aload_n 0, 1) := by decide +kernel
theorem dX8_remove_1 : decode cX8_remove 1 = .ok (.iload_n 1, 1) := by decide +kernel
theorem dX8_remove_2 : decode cX8_remove 2 = .ok (.invokevirtual 155, 3) := by decide +kernel
theorem dX8_remove_5 : decode cX8_remove 5 = .ok (.ifCond .ne 5, 3) := by decide +kernel
theorem dX8_remove_8 : decode cX8_remove 8 = .ok (.iconst (-1), 1) := by decide +kernel
theorem dX8_remove_9 : decode cX8_remove 9 = .ok (.ireturn, 1) := by decide +kernel
theorem dX8_remove_10 : decode cX8_remove 10 = .ok (.aload_n 0, 1) := by decide +kernel
theorem dX8_remove_11 : decode cX8_remove 11 = .ok (.invokevirtual 145, 3) := by decide +kernel
theorem dX8_remove_14 : decode cX8_remove 14 = .ok (.aload_n 0, 1) := by decide +kernel
theorem dX8_remove_15 : decode cX8_remove 15 = .ok (.getfield 7, 3) := by decide +kernel
theorem dX8_remove_18 : decode cX8_remove 18 = .ok (.iconst 5, 1) := by decide +kernel
theorem dX8_remove_19 : decode cX8_remove 19 = .ok (.dup2, 1) := by decide +kernel
theorem dX8_remove_20 : decode cX8_remove 20 = .ok (.iaload, 1) := by decide +kernel
theorem dX8_remove_21 : decode cX8_remove 21 = .ok (.iconst 1, 1) := by decide +kernel
theorem dX8_remove_22 : decode cX8_remove 22 = .ok (.isub, 1) := by decide +kernel
theorem dX8_remove_23 : decode cX8_remove 23 = .ok (.iastore, 1) := by decide +kernel
theorem dX8_remove_24 : decode cX8_remove 24 = .ok (.iload_n 1, 1) := by decide +kernel
theorem dX8_remove_25 : decode cX8_remove 25 = .ok (.istore_n 2, 1) := by decide +kernel
theorem dX8_remove_26 : decode cX8_remove 26 = .ok (.iload_n 2, 1) := by decide +kernel
theorem dX8_remove_27 : decode cX8_remove 27 = .ok (.aload_n 0, 1) := by decide +kernel
theorem dX8_remove_28 : decode cX8_remove 28 = .ok (.getfield 7, 3) := by decide +kernel
theorem dX8_remove_31 : decode cX8_remove 31 = .ok (.iconst 5, 1) := by decide +kernel
theorem dX8_remove_32 : decode cX8_remove 32 = .ok (.iaload, 1) := by decide +kernel
theorem dX8_remove_33 : decode cX8_remove 33 = .ok (.if_icmp .ge 17, 3) := by decide +kernel
theorem dX8_remove_36 : decode cX8_remove 36 = .ok (.aload_n 0, 1) := by decide +kernel
theorem dX8_remove_37 : decode cX8_remove 37 = .ok (.iload_n 2, 1) := by decide +kernel
theorem dX8_remove_38 : decode cX8_remove 38 = .ok (.iconst 1, 1) := by decide +kernel
theorem dX8_remove_39 : decode cX8_remove 39 = .ok (.iadd, 1) := by decide +kernel
theorem dX8_remove_40 : decode cX8_remove 40 = .ok (.iload_n 2, 1) := by decide +kernel
theorem dX8_remove_41 : decode cX8_remove 41 = .ok (.invokevirtual 158, 3) := by decide +kernel
theorem dX8_remove_44 : decode cX8_remove 44 = .ok (.iinc 2 1, 3) := by decide +kernel
theorem dX8_remove_47 : decode cX8_remove 47 = .ok (.goto (-21), 3) := by decide +kernel
theorem dX8_remove_50 : decode cX8_remove 50 = .ok (.aload_n 0, 1) := by decide +kernel
theorem dX8_remove_51 : decode cX8_remove 51 = .ok (.aload_n 0, 1) := by decide +kernel
theorem dX8_remove_52 : decode cX8_remove 52 = .ok (.getfield 7, 3) := by decide +kernel
theorem dX8_remove_55 : decode cX8_remove 55 = .ok (.iconst 5, 1) := by decide +kernel
theorem dX8_remove_56 : decode cX8_remove 56 = .ok (.iaload, 1) := by decide +kernel
theorem dX8_remove_57 : decode cX8_remove 57 = .ok (.iconst 0, 1) := by decide +kernel
theorem dX8_remove_58 : decode cX8_remove 58 = .ok (.iconst 0, 1) := by decide +kernel
theorem dX8_remove_59 : decode cX8_remove 59 = .ok (.iconst 0, 1) := by decide +kernel
theorem dX8_remove_60 : decode cX8_remove 60 = .ok (.iconst 0, 1) := by decide +kernel
theorem dX8_remove_61 : decode cX8_remove 61 = .ok (.invokevirtual 148, 3) := by decide +kernel
theorem dX8_remove_64 : decode cX8_remove 64 = .ok (.aload_n 0, 1) := by decide +kernel
theorem dX8_remove_65 : decode cX8_remove 65 = .ok (.aload_n 0, 1) := by decide +kernel
theorem dX8_remove_66 : decode cX8_remove 66 = .ok (.getfield 7, 3) := by decide +kernel
theorem dX8_remove_69 : decode cX8_remove 69 = .ok (.iconst 5, 1) := by decide +kernel
theorem dX8_remove_70 : decode cX8_remove 70 = .ok (.iaload, 1) := by decide +kernel
theorem dX8_remove_71 : decode cX8_remove 71 = .ok (.invokevirtual 152, 3) := by decide +kernel
theorem dX8_remove_74 : decode cX8_remove 74 = .ok (.ireturn, 1) := by decide +kernel
set_option maxRecDepth 20000 in
theorem ggX8_change_X8_isLot : GoodIn wsX8_change wsX8_isLot := goodIn_r _ [7, 2, 8, 9, 6, 10, 49, 50, 51, 52, 53, 54, 55, 56, 57, 58, 59, 60, 61, 62, 63, 64] (by decide +kernel) (by decide +kernel)
set_option maxRecDepth 20000 in
theorem gX8_change_X8_isLot : GoodIn wsX8_change (wsV RX8 155 RX8 yX8_isLot wsX8_isLot) := goodIn_app (goodIn_of _ (by decide +kernel)) ggX8_change_X8_isLot
set_option maxRecDepth 20000 in
theorem ggX8_change_X8_isText : GoodIn wsX8_change wsX8_isText := goodIn_r _ [13, 14, 8, 9, 6, 10] (by decide +kernel) (by decide +kernel)
set_option maxRecDepth 20000 in
theorem gX8_change_X8_isText : GoodIn wsX8_change (va_wsS RX8 140 yX8_isText wsX8_isText) := goodIn_app (goodIn_of _ (by decide +kernel)) ggX8_change_X8_isText
set_option maxRecDepth 20000 in
theorem ggX8_change_X8_in : GoodIn wsX8_change wsX8_in := goodIn_r _ [10] (by decide +kernel) (by decide +kernel)
set_option maxRecDepth 20000 in
theorem gX8_change_X8_in : GoodIn wsX8_change (va_wsS RX8 42 yX8_in wsX8_in) := goodIn_app (goodIn_of _ (by decide +kernel)) ggX8_change_X8_in
set_option maxRecDepth 20000 in
theorem ggX8_change_X8_textOf : GoodIn wsX8_change wsX8_textOf := goodIn_r _ [18, 2, 49, 50, 51, 52, 53, 54, 55, 56, 57, 58, 59, 60, 61, 62, 63, 64] (by decide +kernel) (by decide +kernel)
set_option maxRecDepth 20000 in
theorem gX8_change_X8_textOf : GoodIn wsX8_change (wsV RX8 46 RX8 yX8_textOf wsX8_textOf) := goodIn_app (goodIn_of _ (by decide +kernel)) ggX8_change_X8_textOf
set_option maxRecDepth 20000 in
theorem ggX8_change_X8_remember : GoodIn wsX8_change wsX8_remember := goodIn_r _ [22, 2, 23, 24, 25, 6, 26, 49, 50, 51, 52, 53, 54, 55, 56, 57, 58, 59, 60, 61, 62, 63, 64] (by decide +kernel) (by decide +kernel)
set_option maxRecDepth 20000 in
theorem gX8_change_X8_remember : GoodIn wsX8_change (wsV RX8 145 RX8 yX8_remember wsX8_remember) := goodIn_app (goodIn_of _ (by decide +kernel)) ggX8_change_X8_remember
set_option maxRecDepth 20000 in
theorem ggX8_change_X8_puts : GoodIn wsX8_change wsX8_puts := goodIn_r _ [30, 2, 49, 50, 51, 52, 53, 54, 55, 56, 57, 58, 59, 60, 61, 62, 63, 64] (by decide +kernel) (by decide +kernel)
set_option maxRecDepth 20000 in
theorem gX8_change_X8_puts : GoodIn wsX8_change (wsV RX8 148 RX8 yX8_puts wsX8_puts) := goodIn_app (goodIn_of _ (by decide +kernel)) ggX8_change_X8_puts
set_option maxRecDepth 20000 in
theorem ggX8_change_X8_pagesOfLots : GoodIn wsX8_change wsX8_pagesOfLots := goodIn_r _ [34, 2, 35, 36, 37, 6, 38, 15, 16, 17, 18, 39, 40, 41, 42, 49, 50, 51, 52, 53, 54, 55, 56, 57, 58, 59, 60, 61, 62, 63, 64] (by decide +kernel) (by decide +kernel)
set_option maxRecDepth 20000 in
theorem gX8_change_X8_pagesOfLots : GoodIn wsX8_change (wsV RX8 57 RX8 yX8_pagesOfLots wsX8_pagesOfLots) := goodIn_app (goodIn_of _ (by decide +kernel)) ggX8_change_X8_pagesOfLots
set_option maxRecDepth 20000 in
theorem ggX8_change_X8_acted : GoodIn wsX8_change wsX8_acted := goodIn_r _ [46, 47, 48, 23, 49, 50, 51, 52, 53, 54, 55, 56, 57, 58, 59, 60, 61, 62, 63, 64] (by decide +kernel) (by decide +kernel)
set_option maxRecDepth 20000 in
theorem gX8_change_X8_acted : GoodIn wsX8_change (wsV RX8 152 RX8 yX8_acted wsX8_acted) := goodIn_app (goodIn_of _ (by decide +kernel)) ggX8_change_X8_acted
theorem dX8_change_0 : decode cX8_change 0 = .ok (.aload_n 0, 1) := by decide +kernel
theorem dX8_change_1 : decode cX8_change 1 = .ok (.iload_n 1, 1) := by decide +kernel
theorem dX8_change_2 : decode cX8_change 2 = .ok (.invokevirtual 155, 3) := by decide +kernel
theorem dX8_change_5 : decode cX8_change 5 = .ok (.ifCond .ne 5, 3) := by decide +kernel
theorem dX8_change_8 : decode cX8_change 8 = .ok (.iconst (-1), 1) := by decide +kernel
theorem dX8_change_9 : decode cX8_change 9 = .ok (.ireturn, 1) := by decide +kernel
theorem dX8_change_10 : decode cX8_change 10 = .ok (.iload_n 2, 1) := by decide +kernel
theorem dX8_change_11 : decode cX8_change 11 = .ok (.invokestatic 140, 3) := by decide +kernel
theorem dX8_change_14 : decode cX8_change 14 = .ok (.ifCond .eq 15, 3) := by decide +kernel
theorem dX8_change_17 : decode cX8_change 17 = .ok (.iload_n 3, 1) := by decide +kernel
theorem dX8_change_18 : decode cX8_change 18 = .ok (.i2l, 1) := by decide +kernel
theorem dX8_change_19 : decode cX8_change 19 = .ok (.lconst 0, 1) := by decide +kernel
theorem dX8_change_20 : decode cX8_change 20 = .ok (.ldc2_w 143, 3) := by decide +kernel
theorem dX8_change_23 : decode cX8_change 23 = .ok (.invokestatic 42, 3) := by decide +kernel
theorem dX8_change_26 : decode cX8_change 26 = .ok (.ifCond .ne 6, 3) := by decide +kernel
theorem dX8_change_29 : decode cX8_change 29 = .ok (.bipush (-2), 2) := by decide +kernel
theorem dX8_change_31 : decode cX8_change 31 = .ok (.ireturn, 1) := by decide +kernel
theorem dX8_change_32 : decode cX8_change 32 = .ok (.aload_n 0, 1) := by decide +kernel
theorem dX8_change_33 : decode cX8_change 33 = .ok (.iload_n 1, 1) := by decide +kernel
theorem dX8_change_34 : decode cX8_change 34 = .ok (.invokevirtual 46, 3) := by decide +kernel
theorem dX8_change_37 : decode cX8_change 37 = .ok (.iload_n 2, 1) := by decide +kernel
theorem dX8_change_38 : decode cX8_change 38 = .ok (.if_icmp .ne 19, 3) := by decide +kernel
theorem dX8_change_41 : decode cX8_change 41 = .ok (.aload_n 0, 1) := by decide +kernel
theorem dX8_change_42 : decode cX8_change 42 = .ok (.getfield 7, 3) := by decide +kernel
theorem dX8_change_45 : decode cX8_change 45 = .ok (.bipush 18, 2) := by decide +kernel
theorem dX8_change_47 : decode cX8_change 47 = .ok (.iload_n 1, 1) := by decide +kernel
theorem dX8_change_48 : decode cX8_change 48 = .ok (.iadd, 1) := by decide +kernel
theorem dX8_change_49 : decode cX8_change 49 = .ok (.iaload, 1) := by decide +kernel
theorem dX8_change_50 : decode cX8_change 50 = .ok (.iload_n 3, 1) := by decide +kernel
theorem dX8_change_51 : decode cX8_change 51 = .ok (.if_icmp .ne 6, 3) := by decide +kernel
theorem dX8_change_54 : decode cX8_change 54 = .ok (.bipush (-5), 2) := by decide +kernel
theorem dX8_change_56 : decode cX8_change 56 = .ok (.ireturn, 1) := by decide +kernel
theorem dX8_change_57 : decode cX8_change 57 = .ok (.aload_n 0, 1) := by decide +kernel
theorem dX8_change_58 : decode cX8_change 58 = .ok (.invokevirtual 145, 3) := by decide +kernel
theorem dX8_change_61 : decode cX8_change 61 = .ok (.aload_n 0, 1) := by decide +kernel
theorem dX8_change_62 : decode cX8_change 62 = .ok (.getfield 7, 3) := by decide +kernel
theorem dX8_change_65 : decode cX8_change 65 = .ok (.bipush 42, 2) := by decide +kernel
theorem dX8_change_67 : decode cX8_change 67 = .ok (.iload_n 1, 1) := by decide +kernel
theorem dX8_change_68 : decode cX8_change 68 = .ok (.iadd, 1) := by decide +kernel
theorem dX8_change_69 : decode cX8_change 69 = .ok (.iaload, 1) := by decide +kernel
theorem dX8_change_70 : decode cX8_change 70 = .ok (.iload_n 2, 1) := by decide +kernel
theorem dX8_change_71 : decode cX8_change 71 = .ok (.if_icmp .le 7, 3) := by decide +kernel
theorem dX8_change_74 : decode cX8_change 74 = .ok (.iload_n 2, 1) := by decide +kernel
theorem dX8_change_75 : decode cX8_change 75 = .ok (.goto 12, 3) := by decide +kernel
theorem dX8_change_78 : decode cX8_change 78 = .ok (.aload_n 0, 1) := by decide +kernel
theorem dX8_change_79 : decode cX8_change 79 = .ok (.getfield 7, 3) := by decide +kernel
theorem dX8_change_82 : decode cX8_change 82 = .ok (.bipush 42, 2) := by decide +kernel
theorem dX8_change_84 : decode cX8_change 84 = .ok (.iload_n 1, 1) := by decide +kernel
theorem dX8_change_85 : decode cX8_change 85 = .ok (.iadd, 1) := by decide +kernel
theorem dX8_change_86 : decode cX8_change 86 = .ok (.iaload, 1) := by decide +kernel
theorem dX8_change_87 : decode cX8_change 87 = .ok (.istore 4, 2) := by decide +kernel
theorem dX8_change_89 : decode cX8_change 89 = .ok (.aload_n 0, 1) := by decide +kernel
theorem dX8_change_90 : decode cX8_change 90 = .ok (.iload_n 1, 1) := by decide +kernel
theorem dX8_change_91 : decode cX8_change 91 = .ok (.iload_n 2, 1) := by decide +kernel
theorem dX8_change_92 : decode cX8_change 92 = .ok (.iload_n 3, 1) := by decide +kernel
theorem dX8_change_93 : decode cX8_change 93 = .ok (.aload_n 0, 1) := by decide +kernel
theorem dX8_change_94 : decode cX8_change 94 = .ok (.getfield 7, 3) := by decide +kernel
theorem dX8_change_97 : decode cX8_change 97 = .ok (.bipush 30, 2) := by decide +kernel
theorem dX8_change_99 : decode cX8_change 99 = .ok (.iload_n 1, 1) := by decide +kernel
theorem dX8_change_100 : decode cX8_change 100 = .ok (.iadd, 1) := by decide +kernel
theorem dX8_change_101 : decode cX8_change 101 = .ok (.iaload, 1) := by decide +kernel
theorem dX8_change_102 : decode cX8_change 102 = .ok (.iload_n 3, 1) := by decide +kernel
theorem dX8_change_103 : decode cX8_change 103 = .ok (.ifCond .ne 7, 3) := by decide +kernel
theorem dX8_change_106 : decode cX8_change 106 = .ok (.iconst 0, 1) := by decide +kernel
theorem dX8_change_107 : decode cX8_change 107 = .ok (.goto 5, 3) := by decide +kernel
theorem dX8_change_110 : decode cX8_change 110 = .ok (.iload 4, 2) := by decide +kernel
theorem dX8_change_112 : decode cX8_change 112 = .ok (.invokevirtual 148, 3) := by decide +kernel
theorem dX8_change_115 : decode cX8_change 115 = .ok (.aload_n 0, 1) := by decide +kernel
theorem dX8_change_116 : decode cX8_change 116 = .ok (.aload_n 0, 1) := by decide +kernel
theorem dX8_change_117 : decode cX8_change 117 = .ok (.invokevirtual 57, 3) := by decide +kernel
theorem dX8_change_120 : decode cX8_change 120 = .ok (.invokevirtual 152, 3) := by decide +kernel
theorem dX8_change_123 : decode cX8_change 123 = .ok (.ireturn, 1) := by decide +kernel
set_option maxRecDepth 20000 in
theorem ggX8_move_X8_isLot : GoodIn wsX8_move wsX8_isLot := goodIn_r _ [6, 1, 7, 8, 5, 9, 96, 97, 98, 99, 100, 101, 102, 103, 104, 105, 106, 107, 108, 109, 110, 111] (by decide +kernel) (by decide +kernel)
set_option maxRecDepth 20000 in
theorem gX8_move_X8_isLot : GoodIn wsX8_move (wsV RX8 155 RX8 yX8_isLot wsX8_isLot) := goodIn_app (goodIn_of _ (by decide +kernel)) ggX8_move_X8_isLot
set_option maxRecDepth 20000 in
theorem ggX8_move_X8_remember : GoodIn wsX8_move wsX8_remember := goodIn_r _ [13, 1, 14, 15, 16, 5, 17, 96, 97, 98, 99, 100, 101, 102, 103, 104, 105, 106, 107, 108, 109, 110, 111] (by decide +kernel) (by decide +kernel)
set_option maxRecDepth 20000 in
theorem gX8_move_X8_remember : GoodIn wsX8_move (wsV RX8 145 RX8 yX8_remember wsX8_remember) := goodIn_app (goodIn_of _ (by decide +kernel)) ggX8_move_X8_remember
set_option maxRecDepth 20000 in
theorem ggX8_move_X8_textOf : GoodIn wsX8_move wsX8_textOf := goodIn_r _ [21, 1, 96, 97, 98, 99, 100, 101, 102, 103, 104, 105, 106, 107, 108, 109, 110, 111] (by decide +kernel) (by decide +kernel)
set_option maxRecDepth 20000 in
theorem gX8_move_X8_textOf : GoodIn wsX8_move (wsV RX8 46 RX8 yX8_textOf wsX8_textOf) := goodIn_app (goodIn_of _ (by decide +kernel)) ggX8_move_X8_textOf
set_option maxRecDepth 20000 in
theorem ggX8_move_X8_carries : GoodIn wsX8_move wsX8_carries := goodIn_r _ [25, 1, 26, 27, 28, 5, 29, 96, 97, 98, 99, 100, 101, 102, 103, 104, 105, 106, 107, 108, 109, 110, 111] (by decide +kernel) (by decide +kernel)
set_option maxRecDepth 20000 in
theorem gX8_move_X8_carries : GoodIn wsX8_move (wsV RX8 158 RX8 yX8_carries wsX8_carries) := goodIn_app (goodIn_of _ (by decide +kernel)) ggX8_move_X8_carries
set_option maxRecDepth 20000 in
theorem ggX8_move_X8_puts : GoodIn wsX8_move wsX8_puts := goodIn_r _ [29, 1, 96, 97, 98, 99, 100, 101, 102, 103, 104, 105, 106, 107, 108, 109, 110, 111] (by decide +kernel) (by decide +kernel)
set_option maxRecDepth 20000 in
theorem gX8_move_X8_puts : GoodIn wsX8_move (wsV RX8 148 RX8 yX8_puts wsX8_puts) := goodIn_app (goodIn_of _ (by decide +kernel)) ggX8_move_X8_puts
set_option maxRecDepth 20000 in
theorem ggX8_move_X8_cost : GoodIn wsX8_move wsX8_cost := goodIn_r _ [33, 34, 35, 36, 5, 37, 38, 39, 40, 41, 1, 42, 43, 44, 45, 18, 19, 20, 21, 46, 47, 48, 49, 50, 51, 52, 53, 54, 55, 56, 57, 58, 59, 60, 61, 62, 63, 64, 65, 66, 67, 68, 69, 70, 71, 72, 73, 74, 75, 76, 77, 78, 79, 80, 81, 82, 83, 84, 85, 86, 87, 88, 89, 96, 97, 98, 99, 100, 101, 102, 103, 104, 105, 106, 107, 108, 109, 110, 111] (by decide +kernel) (by decide +kernel)
set_option maxRecDepth 20000 in
theorem gX8_move_X8_cost : GoodIn wsX8_move (wsV RX8 162 RX8 yX8_cost wsX8_cost) := goodIn_app (goodIn_of _ (by decide +kernel)) ggX8_move_X8_cost
set_option maxRecDepth 20000 in
theorem ggX8_move_X8_acted : GoodIn wsX8_move wsX8_acted := goodIn_r _ [93, 94, 95, 14, 96, 97, 98, 99, 100, 101, 102, 103, 104, 105, 106, 107, 108, 109, 110, 111] (by decide +kernel) (by decide +kernel)
set_option maxRecDepth 20000 in
theorem gX8_move_X8_acted : GoodIn wsX8_move (wsV RX8 152 RX8 yX8_acted wsX8_acted) := goodIn_app (goodIn_of _ (by decide +kernel)) ggX8_move_X8_acted
theorem dX8_move_0 : decode cX8_move 0 = .ok (.aload_n 0, 1) := by decide +kernel
theorem dX8_move_1 : decode cX8_move 1 = .ok (.iload_n 1, 1) := by decide +kernel
theorem dX8_move_2 : decode cX8_move 2 = .ok (.invokevirtual 155, 3) := by decide +kernel
theorem dX8_move_5 : decode cX8_move 5 = .ok (.ifCond .eq 11, 3) := by decide +kernel
theorem dX8_move_8 : decode cX8_move 8 = .ok (.aload_n 0, 1) := by decide +kernel
theorem dX8_move_9 : decode cX8_move 9 = .ok (.iload_n 2, 1) := by decide +kernel
theorem dX8_move_10 : decode cX8_move 10 = .ok (.invokevirtual 155, 3) := by decide +kernel
theorem dX8_move_13 : decode cX8_move 13 = .ok (.ifCond .ne 5, 3) := by decide +kernel
theorem dX8_move_16 : decode cX8_move 16 = .ok (.iconst (-1), 1) := by decide +kernel
theorem dX8_move_17 : decode cX8_move 17 = .ok (.ireturn, 1) := by decide +kernel
theorem dX8_move_18 : decode cX8_move 18 = .ok (.iload_n 1, 1) := by decide +kernel
theorem dX8_move_19 : decode cX8_move 19 = .ok (.iload_n 2, 1) := by decide +kernel
theorem dX8_move_20 : decode cX8_move 20 = .ok (.if_icmp .ne 6, 3) := by decide +kernel
theorem dX8_move_23 : decode cX8_move 23 = .ok (.bipush (-5), 2) := by decide +kernel
theorem dX8_move_25 : decode cX8_move 25 = .ok (.ireturn, 1) := by decide +kernel
theorem dX8_move_26 : decode cX8_move 26 = .ok (.aload_n 0, 1) := by decide +kernel
theorem dX8_move_27 : decode cX8_move 27 = .ok (.invokevirtual 145, 3) := by decide +kernel
theorem dX8_move_30 : decode cX8_move 30 = .ok (.iload_n 1, 1) := by decide +kernel
theorem dX8_move_31 : decode cX8_move 31 = .ok (.iload_n 2, 1) := by decide +kernel
theorem dX8_move_32 : decode cX8_move 32 = .ok (.if_icmp .ge 7, 3) := by decide +kernel
theorem dX8_move_35 : decode cX8_move 35 = .ok (.iconst 1, 1) := by decide +kernel
theorem dX8_move_36 : decode cX8_move 36 = .ok (.goto 4, 3) := by decide +kernel
theorem dX8_move_39 : decode cX8_move 39 = .ok (.iconst (-1), 1) := by decide +kernel
theorem dX8_move_40 : decode cX8_move 40 = .ok (.istore_n 3, 1) := by decide +kernel
theorem dX8_move_41 : decode cX8_move 41 = .ok (.aload_n 0, 1) := by decide +kernel
theorem dX8_move_42 : decode cX8_move 42 = .ok (.iload_n 1, 1) := by decide +kernel
theorem dX8_move_43 : decode cX8_move 43 = .ok (.invokevirtual 46, 3) := by decide +kernel
theorem dX8_move_46 : decode cX8_move 46 = .ok (.istore 4, 2) := by decide +kernel
theorem dX8_move_48 : decode cX8_move 48 = .ok (.aload_n 0, 1) := by decide +kernel
theorem dX8_move_49 : decode cX8_move 49 = .ok (.getfield 7, 3) := by decide +kernel
theorem dX8_move_52 : decode cX8_move 52 = .ok (.bipush 18, 2) := by decide +kernel
theorem dX8_move_54 : decode cX8_move 54 = .ok (.iload_n 1, 1) := by decide +kernel
theorem dX8_move_55 : decode cX8_move 55 = .ok (.iadd, 1) := by decide +kernel
theorem dX8_move_56 : decode cX8_move 56 = .ok (.iaload, 1) := by decide +kernel
theorem dX8_move_57 : decode cX8_move 57 = .ok (.istore 5, 2) := by decide +kernel
theorem dX8_move_59 : decode cX8_move 59 = .ok (.aload_n 0, 1) := by decide +kernel
theorem dX8_move_60 : decode cX8_move 60 = .ok (.getfield 7, 3) := by decide +kernel
theorem dX8_move_63 : decode cX8_move 63 = .ok (.bipush 30, 2) := by decide +kernel
theorem dX8_move_65 : decode cX8_move 65 = .ok (.iload_n 1, 1) := by decide +kernel
theorem dX8_move_66 : decode cX8_move 66 = .ok (.iadd, 1) := by decide +kernel
theorem dX8_move_67 : decode cX8_move 67 = .ok (.iaload, 1) := by decide +kernel
theorem dX8_move_68 : decode cX8_move 68 = .ok (.istore 6, 2) := by decide +kernel
theorem dX8_move_70 : decode cX8_move 70 = .ok (.aload_n 0, 1) := by decide +kernel
theorem dX8_move_71 : decode cX8_move 71 = .ok (.getfield 7, 3) := by decide +kernel
theorem dX8_move_74 : decode cX8_move 74 = .ok (.bipush 42, 2) := by decide +kernel
theorem dX8_move_76 : decode cX8_move 76 = .ok (.iload_n 1, 1) := by decide +kernel
theorem dX8_move_77 : decode cX8_move 77 = .ok (.iadd, 1) := by decide +kernel
theorem dX8_move_78 : decode cX8_move 78 = .ok (.iaload, 1) := by decide +kernel
theorem dX8_move_79 : decode cX8_move 79 = .ok (.istore 7, 2) := by decide +kernel
theorem dX8_move_81 : decode cX8_move 81 = .ok (.iload_n 1, 1) := by decide +kernel
theorem dX8_move_82 : decode cX8_move 82 = .ok (.istore 8, 2) := by decide +kernel
theorem dX8_move_84 : decode cX8_move 84 = .ok (.iload 8, 2) := by decide +kernel
theorem dX8_move_86 : decode cX8_move 86 = .ok (.iload_n 2, 1) := by decide +kernel
theorem dX8_move_87 : decode cX8_move 87 = .ok (.if_icmp .eq 22, 3) := by decide +kernel
theorem dX8_move_90 : decode cX8_move 90 = .ok (.aload_n 0, 1) := by decide +kernel
theorem dX8_move_91 : decode cX8_move 91 = .ok (.iload 8, 2) := by decide +kernel
theorem dX8_move_93 : decode cX8_move 93 = .ok (.iload_n 3, 1) := by decide +kernel
theorem dX8_move_94 : decode cX8_move 94 = .ok (.iadd, 1) := by decide +kernel
theorem dX8_move_95 : decode cX8_move 95 = .ok (.iload 8, 2) := by decide +kernel
theorem dX8_move_97 : decode cX8_move 97 = .ok (.invokevirtual 158, 3) := by decide +kernel
theorem dX8_move_100 : decode cX8_move 100 = .ok (.iload 8, 2) := by decide +kernel
theorem dX8_move_102 : decode cX8_move 102 = .ok (.iload_n 3, 1) := by decide +kernel
theorem dX8_move_103 : decode cX8_move 103 = .ok (.iadd, 1) := by decide +kernel
theorem dX8_move_104 : decode cX8_move 104 = .ok (.istore 8, 2) := by decide +kernel
theorem dX8_move_106 : decode cX8_move 106 = .ok (.goto (-22), 3) := by decide +kernel
theorem dX8_move_109 : decode cX8_move 109 = .ok (.aload_n 0, 1) := by decide +kernel
theorem dX8_move_110 : decode cX8_move 110 = .ok (.iload_n 2, 1) := by decide +kernel
theorem dX8_move_111 : decode cX8_move 111 = .ok (.iload 4, 2) := by decide +kernel
theorem dX8_move_113 : decode cX8_move 113 = .ok (.iload 5, 2) := by decide +kernel
theorem dX8_move_115 : decode cX8_move 115 = .ok (.iload 6, 2) := by decide +kernel
theorem dX8_move_117 : decode cX8_move 117 = .ok (.iload 7, 2) := by decide +kernel
theorem dX8_move_119 : decode cX8_move 119 = .ok (.invokevirtual 148, 3) := by decide +kernel
theorem dX8_move_122 : decode cX8_move 122 = .ok (.aload_n 0, 1) := by decide +kernel
theorem dX8_move_123 : decode cX8_move 123 = .ok (.aload_n 0, 1) := by decide +kernel
theorem dX8_move_124 : decode cX8_move 124 = .ok (.invokevirtual 162, 3) := by decide +kernel
theorem dX8_move_127 : decode cX8_move 127 = .ok (.invokevirtual 152, 3) := by decide +kernel
theorem dX8_move_130 : decode cX8_move 130 = .ok (.ireturn, 1) := by decide +kernel
set_option maxRecDepth 20000 in
theorem ggX8_isPlace_X8_hasPlate : GoodIn wsX8_isPlace wsX8_hasPlate := goodIn_r _ [5, 6, 14, 15, 16, 17, 18, 19, 20, 21, 22, 23, 24, 25, 26, 27, 28, 29] (by decide +kernel) (by decide +kernel)
set_option maxRecDepth 20000 in
theorem gX8_isPlace_X8_hasPlate : GoodIn wsX8_isPlace (wsV RX8 50 RX8 yX8_hasPlate wsX8_hasPlate) := goodIn_app (goodIn_of _ (by decide +kernel)) ggX8_isPlace_X8_hasPlate
set_option maxRecDepth 20000 in
theorem ggX8_isPlace_X8_textOf : GoodIn wsX8_isPlace wsX8_textOf := goodIn_r _ [10, 6, 14, 15, 16, 17, 18, 19, 20, 21, 22, 23, 24, 25, 26, 27, 28, 29] (by decide +kernel) (by decide +kernel)
set_option maxRecDepth 20000 in
theorem gX8_isPlace_X8_textOf : GoodIn wsX8_isPlace (wsV RX8 46 RX8 yX8_textOf wsX8_textOf) := goodIn_app (goodIn_of _ (by decide +kernel)) ggX8_isPlace_X8_textOf
set_option maxRecDepth 20000 in
theorem ggX8_isPlace_X8_in : GoodIn wsX8_isPlace wsX8_in := goodIn_r _ [13] (by decide +kernel) (by decide +kernel)
set_option maxRecDepth 20000 in
theorem gX8_isPlace_X8_in : GoodIn wsX8_isPlace (va_wsS RX8 42 yX8_in wsX8_in) := goodIn_app (goodIn_of _ (by decide +kernel)) ggX8_isPlace_X8_in
theorem dX8_isPlace_0 : decode cX8_isPlace 0 = .ok (.iload_n 2, 1) := by decide +kernel
theorem dX8_isPlace_1 : decode cX8_isPlace 1 = .ok (.i2l, 1) := by decide +kernel
theorem dX8_isPlace_2 : decode cX8_isPlace 2 = .ok (.lconst 0, 1) := by decide +kernel
theorem dX8_isPlace_3 : decode cX8_isPlace 3 = .ok (.aload_n 0, 1) := by decide +kernel
theorem dX8_isPlace_4 : decode cX8_isPlace 4 = .ok (.iload_n 1, 1) := by decide +kernel
theorem dX8_isPlace_5 : decode cX8_isPlace 5 = .ok (.invokevirtual 50, 3) := by decide +kernel
theorem dX8_isPlace_8 : decode cX8_isPlace 8 = .ok (.ifCond .eq 12, 3) := by decide +kernel
theorem dX8_isPlace_11 : decode cX8_isPlace 11 = .ok (.aload_n 0, 1) := by decide +kernel
theorem dX8_isPlace_12 : decode cX8_isPlace 12 = .ok (.iload_n 1, 1) := by decide +kernel
theorem dX8_isPlace_13 : decode cX8_isPlace 13 = .ok (.invokevirtual 46, 3) := by decide +kernel
theorem dX8_isPlace_16 : decode cX8_isPlace 16 = .ok (.i2l, 1) := by decide +kernel
theorem dX8_isPlace_17 : decode cX8_isPlace 17 = .ok (.goto 4, 3) := by decide +kernel
theorem dX8_isPlace_20 : decode cX8_isPlace 20 = .ok (.lconst 0, 1) := by decide +kernel
theorem dX8_isPlace_21 : decode cX8_isPlace 21 = .ok (.invokestatic 42, 3) := by decide +kernel
theorem dX8_isPlace_24 : decode cX8_isPlace 24 = .ok (.ireturn, 1) := by decide +kernel
set_option maxRecDepth 20000 in
theorem ggX8_choose_X8_isLot : GoodIn wsX8_choose wsX8_isLot := goodIn_r _ [6, 1, 7, 8, 5, 9, 92, 93, 94, 95, 96, 97, 98, 99, 100, 101, 102, 103, 104, 105, 106, 107] (by decide +kernel) (by decide +kernel)
set_option maxRecDepth 20000 in
theorem gX8_choose_X8_isLot : GoodIn wsX8_choose (wsV RX8 155 RX8 yX8_isLot wsX8_isLot) := goodIn_app (goodIn_of _ (by decide +kernel)) ggX8_choose_X8_isLot
set_option maxRecDepth 20000 in
theorem ggX8_choose_X8_isPlace : GoodIn wsX8_choose wsX8_isPlace := goodIn_r _ [13, 14, 15, 16, 5, 17, 1, 18, 19, 20, 21, 7, 8, 9, 92, 93, 94, 95, 96, 97, 98, 99, 100, 101, 102, 103, 104, 105, 106, 107] (by decide +kernel) (by decide +kernel)
set_option maxRecDepth 20000 in
theorem gX8_choose_X8_isPlace : GoodIn wsX8_choose (wsV RX8 165 RX8 yX8_isPlace wsX8_isPlace) := goodIn_app (goodIn_of _ (by decide +kernel)) ggX8_choose_X8_isPlace
set_option maxRecDepth 20000 in
theorem ggX8_choose_X8_remember : GoodIn wsX8_choose wsX8_remember := goodIn_r _ [25, 1, 26, 27, 28, 5, 29, 92, 93, 94, 95, 96, 97, 98, 99, 100, 101, 102, 103, 104, 105, 106, 107] (by decide +kernel) (by decide +kernel)
set_option maxRecDepth 20000 in
theorem gX8_choose_X8_remember : GoodIn wsX8_choose (wsV RX8 145 RX8 yX8_remember wsX8_remember) := goodIn_app (goodIn_of _ (by decide +kernel)) ggX8_choose_X8_remember
set_option maxRecDepth 20000 in
theorem ggX8_choose_X8_cost : GoodIn wsX8_choose wsX8_cost := goodIn_r _ [33, 34, 35, 36, 5, 37, 38, 39, 40, 41, 1, 42, 43, 44, 45, 18, 19, 20, 21, 14, 15, 16, 17, 46, 47, 48, 49, 50, 51, 52, 53, 54, 55, 56, 57, 58, 59, 60, 61, 62, 63, 64, 65, 66, 67, 68, 69, 70, 71, 72, 73, 74, 75, 76, 77, 78, 79, 80, 81, 82, 83, 84, 85, 92, 93, 94, 95, 96, 97, 98, 99, 100, 101, 102, 103, 104, 105, 106, 107] (by decide +kernel) (by decide +kernel)
set_option maxRecDepth 20000 in
theorem gX8_choose_X8_cost : GoodIn wsX8_choose (wsV RX8 162 RX8 yX8_cost wsX8_cost) := goodIn_app (goodIn_of _ (by decide +kernel)) ggX8_choose_X8_cost
set_option maxRecDepth 20000 in
theorem ggX8_choose_X8_acted : GoodIn wsX8_choose wsX8_acted := goodIn_r _ [89, 90, 91, 26, 92, 93, 94, 95, 96, 97, 98, 99, 100, 101, 102, 103, 104, 105, 106, 107] (by decide +kernel) (by decide +kernel)
set_option maxRecDepth 20000 in
theorem gX8_choose_X8_acted : GoodIn wsX8_choose (wsV RX8 152 RX8 yX8_acted wsX8_acted) := goodIn_app (goodIn_of _ (by decide +kernel)) ggX8_choose_X8_acted
theorem dX8_choose_0 : decode cX8_choose 0 = .ok (.aload_n 0, 1) := by decide +kernel
theorem dX8_choose_1 : decode cX8_choose 1 = .ok (.iload_n 1, 1) := by decide +kernel
theorem dX8_choose_2 : decode cX8_choose 2 = .ok (.invokevirtual 155, 3) := by decide +kernel
theorem dX8_choose_5 : decode cX8_choose 5 = .ok (.ifCond .ne 5, 3) := by decide +kernel
theorem dX8_choose_8 : decode cX8_choose 8 = .ok (.iconst (-1), 1) := by decide +kernel
theorem dX8_choose_9 : decode cX8_choose 9 = .ok (.ireturn, 1) := by decide +kernel
theorem dX8_choose_10 : decode cX8_choose 10 = .ok (.aload_n 0, 1) := by decide +kernel
theorem dX8_choose_11 : decode cX8_choose 11 = .ok (.iload_n 1, 1) := by decide +kernel
theorem dX8_choose_12 : decode cX8_choose 12 = .ok (.iload_n 3, 1) := by decide +kernel
theorem dX8_choose_13 : decode cX8_choose 13 = .ok (.invokevirtual 165, 3) := by decide +kernel
theorem dX8_choose_16 : decode cX8_choose 16 = .ok (.ifCond .ne 6, 3) := by decide +kernel
theorem dX8_choose_19 : decode cX8_choose 19 = .ok (.bipush (-2), 2) := by decide +kernel
theorem dX8_choose_21 : decode cX8_choose 21 = .ok (.ireturn, 1) := by decide +kernel
theorem dX8_choose_22 : decode cX8_choose 22 = .ok (.iload_n 2, 1) := by decide +kernel
theorem dX8_choose_23 : decode cX8_choose 23 = .ok (.ifCond .eq 7, 3) := by decide +kernel
theorem dX8_choose_26 : decode cX8_choose 26 = .ok (.iconst 1, 1) := by decide +kernel
theorem dX8_choose_27 : decode cX8_choose 27 = .ok (.goto 4, 3) := by decide +kernel
theorem dX8_choose_30 : decode cX8_choose 30 = .ok (.iconst 0, 1) := by decide +kernel
theorem dX8_choose_31 : decode cX8_choose 31 = .ok (.istore 4, 2) := by decide +kernel
theorem dX8_choose_33 : decode cX8_choose 33 = .ok (.aload_n 0, 1) := by decide +kernel
theorem dX8_choose_34 : decode cX8_choose 34 = .ok (.getfield 7, 3) := by decide +kernel
theorem dX8_choose_37 : decode cX8_choose 37 = .ok (.bipush 30, 2) := by decide +kernel
theorem dX8_choose_39 : decode cX8_choose 39 = .ok (.iload_n 1, 1) := by decide +kernel
theorem dX8_choose_40 : decode cX8_choose 40 = .ok (.iadd, 1) := by decide +kernel
theorem dX8_choose_41 : decode cX8_choose 41 = .ok (.iaload, 1) := by decide +kernel
theorem dX8_choose_42 : decode cX8_choose 42 = .ok (.iload 4, 2) := by decide +kernel
theorem dX8_choose_44 : decode cX8_choose 44 = .ok (.if_icmp .ne 19, 3) := by decide +kernel
theorem dX8_choose_47 : decode cX8_choose 47 = .ok (.aload_n 0, 1) := by decide +kernel
theorem dX8_choose_48 : decode cX8_choose 48 = .ok (.getfield 7, 3) := by decide +kernel
theorem dX8_choose_51 : decode cX8_choose 51 = .ok (.bipush 42, 2) := by decide +kernel
theorem dX8_choose_53 : decode cX8_choose 53 = .ok (.iload_n 1, 1) := by decide +kernel
theorem dX8_choose_54 : decode cX8_choose 54 = .ok (.iadd, 1) := by decide +kernel
theorem dX8_choose_55 : decode cX8_choose 55 = .ok (.iaload, 1) := by decide +kernel
theorem dX8_choose_56 : decode cX8_choose 56 = .ok (.iload_n 3, 1) := by decide +kernel
theorem dX8_choose_57 : decode cX8_choose 57 = .ok (.if_icmp .ne 6, 3) := by decide +kernel
theorem dX8_choose_60 : decode cX8_choose 60 = .ok (.bipush (-5), 2) := by decide +kernel
theorem dX8_choose_62 : decode cX8_choose 62 = .ok (.ireturn, 1) := by decide +kernel
theorem dX8_choose_63 : decode cX8_choose 63 = .ok (.aload_n 0, 1) := by decide +kernel
theorem dX8_choose_64 : decode cX8_choose 64 = .ok (.invokevirtual 145, 3) := by decide +kernel
theorem dX8_choose_67 : decode cX8_choose 67 = .ok (.aload_n 0, 1) := by decide +kernel
theorem dX8_choose_68 : decode cX8_choose 68 = .ok (.getfield 7, 3) := by decide +kernel
theorem dX8_choose_71 : decode cX8_choose 71 = .ok (.bipush 30, 2) := by decide +kernel
theorem dX8_choose_73 : decode cX8_choose 73 = .ok (.iload_n 1, 1) := by decide +kernel
theorem dX8_choose_74 : decode cX8_choose 74 = .ok (.iadd, 1) := by decide +kernel
theorem dX8_choose_75 : decode cX8_choose 75 = .ok (.iload 4, 2) := by decide +kernel
theorem dX8_choose_77 : decode cX8_choose 77 = .ok (.iastore, 1) := by decide +kernel
theorem dX8_choose_78 : decode cX8_choose 78 = .ok (.aload_n 0, 1) := by decide +kernel
theorem dX8_choose_79 : decode cX8_choose 79 = .ok (.getfield 7, 3) := by decide +kernel
theorem dX8_choose_82 : decode cX8_choose 82 = .ok (.bipush 42, 2) := by decide +kernel
theorem dX8_choose_84 : decode cX8_choose 84 = .ok (.iload_n 1, 1) := by decide +kernel
theorem dX8_choose_85 : decode cX8_choose 85 = .ok (.iadd, 1) := by decide +kernel
theorem dX8_choose_86 : decode cX8_choose 86 = .ok (.iload_n 3, 1) := by decide +kernel
theorem dX8_choose_87 : decode cX8_choose 87 = .ok (.iastore, 1) := by decide +kernel
theorem dX8_choose_88 : decode cX8_choose 88 = .ok (.aload_n 0, 1) := by decide +kernel
theorem dX8_choose_89 : decode cX8_choose 89 = .ok (.aload_n 0, 1) := by decide +kernel
theorem dX8_choose_90 : decode cX8_choose 90 = .ok (.invokevirtual 162, 3) := by decide +kernel
theorem dX8_choose_93 : decode cX8_choose 93 = .ok (.invokevirtual 152, 3) := by decide +kernel
theorem dX8_choose_96 : decode cX8_choose 96 = .ok (.ireturn, 1) := by decide +kernel
theorem dX8_isAsKept_0 : decode cX8_isAsKept 0 = .ok (.iconst 1, 1) := by decide +kernel
theorem dX8_isAsKept_1 : decode cX8_isAsKept 1 = .ok (.istore_n 1, 1) := by decide +kernel
theorem dX8_isAsKept_2 : decode cX8_isAsKept 2 = .ok (.iconst 0, 1) := by decide +kernel
theorem dX8_isAsKept_3 : decode cX8_isAsKept 3 = .ok (.istore_n 2, 1) := by decide +kernel
theorem dX8_isAsKept_4 : decode cX8_isAsKept 4 = .ok (.iload_n 2, 1) := by decide +kernel
theorem dX8_isAsKept_5 : decode cX8_isAsKept 5 = .ok (.bipush 54, 2) := by decide +kernel
theorem dX8_isAsKept_7 : decode cX8_isAsKept 7 = .ok (.if_icmp .ge 34, 3) := by decide +kernel
theorem dX8_isAsKept_10 : decode cX8_isAsKept 10 = .ok (.iload_n 1, 1) := by decide +kernel
theorem dX8_isAsKept_11 : decode cX8_isAsKept 11 = .ok (.ifCond .eq 22, 3) := by decide +kernel
theorem dX8_isAsKept_14 : decode cX8_isAsKept 14 = .ok (.aload_n 0, 1) := by decide +kernel
theorem dX8_isAsKept_15 : decode cX8_isAsKept 15 = .ok (.getfield 7, 3) := by decide +kernel
theorem dX8_isAsKept_18 : decode cX8_isAsKept 18 = .ok (.iload_n 2, 1) := by decide +kernel
theorem dX8_isAsKept_19 : decode cX8_isAsKept 19 = .ok (.iaload, 1) := by decide +kernel
theorem dX8_isAsKept_20 : decode cX8_isAsKept 20 = .ok (.aload_n 0, 1) := by decide +kernel
theorem dX8_isAsKept_21 : decode cX8_isAsKept 21 = .ok (.getfield 13, 3) := by decide +kernel
theorem dX8_isAsKept_24 : decode cX8_isAsKept 24 = .ok (.iload_n 2, 1) := by decide +kernel
theorem dX8_isAsKept_25 : decode cX8_isAsKept 25 = .ok (.iaload, 1) := by decide +kernel
theorem dX8_isAsKept_26 : decode cX8_isAsKept 26 = .ok (.if_icmp .ne 7, 3) := by decide +kernel
theorem dX8_isAsKept_29 : decode cX8_isAsKept 29 = .ok (.iconst 1, 1) := by decide +kernel
theorem dX8_isAsKept_30 : decode cX8_isAsKept 30 = .ok (.goto 4, 3) := by decide +kernel
theorem dX8_isAsKept_33 : decode cX8_isAsKept 33 = .ok (.iconst 0, 1) := by decide +kernel
theorem dX8_isAsKept_34 : decode cX8_isAsKept 34 = .ok (.istore_n 1, 1) := by decide +kernel
theorem dX8_isAsKept_35 : decode cX8_isAsKept 35 = .ok (.iinc 2 1, 3) := by decide +kernel
theorem dX8_isAsKept_38 : decode cX8_isAsKept 38 = .ok (.goto (-34), 3) := by decide +kernel
theorem dX8_isAsKept_41 : decode cX8_isAsKept 41 = .ok (.iload_n 1, 1) := by decide +kernel
theorem dX8_isAsKept_42 : decode cX8_isAsKept 42 = .ok (.ireturn, 1) := by decide +kernel
set_option maxRecDepth 20000 in
theorem ggX8_plan_X8_leastOfAll : GoodIn wsX8_plan wsX8_leastOfAll := goodIn_r _ [6, 7, 8, 9, 10, 5, 11, 12, 1, 13, 14, 15, 16, 17, 18, 19, 20, 21, 22, 23, 24, 25, 26, 27, 28, 29, 30, 31, 32, 33, 34, 35, 36, 37, 38, 39, 40, 41, 42, 43, 44, 45, 46, 47, 48, 49, 50, 51, 52, 53, 54, 55, 56, 57, 58, 59, 60, 61, 120, 121, 122, 123, 124, 125, 126, 127, 128, 129, 130, 131, 132, 133, 134, 135] (by decide +kernel) (by decide +kernel)
set_option maxRecDepth 20000 in
theorem gX8_plan_X8_leastOfAll : GoodIn wsX8_plan (wsV RX8 168 RX8 yX8_leastOfAll wsX8_leastOfAll) := goodIn_app (goodIn_of _ (by decide +kernel)) ggX8_plan_X8_leastOfAll
set_option maxRecDepth 20000 in
theorem ggX8_plan_X8_remember : GoodIn wsX8_plan wsX8_remember := goodIn_r _ [65, 12, 66, 67, 68, 5, 69, 120, 121, 122, 123, 124, 125, 126, 127, 128, 129, 130, 131, 132, 133, 134, 135] (by decide +kernel) (by decide +kernel)
set_option maxRecDepth 20000 in
theorem gX8_plan_X8_remember : GoodIn wsX8_plan (wsV RX8 145 RX8 yX8_remember wsX8_remember) := goodIn_app (goodIn_of _ (by decide +kernel)) ggX8_plan_X8_remember
set_option maxRecDepth 20000 in
theorem ggX8_plan_X8_chooses : GoodIn wsX8_plan wsX8_chooses := goodIn_r _ [73, 12, 7, 41, 42, 13, 14, 5, 15, 36, 37, 38, 39, 40, 1, 24, 25, 26, 27, 28, 29, 30, 31, 32, 33, 34, 35, 43, 44, 45, 46, 47, 48, 49, 50, 51, 52, 53, 54, 55, 56, 57, 58, 59, 60, 61, 120, 121, 122, 123, 124, 125, 126, 127, 128, 129, 130, 131, 132, 133, 134, 135] (by decide +kernel) (by decide +kernel)
set_option maxRecDepth 20000 in
theorem gX8_plan_X8_chooses : GoodIn wsX8_plan (wsV RX8 171 RX8 yX8_chooses wsX8_chooses) := goodIn_app (goodIn_of _ (by decide +kernel)) ggX8_plan_X8_chooses
set_option maxRecDepth 20000 in
theorem ggX8_plan_X8_isAsKept : GoodIn wsX8_plan wsX8_isAsKept := goodIn_r _ [77, 12, 66, 120, 121, 122, 123, 124, 125, 126, 127, 128, 129, 130, 131, 132, 133, 134, 135] (by decide +kernel) (by decide +kernel)
set_option maxRecDepth 20000 in
theorem gX8_plan_X8_isAsKept : GoodIn wsX8_plan (wsV RX8 174 RX8 yX8_isAsKept wsX8_isAsKept) := goodIn_app (goodIn_of _ (by decide +kernel)) ggX8_plan_X8_isAsKept
set_option maxRecDepth 20000 in
theorem ggX8_plan_X8_cost : GoodIn wsX8_plan wsX8_cost := goodIn_r _ [81, 82, 83, 84, 5, 85, 86, 87, 88, 89, 12, 47, 48, 49, 50, 32, 33, 34, 35, 28, 29, 30, 31, 16, 17, 18, 19, 90, 91, 92, 93, 94, 95, 96, 97, 98, 99, 100, 101, 102, 103, 104, 105, 106, 107, 108, 109, 54, 55, 56, 57, 58, 59, 60, 61, 110, 111, 112, 113, 20, 21, 22, 23, 120, 121, 122, 123, 124, 125, 126, 127, 128, 129, 130, 131, 132, 133, 134, 135] (by decide +kernel) (by decide +kernel)
set_option maxRecDepth 20000 in
theorem gX8_plan_X8_cost : GoodIn wsX8_plan (wsV RX8 162 RX8 yX8_cost wsX8_cost) := goodIn_app (goodIn_of _ (by decide +kernel)) ggX8_plan_X8_cost
set_option maxRecDepth 20000 in
theorem ggX8_plan_X8_acted : GoodIn wsX8_plan wsX8_acted := goodIn_r _ [117, 118, 119, 66, 120, 121, 122, 123, 124, 125, 126, 127, 128, 129, 130, 131, 132, 133, 134, 135] (by decide +kernel) (by decide +kernel)
set_option maxRecDepth 20000 in
theorem gX8_plan_X8_acted : GoodIn wsX8_plan (wsV RX8 152 RX8 yX8_acted wsX8_acted) := goodIn_app (goodIn_of _ (by decide +kernel)) ggX8_plan_X8_acted
theorem dX8_plan_0 : decode cX8_plan 0 = .ok (.aload_n 0, 1) := by decide +kernel
theorem dX8_plan_1 : decode cX8_plan 1 = .ok (.invokevirtual 168, 3) := by decide +kernel
theorem dX8_plan_4 : decode cX8_plan 4 = .ok (.ldc 130, 2) := by decide +kernel
theorem dX8_plan_6 : decode cX8_plan 6 = .ok (.if_icmp .lt 6, 3) := by decide +kernel
theorem dX8_plan_9 : decode cX8_plan 9 = .ok (.bipush (-4), 2) := by decide +kernel
theorem dX8_plan_11 : decode cX8_plan 11 = .ok (.ireturn, 1) := by decide +kernel
theorem dX8_plan_12 : decode cX8_plan 12 = .ok (.aload_n 0, 1) := by decide +kernel
theorem dX8_plan_13 : decode cX8_plan 13 = .ok (.invokevirtual 145, 3) := by decide +kernel
theorem dX8_plan_16 : decode cX8_plan 16 = .ok (.aload_n 0, 1) := by decide +kernel
theorem dX8_plan_17 : decode cX8_plan 17 = .ok (.invokevirtual 171, 3) := by decide +kernel
theorem dX8_plan_20 : decode cX8_plan 20 = .ok (.aload_n 0, 1) := by decide +kernel
theorem dX8_plan_21 : decode cX8_plan 21 = .ok (.invokevirtual 174, 3) := by decide +kernel
theorem dX8_plan_24 : decode cX8_plan 24 = .ok (.ifCond .eq 8, 3) := by decide +kernel
theorem dX8_plan_27 : decode cX8_plan 27 = .ok (.bipush (-5), 2) := by decide +kernel
theorem dX8_plan_29 : decode cX8_plan 29 = .ok (.goto 11, 3) := by decide +kernel
theorem dX8_plan_32 : decode cX8_plan 32 = .ok (.aload_n 0, 1) := by decide +kernel
theorem dX8_plan_33 : decode cX8_plan 33 = .ok (.aload_n 0, 1) := by decide +kernel
theorem dX8_plan_34 : decode cX8_plan 34 = .ok (.invokevirtual 162, 3) := by decide +kernel
theorem dX8_plan_37 : decode cX8_plan 37 = .ok (.invokevirtual 152, 3) := by decide +kernel
theorem dX8_plan_40 : decode cX8_plan 40 = .ok (.ireturn, 1) := by decide +kernel
set_option maxRecDepth 20000 in
theorem ggX8_isSetting_X8_in : GoodIn wsX8_isSetting wsX8_in := goodIn_r _ [6] (by decide +kernel) (by decide +kernel)
set_option maxRecDepth 20000 in
theorem gX8_isSetting_X8_in : GoodIn wsX8_isSetting (va_wsS RX8 42 yX8_in wsX8_in) := goodIn_app (goodIn_of _ (by decide +kernel)) ggX8_isSetting_X8_in
theorem dX8_isSetting_0 : decode cX8_isSetting 0 = .ok (.iload_n 0, 1) := by decide +kernel
theorem dX8_isSetting_1 : decode cX8_isSetting 1 = .ok (.ifCond .ne 28, 3) := by decide +kernel
theorem dX8_isSetting_4 : decode cX8_isSetting 4 = .ok (.iload_n 1, 1) := by decide +kernel
theorem dX8_isSetting_5 : decode cX8_isSetting 5 = .ok (.iconst 4, 1) := by decide +kernel
theorem dX8_isSetting_6 : decode cX8_isSetting 6 = .ok (.if_icmp .eq 15, 3) := by decide +kernel
theorem dX8_isSetting_9 : decode cX8_isSetting 9 = .ok (.iload_n 1, 1) := by decide +kernel
theorem dX8_isSetting_10 : decode cX8_isSetting 10 = .ok (.bipush 8, 2) := by decide +kernel
theorem dX8_isSetting_12 : decode cX8_isSetting 12 = .ok (.if_icmp .eq 9, 3) := by decide +kernel
theorem dX8_isSetting_15 : decode cX8_isSetting 15 = .ok (.iload_n 1, 1) := by decide +kernel
theorem dX8_isSetting_16 : decode cX8_isSetting 16 = .ok (.bipush 16, 2) := by decide +kernel
theorem dX8_isSetting_18 : decode cX8_isSetting 18 = .ok (.if_icmp .ne 7, 3) := by decide +kernel
theorem dX8_isSetting_21 : decode cX8_isSetting 21 = .ok (.iconst 1, 1) := by decide +kernel
theorem dX8_isSetting_22 : decode cX8_isSetting 22 = .ok (.goto 27, 3) := by decide +kernel
theorem dX8_isSetting_25 : decode cX8_isSetting 25 = .ok (.iconst 0, 1) := by decide +kernel
theorem dX8_isSetting_26 : decode cX8_isSetting 26 = .ok (.goto 23, 3) := by decide +kernel
theorem dX8_isSetting_29 : decode cX8_isSetting 29 = .ok (.iload_n 1, 1) := by decide +kernel
theorem dX8_isSetting_30 : decode cX8_isSetting 30 = .ok (.i2l, 1) := by decide +kernel
theorem dX8_isSetting_31 : decode cX8_isSetting 31 = .ok (.lconst 0, 1) := by decide +kernel
theorem dX8_isSetting_32 : decode cX8_isSetting 32 = .ok (.iload_n 0, 1) := by decide +kernel
theorem dX8_isSetting_33 : decode cX8_isSetting 33 = .ok (.iconst 4, 1) := by decide +kernel
theorem dX8_isSetting_34 : decode cX8_isSetting 34 = .ok (.if_icmp .ne 9, 3) := by decide +kernel
theorem dX8_isSetting_37 : decode cX8_isSetting 37 = .ok (.ldc2_w 178, 3) := by decide +kernel
theorem dX8_isSetting_40 : decode cX8_isSetting 40 = .ok (.goto 6, 3) := by decide +kernel
theorem dX8_isSetting_43 : decode cX8_isSetting 43 = .ok (.ldc2_w 180, 3) := by decide +kernel
theorem dX8_isSetting_46 : decode cX8_isSetting 46 = .ok (.invokestatic 42, 3) := by decide +kernel
theorem dX8_isSetting_49 : decode cX8_isSetting 49 = .ok (.ireturn, 1) := by decide +kernel
set_option maxRecDepth 20000 in
theorem ggX8_set_X8_in : GoodIn wsX8_set wsX8_in := goodIn_r _ [6] (by decide +kernel) (by decide +kernel)
set_option maxRecDepth 20000 in
theorem gX8_set_X8_in : GoodIn wsX8_set (va_wsS RX8 42 yX8_in wsX8_in) := goodIn_app (goodIn_of _ (by decide +kernel)) ggX8_set_X8_in
set_option maxRecDepth 20000 in
theorem ggX8_set_X8_isSetting : GoodIn wsX8_set wsX8_isSetting := goodIn_r _ [9, 10, 11, 3, 4, 5, 6] (by decide +kernel) (by decide +kernel)
set_option maxRecDepth 20000 in
theorem gX8_set_X8_isSetting : GoodIn wsX8_set (va_wsS RX8 184 yX8_isSetting wsX8_isSetting) := goodIn_app (goodIn_of _ (by decide +kernel)) ggX8_set_X8_isSetting
set_option maxRecDepth 20000 in
theorem ggX8_set_X8_remember : GoodIn wsX8_set wsX8_remember := goodIn_r _ [15, 2, 16, 17, 18, 5, 19, 26, 27, 28, 29, 30, 31, 32, 33, 34, 35, 36, 37, 38, 39, 40, 41] (by decide +kernel) (by decide +kernel)
set_option maxRecDepth 20000 in
theorem gX8_set_X8_remember : GoodIn wsX8_set (wsV RX8 145 RX8 yX8_remember wsX8_remember) := goodIn_app (goodIn_of _ (by decide +kernel)) ggX8_set_X8_remember
set_option maxRecDepth 20000 in
theorem ggX8_set_X8_acted : GoodIn wsX8_set wsX8_acted := goodIn_r _ [23, 24, 25, 16, 26, 27, 28, 29, 30, 31, 32, 33, 34, 35, 36, 37, 38, 39, 40, 41] (by decide +kernel) (by decide +kernel)
set_option maxRecDepth 20000 in
theorem gX8_set_X8_acted : GoodIn wsX8_set (wsV RX8 152 RX8 yX8_acted wsX8_acted) := goodIn_app (goodIn_of _ (by decide +kernel)) ggX8_set_X8_acted
theorem dX8_set_0 : decode cX8_set 0 = .ok (.iload_n 1, 1) := by decide +kernel
theorem dX8_set_1 : decode cX8_set 1 = .ok (.i2l, 1) := by decide +kernel
theorem dX8_set_2 : decode cX8_set 2 = .ok (.lconst 0, 1) := by decide +kernel
theorem dX8_set_3 : decode cX8_set 3 = .ok (.ldc2_w 182, 3) := by decide +kernel
theorem dX8_set_6 : decode cX8_set 6 = .ok (.invokestatic 42, 3) := by decide +kernel
theorem dX8_set_9 : decode cX8_set 9 = .ok (.ifCond .ne 5, 3) := by decide +kernel
theorem dX8_set_12 : decode cX8_set 12 = .ok (.iconst (-1), 1) := by decide +kernel
theorem dX8_set_13 : decode cX8_set 13 = .ok (.ireturn, 1) := by decide +kernel
theorem dX8_set_14 : decode cX8_set 14 = .ok (.iload_n 1, 1) := by decide +kernel
theorem dX8_set_15 : decode cX8_set 15 = .ok (.iload_n 2, 1) := by decide +kernel
theorem dX8_set_16 : decode cX8_set 16 = .ok (.invokestatic 184, 3) := by decide +kernel
theorem dX8_set_19 : decode cX8_set 19 = .ok (.ifCond .ne 6, 3) := by decide +kernel
theorem dX8_set_22 : decode cX8_set 22 = .ok (.bipush (-2), 2) := by decide +kernel
theorem dX8_set_24 : decode cX8_set 24 = .ok (.ireturn, 1) := by decide +kernel
theorem dX8_set_25 : decode cX8_set 25 = .ok (.aload_n 0, 1) := by decide +kernel
theorem dX8_set_26 : decode cX8_set 26 = .ok (.getfield 7, 3) := by decide +kernel
theorem dX8_set_29 : decode cX8_set 29 = .ok (.iload_n 1, 1) := by decide +kernel
theorem dX8_set_30 : decode cX8_set 30 = .ok (.iaload, 1) := by decide +kernel
theorem dX8_set_31 : decode cX8_set 31 = .ok (.istore_n 3, 1) := by decide +kernel
theorem dX8_set_32 : decode cX8_set 32 = .ok (.iload_n 3, 1) := by decide +kernel
theorem dX8_set_33 : decode cX8_set 33 = .ok (.iload_n 2, 1) := by decide +kernel
theorem dX8_set_34 : decode cX8_set 34 = .ok (.if_icmp .ne 6, 3) := by decide +kernel
theorem dX8_set_37 : decode cX8_set 37 = .ok (.bipush (-5), 2) := by decide +kernel
theorem dX8_set_39 : decode cX8_set 39 = .ok (.ireturn, 1) := by decide +kernel
theorem dX8_set_40 : decode cX8_set 40 = .ok (.aload_n 0, 1) := by decide +kernel
theorem dX8_set_41 : decode cX8_set 41 = .ok (.invokevirtual 145, 3) := by decide +kernel
theorem dX8_set_44 : decode cX8_set 44 = .ok (.aload_n 0, 1) := by decide +kernel
theorem dX8_set_45 : decode cX8_set 45 = .ok (.getfield 7, 3) := by decide +kernel
theorem dX8_set_48 : decode cX8_set 48 = .ok (.iload_n 1, 1) := by decide +kernel
theorem dX8_set_49 : decode cX8_set 49 = .ok (.iload_n 2, 1) := by decide +kernel
theorem dX8_set_50 : decode cX8_set 50 = .ok (.iastore, 1) := by decide +kernel
theorem dX8_set_51 : decode cX8_set 51 = .ok (.aload_n 0, 1) := by decide +kernel
theorem dX8_set_52 : decode cX8_set 52 = .ok (.iload_n 3, 1) := by decide +kernel
theorem dX8_set_53 : decode cX8_set 53 = .ok (.invokevirtual 152, 3) := by decide +kernel
theorem dX8_set_56 : decode cX8_set 56 = .ok (.ireturn, 1) := by decide +kernel
theorem dX8_type_0 : decode cX8_type 0 = .ok (.aload_n 0, 1) := by decide +kernel
theorem dX8_type_1 : decode cX8_type 1 = .ok (.getfield 187, 3) := by decide +kernel
theorem dX8_type_4 : decode cX8_type 4 = .ok (.bipush 60, 2) := by decide +kernel
theorem dX8_type_6 : decode cX8_type 6 = .ok (.if_icmp .ne 6, 3) := by decide +kernel
theorem dX8_type_9 : decode cX8_type 9 = .ok (.bipush (-3), 2) := by decide +kernel
theorem dX8_type_11 : decode cX8_type 11 = .ok (.ireturn, 1) := by decide +kernel
theorem dX8_type_12 : decode cX8_type 12 = .ok (.aload_n 0, 1) := by decide +kernel
theorem dX8_type_13 : decode cX8_type 13 = .ok (.getfield 28, 3) := by decide +kernel
theorem dX8_type_16 : decode cX8_type 16 = .ok (.aload_n 0, 1) := by decide +kernel
theorem dX8_type_17 : decode cX8_type 17 = .ok (.getfield 187, 3) := by decide +kernel
theorem dX8_type_20 : decode cX8_type 20 = .ok (.iload_n 1, 1) := by decide +kernel
theorem dX8_type_21 : decode cX8_type 21 = .ok (.iastore, 1) := by decide +kernel
theorem dX8_type_22 : decode cX8_type 22 = .ok (.aload_n 0, 1) := by decide +kernel
theorem dX8_type_23 : decode cX8_type 23 = .ok (.dup, 1) := by decide +kernel
theorem dX8_type_24 : decode cX8_type 24 = .ok (.getfield 187, 3) := by decide +kernel
theorem dX8_type_27 : decode cX8_type 27 = .ok (.iconst 1, 1) := by decide +kernel
theorem dX8_type_28 : decode cX8_type 28 = .ok (.iadd, 1) := by decide +kernel
theorem dX8_type_29 : decode cX8_type 29 = .ok (.putfield 187, 3) := by decide +kernel
theorem dX8_type_32 : decode cX8_type 32 = .ok (.aload_n 0, 1) := by decide +kernel
theorem dX8_type_33 : decode cX8_type 33 = .ok (.getfield 187, 3) := by decide +kernel
theorem dX8_type_36 : decode cX8_type 36 = .ok (.ireturn, 1) := by decide +kernel
theorem dX8_clearText_0 : decode cX8_clearText 0 = .ok (.aload_n 0, 1) := by decide +kernel
theorem dX8_clearText_1 : decode cX8_clearText 1 = .ok (.getfield 187, 3) := by decide +kernel
theorem dX8_clearText_4 : decode cX8_clearText 4 = .ok (.istore_n 1, 1) := by decide +kernel
theorem dX8_clearText_5 : decode cX8_clearText 5 = .ok (.aload_n 0, 1) := by decide +kernel
theorem dX8_clearText_6 : decode cX8_clearText 6 = .ok (.iconst 0, 1) := by decide +kernel
theorem dX8_clearText_7 : decode cX8_clearText 7 = .ok (.putfield 187, 3) := by decide +kernel
theorem dX8_clearText_10 : decode cX8_clearText 10 = .ok (.iload_n 1, 1) := by decide +kernel
theorem dX8_clearText_11 : decode cX8_clearText 11 = .ok (.ireturn, 1) := by decide +kernel
set_option maxRecDepth 20000 in
theorem ggX8_isHere_X8_in : GoodIn wsX8_isHere wsX8_in := goodIn_r _ [7] (by decide +kernel) (by decide +kernel)
set_option maxRecDepth 20000 in
theorem gX8_isHere_X8_in : GoodIn wsX8_isHere (va_wsS RX8 42 yX8_in wsX8_in) := goodIn_app (goodIn_of _ (by decide +kernel)) ggX8_isHere_X8_in
theorem dX8_isHere_0 : decode cX8_isHere 0 = .ok (.aload_n 0, 1) := by decide +kernel
theorem dX8_isHere_1 : decode cX8_isHere 1 = .ok (.getfield 190, 3) := by decide +kernel
theorem dX8_isHere_4 : decode cX8_isHere 4 = .ok (.aload_n 0, 1) := by decide +kernel
theorem dX8_isHere_5 : decode cX8_isHere 5 = .ok (.getfield 187, 3) := by decide +kernel
theorem dX8_isHere_8 : decode cX8_isHere 8 = .ok (.if_icmp .ge 27, 3) := by decide +kernel
theorem dX8_isHere_11 : decode cX8_isHere 11 = .ok (.aload_n 0, 1) := by decide +kernel
theorem dX8_isHere_12 : decode cX8_isHere 12 = .ok (.getfield 28, 3) := by decide +kernel
theorem dX8_isHere_15 : decode cX8_isHere 15 = .ok (.aload_n 0, 1) := by decide +kernel
theorem dX8_isHere_16 : decode cX8_isHere 16 = .ok (.getfield 190, 3) := by decide +kernel
theorem dX8_isHere_19 : decode cX8_isHere 19 = .ok (.iaload, 1) := by decide +kernel
theorem dX8_isHere_20 : decode cX8_isHere 20 = .ok (.i2l, 1) := by decide +kernel
theorem dX8_isHere_21 : decode cX8_isHere 21 = .ok (.iload_n 1, 1) := by decide +kernel
theorem dX8_isHere_22 : decode cX8_isHere 22 = .ok (.i2l, 1) := by decide +kernel
theorem dX8_isHere_23 : decode cX8_isHere 23 = .ok (.iload_n 2, 1) := by decide +kernel
theorem dX8_isHere_24 : decode cX8_isHere 24 = .ok (.i2l, 1) := by decide +kernel
theorem dX8_isHere_25 : decode cX8_isHere 25 = .ok (.invokestatic 42, 3) := by decide +kernel
theorem dX8_isHere_28 : decode cX8_isHere 28 = .ok (.ifCond .eq 7, 3) := by decide +kernel
theorem dX8_isHere_31 : decode cX8_isHere 31 = .ok (.iconst 1, 1) := by decide +kernel
theorem dX8_isHere_32 : decode cX8_isHere 32 = .ok (.goto 4, 3) := by decide +kernel
theorem dX8_isHere_35 : decode cX8_isHere 35 = .ok (.iconst 0, 1) := by decide +kernel
theorem dX8_isHere_36 : decode cX8_isHere 36 = .ok (.ireturn, 1) := by decide +kernel
set_option maxRecDepth 20000 in
theorem ggX8_takes_X8_isHere : GoodIn wsX8_takes wsX8_isHere := goodIn_r _ [6, 1, 7, 8, 9, 10, 5, 11, 12, 13, 14, 15, 16, 17, 18, 19, 20, 21, 22, 23, 24, 25, 26, 27] (by decide +kernel) (by decide +kernel)
set_option maxRecDepth 20000 in
theorem gX8_takes_X8_isHere : GoodIn wsX8_takes (wsV RX8 193 RX8 yX8_isHere wsX8_isHere) := goodIn_app (goodIn_of _ (by decide +kernel)) ggX8_takes_X8_isHere
theorem dX8_takes_0 : decode cX8_takes 0 = .ok (.aload_n 0, 1) := by decide +kernel
theorem dX8_takes_1 : decode cX8_takes 1 = .ok (.iload_n 1, 1) := by decide +kernel
theorem dX8_takes_2 : decode cX8_takes 2 = .ok (.iload_n 1, 1) := by decide +kernel
theorem dX8_takes_3 : decode cX8_takes 3 = .ok (.invokevirtual 193, 3) := by decide +kernel
theorem dX8_takes_6 : decode cX8_takes 6 = .ok (.istore_n 2, 1) := by decide +kernel
theorem dX8_takes_7 : decode cX8_takes 7 = .ok (.aload_n 0, 1) := by decide +kernel
theorem dX8_takes_8 : decode cX8_takes 8 = .ok (.dup, 1) := by decide +kernel
theorem dX8_takes_9 : decode cX8_takes 9 = .ok (.getfield 190, 3) := by decide +kernel
theorem dX8_takes_12 : decode cX8_takes 12 = .ok (.iload_n 2, 1) := by decide +kernel
theorem dX8_takes_13 : decode cX8_takes 13 = .ok (.ifCond .eq 7, 3) := by decide +kernel
theorem dX8_takes_16 : decode cX8_takes 16 = .ok (.iconst 1, 1) := by decide +kernel
theorem dX8_takes_17 : decode cX8_takes 17 = .ok (.goto 4, 3) := by decide +kernel
theorem dX8_takes_20 : decode cX8_takes 20 = .ok (.iconst 0, 1) := by decide +kernel
theorem dX8_takes_21 : decode cX8_takes 21 = .ok (.iadd, 1) := by decide +kernel
theorem dX8_takes_22 : decode cX8_takes 22 = .ok (.putfield 190, 3) := by decide +kernel
theorem dX8_takes_25 : decode cX8_takes 25 = .ok (.iload_n 2, 1) := by decide +kernel
theorem dX8_takes_26 : decode cX8_takes 26 = .ok (.ireturn, 1) := by decide +kernel
set_option maxRecDepth 20000 in
theorem ggX8_readsLot_X8_isHere : GoodIn wsX8_readsLot wsX8_isHere := goodIn_r _ [9, 2, 10, 1, 11, 12, 8, 13, 18, 19, 20, 21, 22, 23, 24, 25, 26, 27, 28, 29, 30, 31, 32, 33] (by decide +kernel) (by decide +kernel)
set_option maxRecDepth 20000 in
theorem gX8_readsLot_X8_isHere : GoodIn wsX8_readsLot (wsV RX8 193 RX8 yX8_isHere wsX8_isHere) := goodIn_app (goodIn_of _ (by decide +kernel)) ggX8_readsLot_X8_isHere
set_option maxRecDepth 20000 in
theorem ggX8_readsLot_X8_takes : GoodIn wsX8_readsLot wsX8_takes := goodIn_r _ [17, 2, 5, 6, 7, 8, 9, 10, 1, 11, 12, 13, 18, 19, 20, 21, 22, 23, 24, 25, 26, 27, 28, 29, 30, 31, 32, 33] (by decide +kernel) (by decide +kernel)
set_option maxRecDepth 20000 in
theorem gX8_readsLot_X8_takes : GoodIn wsX8_readsLot (wsV RX8 196 RX8 yX8_takes wsX8_takes) := goodIn_app (goodIn_of _ (by decide +kernel)) ggX8_readsLot_X8_takes
theorem dX8_readsLot_0 : decode cX8_readsLot 0 = .ok (.aload_n 0, 1) := by decide +kernel
theorem dX8_readsLot_1 : decode cX8_readsLot 1 = .ok (.bipush 49, 2) := by decide +kernel
theorem dX8_readsLot_3 : decode cX8_readsLot 3 = .ok (.bipush 51, 2) := by decide +kernel
theorem dX8_readsLot_5 : decode cX8_readsLot 5 = .ok (.invokevirtual 193, 3) := by decide +kernel
theorem dX8_readsLot_8 : decode cX8_readsLot 8 = .ok (.ifCond .ne 5, 3) := by decide +kernel
theorem dX8_readsLot_11 : decode cX8_readsLot 11 = .ok (.iconst 0, 1) := by decide +kernel
theorem dX8_readsLot_12 : decode cX8_readsLot 12 = .ok (.ireturn, 1) := by decide +kernel
theorem dX8_readsLot_13 : decode cX8_readsLot 13 = .ok (.aload_n 0, 1) := by decide +kernel
theorem dX8_readsLot_14 : decode cX8_readsLot 14 = .ok (.getfield 28, 3) := by decide +kernel
theorem dX8_readsLot_17 : decode cX8_readsLot 17 = .ok (.aload_n 0, 1) := by decide +kernel
theorem dX8_readsLot_18 : decode cX8_readsLot 18 = .ok (.getfield 190, 3) := by decide +kernel
theorem dX8_readsLot_21 : decode cX8_readsLot 21 = .ok (.iaload, 1) := by decide +kernel
theorem dX8_readsLot_22 : decode cX8_readsLot 22 = .ok (.bipush 48, 2) := by decide +kernel
theorem dX8_readsLot_24 : decode cX8_readsLot 24 = .ok (.isub, 1) := by decide +kernel
theorem dX8_readsLot_25 : decode cX8_readsLot 25 = .ok (.istore_n 1, 1) := by decide +kernel
theorem dX8_readsLot_26 : decode cX8_readsLot 26 = .ok (.aload_n 0, 1) := by decide +kernel
theorem dX8_readsLot_27 : decode cX8_readsLot 27 = .ok (.dup, 1) := by decide +kernel
theorem dX8_readsLot_28 : decode cX8_readsLot 28 = .ok (.getfield 190, 3) := by decide +kernel
theorem dX8_readsLot_31 : decode cX8_readsLot 31 = .ok (.iconst 1, 1) := by decide +kernel
theorem dX8_readsLot_32 : decode cX8_readsLot 32 = .ok (.iadd, 1) := by decide +kernel
theorem dX8_readsLot_33 : decode cX8_readsLot 33 = .ok (.putfield 190, 3) := by decide +kernel
theorem dX8_readsLot_36 : decode cX8_readsLot 36 = .ok (.aload_n 0, 1) := by decide +kernel
theorem dX8_readsLot_37 : decode cX8_readsLot 37 = .ok (.bipush 98, 2) := by decide +kernel
theorem dX8_readsLot_39 : decode cX8_readsLot 39 = .ok (.invokevirtual 196, 3) := by decide +kernel
theorem dX8_readsLot_42 : decode cX8_readsLot 42 = .ok (.ifCond .eq 7, 3) := by decide +kernel
theorem dX8_readsLot_45 : decode cX8_readsLot 45 = .ok (.iconst 1, 1) := by decide +kernel
theorem dX8_readsLot_46 : decode cX8_readsLot 46 = .ok (.goto 17, 3) := by decide +kernel
theorem dX8_readsLot_49 : decode cX8_readsLot 49 = .ok (.aload_n 0, 1) := by decide +kernel
theorem dX8_readsLot_50 : decode cX8_readsLot 50 = .ok (.bipush 99, 2) := by decide +kernel
theorem dX8_readsLot_52 : decode cX8_readsLot 52 = .ok (.invokevirtual 196, 3) := by decide +kernel
theorem dX8_readsLot_55 : decode cX8_readsLot 55 = .ok (.ifCond .eq 7, 3) := by decide +kernel
theorem dX8_readsLot_58 : decode cX8_readsLot 58 = .ok (.iconst 2, 1) := by decide +kernel
theorem dX8_readsLot_59 : decode cX8_readsLot 59 = .ok (.goto 4, 3) := by decide +kernel
theorem dX8_readsLot_62 : decode cX8_readsLot 62 = .ok (.iconst 0, 1) := by decide +kernel
theorem dX8_readsLot_63 : decode cX8_readsLot 63 = .ok (.istore_n 2, 1) := by decide +kernel
theorem dX8_readsLot_64 : decode cX8_readsLot 64 = .ok (.iconst 0, 1) := by decide +kernel
theorem dX8_readsLot_65 : decode cX8_readsLot 65 = .ok (.istore_n 3, 1) := by decide +kernel
theorem dX8_readsLot_66 : decode cX8_readsLot 66 = .ok (.iload_n 2, 1) := by decide +kernel
theorem dX8_readsLot_67 : decode cX8_readsLot 67 = .ok (.ifCond .le 50, 3) := by decide +kernel
theorem dX8_readsLot_70 : decode cX8_readsLot 70 = .ok (.aload_n 0, 1) := by decide +kernel
theorem dX8_readsLot_71 : decode cX8_readsLot 71 = .ok (.bipush 64, 2) := by decide +kernel
theorem dX8_readsLot_73 : decode cX8_readsLot 73 = .ok (.invokevirtual 196, 3) := by decide +kernel
theorem dX8_readsLot_76 : decode cX8_readsLot 76 = .ok (.ifCond .eq 41, 3) := by decide +kernel
theorem dX8_readsLot_79 : decode cX8_readsLot 79 = .ok (.aload_n 0, 1) := by decide +kernel
theorem dX8_readsLot_80 : decode cX8_readsLot 80 = .ok (.bipush 48, 2) := by decide +kernel
theorem dX8_readsLot_82 : decode cX8_readsLot 82 = .ok (.bipush 48, 2) := by decide +kernel
theorem dX8_readsLot_84 : decode cX8_readsLot 84 = .ok (.iload_n 1, 1) := by decide +kernel
theorem dX8_readsLot_85 : decode cX8_readsLot 85 = .ok (.iadd, 1) := by decide +kernel
theorem dX8_readsLot_86 : decode cX8_readsLot 86 = .ok (.invokevirtual 193, 3) := by decide +kernel
theorem dX8_readsLot_89 : decode cX8_readsLot 89 = .ok (.ifCond .ne 5, 3) := by decide +kernel
theorem dX8_readsLot_92 : decode cX8_readsLot 92 = .ok (.iconst 0, 1) := by decide +kernel
theorem dX8_readsLot_93 : decode cX8_readsLot 93 = .ok (.ireturn, 1) := by decide +kernel
theorem dX8_readsLot_94 : decode cX8_readsLot 94 = .ok (.aload_n 0, 1) := by decide +kernel
theorem dX8_readsLot_95 : decode cX8_readsLot 95 = .ok (.getfield 28, 3) := by decide +kernel
theorem dX8_readsLot_98 : decode cX8_readsLot 98 = .ok (.aload_n 0, 1) := by decide +kernel
theorem dX8_readsLot_99 : decode cX8_readsLot 99 = .ok (.getfield 190, 3) := by decide +kernel
theorem dX8_readsLot_102 : decode cX8_readsLot 102 = .ok (.iaload, 1) := by decide +kernel
theorem dX8_readsLot_103 : decode cX8_readsLot 103 = .ok (.bipush 48, 2) := by decide +kernel
theorem dX8_readsLot_105 : decode cX8_readsLot 105 = .ok (.isub, 1) := by decide +kernel
theorem dX8_readsLot_106 : decode cX8_readsLot 106 = .ok (.istore_n 3, 1) := by decide +kernel
theorem dX8_readsLot_107 : decode cX8_readsLot 107 = .ok (.aload_n 0, 1) := by decide +kernel
theorem dX8_readsLot_108 : decode cX8_readsLot 108 = .ok (.dup, 1) := by decide +kernel
theorem dX8_readsLot_109 : decode cX8_readsLot 109 = .ok (.getfield 190, 3) := by decide +kernel
theorem dX8_readsLot_112 : decode cX8_readsLot 112 = .ok (.iconst 1, 1) := by decide +kernel
theorem dX8_readsLot_113 : decode cX8_readsLot 113 = .ok (.iadd, 1) := by decide +kernel
theorem dX8_readsLot_114 : decode cX8_readsLot 114 = .ok (.putfield 190, 3) := by decide +kernel
theorem dX8_readsLot_117 : decode cX8_readsLot 117 = .ok (.aload_n 0, 1) := by decide +kernel
theorem dX8_readsLot_118 : decode cX8_readsLot 118 = .ok (.bipush 43, 2) := by decide +kernel
theorem dX8_readsLot_120 : decode cX8_readsLot 120 = .ok (.invokevirtual 196, 3) := by decide +kernel
theorem dX8_readsLot_123 : decode cX8_readsLot 123 = .ok (.ifCond .eq 7, 3) := by decide +kernel
theorem dX8_readsLot_126 : decode cX8_readsLot 126 = .ok (.iconst 1, 1) := by decide +kernel
theorem dX8_readsLot_127 : decode cX8_readsLot 127 = .ok (.goto 4, 3) := by decide +kernel
theorem dX8_readsLot_130 : decode cX8_readsLot 130 = .ok (.iconst 0, 1) := by decide +kernel
theorem dX8_readsLot_131 : decode cX8_readsLot 131 = .ok (.istore 4, 2) := by decide +kernel
theorem dX8_readsLot_133 : decode cX8_readsLot 133 = .ok (.aload_n 0, 1) := by decide +kernel
theorem dX8_readsLot_134 : decode cX8_readsLot 134 = .ok (.getfield 199, 3) := by decide +kernel
theorem dX8_readsLot_137 : decode cX8_readsLot 137 = .ok (.bipush 12, 2) := by decide +kernel
theorem dX8_readsLot_139 : decode cX8_readsLot 139 = .ok (.if_icmp .ge 58, 3) := by decide +kernel
theorem dX8_readsLot_142 : decode cX8_readsLot 142 = .ok (.aload_n 0, 1) := by decide +kernel
theorem dX8_readsLot_143 : decode cX8_readsLot 143 = .ok (.getfield 31, 3) := by decide +kernel
theorem dX8_readsLot_146 : decode cX8_readsLot 146 = .ok (.iconst 4, 1) := by decide +kernel
theorem dX8_readsLot_147 : decode cX8_readsLot 147 = .ok (.aload_n 0, 1) := by decide +kernel
theorem dX8_readsLot_148 : decode cX8_readsLot 148 = .ok (.getfield 199, 3) := by decide +kernel
theorem dX8_readsLot_151 : decode cX8_readsLot 151 = .ok (.imul, 1) := by decide +kernel
theorem dX8_readsLot_152 : decode cX8_readsLot 152 = .ok (.iload_n 1, 1) := by decide +kernel
theorem dX8_readsLot_153 : decode cX8_readsLot 153 = .ok (.iastore, 1) := by decide +kernel
theorem dX8_readsLot_154 : decode cX8_readsLot 154 = .ok (.aload_n 0, 1) := by decide +kernel
theorem dX8_readsLot_155 : decode cX8_readsLot 155 = .ok (.getfield 31, 3) := by decide +kernel
theorem dX8_readsLot_158 : decode cX8_readsLot 158 = .ok (.iconst 4, 1) := by decide +kernel
theorem dX8_readsLot_159 : decode cX8_readsLot 159 = .ok (.aload_n 0, 1) := by decide +kernel
theorem dX8_readsLot_160 : decode cX8_readsLot 160 = .ok (.getfield 199, 3) := by decide +kernel
theorem dX8_readsLot_163 : decode cX8_readsLot 163 = .ok (.imul, 1) := by decide +kernel
theorem dX8_readsLot_164 : decode cX8_readsLot 164 = .ok (.iconst 1, 1) := by decide +kernel
theorem dX8_readsLot_165 : decode cX8_readsLot 165 = .ok (.iadd, 1) := by decide +kernel
theorem dX8_readsLot_166 : decode cX8_readsLot 166 = .ok (.iload_n 2, 1) := by decide +kernel
theorem dX8_readsLot_167 : decode cX8_readsLot 167 = .ok (.iastore, 1) := by decide +kernel
theorem dX8_readsLot_168 : decode cX8_readsLot 168 = .ok (.aload_n 0, 1) := by decide +kernel
theorem dX8_readsLot_169 : decode cX8_readsLot 169 = .ok (.getfield 31, 3) := by decide +kernel
theorem dX8_readsLot_172 : decode cX8_readsLot 172 = .ok (.iconst 4, 1) := by decide +kernel
theorem dX8_readsLot_173 : decode cX8_readsLot 173 = .ok (.aload_n 0, 1) := by decide +kernel
theorem dX8_readsLot_174 : decode cX8_readsLot 174 = .ok (.getfield 199, 3) := by decide +kernel
theorem dX8_readsLot_177 : decode cX8_readsLot 177 = .ok (.imul, 1) := by decide +kernel
theorem dX8_readsLot_178 : decode cX8_readsLot 178 = .ok (.iconst 2, 1) := by decide +kernel
theorem dX8_readsLot_179 : decode cX8_readsLot 179 = .ok (.iadd, 1) := by decide +kernel
theorem dX8_readsLot_180 : decode cX8_readsLot 180 = .ok (.iload 4, 2) := by decide +kernel
theorem dX8_readsLot_182 : decode cX8_readsLot 182 = .ok (.iastore, 1) := by decide +kernel
theorem dX8_readsLot_183 : decode cX8_readsLot 183 = .ok (.aload_n 0, 1) := by decide +kernel
theorem dX8_readsLot_184 : decode cX8_readsLot 184 = .ok (.getfield 31, 3) := by decide +kernel
theorem dX8_readsLot_187 : decode cX8_readsLot 187 = .ok (.iconst 4, 1) := by decide +kernel
theorem dX8_readsLot_188 : decode cX8_readsLot 188 = .ok (.aload_n 0, 1) := by decide +kernel
theorem dX8_readsLot_189 : decode cX8_readsLot 189 = .ok (.getfield 199, 3) := by decide +kernel
theorem dX8_readsLot_192 : decode cX8_readsLot 192 = .ok (.imul, 1) := by decide +kernel
theorem dX8_readsLot_193 : decode cX8_readsLot 193 = .ok (.iconst 3, 1) := by decide +kernel
theorem dX8_readsLot_194 : decode cX8_readsLot 194 = .ok (.iadd, 1) := by decide +kernel
theorem dX8_readsLot_195 : decode cX8_readsLot 195 = .ok (.iload_n 3, 1) := by decide +kernel
theorem dX8_readsLot_196 : decode cX8_readsLot 196 = .ok (.iastore, 1) := by decide +kernel
theorem dX8_readsLot_197 : decode cX8_readsLot 197 = .ok (.aload_n 0, 1) := by decide +kernel
theorem dX8_readsLot_198 : decode cX8_readsLot 198 = .ok (.dup, 1) := by decide +kernel
theorem dX8_readsLot_199 : decode cX8_readsLot 199 = .ok (.getfield 199, 3) := by decide +kernel
theorem dX8_readsLot_202 : decode cX8_readsLot 202 = .ok (.iconst 1, 1) := by decide +kernel
theorem dX8_readsLot_203 : decode cX8_readsLot 203 = .ok (.iadd, 1) := by decide +kernel
theorem dX8_readsLot_204 : decode cX8_readsLot 204 = .ok (.putfield 199, 3) := by decide +kernel
theorem dX8_readsLot_207 : decode cX8_readsLot 207 = .ok (.iconst 1, 1) := by decide +kernel
theorem dX8_readsLot_208 : decode cX8_readsLot 208 = .ok (.ireturn, 1) := by decide +kernel
set_option maxRecDepth 20000 in
theorem ggX8_fault_X8_readsLot : GoodIn wsX8_fault wsX8_readsLot := goodIn_r _ [8, 9, 1, 2, 10, 11, 12, 13, 7, 14, 3, 15, 16, 17, 18, 19, 20, 21, 22, 23, 24, 25, 26, 27, 28, 29, 30, 31, 32, 33, 34, 35, 36, 37] (by decide +kernel) (by decide +kernel)
set_option maxRecDepth 20000 in
theorem gX8_fault_X8_readsLot : GoodIn wsX8_fault (wsV RX8 202 RX8 yX8_readsLot wsX8_readsLot) := goodIn_app (goodIn_of _ (by decide +kernel)) ggX8_fault_X8_readsLot
set_option maxRecDepth 20000 in
theorem ggX8_fault_X8_takes : GoodIn wsX8_fault wsX8_takes := goodIn_r _ [21, 1, 11, 12, 13, 7, 14, 3, 9, 15, 16, 17, 22, 23, 24, 25, 26, 27, 28, 29, 30, 31, 32, 33, 34, 35, 36, 37] (by decide +kernel) (by decide +kernel)
set_option maxRecDepth 20000 in
theorem gX8_fault_X8_takes : GoodIn wsX8_fault (wsV RX8 196 RX8 yX8_takes wsX8_takes) := goodIn_app (goodIn_of _ (by decide +kernel)) ggX8_fault_X8_takes
theorem dX8_fault_0 : decode cX8_fault 0 = .ok (.aload_n 0, 1) := by decide +kernel
theorem dX8_fault_1 : decode cX8_fault 1 = .ok (.iconst 0, 1) := by decide +kernel
theorem dX8_fault_2 : decode cX8_fault 2 = .ok (.putfield 190, 3) := by decide +kernel
theorem dX8_fault_5 : decode cX8_fault 5 = .ok (.aload_n 0, 1) := by decide +kernel
theorem dX8_fault_6 : decode cX8_fault 6 = .ok (.iconst 0, 1) := by decide +kernel
theorem dX8_fault_7 : decode cX8_fault 7 = .ok (.putfield 199, 3) := by decide +kernel
theorem dX8_fault_10 : decode cX8_fault 10 = .ok (.iconst 1, 1) := by decide +kernel
theorem dX8_fault_11 : decode cX8_fault 11 = .ok (.istore_n 1, 1) := by decide +kernel
theorem dX8_fault_12 : decode cX8_fault 12 = .ok (.iload_n 1, 1) := by decide +kernel
theorem dX8_fault_13 : decode cX8_fault 13 = .ok (.ifCond .eq 25, 3) := by decide +kernel
theorem dX8_fault_16 : decode cX8_fault 16 = .ok (.aload_n 0, 1) := by decide +kernel
theorem dX8_fault_17 : decode cX8_fault 17 = .ok (.invokevirtual 202, 3) := by decide +kernel
theorem dX8_fault_20 : decode cX8_fault 20 = .ok (.ifCond .ne 8, 3) := by decide +kernel
theorem dX8_fault_23 : decode cX8_fault 23 = .ok (.aload_n 0, 1) := by decide +kernel
theorem dX8_fault_24 : decode cX8_fault 24 = .ok (.getfield 190, 3) := by decide +kernel
theorem dX8_fault_27 : decode cX8_fault 27 = .ok (.ireturn, 1) := by decide +kernel
theorem dX8_fault_28 : decode cX8_fault 28 = .ok (.aload_n 0, 1) := by decide +kernel
theorem dX8_fault_29 : decode cX8_fault 29 = .ok (.bipush 44, 2) := by decide +kernel
theorem dX8_fault_31 : decode cX8_fault 31 = .ok (.invokevirtual 196, 3) := by decide +kernel
theorem dX8_fault_34 : decode cX8_fault 34 = .ok (.istore_n 1, 1) := by decide +kernel
theorem dX8_fault_35 : decode cX8_fault 35 = .ok (.goto (-23), 3) := by decide +kernel
theorem dX8_fault_38 : decode cX8_fault 38 = .ok (.aload_n 0, 1) := by decide +kernel
theorem dX8_fault_39 : decode cX8_fault 39 = .ok (.getfield 190, 3) := by decide +kernel
theorem dX8_fault_42 : decode cX8_fault 42 = .ok (.aload_n 0, 1) := by decide +kernel
theorem dX8_fault_43 : decode cX8_fault 43 = .ok (.getfield 187, 3) := by decide +kernel
theorem dX8_fault_46 : decode cX8_fault 46 = .ok (.if_icmp .ne 8, 3) := by decide +kernel
theorem dX8_fault_49 : decode cX8_fault 49 = .ok (.bipush (-5), 2) := by decide +kernel
theorem dX8_fault_51 : decode cX8_fault 51 = .ok (.goto 7, 3) := by decide +kernel
theorem dX8_fault_54 : decode cX8_fault 54 = .ok (.aload_n 0, 1) := by decide +kernel
theorem dX8_fault_55 : decode cX8_fault 55 = .ok (.getfield 190, 3) := by decide +kernel
theorem dX8_fault_58 : decode cX8_fault 58 = .ok (.ireturn, 1) := by decide +kernel
set_option maxRecDepth 20000 in
theorem ggX8_load_X8_fault : GoodIn wsX8_load wsX8_fault := goodIn_r _ [8, 9, 1, 10, 11, 12, 13, 7, 14, 15, 2, 16, 17, 18, 19, 20, 21, 22, 23, 24, 25, 26, 45, 46, 47, 48, 49, 50, 51, 52, 53, 54, 55, 56, 57, 58, 59, 60] (by decide +kernel) (by decide +kernel)
set_option maxRecDepth 20000 in
theorem gX8_load_X8_fault : GoodIn wsX8_load (wsV RX8 205 RX8 yX8_fault wsX8_fault) := goodIn_app (goodIn_of _ (by decide +kernel)) ggX8_load_X8_fault
set_option maxRecDepth 20000 in
theorem ggX8_load_X8_remember : GoodIn wsX8_load wsX8_remember := goodIn_r _ [30, 3, 31, 32, 33, 7, 34, 45, 46, 47, 48, 49, 50, 51, 52, 53, 54, 55, 56, 57, 58, 59, 60] (by decide +kernel) (by decide +kernel)
set_option maxRecDepth 20000 in
theorem gX8_load_X8_remember : GoodIn wsX8_load (wsV RX8 145 RX8 yX8_remember wsX8_remember) := goodIn_app (goodIn_of _ (by decide +kernel)) ggX8_load_X8_remember
set_option maxRecDepth 20000 in
theorem ggX8_load_X8_puts : GoodIn wsX8_load wsX8_puts := goodIn_r _ [38, 3, 45, 46, 47, 48, 49, 50, 51, 52, 53, 54, 55, 56, 57, 58, 59, 60] (by decide +kernel) (by decide +kernel)
set_option maxRecDepth 20000 in
theorem gX8_load_X8_puts : GoodIn wsX8_load (wsV RX8 148 RX8 yX8_puts wsX8_puts) := goodIn_app (goodIn_of _ (by decide +kernel)) ggX8_load_X8_puts
set_option maxRecDepth 20000 in
theorem ggX8_load_X8_acted : GoodIn wsX8_load wsX8_acted := goodIn_r _ [42, 43, 44, 31, 45, 46, 47, 48, 49, 50, 51, 52, 53, 54, 55, 56, 57, 58, 59, 60] (by decide +kernel) (by decide +kernel)
set_option maxRecDepth 20000 in
theorem gX8_load_X8_acted : GoodIn wsX8_load (wsV RX8 152 RX8 yX8_acted wsX8_acted) := goodIn_app (goodIn_of _ (by decide +kernel)) ggX8_load_X8_acted
theorem dX8_load_0 : decode cX8_load 0 = .ok (.aload_n 0, 1) := by decide +kernel
theorem dX8_load_1 : decode cX8_load 1 = .ok (.invokevirtual 205, 3) := by decide +kernel
theorem dX8_load_4 : decode cX8_load 4 = .ok (.istore_n 1, 1) := by decide +kernel
theorem dX8_load_5 : decode cX8_load 5 = .ok (.iload_n 1, 1) := by decide +kernel
theorem dX8_load_6 : decode cX8_load 6 = .ok (.bipush (-5), 2) := by decide +kernel
theorem dX8_load_8 : decode cX8_load 8 = .ok (.if_icmp .eq 8, 3) := by decide +kernel
theorem dX8_load_11 : decode cX8_load 11 = .ok (.bipush (-100), 2) := by decide +kernel
theorem dX8_load_13 : decode cX8_load 13 = .ok (.iload_n 1, 1) := by decide +kernel
theorem dX8_load_14 : decode cX8_load 14 = .ok (.isub, 1) := by decide +kernel
theorem dX8_load_15 : decode cX8_load 15 = .ok (.ireturn, 1) := by decide +kernel
theorem dX8_load_16 : decode cX8_load 16 = .ok (.aload_n 0, 1) := by decide +kernel
theorem dX8_load_17 : decode cX8_load 17 = .ok (.getfield 199, 3) := by decide +kernel
theorem dX8_load_20 : decode cX8_load 20 = .ok (.bipush 12, 2) := by decide +kernel
theorem dX8_load_22 : decode cX8_load 22 = .ok (.if_icmp .le 6, 3) := by decide +kernel
theorem dX8_load_25 : decode cX8_load 25 = .ok (.bipush (-3), 2) := by decide +kernel
theorem dX8_load_27 : decode cX8_load 27 = .ok (.ireturn, 1) := by decide +kernel
theorem dX8_load_28 : decode cX8_load 28 = .ok (.aload_n 0, 1) := by decide +kernel
theorem dX8_load_29 : decode cX8_load 29 = .ok (.invokevirtual 145, 3) := by decide +kernel
theorem dX8_load_32 : decode cX8_load 32 = .ok (.iconst 0, 1) := by decide +kernel
theorem dX8_load_33 : decode cX8_load 33 = .ok (.istore_n 2, 1) := by decide +kernel
theorem dX8_load_34 : decode cX8_load 34 = .ok (.iload_n 2, 1) := by decide +kernel
theorem dX8_load_35 : decode cX8_load 35 = .ok (.bipush 12, 2) := by decide +kernel
theorem dX8_load_37 : decode cX8_load 37 = .ok (.if_icmp .ge 98, 3) := by decide +kernel
theorem dX8_load_40 : decode cX8_load 40 = .ok (.iload_n 2, 1) := by decide +kernel
theorem dX8_load_41 : decode cX8_load 41 = .ok (.aload_n 0, 1) := by decide +kernel
theorem dX8_load_42 : decode cX8_load 42 = .ok (.getfield 199, 3) := by decide +kernel
theorem dX8_load_45 : decode cX8_load 45 = .ok (.if_icmp .ge 7, 3) := by decide +kernel
theorem dX8_load_48 : decode cX8_load 48 = .ok (.iconst 1, 1) := by decide +kernel
theorem dX8_load_49 : decode cX8_load 49 = .ok (.goto 4, 3) := by decide +kernel
theorem dX8_load_52 : decode cX8_load 52 = .ok (.iconst 0, 1) := by decide +kernel
theorem dX8_load_53 : decode cX8_load 53 = .ok (.istore_n 3, 1) := by decide +kernel
theorem dX8_load_54 : decode cX8_load 54 = .ok (.aload_n 0, 1) := by decide +kernel
theorem dX8_load_55 : decode cX8_load 55 = .ok (.iload_n 2, 1) := by decide +kernel
theorem dX8_load_56 : decode cX8_load 56 = .ok (.iload_n 3, 1) := by decide +kernel
theorem dX8_load_57 : decode cX8_load 57 = .ok (.ifCond .eq 14, 3) := by decide +kernel
theorem dX8_load_60 : decode cX8_load 60 = .ok (.aload_n 0, 1) := by decide +kernel
theorem dX8_load_61 : decode cX8_load 61 = .ok (.getfield 31, 3) := by decide +kernel
theorem dX8_load_64 : decode cX8_load 64 = .ok (.iconst 4, 1) := by decide +kernel
theorem dX8_load_65 : decode cX8_load 65 = .ok (.iload_n 2, 1) := by decide +kernel
theorem dX8_load_66 : decode cX8_load 66 = .ok (.imul, 1) := by decide +kernel
theorem dX8_load_67 : decode cX8_load 67 = .ok (.iaload, 1) := by decide +kernel
theorem dX8_load_68 : decode cX8_load 68 = .ok (.goto 4, 3) := by decide +kernel
theorem dX8_load_71 : decode cX8_load 71 = .ok (.iconst 0, 1) := by decide +kernel
theorem dX8_load_72 : decode cX8_load 72 = .ok (.iload_n 3, 1) := by decide +kernel
theorem dX8_load_73 : decode cX8_load 73 = .ok (.ifCond .eq 16, 3) := by decide +kernel
theorem dX8_load_76 : decode cX8_load 76 = .ok (.aload_n 0, 1) := by decide +kernel
theorem dX8_load_77 : decode cX8_load 77 = .ok (.getfield 31, 3) := by decide +kernel
theorem dX8_load_80 : decode cX8_load 80 = .ok (.iconst 4, 1) := by decide +kernel
theorem dX8_load_81 : decode cX8_load 81 = .ok (.iload_n 2, 1) := by decide +kernel
theorem dX8_load_82 : decode cX8_load 82 = .ok (.imul, 1) := by decide +kernel
theorem dX8_load_83 : decode cX8_load 83 = .ok (.iconst 1, 1) := by decide +kernel
theorem dX8_load_84 : decode cX8_load 84 = .ok (.iadd, 1) := by decide +kernel
theorem dX8_load_85 : decode cX8_load 85 = .ok (.iaload, 1) := by decide +kernel
theorem dX8_load_86 : decode cX8_load 86 = .ok (.goto 4, 3) := by decide +kernel
theorem dX8_load_89 : decode cX8_load 89 = .ok (.iconst 0, 1) := by decide +kernel
theorem dX8_load_90 : decode cX8_load 90 = .ok (.iload_n 3, 1) := by decide +kernel
theorem dX8_load_91 : decode cX8_load 91 = .ok (.ifCond .eq 16, 3) := by decide +kernel
theorem dX8_load_94 : decode cX8_load 94 = .ok (.aload_n 0, 1) := by decide +kernel
theorem dX8_load_95 : decode cX8_load 95 = .ok (.getfield 31, 3) := by decide +kernel
theorem dX8_load_98 : decode cX8_load 98 = .ok (.iconst 4, 1) := by decide +kernel
theorem dX8_load_99 : decode cX8_load 99 = .ok (.iload_n 2, 1) := by decide +kernel
theorem dX8_load_100 : decode cX8_load 100 = .ok (.imul, 1) := by decide +kernel
theorem dX8_load_101 : decode cX8_load 101 = .ok (.iconst 2, 1) := by decide +kernel
theorem dX8_load_102 : decode cX8_load 102 = .ok (.iadd, 1) := by decide +kernel
theorem dX8_load_103 : decode cX8_load 103 = .ok (.iaload, 1) := by decide +kernel
theorem dX8_load_104 : decode cX8_load 104 = .ok (.goto 4, 3) := by decide +kernel
theorem dX8_load_107 : decode cX8_load 107 = .ok (.iconst 0, 1) := by decide +kernel
theorem dX8_load_108 : decode cX8_load 108 = .ok (.iload_n 3, 1) := by decide +kernel
theorem dX8_load_109 : decode cX8_load 109 = .ok (.ifCond .eq 16, 3) := by decide +kernel
theorem dX8_load_112 : decode cX8_load 112 = .ok (.aload_n 0, 1) := by decide +kernel
theorem dX8_load_113 : decode cX8_load 113 = .ok (.getfield 31, 3) := by decide +kernel
theorem dX8_load_116 : decode cX8_load 116 = .ok (.iconst 4, 1) := by decide +kernel
theorem dX8_load_117 : decode cX8_load 117 = .ok (.iload_n 2, 1) := by decide +kernel
theorem dX8_load_118 : decode cX8_load 118 = .ok (.imul, 1) := by decide +kernel
theorem dX8_load_119 : decode cX8_load 119 = .ok (.iconst 3, 1) := by decide +kernel
theorem dX8_load_120 : decode cX8_load 120 = .ok (.iadd, 1) := by decide +kernel
theorem dX8_load_121 : decode cX8_load 121 = .ok (.iaload, 1) := by decide +kernel
theorem dX8_load_122 : decode cX8_load 122 = .ok (.goto 4, 3) := by decide +kernel
theorem dX8_load_125 : decode cX8_load 125 = .ok (.iconst 0, 1) := by decide +kernel
theorem dX8_load_126 : decode cX8_load 126 = .ok (.invokevirtual 148, 3) := by decide +kernel
theorem dX8_load_129 : decode cX8_load 129 = .ok (.iinc 2 1, 3) := by decide +kernel
theorem dX8_load_132 : decode cX8_load 132 = .ok (.goto (-98), 3) := by decide +kernel
theorem dX8_load_135 : decode cX8_load 135 = .ok (.aload_n 0, 1) := by decide +kernel
theorem dX8_load_136 : decode cX8_load 136 = .ok (.getfield 7, 3) := by decide +kernel
theorem dX8_load_139 : decode cX8_load 139 = .ok (.iconst 5, 1) := by decide +kernel
theorem dX8_load_140 : decode cX8_load 140 = .ok (.aload_n 0, 1) := by decide +kernel
theorem dX8_load_141 : decode cX8_load 141 = .ok (.getfield 199, 3) := by decide +kernel
theorem dX8_load_144 : decode cX8_load 144 = .ok (.iastore, 1) := by decide +kernel
theorem dX8_load_145 : decode cX8_load 145 = .ok (.aload_n 0, 1) := by decide +kernel
theorem dX8_load_146 : decode cX8_load 146 = .ok (.aload_n 0, 1) := by decide +kernel
theorem dX8_load_147 : decode cX8_load 147 = .ok (.getfield 199, 3) := by decide +kernel
theorem dX8_load_150 : decode cX8_load 150 = .ok (.invokevirtual 152, 3) := by decide +kernel
theorem dX8_load_153 : decode cX8_load 153 = .ok (.ireturn, 1) := by decide +kernel
theorem dX8_undo_0 : decode cX8_undo 0 = .ok (.aload_n 0, 1) := by decide +kernel
theorem dX8_undo_1 : decode cX8_undo 1 = .ok (.getfield 38, 3) := by decide +kernel
theorem dX8_undo_4 : decode cX8_undo 4 = .ok (.ifCond .ne 6, 3) := by decide +kernel
theorem dX8_undo_7 : decode cX8_undo 7 = .ok (.bipush (-5), 2) := by decide +kernel
theorem dX8_undo_9 : decode cX8_undo 9 = .ok (.ireturn, 1) := by decide +kernel
theorem dX8_undo_10 : decode cX8_undo 10 = .ok (.aload_n 0, 1) := by decide +kernel
theorem dX8_undo_11 : decode cX8_undo 11 = .ok (.dup, 1) := by decide +kernel
theorem dX8_undo_12 : decode cX8_undo 12 = .ok (.getfield 38, 3) := by decide +kernel
theorem dX8_undo_15 : decode cX8_undo 15 = .ok (.iconst 1, 1) := by decide +kernel
theorem dX8_undo_16 : decode cX8_undo 16 = .ok (.isub, 1) := by decide +kernel
theorem dX8_undo_17 : decode cX8_undo 17 = .ok (.putfield 38, 3) := by decide +kernel
theorem dX8_undo_20 : decode cX8_undo 20 = .ok (.iconst 0, 1) := by decide +kernel
theorem dX8_undo_21 : decode cX8_undo 21 = .ok (.istore_n 1, 1) := by decide +kernel
theorem dX8_undo_22 : decode cX8_undo 22 = .ok (.iload_n 1, 1) := by decide +kernel
theorem dX8_undo_23 : decode cX8_undo 23 = .ok (.bipush 54, 2) := by decide +kernel
theorem dX8_undo_25 : decode cX8_undo 25 = .ok (.if_icmp .ge 29, 3) := by decide +kernel
theorem dX8_undo_28 : decode cX8_undo 28 = .ok (.aload_n 0, 1) := by decide +kernel
theorem dX8_undo_29 : decode cX8_undo 29 = .ok (.getfield 7, 3) := by decide +kernel
theorem dX8_undo_32 : decode cX8_undo 32 = .ok (.iload_n 1, 1) := by decide +kernel
theorem dX8_undo_33 : decode cX8_undo 33 = .ok (.aload_n 0, 1) := by decide +kernel
theorem dX8_undo_34 : decode cX8_undo 34 = .ok (.getfield 19, 3) := by decide +kernel
theorem dX8_undo_37 : decode cX8_undo 37 = .ok (.bipush 54, 2) := by decide +kernel
theorem dX8_undo_39 : decode cX8_undo 39 = .ok (.aload_n 0, 1) := by decide +kernel
theorem dX8_undo_40 : decode cX8_undo 40 = .ok (.getfield 38, 3) := by decide +kernel
theorem dX8_undo_43 : decode cX8_undo 43 = .ok (.imul, 1) := by decide +kernel
theorem dX8_undo_44 : decode cX8_undo 44 = .ok (.iload_n 1, 1) := by decide +kernel
theorem dX8_undo_45 : decode cX8_undo 45 = .ok (.iadd, 1) := by decide +kernel
theorem dX8_undo_46 : decode cX8_undo 46 = .ok (.iaload, 1) := by decide +kernel
theorem dX8_undo_47 : decode cX8_undo 47 = .ok (.iastore, 1) := by decide +kernel
theorem dX8_undo_48 : decode cX8_undo 48 = .ok (.iinc 1 1, 3) := by decide +kernel
theorem dX8_undo_51 : decode cX8_undo 51 = .ok (.goto (-29), 3) := by decide +kernel
theorem dX8_undo_54 : decode cX8_undo 54 = .ok (.aload_n 0, 1) := by decide +kernel
theorem dX8_undo_55 : decode cX8_undo 55 = .ok (.getfield 38, 3) := by decide +kernel
theorem dX8_undo_58 : decode cX8_undo 58 = .ok (.ireturn, 1) := by decide +kernel
set_option maxRecDepth 20000 in
theorem ggX8_keep_X8_copy : GoodIn wsX8_keep wsX8_copy := goodIn_r _ [7] (by decide +kernel) (by decide +kernel)
set_option maxRecDepth 20000 in
theorem gX8_keep_X8_copy : GoodIn wsX8_keep (va_wsS RX8 34 yX8_copy wsX8_copy) := goodIn_app (goodIn_of _ (by decide +kernel)) ggX8_keep_X8_copy
theorem dX8_keep_0 : decode cX8_keep 0 = .ok (.aload_n 0, 1) := by decide +kernel
theorem dX8_keep_1 : decode cX8_keep 1 = .ok (.getfield 7, 3) := by decide +kernel
theorem dX8_keep_4 : decode cX8_keep 4 = .ok (.aload_n 0, 1) := by decide +kernel
theorem dX8_keep_5 : decode cX8_keep 5 = .ok (.getfield 22, 3) := by decide +kernel
theorem dX8_keep_8 : decode cX8_keep 8 = .ok (.invokestatic 34, 3) := by decide +kernel
theorem dX8_keep_11 : decode cX8_keep 11 = .ok (.aload_n 0, 1) := by decide +kernel
theorem dX8_keep_12 : decode cX8_keep 12 = .ok (.iconst 1, 1) := by decide +kernel
theorem dX8_keep_13 : decode cX8_keep 13 = .ok (.putfield 208, 3) := by decide +kernel
theorem dX8_keep_16 : decode cX8_keep 16 = .ok (.aload_n 0, 1) := by decide +kernel
theorem dX8_keep_17 : decode cX8_keep 17 = .ok (.getfield 7, 3) := by decide +kernel
theorem dX8_keep_20 : decode cX8_keep 20 = .ok (.iconst 5, 1) := by decide +kernel
theorem dX8_keep_21 : decode cX8_keep 21 = .ok (.iaload, 1) := by decide +kernel
theorem dX8_keep_22 : decode cX8_keep 22 = .ok (.ireturn, 1) := by decide +kernel
set_option maxRecDepth 20000 in
theorem ggX8_restore_X8_remember : GoodIn wsX8_restore wsX8_remember := goodIn_r _ [8, 3, 9, 10, 11, 7, 12, 19, 20, 21, 22, 23, 24, 25, 26, 27, 28, 29, 30, 31, 32, 33, 34] (by decide +kernel) (by decide +kernel)
set_option maxRecDepth 20000 in
theorem gX8_restore_X8_remember : GoodIn wsX8_restore (wsV RX8 145 RX8 yX8_remember wsX8_remember) := goodIn_app (goodIn_of _ (by decide +kernel)) ggX8_restore_X8_remember
set_option maxRecDepth 20000 in
theorem ggX8_restore_X8_copy : GoodIn wsX8_restore wsX8_copy := goodIn_r _ [12] (by decide +kernel) (by decide +kernel)
set_option maxRecDepth 20000 in
theorem gX8_restore_X8_copy : GoodIn wsX8_restore (va_wsS RX8 34 yX8_copy wsX8_copy) := goodIn_app (goodIn_of _ (by decide +kernel)) ggX8_restore_X8_copy
set_option maxRecDepth 20000 in
theorem ggX8_restore_X8_acted : GoodIn wsX8_restore wsX8_acted := goodIn_r _ [16, 17, 18, 9, 19, 20, 21, 22, 23, 24, 25, 26, 27, 28, 29, 30, 31, 32, 33, 34] (by decide +kernel) (by decide +kernel)
set_option maxRecDepth 20000 in
theorem gX8_restore_X8_acted : GoodIn wsX8_restore (wsV RX8 152 RX8 yX8_acted wsX8_acted) := goodIn_app (goodIn_of _ (by decide +kernel)) ggX8_restore_X8_acted
theorem dX8_restore_0 : decode cX8_restore 0 = .ok (.aload_n 0, 1) := by decide +kernel
theorem dX8_restore_1 : decode cX8_restore 1 = .ok (.getfield 208, 3) := by decide +kernel
theorem dX8_restore_4 : decode cX8_restore 4 = .ok (.ifCond .ne 6, 3) := by decide +kernel
theorem dX8_restore_7 : decode cX8_restore 7 = .ok (.bipush (-5), 2) := by decide +kernel
theorem dX8_restore_9 : decode cX8_restore 9 = .ok (.ireturn, 1) := by decide +kernel
theorem dX8_restore_10 : decode cX8_restore 10 = .ok (.aload_n 0, 1) := by decide +kernel
theorem dX8_restore_11 : decode cX8_restore 11 = .ok (.invokevirtual 145, 3) := by decide +kernel
theorem dX8_restore_14 : decode cX8_restore 14 = .ok (.aload_n 0, 1) := by decide +kernel
theorem dX8_restore_15 : decode cX8_restore 15 = .ok (.getfield 22, 3) := by decide +kernel
theorem dX8_restore_18 : decode cX8_restore 18 = .ok (.aload_n 0, 1) := by decide +kernel
theorem dX8_restore_19 : decode cX8_restore 19 = .ok (.getfield 7, 3) := by decide +kernel
theorem dX8_restore_22 : decode cX8_restore 22 = .ok (.invokestatic 34, 3) := by decide +kernel
theorem dX8_restore_25 : decode cX8_restore 25 = .ok (.aload_n 0, 1) := by decide +kernel
theorem dX8_restore_26 : decode cX8_restore 26 = .ok (.aload_n 0, 1) := by decide +kernel
theorem dX8_restore_27 : decode cX8_restore 27 = .ok (.getfield 7, 3) := by decide +kernel
theorem dX8_restore_30 : decode cX8_restore 30 = .ok (.iconst 5, 1) := by decide +kernel
theorem dX8_restore_31 : decode cX8_restore 31 = .ok (.iaload, 1) := by decide +kernel
theorem dX8_restore_32 : decode cX8_restore 32 = .ok (.invokevirtual 152, 3) := by decide +kernel
theorem dX8_restore_35 : decode cX8_restore 35 = .ok (.ireturn, 1) := by decide +kernel
set_option maxRecDepth 20000 in
theorem ggX8_lot_X8_isLot : GoodIn wsX8_lot wsX8_isLot := goodIn_r _ [6, 1, 7, 8, 5, 9, 61, 62, 63, 64, 65, 66, 67, 68, 69, 70, 71, 72, 73, 74, 75, 76] (by decide +kernel) (by decide +kernel)
set_option maxRecDepth 20000 in
theorem gX8_lot_X8_isLot : GoodIn wsX8_lot (wsV RX8 155 RX8 yX8_isLot wsX8_isLot) := goodIn_app (goodIn_of _ (by decide +kernel)) ggX8_lot_X8_isLot
set_option maxRecDepth 20000 in
theorem ggX8_lot_X8_textOf : GoodIn wsX8_lot wsX8_textOf := goodIn_r _ [13, 1, 61, 62, 63, 64, 65, 66, 67, 68, 69, 70, 71, 72, 73, 74, 75, 76] (by decide +kernel) (by decide +kernel)
set_option maxRecDepth 20000 in
theorem gX8_lot_X8_textOf : GoodIn wsX8_lot (wsV RX8 46 RX8 yX8_textOf wsX8_textOf) := goodIn_app (goodIn_of _ (by decide +kernel)) ggX8_lot_X8_textOf
set_option maxRecDepth 20000 in
theorem ggX8_lot_X8_hasPlate : GoodIn wsX8_lot wsX8_hasPlate := goodIn_r _ [17, 1, 61, 62, 63, 64, 65, 66, 67, 68, 69, 70, 71, 72, 73, 74, 75, 76] (by decide +kernel) (by decide +kernel)
set_option maxRecDepth 20000 in
theorem gX8_lot_X8_hasPlate : GoodIn wsX8_lot (wsV RX8 50 RX8 yX8_hasPlate wsX8_hasPlate) := goodIn_app (goodIn_of _ (by decide +kernel)) ggX8_lot_X8_hasPlate
set_option maxRecDepth 20000 in
theorem ggX8_lot_X8_firstPage : GoodIn wsX8_lot wsX8_firstPage := goodIn_r _ [21, 1, 22, 23, 24, 5, 25, 10, 11, 12, 13, 14, 15, 16, 17, 61, 62, 63, 64, 65, 66, 67, 68, 69, 70, 71, 72, 73, 74, 75, 76] (by decide +kernel) (by decide +kernel)
set_option maxRecDepth 20000 in
theorem gX8_lot_X8_firstPage : GoodIn wsX8_lot (wsV RX8 64 RX8 yX8_firstPage wsX8_firstPage) := goodIn_app (goodIn_of _ (by decide +kernel)) ggX8_lot_X8_firstPage
set_option maxRecDepth 20000 in
theorem ggX8_lot_X8_platePage : GoodIn wsX8_lot wsX8_platePage := goodIn_r _ [29, 1, 18, 19, 20, 5, 21, 22, 23, 24, 25, 10, 11, 12, 13, 14, 15, 16, 17, 61, 62, 63, 64, 65, 66, 67, 68, 69, 70, 71, 72, 73, 74, 75, 76] (by decide +kernel) (by decide +kernel)
set_option maxRecDepth 20000 in
theorem gX8_lot_X8_platePage : GoodIn wsX8_lot (wsV RX8 70 RX8 yX8_platePage wsX8_platePage) := goodIn_app (goodIn_of _ (by decide +kernel)) ggX8_lot_X8_platePage
set_option maxRecDepth 20000 in
theorem ggX8_lot_X8_whyNot : GoodIn wsX8_lot wsX8_whyNot := goodIn_r _ [33, 14, 15, 16, 5, 17, 1, 26, 27, 28, 29, 18, 19, 20, 21, 22, 23, 24, 25, 10, 11, 12, 13, 34, 35, 36, 37, 38, 39, 40, 41, 42, 43, 44, 45, 46, 47, 48, 49, 7, 8, 9, 50, 51, 52, 53, 54, 55, 56, 57, 58, 59, 60, 61, 62, 63, 64, 65, 66, 67, 68, 69, 70, 71, 72, 73, 74, 75, 76] (by decide +kernel) (by decide +kernel)
set_option maxRecDepth 20000 in
theorem gX8_lot_X8_whyNot : GoodIn wsX8_lot (wsV RX8 85 RX8 yX8_whyNot wsX8_whyNot) := goodIn_app (goodIn_of _ (by decide +kernel)) ggX8_lot_X8_whyNot
theorem dX8_lot_0 : decode cX8_lot 0 = .ok (.aload_n 0, 1) := by decide +kernel
theorem dX8_lot_1 : decode cX8_lot 1 = .ok (.iload_n 1, 1) := by decide +kernel
