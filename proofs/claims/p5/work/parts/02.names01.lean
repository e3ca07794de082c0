theorem dX0_init_0 : decode cX0_init 0 = .ok (.aload_n 0, 1) := by decide +kernel
theorem dX0_init_1 : decode cX0_init 1 = .ok (.invokespecial 3, 3) := by decide +kernel
theorem dX0_init_4 : decode cX0_init 4 = .ok (.aload_n 0, 1) := by decide +kernel
theorem dX0_init_5 : decode cX0_init 5 = .ok (.bipush 81, 2) := by decide +kernel
theorem dX0_init_7 : decode cX0_init 7 = .ok (.newarray .int, 2) := by decide +kernel
theorem dX0_init_9 : decode cX0_init 9 = .ok (.putfield 9, 3) := by decide +kernel
theorem dX0_init_12 : decode cX0_init 12 = .ok (.aload_n 0, 1) := by decide +kernel
theorem dX0_init_13 : decode cX0_init 13 = .ok (.bipush 81, 2) := by decide +kernel
theorem dX0_init_15 : decode cX0_init 15 = .ok (.newarray .boolean, 2) := by decide +kernel
theorem dX0_init_17 : decode cX0_init 17 = .ok (.putfield 15, 3) := by decide +kernel
theorem dX0_init_20 : decode cX0_init 20 = .ok (.aload_n 0, 1) := by decide +kernel
theorem dX0_init_21 : decode cX0_init 21 = .ok (.sipush 324, 3) := by decide +kernel
theorem dX0_init_24 : decode cX0_init 24 = .ok (.newarray .int, 2) := by decide +kernel
theorem dX0_init_26 : decode cX0_init 26 = .ok (.putfield 19, 3) := by decide +kernel
theorem dX0_init_29 : decode cX0_init 29 = .ok (.return_, 1) := by decide +kernel
set_option maxRecDepth 20000 in
theorem ggX0_lay_X9_size : GoodIn wsX0_lay wsX9_size := goodIn_r _ [10, 11, 12, 21, 22, 23] (by decide +kernel) (by decide +kernel)
set_option maxRecDepth 20000 in
theorem gX0_lay_X9_size : GoodIn wsX0_lay (wsV RX0 22 RX9 yX9_size wsX9_size) := goodIn_app (goodIn_of _ (by decide +kernel)) ggX0_lay_X9_size
set_option maxRecDepth 20000 in
theorem ggX0_lay_X10_typeOfSign : GoodIn wsX0_lay wsX10_typeOfSign := goodIn_r _ [15] (by decide +kernel) (by decide +kernel)
set_option maxRecDepth 20000 in
theorem gX0_lay_X10_typeOfSign_n43 : GoodIn wsX0_lay (wsX10_typeOfSign) := ggX0_lay_X10_typeOfSign
theorem dX0_lay_0 : decode cX0_lay 0 = .ok (.aload_n 0, 1) := by decide +kernel
theorem dX0_lay_1 : decode cX0_lay 1 = .ok (.aload_n 1, 1) := by decide +kernel
theorem dX0_lay_2 : decode cX0_lay 2 = .ok (.invokevirtual 22, 3) := by decide +kernel
theorem dX0_lay_5 : decode cX0_lay 5 = .ok (.putfield 28, 3) := by decide +kernel
theorem dX0_lay_8 : decode cX0_lay 8 = .ok (.aload_n 0, 1) := by decide +kernel
theorem dX0_lay_9 : decode cX0_lay 9 = .ok (.aload_n 1, 1) := by decide +kernel
theorem dX0_lay_10 : decode cX0_lay 10 = .ok (.getfield 31, 3) := by decide +kernel
theorem dX0_lay_13 : decode cX0_lay 13 = .ok (.aload_n 1, 1) := by decide +kernel
theorem dX0_lay_14 : decode cX0_lay 14 = .ok (.getfield 34, 3) := by decide +kernel
theorem dX0_lay_17 : decode cX0_lay 17 = .ok (.iadd, 1) := by decide +kernel
theorem dX0_lay_18 : decode cX0_lay 18 = .ok (.iconst 2, 1) := by decide +kernel
theorem dX0_lay_19 : decode cX0_lay 19 = .ok (.isub, 1) := by decide +kernel
theorem dX0_lay_20 : decode cX0_lay 20 = .ok (.putfield 37, 3) := by decide +kernel
theorem dX0_lay_23 : decode cX0_lay 23 = .ok (.iconst 0, 1) := by decide +kernel
theorem dX0_lay_24 : decode cX0_lay 24 = .ok (.istore_n 3, 1) := by decide +kernel
theorem dX0_lay_25 : decode cX0_lay 25 = .ok (.iload_n 3, 1) := by decide +kernel
theorem dX0_lay_26 : decode cX0_lay 26 = .ok (.aload_n 1, 1) := by decide +kernel
theorem dX0_lay_27 : decode cX0_lay 27 = .ok (.getfield 31, 3) := by decide +kernel
theorem dX0_lay_30 : decode cX0_lay 30 = .ok (.if_icmp .ge 234, 3) := by decide +kernel
theorem dX0_lay_33 : decode cX0_lay 33 = .ok (.iconst 0, 1) := by decide +kernel
theorem dX0_lay_34 : decode cX0_lay 34 = .ok (.istore 4, 2) := by decide +kernel
theorem dX0_lay_36 : decode cX0_lay 36 = .ok (.iload 4, 2) := by decide +kernel
theorem dX0_lay_38 : decode cX0_lay 38 = .ok (.aload_n 1, 1) := by decide +kernel
theorem dX0_lay_39 : decode cX0_lay 39 = .ok (.getfield 34, 3) := by decide +kernel
theorem dX0_lay_42 : decode cX0_lay 42 = .ok (.if_icmp .ge 216, 3) := by decide +kernel
theorem dX0_lay_45 : decode cX0_lay 45 = .ok (.iload_n 3, 1) := by decide +kernel
theorem dX0_lay_46 : decode cX0_lay 46 = .ok (.aload_n 1, 1) := by decide +kernel
theorem dX0_lay_47 : decode cX0_lay 47 = .ok (.getfield 34, 3) := by decide +kernel
theorem dX0_lay_50 : decode cX0_lay 50 = .ok (.imul, 1) := by decide +kernel
theorem dX0_lay_51 : decode cX0_lay 51 = .ok (.iload 4, 2) := by decide +kernel
theorem dX0_lay_53 : decode cX0_lay 53 = .ok (.iadd, 1) := by decide +kernel
theorem dX0_lay_54 : decode cX0_lay 54 = .ok (.istore 5, 2) := by decide +kernel
theorem dX0_lay_56 : decode cX0_lay 56 = .ok (.iload_n 3, 1) := by decide +kernel
theorem dX0_lay_57 : decode cX0_lay 57 = .ok (.ifCond .eq 29, 3) := by decide +kernel
theorem dX0_lay_60 : decode cX0_lay 60 = .ok (.iload 4, 2) := by decide +kernel
theorem dX0_lay_62 : decode cX0_lay 62 = .ok (.ifCond .eq 24, 3) := by decide +kernel
theorem dX0_lay_65 : decode cX0_lay 65 = .ok (.iload_n 3, 1) := by decide +kernel
theorem dX0_lay_66 : decode cX0_lay 66 = .ok (.aload_n 1, 1) := by decide +kernel
theorem dX0_lay_67 : decode cX0_lay 67 = .ok (.getfield 31, 3) := by decide +kernel
theorem dX0_lay_70 : decode cX0_lay 70 = .ok (.iconst 1, 1) := by decide +kernel
theorem dX0_lay_71 : decode cX0_lay 71 = .ok (.isub, 1) := by decide +kernel
theorem dX0_lay_72 : decode cX0_lay 72 = .ok (.if_icmp .eq 14, 3) := by decide +kernel
theorem dX0_lay_75 : decode cX0_lay 75 = .ok (.iload 4, 2) := by decide +kernel
theorem dX0_lay_77 : decode cX0_lay 77 = .ok (.aload_n 1, 1) := by decide +kernel
theorem dX0_lay_78 : decode cX0_lay 78 = .ok (.getfield 34, 3) := by decide +kernel
theorem dX0_lay_81 : decode cX0_lay 81 = .ok (.iconst 1, 1) := by decide +kernel
theorem dX0_lay_82 : decode cX0_lay 82 = .ok (.isub, 1) := by decide +kernel
theorem dX0_lay_83 : decode cX0_lay 83 = .ok (.if_icmp .ne 7, 3) := by decide +kernel
theorem dX0_lay_86 : decode cX0_lay 86 = .ok (.iconst 1, 1) := by decide +kernel
theorem dX0_lay_87 : decode cX0_lay 87 = .ok (.goto 4, 3) := by decide +kernel
theorem dX0_lay_90 : decode cX0_lay 90 = .ok (.iconst 0, 1) := by decide +kernel
theorem dX0_lay_91 : decode cX0_lay 91 = .ok (.istore 6, 2) := by decide +kernel
theorem dX0_lay_93 : decode cX0_lay 93 = .ok (.aload_n 0, 1) := by decide +kernel
theorem dX0_lay_94 : decode cX0_lay 94 = .ok (.getfield 9, 3) := by decide +kernel
theorem dX0_lay_97 : decode cX0_lay 97 = .ok (.iload 5, 2) := by decide +kernel
theorem dX0_lay_99 : decode cX0_lay 99 = .ok (.aload_n 1, 1) := by decide +kernel
theorem dX0_lay_100 : decode cX0_lay 100 = .ok (.getfield 40, 3) := by decide +kernel
theorem dX0_lay_103 : decode cX0_lay 103 = .ok (.iload 5, 2) := by decide +kernel
theorem dX0_lay_105 : decode cX0_lay 105 = .ok (.iaload, 1) := by decide +kernel
theorem dX0_lay_106 : decode cX0_lay 106 = .ok (.invokestatic 43, 3) := by decide +kernel
theorem dX0_lay_109 : decode cX0_lay 109 = .ok (.iastore, 1) := by decide +kernel
theorem dX0_lay_110 : decode cX0_lay 110 = .ok (.aload_n 0, 1) := by decide +kernel
theorem dX0_lay_111 : decode cX0_lay 111 = .ok (.getfield 15, 3) := by decide +kernel
theorem dX0_lay_114 : decode cX0_lay 114 = .ok (.iload 5, 2) := by decide +kernel
theorem dX0_lay_116 : decode cX0_lay 116 = .ok (.iload_n 2, 1) := by decide +kernel
theorem dX0_lay_117 : decode cX0_lay 117 = .ok (.ifCond .ne 22, 3) := by decide +kernel
theorem dX0_lay_120 : decode cX0_lay 120 = .ok (.aload_n 0, 1) := by decide +kernel
theorem dX0_lay_121 : decode cX0_lay 121 = .ok (.getfield 9, 3) := by decide +kernel
theorem dX0_lay_124 : decode cX0_lay 124 = .ok (.iload 5, 2) := by decide +kernel
theorem dX0_lay_126 : decode cX0_lay 126 = .ok (.iaload, 1) := by decide +kernel
theorem dX0_lay_127 : decode cX0_lay 127 = .ok (.iconst 2, 1) := by decide +kernel
theorem dX0_lay_128 : decode cX0_lay 128 = .ok (.if_icmp .ne 7, 3) := by decide +kernel
theorem dX0_lay_131 : decode cX0_lay 131 = .ok (.iconst 1, 1) := by decide +kernel
theorem dX0_lay_132 : decode cX0_lay 132 = .ok (.goto 9, 3) := by decide +kernel
theorem dX0_lay_135 : decode cX0_lay 135 = .ok (.iconst 0, 1) := by decide +kernel
theorem dX0_lay_136 : decode cX0_lay 136 = .ok (.goto 5, 3) := by decide +kernel
theorem dX0_lay_139 : decode cX0_lay 139 = .ok (.iload 6, 2) := by decide +kernel
theorem dX0_lay_141 : decode cX0_lay 141 = .ok (.bastore, 1) := by decide +kernel
theorem dX0_lay_142 : decode cX0_lay 142 = .ok (.aload_n 0, 1) := by decide +kernel
theorem dX0_lay_143 : decode cX0_lay 143 = .ok (.getfield 19, 3) := by decide +kernel
theorem dX0_lay_146 : decode cX0_lay 146 = .ok (.iload 5, 2) := by decide +kernel
theorem dX0_lay_148 : decode cX0_lay 148 = .ok (.iconst 4, 1) := by decide +kernel
theorem dX0_lay_149 : decode cX0_lay 149 = .ok (.imul, 1) := by decide +kernel
theorem dX0_lay_150 : decode cX0_lay 150 = .ok (.iload_n 3, 1) := by decide +kernel
theorem dX0_lay_151 : decode cX0_lay 151 = .ok (.ifCond .le 13, 3) := by decide +kernel
theorem dX0_lay_154 : decode cX0_lay 154 = .ok (.iload 5, 2) := by decide +kernel
theorem dX0_lay_156 : decode cX0_lay 156 = .ok (.aload_n 1, 1) := by decide +kernel
theorem dX0_lay_157 : decode cX0_lay 157 = .ok (.getfield 34, 3) := by decide +kernel
theorem dX0_lay_160 : decode cX0_lay 160 = .ok (.isub, 1) := by decide +kernel
theorem dX0_lay_161 : decode cX0_lay 161 = .ok (.goto 4, 3) := by decide +kernel
theorem dX0_lay_164 : decode cX0_lay 164 = .ok (.iconst (-1), 1) := by decide +kernel
theorem dX0_lay_165 : decode cX0_lay 165 = .ok (.iastore, 1) := by decide +kernel
theorem dX0_lay_166 : decode cX0_lay 166 = .ok (.aload_n 0, 1) := by decide +kernel
theorem dX0_lay_167 : decode cX0_lay 167 = .ok (.getfield 19, 3) := by decide +kernel
theorem dX0_lay_170 : decode cX0_lay 170 = .ok (.iload 5, 2) := by decide +kernel
theorem dX0_lay_172 : decode cX0_lay 172 = .ok (.iconst 4, 1) := by decide +kernel
theorem dX0_lay_173 : decode cX0_lay 173 = .ok (.imul, 1) := by decide +kernel
theorem dX0_lay_174 : decode cX0_lay 174 = .ok (.iconst 1, 1) := by decide +kernel
theorem dX0_lay_175 : decode cX0_lay 175 = .ok (.iadd, 1) := by decide +kernel
theorem dX0_lay_176 : decode cX0_lay 176 = .ok (.iload 4, 2) := by decide +kernel
theorem dX0_lay_178 : decode cX0_lay 178 = .ok (.aload_n 1, 1) := by decide +kernel
theorem dX0_lay_179 : decode cX0_lay 179 = .ok (.getfield 34, 3) := by decide +kernel
theorem dX0_lay_182 : decode cX0_lay 182 = .ok (.iconst 1, 1) := by decide +kernel
theorem dX0_lay_183 : decode cX0_lay 183 = .ok (.isub, 1) := by decide +kernel
theorem dX0_lay_184 : decode cX0_lay 184 = .ok (.if_icmp .ge 10, 3) := by decide +kernel
theorem dX0_lay_187 : decode cX0_lay 187 = .ok (.iload 5, 2) := by decide +kernel
theorem dX0_lay_189 : decode cX0_lay 189 = .ok (.iconst 1, 1) := by decide +kernel
theorem dX0_lay_190 : decode cX0_lay 190 = .ok (.iadd, 1) := by decide +kernel
theorem dX0_lay_191 : decode cX0_lay 191 = .ok (.goto 4, 3) := by decide +kernel
theorem dX0_lay_194 : decode cX0_lay 194 = .ok (.iconst (-1), 1) := by decide +kernel
theorem dX0_lay_195 : decode cX0_lay 195 = .ok (.iastore, 1) := by decide +kernel
theorem dX0_lay_196 : decode cX0_lay 196 = .ok (.aload_n 0, 1) := by decide +kernel
theorem dX0_lay_197 : decode cX0_lay 197 = .ok (.getfield 19, 3) := by decide +kernel
theorem dX0_lay_200 : decode cX0_lay 200 = .ok (.iload 5, 2) := by decide +kernel
theorem dX0_lay_202 : decode cX0_lay 202 = .ok (.iconst 4, 1) := by decide +kernel
theorem dX0_lay_203 : decode cX0_lay 203 = .ok (.imul, 1) := by decide +kernel
theorem dX0_lay_204 : decode cX0_lay 204 = .ok (.iconst 2, 1) := by decide +kernel
theorem dX0_lay_205 : decode cX0_lay 205 = .ok (.iadd, 1) := by decide +kernel
theorem dX0_lay_206 : decode cX0_lay 206 = .ok (.iload_n 3, 1) := by decide +kernel
theorem dX0_lay_207 : decode cX0_lay 207 = .ok (.aload_n 1, 1) := by decide +kernel
theorem dX0_lay_208 : decode cX0_lay 208 = .ok (.getfield 31, 3) := by decide +kernel
theorem dX0_lay_211 : decode cX0_lay 211 = .ok (.iconst 1, 1) := by decide +kernel
theorem dX0_lay_212 : decode cX0_lay 212 = .ok (.isub, 1) := by decide +kernel
theorem dX0_lay_213 : decode cX0_lay 213 = .ok (.if_icmp .ge 13, 3) := by decide +kernel
theorem dX0_lay_216 : decode cX0_lay 216 = .ok (.iload 5, 2) := by decide +kernel
theorem dX0_lay_218 : decode cX0_lay 218 = .ok (.aload_n 1, 1) := by decide +kernel
theorem dX0_lay_219 : decode cX0_lay 219 = .ok (.getfield 34, 3) := by decide +kernel
theorem dX0_lay_222 : decode cX0_lay 222 = .ok (.iadd, 1) := by decide +kernel
theorem dX0_lay_223 : decode cX0_lay 223 = .ok (.goto 4, 3) := by decide +kernel
theorem dX0_lay_226 : decode cX0_lay 226 = .ok (.iconst (-1), 1) := by decide +kernel
theorem dX0_lay_227 : decode cX0_lay 227 = .ok (.iastore, 1) := by decide +kernel
theorem dX0_lay_228 : decode cX0_lay 228 = .ok (.aload_n 0, 1) := by decide +kernel
theorem dX0_lay_229 : decode cX0_lay 229 = .ok (.getfield 19, 3) := by decide +kernel
theorem dX0_lay_232 : decode cX0_lay 232 = .ok (.iload 5, 2) := by decide +kernel
theorem dX0_lay_234 : decode cX0_lay 234 = .ok (.iconst 4, 1) := by decide +kernel
theorem dX0_lay_235 : decode cX0_lay 235 = .ok (.imul, 1) := by decide +kernel
theorem dX0_lay_236 : decode cX0_lay 236 = .ok (.iconst 3, 1) := by decide +kernel
theorem dX0_lay_237 : decode cX0_lay 237 = .ok (.iadd, 1) := by decide +kernel
theorem dX0_lay_238 : decode cX0_lay 238 = .ok (.iload 4, 2) := by decide +kernel
theorem dX0_lay_240 : decode cX0_lay 240 = .ok (.ifCond .le 10, 3) := by decide +kernel
theorem dX0_lay_243 : decode cX0_lay 243 = .ok (.iload 5, 2) := by decide +kernel
theorem dX0_lay_245 : decode cX0_lay 245 = .ok (.iconst 1, 1) := by decide +kernel
theorem dX0_lay_246 : decode cX0_lay 246 = .ok (.isub, 1) := by decide +kernel
theorem dX0_lay_247 : decode cX0_lay 247 = .ok (.goto 4, 3) := by decide +kernel
theorem dX0_lay_250 : decode cX0_lay 250 = .ok (.iconst (-1), 1) := by decide +kernel
theorem dX0_lay_251 : decode cX0_lay 251 = .ok (.iastore, 1) := by decide +kernel
theorem dX0_lay_252 : decode cX0_lay 252 = .ok (.iinc 4 1, 3) := by decide +kernel
theorem dX0_lay_255 : decode cX0_lay 255 = .ok (.goto (-219), 3) := by decide +kernel
theorem dX0_lay_258 : decode cX0_lay 258 = .ok (.iinc 3 1, 3) := by decide +kernel
theorem dX0_lay_261 : decode cX0_lay 261 = .ok (.goto (-236), 3) := by decide +kernel
theorem dX0_lay_264 : decode cX0_lay 264 = .ok (.return_, 1) := by decide +kernel
theorem dX0_beside_0 : decode cX0_beside 0 = .ok (.iload_n 1, 1) := by decide +kernel
theorem dX0_beside_1 : decode cX0_beside 1 = .ok (.ifCond .lt 24, 3) := by decide +kernel
theorem dX0_beside_4 : decode cX0_beside 4 = .ok (.iload_n 1, 1) := by decide +kernel
theorem dX0_beside_5 : decode cX0_beside 5 = .ok (.aload_n 0, 1) := by decide +kernel
theorem dX0_beside_6 : decode cX0_beside 6 = .ok (.getfield 28, 3) := by decide +kernel
theorem dX0_beside_9 : decode cX0_beside 9 = .ok (.if_icmp .ge 16, 3) := by decide +kernel
theorem dX0_beside_12 : decode cX0_beside 12 = .ok (.iload_n 2, 1) := by decide +kernel
theorem dX0_beside_13 : decode cX0_beside 13 = .ok (.ifCond .lt 12, 3) := by decide +kernel
theorem dX0_beside_16 : decode cX0_beside 16 = .ok (.iload_n 2, 1) := by decide +kernel
theorem dX0_beside_17 : decode cX0_beside 17 = .ok (.iconst 4, 1) := by decide +kernel
theorem dX0_beside_18 : decode cX0_beside 18 = .ok (.if_icmp .ge 7, 3) := by decide +kernel
theorem dX0_beside_21 : decode cX0_beside 21 = .ok (.iconst 1, 1) := by decide +kernel
theorem dX0_beside_22 : decode cX0_beside 22 = .ok (.goto 4, 3) := by decide +kernel
theorem dX0_beside_25 : decode cX0_beside 25 = .ok (.iconst 0, 1) := by decide +kernel
theorem dX0_beside_26 : decode cX0_beside 26 = .ok (.istore_n 3, 1) := by decide +kernel
theorem dX0_beside_27 : decode cX0_beside 27 = .ok (.iload_n 3, 1) := by decide +kernel
theorem dX0_beside_28 : decode cX0_beside 28 = .ok (.ifCond .eq 16, 3) := by decide +kernel
theorem dX0_beside_31 : decode cX0_beside 31 = .ok (.aload_n 0, 1) := by decide +kernel
theorem dX0_beside_32 : decode cX0_beside 32 = .ok (.getfield 19, 3) := by decide +kernel
theorem dX0_beside_35 : decode cX0_beside 35 = .ok (.iload_n 1, 1) := by decide +kernel
theorem dX0_beside_36 : decode cX0_beside 36 = .ok (.iconst 4, 1) := by decide +kernel
theorem dX0_beside_37 : decode cX0_beside 37 = .ok (.imul, 1) := by decide +kernel
theorem dX0_beside_38 : decode cX0_beside 38 = .ok (.iload_n 2, 1) := by decide +kernel
theorem dX0_beside_39 : decode cX0_beside 39 = .ok (.iadd, 1) := by decide +kernel
theorem dX0_beside_40 : decode cX0_beside 40 = .ok (.iaload, 1) := by decide +kernel
theorem dX0_beside_41 : decode cX0_beside 41 = .ok (.goto 4, 3) := by decide +kernel
theorem dX0_beside_44 : decode cX0_beside 44 = .ok (.iconst (-1), 1) := by decide +kernel
theorem dX0_beside_45 : decode cX0_beside 45 = .ok (.ireturn, 1) := by decide +kernel
set_option maxRecDepth 20000 in
theorem ggX0_away_X0_beside : GoodIn wsX0_away wsX0_beside := goodIn_r _ [5, 6, 7, 8, 9, 10, 11, 12] (by decide +kernel) (by decide +kernel)
set_option maxRecDepth 20000 in
theorem gX0_away_X0_beside : GoodIn wsX0_away (wsV RX0 47 RX0 yX0_beside wsX0_beside) := goodIn_app (goodIn_of _ (by decide +kernel)) ggX0_away_X0_beside
theorem dX0_away_0 : decode cX0_away 0 = .ok (.iload_n 3, 1) := by decide +kernel
theorem dX0_away_1 : decode cX0_away 1 = .ok (.bipush 9, 2) := by decide +kernel
theorem dX0_away_3 : decode cX0_away 3 = .ok (.if_icmp .lt 5, 3) := by decide +kernel
theorem dX0_away_6 : decode cX0_away 6 = .ok (.iconst (-1), 1) := by decide +kernel
theorem dX0_away_7 : decode cX0_away 7 = .ok (.ireturn, 1) := by decide +kernel
theorem dX0_away_8 : decode cX0_away 8 = .ok (.iload_n 1, 1) := by decide +kernel
theorem dX0_away_9 : decode cX0_away 9 = .ok (.istore 4, 2) := by decide +kernel
theorem dX0_away_11 : decode cX0_away 11 = .ok (.iconst 0, 1) := by decide +kernel
theorem dX0_away_12 : decode cX0_away 12 = .ok (.istore 5, 2) := by decide +kernel
theorem dX0_away_14 : decode cX0_away 14 = .ok (.iload 5, 2) := by decide +kernel
theorem dX0_away_16 : decode cX0_away 16 = .ok (.iload_n 3, 1) := by decide +kernel
theorem dX0_away_17 : decode cX0_away 17 = .ok (.if_icmp .ge 18, 3) := by decide +kernel
theorem dX0_away_20 : decode cX0_away 20 = .ok (.aload_n 0, 1) := by decide +kernel
theorem dX0_away_21 : decode cX0_away 21 = .ok (.iload 4, 2) := by decide +kernel
theorem dX0_away_23 : decode cX0_away 23 = .ok (.iload_n 2, 1) := by decide +kernel
theorem dX0_away_24 : decode cX0_away 24 = .ok (.invokevirtual 47, 3) := by decide +kernel
theorem dX0_away_27 : decode cX0_away 27 = .ok (.istore 4, 2) := by decide +kernel
theorem dX0_away_29 : decode cX0_away 29 = .ok (.iinc 5 1, 3) := by decide +kernel
theorem dX0_away_32 : decode cX0_away 32 = .ok (.goto (-18), 3) := by decide +kernel
theorem dX0_away_35 : decode cX0_away 35 = .ok (.iload 4, 2) := by decide +kernel
theorem dX0_away_37 : decode cX0_away 37 = .ok (.ireturn, 1) := by decide +kernel
theorem dX1_init_0 : decode cX1_init 0 = .ok (.aload_n 0, 1) := by decide +kernel
theorem dX1_init_1 : decode cX1_init 1 = .ok (.invokespecial 1, 3) := by decide +kernel
theorem dX1_init_4 : decode cX1_init 4 = .ok (.aload_n 0, 1) := by decide +kernel
theorem dX1_init_5 : decode cX1_init 5 = .ok (.iconst 0, 1) := by decide +kernel
theorem dX1_init_6 : decode cX1_init 6 = .ok (.putfield 7, 3) := by decide +kernel
theorem dX1_init_9 : decode cX1_init 9 = .ok (.aload_n 0, 1) := by decide +kernel
theorem dX1_init_10 : decode cX1_init 10 = .ok (.iconst 4, 1) := by decide +kernel
theorem dX1_init_11 : decode cX1_init 11 = .ok (.putfield 13, 3) := by decide +kernel
theorem dX1_init_14 : decode cX1_init 14 = .ok (.aload_n 0, 1) := by decide +kernel
theorem dX1_init_15 : decode cX1_init 15 = .ok (.iconst 1, 1) := by decide +kernel
theorem dX1_init_16 : decode cX1_init 16 = .ok (.putfield 16, 3) := by decide +kernel
theorem dX1_init_19 : decode cX1_init 19 = .ok (.aload_n 0, 1) := by decide +kernel
theorem dX1_init_20 : decode cX1_init 20 = .ok (.iconst 0, 1) := by decide +kernel
theorem dX1_init_21 : decode cX1_init 21 = .ok (.putfield 20, 3) := by decide +kernel
theorem dX1_init_24 : decode cX1_init 24 = .ok (.aload_n 0, 1) := by decide +kernel
theorem dX1_init_25 : decode cX1_init 25 = .ok (.iconst 0, 1) := by decide +kernel
theorem dX1_init_26 : decode cX1_init 26 = .ok (.putfield 23, 3) := by decide +kernel
theorem dX1_init_29 : decode cX1_init 29 = .ok (.return_, 1) := by decide +kernel
theorem dX1_change_0 : decode cX1_change 0 = .ok (.iload_n 1, 1) := by decide +kernel
theorem dX1_change_1 : decode cX1_change 1 = .ok (.ifCond .eq 8, 3) := by decide +kernel
theorem dX1_change_4 : decode cX1_change 4 = .ok (.iload_n 1, 1) := by decide +kernel
theorem dX1_change_5 : decode cX1_change 5 = .ok (.iconst 1, 1) := by decide +kernel
theorem dX1_change_6 : decode cX1_change 6 = .ok (.if_icmp .ne 40, 3) := by decide +kernel
theorem dX1_change_9 : decode cX1_change 9 = .ok (.iload_n 2, 1) := by decide +kernel
theorem dX1_change_10 : decode cX1_change 10 = .ok (.iconst 2, 1) := by decide +kernel
theorem dX1_change_11 : decode cX1_change 11 = .ok (.if_icmp .eq 8, 3) := by decide +kernel
theorem dX1_change_14 : decode cX1_change 14 = .ok (.iload_n 2, 1) := by decide +kernel
theorem dX1_change_15 : decode cX1_change 15 = .ok (.iconst 4, 1) := by decide +kernel
theorem dX1_change_16 : decode cX1_change 16 = .ok (.if_icmp .ne 30, 3) := by decide +kernel
theorem dX1_change_19 : decode cX1_change 19 = .ok (.iload 4, 2) := by decide +kernel
theorem dX1_change_21 : decode cX1_change 21 = .ok (.ifCond .lt 25, 3) := by decide +kernel
theorem dX1_change_24 : decode cX1_change 24 = .ok (.iload 4, 2) := by decide +kernel
theorem dX1_change_26 : decode cX1_change 26 = .ok (.bipush 8, 2) := by decide +kernel
theorem dX1_change_28 : decode cX1_change 28 = .ok (.if_icmp .gt 18, 3) := by decide +kernel
theorem dX1_change_31 : decode cX1_change 31 = .ok (.iload 5, 2) := by decide +kernel
theorem dX1_change_33 : decode cX1_change 33 = .ok (.ifCond .eq 9, 3) := by decide +kernel
theorem dX1_change_36 : decode cX1_change 36 = .ok (.iload 5, 2) := by decide +kernel
theorem dX1_change_38 : decode cX1_change 38 = .ok (.iconst 1, 1) := by decide +kernel
theorem dX1_change_39 : decode cX1_change 39 = .ok (.if_icmp .ne 7, 3) := by decide +kernel
theorem dX1_change_42 : decode cX1_change 42 = .ok (.iconst 1, 1) := by decide +kernel
theorem dX1_change_43 : decode cX1_change 43 = .ok (.goto 4, 3) := by decide +kernel
theorem dX1_change_46 : decode cX1_change 46 = .ok (.iconst 0, 1) := by decide +kernel
theorem dX1_change_47 : decode cX1_change 47 = .ok (.istore 6, 2) := by decide +kernel
theorem dX1_change_49 : decode cX1_change 49 = .ok (.iload 6, 2) := by decide +kernel
theorem dX1_change_51 : decode cX1_change 51 = .ok (.ifCond .ne 5, 3) := by decide +kernel
theorem dX1_change_54 : decode cX1_change 54 = .ok (.iconst 0, 1) := by decide +kernel
theorem dX1_change_55 : decode cX1_change 55 = .ok (.ireturn, 1) := by decide +kernel
theorem dX1_change_56 : decode cX1_change 56 = .ok (.aload_n 0, 1) := by decide +kernel
theorem dX1_change_57 : decode cX1_change 57 = .ok (.iload_n 1, 1) := by decide +kernel
theorem dX1_change_58 : decode cX1_change 58 = .ok (.putfield 7, 3) := by decide +kernel
theorem dX1_change_61 : decode cX1_change 61 = .ok (.aload_n 0, 1) := by decide +kernel
theorem dX1_change_62 : decode cX1_change 62 = .ok (.iload_n 2, 1) := by decide +kernel
theorem dX1_change_63 : decode cX1_change 63 = .ok (.putfield 13, 3) := by decide +kernel
theorem dX1_change_66 : decode cX1_change 66 = .ok (.aload_n 0, 1) := by decide +kernel
theorem dX1_change_67 : decode cX1_change 67 = .ok (.iload_n 3, 1) := by decide +kernel
theorem dX1_change_68 : decode cX1_change 68 = .ok (.putfield 16, 3) := by decide +kernel
theorem dX1_change_71 : decode cX1_change 71 = .ok (.aload_n 0, 1) := by decide +kernel
theorem dX1_change_72 : decode cX1_change 72 = .ok (.iload 4, 2) := by decide +kernel
theorem dX1_change_74 : decode cX1_change 74 = .ok (.putfield 20, 3) := by decide +kernel
theorem dX1_change_77 : decode cX1_change 77 = .ok (.aload_n 0, 1) := by decide +kernel
theorem dX1_change_78 : decode cX1_change 78 = .ok (.iload 5, 2) := by decide +kernel
theorem dX1_change_80 : decode cX1_change 80 = .ok (.putfield 23, 3) := by decide +kernel
theorem dX1_change_83 : decode cX1_change 83 = .ok (.iconst 1, 1) := by decide +kernel
theorem dX1_change_84 : decode cX1_change 84 = .ok (.ireturn, 1) := by decide +kernel
theorem dX2_init_0 : decode cX2_init 0 = .ok (.aload_n 0, 1) := by decide +kernel
theorem dX2_init_1 : decode cX2_init 1 = .ok (.invokespecial 3, 3) := by decide +kernel
theorem dX2_init_4 : decode cX2_init 4 = .ok (.aload_n 0, 1) := by decide +kernel
theorem dX2_init_5 : decode cX2_init 5 = .ok (.iconst 0, 1) := by decide +kernel
theorem dX2_init_6 : decode cX2_init 6 = .ok (.newarray .int, 2) := by decide +kernel
theorem dX2_init_8 : decode cX2_init 8 = .ok (.putfield 9, 3) := by decide +kernel
theorem dX2_init_11 : decode cX2_init 11 = .ok (.aload_n 0, 1) := by decide +kernel
theorem dX2_init_12 : decode cX2_init 12 = .ok (.iconst 0, 1) := by decide +kernel
theorem dX2_init_13 : decode cX2_init 13 = .ok (.newarray .int, 2) := by decide +kernel
theorem dX2_init_15 : decode cX2_init 15 = .ok (.putfield 15, 3) := by decide +kernel
theorem dX2_init_18 : decode cX2_init 18 = .ok (.aload_n 0, 1) := by decide +kernel
theorem dX2_init_19 : decode cX2_init 19 = .ok (.iconst 0, 1) := by decide +kernel
theorem dX2_init_20 : decode cX2_init 20 = .ok (.newarray .int, 2) := by decide +kernel
theorem dX2_init_22 : decode cX2_init 22 = .ok (.putfield 18, 3) := by decide +kernel
theorem dX2_init_25 : decode cX2_init 25 = .ok (.return_, 1) := by decide +kernel
set_option maxRecDepth 20000 in
theorem ggX2_renew_X2_roomFor : GoodIn wsX2_renew wsX2_roomFor := goodIn_r _ [10, 11, 12, 13, 14, 15, 16, 17] (by decide +kernel) (by decide +kernel)
set_option maxRecDepth 20000 in
theorem gX2_renew_X2_roomFor : GoodIn wsX2_renew (va_wsS RX2 21 yX2_roomFor wsX2_roomFor) := goodIn_app (goodIn_of _ (by decide +kernel)) ggX2_renew_X2_roomFor
set_option maxRecDepth 20000 in
theorem ggX2_renew_J7_fill_53178 : GoodIn wsX2_renew wsJ7_fill_53178 := goodIn_r _ [21] (by decide +kernel) (by decide +kernel)
set_option maxRecDepth 20000 in
theorem gX2_renew_J7_fill_53178 : GoodIn wsX2_renew (va_wsS RX2 26 yJ7_fill_53178 wsJ7_fill_53178) := goodIn_app (goodIn_of _ (by decide +kernel)) ggX2_renew_J7_fill_53178
theorem dX2_renew_0 : decode cX2_renew 0 = .ok (.aload_n 0, 1) := by decide +kernel
theorem dX2_renew_1 : decode cX2_renew 1 = .ok (.getfield 9, 3) := by decide +kernel
theorem dX2_renew_4 : decode cX2_renew 4 = .ok (.arraylength, 1) := by decide +kernel
theorem dX2_renew_5 : decode cX2_renew 5 = .ok (.iload_n 1, 1) := by decide +kernel
theorem dX2_renew_6 : decode cX2_renew 6 = .ok (.if_icmp .ge 21, 3) := by decide +kernel
theorem dX2_renew_9 : decode cX2_renew 9 = .ok (.aload_n 0, 1) := by decide +kernel
theorem dX2_renew_10 : decode cX2_renew 10 = .ok (.iload_n 1, 1) := by decide +kernel
theorem dX2_renew_11 : decode cX2_renew 11 = .ok (.aload_n 0, 1) := by decide +kernel
theorem dX2_renew_12 : decode cX2_renew 12 = .ok (.getfield 9, 3) := by decide +kernel
theorem dX2_renew_15 : decode cX2_renew 15 = .ok (.arraylength, 1) := by decide +kernel
theorem dX2_renew_16 : decode cX2_renew 16 = .ok (.sipush 10000, 3) := by decide +kernel
theorem dX2_renew_19 : decode cX2_renew 19 = .ok (.invokestatic 21, 3) := by decide +kernel
theorem dX2_renew_22 : decode cX2_renew 22 = .ok (.newarray .int, 2) := by decide +kernel
theorem dX2_renew_24 : decode cX2_renew 24 = .ok (.putfield 9, 3) := by decide +kernel
theorem dX2_renew_27 : decode cX2_renew 27 = .ok (.aload_n 0, 1) := by decide +kernel
theorem dX2_renew_28 : decode cX2_renew 28 = .ok (.getfield 15, 3) := by decide +kernel
theorem dX2_renew_31 : decode cX2_renew 31 = .ok (.arraylength, 1) := by decide +kernel
theorem dX2_renew_32 : decode cX2_renew 32 = .ok (.iload_n 2, 1) := by decide +kernel
theorem dX2_renew_33 : decode cX2_renew 33 = .ok (.if_icmp .ge 29, 3) := by decide +kernel
theorem dX2_renew_36 : decode cX2_renew 36 = .ok (.iload_n 2, 1) := by decide +kernel
theorem dX2_renew_37 : decode cX2_renew 37 = .ok (.aload_n 0, 1) := by decide +kernel
theorem dX2_renew_38 : decode cX2_renew 38 = .ok (.getfield 15, 3) := by decide +kernel
theorem dX2_renew_41 : decode cX2_renew 41 = .ok (.arraylength, 1) := by decide +kernel
theorem dX2_renew_42 : decode cX2_renew 42 = .ok (.ldc 25, 2) := by decide +kernel
theorem dX2_renew_44 : decode cX2_renew 44 = .ok (.invokestatic 21, 3) := by decide +kernel
theorem dX2_renew_47 : decode cX2_renew 47 = .ok (.istore_n 3, 1) := by decide +kernel
theorem dX2_renew_48 : decode cX2_renew 48 = .ok (.aload_n 0, 1) := by decide +kernel
theorem dX2_renew_49 : decode cX2_renew 49 = .ok (.iload_n 3, 1) := by decide +kernel
theorem dX2_renew_50 : decode cX2_renew 50 = .ok (.newarray .int, 2) := by decide +kernel
theorem dX2_renew_52 : decode cX2_renew 52 = .ok (.putfield 15, 3) := by decide +kernel
theorem dX2_renew_55 : decode cX2_renew 55 = .ok (.aload_n 0, 1) := by decide +kernel
theorem dX2_renew_56 : decode cX2_renew 56 = .ok (.iload_n 3, 1) := by decide +kernel
theorem dX2_renew_57 : decode cX2_renew 57 = .ok (.newarray .int, 2) := by decide +kernel
theorem dX2_renew_59 : decode cX2_renew 59 = .ok (.putfield 18, 3) := by decide +kernel
theorem dX2_renew_62 : decode cX2_renew 62 = .ok (.aload_n 0, 1) := by decide +kernel
theorem dX2_renew_63 : decode cX2_renew 63 = .ok (.getfield 9, 3) := by decide +kernel
theorem dX2_renew_66 : decode cX2_renew 66 = .ok (.iconst (-1), 1) := by decide +kernel
theorem dX2_renew_67 : decode cX2_renew 67 = .ok (.invokestatic 26, 3) := by decide +kernel
theorem dX2_renew_70 : decode cX2_renew 70 = .ok (.aload_n 0, 1) := by decide +kernel
theorem dX2_renew_71 : decode cX2_renew 71 = .ok (.iconst 0, 1) := by decide +kernel
theorem dX2_renew_72 : decode cX2_renew 72 = .ok (.putfield 32, 3) := by decide +kernel
theorem dX2_renew_75 : decode cX2_renew 75 = .ok (.return_, 1) := by decide +kernel
theorem dX2_roomFor_0 : decode cX2_roomFor 0 = .ok (.iload_n 0, 1) := by decide +kernel
theorem dX2_roomFor_1 : decode cX2_roomFor 1 = .ok (.iconst 2, 1) := by decide +kernel
theorem dX2_roomFor_2 : decode cX2_roomFor 2 = .ok (.iload_n 1, 1) := by decide +kernel
theorem dX2_roomFor_3 : decode cX2_roomFor 3 = .ok (.imul, 1) := by decide +kernel
theorem dX2_roomFor_4 : decode cX2_roomFor 4 = .ok (.iload_n 2, 1) := by decide +kernel
theorem dX2_roomFor_5 : decode cX2_roomFor 5 = .ok (.invokestatic 36, 3) := by decide +kernel
theorem dX2_roomFor_8 : decode cX2_roomFor 8 = .ok (.invokestatic 42, 3) := by decide +kernel
theorem dX2_roomFor_11 : decode cX2_roomFor 11 = .ok (.ireturn, 1) := by decide +kernel
theorem dX2_add_0 : decode cX2_add 0 = .ok (.aload_n 0, 1) := by decide +kernel
theorem dX2_add_1 : decode cX2_add 1 = .ok (.getfield 32, 3) := by decide +kernel
theorem dX2_add_4 : decode cX2_add 4 = .ok (.aload_n 0, 1) := by decide +kernel
theorem dX2_add_5 : decode cX2_add 5 = .ok (.getfield 15, 3) := by decide +kernel
theorem dX2_add_8 : decode cX2_add 8 = .ok (.arraylength, 1) := by decide +kernel
theorem dX2_add_9 : decode cX2_add 9 = .ok (.if_icmp .ge 61, 3) := by decide +kernel
theorem dX2_add_12 : decode cX2_add 12 = .ok (.iload_n 2, 1) := by decide +kernel
theorem dX2_add_13 : decode cX2_add 13 = .ok (.ifCond .lt 57, 3) := by decide +kernel
theorem dX2_add_16 : decode cX2_add 16 = .ok (.iload_n 2, 1) := by decide +kernel
theorem dX2_add_17 : decode cX2_add 17 = .ok (.aload_n 0, 1) := by decide +kernel
theorem dX2_add_18 : decode cX2_add 18 = .ok (.getfield 9, 3) := by decide +kernel
theorem dX2_add_21 : decode cX2_add 21 = .ok (.arraylength, 1) := by decide +kernel
theorem dX2_add_22 : decode cX2_add 22 = .ok (.if_icmp .ge 48, 3) := by decide +kernel
theorem dX2_add_25 : decode cX2_add 25 = .ok (.aload_n 0, 1) := by decide +kernel
theorem dX2_add_26 : decode cX2_add 26 = .ok (.getfield 15, 3) := by decide +kernel
theorem dX2_add_29 : decode cX2_add 29 = .ok (.aload_n 0, 1) := by decide +kernel
theorem dX2_add_30 : decode cX2_add 30 = .ok (.getfield 32, 3) := by decide +kernel
theorem dX2_add_33 : decode cX2_add 33 = .ok (.iload_n 1, 1) := by decide +kernel
theorem dX2_add_34 : decode cX2_add 34 = .ok (.iastore, 1) := by decide +kernel
theorem dX2_add_35 : decode cX2_add 35 = .ok (.aload_n 0, 1) := by decide +kernel
theorem dX2_add_36 : decode cX2_add 36 = .ok (.getfield 18, 3) := by decide +kernel
theorem dX2_add_39 : decode cX2_add 39 = .ok (.aload_n 0, 1) := by decide +kernel
theorem dX2_add_40 : decode cX2_add 40 = .ok (.getfield 32, 3) := by decide +kernel
theorem dX2_add_43 : decode cX2_add 43 = .ok (.aload_n 0, 1) := by decide +kernel
theorem dX2_add_44 : decode cX2_add 44 = .ok (.getfield 9, 3) := by decide +kernel
theorem dX2_add_47 : decode cX2_add 47 = .ok (.iload_n 2, 1) := by decide +kernel
theorem dX2_add_48 : decode cX2_add 48 = .ok (.iaload, 1) := by decide +kernel
theorem dX2_add_49 : decode cX2_add 49 = .ok (.iastore, 1) := by decide +kernel
theorem dX2_add_50 : decode cX2_add 50 = .ok (.aload_n 0, 1) := by decide +kernel
theorem dX2_add_51 : decode cX2_add 51 = .ok (.getfield 9, 3) := by decide +kernel
theorem dX2_add_54 : decode cX2_add 54 = .ok (.iload_n 2, 1) := by decide +kernel
theorem dX2_add_55 : decode cX2_add 55 = .ok (.aload_n 0, 1) := by decide +kernel
theorem dX2_add_56 : decode cX2_add 56 = .ok (.getfield 32, 3) := by decide +kernel
theorem dX2_add_59 : decode cX2_add 59 = .ok (.iastore, 1) := by decide +kernel
theorem dX2_add_60 : decode cX2_add 60 = .ok (.aload_n 0, 1) := by decide +kernel
theorem dX2_add_61 : decode cX2_add 61 = .ok (.dup, 1) := by decide +kernel
theorem dX2_add_62 : decode cX2_add 62 = .ok (.getfield 32, 3) := by decide +kernel
theorem dX2_add_65 : decode cX2_add 65 = .ok (.iconst 1, 1) := by decide +kernel
theorem dX2_add_66 : decode cX2_add 66 = .ok (.iadd, 1) := by decide +kernel
theorem dX2_add_67 : decode cX2_add 67 = .ok (.putfield 32, 3) := by decide +kernel
theorem dX2_add_70 : decode cX2_add 70 = .ok (.return_, 1) := by decide +kernel
theorem dX3_init_0 : decode cX3_init 0 = .ok (.aload_n 0, 1) := by decide +kernel
theorem dX3_init_1 : decode cX3_init 1 = .ok (.invokespecial 3, 3) := by decide +kernel
theorem dX3_init_4 : decode cX3_init 4 = .ok (.aload_n 0, 1) := by decide +kernel
theorem dX3_init_5 : decode cX3_init 5 = .ok (.sipush 512, 3) := by decide +kernel
theorem dX3_init_8 : decode cX3_init 8 = .ok (.newarray .int, 2) := by decide +kernel
theorem dX3_init_10 : decode cX3_init 10 = .ok (.putfield 9, 3) := by decide +kernel
theorem dX3_init_13 : decode cX3_init 13 = .ok (.aload_n 0, 1) := by decide +kernel
theorem dX3_init_14 : decode cX3_init 14 = .ok (.sipush 512, 3) := by decide +kernel
theorem dX3_init_17 : decode cX3_init 17 = .ok (.newarray .int, 2) := by decide +kernel
theorem dX3_init_19 : decode cX3_init 19 = .ok (.putfield 15, 3) := by decide +kernel
theorem dX3_init_22 : decode cX3_init 22 = .ok (.aload_n 0, 1) := by decide +kernel
theorem dX3_init_23 : decode cX3_init 23 = .ok (.sipush 512, 3) := by decide +kernel
theorem dX3_init_26 : decode cX3_init 26 = .ok (.newarray .int, 2) := by decide +kernel
theorem dX3_init_28 : decode cX3_init 28 = .ok (.putfield 18, 3) := by decide +kernel
theorem dX3_init_31 : decode cX3_init 31 = .ok (.aload_n 0, 1) := by decide +kernel
theorem dX3_init_32 : decode cX3_init 32 = .ok (.sipush 512, 3) := by decide +kernel
theorem dX3_init_35 : decode cX3_init 35 = .ok (.newarray .int, 2) := by decide +kernel
theorem dX3_init_37 : decode cX3_init 37 = .ok (.putfield 21, 3) := by decide +kernel
theorem dX3_init_40 : decode cX3_init 40 = .ok (.aload_n 0, 1) := by decide +kernel
theorem dX3_init_41 : decode cX3_init 41 = .ok (.sipush 2048, 3) := by decide +kernel
theorem dX3_init_44 : decode cX3_init 44 = .ok (.newarray .int, 2) := by decide +kernel
theorem dX3_init_46 : decode cX3_init 46 = .ok (.putfield 24, 3) := by decide +kernel
theorem dX3_init_49 : decode cX3_init 49 = .ok (.aload_n 0, 1) := by decide +kernel
theorem dX3_init_50 : decode cX3_init 50 = .ok (.sipush 2048, 3) := by decide +kernel
theorem dX3_init_53 : decode cX3_init 53 = .ok (.newarray .int, 2) := by decide +kernel
theorem dX3_init_55 : decode cX3_init 55 = .ok (.putfield 27, 3) := by decide +kernel
theorem dX3_init_58 : decode cX3_init 58 = .ok (.aload_n 0, 1) := by decide +kernel
theorem dX3_init_59 : decode cX3_init 59 = .ok (.bipush 40, 2) := by decide +kernel
theorem dX3_init_61 : decode cX3_init 61 = .ok (.newarray .int, 2) := by decide +kernel
theorem dX3_init_63 : decode cX3_init 63 = .ok (.putfield 30, 3) := by decide +kernel
theorem dX3_init_66 : decode cX3_init 66 = .ok (.return_, 1) := by decide +kernel
theorem dX3_clear_0 : decode cX3_clear 0 = .ok (.aload_n 0, 1) := by decide +kernel
theorem dX3_clear_1 : decode cX3_clear 1 = .ok (.iconst 0, 1) := by decide +kernel
theorem dX3_clear_2 : decode cX3_clear 2 = .ok (.putfield 33, 3) := by decide +kernel
theorem dX3_clear_5 : decode cX3_clear 5 = .ok (.aload_n 0, 1) := by decide +kernel
theorem dX3_clear_6 : decode cX3_clear 6 = .ok (.iconst 0, 1) := by decide +kernel
theorem dX3_clear_7 : decode cX3_clear 7 = .ok (.putfield 37, 3) := by decide +kernel
theorem dX3_clear_10 : decode cX3_clear 10 = .ok (.return_, 1) := by decide +kernel
theorem dX3_isFull_0 : decode cX3_isFull 0 = .ok (.aload_n 0, 1) := by decide +kernel
theorem dX3_isFull_1 : decode cX3_isFull 1 = .ok (.getfield 33, 3) := by decide +kernel
theorem dX3_isFull_4 : decode cX3_isFull 4 = .ok (.sipush 512, 3) := by decide +kernel
theorem dX3_isFull_7 : decode cX3_isFull 7 = .ok (.if_icmp .lt 7, 3) := by decide +kernel
theorem dX3_isFull_10 : decode cX3_isFull 10 = .ok (.iconst 1, 1) := by decide +kernel
theorem dX3_isFull_11 : decode cX3_isFull 11 = .ok (.goto 4, 3) := by decide +kernel
theorem dX3_isFull_14 : decode cX3_isFull 14 = .ok (.iconst 0, 1) := by decide +kernel
theorem dX3_isFull_15 : decode cX3_isFull 15 = .ok (.ireturn, 1) := by decide +kernel
set_option maxRecDepth 20000 in
theorem ggX3_write_X3_isFull : GoodIn wsX3_write wsX3_isFull := goodIn_r _ [17, 2, 24, 25, 26, 27, 28, 29, 30, 31, 32] (by decide +kernel) (by decide +kernel)
set_option maxRecDepth 20000 in
theorem gX3_write_X3_isFull : GoodIn wsX3_write (wsV RX3 40 RX3 yX3_isFull wsX3_isFull) := goodIn_app (goodIn_of _ (by decide +kernel)) ggX3_write_X3_isFull
set_option maxRecDepth 20000 in
theorem ggX3_write_X8_fieldOf : GoodIn wsX3_write wsX8_fieldOf := goodIn_r _ [22, 23, 42, 43, 44] (by decide +kernel) (by decide +kernel)
set_option maxRecDepth 20000 in
theorem gX3_write_X8_fieldOf : GoodIn wsX3_write (wsV RX3 44 RX8 yX8_fieldOf wsX8_fieldOf) := goodIn_app (goodIn_of _ (by decide +kernel)) ggX3_write_X8_fieldOf
theorem dX3_write_0 : decode cX3_write 0 = .ok (.aload_n 0, 1) := by decide +kernel
theorem dX3_write_1 : decode cX3_write 1 = .ok (.invokevirtual 40, 3) := by decide +kernel
theorem dX3_write_4 : decode cX3_write 4 = .ok (.ifCond .eq 4, 3) := by decide +kernel
theorem dX3_write_7 : decode cX3_write 7 = .ok (.return_, 1) := by decide +kernel
theorem dX3_write_8 : decode cX3_write 8 = .ok (.aload_n 0, 1) := by decide +kernel
theorem dX3_write_9 : decode cX3_write 9 = .ok (.getfield 9, 3) := by decide +kernel
theorem dX3_write_12 : decode cX3_write 12 = .ok (.aload_n 0, 1) := by decide +kernel
theorem dX3_write_13 : decode cX3_write 13 = .ok (.getfield 33, 3) := by decide +kernel
theorem dX3_write_16 : decode cX3_write 16 = .ok (.iload_n 2, 1) := by decide +kernel
theorem dX3_write_17 : decode cX3_write 17 = .ok (.iastore, 1) := by decide +kernel
theorem dX3_write_18 : decode cX3_write 18 = .ok (.aload_n 0, 1) := by decide +kernel
theorem dX3_write_19 : decode cX3_write 19 = .ok (.getfield 15, 3) := by decide +kernel
theorem dX3_write_22 : decode cX3_write 22 = .ok (.aload_n 0, 1) := by decide +kernel
theorem dX3_write_23 : decode cX3_write 23 = .ok (.getfield 33, 3) := by decide +kernel
theorem dX3_write_26 : decode cX3_write 26 = .ok (.aload_n 1, 1) := by decide +kernel
theorem dX3_write_27 : decode cX3_write 27 = .ok (.iload_n 2, 1) := by decide +kernel
theorem dX3_write_28 : decode cX3_write 28 = .ok (.invokevirtual 44, 3) := by decide +kernel
theorem dX3_write_31 : decode cX3_write 31 = .ok (.iastore, 1) := by decide +kernel
theorem dX3_write_32 : decode cX3_write 32 = .ok (.aload_n 0, 1) := by decide +kernel
theorem dX3_write_33 : decode cX3_write 33 = .ok (.getfield 18, 3) := by decide +kernel
theorem dX3_write_36 : decode cX3_write 36 = .ok (.aload_n 0, 1) := by decide +kernel
theorem dX3_write_37 : decode cX3_write 37 = .ok (.getfield 33, 3) := by decide +kernel
theorem dX3_write_40 : decode cX3_write 40 = .ok (.iload_n 3, 1) := by decide +kernel
theorem dX3_write_41 : decode cX3_write 41 = .ok (.iastore, 1) := by decide +kernel
theorem dX3_write_42 : decode cX3_write 42 = .ok (.aload_n 0, 1) := by decide +kernel
theorem dX3_write_43 : decode cX3_write 43 = .ok (.getfield 21, 3) := by decide +kernel
theorem dX3_write_46 : decode cX3_write 46 = .ok (.aload_n 0, 1) := by decide +kernel
theorem dX3_write_47 : decode cX3_write 47 = .ok (.getfield 33, 3) := by decide +kernel
theorem dX3_write_50 : decode cX3_write 50 = .ok (.aload 4, 2) := by decide +kernel
theorem dX3_write_52 : decode cX3_write 52 = .ok (.getfield 50, 3) := by decide +kernel
theorem dX3_write_55 : decode cX3_write 55 = .ok (.iastore, 1) := by decide +kernel
theorem dX3_write_56 : decode cX3_write 56 = .ok (.iconst 0, 1) := by decide +kernel
theorem dX3_write_57 : decode cX3_write 57 = .ok (.istore 5, 2) := by decide +kernel
theorem dX3_write_59 : decode cX3_write 59 = .ok (.iload 5, 2) := by decide +kernel
theorem dX3_write_61 : decode cX3_write 61 = .ok (.aload 4, 2) := by decide +kernel
theorem dX3_write_63 : decode cX3_write 63 = .ok (.getfield 50, 3) := by decide +kernel
theorem dX3_write_66 : decode cX3_write 66 = .ok (.if_icmp .ge 57, 3) := by decide +kernel
theorem dX3_write_69 : decode cX3_write 69 = .ok (.aload_n 0, 1) := by decide +kernel
theorem dX3_write_70 : decode cX3_write 70 = .ok (.getfield 24, 3) := by decide +kernel
theorem dX3_write_73 : decode cX3_write 73 = .ok (.aload_n 0, 1) := by decide +kernel
theorem dX3_write_74 : decode cX3_write 74 = .ok (.getfield 33, 3) := by decide +kernel
theorem dX3_write_77 : decode cX3_write 77 = .ok (.iconst 4, 1) := by decide +kernel
theorem dX3_write_78 : decode cX3_write 78 = .ok (.imul, 1) := by decide +kernel
theorem dX3_write_79 : decode cX3_write 79 = .ok (.iload 5, 2) := by decide +kernel
theorem dX3_write_81 : decode cX3_write 81 = .ok (.iadd, 1) := by decide +kernel
theorem dX3_write_82 : decode cX3_write 82 = .ok (.aload 4, 2) := by decide +kernel
theorem dX3_write_84 : decode cX3_write 84 = .ok (.getfield 55, 3) := by decide +kernel
theorem dX3_write_87 : decode cX3_write 87 = .ok (.iload 5, 2) := by decide +kernel
theorem dX3_write_89 : decode cX3_write 89 = .ok (.iaload, 1) := by decide +kernel
theorem dX3_write_90 : decode cX3_write 90 = .ok (.iastore, 1) := by decide +kernel
theorem dX3_write_91 : decode cX3_write 91 = .ok (.aload_n 0, 1) := by decide +kernel
theorem dX3_write_92 : decode cX3_write 92 = .ok (.getfield 27, 3) := by decide +kernel
theorem dX3_write_95 : decode cX3_write 95 = .ok (.aload_n 0, 1) := by decide +kernel
theorem dX3_write_96 : decode cX3_write 96 = .ok (.getfield 33, 3) := by decide +kernel
theorem dX3_write_99 : decode cX3_write 99 = .ok (.iconst 4, 1) := by decide +kernel
theorem dX3_write_100 : decode cX3_write 100 = .ok (.imul, 1) := by decide +kernel
theorem dX3_write_101 : decode cX3_write 101 = .ok (.iload 5, 2) := by decide +kernel
theorem dX3_write_103 : decode cX3_write 103 = .ok (.iadd, 1) := by decide +kernel
theorem dX3_write_104 : decode cX3_write 104 = .ok (.aload_n 1, 1) := by decide +kernel
theorem dX3_write_105 : decode cX3_write 105 = .ok (.aload 4, 2) := by decide +kernel
theorem dX3_write_107 : decode cX3_write 107 = .ok (.getfield 55, 3) := by decide +kernel
theorem dX3_write_110 : decode cX3_write 110 = .ok (.iload 5, 2) := by decide +kernel
theorem dX3_write_112 : decode cX3_write 112 = .ok (.iaload, 1) := by decide +kernel
theorem dX3_write_113 : decode cX3_write 113 = .ok (.invokevirtual 44, 3) := by decide +kernel
theorem dX3_write_116 : decode cX3_write 116 = .ok (.iastore, 1) := by decide +kernel
theorem dX3_write_117 : decode cX3_write 117 = .ok (.iinc 5 1, 3) := by decide +kernel
theorem dX3_write_120 : decode cX3_write 120 = .ok (.goto (-61), 3) := by decide +kernel
theorem dX3_write_123 : decode cX3_write 123 = .ok (.aload_n 0, 1) := by decide +kernel
theorem dX3_write_124 : decode cX3_write 124 = .ok (.dup, 1) := by decide +kernel
theorem dX3_write_125 : decode cX3_write 125 = .ok (.getfield 33, 3) := by decide +kernel
theorem dX3_write_128 : decode cX3_write 128 = .ok (.iconst 1, 1) := by decide +kernel
theorem dX3_write_129 : decode cX3_write 129 = .ok (.iadd, 1) := by decide +kernel
theorem dX3_write_130 : decode cX3_write 130 = .ok (.putfield 33, 3) := by decide +kernel
theorem dX3_write_133 : decode cX3_write 133 = .ok (.aload_n 0, 1) := by decide +kernel
theorem dX3_write_134 : decode cX3_write 134 = .ok (.aload_n 0, 1) := by decide +kernel
theorem dX3_write_135 : decode cX3_write 135 = .ok (.getfield 37, 3) := by decide +kernel
theorem dX3_write_138 : decode cX3_write 138 = .ok (.aload_n 0, 1) := by decide +kernel
theorem dX3_write_139 : decode cX3_write 139 = .ok (.getfield 33, 3) := by decide +kernel
theorem dX3_write_142 : decode cX3_write 142 = .ok (.invokestatic 56, 3) := by decide +kernel
theorem dX3_write_145 : decode cX3_write 145 = .ok (.putfield 37, 3) := by decide +kernel
theorem dX3_write_148 : decode cX3_write 148 = .ok (.return_, 1) := by decide +kernel
theorem dX3_latestTakings_0 : decode cX3_latestTakings 0 = .ok (.aload_n 0, 1) := by decide +kernel
theorem dX3_latestTakings_1 : decode cX3_latestTakings 1 = .ok (.getfield 33, 3) := by decide +kernel
theorem dX3_latestTakings_4 : decode cX3_latestTakings 4 = .ok (.ifCond .le 17, 3) := by decide +kernel
theorem dX3_latestTakings_7 : decode cX3_latestTakings 7 = .ok (.aload_n 0, 1) := by decide +kernel
theorem dX3_latestTakings_8 : decode cX3_latestTakings 8 = .ok (.getfield 21, 3) := by decide +kernel
theorem dX3_latestTakings_11 : decode cX3_latestTakings 11 = .ok (.aload_n 0, 1) := by decide +kernel
theorem dX3_latestTakings_12 : decode cX3_latestTakings 12 = .ok (.getfield 33, 3) := by decide +kernel
theorem dX3_latestTakings_15 : decode cX3_latestTakings 15 = .ok (.iconst 1, 1) := by decide +kernel
theorem dX3_latestTakings_16 : decode cX3_latestTakings 16 = .ok (.isub, 1) := by decide +kernel
theorem dX3_latestTakings_17 : decode cX3_latestTakings 17 = .ok (.iaload, 1) := by decide +kernel
theorem dX3_latestTakings_18 : decode cX3_latestTakings 18 = .ok (.goto 4, 3) := by decide +kernel
theorem dX3_latestTakings_21 : decode cX3_latestTakings 21 = .ok (.iconst (-1), 1) := by decide +kernel
theorem dX3_latestTakings_22 : decode cX3_latestTakings 22 = .ok (.ireturn, 1) := by decide +kernel
theorem dX3_latestVictim_0 : decode cX3_latestVictim 0 = .ok (.aload_n 0, 1) := by decide +kernel
theorem dX3_latestVictim_1 : decode cX3_latestVictim 1 = .ok (.getfield 33, 3) := by decide +kernel
theorem dX3_latestVictim_4 : decode cX3_latestVictim 4 = .ok (.ifCond .le 26, 3) := by decide +kernel
theorem dX3_latestVictim_7 : decode cX3_latestVictim 7 = .ok (.iload_n 1, 1) := by decide +kernel
theorem dX3_latestVictim_8 : decode cX3_latestVictim 8 = .ok (.ifCond .lt 22, 3) := by decide +kernel
theorem dX3_latestVictim_11 : decode cX3_latestVictim 11 = .ok (.iload_n 1, 1) := by decide +kernel
theorem dX3_latestVictim_12 : decode cX3_latestVictim 12 = .ok (.aload_n 0, 1) := by decide +kernel
theorem dX3_latestVictim_13 : decode cX3_latestVictim 13 = .ok (.getfield 21, 3) := by decide +kernel
theorem dX3_latestVictim_16 : decode cX3_latestVictim 16 = .ok (.aload_n 0, 1) := by decide +kernel
theorem dX3_latestVictim_17 : decode cX3_latestVictim 17 = .ok (.getfield 33, 3) := by decide +kernel
theorem dX3_latestVictim_20 : decode cX3_latestVictim 20 = .ok (.iconst 1, 1) := by decide +kernel
theorem dX3_latestVictim_21 : decode cX3_latestVictim 21 = .ok (.isub, 1) := by decide +kernel
theorem dX3_latestVictim_22 : decode cX3_latestVictim 22 = .ok (.iaload, 1) := by decide +kernel
theorem dX3_latestVictim_23 : decode cX3_latestVictim 23 = .ok (.if_icmp .ge 7, 3) := by decide +kernel
theorem dX3_latestVictim_26 : decode cX3_latestVictim 26 = .ok (.iconst 1, 1) := by decide +kernel
theorem dX3_latestVictim_27 : decode cX3_latestVictim 27 = .ok (.goto 4, 3) := by decide +kernel
theorem dX3_latestVictim_30 : decode cX3_latestVictim 30 = .ok (.iconst 0, 1) := by decide +kernel
theorem dX3_latestVictim_31 : decode cX3_latestVictim 31 = .ok (.istore_n 2, 1) := by decide +kernel
theorem dX3_latestVictim_32 : decode cX3_latestVictim 32 = .ok (.iload_n 2, 1) := by decide +kernel
theorem dX3_latestVictim_33 : decode cX3_latestVictim 33 = .ok (.ifCond .eq 21, 3) := by decide +kernel
theorem dX3_latestVictim_36 : decode cX3_latestVictim 36 = .ok (.aload_n 0, 1) := by decide +kernel
theorem dX3_latestVictim_37 : decode cX3_latestVictim 37 = .ok (.getfield 24, 3) := by decide +kernel
theorem dX3_latestVictim_40 : decode cX3_latestVictim 40 = .ok (.aload_n 0, 1) := by decide +kernel
theorem dX3_latestVictim_41 : decode cX3_latestVictim 41 = .ok (.getfield 33, 3) := by decide +kernel
theorem dX3_latestVictim_44 : decode cX3_latestVictim 44 = .ok (.iconst 1, 1) := by decide +kernel
theorem dX3_latestVictim_45 : decode cX3_latestVictim 45 = .ok (.isub, 1) := by decide +kernel
theorem dX3_latestVictim_46 : decode cX3_latestVictim 46 = .ok (.iconst 4, 1) := by decide +kernel
theorem dX3_latestVictim_47 : decode cX3_latestVictim 47 = .ok (.imul, 1) := by decide +kernel
theorem dX3_latestVictim_48 : decode cX3_latestVictim 48 = .ok (.iload_n 1, 1) := by decide +kernel
theorem dX3_latestVictim_49 : decode cX3_latestVictim 49 = .ok (.iadd, 1) := by decide +kernel
theorem dX3_latestVictim_50 : decode cX3_latestVictim 50 = .ok (.iaload, 1) := by decide +kernel
theorem dX3_latestVictim_51 : decode cX3_latestVictim 51 = .ok (.goto 4, 3) := by decide +kernel
theorem dX3_latestVictim_54 : decode cX3_latestVictim 54 = .ok (.iconst (-1), 1) := by decide +kernel
theorem dX3_latestVictim_55 : decode cX3_latestVictim 55 = .ok (.ireturn, 1) := by decide +kernel
set_option maxRecDepth 20000 in
theorem ggX3_unwind_X8_place : GoodIn wsX3_unwind wsX8_place := goodIn_r _ [11, 12, 13, 23, 24, 25] (by decide +kernel) (by decide +kernel)
set_option maxRecDepth 20000 in
theorem gX3_unwind_X8_place : GoodIn wsX3_unwind (wsV RX3 62 RX8 yX8_place wsX8_place) := goodIn_app (goodIn_of _ (by decide +kernel)) ggX3_unwind_X8_place
theorem dX3_unwind_0 : decode cX3_unwind 0 = .ok (.aload_n 0, 1) := by decide +kernel
theorem dX3_unwind_1 : decode cX3_unwind 1 = .ok (.getfield 33, 3) := by decide +kernel
theorem dX3_unwind_4 : decode cX3_unwind 4 = .ok (.ifCond .gt 4, 3) := by decide +kernel
theorem dX3_unwind_7 : decode cX3_unwind 7 = .ok (.return_, 1) := by decide +kernel
theorem dX3_unwind_8 : decode cX3_unwind 8 = .ok (.aload_n 0, 1) := by decide +kernel
theorem dX3_unwind_9 : decode cX3_unwind 9 = .ok (.dup, 1) := by decide +kernel
theorem dX3_unwind_10 : decode cX3_unwind 10 = .ok (.getfield 33, 3) := by decide +kernel
theorem dX3_unwind_13 : decode cX3_unwind 13 = .ok (.iconst 1, 1) := by decide +kernel
theorem dX3_unwind_14 : decode cX3_unwind 14 = .ok (.isub, 1) := by decide +kernel
theorem dX3_unwind_15 : decode cX3_unwind 15 = .ok (.putfield 33, 3) := by decide +kernel
theorem dX3_unwind_18 : decode cX3_unwind 18 = .ok (.aload_n 1, 1) := by decide +kernel
theorem dX3_unwind_19 : decode cX3_unwind 19 = .ok (.aload_n 0, 1) := by decide +kernel
theorem dX3_unwind_20 : decode cX3_unwind 20 = .ok (.getfield 9, 3) := by decide +kernel
theorem dX3_unwind_23 : decode cX3_unwind 23 = .ok (.aload_n 0, 1) := by decide +kernel
theorem dX3_unwind_24 : decode cX3_unwind 24 = .ok (.getfield 33, 3) := by decide +kernel
theorem dX3_unwind_27 : decode cX3_unwind 27 = .ok (.iaload, 1) := by decide +kernel
theorem dX3_unwind_28 : decode cX3_unwind 28 = .ok (.aload_n 0, 1) := by decide +kernel
theorem dX3_unwind_29 : decode cX3_unwind 29 = .ok (.getfield 15, 3) := by decide +kernel
theorem dX3_unwind_32 : decode cX3_unwind 32 = .ok (.aload_n 0, 1) := by decide +kernel
theorem dX3_unwind_33 : decode cX3_unwind 33 = .ok (.getfield 33, 3) := by decide +kernel
theorem dX3_unwind_36 : decode cX3_unwind 36 = .ok (.iaload, 1) := by decide +kernel
theorem dX3_unwind_37 : decode cX3_unwind 37 = .ok (.invokevirtual 62, 3) := by decide +kernel
theorem dX3_unwind_40 : decode cX3_unwind 40 = .ok (.iconst 0, 1) := by decide +kernel
theorem dX3_unwind_41 : decode cX3_unwind 41 = .ok (.istore_n 2, 1) := by decide +kernel
theorem dX3_unwind_42 : decode cX3_unwind 42 = .ok (.iload_n 2, 1) := by decide +kernel
theorem dX3_unwind_43 : decode cX3_unwind 43 = .ok (.aload_n 0, 1) := by decide +kernel
theorem dX3_unwind_44 : decode cX3_unwind 44 = .ok (.getfield 21, 3) := by decide +kernel
theorem dX3_unwind_47 : decode cX3_unwind 47 = .ok (.aload_n 0, 1) := by decide +kernel
theorem dX3_unwind_48 : decode cX3_unwind 48 = .ok (.getfield 33, 3) := by decide +kernel
theorem dX3_unwind_51 : decode cX3_unwind 51 = .ok (.iaload, 1) := by decide +kernel
theorem dX3_unwind_52 : decode cX3_unwind 52 = .ok (.if_icmp .ge 39, 3) := by decide +kernel
theorem dX3_unwind_55 : decode cX3_unwind 55 = .ok (.aload_n 1, 1) := by decide +kernel
theorem dX3_unwind_56 : decode cX3_unwind 56 = .ok (.aload_n 0, 1) := by decide +kernel
theorem dX3_unwind_57 : decode cX3_unwind 57 = .ok (.getfield 24, 3) := by decide +kernel
theorem dX3_unwind_60 : decode cX3_unwind 60 = .ok (.aload_n 0, 1) := by decide +kernel
theorem dX3_unwind_61 : decode cX3_unwind 61 = .ok (.getfield 33, 3) := by decide +kernel
theorem dX3_unwind_64 : decode cX3_unwind 64 = .ok (.iconst 4, 1) := by decide +kernel
theorem dX3_unwind_65 : decode cX3_unwind 65 = .ok (.imul, 1) := by decide +kernel
theorem dX3_unwind_66 : decode cX3_unwind 66 = .ok (.iload_n 2, 1) := by decide +kernel
theorem dX3_unwind_67 : decode cX3_unwind 67 = .ok (.iadd, 1) := by decide +kernel
theorem dX3_unwind_68 : decode cX3_unwind 68 = .ok (.iaload, 1) := by decide +kernel
theorem dX3_unwind_69 : decode cX3_unwind 69 = .ok (.aload_n 0, 1) := by decide +kernel
theorem dX3_unwind_70 : decode cX3_unwind 70 = .ok (.getfield 27, 3) := by decide +kernel
theorem dX3_unwind_73 : decode cX3_unwind 73 = .ok (.aload_n 0, 1) := by decide +kernel
theorem dX3_unwind_74 : decode cX3_unwind 74 = .ok (.getfield 33, 3) := by decide +kernel
theorem dX3_unwind_77 : decode cX3_unwind 77 = .ok (.iconst 4, 1) := by decide +kernel
theorem dX3_unwind_78 : decode cX3_unwind 78 = .ok (.imul, 1) := by decide +kernel
theorem dX3_unwind_79 : decode cX3_unwind 79 = .ok (.iload_n 2, 1) := by decide +kernel
theorem dX3_unwind_80 : decode cX3_unwind 80 = .ok (.iadd, 1) := by decide +kernel
theorem dX3_unwind_81 : decode cX3_unwind 81 = .ok (.iaload, 1) := by decide +kernel
theorem dX3_unwind_82 : decode cX3_unwind 82 = .ok (.invokevirtual 62, 3) := by decide +kernel
theorem dX3_unwind_85 : decode cX3_unwind 85 = .ok (.iinc 2 1, 3) := by decide +kernel
theorem dX3_unwind_88 : decode cX3_unwind 88 = .ok (.goto (-46), 3) := by decide +kernel
theorem dX3_unwind_91 : decode cX3_unwind 91 = .ok (.aload_n 1, 1) := by decide +kernel
theorem dX3_unwind_92 : decode cX3_unwind 92 = .ok (.iconst 1, 1) := by decide +kernel
theorem dX3_unwind_93 : decode cX3_unwind 93 = .ok (.aload_n 1, 1) := by decide +kernel
theorem dX3_unwind_94 : decode cX3_unwind 94 = .ok (.getfield 66, 3) := by decide +kernel
theorem dX3_unwind_97 : decode cX3_unwind 97 = .ok (.isub, 1) := by decide +kernel
theorem dX3_unwind_98 : decode cX3_unwind 98 = .ok (.putfield 66, 3) := by decide +kernel
theorem dX3_unwind_101 : decode cX3_unwind 101 = .ok (.return_, 1) := by decide +kernel
set_option maxRecDepth 20000 in
theorem ggX3_hasSeen_X8_fieldOf : GoodIn wsX3_hasSeen wsX8_fieldOf := goodIn_r _ [14, 15, 16, 17, 18] (by decide +kernel) (by decide +kernel)
set_option maxRecDepth 20000 in
theorem gX3_hasSeen_X8_fieldOf : GoodIn wsX3_hasSeen (wsV RX3 44 RX8 yX8_fieldOf wsX8_fieldOf) := goodIn_app (goodIn_of _ (by decide +kernel)) ggX3_hasSeen_X8_fieldOf
theorem dX3_hasSeen_0 : decode cX3_hasSeen 0 = .ok (.aload_n 1, 1) := by decide +kernel
theorem dX3_hasSeen_1 : decode cX3_hasSeen 1 = .ok (.getfield 69, 3) := by decide +kernel
theorem dX3_hasSeen_4 : decode cX3_hasSeen 4 = .ok (.iconst 0, 1) := by decide +kernel
theorem dX3_hasSeen_5 : decode cX3_hasSeen 5 = .ok (.aload_n 0, 1) := by decide +kernel
theorem dX3_hasSeen_6 : decode cX3_hasSeen 6 = .ok (.getfield 30, 3) := by decide +kernel
theorem dX3_hasSeen_9 : decode cX3_hasSeen 9 = .ok (.iconst 0, 1) := by decide +kernel
theorem dX3_hasSeen_10 : decode cX3_hasSeen 10 = .ok (.bipush 40, 2) := by decide +kernel
theorem dX3_hasSeen_12 : decode cX3_hasSeen 12 = .ok (.invokestatic 72, 3) := by decide +kernel
theorem dX3_hasSeen_15 : decode cX3_hasSeen 15 = .ok (.iconst 1, 1) := by decide +kernel
theorem dX3_hasSeen_16 : decode cX3_hasSeen 16 = .ok (.istore 4, 2) := by decide +kernel
theorem dX3_hasSeen_18 : decode cX3_hasSeen 18 = .ok (.aload_n 0, 1) := by decide +kernel
theorem dX3_hasSeen_19 : decode cX3_hasSeen 19 = .ok (.getfield 33, 3) := by decide +kernel
theorem dX3_hasSeen_22 : decode cX3_hasSeen 22 = .ok (.iconst 1, 1) := by decide +kernel
theorem dX3_hasSeen_23 : decode cX3_hasSeen 23 = .ok (.isub, 1) := by decide +kernel
theorem dX3_hasSeen_24 : decode cX3_hasSeen 24 = .ok (.istore 5, 2) := by decide +kernel
theorem dX3_hasSeen_26 : decode cX3_hasSeen 26 = .ok (.iload 5, 2) := by decide +kernel
theorem dX3_hasSeen_28 : decode cX3_hasSeen 28 = .ok (.ifCond .lt 136, 3) := by decide +kernel
theorem dX3_hasSeen_31 : decode cX3_hasSeen 31 = .ok (.aload_n 0, 1) := by decide +kernel
theorem dX3_hasSeen_32 : decode cX3_hasSeen 32 = .ok (.getfield 21, 3) := by decide +kernel
theorem dX3_hasSeen_35 : decode cX3_hasSeen 35 = .ok (.iload 5, 2) := by decide +kernel
theorem dX3_hasSeen_37 : decode cX3_hasSeen 37 = .ok (.iaload, 1) := by decide +kernel
theorem dX3_hasSeen_38 : decode cX3_hasSeen 38 = .ok (.ifCond .ne 126, 3) := by decide +kernel
theorem dX3_hasSeen_41 : decode cX3_hasSeen 41 = .ok (.aload_n 0, 1) := by decide +kernel
theorem dX3_hasSeen_42 : decode cX3_hasSeen 42 = .ok (.getfield 9, 3) := by decide +kernel
theorem dX3_hasSeen_45 : decode cX3_hasSeen 45 = .ok (.iload 5, 2) := by decide +kernel
theorem dX3_hasSeen_47 : decode cX3_hasSeen 47 = .ok (.iaload, 1) := by decide +kernel
theorem dX3_hasSeen_48 : decode cX3_hasSeen 48 = .ok (.istore 6, 2) := by decide +kernel
theorem dX3_hasSeen_50 : decode cX3_hasSeen 50 = .ok (.iload 6, 2) := by decide +kernel
theorem dX3_hasSeen_52 : decode cX3_hasSeen 52 = .ok (.iload_n 2, 1) := by decide +kernel
theorem dX3_hasSeen_53 : decode cX3_hasSeen 53 = .ok (.if_icmp .ne 7, 3) := by decide +kernel
theorem dX3_hasSeen_56 : decode cX3_hasSeen 56 = .ok (.iload_n 3, 1) := by decide +kernel
theorem dX3_hasSeen_57 : decode cX3_hasSeen 57 = .ok (.goto 9, 3) := by decide +kernel
theorem dX3_hasSeen_60 : decode cX3_hasSeen 60 = .ok (.aload_n 1, 1) := by decide +kernel
theorem dX3_hasSeen_61 : decode cX3_hasSeen 61 = .ok (.iload 6, 2) := by decide +kernel
theorem dX3_hasSeen_63 : decode cX3_hasSeen 63 = .ok (.invokevirtual 44, 3) := by decide +kernel
theorem dX3_hasSeen_66 : decode cX3_hasSeen 66 = .ok (.istore 7, 2) := by decide +kernel
theorem dX3_hasSeen_68 : decode cX3_hasSeen 68 = .ok (.iload 4, 2) := by decide +kernel
theorem dX3_hasSeen_70 : decode cX3_hasSeen 70 = .ok (.aload_n 0, 1) := by decide +kernel
theorem dX3_hasSeen_71 : decode cX3_hasSeen 71 = .ok (.getfield 30, 3) := by decide +kernel
theorem dX3_hasSeen_74 : decode cX3_hasSeen 74 = .ok (.iload 6, 2) := by decide +kernel
theorem dX3_hasSeen_76 : decode cX3_hasSeen 76 = .ok (.iaload, 1) := by decide +kernel
theorem dX3_hasSeen_77 : decode cX3_hasSeen 77 = .ok (.iload 7, 2) := by decide +kernel
theorem dX3_hasSeen_79 : decode cX3_hasSeen 79 = .ok (.if_icmp .ne 7, 3) := by decide +kernel
theorem dX3_hasSeen_82 : decode cX3_hasSeen 82 = .ok (.iconst 1, 1) := by decide +kernel
theorem dX3_hasSeen_83 : decode cX3_hasSeen 83 = .ok (.goto 4, 3) := by decide +kernel
theorem dX3_hasSeen_86 : decode cX3_hasSeen 86 = .ok (.iconst 0, 1) := by decide +kernel
theorem dX3_hasSeen_87 : decode cX3_hasSeen 87 = .ok (.iadd, 1) := by decide +kernel
theorem dX3_hasSeen_88 : decode cX3_hasSeen 88 = .ok (.istore 4, 2) := by decide +kernel
theorem dX3_hasSeen_90 : decode cX3_hasSeen 90 = .ok (.aload_n 0, 1) := by decide +kernel
theorem dX3_hasSeen_91 : decode cX3_hasSeen 91 = .ok (.getfield 30, 3) := by decide +kernel
theorem dX3_hasSeen_94 : decode cX3_hasSeen 94 = .ok (.iload 6, 2) := by decide +kernel
theorem dX3_hasSeen_96 : decode cX3_hasSeen 96 = .ok (.aload_n 0, 1) := by decide +kernel
theorem dX3_hasSeen_97 : decode cX3_hasSeen 97 = .ok (.getfield 15, 3) := by decide +kernel
theorem dX3_hasSeen_100 : decode cX3_hasSeen 100 = .ok (.iload 5, 2) := by decide +kernel
theorem dX3_hasSeen_102 : decode cX3_hasSeen 102 = .ok (.iaload, 1) := by decide +kernel
theorem dX3_hasSeen_103 : decode cX3_hasSeen 103 = .ok (.iastore, 1) := by decide +kernel
theorem dX3_hasSeen_104 : decode cX3_hasSeen 104 = .ok (.iload 4, 2) := by decide +kernel
theorem dX3_hasSeen_106 : decode cX3_hasSeen 106 = .ok (.aload_n 0, 1) := by decide +kernel
theorem dX3_hasSeen_107 : decode cX3_hasSeen 107 = .ok (.getfield 30, 3) := by decide +kernel
theorem dX3_hasSeen_110 : decode cX3_hasSeen 110 = .ok (.iload 6, 2) := by decide +kernel
theorem dX3_hasSeen_112 : decode cX3_hasSeen 112 = .ok (.iaload, 1) := by decide +kernel
theorem dX3_hasSeen_113 : decode cX3_hasSeen 113 = .ok (.iload 7, 2) := by decide +kernel
theorem dX3_hasSeen_115 : decode cX3_hasSeen 115 = .ok (.if_icmp .ne 7, 3) := by decide +kernel
theorem dX3_hasSeen_118 : decode cX3_hasSeen 118 = .ok (.iconst 1, 1) := by decide +kernel
theorem dX3_hasSeen_119 : decode cX3_hasSeen 119 = .ok (.goto 4, 3) := by decide +kernel
theorem dX3_hasSeen_122 : decode cX3_hasSeen 122 = .ok (.iconst 0, 1) := by decide +kernel
theorem dX3_hasSeen_123 : decode cX3_hasSeen 123 = .ok (.isub, 1) := by decide +kernel
theorem dX3_hasSeen_124 : decode cX3_hasSeen 124 = .ok (.istore 4, 2) := by decide +kernel
theorem dX3_hasSeen_126 : decode cX3_hasSeen 126 = .ok (.aload_n 0, 1) := by decide +kernel
theorem dX3_hasSeen_127 : decode cX3_hasSeen 127 = .ok (.getfield 33, 3) := by decide +kernel
theorem dX3_hasSeen_130 : decode cX3_hasSeen 130 = .ok (.iload 5, 2) := by decide +kernel
theorem dX3_hasSeen_132 : decode cX3_hasSeen 132 = .ok (.isub, 1) := by decide +kernel
theorem dX3_hasSeen_133 : decode cX3_hasSeen 133 = .ok (.iconst 1, 1) := by decide +kernel
theorem dX3_hasSeen_134 : decode cX3_hasSeen 134 = .ok (.iand, 1) := by decide +kernel
theorem dX3_hasSeen_135 : decode cX3_hasSeen 135 = .ok (.iconst 1, 1) := by decide +kernel
theorem dX3_hasSeen_136 : decode cX3_hasSeen 136 = .ok (.if_icmp .ne 7, 3) := by decide +kernel
theorem dX3_hasSeen_139 : decode cX3_hasSeen 139 = .ok (.iconst 1, 1) := by decide +kernel
theorem dX3_hasSeen_140 : decode cX3_hasSeen 140 = .ok (.goto 4, 3) := by decide +kernel
theorem dX3_hasSeen_143 : decode cX3_hasSeen 143 = .ok (.iconst 0, 1) := by decide +kernel
theorem dX3_hasSeen_144 : decode cX3_hasSeen 144 = .ok (.istore 8, 2) := by decide +kernel
theorem dX3_hasSeen_146 : decode cX3_hasSeen 146 = .ok (.iload 4, 2) := by decide +kernel
theorem dX3_hasSeen_148 : decode cX3_hasSeen 148 = .ok (.ifCond .ne 10, 3) := by decide +kernel
theorem dX3_hasSeen_151 : decode cX3_hasSeen 151 = .ok (.iload 8, 2) := by decide +kernel
theorem dX3_hasSeen_153 : decode cX3_hasSeen 153 = .ok (.ifCond .eq 5, 3) := by decide +kernel
theorem dX3_hasSeen_156 : decode cX3_hasSeen 156 = .ok (.iconst 1, 1) := by decide +kernel
theorem dX3_hasSeen_157 : decode cX3_hasSeen 157 = .ok (.ireturn, 1) := by decide +kernel
theorem dX3_hasSeen_158 : decode cX3_hasSeen 158 = .ok (.iinc 5 (-1), 3) := by decide +kernel
theorem dX3_hasSeen_161 : decode cX3_hasSeen 161 = .ok (.goto (-135), 3) := by decide +kernel
theorem dX3_hasSeen_164 : decode cX3_hasSeen 164 = .ok (.iconst 0, 1) := by decide +kernel
theorem dX3_hasSeen_165 : decode cX3_hasSeen 165 = .ok (.ireturn, 1) := by decide +kernel
set_option maxRecDepth 20000 in
theorem ggX4_init_X8_init : GoodIn wsX4_init wsX8_init := goodIn_r _ [17, 18, 2, 3, 19, 20, 21, 22, 23, 24, 6, 25, 26, 27, 28, 29, 30, 41, 42, 43] (by decide +kernel) (by decide +kernel)
set_option maxRecDepth 20000 in
theorem gX4_init_X8_init : GoodIn wsX4_init (wsX8_init) := ggX4_init_X8_init
set_option maxRecDepth 20000 in
theorem ggX4_init_X3_init : GoodIn wsX4_init wsX3_init := goodIn_r _ [32, 33, 2, 3, 19, 34, 35, 36, 37, 38, 39, 40, 49, 50, 51, 52, 53, 54, 55, 56, 57] (by decide +kernel) (by decide +kernel)
set_option maxRecDepth 20000 in
theorem gX4_init_X3_init_n20 : GoodIn wsX4_init (wsX3_init) := ggX4_init_X3_init
theorem dX4_init_0 : decode cX4_init 0 = .ok (.aload_n 0, 1) := by decide +kernel
theorem dX4_init_1 : decode cX4_init 1 = .ok (.invokespecial 3, 3) := by decide +kernel
theorem dX4_init_4 : decode cX4_init 4 = .ok (.aload_n 0, 1) := by decide +kernel
theorem dX4_init_5 : decode cX4_init 5 = .ok (.new 9, 3) := by decide +kernel
theorem dX4_init_8 : decode cX4_init 8 = .ok (.dup, 1) := by decide +kernel
theorem dX4_init_9 : decode cX4_init 9 = .ok (.invokespecial 11, 3) := by decide +kernel
theorem dX4_init_12 : decode cX4_init 12 = .ok (.putfield 12, 3) := by decide +kernel
theorem dX4_init_15 : decode cX4_init 15 = .ok (.aload_n 0, 1) := by decide +kernel
theorem dX4_init_16 : decode cX4_init 16 = .ok (.new 18, 3) := by decide +kernel
theorem dX4_init_19 : decode cX4_init 19 = .ok (.dup, 1) := by decide +kernel
theorem dX4_init_20 : decode cX4_init 20 = .ok (.invokespecial 20, 3) := by decide +kernel
theorem dX4_init_23 : decode cX4_init 23 = .ok (.putfield 21, 3) := by decide +kernel
theorem dX4_init_26 : decode cX4_init 26 = .ok (.aload_n 0, 1) := by decide +kernel
theorem dX4_init_27 : decode cX4_init 27 = .ok (.iconst 0, 1) := by decide +kernel
theorem dX4_init_28 : decode cX4_init 28 = .ok (.putfield 25, 3) := by decide +kernel
theorem dX4_init_31 : decode cX4_init 31 = .ok (.aload_n 0, 1) := by decide +kernel
theorem dX4_init_32 : decode cX4_init 32 = .ok (.aload_n 1, 1) := by decide +kernel
theorem dX4_init_33 : decode cX4_init 33 = .ok (.putfield 29, 3) := by decide +kernel
theorem dX4_init_36 : decode cX4_init 36 = .ok (.aload_n 0, 1) := by decide +kernel
theorem dX4_init_37 : decode cX4_init 37 = .ok (.aload_n 2, 1) := by decide +kernel
theorem dX4_init_38 : decode cX4_init 38 = .ok (.putfield 33, 3) := by decide +kernel
theorem dX4_init_41 : decode cX4_init 41 = .ok (.return_, 1) := by decide +kernel
theorem dX4_isThere_0 : decode cX4_isThere 0 = .ok (.aload_n 0, 1) := by decide +kernel
theorem dX4_isThere_1 : decode cX4_isThere 1 = .ok (.getfield 25, 3) := by decide +kernel
theorem dX4_isThere_4 : decode cX4_isThere 4 = .ok (.ifCond .eq 7, 3) := by decide +kernel
theorem dX4_isThere_7 : decode cX4_isThere 7 = .ok (.iconst 1, 1) := by decide +kernel
theorem dX4_isThere_8 : decode cX4_isThere 8 = .ok (.goto 4, 3) := by decide +kernel
theorem dX4_isThere_11 : decode cX4_isThere 11 = .ok (.iconst 0, 1) := by decide +kernel
theorem dX4_isThere_12 : decode cX4_isThere 12 = .ok (.ireturn, 1) := by decide +kernel
set_option maxRecDepth 20000 in
theorem ggX4_start_X4_finish : GoodIn wsX4_start wsX4_finish := goodIn_r _ [8, 9, 1, 3, 10, 11, 12, 13, 14, 15, 16, 17, 18, 19, 20, 21, 22, 23, 24, 25, 26, 27, 28, 29, 30, 31, 32, 33, 34, 35, 36, 109, 110, 111, 112, 113, 114, 115, 116, 117, 118, 119, 120, 121, 122, 131, 132, 133, 134, 135, 136, 137, 138, 139, 140, 141, 142] (by decide +kernel) (by decide +kernel)
set_option maxRecDepth 20000 in
theorem gX4_start_X4_finish : GoodIn wsX4_start (wsV RX4 37 RX4 yX4_finish wsX4_finish) := goodIn_app (goodIn_of _ (by decide +kernel)) ggX4_start_X4_finish
set_option maxRecDepth 20000 in
theorem ggX4_start_X0_lay : GoodIn wsX4_start wsX0_lay := goodIn_r _ [41, 42, 43, 44, 45, 46, 47, 48, 49, 50, 51, 52, 53, 54, 55, 56, 143, 144, 145, 146, 147, 128, 129, 130] (by decide +kernel) (by decide +kernel)
set_option maxRecDepth 20000 in
theorem gX4_start_X0_lay : GoodIn wsX4_start (wsV RX4 51 RX0 yX0_lay wsX0_lay) := goodIn_app (goodIn_of _ (by decide +kernel)) ggX4_start_X0_lay
set_option maxRecDepth 20000 in
theorem ggX4_start_X9_size : GoodIn wsX4_start wsX9_size := goodIn_r _ [51, 52, 53, 128, 129, 130] (by decide +kernel) (by decide +kernel)
set_option maxRecDepth 20000 in
theorem gX4_start_X9_size : GoodIn wsX4_start (wsV RX4 57 RX9 yX9_size wsX9_size) := goodIn_app (goodIn_of _ (by decide +kernel)) ggX4_start_X9_size
set_option maxRecDepth 20000 in
theorem ggX4_start_X10_kindOfSign : GoodIn wsX4_start wsX10_kindOfSign := goodIn_r _ [59] (by decide +kernel) (by decide +kernel)
set_option maxRecDepth 20000 in
theorem gX4_start_X10_kindOfSign_n67 : GoodIn wsX4_start (wsX10_kindOfSign) := ggX4_start_X10_kindOfSign
set_option maxRecDepth 20000 in
theorem ggX4_start_X8_place : GoodIn wsX4_start wsX8_place := goodIn_r _ [63, 23, 24, 131, 132, 133] (by decide +kernel) (by decide +kernel)
set_option maxRecDepth 20000 in
theorem gX4_start_X8_place : GoodIn wsX4_start (wsV RX4 74 RX8 yX8_place wsX8_place) := goodIn_app (goodIn_of _ (by decide +kernel)) ggX4_start_X8_place
set_option maxRecDepth 20000 in
theorem ggX4_start_X6_enlist : GoodIn wsX4_start wsX6_enlist := goodIn_r _ [67, 16, 17, 68, 69, 70, 71, 114, 115, 116, 117, 118, 119, 120, 121, 122, 123, 124, 125, 126, 127] (by decide +kernel) (by decide +kernel)
set_option maxRecDepth 20000 in
theorem gX4_start_X6_enlist : GoodIn wsX4_start (wsV RX4 78 RX6 yX6_enlist wsX6_enlist) := goodIn_app (goodIn_of _ (by decide +kernel)) ggX4_start_X6_enlist
set_option maxRecDepth 20000 in
theorem ggX4_start_X4_settle : GoodIn wsX4_start wsX4_settle := goodIn_r _ [75, 1, 3, 9, 2, 76, 77, 78, 14, 79, 17, 80, 81, 82, 21, 83, 23, 84, 85, 86, 87, 88, 89, 90, 91, 92, 16, 69, 93, 94, 95, 96, 71, 97, 98, 99, 40, 100, 42, 46, 101, 102, 103, 104, 24, 105, 106, 107, 108, 109, 110, 111, 112, 113, 123, 124, 125, 126, 127, 114, 115, 116, 117, 118, 119, 120, 121, 122, 131, 132, 133, 143, 144, 145, 146, 147] (by decide +kernel) (by decide +kernel)
set_option maxRecDepth 20000 in
theorem gX4_start_X4_settle : GoodIn wsX4_start (wsV RX4 85 RX4 yX4_settle wsX4_settle) := goodIn_app (goodIn_of _ (by decide +kernel)) ggX4_start_X4_settle
theorem dX4_start_0 : decode cX4_start 0 = .ok (.aload_n 0, 1) := by decide +kernel
theorem dX4_start_1 : decode cX4_start 1 = .ok (.invokevirtual 37, 3) := by decide +kernel
theorem dX4_start_4 : decode cX4_start 4 = .ok (.aload_n 0, 1) := by decide +kernel
theorem dX4_start_5 : decode cX4_start 5 = .ok (.getfield 33, 3) := by decide +kernel
theorem dX4_start_8 : decode cX4_start 8 = .ok (.getfield 40, 3) := by decide +kernel
theorem dX4_start_11 : decode cX4_start 11 = .ok (.aload_n 1, 1) := by decide +kernel
theorem dX4_start_12 : decode cX4_start 12 = .ok (.aload_n 0, 1) := by decide +kernel
theorem dX4_start_13 : decode cX4_start 13 = .ok (.getfield 29, 3) := by decide +kernel
theorem dX4_start_16 : decode cX4_start 16 = .ok (.getfield 46, 3) := by decide +kernel
theorem dX4_start_19 : decode cX4_start 19 = .ok (.invokevirtual 51, 3) := by decide +kernel
theorem dX4_start_22 : decode cX4_start 22 = .ok (.aload_n 1, 1) := by decide +kernel
theorem dX4_start_23 : decode cX4_start 23 = .ok (.invokevirtual 57, 3) := by decide +kernel
theorem dX4_start_26 : decode cX4_start 26 = .ok (.istore_n 3, 1) := by decide +kernel
theorem dX4_start_27 : decode cX4_start 27 = .ok (.iconst 0, 1) := by decide +kernel
theorem dX4_start_28 : decode cX4_start 28 = .ok (.istore 4, 2) := by decide +kernel
theorem dX4_start_30 : decode cX4_start 30 = .ok (.iload 4, 2) := by decide +kernel
theorem dX4_start_32 : decode cX4_start 32 = .ok (.iload_n 3, 1) := by decide +kernel
theorem dX4_start_33 : decode cX4_start 33 = .ok (.if_icmp .ge 51, 3) := by decide +kernel
theorem dX4_start_36 : decode cX4_start 36 = .ok (.aload_n 1, 1) := by decide +kernel
theorem dX4_start_37 : decode cX4_start 37 = .ok (.getfield 63, 3) := by decide +kernel
theorem dX4_start_40 : decode cX4_start 40 = .ok (.iload 4, 2) := by decide +kernel
theorem dX4_start_42 : decode cX4_start 42 = .ok (.iaload, 1) := by decide +kernel
theorem dX4_start_43 : decode cX4_start 43 = .ok (.invokestatic 67, 3) := by decide +kernel
theorem dX4_start_46 : decode cX4_start 46 = .ok (.istore 5, 2) := by decide +kernel
theorem dX4_start_48 : decode cX4_start 48 = .ok (.iload 5, 2) := by decide +kernel
theorem dX4_start_50 : decode cX4_start 50 = .ok (.ifCond .eq 28, 3) := by decide +kernel
theorem dX4_start_53 : decode cX4_start 53 = .ok (.aload_n 0, 1) := by decide +kernel
theorem dX4_start_54 : decode cX4_start 54 = .ok (.getfield 12, 3) := by decide +kernel
theorem dX4_start_57 : decode cX4_start 57 = .ok (.aload_n 0, 1) := by decide +kernel
theorem dX4_start_58 : decode cX4_start 58 = .ok (.getfield 33, 3) := by decide +kernel
theorem dX4_start_61 : decode cX4_start 61 = .ok (.getfield 71, 3) := by decide +kernel
theorem dX4_start_64 : decode cX4_start 64 = .ok (.iload 4, 2) := by decide +kernel
theorem dX4_start_66 : decode cX4_start 66 = .ok (.invokevirtual 74, 3) := by decide +kernel
theorem dX4_start_69 : decode cX4_start 69 = .ok (.aload_n 0, 1) := by decide +kernel
theorem dX4_start_70 : decode cX4_start 70 = .ok (.getfield 33, 3) := by decide +kernel
theorem dX4_start_73 : decode cX4_start 73 = .ok (.iload 5, 2) := by decide +kernel
theorem dX4_start_75 : decode cX4_start 75 = .ok (.invokevirtual 78, 3) := by decide +kernel
theorem dX4_start_78 : decode cX4_start 78 = .ok (.iinc 4 1, 3) := by decide +kernel
theorem dX4_start_81 : decode cX4_start 81 = .ok (.goto (-51), 3) := by decide +kernel
theorem dX4_start_84 : decode cX4_start 84 = .ok (.aload_n 0, 1) := by decide +kernel
theorem dX4_start_85 : decode cX4_start 85 = .ok (.getfield 12, 3) := by decide +kernel
theorem dX4_start_88 : decode cX4_start 88 = .ok (.iload_n 2, 1) := by decide +kernel
theorem dX4_start_89 : decode cX4_start 89 = .ok (.putfield 82, 3) := by decide +kernel
theorem dX4_start_92 : decode cX4_start 92 = .ok (.aload_n 0, 1) := by decide +kernel
theorem dX4_start_93 : decode cX4_start 93 = .ok (.iconst 0, 1) := by decide +kernel
theorem dX4_start_94 : decode cX4_start 94 = .ok (.invokevirtual 85, 3) := by decide +kernel
theorem dX4_start_97 : decode cX4_start 97 = .ok (.return_, 1) := by decide +kernel
set_option maxRecDepth 20000 in
theorem ggX4_finish_X6_dismiss : GoodIn wsX4_finish wsX6_dismiss := goodIn_r _ [9, 10, 11, 36, 37, 38, 39, 40, 41, 42, 43, 44] (by decide +kernel) (by decide +kernel)
set_option maxRecDepth 20000 in
theorem gX4_finish_X6_dismiss : GoodIn wsX4_finish (wsV RX4 89 RX6 yX6_dismiss wsX6_dismiss) := goodIn_app (goodIn_of _ (by decide +kernel)) ggX4_finish_X6_dismiss
set_option maxRecDepth 20000 in
theorem ggX4_finish_X8_clear : GoodIn wsX4_finish wsX8_clear := goodIn_r _ [16, 17, 18, 19, 20, 21, 22, 23, 45, 46, 47] (by decide +kernel) (by decide +kernel)
set_option maxRecDepth 20000 in
theorem gX4_finish_X8_clear : GoodIn wsX4_finish (wsV RX4 92 RX8 yX8_clear wsX8_clear) := goodIn_app (goodIn_of _ (by decide +kernel)) ggX4_finish_X8_clear
set_option maxRecDepth 20000 in
theorem ggX4_finish_X3_clear : GoodIn wsX4_finish wsX3_clear := goodIn_r _ [28, 29, 30, 48, 49, 50, 51, 52, 53, 54, 55, 56] (by decide +kernel) (by decide +kernel)
set_option maxRecDepth 20000 in
theorem gX4_finish_X3_clear : GoodIn wsX4_finish (wsV RX4 95 RX3 yX3_clear wsX3_clear) := goodIn_app (goodIn_of _ (by decide +kernel)) ggX4_finish_X3_clear
theorem dX4_finish_0 : decode cX4_finish 0 = .ok (.aload_n 0, 1) := by decide +kernel
theorem dX4_finish_1 : decode cX4_finish 1 = .ok (.iconst 0, 1) := by decide +kernel
theorem dX4_finish_2 : decode cX4_finish 2 = .ok (.putfield 25, 3) := by decide +kernel
theorem dX4_finish_5 : decode cX4_finish 5 = .ok (.aload_n 0, 1) := by decide +kernel
theorem dX4_finish_6 : decode cX4_finish 6 = .ok (.getfield 33, 3) := by decide +kernel
theorem dX4_finish_9 : decode cX4_finish 9 = .ok (.invokevirtual 89, 3) := by decide +kernel
theorem dX4_finish_12 : decode cX4_finish 12 = .ok (.aload_n 0, 1) := by decide +kernel
theorem dX4_finish_13 : decode cX4_finish 13 = .ok (.getfield 12, 3) := by decide +kernel
theorem dX4_finish_16 : decode cX4_finish 16 = .ok (.invokevirtual 92, 3) := by decide +kernel
theorem dX4_finish_19 : decode cX4_finish 19 = .ok (.aload_n 0, 1) := by decide +kernel
theorem dX4_finish_20 : decode cX4_finish 20 = .ok (.getfield 21, 3) := by decide +kernel
theorem dX4_finish_23 : decode cX4_finish 23 = .ok (.invokevirtual 95, 3) := by decide +kernel
theorem dX4_finish_26 : decode cX4_finish 26 = .ok (.return_, 1) := by decide +kernel
set_option maxRecDepth 20000 in
theorem ggX4_settle_X6_winner : GoodIn wsX4_settle wsX6_winner := goodIn_r _ [9, 10, 11, 12, 13, 14, 15, 16, 17, 18, 19, 8, 20, 21, 22, 23, 24, 25, 26, 27, 28, 29, 30, 31, 32, 33, 34, 35, 36, 37, 38, 39, 40, 41, 42, 43, 44, 45, 46, 47, 48, 59, 60, 61, 62, 63, 64, 65, 66, 67, 68, 69, 70, 71, 72, 73, 74, 75, 54, 55, 56, 57, 58] (by decide +kernel) (by decide +kernel)
set_option maxRecDepth 20000 in
theorem gX4_settle_X6_winner : GoodIn wsX4_settle (wsV RX4 96 RX6 yX6_winner wsX6_winner) := goodIn_app (goodIn_of _ (by decide +kernel)) ggX4_settle_X6_winner
theorem dX4_settle_0 : decode cX4_settle 0 = .ok (.aload_n 0, 1) := by decide +kernel
theorem dX4_settle_1 : decode cX4_settle 1 = .ok (.getfield 33, 3) := by decide +kernel
theorem dX4_settle_4 : decode cX4_settle 4 = .ok (.aload_n 0, 1) := by decide +kernel
theorem dX4_settle_5 : decode cX4_settle 5 = .ok (.getfield 12, 3) := by decide +kernel
theorem dX4_settle_8 : decode cX4_settle 8 = .ok (.invokevirtual 96, 3) := by decide +kernel
theorem dX4_settle_11 : decode cX4_settle 11 = .ok (.istore_n 2, 1) := by decide +kernel
theorem dX4_settle_12 : decode cX4_settle 12 = .ok (.iload_n 2, 1) := by decide +kernel
theorem dX4_settle_13 : decode cX4_settle 13 = .ok (.iconst (-1), 1) := by decide +kernel
theorem dX4_settle_14 : decode cX4_settle 14 = .ok (.if_icmp .eq 13, 3) := by decide +kernel
theorem dX4_settle_17 : decode cX4_settle 17 = .ok (.aload_n 0, 1) := by decide +kernel
theorem dX4_settle_18 : decode cX4_settle 18 = .ok (.iconst 2, 1) := by decide +kernel
theorem dX4_settle_19 : decode cX4_settle 19 = .ok (.iload_n 2, 1) := by decide +kernel
theorem dX4_settle_20 : decode cX4_settle 20 = .ok (.iadd, 1) := by decide +kernel
theorem dX4_settle_21 : decode cX4_settle 21 = .ok (.putfield 25, 3) := by decide +kernel
theorem dX4_settle_24 : decode cX4_settle 24 = .ok (.goto 26, 3) := by decide +kernel
theorem dX4_settle_27 : decode cX4_settle 27 = .ok (.aload_n 0, 1) := by decide +kernel
theorem dX4_settle_28 : decode cX4_settle 28 = .ok (.iload_n 1, 1) := by decide +kernel
theorem dX4_settle_29 : decode cX4_settle 29 = .ok (.ifCond .eq 17, 3) := by decide +kernel
theorem dX4_settle_32 : decode cX4_settle 32 = .ok (.aload_n 0, 1) := by decide +kernel
theorem dX4_settle_33 : decode cX4_settle 33 = .ok (.getfield 29, 3) := by decide +kernel
theorem dX4_settle_36 : decode cX4_settle 36 = .ok (.getfield 100, 3) := by decide +kernel
theorem dX4_settle_39 : decode cX4_settle 39 = .ok (.ifCond .ne 7, 3) := by decide +kernel
theorem dX4_settle_42 : decode cX4_settle 42 = .ok (.iconst 4, 1) := by decide +kernel
theorem dX4_settle_43 : decode cX4_settle 43 = .ok (.goto 4, 3) := by decide +kernel
theorem dX4_settle_46 : decode cX4_settle 46 = .ok (.iconst 1, 1) := by decide +kernel
theorem dX4_settle_47 : decode cX4_settle 47 = .ok (.putfield 25, 3) := by decide +kernel
theorem dX4_settle_50 : decode cX4_settle 50 = .ok (.return_, 1) := by decide +kernel
theorem dX4_sideOnTurn_0 : decode cX4_sideOnTurn 0 = .ok (.aload_n 0, 1) := by decide +kernel
theorem dX4_sideOnTurn_1 : decode cX4_sideOnTurn 1 = .ok (.getfield 25, 3) := by decide +kernel
theorem dX4_sideOnTurn_4 : decode cX4_sideOnTurn 4 = .ok (.iconst 1, 1) := by decide +kernel
theorem dX4_sideOnTurn_5 : decode cX4_sideOnTurn 5 = .ok (.if_icmp .ne 13, 3) := by decide +kernel
theorem dX4_sideOnTurn_8 : decode cX4_sideOnTurn 8 = .ok (.aload_n 0, 1) := by decide +kernel
theorem dX4_sideOnTurn_9 : decode cX4_sideOnTurn 9 = .ok (.getfield 12, 3) := by decide +kernel
theorem dX4_sideOnTurn_12 : decode cX4_sideOnTurn 12 = .ok (.getfield 82, 3) := by decide +kernel
theorem dX4_sideOnTurn_15 : decode cX4_sideOnTurn 15 = .ok (.goto 4, 3) := by decide +kernel
theorem dX4_sideOnTurn_18 : decode cX4_sideOnTurn 18 = .ok (.iconst (-1), 1) := by decide +kernel
theorem dX4_sideOnTurn_19 : decode cX4_sideOnTurn 19 = .ok (.ireturn, 1) := by decide +kernel
set_option maxRecDepth 20000 in
theorem ggX4_lost_X8_fieldOf : GoodIn wsX4_lost wsX8_fieldOf := goodIn_r _ [7, 8, 23, 24, 25] (by decide +kernel) (by decide +kernel)
set_option maxRecDepth 20000 in
theorem gX4_lost_X8_fieldOf : GoodIn wsX4_lost (wsV RX4 103 RX8 yX8_fieldOf wsX8_fieldOf) := goodIn_app (goodIn_of _ (by decide +kernel)) ggX4_lost_X8_fieldOf
theorem dX4_lost_0 : decode cX4_lost 0 = .ok (.iconst 0, 1) := by decide +kernel
theorem dX4_lost_1 : decode cX4_lost 1 = .ok (.istore_n 1, 1) := by decide +kernel
theorem dX4_lost_2 : decode cX4_lost 2 = .ok (.iconst 0, 1) := by decide +kernel
theorem dX4_lost_3 : decode cX4_lost 3 = .ok (.istore_n 2, 1) := by decide +kernel
theorem dX4_lost_4 : decode cX4_lost 4 = .ok (.iload_n 2, 1) := by decide +kernel
theorem dX4_lost_5 : decode cX4_lost 5 = .ok (.aload_n 0, 1) := by decide +kernel
theorem dX4_lost_6 : decode cX4_lost 6 = .ok (.getfield 33, 3) := by decide +kernel
theorem dX4_lost_9 : decode cX4_lost 9 = .ok (.getfield 71, 3) := by decide +kernel
theorem dX4_lost_12 : decode cX4_lost 12 = .ok (.if_icmp .ge 29, 3) := by decide +kernel
theorem dX4_lost_15 : decode cX4_lost 15 = .ok (.iload_n 1, 1) := by decide +kernel
theorem dX4_lost_16 : decode cX4_lost 16 = .ok (.aload_n 0, 1) := by decide +kernel
theorem dX4_lost_17 : decode cX4_lost 17 = .ok (.getfield 12, 3) := by decide +kernel
theorem dX4_lost_20 : decode cX4_lost 20 = .ok (.iload_n 2, 1) := by decide +kernel
theorem dX4_lost_21 : decode cX4_lost 21 = .ok (.invokevirtual 103, 3) := by decide +kernel
theorem dX4_lost_24 : decode cX4_lost 24 = .ok (.iconst (-1), 1) := by decide +kernel
theorem dX4_lost_25 : decode cX4_lost 25 = .ok (.if_icmp .ne 7, 3) := by decide +kernel
theorem dX4_lost_28 : decode cX4_lost 28 = .ok (.iconst 1, 1) := by decide +kernel
theorem dX4_lost_29 : decode cX4_lost 29 = .ok (.goto 4, 3) := by decide +kernel
theorem dX4_lost_32 : decode cX4_lost 32 = .ok (.iconst 0, 1) := by decide +kernel
theorem dX4_lost_33 : decode cX4_lost 33 = .ok (.iadd, 1) := by decide +kernel
theorem dX4_lost_34 : decode cX4_lost 34 = .ok (.istore_n 1, 1) := by decide +kernel
theorem dX4_lost_35 : decode cX4_lost 35 = .ok (.iinc 2 1, 3) := by decide +kernel
theorem dX4_lost_38 : decode cX4_lost 38 = .ok (.goto (-34), 3) := by decide +kernel
theorem dX4_lost_41 : decode cX4_lost 41 = .ok (.iload_n 1, 1) := by decide +kernel
theorem dX4_lost_42 : decode cX4_lost 42 = .ok (.ireturn, 1) := by decide +kernel
set_option maxRecDepth 20000 in
theorem ggX4_movesOf_X6_isPiece : GoodIn wsX4_movesOf wsX6_isPiece := goodIn_r _ [7, 8, 53, 54, 55, 56, 57, 58, 59, 60, 61] (by decide +kernel) (by decide +kernel)
set_option maxRecDepth 20000 in
theorem gX4_movesOf_X6_isPiece : GoodIn wsX4_movesOf (wsV RX4 106 RX6 yX6_isPiece wsX6_isPiece) := goodIn_app (goodIn_of _ (by decide +kernel)) ggX4_movesOf_X6_isPiece
set_option maxRecDepth 20000 in
theorem ggX4_movesOf_X4_sideOnTurn : GoodIn wsX4_movesOf wsX4_sideOnTurn := goodIn_r _ [13, 14, 2, 48, 49, 50, 51, 52, 62, 63, 64] (by decide +kernel) (by decide +kernel)
set_option maxRecDepth 20000 in
theorem gX4_movesOf_X4_sideOnTurn : GoodIn wsX4_movesOf (wsV RX4 113 RX4 yX4_sideOnTurn wsX4_sideOnTurn) := goodIn_app (goodIn_of _ (by decide +kernel)) ggX4_movesOf_X4_sideOnTurn
set_option maxRecDepth 20000 in
theorem ggX4_movesOf_X6_movesOf : GoodIn wsX4_movesOf wsX6_movesOf := goodIn_r _ [18, 19, 20, 21, 6, 22, 23, 24, 25, 26, 27, 28, 29, 30, 31, 32, 33, 34, 35, 36, 37, 38, 39, 40, 41, 42, 43, 44, 45, 46, 47, 53, 54, 55, 56, 57, 58, 59, 60, 61, 65, 66, 67, 68, 69, 62, 63, 64, 70, 71, 72, 73, 74] (by decide +kernel) (by decide +kernel)
set_option maxRecDepth 20000 in
theorem gX4_movesOf_X6_movesOf : GoodIn wsX4_movesOf (wsV RX4 116 RX6 yX6_movesOf wsX6_movesOf) := goodIn_app (goodIn_of _ (by decide +kernel)) ggX4_movesOf_X6_movesOf
theorem dX4_movesOf_0 : decode cX4_movesOf 0 = .ok (.aload_n 0, 1) := by decide +kernel
theorem dX4_movesOf_1 : decode cX4_movesOf 1 = .ok (.getfield 33, 3) := by decide +kernel
theorem dX4_movesOf_4 : decode cX4_movesOf 4 = .ok (.iload_n 1, 1) := by decide +kernel
theorem dX4_movesOf_5 : decode cX4_movesOf 5 = .ok (.invokevirtual 106, 3) := by decide +kernel
theorem dX4_movesOf_8 : decode cX4_movesOf 8 = .ok (.ifCond .eq 23, 3) := by decide +kernel
theorem dX4_movesOf_11 : decode cX4_movesOf 11 = .ok (.aload_n 0, 1) := by decide +kernel
theorem dX4_movesOf_12 : decode cX4_movesOf 12 = .ok (.getfield 33, 3) := by decide +kernel
theorem dX4_movesOf_15 : decode cX4_movesOf 15 = .ok (.getfield 110, 3) := by decide +kernel
theorem dX4_movesOf_18 : decode cX4_movesOf 18 = .ok (.iload_n 1, 1) := by decide +kernel
theorem dX4_movesOf_19 : decode cX4_movesOf 19 = .ok (.iaload, 1) := by decide +kernel
theorem dX4_movesOf_20 : decode cX4_movesOf 20 = .ok (.aload_n 0, 1) := by decide +kernel
theorem dX4_movesOf_21 : decode cX4_movesOf 21 = .ok (.invokevirtual 113, 3) := by decide +kernel
theorem dX4_movesOf_24 : decode cX4_movesOf 24 = .ok (.if_icmp .ne 7, 3) := by decide +kernel
theorem dX4_movesOf_27 : decode cX4_movesOf 27 = .ok (.iconst 1, 1) := by decide +kernel
theorem dX4_movesOf_28 : decode cX4_movesOf 28 = .ok (.goto 4, 3) := by decide +kernel
theorem dX4_movesOf_31 : decode cX4_movesOf 31 = .ok (.iconst 0, 1) := by decide +kernel
theorem dX4_movesOf_32 : decode cX4_movesOf 32 = .ok (.istore_n 2, 1) := by decide +kernel
theorem dX4_movesOf_33 : decode cX4_movesOf 33 = .ok (.iload_n 2, 1) := by decide +kernel
theorem dX4_movesOf_34 : decode cX4_movesOf 34 = .ok (.ifCond .eq 18, 3) := by decide +kernel
theorem dX4_movesOf_37 : decode cX4_movesOf 37 = .ok (.aload_n 0, 1) := by decide +kernel
theorem dX4_movesOf_38 : decode cX4_movesOf 38 = .ok (.getfield 33, 3) := by decide +kernel
theorem dX4_movesOf_41 : decode cX4_movesOf 41 = .ok (.aload_n 0, 1) := by decide +kernel
theorem dX4_movesOf_42 : decode cX4_movesOf 42 = .ok (.getfield 12, 3) := by decide +kernel
theorem dX4_movesOf_45 : decode cX4_movesOf 45 = .ok (.iload_n 1, 1) := by decide +kernel
theorem dX4_movesOf_46 : decode cX4_movesOf 46 = .ok (.invokevirtual 116, 3) := by decide +kernel
theorem dX4_movesOf_49 : decode cX4_movesOf 49 = .ok (.goto 4, 3) := by decide +kernel
theorem dX4_movesOf_52 : decode cX4_movesOf 52 = .ok (.iconst 0, 1) := by decide +kernel
theorem dX4_movesOf_53 : decode cX4_movesOf 53 = .ok (.ireturn, 1) := by decide +kernel
set_option maxRecDepth 20000 in
theorem ggX4_reason_X6_isPiece : GoodIn wsX4_reason wsX6_isPiece := goodIn_r _ [9, 10, 104, 105, 106, 107, 108, 109, 110, 111, 112] (by decide +kernel) (by decide +kernel)
set_option maxRecDepth 20000 in
theorem gX4_reason_X6_isPiece : GoodIn wsX4_reason (wsV RX4 106 RX6 yX6_isPiece wsX6_isPiece) := goodIn_app (goodIn_of _ (by decide +kernel)) ggX4_reason_X6_isPiece
set_option maxRecDepth 20000 in
theorem ggX4_reason_X8_fieldOf : GoodIn wsX4_reason wsX8_fieldOf := goodIn_r _ [15, 16, 113, 114, 115] (by decide +kernel) (by decide +kernel)
set_option maxRecDepth 20000 in
theorem gX4_reason_X8_fieldOf : GoodIn wsX4_reason (wsV RX4 103 RX8 yX8_fieldOf wsX8_fieldOf) := goodIn_app (goodIn_of _ (by decide +kernel)) ggX4_reason_X8_fieldOf
set_option maxRecDepth 20000 in
theorem ggX4_reason_X0_away : GoodIn wsX4_reason wsX0_away := goodIn_r _ [21, 22, 23, 24, 20, 25, 26, 27, 121, 122, 123, 124, 125] (by decide +kernel) (by decide +kernel)
set_option maxRecDepth 20000 in
theorem gX4_reason_X0_away : GoodIn wsX4_reason (wsV RX4 120 RX0 yX0_away wsX0_away) := goodIn_app (goodIn_of _ (by decide +kernel)) ggX4_reason_X0_away
set_option maxRecDepth 20000 in
theorem ggX4_reason_X6_isBeyondReach : GoodIn wsX4_reason wsX6_isBeyondReach := goodIn_r _ [31, 32, 33, 104, 105, 106, 107, 108, 109, 110, 111, 112, 116, 117, 118, 119, 120] (by decide +kernel) (by decide +kernel)
set_option maxRecDepth 20000 in
theorem gX4_reason_X6_isBeyondReach : GoodIn wsX4_reason (wsV RX4 124 RX6 yX6_isBeyondReach wsX6_isBeyondReach) := goodIn_app (goodIn_of _ (by decide +kernel)) ggX4_reason_X6_isBeyondReach
set_option maxRecDepth 20000 in
theorem ggX4_reason_X4_barrier : GoodIn wsX4_reason wsX4_barrier := goodIn_r _ [38, 3, 2, 11, 12, 13, 14, 15, 16, 39, 23, 24, 20, 25, 26, 27, 40, 41, 42, 43, 44, 45, 46, 47, 8, 48, 32, 49, 99, 100, 101, 102, 103, 104, 105, 106, 107, 108, 109, 110, 111, 112, 113, 114, 115, 121, 122, 123, 124, 125] (by decide +kernel) (by decide +kernel)
set_option maxRecDepth 20000 in
theorem gX4_reason_X4_barrier : GoodIn wsX4_reason (wsV RX4 128 RX4 yX4_barrier wsX4_barrier) := goodIn_app (goodIn_of _ (by decide +kernel)) ggX4_reason_X4_barrier
set_option maxRecDepth 20000 in
theorem ggX4_reason_X4_comesBack : GoodIn wsX4_reason wsX4_comesBack := goodIn_r _ [53, 2, 3, 54, 55, 56, 57, 8, 58, 59, 60, 49, 61, 62, 6, 7, 9, 10, 63, 12, 13, 14, 15, 16, 64, 65, 66, 67, 44, 68, 23, 24, 20, 25, 26, 27, 69, 41, 42, 43, 70, 71, 72, 73, 74, 32, 33, 75, 76, 77, 78, 79, 80, 81, 82, 83, 84, 85, 86, 87, 88, 89, 90, 91, 92, 93, 94, 95, 96, 97, 98, 99, 100, 101, 102, 103, 104, 105, 106, 107, 108, 109, 110, 111, 112, 113, 114, 115, 121, 122, 123, 124, 125, 116, 117, 118, 119, 120, 126, 127, 128, 129, 130, 131, 132, 133, 134] (by decide +kernel) (by decide +kernel)
set_option maxRecDepth 20000 in
theorem gX4_reason_X4_comesBack : GoodIn wsX4_reason (wsV RX4 131 RX4 yX4_comesBack wsX4_comesBack) := goodIn_app (goodIn_of _ (by decide +kernel)) ggX4_reason_X4_comesBack
theorem dX4_reason_0 : decode cX4_reason 0 = .ok (.aload_n 0, 1) := by decide +kernel
theorem dX4_reason_1 : decode cX4_reason 1 = .ok (.getfield 25, 3) := by decide +kernel
theorem dX4_reason_4 : decode cX4_reason 4 = .ok (.iconst 1, 1) := by decide +kernel
theorem dX4_reason_5 : decode cX4_reason 5 = .ok (.if_icmp .eq 5, 3) := by decide +kernel
theorem dX4_reason_8 : decode cX4_reason 8 = .ok (.iconst 1, 1) := by decide +kernel
theorem dX4_reason_9 : decode cX4_reason 9 = .ok (.ireturn, 1) := by decide +kernel
theorem dX4_reason_10 : decode cX4_reason 10 = .ok (.aload_n 0, 1) := by decide +kernel
theorem dX4_reason_11 : decode cX4_reason 11 = .ok (.getfield 33, 3) := by decide +kernel
theorem dX4_reason_14 : decode cX4_reason 14 = .ok (.iload_n 1, 1) := by decide +kernel
theorem dX4_reason_15 : decode cX4_reason 15 = .ok (.invokevirtual 106, 3) := by decide +kernel
theorem dX4_reason_18 : decode cX4_reason 18 = .ok (.ifCond .ne 5, 3) := by decide +kernel
theorem dX4_reason_21 : decode cX4_reason 21 = .ok (.iconst 2, 1) := by decide +kernel
theorem dX4_reason_22 : decode cX4_reason 22 = .ok (.ireturn, 1) := by decide +kernel
theorem dX4_reason_23 : decode cX4_reason 23 = .ok (.aload_n 0, 1) := by decide +kernel
theorem dX4_reason_24 : decode cX4_reason 24 = .ok (.getfield 12, 3) := by decide +kernel
theorem dX4_reason_27 : decode cX4_reason 27 = .ok (.iload_n 1, 1) := by decide +kernel
theorem dX4_reason_28 : decode cX4_reason 28 = .ok (.invokevirtual 103, 3) := by decide +kernel
theorem dX4_reason_31 : decode cX4_reason 31 = .ok (.istore 4, 2) := by decide +kernel
theorem dX4_reason_33 : decode cX4_reason 33 = .ok (.iload 4, 2) := by decide +kernel
theorem dX4_reason_35 : decode cX4_reason 35 = .ok (.iconst (-1), 1) := by decide +kernel
theorem dX4_reason_36 : decode cX4_reason 36 = .ok (.if_icmp .ne 5, 3) := by decide +kernel
theorem dX4_reason_39 : decode cX4_reason 39 = .ok (.iconst 3, 1) := by decide +kernel
theorem dX4_reason_40 : decode cX4_reason 40 = .ok (.ireturn, 1) := by decide +kernel
theorem dX4_reason_41 : decode cX4_reason 41 = .ok (.aload_n 0, 1) := by decide +kernel
theorem dX4_reason_42 : decode cX4_reason 42 = .ok (.getfield 33, 3) := by decide +kernel
theorem dX4_reason_45 : decode cX4_reason 45 = .ok (.getfield 110, 3) := by decide +kernel
theorem dX4_reason_48 : decode cX4_reason 48 = .ok (.iload_n 1, 1) := by decide +kernel
theorem dX4_reason_49 : decode cX4_reason 49 = .ok (.iaload, 1) := by decide +kernel
theorem dX4_reason_50 : decode cX4_reason 50 = .ok (.aload_n 0, 1) := by decide +kernel
theorem dX4_reason_51 : decode cX4_reason 51 = .ok (.getfield 12, 3) := by decide +kernel
theorem dX4_reason_54 : decode cX4_reason 54 = .ok (.getfield 82, 3) := by decide +kernel
theorem dX4_reason_57 : decode cX4_reason 57 = .ok (.if_icmp .eq 5, 3) := by decide +kernel
theorem dX4_reason_60 : decode cX4_reason 60 = .ok (.iconst 4, 1) := by decide +kernel
theorem dX4_reason_61 : decode cX4_reason 61 = .ok (.ireturn, 1) := by decide +kernel
theorem dX4_reason_62 : decode cX4_reason 62 = .ok (.iload_n 2, 1) := by decide +kernel
theorem dX4_reason_63 : decode cX4_reason 63 = .ok (.ifCond .lt 13, 3) := by decide +kernel
theorem dX4_reason_66 : decode cX4_reason 66 = .ok (.iload_n 2, 1) := by decide +kernel
theorem dX4_reason_67 : decode cX4_reason 67 = .ok (.iconst 4, 1) := by decide +kernel
theorem dX4_reason_68 : decode cX4_reason 68 = .ok (.if_icmp .ge 8, 3) := by decide +kernel
theorem dX4_reason_71 : decode cX4_reason 71 = .ok (.iload_n 3, 1) := by decide +kernel
theorem dX4_reason_72 : decode cX4_reason 72 = .ok (.iconst 1, 1) := by decide +kernel
theorem dX4_reason_73 : decode cX4_reason 73 = .ok (.if_icmp .ge 5, 3) := by decide +kernel
theorem dX4_reason_76 : decode cX4_reason 76 = .ok (.iconst 5, 1) := by decide +kernel
theorem dX4_reason_77 : decode cX4_reason 77 = .ok (.ireturn, 1) := by decide +kernel
theorem dX4_reason_78 : decode cX4_reason 78 = .ok (.aload_n 0, 1) := by decide +kernel
theorem dX4_reason_79 : decode cX4_reason 79 = .ok (.getfield 33, 3) := by decide +kernel
theorem dX4_reason_82 : decode cX4_reason 82 = .ok (.getfield 40, 3) := by decide +kernel
theorem dX4_reason_85 : decode cX4_reason 85 = .ok (.iload 4, 2) := by decide +kernel
theorem dX4_reason_87 : decode cX4_reason 87 = .ok (.iload_n 2, 1) := by decide +kernel
theorem dX4_reason_88 : decode cX4_reason 88 = .ok (.iload_n 3, 1) := by decide +kernel
theorem dX4_reason_89 : decode cX4_reason 89 = .ok (.invokevirtual 120, 3) := by decide +kernel
theorem dX4_reason_92 : decode cX4_reason 92 = .ok (.istore 5, 2) := by decide +kernel
theorem dX4_reason_94 : decode cX4_reason 94 = .ok (.iload 5, 2) := by decide +kernel
theorem dX4_reason_96 : decode cX4_reason 96 = .ok (.iconst (-1), 1) := by decide +kernel
theorem dX4_reason_97 : decode cX4_reason 97 = .ok (.if_icmp .ne 6, 3) := by decide +kernel
theorem dX4_reason_100 : decode cX4_reason 100 = .ok (.bipush 6, 2) := by decide +kernel
theorem dX4_reason_102 : decode cX4_reason 102 = .ok (.ireturn, 1) := by decide +kernel
theorem dX4_reason_103 : decode cX4_reason 103 = .ok (.aload_n 0, 1) := by decide +kernel
theorem dX4_reason_104 : decode cX4_reason 104 = .ok (.getfield 33, 3) := by decide +kernel
theorem dX4_reason_107 : decode cX4_reason 107 = .ok (.iload_n 1, 1) := by decide +kernel
theorem dX4_reason_108 : decode cX4_reason 108 = .ok (.iload_n 3, 1) := by decide +kernel
theorem dX4_reason_109 : decode cX4_reason 109 = .ok (.invokevirtual 124, 3) := by decide +kernel
theorem dX4_reason_112 : decode cX4_reason 112 = .ok (.ifCond .eq 6, 3) := by decide +kernel
theorem dX4_reason_115 : decode cX4_reason 115 = .ok (.bipush 7, 2) := by decide +kernel
theorem dX4_reason_117 : decode cX4_reason 117 = .ok (.ireturn, 1) := by decide +kernel
theorem dX4_reason_118 : decode cX4_reason 118 = .ok (.aload_n 0, 1) := by decide +kernel
theorem dX4_reason_119 : decode cX4_reason 119 = .ok (.iload_n 1, 1) := by decide +kernel
theorem dX4_reason_120 : decode cX4_reason 120 = .ok (.iload_n 2, 1) := by decide +kernel
theorem dX4_reason_121 : decode cX4_reason 121 = .ok (.iload 5, 2) := by decide +kernel
theorem dX4_reason_123 : decode cX4_reason 123 = .ok (.invokevirtual 128, 3) := by decide +kernel
theorem dX4_reason_126 : decode cX4_reason 126 = .ok (.istore 6, 2) := by decide +kernel
theorem dX4_reason_128 : decode cX4_reason 128 = .ok (.iload 6, 2) := by decide +kernel
theorem dX4_reason_130 : decode cX4_reason 130 = .ok (.ifCond .eq 6, 3) := by decide +kernel
theorem dX4_reason_133 : decode cX4_reason 133 = .ok (.iload 6, 2) := by decide +kernel
theorem dX4_reason_135 : decode cX4_reason 135 = .ok (.ireturn, 1) := by decide +kernel
theorem dX4_reason_136 : decode cX4_reason 136 = .ok (.aload_n 0, 1) := by decide +kernel
theorem dX4_reason_137 : decode cX4_reason 137 = .ok (.getfield 29, 3) := by decide +kernel
theorem dX4_reason_140 : decode cX4_reason 140 = .ok (.getfield 100, 3) := by decide +kernel
theorem dX4_reason_143 : decode cX4_reason 143 = .ok (.iconst 1, 1) := by decide +kernel
theorem dX4_reason_144 : decode cX4_reason 144 = .ok (.if_icmp .ne 18, 3) := by decide +kernel
theorem dX4_reason_147 : decode cX4_reason 147 = .ok (.aload_n 0, 1) := by decide +kernel
theorem dX4_reason_148 : decode cX4_reason 148 = .ok (.iload_n 1, 1) := by decide +kernel
theorem dX4_reason_149 : decode cX4_reason 149 = .ok (.iload 5, 2) := by decide +kernel
theorem dX4_reason_151 : decode cX4_reason 151 = .ok (.invokevirtual 131, 3) := by decide +kernel
theorem dX4_reason_154 : decode cX4_reason 154 = .ok (.ifCond .eq 8, 3) := by decide +kernel
theorem dX4_reason_157 : decode cX4_reason 157 = .ok (.bipush 10, 2) := by decide +kernel
theorem dX4_reason_159 : decode cX4_reason 159 = .ok (.goto 4, 3) := by decide +kernel
theorem dX4_reason_162 : decode cX4_reason 162 = .ok (.iconst 0, 1) := by decide +kernel
theorem dX4_reason_163 : decode cX4_reason 163 = .ok (.ireturn, 1) := by decide +kernel
set_option maxRecDepth 20000 in
theorem ggX4_barrier_X8_fieldOf : GoodIn wsX4_barrier wsX8_fieldOf := goodIn_r _ [7, 8, 42, 43, 44] (by decide +kernel) (by decide +kernel)
set_option maxRecDepth 20000 in
theorem gX4_barrier_X8_fieldOf : GoodIn wsX4_barrier (wsV RX4 103 RX8 yX8_fieldOf wsX8_fieldOf) := goodIn_app (goodIn_of _ (by decide +kernel)) ggX4_barrier_X8_fieldOf
set_option maxRecDepth 20000 in
theorem ggX4_barrier_X0_beside : GoodIn wsX4_barrier wsX0_beside := goodIn_r _ [13, 14, 15, 45, 46, 47, 48, 49] (by decide +kernel) (by decide +kernel)
set_option maxRecDepth 20000 in
theorem gX4_barrier_X0_beside : GoodIn wsX4_barrier (wsV RX4 134 RX0 yX0_beside wsX0_beside) := goodIn_app (goodIn_of _ (by decide +kernel)) ggX4_barrier_X0_beside
set_option maxRecDepth 20000 in
theorem ggX4_barrier_X8_holderOf : GoodIn wsX4_barrier wsX8_holderOf := goodIn_r _ [19, 20, 42, 43, 44] (by decide +kernel) (by decide +kernel)
set_option maxRecDepth 20000 in
theorem gX4_barrier_X8_holderOf : GoodIn wsX4_barrier (wsV RX4 138 RX8 yX8_holderOf wsX8_holderOf) := goodIn_app (goodIn_of _ (by decide +kernel)) ggX4_barrier_X8_holderOf
set_option maxRecDepth 20000 in
theorem ggX4_barrier_X6_bears : GoodIn wsX4_barrier wsX6_bears := goodIn_r _ [25, 26, 27, 33, 34, 35, 36, 37, 38, 39, 40, 41, 45, 46, 47, 48, 49] (by decide +kernel) (by decide +kernel)
set_option maxRecDepth 20000 in
theorem gX4_barrier_X6_bears : GoodIn wsX4_barrier (wsV RX4 141 RX6 yX6_bears wsX6_bears) := goodIn_app (goodIn_of _ (by decide +kernel)) ggX4_barrier_X6_bears
theorem dX4_barrier_0 : decode cX4_barrier 0 = .ok (.aload_n 0, 1) := by decide +kernel
theorem dX4_barrier_1 : decode cX4_barrier 1 = .ok (.getfield 12, 3) := by decide +kernel
theorem dX4_barrier_4 : decode cX4_barrier 4 = .ok (.iload_n 1, 1) := by decide +kernel
theorem dX4_barrier_5 : decode cX4_barrier 5 = .ok (.invokevirtual 103, 3) := by decide +kernel
theorem dX4_barrier_8 : decode cX4_barrier 8 = .ok (.istore 4, 2) := by decide +kernel
theorem dX4_barrier_10 : decode cX4_barrier 10 = .ok (.iconst 1, 1) := by decide +kernel
theorem dX4_barrier_11 : decode cX4_barrier 11 = .ok (.istore 5, 2) := by decide +kernel
theorem dX4_barrier_13 : decode cX4_barrier 13 = .ok (.iload 5, 2) := by decide +kernel
theorem dX4_barrier_15 : decode cX4_barrier 15 = .ok (.bipush 9, 2) := by decide +kernel
theorem dX4_barrier_17 : decode cX4_barrier 17 = .ok (.if_icmp .ge 62, 3) := by decide +kernel
theorem dX4_barrier_20 : decode cX4_barrier 20 = .ok (.iload 4, 2) := by decide +kernel
theorem dX4_barrier_22 : decode cX4_barrier 22 = .ok (.iload_n 3, 1) := by decide +kernel
theorem dX4_barrier_23 : decode cX4_barrier 23 = .ok (.if_icmp .eq 56, 3) := by decide +kernel
theorem dX4_barrier_26 : decode cX4_barrier 26 = .ok (.aload_n 0, 1) := by decide +kernel
theorem dX4_barrier_27 : decode cX4_barrier 27 = .ok (.getfield 33, 3) := by decide +kernel
theorem dX4_barrier_30 : decode cX4_barrier 30 = .ok (.getfield 40, 3) := by decide +kernel
theorem dX4_barrier_33 : decode cX4_barrier 33 = .ok (.iload 4, 2) := by decide +kernel
theorem dX4_barrier_35 : decode cX4_barrier 35 = .ok (.iload_n 2, 1) := by decide +kernel
theorem dX4_barrier_36 : decode cX4_barrier 36 = .ok (.invokevirtual 134, 3) := by decide +kernel
theorem dX4_barrier_39 : decode cX4_barrier 39 = .ok (.istore 4, 2) := by decide +kernel
theorem dX4_barrier_41 : decode cX4_barrier 41 = .ok (.aload_n 0, 1) := by decide +kernel
theorem dX4_barrier_42 : decode cX4_barrier 42 = .ok (.getfield 12, 3) := by decide +kernel
theorem dX4_barrier_45 : decode cX4_barrier 45 = .ok (.iload 4, 2) := by decide +kernel
theorem dX4_barrier_47 : decode cX4_barrier 47 = .ok (.invokevirtual 138, 3) := by decide +kernel
theorem dX4_barrier_50 : decode cX4_barrier 50 = .ok (.iconst (-1), 1) := by decide +kernel
theorem dX4_barrier_51 : decode cX4_barrier 51 = .ok (.if_icmp .eq 6, 3) := by decide +kernel
theorem dX4_barrier_54 : decode cX4_barrier 54 = .ok (.bipush 8, 2) := by decide +kernel
theorem dX4_barrier_56 : decode cX4_barrier 56 = .ok (.ireturn, 1) := by decide +kernel
theorem dX4_barrier_57 : decode cX4_barrier 57 = .ok (.aload_n 0, 1) := by decide +kernel
theorem dX4_barrier_58 : decode cX4_barrier 58 = .ok (.getfield 33, 3) := by decide +kernel
theorem dX4_barrier_61 : decode cX4_barrier 61 = .ok (.iload 4, 2) := by decide +kernel
theorem dX4_barrier_63 : decode cX4_barrier 63 = .ok (.iload_n 1, 1) := by decide +kernel
theorem dX4_barrier_64 : decode cX4_barrier 64 = .ok (.invokevirtual 141, 3) := by decide +kernel
theorem dX4_barrier_67 : decode cX4_barrier 67 = .ok (.ifCond .ne 6, 3) := by decide +kernel
theorem dX4_barrier_70 : decode cX4_barrier 70 = .ok (.bipush 9, 2) := by decide +kernel
theorem dX4_barrier_72 : decode cX4_barrier 72 = .ok (.ireturn, 1) := by decide +kernel
theorem dX4_barrier_73 : decode cX4_barrier 73 = .ok (.iinc 5 1, 3) := by decide +kernel
theorem dX4_barrier_76 : decode cX4_barrier 76 = .ok (.goto (-63), 3) := by decide +kernel
theorem dX4_barrier_79 : decode cX4_barrier 79 = .ok (.iconst 0, 1) := by decide +kernel
theorem dX4_barrier_80 : decode cX4_barrier 80 = .ok (.ireturn, 1) := by decide +kernel
set_option maxRecDepth 20000 in
theorem ggX4_comesBack_X6_findVictims : GoodIn wsX4_comesBack wsX6_findVictims := goodIn_r _ [8, 9, 10, 11, 12, 13, 14, 15, 7, 16, 17, 18, 19, 20, 21, 22, 23, 24, 25, 26, 27, 28, 29, 30, 31, 32, 33, 34, 35, 36, 37, 38, 39, 40, 41, 42, 43, 44, 45, 46, 47, 48, 49, 50, 51, 52, 53, 54, 55, 76, 77, 78, 79, 80, 81, 82, 83, 84, 85, 86, 87, 88, 89, 90, 91, 92, 93, 94, 95, 96, 97] (by decide +kernel) (by decide +kernel)
set_option maxRecDepth 20000 in
theorem gX4_comesBack_X6_findVictims : GoodIn wsX4_comesBack (wsV RX4 144 RX6 yX6_findVictims wsX6_findVictims) := goodIn_app (goodIn_of _ (by decide +kernel)) ggX4_comesBack_X6_findVictims
set_option maxRecDepth 20000 in
theorem ggX4_comesBack_X3_hasSeen : GoodIn wsX4_comesBack wsX3_hasSeen := goodIn_r _ [60, 61, 62, 63, 64, 65, 66, 67, 68, 69, 70, 19, 20, 21, 22, 23, 85, 86, 87, 98, 99, 100, 101, 102, 103, 104, 105, 106] (by decide +kernel) (by decide +kernel)
set_option maxRecDepth 20000 in
theorem gX4_comesBack_X3_hasSeen : GoodIn wsX4_comesBack (wsV RX4 148 RX3 yX3_hasSeen wsX3_hasSeen) := goodIn_app (goodIn_of _ (by decide +kernel)) ggX4_comesBack_X3_hasSeen
theorem dX4_comesBack_0 : decode cX4_comesBack 0 = .ok (.aload_n 0, 1) := by decide +kernel
theorem dX4_comesBack_1 : decode cX4_comesBack 1 = .ok (.getfield 33, 3) := by decide +kernel
theorem dX4_comesBack_4 : decode cX4_comesBack 4 = .ok (.aload_n 0, 1) := by decide +kernel
theorem dX4_comesBack_5 : decode cX4_comesBack 5 = .ok (.getfield 12, 3) := by decide +kernel
theorem dX4_comesBack_8 : decode cX4_comesBack 8 = .ok (.iload_n 1, 1) := by decide +kernel
theorem dX4_comesBack_9 : decode cX4_comesBack 9 = .ok (.iload_n 2, 1) := by decide +kernel
theorem dX4_comesBack_10 : decode cX4_comesBack 10 = .ok (.invokevirtual 144, 3) := by decide +kernel
theorem dX4_comesBack_13 : decode cX4_comesBack 13 = .ok (.ifCond .ne 23, 3) := by decide +kernel
theorem dX4_comesBack_16 : decode cX4_comesBack 16 = .ok (.aload_n 0, 1) := by decide +kernel
theorem dX4_comesBack_17 : decode cX4_comesBack 17 = .ok (.getfield 21, 3) := by decide +kernel
theorem dX4_comesBack_20 : decode cX4_comesBack 20 = .ok (.aload_n 0, 1) := by decide +kernel
theorem dX4_comesBack_21 : decode cX4_comesBack 21 = .ok (.getfield 12, 3) := by decide +kernel
theorem dX4_comesBack_24 : decode cX4_comesBack 24 = .ok (.iload_n 1, 1) := by decide +kernel
theorem dX4_comesBack_25 : decode cX4_comesBack 25 = .ok (.iload_n 2, 1) := by decide +kernel
theorem dX4_comesBack_26 : decode cX4_comesBack 26 = .ok (.invokevirtual 148, 3) := by decide +kernel
theorem dX4_comesBack_29 : decode cX4_comesBack 29 = .ok (.ifCond .eq 7, 3) := by decide +kernel
theorem dX4_comesBack_32 : decode cX4_comesBack 32 = .ok (.iconst 1, 1) := by decide +kernel
theorem dX4_comesBack_33 : decode cX4_comesBack 33 = .ok (.goto 4, 3) := by decide +kernel
theorem dX4_comesBack_36 : decode cX4_comesBack 36 = .ok (.iconst 0, 1) := by decide +kernel
theorem dX4_comesBack_37 : decode cX4_comesBack 37 = .ok (.ireturn, 1) := by decide +kernel
set_option maxRecDepth 20000 in
theorem ggX4_tryMove_X4_reason : GoodIn wsX4_tryMove wsX4_reason := goodIn_r _ [8, 9, 2, 3, 10, 11, 12, 13, 14, 15, 16, 17, 18, 19, 20, 21, 22, 23, 24, 25, 26, 27, 28, 29, 30, 31, 32, 33, 34, 35, 36, 37, 38, 39, 40, 41, 42, 7, 43, 44, 45, 46, 47, 48, 49, 50, 51, 52, 53, 54, 55, 56, 57, 58, 1, 59, 60, 61, 62, 63, 64, 65, 66, 67, 68, 69, 70, 71, 72, 73, 74, 75, 76, 77, 78, 79, 80, 81, 82, 83, 84, 85, 86, 87, 88, 89, 90, 91, 92, 93, 94, 95, 96, 97, 98, 99, 100, 101, 102, 150, 151, 152, 153, 154, 164, 165, 166, 167, 168, 169, 170, 171, 172, 173, 174, 175, 176, 177, 178, 179, 180, 181, 182, 183, 184, 185, 155, 156, 157, 158, 159, 160, 161, 162, 163] (by decide +kernel) (by decide +kernel)
set_option maxRecDepth 20000 in
theorem gX4_tryMove_X4_reason : GoodIn wsX4_tryMove (wsV RX4 152 RX4 yX4_reason wsX4_reason) := goodIn_app (goodIn_of _ (by decide +kernel)) ggX4_tryMove_X4_reason
set_option maxRecDepth 20000 in
theorem ggX4_tryMove_X3_isFull : GoodIn wsX4_tryMove wsX3_isFull := goodIn_r _ [106, 98, 155, 156, 157, 158, 159, 160, 161, 162, 163] (by decide +kernel) (by decide +kernel)
set_option maxRecDepth 20000 in
theorem gX4_tryMove_X3_isFull : GoodIn wsX4_tryMove (wsV RX4 155 RX3 yX3_isFull wsX3_isFull) := goodIn_app (goodIn_of _ (by decide +kernel)) ggX4_tryMove_X3_isFull
set_option maxRecDepth 20000 in
theorem ggX4_tryMove_X8_fieldOf : GoodIn wsX4_tryMove wsX8_fieldOf := goodIn_r _ [21, 22, 173, 174, 175] (by decide +kernel) (by decide +kernel)
set_option maxRecDepth 20000 in
theorem gX4_tryMove_X8_fieldOf : GoodIn wsX4_tryMove (wsV RX4 103 RX8 yX8_fieldOf wsX8_fieldOf) := goodIn_app (goodIn_of _ (by decide +kernel)) ggX4_tryMove_X8_fieldOf
set_option maxRecDepth 20000 in
theorem ggX4_tryMove_X0_away : GoodIn wsX4_tryMove wsX0_away := goodIn_r _ [27, 28, 29, 30, 26, 31, 32, 33, 181, 182, 183, 184, 185] (by decide +kernel) (by decide +kernel)
set_option maxRecDepth 20000 in
theorem gX4_tryMove_X0_away : GoodIn wsX4_tryMove (wsV RX4 120 RX0 yX0_away wsX0_away) := goodIn_app (goodIn_of _ (by decide +kernel)) ggX4_tryMove_X0_away
set_option maxRecDepth 20000 in
theorem ggX4_tryMove_X4_move : GoodIn wsX4_tryMove wsX4_move := goodIn_r _ [110, 1, 3, 2, 55, 56, 57, 7, 58, 59, 60, 61, 14, 62, 63, 64, 54, 65, 66, 12, 13, 15, 16, 67, 18, 19, 20, 21, 22, 68, 69, 70, 71, 49, 72, 29, 30, 26, 31, 32, 33, 73, 46, 47, 48, 74, 75, 76, 77, 78, 38, 39, 79, 80, 81, 82, 83, 84, 85, 86, 87, 88, 89, 90, 91, 92, 93, 94, 95, 96, 97, 98, 99, 100, 101, 102, 111, 112, 113, 114, 115, 116, 117, 118, 119, 120, 121, 122, 123, 104, 105, 106, 124, 150, 151, 152, 153, 154, 164, 165, 166, 167, 168, 169, 170, 171, 172, 173, 174, 175, 181, 182, 183, 184, 185, 176, 177, 178, 179, 180, 155, 156, 157, 158, 159, 160, 161, 162, 163] (by decide +kernel) (by decide +kernel)
set_option maxRecDepth 20000 in
theorem gX4_tryMove_X4_move : GoodIn wsX4_tryMove (wsV RX4 165 RX4 yX4_move wsX4_move) := goodIn_app (goodIn_of _ (by decide +kernel)) ggX4_tryMove_X4_move
set_option maxRecDepth 20000 in
theorem ggX4_tryMove_X4_settle : GoodIn wsX4_tryMove wsX4_settle := goodIn_r _ [128, 2, 3, 9, 10, 129, 130, 131, 14, 132, 38, 67, 18, 19, 20, 21, 22, 133, 134, 135, 136, 54, 137, 138, 139, 140, 16, 65, 141, 142, 143, 144, 39, 72, 29, 30, 26, 31, 32, 33, 73, 46, 47, 48, 49, 145, 51, 52, 53, 150, 151, 152, 153, 154, 176, 177, 178, 179, 180, 164, 165, 166, 167, 168, 169, 170, 171, 172, 173, 174, 175, 181, 182, 183, 184, 185] (by decide +kernel) (by decide +kernel)
set_option maxRecDepth 20000 in
theorem gX4_tryMove_X4_settle : GoodIn wsX4_tryMove (wsV RX4 85 RX4 yX4_settle wsX4_settle) := goodIn_app (goodIn_of _ (by decide +kernel)) ggX4_tryMove_X4_settle
set_option maxRecDepth 20000 in
theorem ggX4_tryMove_X3_latestTakings : GoodIn wsX4_tryMove wsX3_latestTakings := goodIn_r _ [149, 98, 99, 155, 156, 157, 158, 159, 160, 161, 162, 163] (by decide +kernel) (by decide +kernel)
set_option maxRecDepth 20000 in
theorem gX4_tryMove_X3_latestTakings : GoodIn wsX4_tryMove (wsV RX4 168 RX3 yX3_latestTakings wsX3_latestTakings) := goodIn_app (goodIn_of _ (by decide +kernel)) ggX4_tryMove_X3_latestTakings
theorem dX4_tryMove_0 : decode cX4_tryMove 0 = .ok (.aload_n 0, 1) := by decide +kernel
theorem dX4_tryMove_1 : decode cX4_tryMove 1 = .ok (.iload_n 1, 1) := by decide +kernel
theorem dX4_tryMove_2 : decode cX4_tryMove 2 = .ok (.iload_n 2, 1) := by decide +kernel
theorem dX4_tryMove_3 : decode cX4_tryMove 3 = .ok (.iload_n 3, 1) := by decide +kernel
theorem dX4_tryMove_4 : decode cX4_tryMove 4 = .ok (.invokevirtual 152, 3) := by decide +kernel
theorem dX4_tryMove_7 : decode cX4_tryMove 7 = .ok (.ifCond .ne 13, 3) := by decide +kernel
theorem dX4_tryMove_10 : decode cX4_tryMove 10 = .ok (.aload_n 0, 1) := by decide +kernel
theorem dX4_tryMove_11 : decode cX4_tryMove 11 = .ok (.getfield 21, 3) := by decide +kernel
theorem dX4_tryMove_14 : decode cX4_tryMove 14 = .ok (.invokevirtual 155, 3) := by decide +kernel
theorem dX4_tryMove_17 : decode cX4_tryMove 17 = .ok (.ifCond .eq 5, 3) := by decide +kernel
theorem dX4_tryMove_20 : decode cX4_tryMove 20 = .ok (.iconst (-1), 1) := by decide +kernel
theorem dX4_tryMove_21 : decode cX4_tryMove 21 = .ok (.ireturn, 1) := by decide +kernel
theorem dX4_tryMove_22 : decode cX4_tryMove 22 = .ok (.aload_n 0, 1) := by decide +kernel
theorem dX4_tryMove_23 : decode cX4_tryMove 23 = .ok (.getfield 21, 3) := by decide +kernel
theorem dX4_tryMove_26 : decode cX4_tryMove 26 = .ok (.aload_n 0, 1) := by decide +kernel
theorem dX4_tryMove_27 : decode cX4_tryMove 27 = .ok (.getfield 21, 3) := by decide +kernel
theorem dX4_tryMove_30 : decode cX4_tryMove 30 = .ok (.getfield 159, 3) := by decide +kernel
theorem dX4_tryMove_33 : decode cX4_tryMove 33 = .ok (.putfield 162, 3) := by decide +kernel
theorem dX4_tryMove_36 : decode cX4_tryMove 36 = .ok (.aload_n 0, 1) := by decide +kernel
theorem dX4_tryMove_37 : decode cX4_tryMove 37 = .ok (.aload_n 0, 1) := by decide +kernel
theorem dX4_tryMove_38 : decode cX4_tryMove 38 = .ok (.iload_n 1, 1) := by decide +kernel
theorem dX4_tryMove_39 : decode cX4_tryMove 39 = .ok (.aload_n 0, 1) := by decide +kernel
theorem dX4_tryMove_40 : decode cX4_tryMove 40 = .ok (.getfield 33, 3) := by decide +kernel
theorem dX4_tryMove_43 : decode cX4_tryMove 43 = .ok (.getfield 40, 3) := by decide +kernel
theorem dX4_tryMove_46 : decode cX4_tryMove 46 = .ok (.aload_n 0, 1) := by decide +kernel
theorem dX4_tryMove_47 : decode cX4_tryMove 47 = .ok (.getfield 12, 3) := by decide +kernel
theorem dX4_tryMove_50 : decode cX4_tryMove 50 = .ok (.iload_n 1, 1) := by decide +kernel
theorem dX4_tryMove_51 : decode cX4_tryMove 51 = .ok (.invokevirtual 103, 3) := by decide +kernel
theorem dX4_tryMove_54 : decode cX4_tryMove 54 = .ok (.iload_n 2, 1) := by decide +kernel
theorem dX4_tryMove_55 : decode cX4_tryMove 55 = .ok (.iload_n 3, 1) := by decide +kernel
theorem dX4_tryMove_56 : decode cX4_tryMove 56 = .ok (.invokevirtual 120, 3) := by decide +kernel
theorem dX4_tryMove_59 : decode cX4_tryMove 59 = .ok (.invokevirtual 165, 3) := by decide +kernel
theorem dX4_tryMove_62 : decode cX4_tryMove 62 = .ok (.invokevirtual 85, 3) := by decide +kernel
theorem dX4_tryMove_65 : decode cX4_tryMove 65 = .ok (.aload_n 0, 1) := by decide +kernel
theorem dX4_tryMove_66 : decode cX4_tryMove 66 = .ok (.getfield 21, 3) := by decide +kernel
theorem dX4_tryMove_69 : decode cX4_tryMove 69 = .ok (.invokevirtual 168, 3) := by decide +kernel
theorem dX4_tryMove_72 : decode cX4_tryMove 72 = .ok (.ireturn, 1) := by decide +kernel
set_option maxRecDepth 20000 in
theorem ggX4_move_X4_comesBack : GoodIn wsX4_move wsX4_comesBack := goodIn_r _ [8, 3, 2, 1, 9, 10, 11, 12, 13, 14, 15, 16, 17, 18, 19, 20, 21, 22, 23, 24, 25, 26, 27, 28, 29, 30, 31, 32, 33, 34, 35, 36, 37, 38, 39, 40, 41, 42, 43, 44, 45, 46, 47, 48, 49, 50, 51, 52, 53, 54, 55, 56, 57, 58, 59, 60, 61, 62, 63, 64, 65, 66, 67, 68, 69, 70, 71, 72, 73, 74, 75, 93, 94, 95, 96, 97, 98, 99, 100, 101, 102, 103, 104, 105, 106, 107, 108, 109, 110, 111, 112, 113, 114, 115, 116, 117, 118, 119, 120, 121, 122, 123, 124, 125, 126, 127, 128] (by decide +kernel) (by decide +kernel)
set_option maxRecDepth 20000 in
theorem gX4_move_X4_comesBack : GoodIn wsX4_move (wsV RX4 131 RX4 yX4_comesBack wsX4_comesBack) := goodIn_app (goodIn_of _ (by decide +kernel)) ggX4_move_X4_comesBack
set_option maxRecDepth 20000 in
theorem ggX4_move_X3_write : GoodIn wsX4_move wsX3_write := goodIn_r _ [79, 73, 71, 74, 80, 72, 81, 82, 83, 84, 85, 86, 87, 88, 89, 90, 64, 91, 75, 24, 25, 26, 27, 28, 120, 121, 122, 123, 124, 125, 126, 127, 128, 98, 99, 100, 101, 102, 103, 104, 105, 106, 107, 108, 109] (by decide +kernel) (by decide +kernel)
set_option maxRecDepth 20000 in
theorem gX4_move_X3_write : GoodIn wsX4_move (wsV RX4 171 RX3 yX3_write wsX3_write) := goodIn_app (goodIn_of _ (by decide +kernel)) ggX4_move_X3_write
set_option maxRecDepth 20000 in
theorem ggX4_move_X8_place : GoodIn wsX4_move wsX8_place := goodIn_r _ [32, 28, 33, 107, 108, 109] (by decide +kernel) (by decide +kernel)
set_option maxRecDepth 20000 in
theorem gX4_move_X8_place : GoodIn wsX4_move (wsV RX4 74 RX8 yX8_place wsX8_place) := goodIn_app (goodIn_of _ (by decide +kernel)) ggX4_move_X8_place
theorem dX4_move_0 : decode cX4_move 0 = .ok (.aload_n 0, 1) := by decide +kernel
theorem dX4_move_1 : decode cX4_move 1 = .ok (.iload_n 1, 1) := by decide +kernel
theorem dX4_move_2 : decode cX4_move 2 = .ok (.iload_n 2, 1) := by decide +kernel
theorem dX4_move_3 : decode cX4_move 3 = .ok (.invokevirtual 131, 3) := by decide +kernel
theorem dX4_move_6 : decode cX4_move 6 = .ok (.istore_n 3, 1) := by decide +kernel
theorem dX4_move_7 : decode cX4_move 7 = .ok (.aload_n 0, 1) := by decide +kernel
theorem dX4_move_8 : decode cX4_move 8 = .ok (.getfield 21, 3) := by decide +kernel
theorem dX4_move_11 : decode cX4_move 11 = .ok (.aload_n 0, 1) := by decide +kernel
theorem dX4_move_12 : decode cX4_move 12 = .ok (.getfield 12, 3) := by decide +kernel
theorem dX4_move_15 : decode cX4_move 15 = .ok (.iload_n 1, 1) := by decide +kernel
theorem dX4_move_16 : decode cX4_move 16 = .ok (.iload_n 2, 1) := by decide +kernel
theorem dX4_move_17 : decode cX4_move 17 = .ok (.aload_n 0, 1) := by decide +kernel
theorem dX4_move_18 : decode cX4_move 18 = .ok (.getfield 33, 3) := by decide +kernel
theorem dX4_move_21 : decode cX4_move 21 = .ok (.invokevirtual 171, 3) := by decide +kernel
theorem dX4_move_24 : decode cX4_move 24 = .ok (.aload_n 0, 1) := by decide +kernel
theorem dX4_move_25 : decode cX4_move 25 = .ok (.getfield 12, 3) := by decide +kernel
theorem dX4_move_28 : decode cX4_move 28 = .ok (.iload_n 1, 1) := by decide +kernel
theorem dX4_move_29 : decode cX4_move 29 = .ok (.iload_n 2, 1) := by decide +kernel
theorem dX4_move_30 : decode cX4_move 30 = .ok (.invokevirtual 74, 3) := by decide +kernel
theorem dX4_move_33 : decode cX4_move 33 = .ok (.iconst 0, 1) := by decide +kernel
theorem dX4_move_34 : decode cX4_move 34 = .ok (.istore 4, 2) := by decide +kernel
theorem dX4_move_36 : decode cX4_move 36 = .ok (.iload 4, 2) := by decide +kernel
theorem dX4_move_38 : decode cX4_move 38 = .ok (.aload_n 0, 1) := by decide +kernel
theorem dX4_move_39 : decode cX4_move 39 = .ok (.getfield 33, 3) := by decide +kernel
theorem dX4_move_42 : decode cX4_move 42 = .ok (.getfield 175, 3) := by decide +kernel
theorem dX4_move_45 : decode cX4_move 45 = .ok (.if_icmp .ge 27, 3) := by decide +kernel
theorem dX4_move_48 : decode cX4_move 48 = .ok (.aload_n 0, 1) := by decide +kernel
theorem dX4_move_49 : decode cX4_move 49 = .ok (.getfield 12, 3) := by decide +kernel
theorem dX4_move_52 : decode cX4_move 52 = .ok (.aload_n 0, 1) := by decide +kernel
theorem dX4_move_53 : decode cX4_move 53 = .ok (.getfield 33, 3) := by decide +kernel
theorem dX4_move_56 : decode cX4_move 56 = .ok (.getfield 178, 3) := by decide +kernel
theorem dX4_move_59 : decode cX4_move 59 = .ok (.iload 4, 2) := by decide +kernel
theorem dX4_move_61 : decode cX4_move 61 = .ok (.iaload, 1) := by decide +kernel
theorem dX4_move_62 : decode cX4_move 62 = .ok (.iconst (-1), 1) := by decide +kernel
theorem dX4_move_63 : decode cX4_move 63 = .ok (.invokevirtual 74, 3) := by decide +kernel
theorem dX4_move_66 : decode cX4_move 66 = .ok (.iinc 4 1, 3) := by decide +kernel
theorem dX4_move_69 : decode cX4_move 69 = .ok (.goto (-33), 3) := by decide +kernel
theorem dX4_move_72 : decode cX4_move 72 = .ok (.aload_n 0, 1) := by decide +kernel
theorem dX4_move_73 : decode cX4_move 73 = .ok (.getfield 12, 3) := by decide +kernel
theorem dX4_move_76 : decode cX4_move 76 = .ok (.iconst 1, 1) := by decide +kernel
theorem dX4_move_77 : decode cX4_move 77 = .ok (.aload_n 0, 1) := by decide +kernel
theorem dX4_move_78 : decode cX4_move 78 = .ok (.getfield 12, 3) := by decide +kernel
theorem dX4_move_81 : decode cX4_move 81 = .ok (.getfield 82, 3) := by decide +kernel
theorem dX4_move_84 : decode cX4_move 84 = .ok (.isub, 1) := by decide +kernel
theorem dX4_move_85 : decode cX4_move 85 = .ok (.putfield 82, 3) := by decide +kernel
theorem dX4_move_88 : decode cX4_move 88 = .ok (.iload_n 3, 1) := by decide +kernel
theorem dX4_move_89 : decode cX4_move 89 = .ok (.ireturn, 1) := by decide +kernel
set_option maxRecDepth 20000 in
theorem ggX4_takeBack_X3_unwind : GoodIn wsX4_takeBack wsX3_unwind := goodIn_r _ [8, 9, 10, 11, 12, 13, 14, 15, 16, 17, 18, 19, 20, 21, 27, 28, 29, 30, 31, 32, 33, 34, 35, 36, 37, 38] (by decide +kernel) (by decide +kernel)
set_option maxRecDepth 20000 in
theorem gX4_takeBack_X3_unwind : GoodIn wsX4_takeBack (wsV RX4 181 RX3 yX3_unwind wsX3_unwind) := goodIn_app (goodIn_of _ (by decide +kernel)) ggX4_takeBack_X3_unwind
theorem dX4_takeBack_0 : decode cX4_takeBack 0 = .ok (.aload_n 0, 1) := by decide +kernel
theorem dX4_takeBack_1 : decode cX4_takeBack 1 = .ok (.getfield 21, 3) := by decide +kernel
theorem dX4_takeBack_4 : decode cX4_takeBack 4 = .ok (.getfield 159, 3) := by decide +kernel
theorem dX4_takeBack_7 : decode cX4_takeBack 7 = .ok (.ifCond .ne 5, 3) := by decide +kernel
theorem dX4_takeBack_10 : decode cX4_takeBack 10 = .ok (.iconst 0, 1) := by decide +kernel
theorem dX4_takeBack_11 : decode cX4_takeBack 11 = .ok (.ireturn, 1) := by decide +kernel
theorem dX4_takeBack_12 : decode cX4_takeBack 12 = .ok (.aload_n 0, 1) := by decide +kernel
theorem dX4_takeBack_13 : decode cX4_takeBack 13 = .ok (.getfield 21, 3) := by decide +kernel
theorem dX4_takeBack_16 : decode cX4_takeBack 16 = .ok (.aload_n 0, 1) := by decide +kernel
theorem dX4_takeBack_17 : decode cX4_takeBack 17 = .ok (.getfield 12, 3) := by decide +kernel
theorem dX4_takeBack_20 : decode cX4_takeBack 20 = .ok (.invokevirtual 181, 3) := by decide +kernel
theorem dX4_takeBack_23 : decode cX4_takeBack 23 = .ok (.aload_n 0, 1) := by decide +kernel
theorem dX4_takeBack_24 : decode cX4_takeBack 24 = .ok (.iconst 1, 1) := by decide +kernel
theorem dX4_takeBack_25 : decode cX4_takeBack 25 = .ok (.putfield 25, 3) := by decide +kernel
theorem dX4_takeBack_28 : decode cX4_takeBack 28 = .ok (.iconst 1, 1) := by decide +kernel
theorem dX4_takeBack_29 : decode cX4_takeBack 29 = .ok (.ireturn, 1) := by decide +kernel
set_option maxRecDepth 20000 in
theorem ggX4_redo_X3_isFull : GoodIn wsX4_redo wsX3_isFull := goodIn_r _ [6, 7, 129, 130, 131, 132, 133, 134, 135, 136, 137] (by decide +kernel) (by decide +kernel)
set_option maxRecDepth 20000 in
theorem gX4_redo_X3_isFull : GoodIn wsX4_redo (wsV RX4 155 RX3 yX3_isFull wsX3_isFull) := goodIn_app (goodIn_of _ (by decide +kernel)) ggX4_redo_X3_isFull
set_option maxRecDepth 20000 in
theorem ggX4_redo_X4_move : GoodIn wsX4_redo wsX4_move := goodIn_r _ [12, 1, 13, 14, 15, 16, 17, 11, 18, 19, 20, 21, 22, 23, 24, 25, 26, 27, 28, 29, 30, 31, 32, 33, 34, 35, 36, 37, 38, 39, 40, 41, 42, 43, 44, 45, 46, 47, 48, 49, 50, 51, 52, 53, 54, 55, 56, 57, 58, 59, 60, 61, 62, 63, 64, 65, 66, 67, 68, 69, 70, 71, 72, 73, 5, 74, 75, 76, 77, 78, 79, 7, 80, 81, 82, 83, 84, 85, 86, 87, 88, 89, 90, 91, 92, 93, 94, 95, 96, 3, 4, 6, 97, 124, 125, 126, 127, 128, 138, 139, 140, 141, 142, 143, 144, 145, 146, 147, 148, 149, 150, 151, 152, 153, 154, 155, 156, 157, 158, 159, 129, 130, 131, 132, 133, 134, 135, 136, 137] (by decide +kernel) (by decide +kernel)
set_option maxRecDepth 20000 in
theorem gX4_redo_X4_move : GoodIn wsX4_redo (wsV RX4 165 RX4 yX4_move wsX4_move) := goodIn_app (goodIn_of _ (by decide +kernel)) ggX4_redo_X4_move
set_option maxRecDepth 20000 in
theorem ggX4_redo_X4_settle : GoodIn wsX4_redo wsX4_settle := goodIn_r _ [101, 14, 13, 102, 103, 104, 105, 106, 22, 107, 60, 33, 34, 35, 36, 37, 38, 108, 109, 110, 111, 26, 112, 113, 114, 115, 32, 27, 116, 117, 118, 119, 61, 44, 45, 46, 47, 48, 49, 50, 51, 52, 53, 54, 43, 120, 121, 122, 123, 124, 125, 126, 127, 128, 155, 156, 157, 158, 159, 138, 139, 140, 141, 142, 143, 144, 145, 146, 147, 148, 149, 150, 151, 152, 153, 154] (by decide +kernel) (by decide +kernel)
set_option maxRecDepth 20000 in
theorem gX4_redo_X4_settle : GoodIn wsX4_redo (wsV RX4 85 RX4 yX4_settle wsX4_settle) := goodIn_app (goodIn_of _ (by decide +kernel)) ggX4_redo_X4_settle
theorem dX4_redo_0 : decode cX4_redo 0 = .ok (.aload_n 0, 1) := by decide +kernel
theorem dX4_redo_1 : decode cX4_redo 1 = .ok (.getfield 21, 3) := by decide +kernel
theorem dX4_redo_4 : decode cX4_redo 4 = .ok (.getfield 159, 3) := by decide +kernel
theorem dX4_redo_7 : decode cX4_redo 7 = .ok (.aload_n 0, 1) := by decide +kernel
theorem dX4_redo_8 : decode cX4_redo 8 = .ok (.getfield 21, 3) := by decide +kernel
theorem dX4_redo_11 : decode cX4_redo 11 = .ok (.getfield 162, 3) := by decide +kernel
theorem dX4_redo_14 : decode cX4_redo 14 = .ok (.if_icmp .ge 13, 3) := by decide +kernel
theorem dX4_redo_17 : decode cX4_redo 17 = .ok (.aload_n 0, 1) := by decide +kernel
theorem dX4_redo_18 : decode cX4_redo 18 = .ok (.getfield 21, 3) := by decide +kernel
theorem dX4_redo_21 : decode cX4_redo 21 = .ok (.invokevirtual 155, 3) := by decide +kernel
theorem dX4_redo_24 : decode cX4_redo 24 = .ok (.ifCond .eq 5, 3) := by decide +kernel
theorem dX4_redo_27 : decode cX4_redo 27 = .ok (.iconst 0, 1) := by decide +kernel
theorem dX4_redo_28 : decode cX4_redo 28 = .ok (.ireturn, 1) := by decide +kernel
theorem dX4_redo_29 : decode cX4_redo 29 = .ok (.aload_n 0, 1) := by decide +kernel
theorem dX4_redo_30 : decode cX4_redo 30 = .ok (.aload_n 0, 1) := by decide +kernel
theorem dX4_redo_31 : decode cX4_redo 31 = .ok (.aload_n 0, 1) := by decide +kernel
theorem dX4_redo_32 : decode cX4_redo 32 = .ok (.getfield 21, 3) := by decide +kernel
theorem dX4_redo_35 : decode cX4_redo 35 = .ok (.getfield 185, 3) := by decide +kernel
theorem dX4_redo_38 : decode cX4_redo 38 = .ok (.aload_n 0, 1) := by decide +kernel
theorem dX4_redo_39 : decode cX4_redo 39 = .ok (.getfield 21, 3) := by decide +kernel
theorem dX4_redo_42 : decode cX4_redo 42 = .ok (.getfield 159, 3) := by decide +kernel
theorem dX4_redo_45 : decode cX4_redo 45 = .ok (.iaload, 1) := by decide +kernel
theorem dX4_redo_46 : decode cX4_redo 46 = .ok (.aload_n 0, 1) := by decide +kernel
theorem dX4_redo_47 : decode cX4_redo 47 = .ok (.getfield 21, 3) := by decide +kernel
theorem dX4_redo_50 : decode cX4_redo 50 = .ok (.getfield 188, 3) := by decide +kernel
theorem dX4_redo_53 : decode cX4_redo 53 = .ok (.aload_n 0, 1) := by decide +kernel
theorem dX4_redo_54 : decode cX4_redo 54 = .ok (.getfield 21, 3) := by decide +kernel
theorem dX4_redo_57 : decode cX4_redo 57 = .ok (.getfield 159, 3) := by decide +kernel
theorem dX4_redo_60 : decode cX4_redo 60 = .ok (.iaload, 1) := by decide +kernel
theorem dX4_redo_61 : decode cX4_redo 61 = .ok (.invokevirtual 165, 3) := by decide +kernel
theorem dX4_redo_64 : decode cX4_redo 64 = .ok (.invokevirtual 85, 3) := by decide +kernel
theorem dX4_redo_67 : decode cX4_redo 67 = .ok (.iconst 1, 1) := by decide +kernel
theorem dX4_redo_68 : decode cX4_redo 68 = .ok (.ireturn, 1) := by decide +kernel
theorem dX5_init_0 : decode cX5_init 0 = .ok (.aload_n 0, 1) := by decide +kernel
theorem dX5_init_1 : decode cX5_init 1 = .ok (.invokespecial 3, 3) := by decide +kernel
theorem dX5_init_4 : decode cX5_init 4 = .ok (.aload_n 0, 1) := by decide +kernel
theorem dX5_init_5 : decode cX5_init 5 = .ok (.bipush 81, 2) := by decide +kernel
theorem dX5_init_7 : decode cX5_init 7 = .ok (.newarray .int, 2) := by decide +kernel
theorem dX5_init_9 : decode cX5_init 9 = .ok (.putfield 9, 3) := by decide +kernel
theorem dX5_init_12 : decode cX5_init 12 = .ok (.aload_n 0, 1) := by decide +kernel
theorem dX5_init_13 : decode cX5_init 13 = .ok (.bipush 81, 2) := by decide +kernel
theorem dX5_init_15 : decode cX5_init 15 = .ok (.newarray .boolean, 2) := by decide +kernel
theorem dX5_init_17 : decode cX5_init 17 = .ok (.putfield 15, 3) := by decide +kernel
theorem dX5_init_20 : decode cX5_init 20 = .ok (.aload_n 0, 1) := by decide +kernel
theorem dX5_init_21 : decode cX5_init 21 = .ok (.aload_n 1, 1) := by decide +kernel
theorem dX5_init_22 : decode cX5_init 22 = .ok (.putfield 19, 3) := by decide +kernel
theorem dX5_init_25 : decode cX5_init 25 = .ok (.return_, 1) := by decide +kernel
set_option maxRecDepth 20000 in
theorem ggX5_holds_X8_fieldOf : GoodIn wsX5_holds wsX8_fieldOf := goodIn_r _ [8, 9, 50, 51, 52] (by decide +kernel) (by decide +kernel)
set_option maxRecDepth 20000 in
theorem gX5_holds_X8_fieldOf : GoodIn wsX5_holds (wsV RX5 29 RX8 yX8_fieldOf wsX8_fieldOf) := goodIn_app (goodIn_of _ (by decide +kernel)) ggX5_holds_X8_fieldOf
set_option maxRecDepth 20000 in
theorem ggX5_holds_X6_isGoal : GoodIn wsX5_holds wsX6_isGoal := goodIn_r _ [14, 15, 41, 42, 43, 44, 45, 46, 47, 48, 49, 53, 54, 55, 56, 57] (by decide +kernel) (by decide +kernel)
set_option maxRecDepth 20000 in
theorem gX5_holds_X6_isGoal : GoodIn wsX5_holds (wsV RX5 35 RX6 yX6_isGoal wsX6_isGoal) := goodIn_app (goodIn_of _ (by decide +kernel)) ggX5_holds_X6_isGoal
set_option maxRecDepth 20000 in
theorem ggX5_holds_X0_beside : GoodIn wsX5_holds wsX0_beside := goodIn_r _ [20, 21, 22, 53, 54, 55, 56, 57] (by decide +kernel) (by decide +kernel)
set_option maxRecDepth 20000 in
theorem gX5_holds_X0_beside : GoodIn wsX5_holds (wsV RX5 43 RX0 yX0_beside wsX0_beside) := goodIn_app (goodIn_of _ (by decide +kernel)) ggX5_holds_X0_beside
set_option maxRecDepth 20000 in
theorem ggX5_holds_X5_isBarred : GoodIn wsX5_holds wsX5_isBarred := goodIn_r _ [27, 1, 28, 29, 30, 7, 31, 32, 33, 34, 35, 13, 36, 37, 38, 39, 40, 41, 42, 43, 44, 45, 46, 47, 48, 49, 50, 51, 52] (by decide +kernel) (by decide +kernel)
set_option maxRecDepth 20000 in
theorem gX5_holds_X5_isBarred : GoodIn wsX5_holds (wsV RX5 49 RX5 yX5_isBarred wsX5_isBarred) := goodIn_app (goodIn_of _ (by decide +kernel)) ggX5_holds_X5_isBarred
theorem dX5_holds_0 : decode cX5_holds 0 = .ok (.aload_n 1, 1) := by decide +kernel
theorem dX5_holds_1 : decode cX5_holds 1 = .ok (.aload_n 0, 1) := by decide +kernel
theorem dX5_holds_2 : decode cX5_holds 2 = .ok (.getfield 19, 3) := by decide +kernel
theorem dX5_holds_5 : decode cX5_holds 5 = .ok (.getfield 23, 3) := by decide +kernel
theorem dX5_holds_8 : decode cX5_holds 8 = .ok (.invokevirtual 29, 3) := by decide +kernel
theorem dX5_holds_11 : decode cX5_holds 11 = .ok (.istore_n 3, 1) := by decide +kernel
theorem dX5_holds_12 : decode cX5_holds 12 = .ok (.iload_n 3, 1) := by decide +kernel
theorem dX5_holds_13 : decode cX5_holds 13 = .ok (.ifCond .lt 20, 3) := by decide +kernel
theorem dX5_holds_16 : decode cX5_holds 16 = .ok (.iload_n 3, 1) := by decide +kernel
theorem dX5_holds_17 : decode cX5_holds 17 = .ok (.bipush 81, 2) := by decide +kernel
theorem dX5_holds_19 : decode cX5_holds 19 = .ok (.if_icmp .ge 14, 3) := by decide +kernel
theorem dX5_holds_22 : decode cX5_holds 22 = .ok (.aload_n 0, 1) := by decide +kernel
theorem dX5_holds_23 : decode cX5_holds 23 = .ok (.getfield 19, 3) := by decide +kernel
theorem dX5_holds_26 : decode cX5_holds 26 = .ok (.iload_n 3, 1) := by decide +kernel
theorem dX5_holds_27 : decode cX5_holds 27 = .ok (.invokevirtual 35, 3) := by decide +kernel
theorem dX5_holds_30 : decode cX5_holds 30 = .ok (.ifCond .eq 5, 3) := by decide +kernel
theorem dX5_holds_33 : decode cX5_holds 33 = .ok (.iconst 0, 1) := by decide +kernel
theorem dX5_holds_34 : decode cX5_holds 34 = .ok (.ireturn, 1) := by decide +kernel
theorem dX5_holds_35 : decode cX5_holds 35 = .ok (.iconst 0, 1) := by decide +kernel
theorem dX5_holds_36 : decode cX5_holds 36 = .ok (.istore 4, 2) := by decide +kernel
theorem dX5_holds_38 : decode cX5_holds 38 = .ok (.iload 4, 2) := by decide +kernel
theorem dX5_holds_40 : decode cX5_holds 40 = .ok (.bipush 81, 2) := by decide +kernel
theorem dX5_holds_42 : decode cX5_holds 42 = .ok (.if_icmp .ge 17, 3) := by decide +kernel
theorem dX5_holds_45 : decode cX5_holds 45 = .ok (.aload_n 0, 1) := by decide +kernel
theorem dX5_holds_46 : decode cX5_holds 46 = .ok (.getfield 15, 3) := by decide +kernel
theorem dX5_holds_49 : decode cX5_holds 49 = .ok (.iload 4, 2) := by decide +kernel
theorem dX5_holds_51 : decode cX5_holds 51 = .ok (.iconst 0, 1) := by decide +kernel
theorem dX5_holds_52 : decode cX5_holds 52 = .ok (.bastore, 1) := by decide +kernel
theorem dX5_holds_53 : decode cX5_holds 53 = .ok (.iinc 4 1, 3) := by decide +kernel
theorem dX5_holds_56 : decode cX5_holds 56 = .ok (.goto (-18), 3) := by decide +kernel
theorem dX5_holds_59 : decode cX5_holds 59 = .ok (.aload_n 0, 1) := by decide +kernel
theorem dX5_holds_60 : decode cX5_holds 60 = .ok (.getfield 15, 3) := by decide +kernel
theorem dX5_holds_63 : decode cX5_holds 63 = .ok (.iload_n 3, 1) := by decide +kernel
theorem dX5_holds_64 : decode cX5_holds 64 = .ok (.iconst 1, 1) := by decide +kernel
theorem dX5_holds_65 : decode cX5_holds 65 = .ok (.bastore, 1) := by decide +kernel
theorem dX5_holds_66 : decode cX5_holds 66 = .ok (.aload_n 0, 1) := by decide +kernel
theorem dX5_holds_67 : decode cX5_holds 67 = .ok (.getfield 9, 3) := by decide +kernel
theorem dX5_holds_70 : decode cX5_holds 70 = .ok (.iconst 0, 1) := by decide +kernel
theorem dX5_holds_71 : decode cX5_holds 71 = .ok (.iload_n 3, 1) := by decide +kernel
theorem dX5_holds_72 : decode cX5_holds 72 = .ok (.iastore, 1) := by decide +kernel
theorem dX5_holds_73 : decode cX5_holds 73 = .ok (.iconst 1, 1) := by decide +kernel
theorem dX5_holds_74 : decode cX5_holds 74 = .ok (.istore 4, 2) := by decide +kernel
theorem dX5_holds_76 : decode cX5_holds 76 = .ok (.iconst 0, 1) := by decide +kernel
theorem dX5_holds_77 : decode cX5_holds 77 = .ok (.istore 5, 2) := by decide +kernel
theorem dX5_holds_79 : decode cX5_holds 79 = .ok (.iload 5, 2) := by decide +kernel
theorem dX5_holds_81 : decode cX5_holds 81 = .ok (.iload 4, 2) := by decide +kernel
theorem dX5_holds_83 : decode cX5_holds 83 = .ok (.if_icmp .ge 116, 3) := by decide +kernel
theorem dX5_holds_86 : decode cX5_holds 86 = .ok (.iload 5, 2) := by decide +kernel
theorem dX5_holds_88 : decode cX5_holds 88 = .ok (.bipush 81, 2) := by decide +kernel
theorem dX5_holds_90 : decode cX5_holds 90 = .ok (.if_icmp .ge 109, 3) := by decide +kernel
theorem dX5_holds_93 : decode cX5_holds 93 = .ok (.iconst 0, 1) := by decide +kernel
theorem dX5_holds_94 : decode cX5_holds 94 = .ok (.istore 6, 2) := by decide +kernel
theorem dX5_holds_96 : decode cX5_holds 96 = .ok (.iload 6, 2) := by decide +kernel
theorem dX5_holds_98 : decode cX5_holds 98 = .ok (.iconst 4, 1) := by decide +kernel
theorem dX5_holds_99 : decode cX5_holds 99 = .ok (.if_icmp .ge 94, 3) := by decide +kernel
theorem dX5_holds_102 : decode cX5_holds 102 = .ok (.aload_n 0, 1) := by decide +kernel
theorem dX5_holds_103 : decode cX5_holds 103 = .ok (.getfield 19, 3) := by decide +kernel
theorem dX5_holds_106 : decode cX5_holds 106 = .ok (.getfield 39, 3) := by decide +kernel
theorem dX5_holds_109 : decode cX5_holds 109 = .ok (.aload_n 0, 1) := by decide +kernel
theorem dX5_holds_110 : decode cX5_holds 110 = .ok (.getfield 9, 3) := by decide +kernel
theorem dX5_holds_113 : decode cX5_holds 113 = .ok (.iload 5, 2) := by decide +kernel
theorem dX5_holds_115 : decode cX5_holds 115 = .ok (.iaload, 1) := by decide +kernel
theorem dX5_holds_116 : decode cX5_holds 116 = .ok (.iload 6, 2) := by decide +kernel
theorem dX5_holds_118 : decode cX5_holds 118 = .ok (.invokevirtual 43, 3) := by decide +kernel
theorem dX5_holds_121 : decode cX5_holds 121 = .ok (.istore 7, 2) := by decide +kernel
theorem dX5_holds_123 : decode cX5_holds 123 = .ok (.iload 7, 2) := by decide +kernel
theorem dX5_holds_125 : decode cX5_holds 125 = .ok (.iconst (-1), 1) := by decide +kernel
theorem dX5_holds_126 : decode cX5_holds 126 = .ok (.if_icmp .eq 61, 3) := by decide +kernel
theorem dX5_holds_129 : decode cX5_holds 129 = .ok (.aload_n 0, 1) := by decide +kernel
theorem dX5_holds_130 : decode cX5_holds 130 = .ok (.getfield 15, 3) := by decide +kernel
theorem dX5_holds_133 : decode cX5_holds 133 = .ok (.iload 7, 2) := by decide +kernel
theorem dX5_holds_135 : decode cX5_holds 135 = .ok (.baload, 1) := by decide +kernel
theorem dX5_holds_136 : decode cX5_holds 136 = .ok (.ifCond .ne 51, 3) := by decide +kernel
theorem dX5_holds_139 : decode cX5_holds 139 = .ok (.aload_n 0, 1) := by decide +kernel
theorem dX5_holds_140 : decode cX5_holds 140 = .ok (.aload_n 1, 1) := by decide +kernel
theorem dX5_holds_141 : decode cX5_holds 141 = .ok (.iload 7, 2) := by decide +kernel
theorem dX5_holds_143 : decode cX5_holds 143 = .ok (.iload_n 2, 1) := by decide +kernel
theorem dX5_holds_144 : decode cX5_holds 144 = .ok (.invokevirtual 49, 3) := by decide +kernel
theorem dX5_holds_147 : decode cX5_holds 147 = .ok (.ifCond .eq 6, 3) := by decide +kernel
theorem dX5_holds_150 : decode cX5_holds 150 = .ok (.goto 37, 3) := by decide +kernel
theorem dX5_holds_153 : decode cX5_holds 153 = .ok (.aload_n 0, 1) := by decide +kernel
theorem dX5_holds_154 : decode cX5_holds 154 = .ok (.getfield 19, 3) := by decide +kernel
theorem dX5_holds_157 : decode cX5_holds 157 = .ok (.iload 7, 2) := by decide +kernel
theorem dX5_holds_159 : decode cX5_holds 159 = .ok (.invokevirtual 35, 3) := by decide +kernel
theorem dX5_holds_162 : decode cX5_holds 162 = .ok (.ifCond .eq 5, 3) := by decide +kernel
theorem dX5_holds_165 : decode cX5_holds 165 = .ok (.iconst 0, 1) := by decide +kernel
theorem dX5_holds_166 : decode cX5_holds 166 = .ok (.ireturn, 1) := by decide +kernel
theorem dX5_holds_167 : decode cX5_holds 167 = .ok (.aload_n 0, 1) := by decide +kernel
theorem dX5_holds_168 : decode cX5_holds 168 = .ok (.getfield 15, 3) := by decide +kernel
theorem dX5_holds_171 : decode cX5_holds 171 = .ok (.iload 7, 2) := by decide +kernel
theorem dX5_holds_173 : decode cX5_holds 173 = .ok (.iconst 1, 1) := by decide +kernel
theorem dX5_holds_174 : decode cX5_holds 174 = .ok (.bastore, 1) := by decide +kernel
theorem dX5_holds_175 : decode cX5_holds 175 = .ok (.aload_n 0, 1) := by decide +kernel
theorem dX5_holds_176 : decode cX5_holds 176 = .ok (.getfield 9, 3) := by decide +kernel
theorem dX5_holds_179 : decode cX5_holds 179 = .ok (.iload 4, 2) := by decide +kernel
theorem dX5_holds_181 : decode cX5_holds 181 = .ok (.iload 7, 2) := by decide +kernel
theorem dX5_holds_183 : decode cX5_holds 183 = .ok (.iastore, 1) := by decide +kernel
theorem dX5_holds_184 : decode cX5_holds 184 = .ok (.iinc 4 1, 3) := by decide +kernel
theorem dX5_holds_187 : decode cX5_holds 187 = .ok (.iinc 6 1, 3) := by decide +kernel
theorem dX5_holds_190 : decode cX5_holds 190 = .ok (.goto (-94), 3) := by decide +kernel
theorem dX5_holds_193 : decode cX5_holds 193 = .ok (.iinc 5 1, 3) := by decide +kernel
theorem dX5_holds_196 : decode cX5_holds 196 = .ok (.goto (-117), 3) := by decide +kernel
theorem dX5_holds_199 : decode cX5_holds 199 = .ok (.iconst 1, 1) := by decide +kernel
theorem dX5_holds_200 : decode cX5_holds 200 = .ok (.ireturn, 1) := by decide +kernel
