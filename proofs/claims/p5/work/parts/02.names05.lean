theorem dX11_comesOut_61 : decode cX11_comesOut 61 = .ok (.getfield 54, 3) := by decide +kernel
theorem dX11_comesOut_64 : decode cX11_comesOut 64 = .ok (.iload_n 2, 1) := by decide +kernel
theorem dX11_comesOut_65 : decode cX11_comesOut 65 = .ok (.iaload, 1) := by decide +kernel
theorem dX11_comesOut_66 : decode cX11_comesOut 66 = .ok (.istore 4, 2) := by decide +kernel
theorem dX11_comesOut_68 : decode cX11_comesOut 68 = .ok (.iinc 2 1, 3) := by decide +kernel
theorem dX11_comesOut_71 : decode cX11_comesOut 71 = .ok (.aload_n 0, 1) := by decide +kernel
theorem dX11_comesOut_72 : decode cX11_comesOut 72 = .ok (.iload 4, 2) := by decide +kernel
theorem dX11_comesOut_74 : decode cX11_comesOut 74 = .ok (.invokevirtual 148, 3) := by decide +kernel
theorem dX11_comesOut_77 : decode cX11_comesOut 77 = .ok (.ifCond .eq 5, 3) := by decide +kernel
theorem dX11_comesOut_80 : decode cX11_comesOut 80 = .ok (.iconst 1, 1) := by decide +kernel
theorem dX11_comesOut_81 : decode cX11_comesOut 81 = .ok (.ireturn, 1) := by decide +kernel
theorem dX11_comesOut_82 : decode cX11_comesOut 82 = .ok (.iconst 0, 1) := by decide +kernel
theorem dX11_comesOut_83 : decode cX11_comesOut 83 = .ok (.istore 5, 2) := by decide +kernel
theorem dX11_comesOut_85 : decode cX11_comesOut 85 = .ok (.iload 5, 2) := by decide +kernel
theorem dX11_comesOut_87 : decode cX11_comesOut 87 = .ok (.iconst 4, 1) := by decide +kernel
theorem dX11_comesOut_88 : decode cX11_comesOut 88 = .ok (.if_icmp .ge 80, 3) := by decide +kernel
theorem dX11_comesOut_91 : decode cX11_comesOut 91 = .ok (.aload_n 0, 1) := by decide +kernel
theorem dX11_comesOut_92 : decode cX11_comesOut 92 = .ok (.iload 4, 2) := by decide +kernel
theorem dX11_comesOut_94 : decode cX11_comesOut 94 = .ok (.iload 5, 2) := by decide +kernel
theorem dX11_comesOut_96 : decode cX11_comesOut 96 = .ok (.iconst 1, 1) := by decide +kernel
theorem dX11_comesOut_97 : decode cX11_comesOut 97 = .ok (.invokevirtual 92, 3) := by decide +kernel
theorem dX11_comesOut_100 : decode cX11_comesOut 100 = .ok (.istore 6, 2) := by decide +kernel
theorem dX11_comesOut_102 : decode cX11_comesOut 102 = .ok (.iload 6, 2) := by decide +kernel
theorem dX11_comesOut_104 : decode cX11_comesOut 104 = .ok (.iconst (-1), 1) := by decide +kernel
theorem dX11_comesOut_105 : decode cX11_comesOut 105 = .ok (.if_icmp .eq 57, 3) := by decide +kernel
theorem dX11_comesOut_108 : decode cX11_comesOut 108 = .ok (.aload_n 0, 1) := by decide +kernel
theorem dX11_comesOut_109 : decode cX11_comesOut 109 = .ok (.getfield 51, 3) := by decide +kernel
theorem dX11_comesOut_112 : decode cX11_comesOut 112 = .ok (.iload 6, 2) := by decide +kernel
theorem dX11_comesOut_114 : decode cX11_comesOut 114 = .ok (.baload, 1) := by decide +kernel
theorem dX11_comesOut_115 : decode cX11_comesOut 115 = .ok (.ifCond .ne 47, 3) := by decide +kernel
theorem dX11_comesOut_118 : decode cX11_comesOut 118 = .ok (.aload_n 0, 1) := by decide +kernel
theorem dX11_comesOut_119 : decode cX11_comesOut 119 = .ok (.getfield 33, 3) := by decide +kernel
theorem dX11_comesOut_122 : decode cX11_comesOut 122 = .ok (.iload 6, 2) := by decide +kernel
theorem dX11_comesOut_124 : decode cX11_comesOut 124 = .ok (.iaload, 1) := by decide +kernel
theorem dX11_comesOut_125 : decode cX11_comesOut 125 = .ok (.iconst (-1), 1) := by decide +kernel
theorem dX11_comesOut_126 : decode cX11_comesOut 126 = .ok (.if_icmp .eq 17, 3) := by decide +kernel
theorem dX11_comesOut_129 : decode cX11_comesOut 129 = .ok (.aload_n 0, 1) := by decide +kernel
theorem dX11_comesOut_130 : decode cX11_comesOut 130 = .ok (.getfield 33, 3) := by decide +kernel
theorem dX11_comesOut_133 : decode cX11_comesOut 133 = .ok (.iload 6, 2) := by decide +kernel
theorem dX11_comesOut_135 : decode cX11_comesOut 135 = .ok (.iaload, 1) := by decide +kernel
theorem dX11_comesOut_136 : decode cX11_comesOut 136 = .ok (.iload_n 1, 1) := by decide +kernel
theorem dX11_comesOut_137 : decode cX11_comesOut 137 = .ok (.if_icmp .eq 6, 3) := by decide +kernel
theorem dX11_comesOut_140 : decode cX11_comesOut 140 = .ok (.goto 22, 3) := by decide +kernel
theorem dX11_comesOut_143 : decode cX11_comesOut 143 = .ok (.aload_n 0, 1) := by decide +kernel
theorem dX11_comesOut_144 : decode cX11_comesOut 144 = .ok (.getfield 51, 3) := by decide +kernel
theorem dX11_comesOut_147 : decode cX11_comesOut 147 = .ok (.iload 6, 2) := by decide +kernel
theorem dX11_comesOut_149 : decode cX11_comesOut 149 = .ok (.iconst 1, 1) := by decide +kernel
theorem dX11_comesOut_150 : decode cX11_comesOut 150 = .ok (.bastore, 1) := by decide +kernel
theorem dX11_comesOut_151 : decode cX11_comesOut 151 = .ok (.aload_n 0, 1) := by decide +kernel
theorem dX11_comesOut_152 : decode cX11_comesOut 152 = .ok (.getfield 54, 3) := by decide +kernel
theorem dX11_comesOut_155 : decode cX11_comesOut 155 = .ok (.iload_n 3, 1) := by decide +kernel
theorem dX11_comesOut_156 : decode cX11_comesOut 156 = .ok (.iload 6, 2) := by decide +kernel
theorem dX11_comesOut_158 : decode cX11_comesOut 158 = .ok (.iastore, 1) := by decide +kernel
theorem dX11_comesOut_159 : decode cX11_comesOut 159 = .ok (.iinc 3 1, 3) := by decide +kernel
theorem dX11_comesOut_162 : decode cX11_comesOut 162 = .ok (.iinc 5 1, 3) := by decide +kernel
theorem dX11_comesOut_165 : decode cX11_comesOut 165 = .ok (.goto (-80), 3) := by decide +kernel
theorem dX11_comesOut_168 : decode cX11_comesOut 168 = .ok (.goto (-113), 3) := by decide +kernel
theorem dX11_comesOut_171 : decode cX11_comesOut 171 = .ok (.iconst 0, 1) := by decide +kernel
theorem dX11_comesOut_172 : decode cX11_comesOut 172 = .ok (.ireturn, 1) := by decide +kernel
set_option maxRecDepth 20000 in
theorem ggX11_ring_X11_isGoal : GoodIn wsX11_ring wsX11_isGoal := goodIn_r _ [8, 9, 10, 11, 12, 13, 14, 7, 15, 16, 28, 29, 30, 31, 32, 33, 34, 35, 36, 37, 38, 39, 40, 41, 42, 43, 44, 45, 46, 47, 48, 49, 50, 51, 52, 53, 54, 55, 56] (by decide +kernel) (by decide +kernel)
set_option maxRecDepth 20000 in
theorem gX11_ring_X11_isGoal : GoodIn wsX11_ring (wsV RX11 148 RX11 yX11_isGoal wsX11_isGoal) := goodIn_app (goodIn_of _ (by decide +kernel)) ggX11_ring_X11_isGoal
set_option maxRecDepth 20000 in
theorem ggX11_ring_X11_comesOut : GoodIn wsX11_ring wsX11_comesOut := goodIn_r _ [20, 21, 22, 2, 3, 23, 4, 5, 6, 7, 8, 9, 10, 11, 12, 13, 14, 15, 16, 24, 25, 26, 27, 28, 29, 30, 31, 32, 33, 34, 35, 36, 37, 38, 39, 40, 41, 42, 43, 44, 45, 46, 47, 48, 49, 50, 51, 52, 53, 54, 55, 56] (by decide +kernel) (by decide +kernel)
set_option maxRecDepth 20000 in
theorem gX11_ring_X11_comesOut : GoodIn wsX11_ring (wsV RX11 173 RX11 yX11_comesOut wsX11_comesOut) := goodIn_app (goodIn_of _ (by decide +kernel)) ggX11_ring_X11_comesOut
theorem dX11_ring_0 : decode cX11_ring 0 = .ok (.aload_n 0, 1) := by decide +kernel
theorem dX11_ring_1 : decode cX11_ring 1 = .ok (.getfield 73, 3) := by decide +kernel
theorem dX11_ring_4 : decode cX11_ring 4 = .ok (.ifCond .le 44, 3) := by decide +kernel
theorem dX11_ring_7 : decode cX11_ring 7 = .ok (.aload_n 0, 1) := by decide +kernel
theorem dX11_ring_8 : decode cX11_ring 8 = .ok (.getfield 30, 3) := by decide +kernel
theorem dX11_ring_11 : decode cX11_ring 11 = .ok (.aload_n 0, 1) := by decide +kernel
theorem dX11_ring_12 : decode cX11_ring 12 = .ok (.getfield 135, 3) := by decide +kernel
theorem dX11_ring_15 : decode cX11_ring 15 = .ok (.iaload, 1) := by decide +kernel
theorem dX11_ring_16 : decode cX11_ring 16 = .ok (.iconst (-1), 1) := by decide +kernel
theorem dX11_ring_17 : decode cX11_ring 17 = .ok (.if_icmp .eq 31, 3) := by decide +kernel
theorem dX11_ring_20 : decode cX11_ring 20 = .ok (.aload_n 0, 1) := by decide +kernel
theorem dX11_ring_21 : decode cX11_ring 21 = .ok (.aload_n 0, 1) := by decide +kernel
theorem dX11_ring_22 : decode cX11_ring 22 = .ok (.getfield 30, 3) := by decide +kernel
theorem dX11_ring_25 : decode cX11_ring 25 = .ok (.aload_n 0, 1) := by decide +kernel
theorem dX11_ring_26 : decode cX11_ring 26 = .ok (.getfield 135, 3) := by decide +kernel
theorem dX11_ring_29 : decode cX11_ring 29 = .ok (.iaload, 1) := by decide +kernel
theorem dX11_ring_30 : decode cX11_ring 30 = .ok (.invokevirtual 148, 3) := by decide +kernel
theorem dX11_ring_33 : decode cX11_ring 33 = .ok (.ifCond .ne 15, 3) := by decide +kernel
theorem dX11_ring_36 : decode cX11_ring 36 = .ok (.aload_n 0, 1) := by decide +kernel
theorem dX11_ring_37 : decode cX11_ring 37 = .ok (.iconst (-1), 1) := by decide +kernel
theorem dX11_ring_38 : decode cX11_ring 38 = .ok (.invokevirtual 173, 3) := by decide +kernel
theorem dX11_ring_41 : decode cX11_ring 41 = .ok (.ifCond .ne 7, 3) := by decide +kernel
theorem dX11_ring_44 : decode cX11_ring 44 = .ok (.iconst 1, 1) := by decide +kernel
theorem dX11_ring_45 : decode cX11_ring 45 = .ok (.goto 4, 3) := by decide +kernel
theorem dX11_ring_48 : decode cX11_ring 48 = .ok (.iconst 0, 1) := by decide +kernel
theorem dX11_ring_49 : decode cX11_ring 49 = .ok (.ireturn, 1) := by decide +kernel
set_option maxRecDepth 20000 in
theorem ggX11_needed_X11_ring : GoodIn wsX11_needed wsX11_ring := goodIn_r _ [7, 8, 2, 9, 10, 11, 12, 6, 13, 14, 15, 16, 17, 18, 19, 20, 21, 22, 23, 24, 25, 26, 27, 28, 29, 30, 31, 32, 41, 42, 43, 44, 45, 46, 47, 48, 49, 50, 51, 52, 53, 54, 55, 56, 57, 58, 59, 60, 61, 62, 63, 64, 65, 66, 67, 68, 69] (by decide +kernel) (by decide +kernel)
set_option maxRecDepth 20000 in
theorem gX11_needed_X11_ring : GoodIn wsX11_needed (wsV RX11 176 RX11 yX11_ring wsX11_ring) := goodIn_app (goodIn_of _ (by decide +kernel)) ggX11_needed_X11_ring
set_option maxRecDepth 20000 in
theorem ggX11_needed_X11_isIn : GoodIn wsX11_needed wsX11_isIn := goodIn_r _ [35] (by decide +kernel) (by decide +kernel)
set_option maxRecDepth 20000 in
theorem gX11_needed_X11_isIn : GoodIn wsX11_needed (va_wsS RX11 69 yX11_isIn wsX11_isIn) := goodIn_app (goodIn_of _ (by decide +kernel)) ggX11_needed_X11_isIn
set_option maxRecDepth 20000 in
theorem ggX11_needed_X11_sideOf : GoodIn wsX11_needed wsX11_sideOf := goodIn_r _ [39, 40, 41, 42, 43, 44, 45, 46, 47, 48, 49, 50, 51, 52, 53, 54, 55, 56, 57, 58, 59, 60, 61, 62, 63, 64, 65, 66, 67, 68, 69] (by decide +kernel) (by decide +kernel)
set_option maxRecDepth 20000 in
theorem gX11_needed_X11_sideOf : GoodIn wsX11_needed (wsV RX11 106 RX11 yX11_sideOf wsX11_sideOf) := goodIn_app (goodIn_of _ (by decide +kernel)) ggX11_needed_X11_sideOf
set_option maxRecDepth 20000 in
theorem ggX11_needed_X11_comesOut : GoodIn wsX11_needed wsX11_comesOut := goodIn_r _ [25, 26, 27, 2, 9, 28, 10, 11, 12, 6, 13, 14, 15, 16, 17, 18, 19, 20, 21, 29, 30, 31, 32, 41, 42, 43, 44, 45, 46, 47, 48, 49, 50, 51, 52, 53, 54, 55, 56, 57, 58, 59, 60, 61, 62, 63, 64, 65, 66, 67, 68, 69] (by decide +kernel) (by decide +kernel)
set_option maxRecDepth 20000 in
theorem gX11_needed_X11_comesOut : GoodIn wsX11_needed (wsV RX11 173 RX11 yX11_comesOut wsX11_comesOut) := goodIn_app (goodIn_of _ (by decide +kernel)) ggX11_needed_X11_comesOut
theorem dX11_needed_0 : decode cX11_needed 0 = .ok (.aload_n 0, 1) := by decide +kernel
theorem dX11_needed_1 : decode cX11_needed 1 = .ok (.invokevirtual 176, 3) := by decide +kernel
theorem dX11_needed_4 : decode cX11_needed 4 = .ok (.ifCond .eq 48, 3) := by decide +kernel
theorem dX11_needed_7 : decode cX11_needed 7 = .ok (.iload_n 1, 1) := by decide +kernel
theorem dX11_needed_8 : decode cX11_needed 8 = .ok (.iconst 0, 1) := by decide +kernel
theorem dX11_needed_9 : decode cX11_needed 9 = .ok (.aload_n 0, 1) := by decide +kernel
theorem dX11_needed_10 : decode cX11_needed 10 = .ok (.getfield 103, 3) := by decide +kernel
theorem dX11_needed_13 : decode cX11_needed 13 = .ok (.iconst 1, 1) := by decide +kernel
theorem dX11_needed_14 : decode cX11_needed 14 = .ok (.isub, 1) := by decide +kernel
theorem dX11_needed_15 : decode cX11_needed 15 = .ok (.invokestatic 69, 3) := by decide +kernel
theorem dX11_needed_18 : decode cX11_needed 18 = .ok (.ifCond .eq 34, 3) := by decide +kernel
theorem dX11_needed_21 : decode cX11_needed 21 = .ok (.aload_n 0, 1) := by decide +kernel
theorem dX11_needed_22 : decode cX11_needed 22 = .ok (.iload_n 1, 1) := by decide +kernel
theorem dX11_needed_23 : decode cX11_needed 23 = .ok (.invokevirtual 106, 3) := by decide +kernel
theorem dX11_needed_26 : decode cX11_needed 26 = .ok (.iconst 1, 1) := by decide +kernel
theorem dX11_needed_27 : decode cX11_needed 27 = .ok (.if_icmp .ne 25, 3) := by decide +kernel
theorem dX11_needed_30 : decode cX11_needed 30 = .ok (.aload_n 0, 1) := by decide +kernel
theorem dX11_needed_31 : decode cX11_needed 31 = .ok (.getfield 30, 3) := by decide +kernel
theorem dX11_needed_34 : decode cX11_needed 34 = .ok (.iload_n 1, 1) := by decide +kernel
theorem dX11_needed_35 : decode cX11_needed 35 = .ok (.iaload, 1) := by decide +kernel
theorem dX11_needed_36 : decode cX11_needed 36 = .ok (.iconst (-1), 1) := by decide +kernel
theorem dX11_needed_37 : decode cX11_needed 37 = .ok (.if_icmp .eq 15, 3) := by decide +kernel
theorem dX11_needed_40 : decode cX11_needed 40 = .ok (.aload_n 0, 1) := by decide +kernel
theorem dX11_needed_41 : decode cX11_needed 41 = .ok (.iload_n 1, 1) := by decide +kernel
theorem dX11_needed_42 : decode cX11_needed 42 = .ok (.invokevirtual 173, 3) := by decide +kernel
theorem dX11_needed_45 : decode cX11_needed 45 = .ok (.ifCond .eq 7, 3) := by decide +kernel
theorem dX11_needed_48 : decode cX11_needed 48 = .ok (.iconst 1, 1) := by decide +kernel
theorem dX11_needed_49 : decode cX11_needed 49 = .ok (.goto 4, 3) := by decide +kernel
theorem dX11_needed_52 : decode cX11_needed 52 = .ok (.iconst 0, 1) := by decide +kernel
theorem dX11_needed_53 : decode cX11_needed 53 = .ok (.ireturn, 1) := by decide +kernel
set_option maxRecDepth 20000 in
theorem ggX11_stands_X11_fields : GoodIn wsX11_stands wsX11_fields := goodIn_r _ [8, 9, 10, 11, 12, 13, 14, 15, 16, 17, 18, 19, 20, 21, 22, 23, 24, 25, 26, 27, 28, 29, 30, 31, 32, 33, 34, 35, 36, 37, 38, 39] (by decide +kernel) (by decide +kernel)
set_option maxRecDepth 20000 in
theorem gX11_stands_X11_fields : GoodIn wsX11_stands (wsV RX11 88 RX11 yX11_fields wsX11_fields) := goodIn_app (goodIn_of _ (by decide +kernel)) ggX11_stands_X11_fields
theorem dX11_stands_0 : decode cX11_stands 0 = .ok (.ldc2_w 180, 3) := by decide +kernel
theorem dX11_stands_3 : decode cX11_stands 3 = .ok (.lstore_n 1, 1) := by decide +kernel
theorem dX11_stands_4 : decode cX11_stands 4 = .ok (.iconst 0, 1) := by decide +kernel
theorem dX11_stands_5 : decode cX11_stands 5 = .ok (.istore_n 3, 1) := by decide +kernel
theorem dX11_stands_6 : decode cX11_stands 6 = .ok (.iload_n 3, 1) := by decide +kernel
theorem dX11_stands_7 : decode cX11_stands 7 = .ok (.aload_n 0, 1) := by decide +kernel
theorem dX11_stands_8 : decode cX11_stands 8 = .ok (.getfield 103, 3) := by decide +kernel
theorem dX11_stands_11 : decode cX11_stands 11 = .ok (.if_icmp .ge 27, 3) := by decide +kernel
theorem dX11_stands_14 : decode cX11_stands 14 = .ok (.lload_n 1, 1) := by decide +kernel
theorem dX11_stands_15 : decode cX11_stands 15 = .ok (.ldc2_w 182, 3) := by decide +kernel
theorem dX11_stands_18 : decode cX11_stands 18 = .ok (.lcmp, 1) := by decide +kernel
theorem dX11_stands_19 : decode cX11_stands 19 = .ok (.ifCond .gt 19, 3) := by decide +kernel
theorem dX11_stands_22 : decode cX11_stands 22 = .ok (.lload_n 1, 1) := by decide +kernel
theorem dX11_stands_23 : decode cX11_stands 23 = .ok (.aload_n 0, 1) := by decide +kernel
theorem dX11_stands_24 : decode cX11_stands 24 = .ok (.invokevirtual 88, 3) := by decide +kernel
theorem dX11_stands_27 : decode cX11_stands 27 = .ok (.iconst 1, 1) := by decide +kernel
theorem dX11_stands_28 : decode cX11_stands 28 = .ok (.iadd, 1) := by decide +kernel
theorem dX11_stands_29 : decode cX11_stands 29 = .ok (.i2l, 1) := by decide +kernel
theorem dX11_stands_30 : decode cX11_stands 30 = .ok (.lmul, 1) := by decide +kernel
theorem dX11_stands_31 : decode cX11_stands 31 = .ok (.lstore_n 1, 1) := by decide +kernel
theorem dX11_stands_32 : decode cX11_stands 32 = .ok (.iinc 3 1, 3) := by decide +kernel
theorem dX11_stands_35 : decode cX11_stands 35 = .ok (.goto (-29), 3) := by decide +kernel
theorem dX11_stands_38 : decode cX11_stands 38 = .ok (.lload_n 1, 1) := by decide +kernel
theorem dX11_stands_39 : decode cX11_stands 39 = .ok (.lreturn, 1) := by decide +kernel
set_option maxRecDepth 20000 in
theorem ggX11_setUp_X11_fields : GoodIn wsX11_setUp wsX11_fields := goodIn_r _ [9, 10, 11, 18, 19, 20, 21, 22, 23, 24, 25, 26, 27, 28, 29, 30, 31, 32, 33, 34, 35, 36, 37, 38, 39, 40, 41, 42, 43, 44, 45, 46] (by decide +kernel) (by decide +kernel)
set_option maxRecDepth 20000 in
theorem gX11_setUp_X11_fields : GoodIn wsX11_setUp (wsV RX11 88 RX11 yX11_fields wsX11_fields) := goodIn_app (goodIn_of _ (by decide +kernel)) ggX11_setUp_X11_fields
set_option maxRecDepth 20000 in
theorem ggX11_setUp_X11_bears : GoodIn wsX11_setUp wsX11_bears := goodIn_r _ [15, 16, 17, 18, 19, 20, 21, 22, 23, 24, 25, 26, 27, 28, 29, 30, 31, 32, 33, 34, 35, 36, 37, 38, 39, 40, 41, 42, 43, 44, 45, 46] (by decide +kernel) (by decide +kernel)
set_option maxRecDepth 20000 in
theorem gX11_setUp_X11_bears : GoodIn wsX11_setUp (wsV RX11 96 RX11 yX11_bears wsX11_bears) := goodIn_app (goodIn_of _ (by decide +kernel)) ggX11_setUp_X11_bears
theorem dX11_setUp_0 : decode cX11_setUp 0 = .ok (.iload_n 1, 1) := by decide +kernel
theorem dX11_setUp_1 : decode cX11_setUp 1 = .ok (.iconst 2, 1) := by decide +kernel
theorem dX11_setUp_2 : decode cX11_setUp 2 = .ok (.idiv, 1) := by decide +kernel
theorem dX11_setUp_3 : decode cX11_setUp 3 = .ok (.istore_n 2, 1) := by decide +kernel
theorem dX11_setUp_4 : decode cX11_setUp 4 = .ok (.iconst 1, 1) := by decide +kernel
theorem dX11_setUp_5 : decode cX11_setUp 5 = .ok (.istore_n 3, 1) := by decide +kernel
theorem dX11_setUp_6 : decode cX11_setUp 6 = .ok (.aload_n 0, 1) := by decide +kernel
theorem dX11_setUp_7 : decode cX11_setUp 7 = .ok (.iload_n 1, 1) := by decide +kernel
theorem dX11_setUp_8 : decode cX11_setUp 8 = .ok (.iconst 2, 1) := by decide +kernel
theorem dX11_setUp_9 : decode cX11_setUp 9 = .ok (.irem, 1) := by decide +kernel
theorem dX11_setUp_10 : decode cX11_setUp 10 = .ok (.putfield 126, 3) := by decide +kernel
theorem dX11_setUp_13 : decode cX11_setUp 13 = .ok (.iconst 0, 1) := by decide +kernel
theorem dX11_setUp_14 : decode cX11_setUp 14 = .ok (.istore 4, 2) := by decide +kernel
theorem dX11_setUp_16 : decode cX11_setUp 16 = .ok (.iload 4, 2) := by decide +kernel
theorem dX11_setUp_18 : decode cX11_setUp 18 = .ok (.aload_n 0, 1) := by decide +kernel
theorem dX11_setUp_19 : decode cX11_setUp 19 = .ok (.invokevirtual 88, 3) := by decide +kernel
theorem dX11_setUp_22 : decode cX11_setUp 22 = .ok (.if_icmp .ge 17, 3) := by decide +kernel
theorem dX11_setUp_25 : decode cX11_setUp 25 = .ok (.aload_n 0, 1) := by decide +kernel
theorem dX11_setUp_26 : decode cX11_setUp 26 = .ok (.getfield 33, 3) := by decide +kernel
theorem dX11_setUp_29 : decode cX11_setUp 29 = .ok (.iload 4, 2) := by decide +kernel
theorem dX11_setUp_31 : decode cX11_setUp 31 = .ok (.iconst (-1), 1) := by decide +kernel
theorem dX11_setUp_32 : decode cX11_setUp 32 = .ok (.iastore, 1) := by decide +kernel
theorem dX11_setUp_33 : decode cX11_setUp 33 = .ok (.iinc 4 1, 3) := by decide +kernel
theorem dX11_setUp_36 : decode cX11_setUp 36 = .ok (.goto (-20), 3) := by decide +kernel
theorem dX11_setUp_39 : decode cX11_setUp 39 = .ok (.iconst 0, 1) := by decide +kernel
theorem dX11_setUp_40 : decode cX11_setUp 40 = .ok (.istore 4, 2) := by decide +kernel
theorem dX11_setUp_42 : decode cX11_setUp 42 = .ok (.iload 4, 2) := by decide +kernel
theorem dX11_setUp_44 : decode cX11_setUp 44 = .ok (.aload_n 0, 1) := by decide +kernel
theorem dX11_setUp_45 : decode cX11_setUp 45 = .ok (.getfield 103, 3) := by decide +kernel
theorem dX11_setUp_48 : decode cX11_setUp 48 = .ok (.if_icmp .ge 105, 3) := by decide +kernel
theorem dX11_setUp_51 : decode cX11_setUp 51 = .ok (.iload_n 2, 1) := by decide +kernel
theorem dX11_setUp_52 : decode cX11_setUp 52 = .ok (.aload_n 0, 1) := by decide +kernel
theorem dX11_setUp_53 : decode cX11_setUp 53 = .ok (.invokevirtual 88, 3) := by decide +kernel
theorem dX11_setUp_56 : decode cX11_setUp 56 = .ok (.iconst 1, 1) := by decide +kernel
theorem dX11_setUp_57 : decode cX11_setUp 57 = .ok (.iadd, 1) := by decide +kernel
theorem dX11_setUp_58 : decode cX11_setUp 58 = .ok (.irem, 1) := by decide +kernel
theorem dX11_setUp_59 : decode cX11_setUp 59 = .ok (.istore 5, 2) := by decide +kernel
theorem dX11_setUp_61 : decode cX11_setUp 61 = .ok (.iload_n 2, 1) := by decide +kernel
theorem dX11_setUp_62 : decode cX11_setUp 62 = .ok (.aload_n 0, 1) := by decide +kernel
theorem dX11_setUp_63 : decode cX11_setUp 63 = .ok (.invokevirtual 88, 3) := by decide +kernel
theorem dX11_setUp_66 : decode cX11_setUp 66 = .ok (.iconst 1, 1) := by decide +kernel
theorem dX11_setUp_67 : decode cX11_setUp 67 = .ok (.iadd, 1) := by decide +kernel
theorem dX11_setUp_68 : decode cX11_setUp 68 = .ok (.idiv, 1) := by decide +kernel
theorem dX11_setUp_69 : decode cX11_setUp 69 = .ok (.istore_n 2, 1) := by decide +kernel
theorem dX11_setUp_70 : decode cX11_setUp 70 = .ok (.aload_n 0, 1) := by decide +kernel
theorem dX11_setUp_71 : decode cX11_setUp 71 = .ok (.getfield 30, 3) := by decide +kernel
theorem dX11_setUp_74 : decode cX11_setUp 74 = .ok (.iload 4, 2) := by decide +kernel
theorem dX11_setUp_76 : decode cX11_setUp 76 = .ok (.iload 5, 2) := by decide +kernel
theorem dX11_setUp_78 : decode cX11_setUp 78 = .ok (.aload_n 0, 1) := by decide +kernel
theorem dX11_setUp_79 : decode cX11_setUp 79 = .ok (.invokevirtual 88, 3) := by decide +kernel
theorem dX11_setUp_82 : decode cX11_setUp 82 = .ok (.if_icmp .ne 7, 3) := by decide +kernel
theorem dX11_setUp_85 : decode cX11_setUp 85 = .ok (.iconst (-1), 1) := by decide +kernel
theorem dX11_setUp_86 : decode cX11_setUp 86 = .ok (.goto 5, 3) := by decide +kernel
theorem dX11_setUp_89 : decode cX11_setUp 89 = .ok (.iload 5, 2) := by decide +kernel
theorem dX11_setUp_91 : decode cX11_setUp 91 = .ok (.iastore, 1) := by decide +kernel
theorem dX11_setUp_92 : decode cX11_setUp 92 = .ok (.aload_n 0, 1) := by decide +kernel
theorem dX11_setUp_93 : decode cX11_setUp 93 = .ok (.getfield 30, 3) := by decide +kernel
theorem dX11_setUp_96 : decode cX11_setUp 96 = .ok (.iload 4, 2) := by decide +kernel
theorem dX11_setUp_98 : decode cX11_setUp 98 = .ok (.iaload, 1) := by decide +kernel
theorem dX11_setUp_99 : decode cX11_setUp 99 = .ok (.iconst (-1), 1) := by decide +kernel
theorem dX11_setUp_100 : decode cX11_setUp 100 = .ok (.if_icmp .ne 6, 3) := by decide +kernel
theorem dX11_setUp_103 : decode cX11_setUp 103 = .ok (.goto 44, 3) := by decide +kernel
theorem dX11_setUp_106 : decode cX11_setUp 106 = .ok (.iload_n 3, 1) := by decide +kernel
theorem dX11_setUp_107 : decode cX11_setUp 107 = .ok (.ifCond .eq 29, 3) := by decide +kernel
theorem dX11_setUp_110 : decode cX11_setUp 110 = .ok (.aload_n 0, 1) := by decide +kernel
theorem dX11_setUp_111 : decode cX11_setUp 111 = .ok (.getfield 33, 3) := by decide +kernel
theorem dX11_setUp_114 : decode cX11_setUp 114 = .ok (.iload 5, 2) := by decide +kernel
theorem dX11_setUp_116 : decode cX11_setUp 116 = .ok (.iaload, 1) := by decide +kernel
theorem dX11_setUp_117 : decode cX11_setUp 117 = .ok (.iconst (-1), 1) := by decide +kernel
theorem dX11_setUp_118 : decode cX11_setUp 118 = .ok (.if_icmp .ne 18, 3) := by decide +kernel
theorem dX11_setUp_121 : decode cX11_setUp 121 = .ok (.aload_n 0, 1) := by decide +kernel
theorem dX11_setUp_122 : decode cX11_setUp 122 = .ok (.iload 5, 2) := by decide +kernel
theorem dX11_setUp_124 : decode cX11_setUp 124 = .ok (.iload 4, 2) := by decide +kernel
theorem dX11_setUp_126 : decode cX11_setUp 126 = .ok (.invokevirtual 96, 3) := by decide +kernel
theorem dX11_setUp_129 : decode cX11_setUp 129 = .ok (.ifCond .eq 7, 3) := by decide +kernel
theorem dX11_setUp_132 : decode cX11_setUp 132 = .ok (.iconst 1, 1) := by decide +kernel
theorem dX11_setUp_133 : decode cX11_setUp 133 = .ok (.goto 4, 3) := by decide +kernel
theorem dX11_setUp_136 : decode cX11_setUp 136 = .ok (.iconst 0, 1) := by decide +kernel
theorem dX11_setUp_137 : decode cX11_setUp 137 = .ok (.istore_n 3, 1) := by decide +kernel
theorem dX11_setUp_138 : decode cX11_setUp 138 = .ok (.aload_n 0, 1) := by decide +kernel
theorem dX11_setUp_139 : decode cX11_setUp 139 = .ok (.getfield 33, 3) := by decide +kernel
theorem dX11_setUp_142 : decode cX11_setUp 142 = .ok (.iload 5, 2) := by decide +kernel
theorem dX11_setUp_144 : decode cX11_setUp 144 = .ok (.iload 4, 2) := by decide +kernel
theorem dX11_setUp_146 : decode cX11_setUp 146 = .ok (.iastore, 1) := by decide +kernel
theorem dX11_setUp_147 : decode cX11_setUp 147 = .ok (.iinc 4 1, 3) := by decide +kernel
theorem dX11_setUp_150 : decode cX11_setUp 150 = .ok (.goto (-108), 3) := by decide +kernel
theorem dX11_setUp_153 : decode cX11_setUp 153 = .ok (.iload_n 3, 1) := by decide +kernel
theorem dX11_setUp_154 : decode cX11_setUp 154 = .ok (.ireturn, 1) := by decide +kernel
set_option maxRecDepth 20000 in
theorem ggX11_number_X11_fields : GoodIn wsX11_number wsX11_fields := goodIn_r _ [8, 9, 10, 11, 12, 13, 14, 15, 16, 17, 18, 19, 20, 21, 22, 23, 24, 25, 26, 27, 28, 29, 30, 31, 32, 33, 34, 35, 36, 37, 38, 39] (by decide +kernel) (by decide +kernel)
set_option maxRecDepth 20000 in
theorem gX11_number_X11_fields : GoodIn wsX11_number (wsV RX11 88 RX11 yX11_fields wsX11_fields) := goodIn_app (goodIn_of _ (by decide +kernel)) ggX11_number_X11_fields
theorem dX11_number_0 : decode cX11_number 0 = .ok (.iconst 0, 1) := by decide +kernel
theorem dX11_number_1 : decode cX11_number 1 = .ok (.istore_n 1, 1) := by decide +kernel
theorem dX11_number_2 : decode cX11_number 2 = .ok (.aload_n 0, 1) := by decide +kernel
theorem dX11_number_3 : decode cX11_number 3 = .ok (.getfield 103, 3) := by decide +kernel
theorem dX11_number_6 : decode cX11_number 6 = .ok (.iconst 1, 1) := by decide +kernel
theorem dX11_number_7 : decode cX11_number 7 = .ok (.isub, 1) := by decide +kernel
theorem dX11_number_8 : decode cX11_number 8 = .ok (.istore_n 2, 1) := by decide +kernel
theorem dX11_number_9 : decode cX11_number 9 = .ok (.iload_n 2, 1) := by decide +kernel
theorem dX11_number_10 : decode cX11_number 10 = .ok (.ifCond .lt 42, 3) := by decide +kernel
theorem dX11_number_13 : decode cX11_number 13 = .ok (.iload_n 1, 1) := by decide +kernel
theorem dX11_number_14 : decode cX11_number 14 = .ok (.aload_n 0, 1) := by decide +kernel
theorem dX11_number_15 : decode cX11_number 15 = .ok (.invokevirtual 88, 3) := by decide +kernel
theorem dX11_number_18 : decode cX11_number 18 = .ok (.iconst 1, 1) := by decide +kernel
theorem dX11_number_19 : decode cX11_number 19 = .ok (.iadd, 1) := by decide +kernel
theorem dX11_number_20 : decode cX11_number 20 = .ok (.imul, 1) := by decide +kernel
theorem dX11_number_21 : decode cX11_number 21 = .ok (.aload_n 0, 1) := by decide +kernel
theorem dX11_number_22 : decode cX11_number 22 = .ok (.getfield 30, 3) := by decide +kernel
theorem dX11_number_25 : decode cX11_number 25 = .ok (.iload_n 2, 1) := by decide +kernel
theorem dX11_number_26 : decode cX11_number 26 = .ok (.iaload, 1) := by decide +kernel
theorem dX11_number_27 : decode cX11_number 27 = .ok (.iconst (-1), 1) := by decide +kernel
theorem dX11_number_28 : decode cX11_number 28 = .ok (.if_icmp .ne 10, 3) := by decide +kernel
theorem dX11_number_31 : decode cX11_number 31 = .ok (.aload_n 0, 1) := by decide +kernel
theorem dX11_number_32 : decode cX11_number 32 = .ok (.invokevirtual 88, 3) := by decide +kernel
theorem dX11_number_35 : decode cX11_number 35 = .ok (.goto 9, 3) := by decide +kernel
theorem dX11_number_38 : decode cX11_number 38 = .ok (.aload_n 0, 1) := by decide +kernel
theorem dX11_number_39 : decode cX11_number 39 = .ok (.getfield 30, 3) := by decide +kernel
theorem dX11_number_42 : decode cX11_number 42 = .ok (.iload_n 2, 1) := by decide +kernel
theorem dX11_number_43 : decode cX11_number 43 = .ok (.iaload, 1) := by decide +kernel
theorem dX11_number_44 : decode cX11_number 44 = .ok (.iadd, 1) := by decide +kernel
theorem dX11_number_45 : decode cX11_number 45 = .ok (.istore_n 1, 1) := by decide +kernel
theorem dX11_number_46 : decode cX11_number 46 = .ok (.iinc 2 (-1), 3) := by decide +kernel
theorem dX11_number_49 : decode cX11_number 49 = .ok (.goto (-40), 3) := by decide +kernel
theorem dX11_number_52 : decode cX11_number 52 = .ok (.iconst 2, 1) := by decide +kernel
theorem dX11_number_53 : decode cX11_number 53 = .ok (.iload_n 1, 1) := by decide +kernel
theorem dX11_number_54 : decode cX11_number 54 = .ok (.imul, 1) := by decide +kernel
theorem dX11_number_55 : decode cX11_number 55 = .ok (.aload_n 0, 1) := by decide +kernel
theorem dX11_number_56 : decode cX11_number 56 = .ok (.getfield 126, 3) := by decide +kernel
theorem dX11_number_59 : decode cX11_number 59 = .ok (.iadd, 1) := by decide +kernel
theorem dX11_number_60 : decode cX11_number 60 = .ok (.ireturn, 1) := by decide +kernel
set_option maxRecDepth 20000 in
theorem ggX11_endOf_X11_isGoal : GoodIn wsX11_endOf wsX11_isGoal := goodIn_r _ [8, 9, 10, 11, 12, 13, 14, 7, 15, 16, 45, 46, 47, 48, 49, 50, 51, 52, 53, 54, 55, 56, 57, 58, 59, 60, 61, 62, 63, 64, 65, 66, 67, 68, 69, 70, 71, 72, 73] (by decide +kernel) (by decide +kernel)
set_option maxRecDepth 20000 in
theorem gX11_endOf_X11_isGoal : GoodIn wsX11_endOf (wsV RX11 148 RX11 yX11_isGoal wsX11_isGoal) := goodIn_app (goodIn_of _ (by decide +kernel)) ggX11_endOf_X11_isGoal
set_option maxRecDepth 20000 in
theorem ggX11_endOf_X11_canGo : GoodIn wsX11_endOf wsX11_canGo := goodIn_r _ [20, 21, 22, 23, 24, 7, 25, 26, 27, 28, 29, 30, 1, 31, 32, 33, 34, 35, 36, 37, 38, 39, 40, 11, 16, 41, 42, 43, 44, 10, 45, 46, 47, 48, 49, 50, 51, 52, 53, 54, 55, 56, 57, 58, 59, 60, 61, 62, 63, 64, 65, 66, 67, 68, 69, 70, 71, 72, 73] (by decide +kernel) (by decide +kernel)
set_option maxRecDepth 20000 in
theorem gX11_endOf_X11_canGo : GoodIn wsX11_endOf (wsV RX11 151 RX11 yX11_canGo wsX11_canGo) := goodIn_app (goodIn_of _ (by decide +kernel)) ggX11_endOf_X11_canGo
theorem dX11_endOf_0 : decode cX11_endOf 0 = .ok (.aload_n 0, 1) := by decide +kernel
theorem dX11_endOf_1 : decode cX11_endOf 1 = .ok (.getfield 30, 3) := by decide +kernel
theorem dX11_endOf_4 : decode cX11_endOf 4 = .ok (.aload_n 0, 1) := by decide +kernel
theorem dX11_endOf_5 : decode cX11_endOf 5 = .ok (.getfield 135, 3) := by decide +kernel
theorem dX11_endOf_8 : decode cX11_endOf 8 = .ok (.iaload, 1) := by decide +kernel
theorem dX11_endOf_9 : decode cX11_endOf 9 = .ok (.iconst (-1), 1) := by decide +kernel
theorem dX11_endOf_10 : decode cX11_endOf 10 = .ok (.if_icmp .ne 7, 3) := by decide +kernel
theorem dX11_endOf_13 : decode cX11_endOf 13 = .ok (.iconst 1, 1) := by decide +kernel
theorem dX11_endOf_14 : decode cX11_endOf 14 = .ok (.goto 44, 3) := by decide +kernel
theorem dX11_endOf_17 : decode cX11_endOf 17 = .ok (.aload_n 0, 1) := by decide +kernel
theorem dX11_endOf_18 : decode cX11_endOf 18 = .ok (.aload_n 0, 1) := by decide +kernel
theorem dX11_endOf_19 : decode cX11_endOf 19 = .ok (.getfield 30, 3) := by decide +kernel
theorem dX11_endOf_22 : decode cX11_endOf 22 = .ok (.aload_n 0, 1) := by decide +kernel
theorem dX11_endOf_23 : decode cX11_endOf 23 = .ok (.getfield 135, 3) := by decide +kernel
theorem dX11_endOf_26 : decode cX11_endOf 26 = .ok (.iaload, 1) := by decide +kernel
theorem dX11_endOf_27 : decode cX11_endOf 27 = .ok (.invokevirtual 148, 3) := by decide +kernel
theorem dX11_endOf_30 : decode cX11_endOf 30 = .ok (.ifCond .eq 7, 3) := by decide +kernel
theorem dX11_endOf_33 : decode cX11_endOf 33 = .ok (.iconst 0, 1) := by decide +kernel
theorem dX11_endOf_34 : decode cX11_endOf 34 = .ok (.goto 24, 3) := by decide +kernel
theorem dX11_endOf_37 : decode cX11_endOf 37 = .ok (.aload_n 0, 1) := by decide +kernel
theorem dX11_endOf_38 : decode cX11_endOf 38 = .ok (.aload_n 0, 1) := by decide +kernel
theorem dX11_endOf_39 : decode cX11_endOf 39 = .ok (.getfield 126, 3) := by decide +kernel
theorem dX11_endOf_42 : decode cX11_endOf 42 = .ok (.invokevirtual 151, 3) := by decide +kernel
theorem dX11_endOf_45 : decode cX11_endOf 45 = .ok (.ifCond .eq 7, 3) := by decide +kernel
theorem dX11_endOf_48 : decode cX11_endOf 48 = .ok (.iconst 3, 1) := by decide +kernel
theorem dX11_endOf_49 : decode cX11_endOf 49 = .ok (.goto 9, 3) := by decide +kernel
theorem dX11_endOf_52 : decode cX11_endOf 52 = .ok (.iconst 1, 1) := by decide +kernel
theorem dX11_endOf_53 : decode cX11_endOf 53 = .ok (.aload_n 0, 1) := by decide +kernel
theorem dX11_endOf_54 : decode cX11_endOf 54 = .ok (.getfield 126, 3) := by decide +kernel
theorem dX11_endOf_57 : decode cX11_endOf 57 = .ok (.isub, 1) := by decide +kernel
theorem dX11_endOf_58 : decode cX11_endOf 58 = .ok (.ireturn, 1) := by decide +kernel
set_option maxRecDepth 20000 in
theorem ggX11_solve_X11_stands : GoodIn wsX11_solve wsX11_stands := goodIn_r _ [12, 13, 14, 2, 15, 16, 17, 11, 18, 19, 20, 106, 107, 108, 109, 110, 111, 112, 113, 114, 115, 116, 117, 118, 119, 120, 121, 122, 123, 124, 125, 126, 127, 128, 129, 130, 131, 132, 133, 134] (by decide +kernel) (by decide +kernel)
set_option maxRecDepth 20000 in
theorem gX11_solve_X11_stands : GoodIn wsX11_solve (wsV RX11 184 RX11 yX11_stands wsX11_stands) := goodIn_app (goodIn_of _ (by decide +kernel)) ggX11_solve_X11_stands
set_option maxRecDepth 20000 in
theorem ggX11_solve_X11_setUp : GoodIn wsX11_solve wsX11_setUp := goodIn_r _ [24, 25, 26, 14, 27, 15, 16, 17, 11, 18, 19, 20, 28, 29, 30, 31, 32, 33, 106, 107, 108, 109, 110, 111, 112, 113, 114, 115, 116, 117, 118, 119, 120, 121, 122, 123, 124, 125, 126, 127, 128, 129, 130, 131, 132, 133, 134] (by decide +kernel) (by decide +kernel)
set_option maxRecDepth 20000 in
theorem gX11_solve_X11_setUp : GoodIn wsX11_solve (wsV RX11 188 RX11 yX11_setUp wsX11_setUp) := goodIn_app (goodIn_of _ (by decide +kernel)) ggX11_solve_X11_setUp
set_option maxRecDepth 20000 in
theorem ggX11_solve_X11_endOf : GoodIn wsX11_solve wsX11_endOf := goodIn_r _ [37, 27, 38, 25, 39, 40, 41, 11, 42, 43, 32, 20, 15, 16, 17, 18, 19, 44, 45, 46, 47, 14, 48, 49, 50, 51, 33, 52, 53, 54, 55, 56, 57, 58, 59, 60, 26, 61, 62, 63, 64, 28, 29, 30, 31, 106, 107, 108, 109, 110, 111, 112, 113, 114, 115, 116, 117, 118, 119, 120, 121, 122, 123, 124, 125, 126, 127, 128, 129, 130, 131, 132, 133, 134] (by decide +kernel) (by decide +kernel)
set_option maxRecDepth 20000 in
theorem gX11_solve_X11_endOf : GoodIn wsX11_solve (wsV RX11 191 RX11 yX11_endOf wsX11_endOf) := goodIn_app (goodIn_of _ (by decide +kernel)) ggX11_solve_X11_endOf
set_option maxRecDepth 20000 in
theorem ggX11_solve_X11_tried : GoodIn wsX11_solve wsX11_tried := goodIn_r _ [68, 14, 27, 3, 21, 22, 23, 11, 24, 25, 26, 15, 16, 17, 18, 19, 20, 28, 29, 30, 31, 32, 33, 48, 49, 50, 51, 56, 57, 58, 59, 60, 61, 62, 63, 64, 69, 70, 71, 72, 73, 74, 75, 76, 77, 78, 79, 80, 81, 82, 83, 84, 85, 86, 87, 88, 89, 90, 91, 92, 106, 107, 108, 109, 110, 111, 112, 113, 114, 115, 116, 117, 118, 119, 120, 121, 122, 123, 124, 125, 126, 127, 128, 129, 130, 131, 132, 133, 134] (by decide +kernel) (by decide +kernel)
set_option maxRecDepth 20000 in
theorem gX11_solve_X11_tried : GoodIn wsX11_solve (wsV RX11 194 RX11 yX11_tried wsX11_tried) := goodIn_app (goodIn_of _ (by decide +kernel)) ggX11_solve_X11_tried
set_option maxRecDepth 20000 in
theorem ggX11_solve_X11_read : GoodIn wsX11_solve wsX11_read := goodIn_r _ [96, 26, 14, 27, 97, 25, 98, 99, 100, 11, 101, 106, 107, 108, 109, 110, 111, 112, 113, 114, 115, 116, 117, 118, 119, 120, 121, 122, 123, 124, 125, 126, 127, 128, 129, 130, 131, 132, 133, 134] (by decide +kernel) (by decide +kernel)
set_option maxRecDepth 20000 in
theorem gX11_solve_X11_read : GoodIn wsX11_solve (wsV RX11 161 RX11 yX11_read wsX11_read) := goodIn_app (goodIn_of _ (by decide +kernel)) ggX11_solve_X11_read
set_option maxRecDepth 20000 in
theorem ggX11_solve_X11_lookAgain : GoodIn wsX11_solve wsX11_lookAgain := goodIn_r _ [105, 6, 74, 14, 73, 97, 98, 99, 100, 11, 101, 106, 107, 108, 109, 110, 111, 112, 113, 114, 115, 116, 117, 118, 119, 120, 121, 122, 123, 124, 125, 126, 127, 128, 129, 130, 131, 132, 133, 134] (by decide +kernel) (by decide +kernel)
set_option maxRecDepth 20000 in
theorem gX11_solve_X11_lookAgain : GoodIn wsX11_solve (wsV RX11 164 RX11 yX11_lookAgain wsX11_lookAgain) := goodIn_app (goodIn_of _ (by decide +kernel)) ggX11_solve_X11_lookAgain
theorem dX11_solve_0 : decode cX11_solve 0 = .ok (.aload_n 0, 1) := by decide +kernel
theorem dX11_solve_1 : decode cX11_solve 1 = .ok (.getfield 73, 3) := by decide +kernel
theorem dX11_solve_4 : decode cX11_solve 4 = .ok (.ifCond .eq 14, 3) := by decide +kernel
theorem dX11_solve_7 : decode cX11_solve 7 = .ok (.aload_n 0, 1) := by decide +kernel
theorem dX11_solve_8 : decode cX11_solve 8 = .ok (.invokevirtual 184, 3) := by decide +kernel
theorem dX11_solve_11 : decode cX11_solve 11 = .ok (.ldc2_w 182, 3) := by decide +kernel
theorem dX11_solve_14 : decode cX11_solve 14 = .ok (.lcmp, 1) := by decide +kernel
theorem dX11_solve_15 : decode cX11_solve 15 = .ok (.ifCond .le 5, 3) := by decide +kernel
theorem dX11_solve_18 : decode cX11_solve 18 = .ok (.iconst (-1), 1) := by decide +kernel
theorem dX11_solve_19 : decode cX11_solve 19 = .ok (.ireturn, 1) := by decide +kernel
theorem dX11_solve_20 : decode cX11_solve 20 = .ok (.aload_n 0, 1) := by decide +kernel
theorem dX11_solve_21 : decode cX11_solve 21 = .ok (.invokevirtual 184, 3) := by decide +kernel
theorem dX11_solve_24 : decode cX11_solve 24 = .ok (.l2i, 1) := by decide +kernel
theorem dX11_solve_25 : decode cX11_solve 25 = .ok (.istore_n 1, 1) := by decide +kernel
theorem dX11_solve_26 : decode cX11_solve 26 = .ok (.iconst 0, 1) := by decide +kernel
theorem dX11_solve_27 : decode cX11_solve 27 = .ok (.istore_n 2, 1) := by decide +kernel
theorem dX11_solve_28 : decode cX11_solve 28 = .ok (.iconst 0, 1) := by decide +kernel
theorem dX11_solve_29 : decode cX11_solve 29 = .ok (.istore_n 3, 1) := by decide +kernel
theorem dX11_solve_30 : decode cX11_solve 30 = .ok (.iload_n 3, 1) := by decide +kernel
theorem dX11_solve_31 : decode cX11_solve 31 = .ok (.iload_n 1, 1) := by decide +kernel
theorem dX11_solve_32 : decode cX11_solve 32 = .ok (.if_icmp .ge 50, 3) := by decide +kernel
theorem dX11_solve_35 : decode cX11_solve 35 = .ok (.aload_n 0, 1) := by decide +kernel
theorem dX11_solve_36 : decode cX11_solve 36 = .ok (.iload_n 3, 1) := by decide +kernel
theorem dX11_solve_37 : decode cX11_solve 37 = .ok (.invokevirtual 188, 3) := by decide +kernel
theorem dX11_solve_40 : decode cX11_solve 40 = .ok (.istore 4, 2) := by decide +kernel
theorem dX11_solve_42 : decode cX11_solve 42 = .ok (.aload_n 0, 1) := by decide +kernel
theorem dX11_solve_43 : decode cX11_solve 43 = .ok (.getfield 57, 3) := by decide +kernel
theorem dX11_solve_46 : decode cX11_solve 46 = .ok (.iload_n 3, 1) := by decide +kernel
theorem dX11_solve_47 : decode cX11_solve 47 = .ok (.iload 4, 2) := by decide +kernel
theorem dX11_solve_49 : decode cX11_solve 49 = .ok (.ifCond .eq 10, 3) := by decide +kernel
theorem dX11_solve_52 : decode cX11_solve 52 = .ok (.aload_n 0, 1) := by decide +kernel
theorem dX11_solve_53 : decode cX11_solve 53 = .ok (.invokevirtual 191, 3) := by decide +kernel
theorem dX11_solve_56 : decode cX11_solve 56 = .ok (.goto 4, 3) := by decide +kernel
theorem dX11_solve_59 : decode cX11_solve 59 = .ok (.iconst 4, 1) := by decide +kernel
theorem dX11_solve_60 : decode cX11_solve 60 = .ok (.iastore, 1) := by decide +kernel
theorem dX11_solve_61 : decode cX11_solve 61 = .ok (.aload_n 0, 1) := by decide +kernel
theorem dX11_solve_62 : decode cX11_solve 62 = .ok (.getfield 60, 3) := by decide +kernel
theorem dX11_solve_65 : decode cX11_solve 65 = .ok (.iload_n 3, 1) := by decide +kernel
theorem dX11_solve_66 : decode cX11_solve 66 = .ok (.iconst 0, 1) := by decide +kernel
theorem dX11_solve_67 : decode cX11_solve 67 = .ok (.iastore, 1) := by decide +kernel
theorem dX11_solve_68 : decode cX11_solve 68 = .ok (.iload 4, 2) := by decide +kernel
theorem dX11_solve_70 : decode cX11_solve 70 = .ok (.ifCond .eq 6, 3) := by decide +kernel
theorem dX11_solve_73 : decode cX11_solve 73 = .ok (.iinc 2 1, 3) := by decide +kernel
theorem dX11_solve_76 : decode cX11_solve 76 = .ok (.iinc 3 1, 3) := by decide +kernel
theorem dX11_solve_79 : decode cX11_solve 79 = .ok (.goto (-49), 3) := by decide +kernel
theorem dX11_solve_82 : decode cX11_solve 82 = .ok (.iconst 1, 1) := by decide +kernel
theorem dX11_solve_83 : decode cX11_solve 83 = .ok (.istore_n 3, 1) := by decide +kernel
theorem dX11_solve_84 : decode cX11_solve 84 = .ok (.iconst 1, 1) := by decide +kernel
theorem dX11_solve_85 : decode cX11_solve 85 = .ok (.istore 4, 2) := by decide +kernel
theorem dX11_solve_87 : decode cX11_solve 87 = .ok (.iload_n 3, 1) := by decide +kernel
theorem dX11_solve_88 : decode cX11_solve 88 = .ok (.ifCond .eq 108, 3) := by decide +kernel
theorem dX11_solve_91 : decode cX11_solve 91 = .ok (.iconst 0, 1) := by decide +kernel
theorem dX11_solve_92 : decode cX11_solve 92 = .ok (.istore_n 3, 1) := by decide +kernel
theorem dX11_solve_93 : decode cX11_solve 93 = .ok (.iconst 0, 1) := by decide +kernel
theorem dX11_solve_94 : decode cX11_solve 94 = .ok (.istore 5, 2) := by decide +kernel
theorem dX11_solve_96 : decode cX11_solve 96 = .ok (.iload 5, 2) := by decide +kernel
theorem dX11_solve_98 : decode cX11_solve 98 = .ok (.iload_n 1, 1) := by decide +kernel
theorem dX11_solve_99 : decode cX11_solve 99 = .ok (.if_icmp .ge 37, 3) := by decide +kernel
theorem dX11_solve_102 : decode cX11_solve 102 = .ok (.aload_n 0, 1) := by decide +kernel
theorem dX11_solve_103 : decode cX11_solve 103 = .ok (.getfield 66, 3) := by decide +kernel
theorem dX11_solve_106 : decode cX11_solve 106 = .ok (.iload 5, 2) := by decide +kernel
theorem dX11_solve_108 : decode cX11_solve 108 = .ok (.aload_n 0, 1) := by decide +kernel
theorem dX11_solve_109 : decode cX11_solve 109 = .ok (.getfield 57, 3) := by decide +kernel
theorem dX11_solve_112 : decode cX11_solve 112 = .ok (.iload 5, 2) := by decide +kernel
theorem dX11_solve_114 : decode cX11_solve 114 = .ok (.iaload, 1) := by decide +kernel
theorem dX11_solve_115 : decode cX11_solve 115 = .ok (.iconst 3, 1) := by decide +kernel
theorem dX11_solve_116 : decode cX11_solve 116 = .ok (.if_icmp .ne 12, 3) := by decide +kernel
theorem dX11_solve_119 : decode cX11_solve 119 = .ok (.aload_n 0, 1) := by decide +kernel
theorem dX11_solve_120 : decode cX11_solve 120 = .ok (.iload 5, 2) := by decide +kernel
theorem dX11_solve_122 : decode cX11_solve 122 = .ok (.invokevirtual 194, 3) := by decide +kernel
theorem dX11_solve_125 : decode cX11_solve 125 = .ok (.goto 4, 3) := by decide +kernel
theorem dX11_solve_128 : decode cX11_solve 128 = .ok (.iconst 3, 1) := by decide +kernel
theorem dX11_solve_129 : decode cX11_solve 129 = .ok (.iastore, 1) := by decide +kernel
theorem dX11_solve_130 : decode cX11_solve 130 = .ok (.iinc 5 1, 3) := by decide +kernel
theorem dX11_solve_133 : decode cX11_solve 133 = .ok (.goto (-37), 3) := by decide +kernel
theorem dX11_solve_136 : decode cX11_solve 136 = .ok (.iconst 0, 1) := by decide +kernel
theorem dX11_solve_137 : decode cX11_solve 137 = .ok (.istore 5, 2) := by decide +kernel
theorem dX11_solve_139 : decode cX11_solve 139 = .ok (.iload 5, 2) := by decide +kernel
theorem dX11_solve_141 : decode cX11_solve 141 = .ok (.iload_n 1, 1) := by decide +kernel
theorem dX11_solve_142 : decode cX11_solve 142 = .ok (.if_icmp .ge 48, 3) := by decide +kernel
theorem dX11_solve_145 : decode cX11_solve 145 = .ok (.aload_n 0, 1) := by decide +kernel
theorem dX11_solve_146 : decode cX11_solve 146 = .ok (.getfield 66, 3) := by decide +kernel
theorem dX11_solve_149 : decode cX11_solve 149 = .ok (.iload 5, 2) := by decide +kernel
theorem dX11_solve_151 : decode cX11_solve 151 = .ok (.iaload, 1) := by decide +kernel
theorem dX11_solve_152 : decode cX11_solve 152 = .ok (.iconst 3, 1) := by decide +kernel
theorem dX11_solve_153 : decode cX11_solve 153 = .ok (.if_icmp .ne 6, 3) := by decide +kernel
theorem dX11_solve_156 : decode cX11_solve 156 = .ok (.goto 28, 3) := by decide +kernel
theorem dX11_solve_159 : decode cX11_solve 159 = .ok (.aload_n 0, 1) := by decide +kernel
theorem dX11_solve_160 : decode cX11_solve 160 = .ok (.getfield 57, 3) := by decide +kernel
theorem dX11_solve_163 : decode cX11_solve 163 = .ok (.iload 5, 2) := by decide +kernel
theorem dX11_solve_165 : decode cX11_solve 165 = .ok (.aload_n 0, 1) := by decide +kernel
theorem dX11_solve_166 : decode cX11_solve 166 = .ok (.getfield 66, 3) := by decide +kernel
theorem dX11_solve_169 : decode cX11_solve 169 = .ok (.iload 5, 2) := by decide +kernel
theorem dX11_solve_171 : decode cX11_solve 171 = .ok (.iaload, 1) := by decide +kernel
theorem dX11_solve_172 : decode cX11_solve 172 = .ok (.iastore, 1) := by decide +kernel
theorem dX11_solve_173 : decode cX11_solve 173 = .ok (.aload_n 0, 1) := by decide +kernel
theorem dX11_solve_174 : decode cX11_solve 174 = .ok (.getfield 60, 3) := by decide +kernel
theorem dX11_solve_177 : decode cX11_solve 177 = .ok (.iload 5, 2) := by decide +kernel
theorem dX11_solve_179 : decode cX11_solve 179 = .ok (.iload 4, 2) := by decide +kernel
theorem dX11_solve_181 : decode cX11_solve 181 = .ok (.iastore, 1) := by decide +kernel
theorem dX11_solve_182 : decode cX11_solve 182 = .ok (.iconst 1, 1) := by decide +kernel
theorem dX11_solve_183 : decode cX11_solve 183 = .ok (.istore_n 3, 1) := by decide +kernel
theorem dX11_solve_184 : decode cX11_solve 184 = .ok (.iinc 5 1, 3) := by decide +kernel
theorem dX11_solve_187 : decode cX11_solve 187 = .ok (.goto (-48), 3) := by decide +kernel
theorem dX11_solve_190 : decode cX11_solve 190 = .ok (.iinc 4 1, 3) := by decide +kernel
theorem dX11_solve_193 : decode cX11_solve 193 = .ok (.goto (-106), 3) := by decide +kernel
theorem dX11_solve_196 : decode cX11_solve 196 = .ok (.iconst 0, 1) := by decide +kernel
theorem dX11_solve_197 : decode cX11_solve 197 = .ok (.istore 4, 2) := by decide +kernel
theorem dX11_solve_199 : decode cX11_solve 199 = .ok (.iload 4, 2) := by decide +kernel
theorem dX11_solve_201 : decode cX11_solve 201 = .ok (.iload_n 1, 1) := by decide +kernel
theorem dX11_solve_202 : decode cX11_solve 202 = .ok (.if_icmp .ge 28, 3) := by decide +kernel
theorem dX11_solve_205 : decode cX11_solve 205 = .ok (.aload_n 0, 1) := by decide +kernel
theorem dX11_solve_206 : decode cX11_solve 206 = .ok (.getfield 57, 3) := by decide +kernel
theorem dX11_solve_209 : decode cX11_solve 209 = .ok (.iload 4, 2) := by decide +kernel
theorem dX11_solve_211 : decode cX11_solve 211 = .ok (.iaload, 1) := by decide +kernel
theorem dX11_solve_212 : decode cX11_solve 212 = .ok (.iconst 3, 1) := by decide +kernel
theorem dX11_solve_213 : decode cX11_solve 213 = .ok (.if_icmp .ne 11, 3) := by decide +kernel
theorem dX11_solve_216 : decode cX11_solve 216 = .ok (.aload_n 0, 1) := by decide +kernel
theorem dX11_solve_217 : decode cX11_solve 217 = .ok (.getfield 57, 3) := by decide +kernel
theorem dX11_solve_220 : decode cX11_solve 220 = .ok (.iload 4, 2) := by decide +kernel
theorem dX11_solve_222 : decode cX11_solve 222 = .ok (.iconst 2, 1) := by decide +kernel
theorem dX11_solve_223 : decode cX11_solve 223 = .ok (.iastore, 1) := by decide +kernel
theorem dX11_solve_224 : decode cX11_solve 224 = .ok (.iinc 4 1, 3) := by decide +kernel
theorem dX11_solve_227 : decode cX11_solve 227 = .ok (.goto (-28), 3) := by decide +kernel
theorem dX11_solve_230 : decode cX11_solve 230 = .ok (.aload_n 0, 1) := by decide +kernel
theorem dX11_solve_231 : decode cX11_solve 231 = .ok (.aload_n 0, 1) := by decide +kernel
theorem dX11_solve_232 : decode cX11_solve 232 = .ok (.getfield 138, 3) := by decide +kernel
theorem dX11_solve_235 : decode cX11_solve 235 = .ok (.invokevirtual 161, 3) := by decide +kernel
theorem dX11_solve_238 : decode cX11_solve 238 = .ok (.aload_n 0, 1) := by decide +kernel
theorem dX11_solve_239 : decode cX11_solve 239 = .ok (.invokevirtual 164, 3) := by decide +kernel
theorem dX11_solve_242 : decode cX11_solve 242 = .ok (.aload_n 0, 1) := by decide +kernel
theorem dX11_solve_243 : decode cX11_solve 243 = .ok (.iconst 1, 1) := by decide +kernel
theorem dX11_solve_244 : decode cX11_solve 244 = .ok (.putfield 76, 3) := by decide +kernel
theorem dX11_solve_247 : decode cX11_solve 247 = .ok (.iload_n 2, 1) := by decide +kernel
theorem dX11_solve_248 : decode cX11_solve 248 = .ok (.ireturn, 1) := by decide +kernel
set_option maxRecDepth 20000 in
theorem ggX11_tried_X11_setUp : GoodIn wsX11_tried wsX11_setUp := goodIn_r _ [8, 9, 10, 1, 2, 11, 12, 13, 7, 14, 15, 16, 17, 18, 19, 20, 21, 22, 60, 61, 62, 63, 64, 65, 66, 67, 68, 69, 70, 71, 72, 73, 74, 75, 76, 77, 78, 79, 80, 81, 82, 83, 84, 85, 86, 87, 88] (by decide +kernel) (by decide +kernel)
set_option maxRecDepth 20000 in
theorem gX11_tried_X11_setUp : GoodIn wsX11_tried (wsV RX11 188 RX11 yX11_setUp wsX11_setUp) := goodIn_app (goodIn_of _ (by decide +kernel)) ggX11_tried_X11_setUp
set_option maxRecDepth 20000 in
theorem ggX11_tried_X11_sideOf : GoodIn wsX11_tried wsX11_sideOf := goodIn_r _ [26, 22, 60, 61, 62, 63, 64, 65, 66, 67, 68, 69, 70, 71, 72, 73, 74, 75, 76, 77, 78, 79, 80, 81, 82, 83, 84, 85, 86, 87, 88] (by decide +kernel) (by decide +kernel)
set_option maxRecDepth 20000 in
theorem gX11_tried_X11_sideOf : GoodIn wsX11_tried (wsV RX11 106 RX11 yX11_sideOf wsX11_sideOf) := goodIn_app (goodIn_of _ (by decide +kernel)) ggX11_tried_X11_sideOf
set_option maxRecDepth 20000 in
theorem ggX11_tried_X11_bar : GoodIn wsX11_tried wsX11_bar := goodIn_r _ [30, 2, 22, 31, 10, 32, 33, 34, 7, 35, 16, 15, 17, 18, 19, 20, 21, 60, 61, 62, 63, 64, 65, 66, 67, 68, 69, 70, 71, 72, 73, 74, 75, 76, 77, 78, 79, 80, 81, 82, 83, 84, 85, 86, 87, 88] (by decide +kernel) (by decide +kernel)
set_option maxRecDepth 20000 in
theorem gX11_tried_X11_bar : GoodIn wsX11_tried (wsV RX11 100 RX11 yX11_bar wsX11_bar) := goodIn_app (goodIn_of _ (by decide +kernel)) ggX11_tried_X11_bar
set_option maxRecDepth 20000 in
theorem ggX11_tried_X11_make : GoodIn wsX11_tried wsX11_make := goodIn_r _ [39, 2, 10, 1, 40, 41, 9, 32, 33, 34, 7, 35, 16, 15, 42, 43, 44, 45, 22, 46, 23, 24, 25, 26, 47, 48, 49, 50, 51, 52, 53, 54, 55, 21, 60, 61, 62, 63, 64, 65, 66, 67, 68, 69, 70, 71, 72, 73, 74, 75, 76, 77, 78, 79, 80, 81, 82, 83, 84, 85, 86, 87, 88] (by decide +kernel) (by decide +kernel)
set_option maxRecDepth 20000 in
theorem gX11_tried_X11_make : GoodIn wsX11_tried (wsV RX11 154 RX11 yX11_make wsX11_make) := goodIn_app (goodIn_of _ (by decide +kernel)) ggX11_tried_X11_make
set_option maxRecDepth 20000 in
theorem ggX11_tried_X11_number : GoodIn wsX11_tried wsX11_number := goodIn_r _ [59, 1, 2, 9, 11, 12, 13, 7, 14, 15, 16, 60, 61, 62, 63, 64, 65, 66, 67, 68, 69, 70, 71, 72, 73, 74, 75, 76, 77, 78, 79, 80, 81, 82, 83, 84, 85, 86, 87, 88] (by decide +kernel) (by decide +kernel)
set_option maxRecDepth 20000 in
theorem gX11_tried_X11_number : GoodIn wsX11_tried (wsV RX11 197 RX11 yX11_number wsX11_number) := goodIn_app (goodIn_of _ (by decide +kernel)) ggX11_tried_X11_number
theorem dX11_tried_0 : decode cX11_tried 0 = .ok (.iload_n 1, 1) := by decide +kernel
theorem dX11_tried_1 : decode cX11_tried 1 = .ok (.iconst 2, 1) := by decide +kernel
theorem dX11_tried_2 : decode cX11_tried 2 = .ok (.irem, 1) := by decide +kernel
theorem dX11_tried_3 : decode cX11_tried 3 = .ok (.istore_n 2, 1) := by decide +kernel
theorem dX11_tried_4 : decode cX11_tried 4 = .ok (.iconst 1, 1) := by decide +kernel
theorem dX11_tried_5 : decode cX11_tried 5 = .ok (.istore_n 3, 1) := by decide +kernel
theorem dX11_tried_6 : decode cX11_tried 6 = .ok (.aload_n 0, 1) := by decide +kernel
theorem dX11_tried_7 : decode cX11_tried 7 = .ok (.iload_n 1, 1) := by decide +kernel
theorem dX11_tried_8 : decode cX11_tried 8 = .ok (.invokevirtual 188, 3) := by decide +kernel
theorem dX11_tried_11 : decode cX11_tried 11 = .ok (.istore 4, 2) := by decide +kernel
theorem dX11_tried_13 : decode cX11_tried 13 = .ok (.iconst 0, 1) := by decide +kernel
theorem dX11_tried_14 : decode cX11_tried 14 = .ok (.istore 5, 2) := by decide +kernel
theorem dX11_tried_16 : decode cX11_tried 16 = .ok (.iload 5, 2) := by decide +kernel
theorem dX11_tried_18 : decode cX11_tried 18 = .ok (.aload_n 0, 1) := by decide +kernel
theorem dX11_tried_19 : decode cX11_tried 19 = .ok (.getfield 103, 3) := by decide +kernel
theorem dX11_tried_22 : decode cX11_tried 22 = .ok (.if_icmp .ge 137, 3) := by decide +kernel
theorem dX11_tried_25 : decode cX11_tried 25 = .ok (.iconst 0, 1) := by decide +kernel
theorem dX11_tried_26 : decode cX11_tried 26 = .ok (.istore 6, 2) := by decide +kernel
theorem dX11_tried_28 : decode cX11_tried 28 = .ok (.iload 6, 2) := by decide +kernel
theorem dX11_tried_30 : decode cX11_tried 30 = .ok (.bipush 32, 2) := by decide +kernel
theorem dX11_tried_32 : decode cX11_tried 32 = .ok (.if_icmp .ge 121, 3) := by decide +kernel
theorem dX11_tried_35 : decode cX11_tried 35 = .ok (.aload_n 0, 1) := by decide +kernel
theorem dX11_tried_36 : decode cX11_tried 36 = .ok (.getfield 30, 3) := by decide +kernel
theorem dX11_tried_39 : decode cX11_tried 39 = .ok (.iload 5, 2) := by decide +kernel
theorem dX11_tried_41 : decode cX11_tried 41 = .ok (.iaload, 1) := by decide +kernel
theorem dX11_tried_42 : decode cX11_tried 42 = .ok (.iconst (-1), 1) := by decide +kernel
theorem dX11_tried_43 : decode cX11_tried 43 = .ok (.if_icmp .eq 110, 3) := by decide +kernel
theorem dX11_tried_46 : decode cX11_tried 46 = .ok (.aload_n 0, 1) := by decide +kernel
theorem dX11_tried_47 : decode cX11_tried 47 = .ok (.iload 5, 2) := by decide +kernel
theorem dX11_tried_49 : decode cX11_tried 49 = .ok (.invokevirtual 106, 3) := by decide +kernel
theorem dX11_tried_52 : decode cX11_tried 52 = .ok (.iload_n 2, 1) := by decide +kernel
theorem dX11_tried_53 : decode cX11_tried 53 = .ok (.if_icmp .ne 100, 3) := by decide +kernel
theorem dX11_tried_56 : decode cX11_tried 56 = .ok (.aload_n 0, 1) := by decide +kernel
theorem dX11_tried_57 : decode cX11_tried 57 = .ok (.iload 5, 2) := by decide +kernel
theorem dX11_tried_59 : decode cX11_tried 59 = .ok (.iload 6, 2) := by decide +kernel
theorem dX11_tried_61 : decode cX11_tried 61 = .ok (.bipush 8, 2) := by decide +kernel
theorem dX11_tried_63 : decode cX11_tried 63 = .ok (.idiv, 1) := by decide +kernel
theorem dX11_tried_64 : decode cX11_tried 64 = .ok (.iload 6, 2) := by decide +kernel
theorem dX11_tried_66 : decode cX11_tried 66 = .ok (.bipush 8, 2) := by decide +kernel
theorem dX11_tried_68 : decode cX11_tried 68 = .ok (.irem, 1) := by decide +kernel
theorem dX11_tried_69 : decode cX11_tried 69 = .ok (.iconst 1, 1) := by decide +kernel
theorem dX11_tried_70 : decode cX11_tried 70 = .ok (.iadd, 1) := by decide +kernel
theorem dX11_tried_71 : decode cX11_tried 71 = .ok (.invokevirtual 100, 3) := by decide +kernel
theorem dX11_tried_74 : decode cX11_tried 74 = .ok (.ifCond .eq 6, 3) := by decide +kernel
theorem dX11_tried_77 : decode cX11_tried 77 = .ok (.goto 70, 3) := by decide +kernel
theorem dX11_tried_80 : decode cX11_tried 80 = .ok (.aload_n 0, 1) := by decide +kernel
theorem dX11_tried_81 : decode cX11_tried 81 = .ok (.iload 5, 2) := by decide +kernel
theorem dX11_tried_83 : decode cX11_tried 83 = .ok (.iload 6, 2) := by decide +kernel
theorem dX11_tried_85 : decode cX11_tried 85 = .ok (.bipush 8, 2) := by decide +kernel
theorem dX11_tried_87 : decode cX11_tried 87 = .ok (.idiv, 1) := by decide +kernel
theorem dX11_tried_88 : decode cX11_tried 88 = .ok (.iload 6, 2) := by decide +kernel
theorem dX11_tried_90 : decode cX11_tried 90 = .ok (.bipush 8, 2) := by decide +kernel
theorem dX11_tried_92 : decode cX11_tried 92 = .ok (.irem, 1) := by decide +kernel
theorem dX11_tried_93 : decode cX11_tried 93 = .ok (.iconst 1, 1) := by decide +kernel
theorem dX11_tried_94 : decode cX11_tried 94 = .ok (.iadd, 1) := by decide +kernel
theorem dX11_tried_95 : decode cX11_tried 95 = .ok (.invokevirtual 154, 3) := by decide +kernel
theorem dX11_tried_98 : decode cX11_tried 98 = .ok (.aload_n 0, 1) := by decide +kernel
theorem dX11_tried_99 : decode cX11_tried 99 = .ok (.invokevirtual 197, 3) := by decide +kernel
theorem dX11_tried_102 : decode cX11_tried 102 = .ok (.istore 7, 2) := by decide +kernel
theorem dX11_tried_104 : decode cX11_tried 104 = .ok (.aload_n 0, 1) := by decide +kernel
theorem dX11_tried_105 : decode cX11_tried 105 = .ok (.iload_n 1, 1) := by decide +kernel
theorem dX11_tried_106 : decode cX11_tried 106 = .ok (.invokevirtual 188, 3) := by decide +kernel
theorem dX11_tried_109 : decode cX11_tried 109 = .ok (.istore 4, 2) := by decide +kernel
theorem dX11_tried_111 : decode cX11_tried 111 = .ok (.aload_n 0, 1) := by decide +kernel
theorem dX11_tried_112 : decode cX11_tried 112 = .ok (.getfield 57, 3) := by decide +kernel
theorem dX11_tried_115 : decode cX11_tried 115 = .ok (.iload 7, 2) := by decide +kernel
theorem dX11_tried_117 : decode cX11_tried 117 = .ok (.iaload, 1) := by decide +kernel
theorem dX11_tried_118 : decode cX11_tried 118 = .ok (.iload_n 2, 1) := by decide +kernel
theorem dX11_tried_119 : decode cX11_tried 119 = .ok (.if_icmp .ne 5, 3) := by decide +kernel
theorem dX11_tried_122 : decode cX11_tried 122 = .ok (.iload_n 2, 1) := by decide +kernel
theorem dX11_tried_123 : decode cX11_tried 123 = .ok (.ireturn, 1) := by decide +kernel
theorem dX11_tried_124 : decode cX11_tried 124 = .ok (.iload_n 3, 1) := by decide +kernel
theorem dX11_tried_125 : decode cX11_tried 125 = .ok (.ifCond .eq 20, 3) := by decide +kernel
theorem dX11_tried_128 : decode cX11_tried 128 = .ok (.aload_n 0, 1) := by decide +kernel
theorem dX11_tried_129 : decode cX11_tried 129 = .ok (.getfield 57, 3) := by decide +kernel
theorem dX11_tried_132 : decode cX11_tried 132 = .ok (.iload 7, 2) := by decide +kernel
theorem dX11_tried_134 : decode cX11_tried 134 = .ok (.iaload, 1) := by decide +kernel
theorem dX11_tried_135 : decode cX11_tried 135 = .ok (.iconst 1, 1) := by decide +kernel
theorem dX11_tried_136 : decode cX11_tried 136 = .ok (.iload_n 2, 1) := by decide +kernel
theorem dX11_tried_137 : decode cX11_tried 137 = .ok (.isub, 1) := by decide +kernel
theorem dX11_tried_138 : decode cX11_tried 138 = .ok (.if_icmp .ne 7, 3) := by decide +kernel
theorem dX11_tried_141 : decode cX11_tried 141 = .ok (.iconst 1, 1) := by decide +kernel
theorem dX11_tried_142 : decode cX11_tried 142 = .ok (.goto 4, 3) := by decide +kernel
theorem dX11_tried_145 : decode cX11_tried 145 = .ok (.iconst 0, 1) := by decide +kernel
theorem dX11_tried_146 : decode cX11_tried 146 = .ok (.istore_n 3, 1) := by decide +kernel
theorem dX11_tried_147 : decode cX11_tried 147 = .ok (.iinc 6 1, 3) := by decide +kernel
theorem dX11_tried_150 : decode cX11_tried 150 = .ok (.goto (-122), 3) := by decide +kernel
theorem dX11_tried_153 : decode cX11_tried 153 = .ok (.iinc 5 1, 3) := by decide +kernel
theorem dX11_tried_156 : decode cX11_tried 156 = .ok (.goto (-140), 3) := by decide +kernel
theorem dX11_tried_159 : decode cX11_tried 159 = .ok (.iload_n 3, 1) := by decide +kernel
theorem dX11_tried_160 : decode cX11_tried 160 = .ok (.ifCond .eq 9, 3) := by decide +kernel
theorem dX11_tried_163 : decode cX11_tried 163 = .ok (.iconst 1, 1) := by decide +kernel
theorem dX11_tried_164 : decode cX11_tried 164 = .ok (.iload_n 2, 1) := by decide +kernel
theorem dX11_tried_165 : decode cX11_tried 165 = .ok (.isub, 1) := by decide +kernel
theorem dX11_tried_166 : decode cX11_tried 166 = .ok (.goto 4, 3) := by decide +kernel
theorem dX11_tried_169 : decode cX11_tried 169 = .ok (.iconst 3, 1) := by decide +kernel
theorem dX11_tried_170 : decode cX11_tried 170 = .ok (.ireturn, 1) := by decide +kernel
set_option maxRecDepth 20000 in
theorem ggX11_leads_X11_setUp : GoodIn wsX11_leads wsX11_setUp := goodIn_r _ [7, 2, 8, 9, 1, 10, 11, 12, 6, 13, 14, 15, 16, 17, 18, 19, 20, 21, 59, 60, 61, 62, 63, 64, 65, 66, 67, 68, 69, 70, 71, 72, 73, 74, 75, 76, 77, 78, 79, 80, 81, 82, 83, 84, 85, 86, 87] (by decide +kernel) (by decide +kernel)
set_option maxRecDepth 20000 in
theorem gX11_leads_X11_setUp : GoodIn wsX11_leads (wsV RX11 188 RX11 yX11_setUp wsX11_setUp) := goodIn_app (goodIn_of _ (by decide +kernel)) ggX11_leads_X11_setUp
set_option maxRecDepth 20000 in
theorem ggX11_leads_X11_sideOf : GoodIn wsX11_leads wsX11_sideOf := goodIn_r _ [25, 21, 59, 60, 61, 62, 63, 64, 65, 66, 67, 68, 69, 70, 71, 72, 73, 74, 75, 76, 77, 78, 79, 80, 81, 82, 83, 84, 85, 86, 87] (by decide +kernel) (by decide +kernel)
set_option maxRecDepth 20000 in
theorem gX11_leads_X11_sideOf : GoodIn wsX11_leads (wsV RX11 106 RX11 yX11_sideOf wsX11_sideOf) := goodIn_app (goodIn_of _ (by decide +kernel)) ggX11_leads_X11_sideOf
set_option maxRecDepth 20000 in
theorem ggX11_leads_X11_bar : GoodIn wsX11_leads wsX11_bar := goodIn_r _ [29, 1, 21, 30, 8, 31, 32, 33, 6, 34, 15, 14, 16, 17, 18, 19, 20, 59, 60, 61, 62, 63, 64, 65, 66, 67, 68, 69, 70, 71, 72, 73, 74, 75, 76, 77, 78, 79, 80, 81, 82, 83, 84, 85, 86, 87] (by decide +kernel) (by decide +kernel)
set_option maxRecDepth 20000 in
theorem gX11_leads_X11_bar : GoodIn wsX11_leads (wsV RX11 100 RX11 yX11_bar wsX11_bar) := goodIn_app (goodIn_of _ (by decide +kernel)) ggX11_leads_X11_bar
set_option maxRecDepth 20000 in
theorem ggX11_leads_X11_make : GoodIn wsX11_leads wsX11_make := goodIn_r _ [38, 1, 8, 9, 39, 40, 2, 31, 32, 33, 6, 34, 15, 14, 41, 42, 43, 44, 21, 45, 22, 23, 24, 25, 46, 47, 48, 49, 50, 51, 52, 53, 54, 20, 59, 60, 61, 62, 63, 64, 65, 66, 67, 68, 69, 70, 71, 72, 73, 74, 75, 76, 77, 78, 79, 80, 81, 82, 83, 84, 85, 86, 87] (by decide +kernel) (by decide +kernel)
set_option maxRecDepth 20000 in
theorem gX11_leads_X11_make : GoodIn wsX11_leads (wsV RX11 154 RX11 yX11_make wsX11_make) := goodIn_app (goodIn_of _ (by decide +kernel)) ggX11_leads_X11_make
set_option maxRecDepth 20000 in
theorem ggX11_leads_X11_number : GoodIn wsX11_leads wsX11_number := goodIn_r _ [58, 9, 1, 2, 10, 11, 12, 6, 13, 14, 15, 59, 60, 61, 62, 63, 64, 65, 66, 67, 68, 69, 70, 71, 72, 73, 74, 75, 76, 77, 78, 79, 80, 81, 82, 83, 84, 85, 86, 87] (by decide +kernel) (by decide +kernel)
set_option maxRecDepth 20000 in
theorem gX11_leads_X11_number : GoodIn wsX11_leads (wsV RX11 197 RX11 yX11_number wsX11_number) := goodIn_app (goodIn_of _ (by decide +kernel)) ggX11_leads_X11_number
theorem dX11_leads_0 : decode cX11_leads 0 = .ok (.aload_n 0, 1) := by decide +kernel
theorem dX11_leads_1 : decode cX11_leads 1 = .ok (.iload_n 1, 1) := by decide +kernel
theorem dX11_leads_2 : decode cX11_leads 2 = .ok (.invokevirtual 188, 3) := by decide +kernel
theorem dX11_leads_5 : decode cX11_leads 5 = .ok (.istore_n 3, 1) := by decide +kernel
theorem dX11_leads_6 : decode cX11_leads 6 = .ok (.iload_n 2, 1) := by decide +kernel
theorem dX11_leads_7 : decode cX11_leads 7 = .ok (.bipush 32, 2) := by decide +kernel
theorem dX11_leads_9 : decode cX11_leads 9 = .ok (.idiv, 1) := by decide +kernel
theorem dX11_leads_10 : decode cX11_leads 10 = .ok (.istore 4, 2) := by decide +kernel
theorem dX11_leads_12 : decode cX11_leads 12 = .ok (.aload_n 0, 1) := by decide +kernel
theorem dX11_leads_13 : decode cX11_leads 13 = .ok (.getfield 30, 3) := by decide +kernel
theorem dX11_leads_16 : decode cX11_leads 16 = .ok (.iload 4, 2) := by decide +kernel
theorem dX11_leads_18 : decode cX11_leads 18 = .ok (.iaload, 1) := by decide +kernel
theorem dX11_leads_19 : decode cX11_leads 19 = .ok (.iconst (-1), 1) := by decide +kernel
theorem dX11_leads_20 : decode cX11_leads 20 = .ok (.if_icmp .eq 37, 3) := by decide +kernel
theorem dX11_leads_23 : decode cX11_leads 23 = .ok (.aload_n 0, 1) := by decide +kernel
theorem dX11_leads_24 : decode cX11_leads 24 = .ok (.iload 4, 2) := by decide +kernel
theorem dX11_leads_26 : decode cX11_leads 26 = .ok (.invokevirtual 106, 3) := by decide +kernel
theorem dX11_leads_29 : decode cX11_leads 29 = .ok (.aload_n 0, 1) := by decide +kernel
theorem dX11_leads_30 : decode cX11_leads 30 = .ok (.getfield 126, 3) := by decide +kernel
theorem dX11_leads_33 : decode cX11_leads 33 = .ok (.if_icmp .ne 24, 3) := by decide +kernel
theorem dX11_leads_36 : decode cX11_leads 36 = .ok (.aload_n 0, 1) := by decide +kernel
theorem dX11_leads_37 : decode cX11_leads 37 = .ok (.iload 4, 2) := by decide +kernel
theorem dX11_leads_39 : decode cX11_leads 39 = .ok (.iload_n 2, 1) := by decide +kernel
theorem dX11_leads_40 : decode cX11_leads 40 = .ok (.bipush 8, 2) := by decide +kernel
theorem dX11_leads_42 : decode cX11_leads 42 = .ok (.idiv, 1) := by decide +kernel
theorem dX11_leads_43 : decode cX11_leads 43 = .ok (.iconst 4, 1) := by decide +kernel
theorem dX11_leads_44 : decode cX11_leads 44 = .ok (.irem, 1) := by decide +kernel
theorem dX11_leads_45 : decode cX11_leads 45 = .ok (.iload_n 2, 1) := by decide +kernel
theorem dX11_leads_46 : decode cX11_leads 46 = .ok (.bipush 8, 2) := by decide +kernel
theorem dX11_leads_48 : decode cX11_leads 48 = .ok (.irem, 1) := by decide +kernel
theorem dX11_leads_49 : decode cX11_leads 49 = .ok (.iconst 1, 1) := by decide +kernel
theorem dX11_leads_50 : decode cX11_leads 50 = .ok (.iadd, 1) := by decide +kernel
theorem dX11_leads_51 : decode cX11_leads 51 = .ok (.invokevirtual 100, 3) := by decide +kernel
theorem dX11_leads_54 : decode cX11_leads 54 = .ok (.ifCond .eq 5, 3) := by decide +kernel
theorem dX11_leads_57 : decode cX11_leads 57 = .ok (.iconst (-1), 1) := by decide +kernel
theorem dX11_leads_58 : decode cX11_leads 58 = .ok (.ireturn, 1) := by decide +kernel
theorem dX11_leads_59 : decode cX11_leads 59 = .ok (.aload_n 0, 1) := by decide +kernel
theorem dX11_leads_60 : decode cX11_leads 60 = .ok (.iload 4, 2) := by decide +kernel
theorem dX11_leads_62 : decode cX11_leads 62 = .ok (.iload_n 2, 1) := by decide +kernel
theorem dX11_leads_63 : decode cX11_leads 63 = .ok (.bipush 8, 2) := by decide +kernel
theorem dX11_leads_65 : decode cX11_leads 65 = .ok (.idiv, 1) := by decide +kernel
theorem dX11_leads_66 : decode cX11_leads 66 = .ok (.iconst 4, 1) := by decide +kernel
theorem dX11_leads_67 : decode cX11_leads 67 = .ok (.irem, 1) := by decide +kernel
theorem dX11_leads_68 : decode cX11_leads 68 = .ok (.iload_n 2, 1) := by decide +kernel
theorem dX11_leads_69 : decode cX11_leads 69 = .ok (.bipush 8, 2) := by decide +kernel
theorem dX11_leads_71 : decode cX11_leads 71 = .ok (.irem, 1) := by decide +kernel
theorem dX11_leads_72 : decode cX11_leads 72 = .ok (.iconst 1, 1) := by decide +kernel
theorem dX11_leads_73 : decode cX11_leads 73 = .ok (.iadd, 1) := by decide +kernel
theorem dX11_leads_74 : decode cX11_leads 74 = .ok (.invokevirtual 154, 3) := by decide +kernel
theorem dX11_leads_77 : decode cX11_leads 77 = .ok (.aload_n 0, 1) := by decide +kernel
theorem dX11_leads_78 : decode cX11_leads 78 = .ok (.invokevirtual 197, 3) := by decide +kernel
theorem dX11_leads_81 : decode cX11_leads 81 = .ok (.ireturn, 1) := by decide +kernel
set_option maxRecDepth 20000 in
theorem ggX11_worth_X11_number : GoodIn wsX11_worth wsX11_number := goodIn_r _ [7, 8, 9, 10, 11, 12, 13, 6, 14, 15, 16, 17, 18, 19, 20, 21, 22, 23, 24, 25, 26, 27, 28, 29, 30, 31, 32, 33, 34, 35, 36, 37, 38, 39, 40, 41, 42, 43, 44, 45] (by decide +kernel) (by decide +kernel)
set_option maxRecDepth 20000 in
theorem gX11_worth_X11_number : GoodIn wsX11_worth (wsV RX11 197 RX11 yX11_number wsX11_number) := goodIn_app (goodIn_of _ (by decide +kernel)) ggX11_worth_X11_number
theorem dX11_worth_0 : decode cX11_worth 0 = .ok (.aload_n 0, 1) := by decide +kernel
theorem dX11_worth_1 : decode cX11_worth 1 = .ok (.getfield 76, 3) := by decide +kernel
theorem dX11_worth_4 : decode cX11_worth 4 = .ok (.ifCond .eq 15, 3) := by decide +kernel
theorem dX11_worth_7 : decode cX11_worth 7 = .ok (.aload_n 0, 1) := by decide +kernel
theorem dX11_worth_8 : decode cX11_worth 8 = .ok (.getfield 57, 3) := by decide +kernel
theorem dX11_worth_11 : decode cX11_worth 11 = .ok (.aload_n 0, 1) := by decide +kernel
theorem dX11_worth_12 : decode cX11_worth 12 = .ok (.invokevirtual 197, 3) := by decide +kernel
theorem dX11_worth_15 : decode cX11_worth 15 = .ok (.iaload, 1) := by decide +kernel
theorem dX11_worth_16 : decode cX11_worth 16 = .ok (.goto 4, 3) := by decide +kernel
theorem dX11_worth_19 : decode cX11_worth 19 = .ok (.iconst (-1), 1) := by decide +kernel
theorem dX11_worth_20 : decode cX11_worth 20 = .ok (.ireturn, 1) := by decide +kernel
set_option maxRecDepth 20000 in
theorem ggX11_deep_X11_number : GoodIn wsX11_deep wsX11_number := goodIn_r _ [7, 8, 9, 10, 11, 12, 13, 6, 14, 15, 16, 17, 18, 19, 20, 21, 22, 23, 24, 25, 26, 27, 28, 29, 30, 31, 32, 33, 34, 35, 36, 37, 38, 39, 40, 41, 42, 43, 44, 45] (by decide +kernel) (by decide +kernel)
set_option maxRecDepth 20000 in
theorem gX11_deep_X11_number : GoodIn wsX11_deep (wsV RX11 197 RX11 yX11_number wsX11_number) := goodIn_app (goodIn_of _ (by decide +kernel)) ggX11_deep_X11_number
theorem dX11_deep_0 : decode cX11_deep 0 = .ok (.aload_n 0, 1) := by decide +kernel
theorem dX11_deep_1 : decode cX11_deep 1 = .ok (.getfield 76, 3) := by decide +kernel
theorem dX11_deep_4 : decode cX11_deep 4 = .ok (.ifCond .eq 15, 3) := by decide +kernel
theorem dX11_deep_7 : decode cX11_deep 7 = .ok (.aload_n 0, 1) := by decide +kernel
theorem dX11_deep_8 : decode cX11_deep 8 = .ok (.getfield 60, 3) := by decide +kernel
theorem dX11_deep_11 : decode cX11_deep 11 = .ok (.aload_n 0, 1) := by decide +kernel
theorem dX11_deep_12 : decode cX11_deep 12 = .ok (.invokevirtual 197, 3) := by decide +kernel
theorem dX11_deep_15 : decode cX11_deep 15 = .ok (.iaload, 1) := by decide +kernel
theorem dX11_deep_16 : decode cX11_deep 16 = .ok (.goto 4, 3) := by decide +kernel
theorem dX11_deep_19 : decode cX11_deep 19 = .ok (.iconst (-1), 1) := by decide +kernel
theorem dX11_deep_20 : decode cX11_deep 20 = .ok (.ireturn, 1) := by decide +kernel
set_option maxRecDepth 20000 in
theorem ggX11_best_X11_number : GoodIn wsX11_best wsX11_number := goodIn_r _ [10, 2, 11, 12, 13, 14, 15, 9, 16, 17, 18, 98, 99, 100, 101, 102, 103, 104, 105, 106, 107, 108, 109, 110, 111, 112, 113, 114, 115, 116, 117, 118, 119, 120, 121, 122, 123, 124, 125, 126] (by decide +kernel) (by decide +kernel)
set_option maxRecDepth 20000 in
theorem gX11_best_X11_number : GoodIn wsX11_best (wsV RX11 197 RX11 yX11_number wsX11_number) := goodIn_app (goodIn_of _ (by decide +kernel)) ggX11_best_X11_number
set_option maxRecDepth 20000 in
theorem ggX11_best_X11_endOf : GoodIn wsX11_best wsX11_endOf := goodIn_r _ [22, 11, 23, 12, 24, 25, 26, 9, 27, 28, 29, 18, 13, 14, 15, 16, 17, 30, 31, 32, 33, 2, 34, 35, 36, 37, 38, 39, 40, 41, 42, 43, 44, 45, 46, 47, 48, 49, 50, 51, 52, 53, 54, 55, 56, 98, 99, 100, 101, 102, 103, 104, 105, 106, 107, 108, 109, 110, 111, 112, 113, 114, 115, 116, 117, 118, 119, 120, 121, 122, 123, 124, 125, 126] (by decide +kernel) (by decide +kernel)
set_option maxRecDepth 20000 in
theorem gX11_best_X11_endOf : GoodIn wsX11_best (wsV RX11 191 RX11 yX11_endOf wsX11_endOf) := goodIn_app (goodIn_of _ (by decide +kernel)) ggX11_best_X11_endOf
set_option maxRecDepth 20000 in
theorem ggX11_best_X11_leads : GoodIn wsX11_best wsX11_leads := goodIn_r _ [60, 11, 12, 61, 62, 63, 9, 64, 48, 2, 13, 14, 15, 16, 17, 18, 53, 54, 55, 56, 29, 38, 34, 35, 36, 37, 43, 44, 45, 46, 47, 49, 50, 51, 52, 65, 66, 67, 68, 69, 70, 71, 72, 73, 74, 75, 76, 77, 78, 79, 80, 81, 82, 83, 84, 6, 7, 8, 10, 98, 99, 100, 101, 102, 103, 104, 105, 106, 107, 108, 109, 110, 111, 112, 113, 114, 115, 116, 117, 118, 119, 120, 121, 122, 123, 124, 125, 126] (by decide +kernel) (by decide +kernel)
set_option maxRecDepth 20000 in
theorem gX11_best_X11_leads : GoodIn wsX11_best (wsV RX11 200 RX11 yX11_leads wsX11_leads) := goodIn_app (goodIn_of _ (by decide +kernel)) ggX11_best_X11_leads
set_option maxRecDepth 20000 in
theorem ggX11_best_X11_read : GoodIn wsX11_best wsX11_read := goodIn_r _ [88, 48, 2, 11, 89, 12, 90, 91, 92, 9, 93, 98, 99, 100, 101, 102, 103, 104, 105, 106, 107, 108, 109, 110, 111, 112, 113, 114, 115, 116, 117, 118, 119, 120, 121, 122, 123, 124, 125, 126] (by decide +kernel) (by decide +kernel)
set_option maxRecDepth 20000 in
theorem gX11_best_X11_read : GoodIn wsX11_best (wsV RX11 161 RX11 yX11_read wsX11_read) := goodIn_app (goodIn_of _ (by decide +kernel)) ggX11_best_X11_read
set_option maxRecDepth 20000 in
theorem ggX11_best_X11_lookAgain : GoodIn wsX11_best wsX11_lookAgain := goodIn_r _ [97, 5, 70, 2, 69, 89, 90, 91, 92, 9, 93, 98, 99, 100, 101, 102, 103, 104, 105, 106, 107, 108, 109, 110, 111, 112, 113, 114, 115, 116, 117, 118, 119, 120, 121, 122, 123, 124, 125, 126] (by decide +kernel) (by decide +kernel)
set_option maxRecDepth 20000 in
theorem gX11_best_X11_lookAgain : GoodIn wsX11_best (wsV RX11 164 RX11 yX11_lookAgain wsX11_lookAgain) := goodIn_app (goodIn_of _ (by decide +kernel)) ggX11_best_X11_lookAgain
theorem dX11_best_0 : decode cX11_best 0 = .ok (.aload_n 0, 1) := by decide +kernel
theorem dX11_best_1 : decode cX11_best 1 = .ok (.getfield 76, 3) := by decide +kernel
theorem dX11_best_4 : decode cX11_best 4 = .ok (.ifCond .ne 5, 3) := by decide +kernel
theorem dX11_best_7 : decode cX11_best 7 = .ok (.iconst (-1), 1) := by decide +kernel
theorem dX11_best_8 : decode cX11_best 8 = .ok (.ireturn, 1) := by decide +kernel
theorem dX11_best_9 : decode cX11_best 9 = .ok (.aload_n 0, 1) := by decide +kernel
theorem dX11_best_10 : decode cX11_best 10 = .ok (.invokevirtual 197, 3) := by decide +kernel
theorem dX11_best_13 : decode cX11_best 13 = .ok (.istore_n 1, 1) := by decide +kernel
theorem dX11_best_14 : decode cX11_best 14 = .ok (.aload_n 0, 1) := by decide +kernel
theorem dX11_best_15 : decode cX11_best 15 = .ok (.invokevirtual 191, 3) := by decide +kernel
theorem dX11_best_18 : decode cX11_best 18 = .ok (.iconst 3, 1) := by decide +kernel
theorem dX11_best_19 : decode cX11_best 19 = .ok (.if_icmp .eq 7, 3) := by decide +kernel
theorem dX11_best_22 : decode cX11_best 22 = .ok (.iconst 1, 1) := by decide +kernel
theorem dX11_best_23 : decode cX11_best 23 = .ok (.goto 4, 3) := by decide +kernel
theorem dX11_best_26 : decode cX11_best 26 = .ok (.iconst 0, 1) := by decide +kernel
theorem dX11_best_27 : decode cX11_best 27 = .ok (.istore_n 2, 1) := by decide +kernel
theorem dX11_best_28 : decode cX11_best 28 = .ok (.iconst (-1), 1) := by decide +kernel
theorem dX11_best_29 : decode cX11_best 29 = .ok (.istore_n 3, 1) := by decide +kernel
theorem dX11_best_30 : decode cX11_best 30 = .ok (.iconst 0, 1) := by decide +kernel
theorem dX11_best_31 : decode cX11_best 31 = .ok (.istore 4, 2) := by decide +kernel
theorem dX11_best_33 : decode cX11_best 33 = .ok (.iload_n 1, 1) := by decide +kernel
theorem dX11_best_34 : decode cX11_best 34 = .ok (.iconst 2, 1) := by decide +kernel
theorem dX11_best_35 : decode cX11_best 35 = .ok (.irem, 1) := by decide +kernel
theorem dX11_best_36 : decode cX11_best 36 = .ok (.istore 5, 2) := by decide +kernel
theorem dX11_best_38 : decode cX11_best 38 = .ok (.iconst 0, 1) := by decide +kernel
theorem dX11_best_39 : decode cX11_best 39 = .ok (.istore 6, 2) := by decide +kernel
theorem dX11_best_41 : decode cX11_best 41 = .ok (.iload 6, 2) := by decide +kernel
theorem dX11_best_43 : decode cX11_best 43 = .ok (.bipush 32, 2) := by decide +kernel
theorem dX11_best_45 : decode cX11_best 45 = .ok (.aload_n 0, 1) := by decide +kernel
theorem dX11_best_46 : decode cX11_best 46 = .ok (.getfield 103, 3) := by decide +kernel
theorem dX11_best_49 : decode cX11_best 49 = .ok (.imul, 1) := by decide +kernel
theorem dX11_best_50 : decode cX11_best 50 = .ok (.if_icmp .ge 127, 3) := by decide +kernel
theorem dX11_best_53 : decode cX11_best 53 = .ok (.iload_n 2, 1) := by decide +kernel
theorem dX11_best_54 : decode cX11_best 54 = .ok (.ifCond .ne 123, 3) := by decide +kernel
theorem dX11_best_57 : decode cX11_best 57 = .ok (.aload_n 0, 1) := by decide +kernel
theorem dX11_best_58 : decode cX11_best 58 = .ok (.iload_n 1, 1) := by decide +kernel
theorem dX11_best_59 : decode cX11_best 59 = .ok (.iload 6, 2) := by decide +kernel
theorem dX11_best_61 : decode cX11_best 61 = .ok (.invokevirtual 200, 3) := by decide +kernel
theorem dX11_best_64 : decode cX11_best 64 = .ok (.istore 7, 2) := by decide +kernel
theorem dX11_best_66 : decode cX11_best 66 = .ok (.iload 7, 2) := by decide +kernel
theorem dX11_best_68 : decode cX11_best 68 = .ok (.iconst (-1), 1) := by decide +kernel
theorem dX11_best_69 : decode cX11_best 69 = .ok (.if_icmp .eq 102, 3) := by decide +kernel
theorem dX11_best_72 : decode cX11_best 72 = .ok (.aload_n 0, 1) := by decide +kernel
theorem dX11_best_73 : decode cX11_best 73 = .ok (.getfield 57, 3) := by decide +kernel
theorem dX11_best_76 : decode cX11_best 76 = .ok (.iload 7, 2) := by decide +kernel
theorem dX11_best_78 : decode cX11_best 78 = .ok (.iaload, 1) := by decide +kernel
theorem dX11_best_79 : decode cX11_best 79 = .ok (.aload_n 0, 1) := by decide +kernel
theorem dX11_best_80 : decode cX11_best 80 = .ok (.getfield 57, 3) := by decide +kernel
theorem dX11_best_83 : decode cX11_best 83 = .ok (.iload_n 1, 1) := by decide +kernel
theorem dX11_best_84 : decode cX11_best 84 = .ok (.iaload, 1) := by decide +kernel
theorem dX11_best_85 : decode cX11_best 85 = .ok (.if_icmp .eq 6, 3) := by decide +kernel
theorem dX11_best_88 : decode cX11_best 88 = .ok (.goto 83, 3) := by decide +kernel
theorem dX11_best_91 : decode cX11_best 91 = .ok (.iload_n 3, 1) := by decide +kernel
theorem dX11_best_92 : decode cX11_best 92 = .ok (.iconst (-1), 1) := by decide +kernel
theorem dX11_best_93 : decode cX11_best 93 = .ok (.if_icmp .eq 51, 3) := by decide +kernel
theorem dX11_best_96 : decode cX11_best 96 = .ok (.aload_n 0, 1) := by decide +kernel
theorem dX11_best_97 : decode cX11_best 97 = .ok (.getfield 57, 3) := by decide +kernel
theorem dX11_best_100 : decode cX11_best 100 = .ok (.iload_n 1, 1) := by decide +kernel
theorem dX11_best_101 : decode cX11_best 101 = .ok (.iaload, 1) := by decide +kernel
theorem dX11_best_102 : decode cX11_best 102 = .ok (.iload 5, 2) := by decide +kernel
theorem dX11_best_104 : decode cX11_best 104 = .ok (.if_icmp .ne 15, 3) := by decide +kernel
theorem dX11_best_107 : decode cX11_best 107 = .ok (.aload_n 0, 1) := by decide +kernel
theorem dX11_best_108 : decode cX11_best 108 = .ok (.getfield 60, 3) := by decide +kernel
theorem dX11_best_111 : decode cX11_best 111 = .ok (.iload 7, 2) := by decide +kernel
theorem dX11_best_113 : decode cX11_best 113 = .ok (.iaload, 1) := by decide +kernel
theorem dX11_best_114 : decode cX11_best 114 = .ok (.iload 4, 2) := by decide +kernel
theorem dX11_best_116 : decode cX11_best 116 = .ok (.if_icmp .lt 28, 3) := by decide +kernel
theorem dX11_best_119 : decode cX11_best 119 = .ok (.aload_n 0, 1) := by decide +kernel
theorem dX11_best_120 : decode cX11_best 120 = .ok (.getfield 57, 3) := by decide +kernel
theorem dX11_best_123 : decode cX11_best 123 = .ok (.iload_n 1, 1) := by decide +kernel
theorem dX11_best_124 : decode cX11_best 124 = .ok (.iaload, 1) := by decide +kernel
theorem dX11_best_125 : decode cX11_best 125 = .ok (.iconst 1, 1) := by decide +kernel
theorem dX11_best_126 : decode cX11_best 126 = .ok (.iload 5, 2) := by decide +kernel
theorem dX11_best_128 : decode cX11_best 128 = .ok (.isub, 1) := by decide +kernel
theorem dX11_best_129 : decode cX11_best 129 = .ok (.if_icmp .ne 19, 3) := by decide +kernel
theorem dX11_best_132 : decode cX11_best 132 = .ok (.aload_n 0, 1) := by decide +kernel
theorem dX11_best_133 : decode cX11_best 133 = .ok (.getfield 60, 3) := by decide +kernel
theorem dX11_best_136 : decode cX11_best 136 = .ok (.iload 7, 2) := by decide +kernel
theorem dX11_best_138 : decode cX11_best 138 = .ok (.iaload, 1) := by decide +kernel
theorem dX11_best_139 : decode cX11_best 139 = .ok (.iload 4, 2) := by decide +kernel
theorem dX11_best_141 : decode cX11_best 141 = .ok (.if_icmp .le 7, 3) := by decide +kernel
theorem dX11_best_144 : decode cX11_best 144 = .ok (.iconst 1, 1) := by decide +kernel
theorem dX11_best_145 : decode cX11_best 145 = .ok (.goto 4, 3) := by decide +kernel
theorem dX11_best_148 : decode cX11_best 148 = .ok (.iconst 0, 1) := by decide +kernel
theorem dX11_best_149 : decode cX11_best 149 = .ok (.istore 8, 2) := by decide +kernel
theorem dX11_best_151 : decode cX11_best 151 = .ok (.iload 8, 2) := by decide +kernel
theorem dX11_best_153 : decode cX11_best 153 = .ok (.ifCond .ne 6, 3) := by decide +kernel
theorem dX11_best_156 : decode cX11_best 156 = .ok (.goto 15, 3) := by decide +kernel
theorem dX11_best_159 : decode cX11_best 159 = .ok (.iload 6, 2) := by decide +kernel
theorem dX11_best_161 : decode cX11_best 161 = .ok (.istore_n 3, 1) := by decide +kernel
theorem dX11_best_162 : decode cX11_best 162 = .ok (.aload_n 0, 1) := by decide +kernel
theorem dX11_best_163 : decode cX11_best 163 = .ok (.getfield 60, 3) := by decide +kernel
theorem dX11_best_166 : decode cX11_best 166 = .ok (.iload 7, 2) := by decide +kernel
theorem dX11_best_168 : decode cX11_best 168 = .ok (.iaload, 1) := by decide +kernel
theorem dX11_best_169 : decode cX11_best 169 = .ok (.istore 4, 2) := by decide +kernel
theorem dX11_best_171 : decode cX11_best 171 = .ok (.iinc 6 1, 3) := by decide +kernel
theorem dX11_best_174 : decode cX11_best 174 = .ok (.goto (-133), 3) := by decide +kernel
theorem dX11_best_177 : decode cX11_best 177 = .ok (.aload_n 0, 1) := by decide +kernel
theorem dX11_best_178 : decode cX11_best 178 = .ok (.aload_n 0, 1) := by decide +kernel
theorem dX11_best_179 : decode cX11_best 179 = .ok (.getfield 138, 3) := by decide +kernel
theorem dX11_best_182 : decode cX11_best 182 = .ok (.invokevirtual 161, 3) := by decide +kernel
theorem dX11_best_185 : decode cX11_best 185 = .ok (.aload_n 0, 1) := by decide +kernel
theorem dX11_best_186 : decode cX11_best 186 = .ok (.invokevirtual 164, 3) := by decide +kernel
theorem dX11_best_189 : decode cX11_best 189 = .ok (.iload_n 3, 1) := by decide +kernel
theorem dX11_best_190 : decode cX11_best 190 = .ok (.ireturn, 1) := by decide +kernel
set_option maxRecDepth 20000 in
theorem ggX11_count_X11_isIn : GoodIn wsX11_count wsX11_isIn := goodIn_r _ [6] (by decide +kernel) (by decide +kernel)
set_option maxRecDepth 20000 in
theorem gX11_count_X11_isIn : GoodIn wsX11_count (va_wsS RX11 69 yX11_isIn wsX11_isIn) := goodIn_app (goodIn_of _ (by decide +kernel)) ggX11_count_X11_isIn
set_option maxRecDepth 20000 in
theorem ggX11_count_X11_stands : GoodIn wsX11_count wsX11_stands := goodIn_r _ [10, 11, 12, 13, 14, 15, 16, 5, 17, 18, 19, 20, 21, 22, 23, 24, 25, 26, 27, 28, 29, 30, 31, 32, 33, 34, 35, 36, 37, 38, 39, 40, 41, 42, 43, 44, 45, 46, 47, 48] (by decide +kernel) (by decide +kernel)
set_option maxRecDepth 20000 in
theorem gX11_count_X11_stands : GoodIn wsX11_count (wsV RX11 184 RX11 yX11_stands wsX11_stands) := goodIn_app (goodIn_of _ (by decide +kernel)) ggX11_count_X11_stands
theorem dX11_count_0 : decode cX11_count 0 = .ok (.aload_n 0, 1) := by decide +kernel
theorem dX11_count_1 : decode cX11_count 1 = .ok (.getfield 76, 3) := by decide +kernel
theorem dX11_count_4 : decode cX11_count 4 = .ok (.ifCond .eq 21, 3) := by decide +kernel
theorem dX11_count_7 : decode cX11_count 7 = .ok (.iload_n 1, 1) := by decide +kernel
theorem dX11_count_8 : decode cX11_count 8 = .ok (.iconst 0, 1) := by decide +kernel
theorem dX11_count_9 : decode cX11_count 9 = .ok (.iconst 2, 1) := by decide +kernel
theorem dX11_count_10 : decode cX11_count 10 = .ok (.invokestatic 69, 3) := by decide +kernel
theorem dX11_count_13 : decode cX11_count 13 = .ok (.ifCond .eq 12, 3) := by decide +kernel
theorem dX11_count_16 : decode cX11_count 16 = .ok (.iload_n 2, 1) := by decide +kernel
theorem dX11_count_17 : decode cX11_count 17 = .ok (.iconst 0, 1) := by decide +kernel
theorem dX11_count_18 : decode cX11_count 18 = .ok (.iconst 1, 1) := by decide +kernel
theorem dX11_count_19 : decode cX11_count 19 = .ok (.invokestatic 69, 3) := by decide +kernel
theorem dX11_count_22 : decode cX11_count 22 = .ok (.ifCond .ne 5, 3) := by decide +kernel
theorem dX11_count_25 : decode cX11_count 25 = .ok (.iconst (-1), 1) := by decide +kernel
theorem dX11_count_26 : decode cX11_count 26 = .ok (.ireturn, 1) := by decide +kernel
theorem dX11_count_27 : decode cX11_count 27 = .ok (.iconst 0, 1) := by decide +kernel
theorem dX11_count_28 : decode cX11_count 28 = .ok (.istore_n 3, 1) := by decide +kernel
theorem dX11_count_29 : decode cX11_count 29 = .ok (.iload_n 2, 1) := by decide +kernel
theorem dX11_count_30 : decode cX11_count 30 = .ok (.istore 4, 2) := by decide +kernel
theorem dX11_count_32 : decode cX11_count 32 = .ok (.iload 4, 2) := by decide +kernel
theorem dX11_count_34 : decode cX11_count 34 = .ok (.i2l, 1) := by decide +kernel
theorem dX11_count_35 : decode cX11_count 35 = .ok (.aload_n 0, 1) := by decide +kernel
theorem dX11_count_36 : decode cX11_count 36 = .ok (.invokevirtual 184, 3) := by decide +kernel
theorem dX11_count_39 : decode cX11_count 39 = .ok (.lcmp, 1) := by decide +kernel
theorem dX11_count_40 : decode cX11_count 40 = .ok (.ifCond .ge 28, 3) := by decide +kernel
theorem dX11_count_43 : decode cX11_count 43 = .ok (.iload_n 3, 1) := by decide +kernel
theorem dX11_count_44 : decode cX11_count 44 = .ok (.aload_n 0, 1) := by decide +kernel
theorem dX11_count_45 : decode cX11_count 45 = .ok (.getfield 57, 3) := by decide +kernel
theorem dX11_count_48 : decode cX11_count 48 = .ok (.iload 4, 2) := by decide +kernel
theorem dX11_count_50 : decode cX11_count 50 = .ok (.iaload, 1) := by decide +kernel
theorem dX11_count_51 : decode cX11_count 51 = .ok (.iload_n 1, 1) := by decide +kernel
theorem dX11_count_52 : decode cX11_count 52 = .ok (.if_icmp .ne 7, 3) := by decide +kernel
theorem dX11_count_55 : decode cX11_count 55 = .ok (.iconst 1, 1) := by decide +kernel
theorem dX11_count_56 : decode cX11_count 56 = .ok (.goto 4, 3) := by decide +kernel
theorem dX11_count_59 : decode cX11_count 59 = .ok (.iconst 0, 1) := by decide +kernel
theorem dX11_count_60 : decode cX11_count 60 = .ok (.iadd, 1) := by decide +kernel
theorem dX11_count_61 : decode cX11_count 61 = .ok (.istore_n 3, 1) := by decide +kernel
theorem dX11_count_62 : decode cX11_count 62 = .ok (.iinc 4 2, 3) := by decide +kernel
theorem dX11_count_65 : decode cX11_count 65 = .ok (.goto (-33), 3) := by decide +kernel
theorem dX11_count_68 : decode cX11_count 68 = .ok (.iload_n 3, 1) := by decide +kernel
theorem dX11_count_69 : decode cX11_count 69 = .ok (.ireturn, 1) := by decide +kernel
set_option maxRecDepth 20000 in
theorem ggX11_most_X11_isIn : GoodIn wsX11_most wsX11_isIn := goodIn_r _ [11] (by decide +kernel) (by decide +kernel)
set_option maxRecDepth 20000 in
theorem gX11_most_X11_isIn : GoodIn wsX11_most (va_wsS RX11 69 yX11_isIn wsX11_isIn) := goodIn_app (goodIn_of _ (by decide +kernel)) ggX11_most_X11_isIn
set_option maxRecDepth 20000 in
theorem ggX11_most_X11_stands : GoodIn wsX11_most wsX11_stands := goodIn_r _ [15, 16, 17, 18, 19, 20, 21, 10, 22, 23, 24, 25, 26, 27, 28, 29, 30, 31, 32, 33, 34, 35, 36, 37, 38, 39, 40, 41, 42, 43, 44, 45, 46, 47, 48, 49, 50, 51, 52, 53] (by decide +kernel) (by decide +kernel)
set_option maxRecDepth 20000 in
theorem gX11_most_X11_stands : GoodIn wsX11_most (wsV RX11 184 RX11 yX11_stands wsX11_stands) := goodIn_app (goodIn_of _ (by decide +kernel)) ggX11_most_X11_stands
theorem dX11_most_0 : decode cX11_most 0 = .ok (.aload_n 0, 1) := by decide +kernel
theorem dX11_most_1 : decode cX11_most 1 = .ok (.getfield 76, 3) := by decide +kernel
theorem dX11_most_4 : decode cX11_most 4 = .ok (.ifCond .eq 12, 3) := by decide +kernel
theorem dX11_most_7 : decode cX11_most 7 = .ok (.iload_n 1, 1) := by decide +kernel
theorem dX11_most_8 : decode cX11_most 8 = .ok (.iconst 0, 1) := by decide +kernel
theorem dX11_most_9 : decode cX11_most 9 = .ok (.iconst 1, 1) := by decide +kernel
theorem dX11_most_10 : decode cX11_most 10 = .ok (.invokestatic 69, 3) := by decide +kernel
theorem dX11_most_13 : decode cX11_most 13 = .ok (.ifCond .ne 5, 3) := by decide +kernel
theorem dX11_most_16 : decode cX11_most 16 = .ok (.iconst (-1), 1) := by decide +kernel
theorem dX11_most_17 : decode cX11_most 17 = .ok (.ireturn, 1) := by decide +kernel
theorem dX11_most_18 : decode cX11_most 18 = .ok (.iconst (-1), 1) := by decide +kernel
theorem dX11_most_19 : decode cX11_most 19 = .ok (.istore_n 2, 1) := by decide +kernel
theorem dX11_most_20 : decode cX11_most 20 = .ok (.iconst 0, 1) := by decide +kernel
theorem dX11_most_21 : decode cX11_most 21 = .ok (.istore_n 3, 1) := by decide +kernel
theorem dX11_most_22 : decode cX11_most 22 = .ok (.iload_n 3, 1) := by decide +kernel
theorem dX11_most_23 : decode cX11_most 23 = .ok (.i2l, 1) := by decide +kernel
theorem dX11_most_24 : decode cX11_most 24 = .ok (.aload_n 0, 1) := by decide +kernel
theorem dX11_most_25 : decode cX11_most 25 = .ok (.invokevirtual 184, 3) := by decide +kernel
theorem dX11_most_28 : decode cX11_most 28 = .ok (.lcmp, 1) := by decide +kernel
theorem dX11_most_29 : decode cX11_most 29 = .ok (.ifCond .ge 30, 3) := by decide +kernel
theorem dX11_most_32 : decode cX11_most 32 = .ok (.aload_n 0, 1) := by decide +kernel
theorem dX11_most_33 : decode cX11_most 33 = .ok (.getfield 57, 3) := by decide +kernel
theorem dX11_most_36 : decode cX11_most 36 = .ok (.iload_n 3, 1) := by decide +kernel
theorem dX11_most_37 : decode cX11_most 37 = .ok (.iaload, 1) := by decide +kernel
theorem dX11_most_38 : decode cX11_most 38 = .ok (.iload_n 1, 1) := by decide +kernel
theorem dX11_most_39 : decode cX11_most 39 = .ok (.if_icmp .ne 14, 3) := by decide +kernel
theorem dX11_most_42 : decode cX11_most 42 = .ok (.iload_n 2, 1) := by decide +kernel
theorem dX11_most_43 : decode cX11_most 43 = .ok (.aload_n 0, 1) := by decide +kernel
theorem dX11_most_44 : decode cX11_most 44 = .ok (.getfield 60, 3) := by decide +kernel
theorem dX11_most_47 : decode cX11_most 47 = .ok (.iload_n 3, 1) := by decide +kernel
theorem dX11_most_48 : decode cX11_most 48 = .ok (.iaload, 1) := by decide +kernel
theorem dX11_most_49 : decode cX11_most 49 = .ok (.invokestatic 204, 3) := by decide +kernel
theorem dX11_most_52 : decode cX11_most 52 = .ok (.istore_n 2, 1) := by decide +kernel
theorem dX11_most_53 : decode cX11_most 53 = .ok (.iinc 3 1, 3) := by decide +kernel
theorem dX11_most_56 : decode cX11_most 56 = .ok (.goto (-34), 3) := by decide +kernel
theorem dX11_most_59 : decode cX11_most 59 = .ok (.iload_n 2, 1) := by decide +kernel
theorem dX11_most_60 : decode cX11_most 60 = .ok (.ireturn, 1) := by decide +kernel
set_option maxRecDepth 20000 in
theorem ggX11_stand_X11_isIn : GoodIn wsX11_stand wsX11_isIn := goodIn_r _ [7] (by decide +kernel) (by decide +kernel)
set_option maxRecDepth 20000 in
theorem gX11_stand_X11_isIn : GoodIn wsX11_stand (va_wsS RX11 69 yX11_isIn wsX11_isIn) := goodIn_app (goodIn_of _ (by decide +kernel)) ggX11_stand_X11_isIn
set_option maxRecDepth 20000 in
theorem ggX11_stand_X11_stands : GoodIn wsX11_stand wsX11_stands := goodIn_r _ [11, 2, 12, 13, 14, 15, 16, 6, 17, 18, 19, 20, 21, 22, 23, 24, 25, 26, 27, 28, 29, 30, 31, 32, 33, 34, 35, 36, 37, 38, 39, 40, 41, 42, 43, 44, 45, 46, 47, 48] (by decide +kernel) (by decide +kernel)
set_option maxRecDepth 20000 in
theorem gX11_stand_X11_stands : GoodIn wsX11_stand (wsV RX11 184 RX11 yX11_stands wsX11_stands) := goodIn_app (goodIn_of _ (by decide +kernel)) ggX11_stand_X11_stands
theorem dX11_stand_0 : decode cX11_stand 0 = .ok (.aload_n 0, 1) := by decide +kernel
theorem dX11_stand_1 : decode cX11_stand 1 = .ok (.getfield 76, 3) := by decide +kernel
theorem dX11_stand_4 : decode cX11_stand 4 = .ok (.ifCond .eq 30, 3) := by decide +kernel
theorem dX11_stand_7 : decode cX11_stand 7 = .ok (.iload_n 2, 1) := by decide +kernel
theorem dX11_stand_8 : decode cX11_stand 8 = .ok (.iconst 0, 1) := by decide +kernel
theorem dX11_stand_9 : decode cX11_stand 9 = .ok (.iconst 1, 1) := by decide +kernel
theorem dX11_stand_10 : decode cX11_stand 10 = .ok (.invokestatic 69, 3) := by decide +kernel
theorem dX11_stand_13 : decode cX11_stand 13 = .ok (.ifCond .eq 21, 3) := by decide +kernel
theorem dX11_stand_16 : decode cX11_stand 16 = .ok (.iload_n 1, 1) := by decide +kernel
theorem dX11_stand_17 : decode cX11_stand 17 = .ok (.ifCond .lt 17, 3) := by decide +kernel
theorem dX11_stand_20 : decode cX11_stand 20 = .ok (.iload_n 1, 1) := by decide +kernel
theorem dX11_stand_21 : decode cX11_stand 21 = .ok (.i2l, 1) := by decide +kernel
theorem dX11_stand_22 : decode cX11_stand 22 = .ok (.aload_n 0, 1) := by decide +kernel
theorem dX11_stand_23 : decode cX11_stand 23 = .ok (.invokevirtual 184, 3) := by decide +kernel
theorem dX11_stand_26 : decode cX11_stand 26 = .ok (.ldc2_w 180, 3) := by decide +kernel
theorem dX11_stand_29 : decode cX11_stand 29 = .ok (.ldiv, 1) := by decide +kernel
theorem dX11_stand_30 : decode cX11_stand 30 = .ok (.lcmp, 1) := by decide +kernel
theorem dX11_stand_31 : decode cX11_stand 31 = .ok (.ifCond .lt 5, 3) := by decide +kernel
theorem dX11_stand_34 : decode cX11_stand 34 = .ok (.iconst (-1), 1) := by decide +kernel
theorem dX11_stand_35 : decode cX11_stand 35 = .ok (.ireturn, 1) := by decide +kernel
theorem dX11_stand_36 : decode cX11_stand 36 = .ok (.aload_n 0, 1) := by decide +kernel
theorem dX11_stand_37 : decode cX11_stand 37 = .ok (.getfield 57, 3) := by decide +kernel
theorem dX11_stand_40 : decode cX11_stand 40 = .ok (.iconst 2, 1) := by decide +kernel
theorem dX11_stand_41 : decode cX11_stand 41 = .ok (.iload_n 1, 1) := by decide +kernel
theorem dX11_stand_42 : decode cX11_stand 42 = .ok (.imul, 1) := by decide +kernel
theorem dX11_stand_43 : decode cX11_stand 43 = .ok (.iload_n 2, 1) := by decide +kernel
theorem dX11_stand_44 : decode cX11_stand 44 = .ok (.iadd, 1) := by decide +kernel
theorem dX11_stand_45 : decode cX11_stand 45 = .ok (.iaload, 1) := by decide +kernel
theorem dX11_stand_46 : decode cX11_stand 46 = .ok (.istore_n 3, 1) := by decide +kernel
theorem dX11_stand_47 : decode cX11_stand 47 = .ok (.iload_n 3, 1) := by decide +kernel
theorem dX11_stand_48 : decode cX11_stand 48 = .ok (.iconst 2, 1) := by decide +kernel
theorem dX11_stand_49 : decode cX11_stand 49 = .ok (.if_icmp .le 7, 3) := by decide +kernel
theorem dX11_stand_52 : decode cX11_stand 52 = .ok (.iconst (-1), 1) := by decide +kernel
theorem dX11_stand_53 : decode cX11_stand 53 = .ok (.goto 4, 3) := by decide +kernel
theorem dX11_stand_56 : decode cX11_stand 56 = .ok (.iload_n 3, 1) := by decide +kernel
theorem dX11_stand_57 : decode cX11_stand 57 = .ok (.ireturn, 1) := by decide +kernel
theorem dJ9_max_7cf53_0 : decode cJ9_max_7cf53 0 = .ok (.iload_n 0, 1) := by decide +kernel
theorem dJ9_max_7cf53_1 : decode cJ9_max_7cf53 1 = .ok (.iload_n 1, 1) := by decide +kernel
theorem dJ9_max_7cf53_2 : decode cJ9_max_7cf53 2 = .ok (.if_icmp .lt 7, 3) := by decide +kernel
theorem dJ9_max_7cf53_5 : decode cJ9_max_7cf53 5 = .ok (.iload_n 0, 1) := by decide +kernel
theorem dJ9_max_7cf53_6 : decode cJ9_max_7cf53 6 = .ok (.goto 4, 3) := by decide +kernel
theorem dJ9_max_7cf53_9 : decode cJ9_max_7cf53 9 = .ok (.iload_n 1, 1) := by decide +kernel
theorem dJ9_max_7cf53_10 : decode cJ9_max_7cf53 10 = .ok (.ireturn, 1) := by decide +kernel
theorem dJ9_min_7cf53_0 : decode cJ9_min_7cf53 0 = .ok (.iload_n 0, 1) := by decide +kernel
theorem dJ9_min_7cf53_1 : decode cJ9_min_7cf53 1 = .ok (.iload_n 1, 1) := by decide +kernel
theorem dJ9_min_7cf53_2 : decode cJ9_min_7cf53 2 = .ok (.if_icmp .gt 7, 3) := by decide +kernel
theorem dJ9_min_7cf53_5 : decode cJ9_min_7cf53 5 = .ok (.iload_n 0, 1) := by decide +kernel
theorem dJ9_min_7cf53_6 : decode cJ9_min_7cf53 6 = .ok (.goto 4, 3) := by decide +kernel
theorem dJ9_min_7cf53_9 : decode cJ9_min_7cf53 9 = .ok (.iload_n 1, 1) := by decide +kernel
theorem dJ9_min_7cf53_10 : decode cJ9_min_7cf53 10 = .ok (.ireturn, 1) := by decide +kernel
theorem dJ7_fill_53178_0 : decode cJ7_fill_53178 0 = .ok (.iconst 0, 1) := by decide +kernel
theorem dJ7_fill_53178_1 : decode cJ7_fill_53178 1 = .ok (.istore_n 2, 1) := by decide +kernel
theorem dJ7_fill_53178_2 : decode cJ7_fill_53178 2 = .ok (.aload_n 0, 1) := by decide +kernel
theorem dJ7_fill_53178_3 : decode cJ7_fill_53178 3 = .ok (.arraylength, 1) := by decide +kernel
theorem dJ7_fill_53178_4 : decode cJ7_fill_53178 4 = .ok (.istore_n 3, 1) := by decide +kernel
theorem dJ7_fill_53178_5 : decode cJ7_fill_53178 5 = .ok (.iload_n 2, 1) := by decide +kernel
theorem dJ7_fill_53178_6 : decode cJ7_fill_53178 6 = .ok (.iload_n 3, 1) := by decide +kernel
theorem dJ7_fill_53178_7 : decode cJ7_fill_53178 7 = .ok (.if_icmp .ge 13, 3) := by decide +kernel
theorem dJ7_fill_53178_10 : decode cJ7_fill_53178 10 = .ok (.aload_n 0, 1) := by decide +kernel
theorem dJ7_fill_53178_11 : decode cJ7_fill_53178 11 = .ok (.iload_n 2, 1) := by decide +kernel
theorem dJ7_fill_53178_12 : decode cJ7_fill_53178 12 = .ok (.iload_n 1, 1) := by decide +kernel
theorem dJ7_fill_53178_13 : decode cJ7_fill_53178 13 = .ok (.iastore, 1) := by decide +kernel
theorem dJ7_fill_53178_14 : decode cJ7_fill_53178 14 = .ok (.iinc 2 1, 3) := by decide +kernel
theorem dJ7_fill_53178_17 : decode cJ7_fill_53178 17 = .ok (.goto (-12), 3) := by decide +kernel
theorem dJ7_fill_53178_20 : decode cJ7_fill_53178 20 = .ok (.return_, 1) := by decide +kernel
abbrev vwCl : List vw_C := [(RX0, TX0, 5), (RX1, TX1, 5), (RX2, TX2, 4), (RX3, TX3, 9), (RX4, TX4, 5), (RX5, TX5, 3), (RX6, TX6, 9), (RX7, TX7, 15), (RX8, TX8, 3), (RX9, TX9, 3), (RX10, TX10, 6), (RX11, TX11, 29)]
