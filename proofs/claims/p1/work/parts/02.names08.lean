theorem dX11_took_26 : decode cX11_took 26 = .ok (.aload_n 0, 1) := by decide +kernel
theorem dX11_took_27 : decode cX11_took 27 = .ok (.getfield 103, 3) := by decide +kernel
theorem dX11_took_30 : decode cX11_took 30 = .ok (.if_icmp .ge 30, 3) := by decide +kernel
theorem dX11_took_33 : decode cX11_took 33 = .ok (.aload_n 0, 1) := by decide +kernel
theorem dX11_took_34 : decode cX11_took 34 = .ok (.getfield 47, 3) := by decide +kernel
theorem dX11_took_37 : decode cX11_took 37 = .ok (.iload_n 3, 1) := by decide +kernel
theorem dX11_took_38 : decode cX11_took 38 = .ok (.baload, 1) := by decide +kernel
theorem dX11_took_39 : decode cX11_took 39 = .ok (.ifCond .ne 6, 3) := by decide +kernel
theorem dX11_took_42 : decode cX11_took 42 = .ok (.goto 12, 3) := by decide +kernel
theorem dX11_took_45 : decode cX11_took 45 = .ok (.iload_n 2, 1) := by decide +kernel
theorem dX11_took_46 : decode cX11_took 46 = .ok (.ifCond .ne 5, 3) := by decide +kernel
theorem dX11_took_49 : decode cX11_took 49 = .ok (.iload_n 3, 1) := by decide +kernel
theorem dX11_took_50 : decode cX11_took 50 = .ok (.ireturn, 1) := by decide +kernel
theorem dX11_took_51 : decode cX11_took 51 = .ok (.iinc 2 (-1), 3) := by decide +kernel
theorem dX11_took_54 : decode cX11_took 54 = .ok (.iinc 3 1, 3) := by decide +kernel
theorem dX11_took_57 : decode cX11_took 57 = .ok (.goto (-32), 3) := by decide +kernel
theorem dX11_took_60 : decode cX11_took 60 = .ok (.iconst (-1), 1) := by decide +kernel
theorem dX11_took_61 : decode cX11_took 61 = .ok (.ireturn, 1) := by decide +kernel
set_option maxRecDepth 20000 in
theorem ggX11_comesOut_X11_isGoal : GoodIn wsX11_comesOut wsX11_isGoal := goodIn_r _ [10, 11, 12, 13, 14, 15, 16, 9, 17, 18, 23, 24, 25, 26, 27, 28, 29, 30, 31, 32, 33, 34, 35, 36, 37, 38, 39, 40, 41, 42, 43, 44, 45, 46, 47, 48, 49, 50, 51] (by decide +kernel) (by decide +kernel)
set_option maxRecDepth 20000 in
theorem gX11_comesOut_X11_isGoal : GoodIn wsX11_comesOut (wsV RX11 148 RX11 yX11_isGoal wsX11_isGoal) := goodIn_app (goodIn_of _ (by decide +kernel)) ggX11_comesOut_X11_isGoal
set_option maxRecDepth 20000 in
theorem ggX11_comesOut_X11_along : GoodIn wsX11_comesOut wsX11_along := goodIn_r _ [22, 13, 18, 23, 24, 25, 26, 27, 28, 29, 30, 31, 32, 33, 34, 35, 36, 37, 38, 39, 40, 41, 42, 43, 44, 45, 46, 47, 48, 49, 50, 51] (by decide +kernel) (by decide +kernel)
set_option maxRecDepth 20000 in
theorem gX11_comesOut_X11_along : GoodIn wsX11_comesOut (wsV RX11 92 RX11 yX11_along wsX11_along) := goodIn_app (goodIn_of _ (by decide +kernel)) ggX11_comesOut_X11_along
theorem dX11_comesOut_0 : decode cX11_comesOut 0 = .ok (.iconst 0, 1) := by decide +kernel
theorem dX11_comesOut_1 : decode cX11_comesOut 1 = .ok (.istore_n 2, 1) := by decide +kernel
theorem dX11_comesOut_2 : decode cX11_comesOut 2 = .ok (.iload_n 2, 1) := by decide +kernel
theorem dX11_comesOut_3 : decode cX11_comesOut 3 = .ok (.bipush 81, 2) := by decide +kernel
theorem dX11_comesOut_5 : decode cX11_comesOut 5 = .ok (.if_icmp .ge 16, 3) := by decide +kernel
theorem dX11_comesOut_8 : decode cX11_comesOut 8 = .ok (.aload_n 0, 1) := by decide +kernel
theorem dX11_comesOut_9 : decode cX11_comesOut 9 = .ok (.getfield 51, 3) := by decide +kernel
theorem dX11_comesOut_12 : decode cX11_comesOut 12 = .ok (.iload_n 2, 1) := by decide +kernel
theorem dX11_comesOut_13 : decode cX11_comesOut 13 = .ok (.iconst 0, 1) := by decide +kernel
theorem dX11_comesOut_14 : decode cX11_comesOut 14 = .ok (.bastore, 1) := by decide +kernel
theorem dX11_comesOut_15 : decode cX11_comesOut 15 = .ok (.iinc 2 1, 3) := by decide +kernel
theorem dX11_comesOut_18 : decode cX11_comesOut 18 = .ok (.goto (-16), 3) := by decide +kernel
theorem dX11_comesOut_21 : decode cX11_comesOut 21 = .ok (.iconst 0, 1) := by decide +kernel
theorem dX11_comesOut_22 : decode cX11_comesOut 22 = .ok (.istore_n 2, 1) := by decide +kernel
theorem dX11_comesOut_23 : decode cX11_comesOut 23 = .ok (.iconst 1, 1) := by decide +kernel
theorem dX11_comesOut_24 : decode cX11_comesOut 24 = .ok (.istore_n 3, 1) := by decide +kernel
theorem dX11_comesOut_25 : decode cX11_comesOut 25 = .ok (.aload_n 0, 1) := by decide +kernel
theorem dX11_comesOut_26 : decode cX11_comesOut 26 = .ok (.getfield 54, 3) := by decide +kernel
theorem dX11_comesOut_29 : decode cX11_comesOut 29 = .ok (.iconst 0, 1) := by decide +kernel
theorem dX11_comesOut_30 : decode cX11_comesOut 30 = .ok (.aload_n 0, 1) := by decide +kernel
theorem dX11_comesOut_31 : decode cX11_comesOut 31 = .ok (.getfield 30, 3) := by decide +kernel
theorem dX11_comesOut_34 : decode cX11_comesOut 34 = .ok (.aload_n 0, 1) := by decide +kernel
theorem dX11_comesOut_35 : decode cX11_comesOut 35 = .ok (.getfield 135, 3) := by decide +kernel
theorem dX11_comesOut_38 : decode cX11_comesOut 38 = .ok (.iaload, 1) := by decide +kernel
theorem dX11_comesOut_39 : decode cX11_comesOut 39 = .ok (.iastore, 1) := by decide +kernel
theorem dX11_comesOut_40 : decode cX11_comesOut 40 = .ok (.aload_n 0, 1) := by decide +kernel
theorem dX11_comesOut_41 : decode cX11_comesOut 41 = .ok (.getfield 51, 3) := by decide +kernel
theorem dX11_comesOut_44 : decode cX11_comesOut 44 = .ok (.aload_n 0, 1) := by decide +kernel
theorem dX11_comesOut_45 : decode cX11_comesOut 45 = .ok (.getfield 30, 3) := by decide +kernel
theorem dX11_comesOut_48 : decode cX11_comesOut 48 = .ok (.aload_n 0, 1) := by decide +kernel
theorem dX11_comesOut_49 : decode cX11_comesOut 49 = .ok (.getfield 135, 3) := by decide +kernel
theorem dX11_comesOut_52 : decode cX11_comesOut 52 = .ok (.iaload, 1) := by decide +kernel
theorem dX11_comesOut_53 : decode cX11_comesOut 53 = .ok (.iconst 1, 1) := by decide +kernel
theorem dX11_comesOut_54 : decode cX11_comesOut 54 = .ok (.bastore, 1) := by decide +kernel
theorem dX11_comesOut_55 : decode cX11_comesOut 55 = .ok (.iload_n 2, 1) := by decide +kernel
theorem dX11_comesOut_56 : decode cX11_comesOut 56 = .ok (.iload_n 3, 1) := by decide +kernel
theorem dX11_comesOut_57 : decode cX11_comesOut 57 = .ok (.if_icmp .ge 114, 3) := by decide +kernel
theorem dX11_comesOut_60 : decode cX11_comesOut 60 = .ok (.aload_n 0, 1) := by decide +kernel
theorem dX11_comesOut_61 : decode cX11_comesOut 61 = .ok (.getfield 54, 3) := by decide +kernel
theorem dX11_comesOut_64 : decode cX11_comesOut 64 = .ok (.iload_n 2, 1) := by decide +kernel
theorem dX11_comesOut_65 : decode cX11_comesOut 65 = .ok (.iaload, 1) := by decide +kernel
theorem dX11_comesOut_66 : decode cX11_comesOut 66 = .ok (.istore 4, 2) := by decide +kernel
theorem dX11_comesOut_68 : decode cX11_comesOut 68 = .ok (.iinc 2 1, 3) := by decide +kernel
theorem dX11_comesOut_71 : decode cX11_comesOut 71 = .ok (.aload_n 0, 1) := by decide +kernel
theorem dX11_comesOut_72 : decode cX11_comesOut 72 = .ok (.iload 4, 2) := by decide +kernel
theorem dX11_comesOut_74 : decode cX11_comesOut 74 = .ok (.invokevirtual 148, 3) := by decide +kernel
theorem dX11_comesOut_77 : decode cX11_comesOut 77 = .ok (.ifCond .eq 5, 3) := by decide +kernel
theorem dX11_comesOut_80 : decode cX11_comesOut 80 = .ok (.iconst 1, 1) := by decide +kernel
theorem dX11_comesOut_81 : decode cX11_comesOut 81 = .ok (.ireturn, 1) := by decide +kernel
theorem dX11_comesOut_82 : decode cX11_comesOut 82 = .ok (.iconst 0, 1) := by decide +kernel
theorem dX11_comesOut_83 : decode cX11_comesOut 83 = .ok (.istore 5, 2) := by decide +kernel
theorem dX11_comesOut_85 : decode cX11_comesOut 85 = .ok (.iload 5, 2) := by decide +kernel
theorem dX11_comesOut_87 : decode cX11_comesOut 87 = .ok (.iconst 4, 1) := by decide +kernel
theorem dX11_comesOut_88 : decode cX11_comesOut 88 = .ok (.if_icmp .ge 80, 3) := by decide +kernel
theorem dX11_comesOut_91 : decode cX11_comesOut 91 = .ok (.aload_n 0, 1) := by decide +kernel
theorem dX11_comesOut_92 : decode cX11_comesOut 92 = .ok (.iload 4, 2) := by decide +kernel
theorem dX11_comesOut_94 : decode cX11_comesOut 94 = .ok (.iload 5, 2) := by decide +kernel
theorem dX11_comesOut_96 : decode cX11_comesOut 96 = .ok (.iconst 1, 1) := by decide +kernel
theorem dX11_comesOut_97 : decode cX11_comesOut 97 = .ok (.invokevirtual 92, 3) := by decide +kernel
theorem dX11_comesOut_100 : decode cX11_comesOut 100 = .ok (.istore 6, 2) := by decide +kernel
theorem dX11_comesOut_102 : decode cX11_comesOut 102 = .ok (.iload 6, 2) := by decide +kernel
theorem dX11_comesOut_104 : decode cX11_comesOut 104 = .ok (.iconst (-1), 1) := by decide +kernel
theorem dX11_comesOut_105 : decode cX11_comesOut 105 = .ok (.if_icmp .eq 57, 3) := by decide +kernel
theorem dX11_comesOut_108 : decode cX11_comesOut 108 = .ok (.aload_n 0, 1) := by decide +kernel
theorem dX11_comesOut_109 : decode cX11_comesOut 109 = .ok (.getfield 51, 3) := by decide +kernel
theorem dX11_comesOut_112 : decode cX11_comesOut 112 = .ok (.iload 6, 2) := by decide +kernel
theorem dX11_comesOut_114 : decode cX11_comesOut 114 = .ok (.baload, 1) := by decide +kernel
theorem dX11_comesOut_115 : decode cX11_comesOut 115 = .ok (.ifCond .ne 47, 3) := by decide +kernel
theorem dX11_comesOut_118 : decode cX11_comesOut 118 = .ok (.aload_n 0, 1) := by decide +kernel
theorem dX11_comesOut_119 : decode cX11_comesOut 119 = .ok (.getfield 33, 3) := by decide +kernel
theorem dX11_comesOut_122 : decode cX11_comesOut 122 = .ok (.iload 6, 2) := by decide +kernel
theorem dX11_comesOut_124 : decode cX11_comesOut 124 = .ok (.iaload, 1) := by decide +kernel
theorem dX11_comesOut_125 : decode cX11_comesOut 125 = .ok (.iconst (-1), 1) := by decide +kernel
theorem dX11_comesOut_126 : decode cX11_comesOut 126 = .ok (.if_icmp .eq 17, 3) := by decide +kernel
theorem dX11_comesOut_129 : decode cX11_comesOut 129 = .ok (.aload_n 0, 1) := by decide +kernel
theorem dX11_comesOut_130 : decode cX11_comesOut 130 = .ok (.getfield 33, 3) := by decide +kernel
theorem dX11_comesOut_133 : decode cX11_comesOut 133 = .ok (.iload 6, 2) := by decide +kernel
theorem dX11_comesOut_135 : decode cX11_comesOut 135 = .ok (.iaload, 1) := by decide +kernel
theorem dX11_comesOut_136 : decode cX11_comesOut 136 = .ok (.iload_n 1, 1) := by decide +kernel
theorem dX11_comesOut_137 : decode cX11_comesOut 137 = .ok (.if_icmp .eq 6, 3) := by decide +kernel
theorem dX11_comesOut_140 : decode cX11_comesOut 140 = .ok (.goto 22, 3) := by decide +kernel
theorem dX11_comesOut_143 : decode cX11_comesOut 143 = .ok (.aload_n 0, 1) := by decide +kernel
theorem dX11_comesOut_144 : decode cX11_comesOut 144 = .ok (.getfield 51, 3) := by decide +kernel
theorem dX11_comesOut_147 : decode cX11_comesOut 147 = .ok (.iload 6, 2) := by decide +kernel
theorem dX11_comesOut_149 : decode cX11_comesOut 149 = .ok (.iconst 1, 1) := by decide +kernel
theorem dX11_comesOut_150 : decode cX11_comesOut 150 = .ok (.bastore, 1) := by decide +kernel
theorem dX11_comesOut_151 : decode cX11_comesOut 151 = .ok (.aload_n 0, 1) := by decide +kernel
theorem dX11_comesOut_152 : decode cX11_comesOut 152 = .ok (.getfield 54, 3) := by decide +kernel
theorem dX11_comesOut_155 : decode cX11_comesOut 155 = .ok (.iload_n 3, 1) := by decide +kernel
theorem dX11_comesOut_156 : decode cX11_comesOut 156 = .ok (.iload 6, 2) := by decide +kernel
theorem dX11_comesOut_158 : decode cX11_comesOut 158 = .ok (.iastore, 1) := by decide +kernel
theorem dX11_comesOut_159 : decode cX11_comesOut 159 = .ok (.iinc 3 1, 3) := by decide +kernel
theorem dX11_comesOut_162 : decode cX11_comesOut 162 = .ok (.iinc 5 1, 3) := by decide +kernel
theorem dX11_comesOut_165 : decode cX11_comesOut 165 = .ok (.goto (-80), 3) := by decide +kernel
theorem dX11_comesOut_168 : decode cX11_comesOut 168 = .ok (.goto (-113), 3) := by decide +kernel
theorem dX11_comesOut_171 : decode cX11_comesOut 171 = .ok (.iconst 0, 1) := by decide +kernel
theorem dX11_comesOut_172 : decode cX11_comesOut 172 = .ok (.ireturn, 1) := by decide +kernel
set_option maxRecDepth 20000 in
theorem ggX11_ring_X11_isGoal : GoodIn wsX11_ring wsX11_isGoal := goodIn_r _ [8, 9, 10, 11, 12, 13, 14, 7, 15, 16, 28, 29, 30, 31, 32, 33, 34, 35, 36, 37, 38, 39, 40, 41, 42, 43, 44, 45, 46, 47, 48, 49, 50, 51, 52, 53, 54, 55, 56] (by decide +kernel) (by decide +kernel)
set_option maxRecDepth 20000 in
theorem gX11_ring_X11_isGoal : GoodIn wsX11_ring (wsV RX11 148 RX11 yX11_isGoal wsX11_isGoal) := goodIn_app (goodIn_of _ (by decide +kernel)) ggX11_ring_X11_isGoal
set_option maxRecDepth 20000 in
theorem ggX11_ring_X11_comesOut : GoodIn wsX11_ring wsX11_comesOut := goodIn_r _ [20, 21, 22, 2, 3, 23, 4, 5, 6, 7, 8, 9, 10, 11, 12, 13, 14, 15, 16, 24, 25, 26, 27, 28, 29, 30, 31, 32, 33, 34, 35, 36, 37, 38, 39, 40, 41, 42, 43, 44, 45, 46, 47, 48, 49, 50, 51, 52, 53, 54, 55, 56] (by decide +kernel) (by decide +kernel)
set_option maxRecDepth 20000 in
theorem gX11_ring_X11_comesOut : GoodIn wsX11_ring (wsV RX11 173 RX11 yX11_comesOut wsX11_comesOut) := goodIn_app (goodIn_of _ (by decide +kernel)) ggX11_ring_X11_comesOut
theorem dX11_ring_0 : decode cX11_ring 0 = .ok (.aload_n 0, 1) := by decide +kernel
theorem dX11_ring_1 : decode cX11_ring 1 = .ok (.getfield 73, 3) := by decide +kernel
theorem dX11_ring_4 : decode cX11_ring 4 = .ok (.ifCond .le 44, 3) := by decide +kernel
theorem dX11_ring_7 : decode cX11_ring 7 = .ok (.aload_n 0, 1) := by decide +kernel
theorem dX11_ring_8 : decode cX11_ring 8 = .ok (.getfield 30, 3) := by decide +kernel
theorem dX11_ring_11 : decode cX11_ring 11 = .ok (.aload_n 0, 1) := by decide +kernel
theorem dX11_ring_12 : decode cX11_ring 12 = .ok (.getfield 135, 3) := by decide +kernel
theorem dX11_ring_15 : decode cX11_ring 15 = .ok (.iaload, 1) := by decide +kernel
theorem dX11_ring_16 : decode cX11_ring 16 = .ok (.iconst (-1), 1) := by decide +kernel
theorem dX11_ring_17 : decode cX11_ring 17 = .ok (.if_icmp .eq 31, 3) := by decide +kernel
theorem dX11_ring_20 : decode cX11_ring 20 = .ok (.aload_n 0, 1) := by decide +kernel
theorem dX11_ring_21 : decode cX11_ring 21 = .ok (.aload_n 0, 1) := by decide +kernel
theorem dX11_ring_22 : decode cX11_ring 22 = .ok (.getfield 30, 3) := by decide +kernel
theorem dX11_ring_25 : decode cX11_ring 25 = .ok (.aload_n 0, 1) := by decide +kernel
theorem dX11_ring_26 : decode cX11_ring 26 = .ok (.getfield 135, 3) := by decide +kernel
theorem dX11_ring_29 : decode cX11_ring 29 = .ok (.iaload, 1) := by decide +kernel
theorem dX11_ring_30 : decode cX11_ring 30 = .ok (.invokevirtual 148, 3) := by decide +kernel
theorem dX11_ring_33 : decode cX11_ring 33 = .ok (.ifCond .ne 15, 3) := by decide +kernel
theorem dX11_ring_36 : decode cX11_ring 36 = .ok (.aload_n 0, 1) := by decide +kernel
theorem dX11_ring_37 : decode cX11_ring 37 = .ok (.iconst (-1), 1) := by decide +kernel
theorem dX11_ring_38 : decode cX11_ring 38 = .ok (.invokevirtual 173, 3) := by decide +kernel
theorem dX11_ring_41 : decode cX11_ring 41 = .ok (.ifCond .ne 7, 3) := by decide +kernel
theorem dX11_ring_44 : decode cX11_ring 44 = .ok (.iconst 1, 1) := by decide +kernel
theorem dX11_ring_45 : decode cX11_ring 45 = .ok (.goto 4, 3) := by decide +kernel
theorem dX11_ring_48 : decode cX11_ring 48 = .ok (.iconst 0, 1) := by decide +kernel
theorem dX11_ring_49 : decode cX11_ring 49 = .ok (.ireturn, 1) := by decide +kernel
set_option maxRecDepth 20000 in
theorem ggX11_needed_X11_ring : GoodIn wsX11_needed wsX11_ring := goodIn_r _ [7, 8, 2, 9, 10, 11, 12, 6, 13, 14, 15, 16, 17, 18, 19, 20, 21, 22, 23, 24, 25, 26, 27, 28, 29, 30, 31, 32, 41, 42, 43, 44, 45, 46, 47, 48, 49, 50, 51, 52, 53, 54, 55, 56, 57, 58, 59, 60, 61, 62, 63, 64, 65, 66, 67, 68, 69] (by decide +kernel) (by decide +kernel)
set_option maxRecDepth 20000 in
theorem gX11_needed_X11_ring : GoodIn wsX11_needed (wsV RX11 176 RX11 yX11_ring wsX11_ring) := goodIn_app (goodIn_of _ (by decide +kernel)) ggX11_needed_X11_ring
set_option maxRecDepth 20000 in
theorem ggX11_needed_X11_isIn : GoodIn wsX11_needed wsX11_isIn := goodIn_r _ [35] (by decide +kernel) (by decide +kernel)
set_option maxRecDepth 20000 in
theorem gX11_needed_X11_isIn : GoodIn wsX11_needed (va_wsS RX11 69 yX11_isIn wsX11_isIn) := goodIn_app (goodIn_of _ (by decide +kernel)) ggX11_needed_X11_isIn
set_option maxRecDepth 20000 in
theorem ggX11_needed_X11_sideOf : GoodIn wsX11_needed wsX11_sideOf := goodIn_r _ [39, 40, 41, 42, 43, 44, 45, 46, 47, 48, 49, 50, 51, 52, 53, 54, 55, 56, 57, 58, 59, 60, 61, 62, 63, 64, 65, 66, 67, 68, 69] (by decide +kernel) (by decide +kernel)
set_option maxRecDepth 20000 in
theorem gX11_needed_X11_sideOf : GoodIn wsX11_needed (wsV RX11 106 RX11 yX11_sideOf wsX11_sideOf) := goodIn_app (goodIn_of _ (by decide +kernel)) ggX11_needed_X11_sideOf
set_option maxRecDepth 20000 in
theorem ggX11_needed_X11_comesOut : GoodIn wsX11_needed wsX11_comesOut := goodIn_r _ [25, 26, 27, 2, 9, 28, 10, 11, 12, 6, 13, 14, 15, 16, 17, 18, 19, 20, 21, 29, 30, 31, 32, 41, 42, 43, 44, 45, 46, 47, 48, 49, 50, 51, 52, 53, 54, 55, 56, 57, 58, 59, 60, 61, 62, 63, 64, 65, 66, 67, 68, 69] (by decide +kernel) (by decide +kernel)
set_option maxRecDepth 20000 in
theorem gX11_needed_X11_comesOut : GoodIn wsX11_needed (wsV RX11 173 RX11 yX11_comesOut wsX11_comesOut) := goodIn_app (goodIn_of _ (by decide +kernel)) ggX11_needed_X11_comesOut
theorem dX11_needed_0 : decode cX11_needed 0 = .ok (.aload_n 0, 1) := by decide +kernel
theorem dX11_needed_1 : decode cX11_needed 1 = .ok (.invokevirtual 176, 3) := by decide +kernel
theorem dX11_needed_4 : decode cX11_needed 4 = .ok (.ifCond .eq 48, 3) := by decide +kernel
theorem dX11_needed_7 : decode cX11_needed 7 = .ok (.iload_n 1, 1) := by decide +kernel
theorem dX11_needed_8 : decode cX11_needed 8 = .ok (.iconst 0, 1) := by decide +kernel
theorem dX11_needed_9 : decode cX11_needed 9 = .ok (.aload_n 0, 1) := by decide +kernel
theorem dX11_needed_10 : decode cX11_needed 10 = .ok (.getfield 103, 3) := by decide +kernel
theorem dX11_needed_13 : decode cX11_needed 13 = .ok (.iconst 1, 1) := by decide +kernel
theorem dX11_needed_14 : decode cX11_needed 14 = .ok (.isub, 1) := by decide +kernel
theorem dX11_needed_15 : decode cX11_needed 15 = .ok (.invokestatic 69, 3) := by decide +kernel
theorem dX11_needed_18 : decode cX11_needed 18 = .ok (.ifCond .eq 34, 3) := by decide +kernel
theorem dX11_needed_21 : decode cX11_needed 21 = .ok (.aload_n 0, 1) := by decide +kernel
theorem dX11_needed_22 : decode cX11_needed 22 = .ok (.iload_n 1, 1) := by decide +kernel
theorem dX11_needed_23 : decode cX11_needed 23 = .ok (.invokevirtual 106, 3) := by decide +kernel
theorem dX11_needed_26 : decode cX11_needed 26 = .ok (.iconst 1, 1) := by decide +kernel
theorem dX11_needed_27 : decode cX11_needed 27 = .ok (.if_icmp .ne 25, 3) := by decide +kernel
theorem dX11_needed_30 : decode cX11_needed 30 = .ok (.aload_n 0, 1) := by decide +kernel
theorem dX11_needed_31 : decode cX11_needed 31 = .ok (.getfield 30, 3) := by decide +kernel
theorem dX11_needed_34 : decode cX11_needed 34 = .ok (.iload_n 1, 1) := by decide +kernel
theorem dX11_needed_35 : decode cX11_needed 35 = .ok (.iaload, 1) := by decide +kernel
theorem dX11_needed_36 : decode cX11_needed 36 = .ok (.iconst (-1), 1) := by decide +kernel
theorem dX11_needed_37 : decode cX11_needed 37 = .ok (.if_icmp .eq 15, 3) := by decide +kernel
theorem dX11_needed_40 : decode cX11_needed 40 = .ok (.aload_n 0, 1) := by decide +kernel
theorem dX11_needed_41 : decode cX11_needed 41 = .ok (.iload_n 1, 1) := by decide +kernel
theorem dX11_needed_42 : decode cX11_needed 42 = .ok (.invokevirtual 173, 3) := by decide +kernel
theorem dX11_needed_45 : decode cX11_needed 45 = .ok (.ifCond .eq 7, 3) := by decide +kernel
theorem dX11_needed_48 : decode cX11_needed 48 = .ok (.iconst 1, 1) := by decide +kernel
theorem dX11_needed_49 : decode cX11_needed 49 = .ok (.goto 4, 3) := by decide +kernel
theorem dX11_needed_52 : decode cX11_needed 52 = .ok (.iconst 0, 1) := by decide +kernel
theorem dX11_needed_53 : decode cX11_needed 53 = .ok (.ireturn, 1) := by decide +kernel
set_option maxRecDepth 20000 in
theorem ggX11_stands_X11_fields : GoodIn wsX11_stands wsX11_fields := goodIn_r _ [8, 9, 10, 11, 12, 13, 14, 15, 16, 17, 18, 19, 20, 21, 22, 23, 24, 25, 26, 27, 28, 29, 30, 31, 32, 33, 34, 35, 36, 37, 38, 39] (by decide +kernel) (by decide +kernel)
set_option maxRecDepth 20000 in
theorem gX11_stands_X11_fields : GoodIn wsX11_stands (wsV RX11 88 RX11 yX11_fields wsX11_fields) := goodIn_app (goodIn_of _ (by decide +kernel)) ggX11_stands_X11_fields
theorem dX11_stands_0 : decode cX11_stands 0 = .ok (.ldc2_w 180, 3) := by decide +kernel
theorem dX11_stands_3 : decode cX11_stands 3 = .ok (.lstore_n 1, 1) := by decide +kernel
theorem dX11_stands_4 : decode cX11_stands 4 = .ok (.iconst 0, 1) := by decide +kernel
theorem dX11_stands_5 : decode cX11_stands 5 = .ok (.istore_n 3, 1) := by decide +kernel
theorem dX11_stands_6 : decode cX11_stands 6 = .ok (.iload_n 3, 1) := by decide +kernel
theorem dX11_stands_7 : decode cX11_stands 7 = .ok (.aload_n 0, 1) := by decide +kernel
theorem dX11_stands_8 : decode cX11_stands 8 = .ok (.getfield 103, 3) := by decide +kernel
theorem dX11_stands_11 : decode cX11_stands 11 = .ok (.if_icmp .ge 27, 3) := by decide +kernel
theorem dX11_stands_14 : decode cX11_stands 14 = .ok (.lload_n 1, 1) := by decide +kernel
theorem dX11_stands_15 : decode cX11_stands 15 = .ok (.ldc2_w 182, 3) := by decide +kernel
theorem dX11_stands_18 : decode cX11_stands 18 = .ok (.lcmp, 1) := by decide +kernel
theorem dX11_stands_19 : decode cX11_stands 19 = .ok (.ifCond .gt 19, 3) := by decide +kernel
theorem dX11_stands_22 : decode cX11_stands 22 = .ok (.lload_n 1, 1) := by decide +kernel
theorem dX11_stands_23 : decode cX11_stands 23 = .ok (.aload_n 0, 1) := by decide +kernel
theorem dX11_stands_24 : decode cX11_stands 24 = .ok (.invokevirtual 88, 3) := by decide +kernel
theorem dX11_stands_27 : decode cX11_stands 27 = .ok (.iconst 1, 1) := by decide +kernel
theorem dX11_stands_28 : decode cX11_stands 28 = .ok (.iadd, 1) := by decide +kernel
theorem dX11_stands_29 : decode cX11_stands 29 = .ok (.i2l, 1) := by decide +kernel
theorem dX11_stands_30 : decode cX11_stands 30 = .ok (.lmul, 1) := by decide +kernel
theorem dX11_stands_31 : decode cX11_stands 31 = .ok (.lstore_n 1, 1) := by decide +kernel
theorem dX11_stands_32 : decode cX11_stands 32 = .ok (.iinc 3 1, 3) := by decide +kernel
theorem dX11_stands_35 : decode cX11_stands 35 = .ok (.goto (-29), 3) := by decide +kernel
theorem dX11_stands_38 : decode cX11_stands 38 = .ok (.lload_n 1, 1) := by decide +kernel
theorem dX11_stands_39 : decode cX11_stands 39 = .ok (.lreturn, 1) := by decide +kernel
set_option maxRecDepth 20000 in
theorem ggX11_setUp_X11_fields : GoodIn wsX11_setUp wsX11_fields := goodIn_r _ [9, 10, 11, 18, 19, 20, 21, 22, 23, 24, 25, 26, 27, 28, 29, 30, 31, 32, 33, 34, 35, 36, 37, 38, 39, 40, 41, 42, 43, 44, 45, 46] (by decide +kernel) (by decide +kernel)
set_option maxRecDepth 20000 in
theorem gX11_setUp_X11_fields : GoodIn wsX11_setUp (wsV RX11 88 RX11 yX11_fields wsX11_fields) := goodIn_app (goodIn_of _ (by decide +kernel)) ggX11_setUp_X11_fields
set_option maxRecDepth 20000 in
theorem ggX11_setUp_X11_bears : GoodIn wsX11_setUp wsX11_bears := goodIn_r _ [15, 16, 17, 18, 19, 20, 21, 22, 23, 24, 25, 26, 27, 28, 29, 30, 31, 32, 33, 34, 35, 36, 37, 38, 39, 40, 41, 42, 43, 44, 45, 46] (by decide +kernel) (by decide +kernel)
set_option maxRecDepth 20000 in
theorem gX11_setUp_X11_bears : GoodIn wsX11_setUp (wsV RX11 96 RX11 yX11_bears wsX11_bears) := goodIn_app (goodIn_of _ (by decide +kernel)) ggX11_setUp_X11_bears
theorem dX11_setUp_0 : decode cX11_setUp 0 = .ok (.iload_n 1, 1) := by decide +kernel
theorem dX11_setUp_1 : decode cX11_setUp 1 = .ok (.iconst 2, 1) := by decide +kernel
theorem dX11_setUp_2 : decode cX11_setUp 2 = .ok (.idiv, 1) := by decide +kernel
theorem dX11_setUp_3 : decode cX11_setUp 3 = .ok (.istore_n 2, 1) := by decide +kernel
theorem dX11_setUp_4 : decode cX11_setUp 4 = .ok (.iconst 1, 1) := by decide +kernel
theorem dX11_setUp_5 : decode cX11_setUp 5 = .ok (.istore_n 3, 1) := by decide +kernel
theorem dX11_setUp_6 : decode cX11_setUp 6 = .ok (.aload_n 0, 1) := by decide +kernel
theorem dX11_setUp_7 : decode cX11_setUp 7 = .ok (.iload_n 1, 1) := by decide +kernel
theorem dX11_setUp_8 : decode cX11_setUp 8 = .ok (.iconst 2, 1) := by decide +kernel
theorem dX11_setUp_9 : decode cX11_setUp 9 = .ok (.irem, 1) := by decide +kernel
theorem dX11_setUp_10 : decode cX11_setUp 10 = .ok (.putfield 126, 3) := by decide +kernel
theorem dX11_setUp_13 : decode cX11_setUp 13 = .ok (.iconst 0, 1) := by decide +kernel
theorem dX11_setUp_14 : decode cX11_setUp 14 = .ok (.istore 4, 2) := by decide +kernel
theorem dX11_setUp_16 : decode cX11_setUp 16 = .ok (.iload 4, 2) := by decide +kernel
theorem dX11_setUp_18 : decode cX11_setUp 18 = .ok (.aload_n 0, 1) := by decide +kernel
theorem dX11_setUp_19 : decode cX11_setUp 19 = .ok (.invokevirtual 88, 3) := by decide +kernel
theorem dX11_setUp_22 : decode cX11_setUp 22 = .ok (.if_icmp .ge 17, 3) := by decide +kernel
theorem dX11_setUp_25 : decode cX11_setUp 25 = .ok (.aload_n 0, 1) := by decide +kernel
theorem dX11_setUp_26 : decode cX11_setUp 26 = .ok (.getfield 33, 3) := by decide +kernel
theorem dX11_setUp_29 : decode cX11_setUp 29 = .ok (.iload 4, 2) := by decide +kernel
theorem dX11_setUp_31 : decode cX11_setUp 31 = .ok (.iconst (-1), 1) := by decide +kernel
theorem dX11_setUp_32 : decode cX11_setUp 32 = .ok (.iastore, 1) := by decide +kernel
theorem dX11_setUp_33 : decode cX11_setUp 33 = .ok (.iinc 4 1, 3) := by decide +kernel
theorem dX11_setUp_36 : decode cX11_setUp 36 = .ok (.goto (-20), 3) := by decide +kernel
theorem dX11_setUp_39 : decode cX11_setUp 39 = .ok (.iconst 0, 1) := by decide +kernel
theorem dX11_setUp_40 : decode cX11_setUp 40 = .ok (.istore 4, 2) := by decide +kernel
theorem dX11_setUp_42 : decode cX11_setUp 42 = .ok (.iload 4, 2) := by decide +kernel
theorem dX11_setUp_44 : decode cX11_setUp 44 = .ok (.aload_n 0, 1) := by decide +kernel
theorem dX11_setUp_45 : decode cX11_setUp 45 = .ok (.getfield 103, 3) := by decide +kernel
theorem dX11_setUp_48 : decode cX11_setUp 48 = .ok (.if_icmp .ge 105, 3) := by decide +kernel
theorem dX11_setUp_51 : decode cX11_setUp 51 = .ok (.iload_n 2, 1) := by decide +kernel
theorem dX11_setUp_52 : decode cX11_setUp 52 = .ok (.aload_n 0, 1) := by decide +kernel
theorem dX11_setUp_53 : decode cX11_setUp 53 = .ok (.invokevirtual 88, 3) := by decide +kernel
theorem dX11_setUp_56 : decode cX11_setUp 56 = .ok (.iconst 1, 1) := by decide +kernel
theorem dX11_setUp_57 : decode cX11_setUp 57 = .ok (.iadd, 1) := by decide +kernel
theorem dX11_setUp_58 : decode cX11_setUp 58 = .ok (.irem, 1) := by decide +kernel
theorem dX11_setUp_59 : decode cX11_setUp 59 = .ok (.istore 5, 2) := by decide +kernel
theorem dX11_setUp_61 : decode cX11_setUp 61 = .ok (.iload_n 2, 1) := by decide +kernel
theorem dX11_setUp_62 : decode cX11_setUp 62 = .ok (.aload_n 0, 1) := by decide +kernel
theorem dX11_setUp_63 : decode cX11_setUp 63 = .ok (.invokevirtual 88, 3) := by decide +kernel
theorem dX11_setUp_66 : decode cX11_setUp 66 = .ok (.iconst 1, 1) := by decide +kernel
theorem dX11_setUp_67 : decode cX11_setUp 67 = .ok (.iadd, 1) := by decide +kernel
theorem dX11_setUp_68 : decode cX11_setUp 68 = .ok (.idiv, 1) := by decide +kernel
theorem dX11_setUp_69 : decode cX11_setUp 69 = .ok (.istore_n 2, 1) := by decide +kernel
theorem dX11_setUp_70 : decode cX11_setUp 70 = .ok (.aload_n 0, 1) := by decide +kernel
theorem dX11_setUp_71 : decode cX11_setUp 71 = .ok (.getfield 30, 3) := by decide +kernel
theorem dX11_setUp_74 : decode cX11_setUp 74 = .ok (.iload 4, 2) := by decide +kernel
theorem dX11_setUp_76 : decode cX11_setUp 76 = .ok (.iload 5, 2) := by decide +kernel
theorem dX11_setUp_78 : decode cX11_setUp 78 = .ok (.aload_n 0, 1) := by decide +kernel
theorem dX11_setUp_79 : decode cX11_setUp 79 = .ok (.invokevirtual 88, 3) := by decide +kernel
theorem dX11_setUp_82 : decode cX11_setUp 82 = .ok (.if_icmp .ne 7, 3) := by decide +kernel
theorem dX11_setUp_85 : decode cX11_setUp 85 = .ok (.iconst (-1), 1) := by decide +kernel
theorem dX11_setUp_86 : decode cX11_setUp 86 = .ok (.goto 5, 3) := by decide +kernel
theorem dX11_setUp_89 : decode cX11_setUp 89 = .ok (.iload 5, 2) := by decide +kernel
theorem dX11_setUp_91 : decode cX11_setUp 91 = .ok (.iastore, 1) := by decide +kernel
theorem dX11_setUp_92 : decode cX11_setUp 92 = .ok (.aload_n 0, 1) := by decide +kernel
theorem dX11_setUp_93 : decode cX11_setUp 93 = .ok (.getfield 30, 3) := by decide +kernel
theorem dX11_setUp_96 : decode cX11_setUp 96 = .ok (.iload 4, 2) := by decide +kernel
theorem dX11_setUp_98 : decode cX11_setUp 98 = .ok (.iaload, 1) := by decide +kernel
theorem dX11_setUp_99 : decode cX11_setUp 99 = .ok (.iconst (-1), 1) := by decide +kernel
theorem dX11_setUp_100 : decode cX11_setUp 100 = .ok (.if_icmp .ne 6, 3) := by decide +kernel
theorem dX11_setUp_103 : decode cX11_setUp 103 = .ok (.goto 44, 3) := by decide +kernel
theorem dX11_setUp_106 : decode cX11_setUp 106 = .ok (.iload_n 3, 1) := by decide +kernel
theorem dX11_setUp_107 : decode cX11_setUp 107 = .ok (.ifCond .eq 29, 3) := by decide +kernel
theorem dX11_setUp_110 : decode cX11_setUp 110 = .ok (.aload_n 0, 1) := by decide +kernel
theorem dX11_setUp_111 : decode cX11_setUp 111 = .ok (.getfield 33, 3) := by decide +kernel
theorem dX11_setUp_114 : decode cX11_setUp 114 = .ok (.iload 5, 2) := by decide +kernel
theorem dX11_setUp_116 : decode cX11_setUp 116 = .ok (.iaload, 1) := by decide +kernel
theorem dX11_setUp_117 : decode cX11_setUp 117 = .ok (.iconst (-1), 1) := by decide +kernel
theorem dX11_setUp_118 : decode cX11_setUp 118 = .ok (.if_icmp .ne 18, 3) := by decide +kernel
theorem dX11_setUp_121 : decode cX11_setUp 121 = .ok (.aload_n 0, 1) := by decide +kernel
theorem dX11_setUp_122 : decode cX11_setUp 122 = .ok (.iload 5, 2) := by decide +kernel
theorem dX11_setUp_124 : decode cX11_setUp 124 = .ok (.iload 4, 2) := by decide +kernel
theorem dX11_setUp_126 : decode cX11_setUp 126 = .ok (.invokevirtual 96, 3) := by decide +kernel
theorem dX11_setUp_129 : decode cX11_setUp 129 = .ok (.ifCond .eq 7, 3) := by decide +kernel
theorem dX11_setUp_132 : decode cX11_setUp 132 = .ok (.iconst 1, 1) := by decide +kernel
theorem dX11_setUp_133 : decode cX11_setUp 133 = .ok (.goto 4, 3) := by decide +kernel
theorem dX11_setUp_136 : decode cX11_setUp 136 = .ok (.iconst 0, 1) := by decide +kernel
theorem dX11_setUp_137 : decode cX11_setUp 137 = .ok (.istore_n 3, 1) := by decide +kernel
theorem dX11_setUp_138 : decode cX11_setUp 138 = .ok (.aload_n 0, 1) := by decide +kernel
theorem dX11_setUp_139 : decode cX11_setUp 139 = .ok (.getfield 33, 3) := by decide +kernel
theorem dX11_setUp_142 : decode cX11_setUp 142 = .ok (.iload 5, 2) := by decide +kernel
theorem dX11_setUp_144 : decode cX11_setUp 144 = .ok (.iload 4, 2) := by decide +kernel
theorem dX11_setUp_146 : decode cX11_setUp 146 = .ok (.iastore, 1) := by decide +kernel
theorem dX11_setUp_147 : decode cX11_setUp 147 = .ok (.iinc 4 1, 3) := by decide +kernel
theorem dX11_setUp_150 : decode cX11_setUp 150 = .ok (.goto (-108), 3) := by decide +kernel
theorem dX11_setUp_153 : decode cX11_setUp 153 = .ok (.iload_n 3, 1) := by decide +kernel
theorem dX11_setUp_154 : decode cX11_setUp 154 = .ok (.ireturn, 1) := by decide +kernel
set_option maxRecDepth 20000 in
theorem ggX11_number_X11_fields : GoodIn wsX11_number wsX11_fields := goodIn_r _ [8, 9, 10, 11, 12, 13, 14, 15, 16, 17, 18, 19, 20, 21, 22, 23, 24, 25, 26, 27, 28, 29, 30, 31, 32, 33, 34, 35, 36, 37, 38, 39] (by decide +kernel) (by decide +kernel)
set_option maxRecDepth 20000 in
theorem gX11_number_X11_fields : GoodIn wsX11_number (wsV RX11 88 RX11 yX11_fields wsX11_fields) := goodIn_app (goodIn_of _ (by decide +kernel)) ggX11_number_X11_fields
theorem dX11_number_0 : decode cX11_number 0 = .ok (.iconst 0, 1) := by decide +kernel
theorem dX11_number_1 : decode cX11_number 1 = .ok (.istore_n 1, 1) := by decide +kernel
theorem dX11_number_2 : decode cX11_number 2 = .ok (.aload_n 0, 1) := by decide +kernel
theorem dX11_number_3 : decode cX11_number 3 = .ok (.getfield 103, 3) := by decide +kernel
theorem dX11_number_6 : decode cX11_number 6 = .ok (.iconst 1, 1) := by decide +kernel
theorem dX11_number_7 : decode cX11_number 7 = .ok (.isub, 1) := by decide +kernel
theorem dX11_number_8 : decode cX11_number 8 = .ok (.istore_n 2, 1) := by decide +kernel
theorem dX11_number_9 : decode cX11_number 9 = .ok (.iload_n 2, 1) := by decide +kernel
theorem dX11_number_10 : decode cX11_number 10 = .ok (.ifCond .lt 42, 3) := by decide +kernel
theorem dX11_number_13 : decode cX11_number 13 = .ok (.iload_n 1, 1) := by decide +kernel
theorem dX11_number_14 : decode cX11_number 14 = .ok (.aload_n 0, 1) := by decide +kernel
theorem dX11_number_15 : decode cX11_number 15 = .ok (.invokevirtual 88, 3) := by decide +kernel
theorem dX11_number_18 : decode cX11_number 18 = .ok (.iconst 1, 1) := by decide +kernel
theorem dX11_number_19 : decode cX11_number 19 = .ok (.iadd, 1) := by decide +kernel
theorem dX11_number_20 : decode cX11_number 20 = .ok (.imul, 1) := by decide +kernel
theorem dX11_number_21 : decode cX11_number 21 = .ok (.aload_n 0, 1) := by decide +kernel
theorem dX11_number_22 : decode cX11_number 22 = .ok (.getfield 30, 3) := by decide +kernel
theorem dX11_number_25 : decode cX11_number 25 = .ok (.iload_n 2, 1) := by decide +kernel
theorem dX11_number_26 : decode cX11_number 26 = .ok (.iaload, 1) := by decide +kernel
theorem dX11_number_27 : decode cX11_number 27 = .ok (.iconst (-1), 1) := by decide +kernel
theorem dX11_number_28 : decode cX11_number 28 = .ok (.if_icmp .ne 10, 3) := by decide +kernel
theorem dX11_number_31 : decode cX11_number 31 = .ok (.aload_n 0, 1) := by decide +kernel
theorem dX11_number_32 : decode cX11_number 32 = .ok (.invokevirtual 88, 3) := by decide +kernel
theorem dX11_number_35 : decode cX11_number 35 = .ok (.goto 9, 3) := by decide +kernel
theorem dX11_number_38 : decode cX11_number 38 = .ok (.aload_n 0, 1) := by decide +kernel
theorem dX11_number_39 : decode cX11_number 39 = .ok (.getfield 30, 3) := by decide +kernel
theorem dX11_number_42 : decode cX11_number 42 = .ok (.iload_n 2, 1) := by decide +kernel
theorem dX11_number_43 : decode cX11_number 43 = .ok (.iaload, 1) := by decide +kernel
theorem dX11_number_44 : decode cX11_number 44 = .ok (.iadd, 1) := by decide +kernel
theorem dX11_number_45 : decode cX11_number 45 = .ok (.istore_n 1, 1) := by decide +kernel
theorem dX11_number_46 : decode cX11_number 46 = .ok (.iinc 2 (-1), 3) := by decide +kernel
theorem dX11_number_49 : decode cX11_number 49 = .ok (.goto (-40), 3) := by decide +kernel
theorem dX11_number_52 : decode cX11_number 52 = .ok (.iconst 2, 1) := by decide +kernel
theorem dX11_number_53 : decode cX11_number 53 = .ok (.iload_n 1, 1) := by decide +kernel
theorem dX11_number_54 : decode cX11_number 54 = .ok (.imul, 1) := by decide +kernel
theorem dX11_number_55 : decode cX11_number 55 = .ok (.aload_n 0, 1) := by decide +kernel
theorem dX11_number_56 : decode cX11_number 56 = .ok (.getfield 126, 3) := by decide +kernel
theorem dX11_number_59 : decode cX11_number 59 = .ok (.iadd, 1) := by decide +kernel
theorem dX11_number_60 : decode cX11_number 60 = .ok (.ireturn, 1) := by decide +kernel
set_option maxRecDepth 20000 in
theorem ggX11_endOf_X11_isGoal : GoodIn wsX11_endOf wsX11_isGoal := goodIn_r _ [8, 9, 10, 11, 12, 13, 14, 7, 15, 16, 45, 46, 47, 48, 49, 50, 51, 52, 53, 54, 55, 56, 57, 58, 59, 60, 61, 62, 63, 64, 65, 66, 67, 68, 69, 70, 71, 72, 73] (by decide +kernel) (by decide +kernel)
set_option maxRecDepth 20000 in
theorem gX11_endOf_X11_isGoal : GoodIn wsX11_endOf (wsV RX11 148 RX11 yX11_isGoal wsX11_isGoal) := goodIn_app (goodIn_of _ (by decide +kernel)) ggX11_endOf_X11_isGoal
set_option maxRecDepth 20000 in
theorem ggX11_endOf_X11_canGo : GoodIn wsX11_endOf wsX11_canGo := goodIn_r _ [20, 21, 22, 23, 24, 7, 25, 26, 27, 28, 29, 30, 1, 31, 32, 33, 34, 35, 36, 37, 38, 39, 40, 11, 16, 41, 42, 43, 44, 10, 45, 46, 47, 48, 49, 50, 51, 52, 53, 54, 55, 56, 57, 58, 59, 60, 61, 62, 63, 64, 65, 66, 67, 68, 69, 70, 71, 72, 73] (by decide +kernel) (by decide +kernel)
set_option maxRecDepth 20000 in
theorem gX11_endOf_X11_canGo : GoodIn wsX11_endOf (wsV RX11 151 RX11 yX11_canGo wsX11_canGo) := goodIn_app (goodIn_of _ (by decide +kernel)) ggX11_endOf_X11_canGo
theorem dX11_endOf_0 : decode cX11_endOf 0 = .ok (.aload_n 0, 1) := by decide +kernel
theorem dX11_endOf_1 : decode cX11_endOf 1 = .ok (.getfield 30, 3) := by decide +kernel
theorem dX11_endOf_4 : decode cX11_endOf 4 = .ok (.aload_n 0, 1) := by decide +kernel
theorem dX11_endOf_5 : decode cX11_endOf 5 = .ok (.getfield 135, 3) := by decide +kernel
theorem dX11_endOf_8 : decode cX11_endOf 8 = .ok (.iaload, 1) := by decide +kernel
theorem dX11_endOf_9 : decode cX11_endOf 9 = .ok (.iconst (-1), 1) := by decide +kernel
theorem dX11_endOf_10 : decode cX11_endOf 10 = .ok (.if_icmp .ne 7, 3) := by decide +kernel
theorem dX11_endOf_13 : decode cX11_endOf 13 = .ok (.iconst 1, 1) := by decide +kernel
theorem dX11_endOf_14 : decode cX11_endOf 14 = .ok (.goto 44, 3) := by decide +kernel
theorem dX11_endOf_17 : decode cX11_endOf 17 = .ok (.aload_n 0, 1) := by decide +kernel
theorem dX11_endOf_18 : decode cX11_endOf 18 = .ok (.aload_n 0, 1) := by decide +kernel
theorem dX11_endOf_19 : decode cX11_endOf 19 = .ok (.getfield 30, 3) := by decide +kernel
theorem dX11_endOf_22 : decode cX11_endOf 22 = .ok (.aload_n 0, 1) := by decide +kernel
theorem dX11_endOf_23 : decode cX11_endOf 23 = .ok (.getfield 135, 3) := by decide +kernel
theorem dX11_endOf_26 : decode cX11_endOf 26 = .ok (.iaload, 1) := by decide +kernel
theorem dX11_endOf_27 : decode cX11_endOf 27 = .ok (.invokevirtual 148, 3) := by decide +kernel
theorem dX11_endOf_30 : decode cX11_endOf 30 = .ok (.ifCond .eq 7, 3) := by decide +kernel
theorem dX11_endOf_33 : decode cX11_endOf 33 = .ok (.iconst 0, 1) := by decide +kernel
theorem dX11_endOf_34 : decode cX11_endOf 34 = .ok (.goto 24, 3) := by decide +kernel
theorem dX11_endOf_37 : decode cX11_endOf 37 = .ok (.aload_n 0, 1) := by decide +kernel
theorem dX11_endOf_38 : decode cX11_endOf 38 = .ok (.aload_n 0, 1) := by decide +kernel
theorem dX11_endOf_39 : decode cX11_endOf 39 = .ok (.getfield 126, 3) := by decide +kernel
theorem dX11_endOf_42 : decode cX11_endOf 42 = .ok (.invokevirtual 151, 3) := by decide +kernel
theorem dX11_endOf_45 : decode cX11_endOf 45 = .ok (.ifCond .eq 7, 3) := by decide +kernel
theorem dX11_endOf_48 : decode cX11_endOf 48 = .ok (.iconst 3, 1) := by decide +kernel
theorem dX11_endOf_49 : decode cX11_endOf 49 = .ok (.goto 9, 3) := by decide +kernel
theorem dX11_endOf_52 : decode cX11_endOf 52 = .ok (.iconst 1, 1) := by decide +kernel
theorem dX11_endOf_53 : decode cX11_endOf 53 = .ok (.aload_n 0, 1) := by decide +kernel
theorem dX11_endOf_54 : decode cX11_endOf 54 = .ok (.getfield 126, 3) := by decide +kernel
theorem dX11_endOf_57 : decode cX11_endOf 57 = .ok (.isub, 1) := by decide +kernel
theorem dX11_endOf_58 : decode cX11_endOf 58 = .ok (.ireturn, 1) := by decide +kernel
set_option maxRecDepth 20000 in
theorem ggX11_solve_X11_stands : GoodIn wsX11_solve wsX11_stands := goodIn_r _ [12, 13, 14, 2, 15, 16, 17, 11, 18, 19, 20, 106, 107, 108, 109, 110, 111, 112, 113, 114, 115, 116, 117, 118, 119, 120, 121, 122, 123, 124, 125, 126, 127, 128, 129, 130, 131, 132, 133, 134] (by decide +kernel) (by decide +kernel)
set_option maxRecDepth 20000 in
theorem gX11_solve_X11_stands : GoodIn wsX11_solve (wsV RX11 184 RX11 yX11_stands wsX11_stands) := goodIn_app (goodIn_of _ (by decide +kernel)) ggX11_solve_X11_stands
set_option maxRecDepth 20000 in
theorem ggX11_solve_X11_setUp : GoodIn wsX11_solve wsX11_setUp := goodIn_r _ [24, 25, 26, 14, 27, 15, 16, 17, 11, 18, 19, 20, 28, 29, 30, 31, 32, 33, 106, 107, 108, 109, 110, 111, 112, 113, 114, 115, 116, 117, 118, 119, 120, 121, 122, 123, 124, 125, 126, 127, 128, 129, 130, 131, 132, 133, 134] (by decide +kernel) (by decide +kernel)
set_option maxRecDepth 20000 in
theorem gX11_solve_X11_setUp : GoodIn wsX11_solve (wsV RX11 188 RX11 yX11_setUp wsX11_setUp) := goodIn_app (goodIn_of _ (by decide +kernel)) ggX11_solve_X11_setUp
set_option maxRecDepth 20000 in
theorem ggX11_solve_X11_endOf : GoodIn wsX11_solve wsX11_endOf := goodIn_r _ [37, 27, 38, 25, 39, 40, 41, 11, 42, 43, 32, 20, 15, 16, 17, 18, 19, 44, 45, 46, 47, 14, 48, 49, 50, 51, 33, 52, 53, 54, 55, 56, 57, 58, 59, 60, 26, 61, 62, 63, 64, 28, 29, 30, 31, 106, 107, 108, 109, 110, 111, 112, 113, 114, 115, 116, 117, 118, 119, 120, 121, 122, 123, 124, 125, 126, 127, 128, 129, 130, 131, 132, 133, 134] (by decide +kernel) (by decide +kernel)
set_option maxRecDepth 20000 in
theorem gX11_solve_X11_endOf : GoodIn wsX11_solve (wsV RX11 191 RX11 yX11_endOf wsX11_endOf) := goodIn_app (goodIn_of _ (by decide +kernel)) ggX11_solve_X11_endOf
set_option maxRecDepth 20000 in
theorem ggX11_solve_X11_tried : GoodIn wsX11_solve wsX11_tried := goodIn_r _ [68, 14, 27, 3, 21, 22, 23, 11, 24, 25, 26, 15, 16, 17, 18, 19, 20, 28, 29, 30, 31, 32, 33, 48, 49, 50, 51, 56, 57, 58, 59, 60, 61, 62, 63, 64, 69, 70, 71, 72, 73, 74, 75, 76, 77, 78, 79, 80, 81, 82, 83, 84, 85, 86, 87, 88, 89, 90, 91, 92, 106, 107, 108, 109, 110, 111, 112, 113, 114, 115, 116, 117, 118, 119, 120, 121, 122, 123, 124, 125, 126, 127, 128, 129, 130, 131, 132, 133, 134] (by decide +kernel) (by decide +kernel)
set_option maxRecDepth 20000 in
theorem gX11_solve_X11_tried : GoodIn wsX11_solve (wsV RX11 194 RX11 yX11_tried wsX11_tried) := goodIn_app (goodIn_of _ (by decide +kernel)) ggX11_solve_X11_tried
set_option maxRecDepth 20000 in
theorem ggX11_solve_X11_read : GoodIn wsX11_solve wsX11_read := goodIn_r _ [96, 26, 14, 27, 97, 25, 98, 99, 100, 11, 101, 106, 107, 108, 109, 110, 111, 112, 113, 114, 115, 116, 117, 118, 119, 120, 121, 122, 123, 124, 125, 126, 127, 128, 129, 130, 131, 132, 133, 134] (by decide +kernel) (by decide +kernel)
set_option maxRecDepth 20000 in
theorem gX11_solve_X11_read : GoodIn wsX11_solve (wsV RX11 161 RX11 yX11_read wsX11_read) := goodIn_app (goodIn_of _ (by decide +kernel)) ggX11_solve_X11_read
set_option maxRecDepth 20000 in
theorem ggX11_solve_X11_lookAgain : GoodIn wsX11_solve wsX11_lookAgain := goodIn_r _ [105, 6, 74, 14, 73, 97, 98, 99, 100, 11, 101, 106, 107, 108, 109, 110, 111, 112, 113, 114, 115, 116, 117, 118, 119, 120, 121, 122, 123, 124, 125, 126, 127, 128, 129, 130, 131, 132, 133, 134] (by decide +kernel) (by decide +kernel)
set_option maxRecDepth 20000 in
theorem gX11_solve_X11_lookAgain : GoodIn wsX11_solve (wsV RX11 164 RX11 yX11_lookAgain wsX11_lookAgain) := goodIn_app (goodIn_of _ (by decide +kernel)) ggX11_solve_X11_lookAgain
theorem dX11_solve_0 : decode cX11_solve 0 = .ok (.aload_n 0, 1) := by decide +kernel
theorem dX11_solve_1 : decode cX11_solve 1 = .ok (.getfield 73, 3) := by decide +kernel
theorem dX11_solve_4 : decode cX11_solve 4 = .ok (.ifCond .eq 14, 3) := by decide +kernel
theorem dX11_solve_7 : decode cX11_solve 7 = .ok (.aload_n 0, 1) := by decide +kernel
theorem dX11_solve_8 : decode cX11_solve 8 = .ok (.invokevirtual 184, 3) := by decide +kernel
theorem dX11_solve_11 : decode cX11_solve 11 = .ok (.ldc2_w 182, 3) := by decide +kernel
theorem dX11_solve_14 : decode cX11_solve 14 = .ok (.lcmp, 1) := by decide +kernel
theorem dX11_solve_15 : decode cX11_solve 15 = .ok (.ifCond .le 5, 3) := by decide +kernel
theorem dX11_solve_18 : decode cX11_solve 18 = .ok (.iconst (-1), 1) := by decide +kernel
theorem dX11_solve_19 : decode cX11_solve 19 = .ok (.ireturn, 1) := by decide +kernel
theorem dX11_solve_20 : decode cX11_solve 20 = .ok (.aload_n 0, 1) := by decide +kernel
theorem dX11_solve_21 : decode cX11_solve 21 = .ok (.invokevirtual 184, 3) := by decide +kernel
theorem dX11_solve_24 : decode cX11_solve 24 = .ok (.l2i, 1) := by decide +kernel
theorem dX11_solve_25 : decode cX11_solve 25 = .ok (.istore_n 1, 1) := by decide +kernel
theorem dX11_solve_26 : decode cX11_solve 26 = .ok (.iconst 0, 1) := by decide +kernel
theorem dX11_solve_27 : decode cX11_solve 27 = .ok (.istore_n 2, 1) := by decide +kernel
theorem dX11_solve_28 : decode cX11_solve 28 = .ok (.iconst 0, 1) := by decide +kernel
theorem dX11_solve_29 : decode cX11_solve 29 = .ok (.istore_n 3, 1) := by decide +kernel
theorem dX11_solve_30 : decode cX11_solve 30 = .ok (.iload_n 3, 1) := by decide +kernel
theorem dX11_solve_31 : decode cX11_solve 31 = .ok (.iload_n 1, 1) := by decide +kernel
theorem dX11_solve_32 : decode cX11_solve 32 = .ok (.if_icmp .ge 50, 3) := by decide +kernel
theorem dX11_solve_35 : decode cX11_solve 35 = .ok (.aload_n 0, 1) := by decide +kernel
theorem dX11_solve_36 : decode cX11_solve 36 = .ok (.iload_n 3, 1) := by decide +kernel
theorem dX11_solve_37 : decode cX11_solve 37 = .ok (.invokevirtual 188, 3) := by decide +kernel
theorem dX11_solve_40 : decode cX11_solve 40 = .ok (.istore 4, 2) := by decide +kernel
theorem dX11_solve_42 : decode cX11_solve 42 = .ok (.aload_n 0, 1) := by decide +kernel
theorem dX11_solve_43 : decode cX11_solve 43 = .ok (.getfield 57, 3) := by decide +kernel
theorem dX11_solve_46 : decode cX11_solve 46 = .ok (.iload_n 3, 1) := by decide +kernel
theorem dX11_solve_47 : decode cX11_solve 47 = .ok (.iload 4, 2) := by decide +kernel
theorem dX11_solve_49 : decode cX11_solve 49 = .ok (.ifCond .eq 10, 3) := by decide +kernel
theorem dX11_solve_52 : decode cX11_solve 52 = .ok (.aload_n 0, 1) := by decide +kernel
theorem dX11_solve_53 : decode cX11_solve 53 = .ok (.invokevirtual 191, 3) := by decide +kernel
theorem dX11_solve_56 : decode cX11_solve 56 = .ok (.goto 4, 3) := by decide +kernel
theorem dX11_solve_59 : decode cX11_solve 59 = .ok (.iconst 4, 1) := by decide +kernel
theorem dX11_solve_60 : decode cX11_solve 60 = .ok (.iastore, 1) := by decide +kernel
theorem dX11_solve_61 : decode cX11_solve 61 = .ok (.aload_n 0, 1) := by decide +kernel
theorem dX11_solve_62 : decode cX11_solve 62 = .ok (.getfield 60, 3) := by decide +kernel
theorem dX11_solve_65 : decode cX11_solve 65 = .ok (.iload_n 3, 1) := by decide +kernel
theorem dX11_solve_66 : decode cX11_solve 66 = .ok (.iconst 0, 1) := by decide +kernel
theorem dX11_solve_67 : decode cX11_solve 67 = .ok (.iastore, 1) := by decide +kernel
theorem dX11_solve_68 : decode cX11_solve 68 = .ok (.iload 4, 2) := by decide +kernel
theorem dX11_solve_70 : decode cX11_solve 70 = .ok (.ifCond .eq 6, 3) := by decide +kernel
theorem dX11_solve_73 : decode cX11_solve 73 = .ok (.iinc 2 1, 3) := by decide +kernel
theorem dX11_solve_76 : decode cX11_solve 76 = .ok (.iinc 3 1, 3) := by decide +kernel
theorem dX11_solve_79 : decode cX11_solve 79 = .ok (.goto (-49), 3) := by decide +kernel
theorem dX11_solve_82 : decode cX11_solve 82 = .ok (.iconst 1, 1) := by decide +kernel
theorem dX11_solve_83 : decode cX11_solve 83 = .ok (.istore_n 3, 1) := by decide +kernel
theorem dX11_solve_84 : decode cX11_solve 84 = .ok (.iconst 1, 1) := by decide +kernel
theorem dX11_solve_85 : decode cX11_solve 85 = .ok (.istore 4, 2) := by decide +kernel
theorem dX11_solve_87 : decode cX11_solve 87 = .ok (.iload_n 3, 1) := by decide +kernel
theorem dX11_solve_88 : decode cX11_solve 88 = .ok (.ifCond .eq 108, 3) := by decide +kernel
theorem dX11_solve_91 : decode cX11_solve 91 = .ok (.iconst 0, 1) := by decide +kernel
theorem dX11_solve_92 : decode cX11_solve 92 = .ok (.istore_n 3, 1) := by decide +kernel
theorem dX11_solve_93 : decode cX11_solve 93 = .ok (.iconst 0, 1) := by decide +kernel
theorem dX11_solve_94 : decode cX11_solve 94 = .ok (.istore 5, 2) := by decide +kernel
theorem dX11_solve_96 : decode cX11_solve 96 = .ok (.iload 5, 2) := by decide +kernel
theorem dX11_solve_98 : decode cX11_solve 98 = .ok (.iload_n 1, 1) := by decide +kernel
theorem dX11_solve_99 : decode cX11_solve 99 = .ok (.if_icmp .ge 37, 3) := by decide +kernel
theorem dX11_solve_102 : decode cX11_solve 102 = .ok (.aload_n 0, 1) := by decide +kernel
theorem dX11_solve_103 : decode cX11_solve 103 = .ok (.getfield 66, 3) := by decide +kernel
theorem dX11_solve_106 : decode cX11_solve 106 = .ok (.iload 5, 2) := by decide +kernel
theorem dX11_solve_108 : decode cX11_solve 108 = .ok (.aload_n 0, 1) := by decide +kernel
theorem dX11_solve_109 : decode cX11_solve 109 = .ok (.getfield 57, 3) := by decide +kernel
theorem dX11_solve_112 : decode cX11_solve 112 = .ok (.iload 5, 2) := by decide +kernel
theorem dX11_solve_114 : decode cX11_solve 114 = .ok (.iaload, 1) := by decide +kernel
theorem dX11_solve_115 : decode cX11_solve 115 = .ok (.iconst 3, 1) := by decide +kernel
theorem dX11_solve_116 : decode cX11_solve 116 = .ok (.if_icmp .ne 12, 3) := by decide +kernel
theorem dX11_solve_119 : decode cX11_solve 119 = .ok (.aload_n 0, 1) := by decide +kernel
theorem dX11_solve_120 : decode cX11_solve 120 = .ok (.iload 5, 2) := by decide +kernel
theorem dX11_solve_122 : decode cX11_solve 122 = .ok (.invokevirtual 194, 3) := by decide +kernel
theorem dX11_solve_125 : decode cX11_solve 125 = .ok (.goto 4, 3) := by decide +kernel
theorem dX11_solve_128 : decode cX11_solve 128 = .ok (.iconst 3, 1) := by decide +kernel
theorem dX11_solve_129 : decode cX11_solve 129 = .ok (.iastore, 1) := by decide +kernel
theorem dX11_solve_130 : decode cX11_solve 130 = .ok (.iinc 5 1, 3) := by decide +kernel
theorem dX11_solve_133 : decode cX11_solve 133 = .ok (.goto (-37), 3) := by decide +kernel
theorem dX11_solve_136 : decode cX11_solve 136 = .ok (.iconst 0, 1) := by decide +kernel
theorem dX11_solve_137 : decode cX11_solve 137 = .ok (.istore 5, 2) := by decide +kernel
theorem dX11_solve_139 : decode cX11_solve 139 = .ok (.iload 5, 2) := by decide +kernel
theorem dX11_solve_141 : decode cX11_solve 141 = .ok (.iload_n 1, 1) := by decide +kernel
theorem dX11_solve_142 : decode cX11_solve 142 = .ok (.if_icmp .ge 48, 3) := by decide +kernel
theorem dX11_solve_145 : decode cX11_solve 145 = .ok (.aload_n 0, 1) := by decide +kernel
theorem dX11_solve_146 : decode cX11_solve 146 = .ok (.getfield 66, 3) := by decide +kernel
theorem dX11_solve_149 : decode cX11_solve 149 = .ok (.iload 5, 2) := by decide +kernel
theorem dX11_solve_151 : decode cX11_solve 151 = .ok (.iaload, 1) := by decide +kernel
theorem dX11_solve_152 : decode cX11_solve 152 = .ok (.iconst 3, 1) := by decide +kernel
theorem dX11_solve_153 : decode cX11_solve 153 = .ok (.if_icmp .ne 6, 3) := by decide +kernel
theorem dX11_solve_156 : decode cX11_solve 156 = .ok (.goto 28, 3) := by decide +kernel
theorem dX11_solve_159 : decode cX11_solve 159 = .ok (.aload_n 0, 1) := by decide +kernel
theorem dX11_solve_160 : decode cX11_solve 160 = .ok (.getfield 57, 3) := by decide +kernel
theorem dX11_solve_163 : decode cX11_solve 163 = .ok (.iload 5, 2) := by decide +kernel
theorem dX11_solve_165 : decode cX11_solve 165 = .ok (.aload_n 0, 1) := by decide +kernel
theorem dX11_solve_166 : decode cX11_solve 166 = .ok (.getfield 66, 3) := by decide +kernel
theorem dX11_solve_169 : decode cX11_solve 169 = .ok (.iload 5, 2) := by decide +kernel
theorem dX11_solve_171 : decode cX11_solve 171 = .ok (.iaload, 1) := by decide +kernel
theorem dX11_solve_172 : decode cX11_solve 172 = .ok (.iastore, 1) := by decide +kernel
theorem dX11_solve_173 : decode cX11_solve 173 = .ok (.aload_n 0, 1) := by decide +kernel
theorem dX11_solve_174 : decode cX11_solve 174 = .ok (.getfield 60, 3) := by decide +kernel
theorem dX11_solve_177 : decode cX11_solve 177 = .ok (.iload 5, 2) := by decide +kernel
theorem dX11_solve_179 : decode cX11_solve 179 = .ok (.iload 4, 2) := by decide +kernel
theorem dX11_solve_181 : decode cX11_solve 181 = .ok (.iastore, 1) := by decide +kernel
theorem dX11_solve_182 : decode cX11_solve 182 = .ok (.iconst 1, 1) := by decide +kernel
theorem dX11_solve_183 : decode cX11_solve 183 = .ok (.istore_n 3, 1) := by decide +kernel
theorem dX11_solve_184 : decode cX11_solve 184 = .ok (.iinc 5 1, 3) := by decide +kernel
theorem dX11_solve_187 : decode cX11_solve 187 = .ok (.goto (-48), 3) := by decide +kernel
theorem dX11_solve_190 : decode cX11_solve 190 = .ok (.iinc 4 1, 3) := by decide +kernel
theorem dX11_solve_193 : decode cX11_solve 193 = .ok (.goto (-106), 3) := by decide +kernel
theorem dX11_solve_196 : decode cX11_solve 196 = .ok (.iconst 0, 1) := by decide +kernel
theorem dX11_solve_197 : decode cX11_solve 197 = .ok (.istore 4, 2) := by decide +kernel
theorem dX11_solve_199 : decode cX11_solve 199 = .ok (.iload 4, 2) := by decide +kernel
theorem dX11_solve_201 : decode cX11_solve 201 = .ok (.iload_n 1, 1) := by decide +kernel
theorem dX11_solve_202 : decode cX11_solve 202 = .ok (.if_icmp .ge 28, 3) := by decide +kernel
theorem dX11_solve_205 : decode cX11_solve 205 = .ok (.aload_n 0, 1) := by decide +kernel
theorem dX11_solve_206 : decode cX11_solve 206 = .ok (.getfield 57, 3) := by decide +kernel
theorem dX11_solve_209 : decode cX11_solve 209 = .ok (.iload 4, 2) := by decide +kernel
theorem dX11_solve_211 : decode cX11_solve 211 = .ok (.iaload, 1) := by decide +kernel
theorem dX11_solve_212 : decode cX11_solve 212 = .ok (.iconst 3, 1) := by decide +kernel
theorem dX11_solve_213 : decode cX11_solve 213 = .ok (.if_icmp .ne 11, 3) := by decide +kernel
theorem dX11_solve_216 : decode cX11_solve 216 = .ok (.aload_n 0, 1) := by decide +kernel
theorem dX11_solve_217 : decode cX11_solve 217 = .ok (.getfield 57, 3) := by decide +kernel
theorem dX11_solve_220 : decode cX11_solve 220 = .ok (.iload 4, 2) := by decide +kernel
theorem dX11_solve_222 : decode cX11_solve 222 = .ok (.iconst 2, 1) := by decide +kernel
theorem dX11_solve_223 : decode cX11_solve 223 = .ok (.iastore, 1) := by decide +kernel
theorem dX11_solve_224 : decode cX11_solve 224 = .ok (.iinc 4 1, 3) := by decide +kernel
theorem dX11_solve_227 : decode cX11_solve 227 = .ok (.goto (-28), 3) := by decide +kernel
theorem dX11_solve_230 : decode cX11_solve 230 = .ok (.aload_n 0, 1) := by decide +kernel
theorem dX11_solve_231 : decode cX11_solve 231 = .ok (.aload_n 0, 1) := by decide +kernel
theorem dX11_solve_232 : decode cX11_solve 232 = .ok (.getfield 138, 3) := by decide +kernel
theorem dX11_solve_235 : decode cX11_solve 235 = .ok (.invokevirtual 161, 3) := by decide +kernel
theorem dX11_solve_238 : decode cX11_solve 238 = .ok (.aload_n 0, 1) := by decide +kernel
theorem dX11_solve_239 : decode cX11_solve 239 = .ok (.invokevirtual 164, 3) := by decide +kernel
theorem dX11_solve_242 : decode cX11_solve 242 = .ok (.aload_n 0, 1) := by decide +kernel
theorem dX11_solve_243 : decode cX11_solve 243 = .ok (.iconst 1, 1) := by decide +kernel
theorem dX11_solve_244 : decode cX11_solve 244 = .ok (.putfield 76, 3) := by decide +kernel
theorem dX11_solve_247 : decode cX11_solve 247 = .ok (.iload_n 2, 1) := by decide +kernel
theorem dX11_solve_248 : decode cX11_solve 248 = .ok (.ireturn, 1) := by decide +kernel
set_option maxRecDepth 20000 in
theorem ggX11_tried_X11_setUp : GoodIn wsX11_tried wsX11_setUp := goodIn_r _ [8, 9, 10, 1, 2, 11, 12, 13, 7, 14, 15, 16, 17, 18, 19, 20, 21, 22, 60, 61, 62, 63, 64, 65, 66, 67, 68, 69, 70, 71, 72, 73, 74, 75, 76, 77, 78, 79, 80, 81, 82, 83, 84, 85, 86, 87, 88] (by decide +kernel) (by decide +kernel)
set_option maxRecDepth 20000 in
theorem gX11_tried_X11_setUp : GoodIn wsX11_tried (wsV RX11 188 RX11 yX11_setUp wsX11_setUp) := goodIn_app (goodIn_of _ (by decide +kernel)) ggX11_tried_X11_setUp
set_option maxRecDepth 20000 in
theorem ggX11_tried_X11_sideOf : GoodIn wsX11_tried wsX11_sideOf := goodIn_r _ [26, 22, 60, 61, 62, 63, 64, 65, 66, 67, 68, 69, 70, 71, 72, 73, 74, 75, 76, 77, 78, 79, 80, 81, 82, 83, 84, 85, 86, 87, 88] (by decide +kernel) (by decide +kernel)
set_option maxRecDepth 20000 in
theorem gX11_tried_X11_sideOf : GoodIn wsX11_tried (wsV RX11 106 RX11 yX11_sideOf wsX11_sideOf) := goodIn_app (goodIn_of _ (by decide +kernel)) ggX11_tried_X11_sideOf
set_option maxRecDepth 20000 in
theorem ggX11_tried_X11_bar : GoodIn wsX11_tried wsX11_bar := goodIn_r _ [30, 2, 22, 31, 10, 32, 33, 34, 7, 35, 16, 15, 17, 18, 19, 20, 21, 60, 61, 62, 63, 64, 65, 66, 67, 68, 69, 70, 71, 72, 73, 74, 75, 76, 77, 78, 79, 80, 81, 82, 83, 84, 85, 86, 87, 88] (by decide +kernel) (by decide +kernel)
set_option maxRecDepth 20000 in
theorem gX11_tried_X11_bar : GoodIn wsX11_tried (wsV RX11 100 RX11 yX11_bar wsX11_bar) := goodIn_app (goodIn_of _ (by decide +kernel)) ggX11_tried_X11_bar
set_option maxRecDepth 20000 in
theorem ggX11_tried_X11_make : GoodIn wsX11_tried wsX11_make := goodIn_r _ [39, 2, 10, 1, 40, 41, 9, 32, 33, 34, 7, 35, 16, 15, 42, 43, 44, 45, 22, 46, 23, 24, 25, 26, 47, 48, 49, 50, 51, 52, 53, 54, 55, 21, 60, 61, 62, 63, 64, 65, 66, 67, 68, 69, 70, 71, 72, 73, 74, 75, 76, 77, 78, 79, 80, 81, 82, 83, 84, 85, 86, 87, 88] (by decide +kernel) (by decide +kernel)
set_option maxRecDepth 20000 in
theorem gX11_tried_X11_make : GoodIn wsX11_tried (wsV RX11 154 RX11 yX11_make wsX11_make) := goodIn_app (goodIn_of _ (by decide +kernel)) ggX11_tried_X11_make
set_option maxRecDepth 20000 in
theorem ggX11_tried_X11_number : GoodIn wsX11_tried wsX11_number := goodIn_r _ [59, 1, 2, 9, 11, 12, 13, 7, 14, 15, 16, 60, 61, 62, 63, 64, 65, 66, 67, 68, 69, 70, 71, 72, 73, 74, 75, 76, 77, 78, 79, 80, 81, 82, 83, 84, 85, 86, 87, 88] (by decide +kernel) (by decide +kernel)
set_option maxRecDepth 20000 in
theorem gX11_tried_X11_number : GoodIn wsX11_tried (wsV RX11 197 RX11 yX11_number wsX11_number) := goodIn_app (goodIn_of _ (by decide +kernel)) ggX11_tried_X11_number
theorem dX11_tried_0 : decode cX11_tried 0 = .ok (.iload_n 1, 1) := by decide +kernel
theorem dX11_tried_1 : decode cX11_tried 1 = .ok (.iconst 2, 1) := by decide +kernel
theorem dX11_tried_2 : decode cX11_tried 2 = .ok (.irem, 1) := by decide +kernel
theorem dX11_tried_3 : decode cX11_tried 3 = .ok (.istore_n 2, 1) := by decide +kernel
theorem dX11_tried_4 : decode cX11_tried 4 = .ok (.iconst 1, 1) := by decide +kernel
theorem dX11_tried_5 : decode cX11_tried 5 = .ok (.istore_n 3, 1) := by decide +kernel
theorem dX11_tried_6 : decode cX11_tried 6 = .ok (.aload_n 0, 1) := by decide +kernel
theorem dX11_tried_7 : decode cX11_tried 7 = .ok (.iload_n 1, 1) := by decide +kernel
theorem dX11_tried_8 : decode cX11_tried 8 = .ok (.invokevirtual 188, 3) := by decide +kernel
theorem dX11_tried_11 : decode cX11_tried 11 = .ok (.istore 4, 2) := by decide +kernel
theorem dX11_tried_13 : decode cX11_tried 13 = .ok (.iconst 0, 1) := by decide +kernel
theorem dX11_tried_14 : decode cX11_tried 14 = .ok (.istore 5, 2) := by decide +kernel
theorem dX11_tried_16 : decode cX11_tried 16 = .ok (.iload 5, 2) := by decide +kernel
theorem dX11_tried_18 : decode cX11_tried 18 = .ok (.aload_n 0, 1) := by decide +kernel
theorem dX11_tried_19 : decode cX11_tried 19 = .ok (.getfield 103, 3) := by decide +kernel
theorem dX11_tried_22 : decode cX11_tried 22 = .ok (.if_icmp .ge 137, 3) := by decide +kernel
theorem dX11_tried_25 : decode cX11_tried 25 = .ok (.iconst 0, 1) := by decide +kernel
theorem dX11_tried_26 : decode cX11_tried 26 = .ok (.istore 6, 2) := by decide +kernel
theorem dX11_tried_28 : decode cX11_tried 28 = .ok (.iload 6, 2) := by decide +kernel
theorem dX11_tried_30 : decode cX11_tried 30 = .ok (.bipush 32, 2) := by decide +kernel
theorem dX11_tried_32 : decode cX11_tried 32 = .ok (.if_icmp .ge 121, 3) := by decide +kernel
theorem dX11_tried_35 : decode cX11_tried 35 = .ok (.aload_n 0, 1) := by decide +kernel
theorem dX11_tried_36 : decode cX11_tried 36 = .ok (.getfield 30, 3) := by decide +kernel
theorem dX11_tried_39 : decode cX11_tried 39 = .ok (.iload 5, 2) := by decide +kernel
theorem dX11_tried_41 : decode cX11_tried 41 = .ok (.iaload, 1) := by decide +kernel
theorem dX11_tried_42 : decode cX11_tried 42 = .ok (.iconst (-1), 1) := by decide +kernel
theorem dX11_tried_43 : decode cX11_tried 43 = .ok (.if_icmp .eq 110, 3) := by decide +kernel
theorem dX11_tried_46 : decode cX11_tried 46 = .ok (.aload_n 0, 1) := by decide +kernel
theorem dX11_tried_47 : decode cX11_tried 47 = .ok (.iload 5, 2) := by decide +kernel
theorem dX11_tried_49 : decode cX11_tried 49 = .ok (.invokevirtual 106, 3) := by decide +kernel
theorem dX11_tried_52 : decode cX11_tried 52 = .ok (.iload_n 2, 1) := by decide +kernel
theorem dX11_tried_53 : decode cX11_tried 53 = .ok (.if_icmp .ne 100, 3) := by decide +kernel
theorem dX11_tried_56 : decode cX11_tried 56 = .ok (.aload_n 0, 1) := by decide +kernel
theorem dX11_tried_57 : decode cX11_tried 57 = .ok (.iload 5, 2) := by decide +kernel
theorem dX11_tried_59 : decode cX11_tried 59 = .ok (.iload 6, 2) := by decide +kernel
theorem dX11_tried_61 : decode cX11_tried 61 = .ok (.bipush 8, 2) := by decide +kernel
theorem dX11_tried_63 : decode cX11_tried 63 = .ok (.idiv, 1) := by decide +kernel
theorem dX11_tried_64 : decode cX11_tried 64 = .ok (.iload 6, 2) := by decide +kernel
theorem dX11_tried_66 : decode cX11_tried 66 = .ok (.bipush 8, 2) := by decide +kernel
theorem dX11_tried_68 : decode cX11_tried 68 = .ok (.irem, 1) := by decide +kernel
theorem dX11_tried_69 : decode cX11_tried 69 = .ok (.iconst 1, 1) := by decide +kernel
theorem dX11_tried_70 : decode cX11_tried 70 = .ok (.iadd, 1) := by decide +kernel
theorem dX11_tried_71 : decode cX11_tried 71 = .ok (.invokevirtual 100, 3) := by decide +kernel
theorem dX11_tried_74 : decode cX11_tried 74 = .ok (.ifCond .eq 6, 3) := by decide +kernel
theorem dX11_tried_77 : decode cX11_tried 77 = .ok (.goto 70, 3) := by decide +kernel
theorem dX11_tried_80 : decode cX11_tried 80 = .ok (.aload_n 0, 1) := by decide +kernel
theorem dX11_tried_81 : decode cX11_tried 81 = .ok (.iload 5, 2) := by decide +kernel
theorem dX11_tried_83 : decode cX11_tried 83 = .ok (.iload 6, 2) := by decide +kernel
theorem dX11_tried_85 : decode cX11_tried 85 = .ok (.bipush 8, 2) := by decide +kernel
theorem dX11_tried_87 : decode cX11_tried 87 = .ok (.idiv, 1) := by decide +kernel
theorem dX11_tried_88 : decode cX11_tried 88 = .ok (.iload 6, 2) := by decide +kernel
theorem dX11_tried_90 : decode cX11_tried 90 = .ok (.bipush 8, 2) := by decide +kernel
theorem dX11_tried_92 : decode cX11_tried 92 = .ok (.irem, 1) := by decide +kernel
theorem dX11_tried_93 : decode cX11_tried 93 = .ok (.iconst 1, 1) := by decide +kernel
theorem dX11_tried_94 : decode cX11_tried 94 = .ok (.iadd, 1) := by decide +kernel
theorem dX11_tried_95 : decode cX11_tried 95 = .ok (.invokevirtual 154, 3) := by decide +kernel
theorem dX11_tried_98 : decode cX11_tried 98 = .ok (.aload_n 0, 1) := by decide +kernel
theorem dX11_tried_99 : decode cX11_tried 99 = .ok (.invokevirtual 197, 3) := by decide +kernel
theorem dX11_tried_102 : decode cX11_tried 102 = .ok (.istore 7, 2) := by decide +kernel
theorem dX11_tried_104 : decode cX11_tried 104 = .ok (.aload_n 0, 1) := by decide +kernel
theorem dX11_tried_105 : decode cX11_tried 105 = .ok (.iload_n 1, 1) := by decide +kernel
theorem dX11_tried_106 : decode cX11_tried 106 = .ok (.invokevirtual 188, 3) := by decide +kernel
theorem dX11_tried_109 : decode cX11_tried 109 = .ok (.istore 4, 2) := by decide +kernel
theorem dX11_tried_111 : decode cX11_tried 111 = .ok (.aload_n 0, 1) := by decide +kernel
theorem dX11_tried_112 : decode cX11_tried 112 = .ok (.getfield 57, 3) := by decide +kernel
theorem dX11_tried_115 : decode cX11_tried 115 = .ok (.iload 7, 2) := by decide +kernel
theorem dX11_tried_117 : decode cX11_tried 117 = .ok (.iaload, 1) := by decide +kernel
theorem dX11_tried_118 : decode cX11_tried 118 = .ok (.iload_n 2, 1) := by decide +kernel
theorem dX11_tried_119 : decode cX11_tried 119 = .ok (.if_icmp .ne 5, 3) := by decide +kernel
theorem dX11_tried_122 : decode cX11_tried 122 = .ok (.iload_n 2, 1) := by decide +kernel
theorem dX11_tried_123 : decode cX11_tried 123 = .ok (.ireturn, 1) := by decide +kernel
theorem dX11_tried_124 : decode cX11_tried 124 = .ok (.iload_n 3, 1) := by decide +kernel
theorem dX11_tried_125 : decode cX11_tried 125 = .ok (.ifCond .eq 20, 3) := by decide +kernel
theorem dX11_tried_128 : decode cX11_tried 128 = .ok (.aload_n 0, 1) := by decide +kernel
theorem dX11_tried_129 : decode cX11_tried 129 = .ok (.getfield 57, 3) := by decide +kernel
theorem dX11_tried_132 : decode cX11_tried 132 = .ok (.iload 7, 2) := by decide +kernel
theorem dX11_tried_134 : decode cX11_tried 134 = .ok (.iaload, 1) := by decide +kernel
theorem dX11_tried_135 : decode cX11_tried 135 = .ok (.iconst 1, 1) := by decide +kernel
theorem dX11_tried_136 : decode cX11_tried 136 = .ok (.iload_n 2, 1) := by decide +kernel
theorem dX11_tried_137 : decode cX11_tried 137 = .ok (.isub, 1) := by decide +kernel
theorem dX11_tried_138 : decode cX11_tried 138 = .ok (.if_icmp .ne 7, 3) := by decide +kernel
theorem dX11_tried_141 : decode cX11_tried 141 = .ok (.iconst 1, 1) := by decide +kernel
theorem dX11_tried_142 : decode cX11_tried 142 = .ok (.goto 4, 3) := by decide +kernel
theorem dX11_tried_145 : decode cX11_tried 145 = .ok (.iconst 0, 1) := by decide +kernel
theorem dX11_tried_146 : decode cX11_tried 146 = .ok (.istore_n 3, 1) := by decide +kernel
theorem dX11_tried_147 : decode cX11_tried 147 = .ok (.iinc 6 1, 3) := by decide +kernel
theorem dX11_tried_150 : decode cX11_tried 150 = .ok (.goto (-122), 3) := by decide +kernel
theorem dX11_tried_153 : decode cX11_tried 153 = .ok (.iinc 5 1, 3) := by decide +kernel
theorem dX11_tried_156 : decode cX11_tried 156 = .ok (.goto (-140), 3) := by decide +kernel
theorem dX11_tried_159 : decode cX11_tried 159 = .ok (.iload_n 3, 1) := by decide +kernel
theorem dX11_tried_160 : decode cX11_tried 160 = .ok (.ifCond .eq 9, 3) := by decide +kernel
theorem dX11_tried_163 : decode cX11_tried 163 = .ok (.iconst 1, 1) := by decide +kernel
theorem dX11_tried_164 : decode cX11_tried 164 = .ok (.iload_n 2, 1) := by decide +kernel
theorem dX11_tried_165 : decode cX11_tried 165 = .ok (.isub, 1) := by decide +kernel
theorem dX11_tried_166 : decode cX11_tried 166 = .ok (.goto 4, 3) := by decide +kernel
theorem dX11_tried_169 : decode cX11_tried 169 = .ok (.iconst 3, 1) := by decide +kernel
theorem dX11_tried_170 : decode cX11_tried 170 = .ok (.ireturn, 1) := by decide +kernel
set_option maxRecDepth 20000 in
theorem ggX11_leads_X11_setUp : GoodIn wsX11_leads wsX11_setUp := goodIn_r _ [7, 2, 8, 9, 1, 10, 11, 12, 6, 13, 14, 15, 16, 17, 18, 19, 20, 21, 59, 60, 61, 62, 63, 64, 65, 66, 67, 68, 69, 70, 71, 72, 73, 74, 75, 76, 77, 78, 79, 80, 81, 82, 83, 84, 85, 86, 87] (by decide +kernel) (by decide +kernel)
set_option maxRecDepth 20000 in
theorem gX11_leads_X11_setUp : GoodIn wsX11_leads (wsV RX11 188 RX11 yX11_setUp wsX11_setUp) := goodIn_app (goodIn_of _ (by decide +kernel)) ggX11_leads_X11_setUp
set_option maxRecDepth 20000 in
theorem ggX11_leads_X11_sideOf : GoodIn wsX11_leads wsX11_sideOf := goodIn_r _ [25, 21, 59, 60, 61, 62, 63, 64, 65, 66, 67, 68, 69, 70, 71, 72, 73, 74, 75, 76, 77, 78, 79, 80, 81, 82, 83, 84, 85, 86, 87] (by decide +kernel) (by decide +kernel)
set_option maxRecDepth 20000 in
theorem gX11_leads_X11_sideOf : GoodIn wsX11_leads (wsV RX11 106 RX11 yX11_sideOf wsX11_sideOf) := goodIn_app (goodIn_of _ (by decide +kernel)) ggX11_leads_X11_sideOf
set_option maxRecDepth 20000 in
theorem ggX11_leads_X11_bar : GoodIn wsX11_leads wsX11_bar := goodIn_r _ [29, 1, 21, 30, 8, 31, 32, 33, 6, 34, 15, 14, 16, 17, 18, 19, 20, 59, 60, 61, 62, 63, 64, 65, 66, 67, 68, 69, 70, 71, 72, 73, 74, 75, 76, 77, 78, 79, 80, 81, 82, 83, 84, 85, 86, 87] (by decide +kernel) (by decide +kernel)
set_option maxRecDepth 20000 in
theorem gX11_leads_X11_bar : GoodIn wsX11_leads (wsV RX11 100 RX11 yX11_bar wsX11_bar) := goodIn_app (goodIn_of _ (by decide +kernel)) ggX11_leads_X11_bar
set_option maxRecDepth 20000 in
theorem ggX11_leads_X11_make : GoodIn wsX11_leads wsX11_make := goodIn_r _ [38, 1, 8, 9, 39, 40, 2, 31, 32, 33, 6, 34, 15, 14, 41, 42, 43, 44, 21, 45, 22, 23, 24, 25, 46, 47, 48, 49, 50, 51, 52, 53, 54, 20, 59, 60, 61, 62, 63, 64, 65, 66, 67, 68, 69, 70, 71, 72, 73, 74, 75, 76, 77, 78, 79, 80, 81, 82, 83, 84, 85, 86, 87] (by decide +kernel) (by decide +kernel)
set_option maxRecDepth 20000 in
theorem gX11_leads_X11_make : GoodIn wsX11_leads (wsV RX11 154 RX11 yX11_make wsX11_make) := goodIn_app (goodIn_of _ (by decide +kernel)) ggX11_leads_X11_make
set_option maxRecDepth 20000 in
theorem ggX11_leads_X11_number : GoodIn wsX11_leads wsX11_number := goodIn_r _ [58, 9, 1, 2, 10, 11, 12, 6, 13, 14, 15, 59, 60, 61, 62, 63, 64, 65, 66, 67, 68, 69, 70, 71, 72, 73, 74, 75, 76, 77, 78, 79, 80, 81, 82, 83, 84, 85, 86, 87] (by decide +kernel) (by decide +kernel)
set_option maxRecDepth 20000 in
theorem gX11_leads_X11_number : GoodIn wsX11_leads (wsV RX11 197 RX11 yX11_number wsX11_number) := goodIn_app (goodIn_of _ (by decide +kernel)) ggX11_leads_X11_number
theorem dX11_leads_0 : decode cX11_leads 0 = .ok (.aload_n 0, 1) := by decide +kernel
theorem dX11_leads_1 : decode cX11_leads 1 = .ok (.iload_n 1, 1) := by decide +kernel
theorem dX11_leads_2 : decode cX11_leads 2 = .ok (.invokevirtual 188, 3) := by decide +kernel
theorem dX11_leads_5 : decode cX11_leads 5 = .ok (.istore_n 3, 1) := by decide +kernel
theorem dX11_leads_6 : decode cX11_leads 6 = .ok (.iload_n 2, 1) := by decide +kernel
theorem dX11_leads_7 : decode cX11_leads 7 = .ok (.bipush 32, 2) := by decide +kernel
theorem dX11_leads_9 : decode cX11_leads 9 = .ok (.idiv, 1) := by decide +kernel
theorem dX11_leads_10 : decode cX11_leads 10 = .ok (.istore 4, 2) := by decide +kernel
theorem dX11_leads_12 : decode cX11_leads 12 = .ok (.aload_n 0, 1) := by decide +kernel
theorem dX11_leads_13 : decode cX11_leads 13 = .ok (.getfield 30, 3) := by decide +kernel
theorem dX11_leads_16 : decode cX11_leads 16 = .ok (.iload 4, 2) := by decide +kernel
theorem dX11_leads_18 : decode cX11_leads 18 = .ok (.iaload, 1) := by decide +kernel
theorem dX11_leads_19 : decode cX11_leads 19 = .ok (.iconst (-1), 1) := by decide +kernel
theorem dX11_leads_20 : decode cX11_leads 20 = .ok (.if_icmp .eq 37, 3) := by decide +kernel
theorem dX11_leads_23 : decode cX11_leads 23 = .ok (.aload_n 0, 1) := by decide +kernel
theorem dX11_leads_24 : decode cX11_leads 24 = .ok (.iload 4, 2) := by decide +kernel
theorem dX11_leads_26 : decode cX11_leads 26 = .ok (.invokevirtual 106, 3) := by decide +kernel
theorem dX11_leads_29 : decode cX11_leads 29 = .ok (.aload_n 0, 1) := by decide +kernel
theorem dX11_leads_30 : decode cX11_leads 30 = .ok (.getfield 126, 3) := by decide +kernel
theorem dX11_leads_33 : decode cX11_leads 33 = .ok (.if_icmp .ne 24, 3) := by decide +kernel
theorem dX11_leads_36 : decode cX11_leads 36 = .ok (.aload_n 0, 1) := by decide +kernel
theorem dX11_leads_37 : decode cX11_leads 37 = .ok (.iload 4, 2) := by decide +kernel
theorem dX11_leads_39 : decode cX11_leads 39 = .ok (.iload_n 2, 1) := by decide +kernel
theorem dX11_leads_40 : decode cX11_leads 40 = .ok (.bipush 8, 2) := by decide +kernel
theorem dX11_leads_42 : decode cX11_leads 42 = .ok (.idiv, 1) := by decide +kernel
theorem dX11_leads_43 : decode cX11_leads 43 = .ok (.iconst 4, 1) := by decide +kernel
theorem dX11_leads_44 : decode cX11_leads 44 = .ok (.irem, 1) := by decide +kernel
theorem dX11_leads_45 : decode cX11_leads 45 = .ok (.iload_n 2, 1) := by decide +kernel
theorem dX11_leads_46 : decode cX11_leads 46 = .ok (.bipush 8, 2) := by decide +kernel
theorem dX11_leads_48 : decode cX11_leads 48 = .ok (.irem, 1) := by decide +kernel
theorem dX11_leads_49 : decode cX11_leads 49 = .ok (.iconst 1, 1) := by decide +kernel
theorem dX11_leads_50 : decode cX11_leads 50 = .ok (.iadd, 1) := by decide +kernel
theorem dX11_leads_51 : decode cX11_leads 51 = .ok (.invokevirtual 100, 3) := by decide +kernel
theorem dX11_leads_54 : decode cX11_leads 54 = .ok (.ifCond .eq 5, 3) := by decide +kernel
theorem dX11_leads_57 : decode cX11_leads 57 = .ok (.iconst (-1), 1) := by decide +kernel
theorem dX11_leads_58 : decode cX11_leads 58 = .ok (.ireturn, 1) := by decide +kernel
theorem dX11_leads_59 : decode cX11_leads 59 = .ok (.aload_n 0, 1) := by decide +kernel
theorem dX11_leads_60 : decode cX11_leads 60 = .ok (.iload 4, 2) := by decide +kernel
theorem dX11_leads_62 : decode cX11_leads 62 = .ok (.iload_n 2, 1) := by decide +kernel
theorem dX11_leads_63 : decode cX11_leads 63 = .ok (.bipush 8, 2) := by decide +kernel
theorem dX11_leads_65 : decode cX11_leads 65 = .ok (.idiv, 1) := by decide +kernel
theorem dX11_leads_66 : decode cX11_leads 66 = .ok (.iconst 4, 1) := by decide +kernel
theorem dX11_leads_67 : decode cX11_leads 67 = .ok (.irem, 1) := by decide +kernel
theorem dX11_leads_68 : decode cX11_leads 68 = .ok (.iload_n 2, 1) := by decide +kernel
theorem dX11_leads_69 : decode cX11_leads 69 = .ok (.bipush 8, 2) := by decide +kernel
theorem dX11_leads_71 : decode cX11_leads 71 = .ok (.irem, 1) := by decide +kernel
theorem dX11_leads_72 : decode cX11_leads 72 = .ok (.iconst 1, 1) := by decide +kernel
theorem dX11_leads_73 : decode cX11_leads 73 = .ok (.iadd, 1) := by decide +kernel
theorem dX11_leads_74 : decode cX11_leads 74 = .ok (.invokevirtual 154, 3) := by decide +kernel
theorem dX11_leads_77 : decode cX11_leads 77 = .ok (.aload_n 0, 1) := by decide +kernel
theorem dX11_leads_78 : decode cX11_leads 78 = .ok (.invokevirtual 197, 3) := by decide +kernel
theorem dX11_leads_81 : decode cX11_leads 81 = .ok (.ireturn, 1) := by decide +kernel
set_option maxRecDepth 20000 in
theorem ggX11_worth_X11_number : GoodIn wsX11_worth wsX11_number := goodIn_r _ [7, 8, 9, 10, 11, 12, 13, 6, 14, 15, 16, 17, 18, 19, 20, 21, 22, 23, 24, 25, 26, 27, 28, 29, 30, 31, 32, 33, 34, 35, 36, 37, 38, 39, 40, 41, 42, 43, 44, 45] (by decide +kernel) (by decide +kernel)
set_option maxRecDepth 20000 in
theorem gX11_worth_X11_number : GoodIn wsX11_worth (wsV RX11 197 RX11 yX11_number wsX11_number) := goodIn_app (goodIn_of _ (by decide +kernel)) ggX11_worth_X11_number
theorem dX11_worth_0 : decode cX11_worth 0 = .ok (.aload_n 0, 1) := by decide +kernel
theorem dX11_worth_1 : decode cX11_worth 1 = .ok (.getfield 76, 3) := by decide +kernel
theorem dX11_worth_4 : decode cX11_worth 4 = .ok (.ifCond .eq 15, 3) := by decide +kernel
theorem dX11_worth_7 : decode cX11_worth 7 = .ok (.aload_n 0, 1) := by decide +kernel
theorem dX11_worth_8 : decode cX11_worth 8 = .ok (.getfield 57, 3) := by decide +kernel
theorem dX11_worth_11 : decode cX11_worth 11 = .ok (.aload_n 0, 1) := by decide +kernel
theorem dX11_worth_12 : decode cX11_worth 12 = .ok (.invokevirtual 197, 3) := by decide +kernel
theorem dX11_worth_15 : decode cX11_worth 15 = .ok (.iaload, 1) := by decide +kernel
theorem dX11_worth_16 : decode cX11_worth 16 = .ok (.goto 4, 3) := by decide +kernel
theorem dX11_worth_19 : decode cX11_worth 19 = .ok (.iconst (-1), 1) := by decide +kernel
theorem dX11_worth_20 : decode cX11_worth 20 = .ok (.ireturn, 1) := by decide +kernel
set_option maxRecDepth 20000 in
theorem ggX11_deep_X11_number : GoodIn wsX11_deep wsX11_number := goodIn_r _ [7, 8, 9, 10, 11, 12, 13, 6, 14, 15, 16, 17, 18, 19, 20, 21, 22, 23, 24, 25, 26, 27, 28, 29, 30, 31, 32, 33, 34, 35, 36, 37, 38, 39, 40, 41, 42, 43, 44, 45] (by decide +kernel) (by decide +kernel)
set_option maxRecDepth 20000 in
theorem gX11_deep_X11_number : GoodIn wsX11_deep (wsV RX11 197 RX11 yX11_number wsX11_number) := goodIn_app (goodIn_of _ (by decide +kernel)) ggX11_deep_X11_number
theorem dX11_deep_0 : decode cX11_deep 0 = .ok (.aload_n 0, 1) := by decide +kernel
theorem dX11_deep_1 : decode cX11_deep 1 = .ok (.getfield 76, 3) := by decide +kernel
theorem dX11_deep_4 : decode cX11_deep 4 = .ok (.ifCond .eq 15, 3) := by decide +kernel
theorem dX11_deep_7 : decode cX11_deep 7 = .ok (.aload_n 0, 1) := by decide +kernel
theorem dX11_deep_8 : decode cX11_deep 8 = .ok (.getfield 60, 3) := by decide +kernel
theorem dX11_deep_11 : decode cX11_deep 11 = .ok (.aload_n 0, 1) := by decide +kernel
theorem dX11_deep_12 : decode cX11_deep 12 = .ok (.invokevirtual 197, 3) := by decide +kernel
theorem dX11_deep_15 : decode cX11_deep 15 = .ok (.iaload, 1) := by decide +kernel
theorem dX11_deep_16 : decode cX11_deep 16 = .ok (.goto 4, 3) := by decide +kernel
theorem dX11_deep_19 : decode cX11_deep 19 = .ok (.iconst (-1), 1) := by decide +kernel
theorem dX11_deep_20 : decode cX11_deep 20 = .ok (.ireturn, 1) := by decide +kernel
set_option maxRecDepth 20000 in
theorem ggX11_best_X11_number : GoodIn wsX11_best wsX11_number := goodIn_r _ [10, 2, 11, 12, 13, 14, 15, 9, 16, 17, 18, 98, 99, 100, 101, 102, 103, 104, 105, 106, 107, 108, 109, 110, 111, 112, 113, 114, 115, 116, 117, 118, 119, 120, 121, 122, 123, 124, 125, 126] (by decide +kernel) (by decide +kernel)
set_option maxRecDepth 20000 in
theorem gX11_best_X11_number : GoodIn wsX11_best (wsV RX11 197 RX11 yX11_number wsX11_number) := goodIn_app (goodIn_of _ (by decide +kernel)) ggX11_best_X11_number
set_option maxRecDepth 20000 in
theorem ggX11_best_X11_endOf : GoodIn wsX11_best wsX11_endOf := goodIn_r _ [22, 11, 23, 12, 24, 25, 26, 9, 27, 28, 29, 18, 13, 14, 15, 16, 17, 30, 31, 32, 33, 2, 34, 35, 36, 37, 38, 39, 40, 41, 42, 43, 44, 45, 46, 47, 48, 49, 50, 51, 52, 53, 54, 55, 56, 98, 99, 100, 101, 102, 103, 104, 105, 106, 107, 108, 109, 110, 111, 112, 113, 114, 115, 116, 117, 118, 119, 120, 121, 122, 123, 124, 125, 126] (by decide +kernel) (by decide +kernel)
set_option maxRecDepth 20000 in
theorem gX11_best_X11_endOf : GoodIn wsX11_best (wsV RX11 191 RX11 yX11_endOf wsX11_endOf) := goodIn_app (goodIn_of _ (by decide +kernel)) ggX11_best_X11_endOf
set_option maxRecDepth 20000 in
theorem ggX11_best_X11_leads : GoodIn wsX11_best wsX11_leads := goodIn_r _ [60, 11, 12, 61, 62, 63, 9, 64, 48, 2, 13, 14, 15, 16, 17, 18, 53, 54, 55, 56, 29, 38, 34, 35, 36, 37, 43, 44, 45, 46, 47, 49, 50, 51, 52, 65, 66, 67, 68, 69, 70, 71, 72, 73, 74, 75, 76, 77, 78, 79, 80, 81, 82, 83, 84, 6, 7, 8, 10, 98, 99, 100, 101, 102, 103, 104, 105, 106, 107, 108, 109, 110, 111, 112, 113, 114, 115, 116, 117, 118, 119, 120, 121, 122, 123, 124, 125, 126] (by decide +kernel) (by decide +kernel)
set_option maxRecDepth 20000 in
theorem gX11_best_X11_leads : GoodIn wsX11_best (wsV RX11 200 RX11 yX11_leads wsX11_leads) := goodIn_app (goodIn_of _ (by decide +kernel)) ggX11_best_X11_leads
set_option maxRecDepth 20000 in
theorem ggX11_best_X11_read : GoodIn wsX11_best wsX11_read := goodIn_r _ [88, 48, 2, 11, 89, 12, 90, 91, 92, 9, 93, 98, 99, 100, 101, 102, 103, 104, 105, 106, 107, 108, 109, 110, 111, 112, 113, 114, 115, 116, 117, 118, 119, 120, 121, 122, 123, 124, 125, 126] (by decide +kernel) (by decide +kernel)
set_option maxRecDepth 20000 in
theorem gX11_best_X11_read : GoodIn wsX11_best (wsV RX11 161 RX11 yX11_read wsX11_read) := goodIn_app (goodIn_of _ (by decide +kernel)) ggX11_best_X11_read
set_option maxRecDepth 20000 in
theorem ggX11_best_X11_lookAgain : GoodIn wsX11_best wsX11_lookAgain := goodIn_r _ [97, 5, 70, 2, 69, 89, 90, 91, 92, 9, 93, 98, 99, 100, 101, 102, 103, 104, 105, 106, 107, 108, 109, 110, 111, 112, 113, 114, 115, 116, 117, 118, 119, 120, 121, 122, 123, 124, 125, 126] (by decide +kernel) (by decide +kernel)
set_option maxRecDepth 20000 in
theorem gX11_best_X11_lookAgain : GoodIn wsX11_best (wsV RX11 164 RX11 yX11_lookAgain wsX11_lookAgain) := goodIn_app (goodIn_of _ (by decide +kernel)) ggX11_best_X11_lookAgain
theorem dX11_best_0 : decode cX11_best 0 = .ok (.aload_n 0, 1) := by decide +kernel
theorem dX11_best_1 : decode cX11_best 1 = .ok (.getfield 76, 3) := by decide +kernel
theorem dX11_best_4 : decode cX11_best 4 = .ok (.ifCond .ne 5, 3) := by decide +kernel
theorem dX11_best_7 : decode cX11_best 7 = .ok (.iconst (-1), 1) := by decide +kernel
theorem dX11_best_8 : decode cX11_best 8 = .ok (.ireturn, 1) := by decide +kernel
theorem dX11_best_9 : decode cX11_best 9 = .ok (.aload_n 0, 1) := by decide +kernel
theorem dX11_best_10 : decode cX11_best 10 = .ok (.invokevirtual 197, 3) := by decide +kernel
theorem dX11_best_13 : decode cX11_best 13 = .ok (.istore_n 1, 1) := by decide +kernel
theorem dX11_best_14 : decode cX11_best 14 = .ok (.aload_n 0, 1) := by decide +kernel
theorem dX11_best_15 : decode cX11_best 15 = .ok (.invokevirtual 191, 3) := by decide +kernel
theorem dX11_best_18 : decode cX11_best 18 = .ok (.iconst 3, 1) := by decide +kernel
theorem dX11_best_19 : decode cX11_best 19 = .ok (.if_icmp .eq 7, 3) := by decide +kernel
theorem dX11_best_22 : decode cX11_best 22 = .ok (.iconst 1, 1) := by decide +kernel
theorem dX11_best_23 : decode cX11_best 23 = .ok (.goto 4, 3) := by decide +kernel
theorem dX11_best_26 : decode cX11_best 26 = .ok (.iconst 0, 1) := by decide +kernel
theorem dX11_best_27 : decode cX11_best 27 = .ok (.istore_n 2, 1) := by decide +kernel
theorem dX11_best_28 : decode cX11_best 28 = .ok (.iconst (-1), 1) := by decide +kernel
theorem dX11_best_29 : decode cX11_best 29 = .ok (.istore_n 3, 1) := by decide +kernel
theorem dX11_best_30 : decode cX11_best 30 = .ok (.iconst 0, 1) := by decide +kernel
theorem dX11_best_31 : decode cX11_best 31 = .ok (.istore 4, 2) := by decide +kernel
theorem dX11_best_33 : decode cX11_best 33 = .ok (.iload_n 1, 1) := by decide +kernel
theorem dX11_best_34 : decode cX11_best 34 = .ok (.iconst 2, 1) := by decide +kernel
theorem dX11_best_35 : decode cX11_best 35 = .ok (.irem, 1) := by decide +kernel
theorem dX11_best_36 : decode cX11_best 36 = .ok (.istore 5, 2) := by decide +kernel
theorem dX11_best_38 : decode cX11_best 38 = .ok (.iconst 0, 1) := by decide +kernel
theorem dX11_best_39 : decode cX11_best 39 = .ok (.istore 6, 2) := by decide +kernel
theorem dX11_best_41 : decode cX11_best 41 = .ok (.iload 6, 2) := by decide +kernel
theorem dX11_best_43 : decode cX11_best 43 = .ok (.bipush 32, 2) := by decide +kernel
theorem dX11_best_45 : decode cX11_best 45 = .ok (.aload_n 0, 1) := by decide +kernel
theorem dX11_best_46 : decode cX11_best 46 = .ok (.getfield 103, 3) := by decide +kernel
theorem dX11_best_49 : decode cX11_best 49 = .ok (.imul, 1) := by decide +kernel
theorem dX11_best_50 : decode cX11_best 50 = .ok (.if_icmp .ge 127, 3) := by decide +kernel
theorem dX11_best_53 : decode cX11_best 53 = .ok (.iload_n 2, 1) := by decide +kernel
theorem dX11_best_54 : decode cX11_best 54 = .ok (.ifCond .ne 123, 3) := by decide +kernel
theorem dX11_best_57 : decode cX11_best 57 = .ok (.aload_n 0, 1) := by decide +kernel
theorem dX11_best_58 : decode cX11_best 58 = .ok (.iload_n 1, 1) := by decide +kernel
theorem dX11_best_59 : decode cX11_best 59 = .ok (.iload 6, 2) := by decide +kernel
theorem dX11_best_61 : decode cX11_best 61 = .ok (.invokevirtual 200, 3) := by decide +kernel
theorem dX11_best_64 : decode cX11_best 64 = .ok (.istore 7, 2) := by decide +kernel
theorem dX11_best_66 : decode cX11_best 66 = .ok (.iload 7, 2) := by decide +kernel
theorem dX11_best_68 : decode cX11_best 68 = .ok (.iconst (-1), 1) := by decide +kernel
theorem dX11_best_69 : decode cX11_best 69 = .ok (.if_icmp .eq 102, 3) := by decide +kernel
theorem dX11_best_72 : decode cX11_best 72 = .ok (.aload_n 0, 1) := by decide +kernel
theorem dX11_best_73 : decode cX11_best 73 = .ok (.getfield 57, 3) := by decide +kernel
theorem dX11_best_76 : decode cX11_best 76 = .ok (.iload 7, 2) := by decide +kernel
theorem dX11_best_78 : decode cX11_best 78 = .ok (.iaload, 1) := by decide +kernel
theorem dX11_best_79 : decode cX11_best 79 = .ok (.aload_n 0, 1) := by decide +kernel
theorem dX11_best_80 : decode cX11_best 80 = .ok (.getfield 57, 3) := by decide +kernel
theorem dX11_best_83 : decode cX11_best 83 = .ok (.iload_n 1, 1) := by decide +kernel
theorem dX11_best_84 : decode cX11_best 84 = .ok (.iaload, 1) := by decide +kernel
theorem dX11_best_85 : decode cX11_best 85 = .ok (.if_icmp .eq 6, 3) := by decide +kernel
theorem dX11_best_88 : decode cX11_best 88 = .ok (.goto 83, 3) := by decide +kernel
theorem dX11_best_91 : decode cX11_best 91 = .ok (.iload_n 3, 1) := by decide +kernel
theorem dX11_best_92 : decode cX11_best 92 = .ok (.iconst (-1), 1) := by decide +kernel
theorem dX11_best_93 : decode cX11_best 93 = .ok (.if_icmp .eq 51, 3) := by decide +kernel
theorem dX11_best_96 : decode cX11_best 96 = .ok (.aload_n 0, 1) := by decide +kernel
theorem dX11_best_97 : decode cX11_best 97 = .ok (.getfield 57, 3) := by decide +kernel
theorem dX11_best_100 : decode cX11_best 100 = .ok (.iload_n 1, 1) := by decide +kernel
theorem dX11_best_101 : decode cX11_best 101 = .ok (.iaload, 1) := by decide +kernel
theorem dX11_best_102 : decode cX11_best 102 = .ok (.iload 5, 2) := by decide +kernel
theorem dX11_best_104 : decode cX11_best 104 = .ok (.if_icmp .ne 15, 3) := by decide +kernel
theorem dX11_best_107 : decode cX11_best 107 = .ok (.aload_n 0, 1) := by decide +kernel
theorem dX11_best_108 : decode cX11_best 108 = .ok (.getfield 60, 3) := by decide +kernel
theorem dX11_best_111 : decode cX11_best 111 = .ok (.iload 7, 2) := by decide +kernel
theorem dX11_best_113 : decode cX11_best 113 = .ok (.iaload, 1) := by decide +kernel
theorem dX11_best_114 : decode cX11_best 114 = .ok (.iload 4, 2) := by decide +kernel
theorem dX11_best_116 : decode cX11_best 116 = .ok (.if_icmp .lt 28, 3) := by decide +kernel
theorem dX11_best_119 : decode cX11_best 119 = .ok (.aload_n 0, 1) := by decide +kernel
theorem dX11_best_120 : decode cX11_best 120 = .ok (.getfield 57, 3) := by decide +kernel
theorem dX11_best_123 : decode cX11_best 123 = .ok (.iload_n 1, 1) := by decide +kernel
theorem dX11_best_124 : decode cX11_best 124 = .ok (.iaload, 1) := by decide +kernel
theorem dX11_best_125 : decode cX11_best 125 = .ok (.iconst 1, 1) := by decide +kernel
theorem dX11_best_126 : decode cX11_best 126 = .ok (.iload 5, 2) := by decide +kernel
theorem dX11_best_128 : decode cX11_best 128 = .ok (.isub, 1) := by decide +kernel
theorem dX11_best_129 : decode cX11_best 129 = .ok (.if_icmp .ne 19, 3) := by decide +kernel
theorem dX11_best_132 : decode cX11_best 132 = .ok (.aload_n 0, 1) := by decide +kernel
theorem dX11_best_133 : decode cX11_best 133 = .ok (.getfield 60, 3) := by decide +kernel
theorem dX11_best_136 : decode cX11_best 136 = .ok (.iload 7, 2) := by decide +kernel
theorem dX11_best_138 : decode cX11_best 138 = .ok (.iaload, 1) := by decide +kernel
theorem dX11_best_139 : decode cX11_best 139 = .ok (.iload 4, 2) := by decide +kernel
theorem dX11_best_141 : decode cX11_best 141 = .ok (.if_icmp .le 7, 3) := by decide +kernel
theorem dX11_best_144 : decode cX11_best 144 = .ok (.iconst 1, 1) := by decide +kernel
theorem dX11_best_145 : decode cX11_best 145 = .ok (.goto 4, 3) := by decide +kernel
theorem dX11_best_148 : decode cX11_best 148 = .ok (.iconst 0, 1) := by decide +kernel
theorem dX11_best_149 : decode cX11_best 149 = .ok (.istore 8, 2) := by decide +kernel
theorem dX11_best_151 : decode cX11_best 151 = .ok (.iload 8, 2) := by decide +kernel
theorem dX11_best_153 : decode cX11_best 153 = .ok (.ifCond .ne 6, 3) := by decide +kernel
theorem dX11_best_156 : decode cX11_best 156 = .ok (.goto 15, 3) := by decide +kernel
theorem dX11_best_159 : decode cX11_best 159 = .ok (.iload 6, 2) := by decide +kernel
theorem dX11_best_161 : decode cX11_best 161 = .ok (.istore_n 3, 1) := by decide +kernel
theorem dX11_best_162 : decode cX11_best 162 = .ok (.aload_n 0, 1) := by decide +kernel
theorem dX11_best_163 : decode cX11_best 163 = .ok (.getfield 60, 3) := by decide +kernel
theorem dX11_best_166 : decode cX11_best 166 = .ok (.iload 7, 2) := by decide +kernel
theorem dX11_best_168 : decode cX11_best 168 = .ok (.iaload, 1) := by decide +kernel
theorem dX11_best_169 : decode cX11_best 169 = .ok (.istore 4, 2) := by decide +kernel
theorem dX11_best_171 : decode cX11_best 171 = .ok (.iinc 6 1, 3) := by decide +kernel
theorem dX11_best_174 : decode cX11_best 174 = .ok (.goto (-133), 3) := by decide +kernel
theorem dX11_best_177 : decode cX11_best 177 = .ok (.aload_n 0, 1) := by decide +kernel
theorem dX11_best_178 : decode cX11_best 178 = .ok (.aload_n 0, 1) := by decide +kernel
theorem dX11_best_179 : decode cX11_best 179 = .ok (.getfield 138, 3) := by decide +kernel
theorem dX11_best_182 : decode cX11_best 182 = .ok (.invokevirtual 161, 3) := by decide +kernel
theorem dX11_best_185 : decode cX11_best 185 = .ok (.aload_n 0, 1) := by decide +kernel
theorem dX11_best_186 : decode cX11_best 186 = .ok (.invokevirtual 164, 3) := by decide +kernel
theorem dX11_best_189 : decode cX11_best 189 = .ok (.iload_n 3, 1) := by decide +kernel
theorem dX11_best_190 : decode cX11_best 190 = .ok (.ireturn, 1) := by decide +kernel
set_option maxRecDepth 20000 in
theorem ggX11_count_X11_isIn : GoodIn wsX11_count wsX11_isIn := goodIn_r _ [6] (by decide +kernel) (by decide +kernel)
set_option maxRecDepth 20000 in
theorem gX11_count_X11_isIn : GoodIn wsX11_count (va_wsS RX11 69 yX11_isIn wsX11_isIn) := goodIn_app (goodIn_of _ (by decide +kernel)) ggX11_count_X11_isIn
set_option maxRecDepth 20000 in
theorem ggX11_count_X11_stands : GoodIn wsX11_count wsX11_stands := goodIn_r _ [10, 11, 12, 13, 14, 15, 16, 5, 17, 18, 19, 20, 21, 22, 23, 24, 25, 26, 27, 28, 29, 30, 31, 32, 33, 34, 35, 36, 37, 38, 39, 40, 41, 42, 43, 44, 45, 46, 47, 48] (by decide +kernel) (by decide +kernel)
set_option maxRecDepth 20000 in
theorem gX11_count_X11_stands : GoodIn wsX11_count (wsV RX11 184 RX11 yX11_stands wsX11_stands) := goodIn_app (goodIn_of _ (by decide +kernel)) ggX11_count_X11_stands
theorem dX11_count_0 : decode cX11_count 0 = .ok (.aload_n 0, 1) := by decide +kernel
theorem dX11_count_1 : decode cX11_count 1 = .ok (.getfield 76, 3) := by decide +kernel
theorem dX11_count_4 : decode cX11_count 4 = .ok (.ifCond .eq 21, 3) := by decide +kernel
theorem dX11_count_7 : decode cX11_count 7 = .ok (.iload_n 1, 1) := by decide +kernel
theorem dX11_count_8 : decode cX11_count 8 = .ok (.iconst 0, 1) := by decide +kernel
theorem dX11_count_9 : decode cX11_count 9 = .ok (.iconst 2, 1) := by decide +kernel
theorem dX11_count_10 : decode cX11_count 10 = .ok (.invokestatic 69, 3) := by decide +kernel
theorem dX11_count_13 : decode cX11_count 13 = .ok (.ifCond .eq 12, 3) := by decide +kernel
theorem dX11_count_16 : decode cX11_count 16 = .ok (.iload_n 2, 1) := by decide +kernel
theorem dX11_count_17 : decode cX11_count 17 = .ok (.iconst 0, 1) := by decide +kernel
theorem dX11_count_18 : decode cX11_count 18 = .ok (.iconst 1, 1) := by decide +kernel
theorem dX11_count_19 : decode cX11_count 19 = .ok (.invokestatic 69, 3) := by decide +kernel
theorem dX11_count_22 : decode cX11_count 22 = .ok (.ifCond .ne 5, 3) := by decide +kernel
theorem dX11_count_25 : decode cX11_count 25 = .ok (.iconst (-1), 1) := by decide +kernel
theorem dX11_count_26 : decode cX11_count 26 = .ok (.ireturn, 1) := by decide +kernel
theorem dX11_count_27 : decode cX11_count 27 = .ok (.iconst 0, 1) := by decide +kernel
theorem dX11_count_28 : decode cX11_count 28 = .ok (.istore_n 3, 1) := by decide +kernel
theorem dX11_count_29 : decode cX11_count 29 = .ok (.iload_n 2, 1) := by decide +kernel
theorem dX11_count_30 : decode cX11_count 30 = .ok (.istore 4, 2) := by decide +kernel
theorem dX11_count_32 : decode cX11_count 32 = .ok (.iload 4, 2) := by decide +kernel
theorem dX11_count_34 : decode cX11_count 34 = .ok (.i2l, 1) := by decide +kernel
theorem dX11_count_35 : decode cX11_count 35 = .ok (.aload_n 0, 1) := by decide +kernel
theorem dX11_count_36 : decode cX11_count 36 = .ok (.invokevirtual 184, 3) := by decide +kernel
theorem dX11_count_39 : decode cX11_count 39 = .ok (.lcmp, 1) := by decide +kernel
theorem dX11_count_40 : decode cX11_count 40 = .ok (.ifCond .ge 28, 3) := by decide +kernel
theorem dX11_count_43 : decode cX11_count 43 = .ok (.iload_n 3, 1) := by decide +kernel
theorem dX11_count_44 : decode cX11_count 44 = .ok (.aload_n 0, 1) := by decide +kernel
theorem dX11_count_45 : decode cX11_count 45 = .ok (.getfield 57, 3) := by decide +kernel
theorem dX11_count_48 : decode cX11_count 48 = .ok (.iload 4, 2) := by decide +kernel
theorem dX11_count_50 : decode cX11_count 50 = .ok (.iaload, 1) := by decide +kernel
theorem dX11_count_51 : decode cX11_count 51 = .ok (.iload_n 1, 1) := by decide +kernel
theorem dX11_count_52 : decode cX11_count 52 = .ok (.if_icmp .ne 7, 3) := by decide +kernel
theorem dX11_count_55 : decode cX11_count 55 = .ok (.iconst 1, 1) := by decide +kernel
theorem dX11_count_56 : decode cX11_count 56 = .ok (.goto 4, 3) := by decide +kernel
theorem dX11_count_59 : decode cX11_count 59 = .ok (.iconst 0, 1) := by decide +kernel
theorem dX11_count_60 : decode cX11_count 60 = .ok (.iadd, 1) := by decide +kernel
theorem dX11_count_61 : decode cX11_count 61 = .ok (.istore_n 3, 1) := by decide +kernel
theorem dX11_count_62 : decode cX11_count 62 = .ok (.iinc 4 2, 3) := by decide +kernel
theorem dX11_count_65 : decode cX11_count 65 = .ok (.goto (-33), 3) := by decide +kernel
theorem dX11_count_68 : decode cX11_count 68 = .ok (.iload_n 3, 1) := by decide +kernel
theorem dX11_count_69 : decode cX11_count 69 = .ok (.ireturn, 1) := by decide +kernel
set_option maxRecDepth 20000 in
theorem ggX11_most_X11_isIn : GoodIn wsX11_most wsX11_isIn := goodIn_r _ [11] (by decide +kernel) (by decide +kernel)
set_option maxRecDepth 20000 in
theorem gX11_most_X11_isIn : GoodIn wsX11_most (va_wsS RX11 69 yX11_isIn wsX11_isIn) := goodIn_app (goodIn_of _ (by decide +kernel)) ggX11_most_X11_isIn
set_option maxRecDepth 20000 in
theorem ggX11_most_X11_stands : GoodIn wsX11_most wsX11_stands := goodIn_r _ [15, 16, 17, 18, 19, 20, 21, 10, 22, 23, 24, 25, 26, 27, 28, 29, 30, 31, 32, 33, 34, 35, 36, 37, 38, 39, 40, 41, 42, 43, 44, 45, 46, 47, 48, 49, 50, 51, 52, 53] (by decide +kernel) (by decide +kernel)
set_option maxRecDepth 20000 in
theorem gX11_most_X11_stands : GoodIn wsX11_most (wsV RX11 184 RX11 yX11_stands wsX11_stands) := goodIn_app (goodIn_of _ (by decide +kernel)) ggX11_most_X11_stands
theorem dX11_most_0 : decode cX11_most 0 = .ok (.aload_n 0, 1) := by decide +kernel
theorem dX11_most_1 : decode cX11_most 1 = .ok (.getfield 76, 3) := by decide +kernel
theorem dX11_most_4 : decode cX11_most 4 = .ok (.ifCond .eq 12, 3) := by decide +kernel
theorem dX11_most_7 : decode cX11_most 7 = .ok (.iload_n 1, 1) := by decide +kernel
theorem dX11_most_8 : decode cX11_most 8 = .ok (.iconst 0, 1) := by decide +kernel
theorem dX11_most_9 : decode cX11_most 9 = .ok (.iconst 1, 1) := by decide +kernel
theorem dX11_most_10 : decode cX11_most 10 = .ok (.invokestatic 69, 3) := by decide +kernel
theorem dX11_most_13 : decode cX11_most 13 = .ok (.ifCond .ne 5, 3) := by decide +kernel
theorem dX11_most_16 : decode cX11_most 16 = .ok (.iconst (-1), 1) := by decide +kernel
theorem dX11_most_17 : decode cX11_most 17 = .ok (.ireturn, 1) := by decide +kernel
theorem dX11_most_18 : decode cX11_most 18 = .ok (.iconst (-1), 1) := by decide +kernel
theorem dX11_most_19 : decode cX11_most 19 = .ok (.istore_n 2, 1) := by decide +kernel
theorem dX11_most_20 : decode cX11_most 20 = .ok (.iconst 0, 1) := by decide +kernel
theorem dX11_most_21 : decode cX11_most 21 = .ok (.istore_n 3, 1) := by decide +kernel
theorem dX11_most_22 : decode cX11_most 22 = .ok (.iload_n 3, 1) := by decide +kernel
theorem dX11_most_23 : decode cX11_most 23 = .ok (.i2l, 1) := by decide +kernel
theorem dX11_most_24 : decode cX11_most 24 = .ok (.aload_n 0, 1) := by decide +kernel
theorem dX11_most_25 : decode cX11_most 25 = .ok (.invokevirtual 184, 3) := by decide +kernel
theorem dX11_most_28 : decode cX11_most 28 = .ok (.lcmp, 1) := by decide +kernel
theorem dX11_most_29 : decode cX11_most 29 = .ok (.ifCond .ge 30, 3) := by decide +kernel
theorem dX11_most_32 : decode cX11_most 32 = .ok (.aload_n 0, 1) := by decide +kernel
theorem dX11_most_33 : decode cX11_most 33 = .ok (.getfield 57, 3) := by decide +kernel
theorem dX11_most_36 : decode cX11_most 36 = .ok (.iload_n 3, 1) := by decide +kernel
theorem dX11_most_37 : decode cX11_most 37 = .ok (.iaload, 1) := by decide +kernel
theorem dX11_most_38 : decode cX11_most 38 = .ok (.iload_n 1, 1) := by decide +kernel
theorem dX11_most_39 : decode cX11_most 39 = .ok (.if_icmp .ne 14, 3) := by decide +kernel
theorem dX11_most_42 : decode cX11_most 42 = .ok (.iload_n 2, 1) := by decide +kernel
theorem dX11_most_43 : decode cX11_most 43 = .ok (.aload_n 0, 1) := by decide +kernel
theorem dX11_most_44 : decode cX11_most 44 = .ok (.getfield 60, 3) := by decide +kernel
theorem dX11_most_47 : decode cX11_most 47 = .ok (.iload_n 3, 1) := by decide +kernel
theorem dX11_most_48 : decode cX11_most 48 = .ok (.iaload, 1) := by decide +kernel
theorem dX11_most_49 : decode cX11_most 49 = .ok (.invokestatic 204, 3) := by decide +kernel
theorem dX11_most_52 : decode cX11_most 52 = .ok (.istore_n 2, 1) := by decide +kernel
theorem dX11_most_53 : decode cX11_most 53 = .ok (.iinc 3 1, 3) := by decide +kernel
theorem dX11_most_56 : decode cX11_most 56 = .ok (.goto (-34), 3) := by decide +kernel
theorem dX11_most_59 : decode cX11_most 59 = .ok (.iload_n 2, 1) := by decide +kernel
theorem dX11_most_60 : decode cX11_most 60 = .ok (.ireturn, 1) := by decide +kernel
set_option maxRecDepth 20000 in
theorem ggX11_stand_X11_isIn : GoodIn wsX11_stand wsX11_isIn := goodIn_r _ [7] (by decide +kernel) (by decide +kernel)
set_option maxRecDepth 20000 in
theorem gX11_stand_X11_isIn : GoodIn wsX11_stand (va_wsS RX11 69 yX11_isIn wsX11_isIn) := goodIn_app (goodIn_of _ (by decide +kernel)) ggX11_stand_X11_isIn
set_option maxRecDepth 20000 in
theorem ggX11_stand_X11_stands : GoodIn wsX11_stand wsX11_stands := goodIn_r _ [11, 2, 12, 13, 14, 15, 16, 6, 17, 18, 19, 20, 21, 22, 23, 24, 25, 26, 27, 28, 29, 30, 31, 32, 33, 34, 35, 36, 37, 38, 39, 40, 41, 42, 43, 44, 45, 46, 47, 48] (by decide +kernel) (by decide +kernel)
set_option maxRecDepth 20000 in
theorem gX11_stand_X11_stands : GoodIn wsX11_stand (wsV RX11 184 RX11 yX11_stands wsX11_stands) := goodIn_app (goodIn_of _ (by decide +kernel)) ggX11_stand_X11_stands
theorem dX11_stand_0 : decode cX11_stand 0 = .ok (.aload_n 0, 1) := by decide +kernel
theorem dX11_stand_1 : decode cX11_stand 1 = .ok (.getfield 76, 3) := by decide +kernel
theorem dX11_stand_4 : decode cX11_stand 4 = .ok (.ifCond .eq 30, 3) := by decide +kernel
theorem dX11_stand_7 : decode cX11_stand 7 = .ok (.iload_n 2, 1) := by decide +kernel
theorem dX11_stand_8 : decode cX11_stand 8 = .ok (.iconst 0, 1) := by decide +kernel
theorem dX11_stand_9 : decode cX11_stand 9 = .ok (.iconst 1, 1) := by decide +kernel
theorem dX11_stand_10 : decode cX11_stand 10 = .ok (.invokestatic 69, 3) := by decide +kernel
theorem dX11_stand_13 : decode cX11_stand 13 = .ok (.ifCond .eq 21, 3) := by decide +kernel
theorem dX11_stand_16 : decode cX11_stand 16 = .ok (.iload_n 1, 1) := by decide +kernel
theorem dX11_stand_17 : decode cX11_stand 17 = .ok (.ifCond .lt 17, 3) := by decide +kernel
theorem dX11_stand_20 : decode cX11_stand 20 = .ok (.iload_n 1, 1) := by decide +kernel
theorem dX11_stand_21 : decode cX11_stand 21 = .ok (.i2l, 1) := by decide +kernel
theorem dX11_stand_22 : decode cX11_stand 22 = .ok (.aload_n 0, 1) := by decide +kernel
theorem dX11_stand_23 : decode cX11_stand 23 = .ok (.invokevirtual 184, 3) := by decide +kernel
theorem dX11_stand_26 : decode cX11_stand 26 = .ok (.ldc2_w 180, 3) := by decide +kernel
theorem dX11_stand_29 : decode cX11_stand 29 = .ok (.ldiv, 1) := by decide +kernel
theorem dX11_stand_30 : decode cX11_stand 30 = .ok (.lcmp, 1) := by decide +kernel
theorem dX11_stand_31 : decode cX11_stand 31 = .ok (.ifCond .lt 5, 3) := by decide +kernel
theorem dX11_stand_34 : decode cX11_stand 34 = .ok (.iconst (-1), 1) := by decide +kernel
theorem dX11_stand_35 : decode cX11_stand 35 = .ok (.ireturn, 1) := by decide +kernel
theorem dX11_stand_36 : decode cX11_stand 36 = .ok (.aload_n 0, 1) := by decide +kernel
theorem dX11_stand_37 : decode cX11_stand 37 = .ok (.getfield 57, 3) := by decide +kernel
theorem dX11_stand_40 : decode cX11_stand 40 = .ok (.iconst 2, 1) := by decide +kernel
theorem dX11_stand_41 : decode cX11_stand 41 = .ok (.iload_n 1, 1) := by decide +kernel
theorem dX11_stand_42 : decode cX11_stand 42 = .ok (.imul, 1) := by decide +kernel
theorem dX11_stand_43 : decode cX11_stand 43 = .ok (.iload_n 2, 1) := by decide +kernel
theorem dX11_stand_44 : decode cX11_stand 44 = .ok (.iadd, 1) := by decide +kernel
theorem dX11_stand_45 : decode cX11_stand 45 = .ok (.iaload, 1) := by decide +kernel
theorem dX11_stand_46 : decode cX11_stand 46 = .ok (.istore_n 3, 1) := by decide +kernel
theorem dX11_stand_47 : decode cX11_stand 47 = .ok (.iload_n 3, 1) := by decide +kernel
theorem dX11_stand_48 : decode cX11_stand 48 = .ok (.iconst 2, 1) := by decide +kernel
theorem dX11_stand_49 : decode cX11_stand 49 = .ok (.if_icmp .le 7, 3) := by decide +kernel
theorem dX11_stand_52 : decode cX11_stand 52 = .ok (.iconst (-1), 1) := by decide +kernel
theorem dX11_stand_53 : decode cX11_stand 53 = .ok (.goto 4, 3) := by decide +kernel
theorem dX11_stand_56 : decode cX11_stand 56 = .ok (.iload_n 3, 1) := by decide +kernel
theorem dX11_stand_57 : decode cX11_stand 57 = .ok (.ireturn, 1) := by decide +kernel
theorem dJ9_max_7cf53_0 : decode cJ9_max_7cf53 0 = .ok (.iload_n 0, 1) := by decide +kernel
theorem dJ9_max_7cf53_1 : decode cJ9_max_7cf53 1 = .ok (.iload_n 1, 1) := by decide +kernel
theorem dJ9_max_7cf53_2 : decode cJ9_max_7cf53 2 = .ok (.if_icmp .lt 7, 3) := by decide +kernel
theorem dJ9_max_7cf53_5 : decode cJ9_max_7cf53 5 = .ok (.iload_n 0, 1) := by decide +kernel
theorem dJ9_max_7cf53_6 : decode cJ9_max_7cf53 6 = .ok (.goto 4, 3) := by decide +kernel
theorem dJ9_max_7cf53_9 : decode cJ9_max_7cf53 9 = .ok (.iload_n 1, 1) := by decide +kernel
theorem dJ9_max_7cf53_10 : decode cJ9_max_7cf53 10 = .ok (.ireturn, 1) := by decide +kernel
theorem dJ9_min_7cf53_0 : decode cJ9_min_7cf53 0 = .ok (.iload_n 0, 1) := by decide +kernel
theorem dJ9_min_7cf53_1 : decode cJ9_min_7cf53 1 = .ok (.iload_n 1, 1) := by decide +kernel
theorem dJ9_min_7cf53_2 : decode cJ9_min_7cf53 2 = .ok (.if_icmp .gt 7, 3) := by decide +kernel
theorem dJ9_min_7cf53_5 : decode cJ9_min_7cf53 5 = .ok (.iload_n 0, 1) := by decide +kernel
theorem dJ9_min_7cf53_6 : decode cJ9_min_7cf53 6 = .ok (.goto 4, 3) := by decide +kernel
theorem dJ9_min_7cf53_9 : decode cJ9_min_7cf53 9 = .ok (.iload_n 1, 1) := by decide +kernel
theorem dJ9_min_7cf53_10 : decode cJ9_min_7cf53 10 = .ok (.ireturn, 1) := by decide +kernel
theorem dJ7_fill_53178_0 : decode cJ7_fill_53178 0 = .ok (.iconst 0, 1) := by decide +kernel
theorem dJ7_fill_53178_1 : decode cJ7_fill_53178 1 = .ok (.istore_n 2, 1) := by decide +kernel
theorem dJ7_fill_53178_2 : decode cJ7_fill_53178 2 = .ok (.aload_n 0, 1) := by decide +kernel
theorem dJ7_fill_53178_3 : decode cJ7_fill_53178 3 = .ok (.arraylength, 1) := by decide +kernel
theorem dJ7_fill_53178_4 : decode cJ7_fill_53178 4 = .ok (.istore_n 3, 1) := by decide +kernel
theorem dJ7_fill_53178_5 : decode cJ7_fill_53178 5 = .ok (.iload_n 2, 1) := by decide +kernel
theorem dJ7_fill_53178_6 : decode cJ7_fill_53178 6 = .ok (.iload_n 3, 1) := by decide +kernel
theorem dJ7_fill_53178_7 : decode cJ7_fill_53178 7 = .ok (.if_icmp .ge 13, 3) := by decide +kernel
theorem dJ7_fill_53178_10 : decode cJ7_fill_53178 10 = .ok (.aload_n 0, 1) := by decide +kernel
theorem dJ7_fill_53178_11 : decode cJ7_fill_53178 11 = .ok (.iload_n 2, 1) := by decide +kernel
theorem dJ7_fill_53178_12 : decode cJ7_fill_53178 12 = .ok (.iload_n 1, 1) := by decide +kernel
theorem dJ7_fill_53178_13 : decode cJ7_fill_53178 13 = .ok (.iastore, 1) := by decide +kernel
theorem dJ7_fill_53178_14 : decode cJ7_fill_53178 14 = .ok (.iinc 2 1, 3) := by decide +kernel
theorem dJ7_fill_53178_17 : decode cJ7_fill_53178 17 = .ok (.goto (-12), 3) := by decide +kernel
theorem dJ7_fill_53178_20 : decode cJ7_fill_53178 20 = .ok (.return_, 1) := by decide +kernel
set_option maxRecDepth 20000 in
theorem ggL_law_X10_init : GoodIn wsL_law wsX10_init := goodIn_r _ [8, 9, 10, 11, 12, 13, 14, 15, 16, 17, 18, 19, 20, 21, 22, 23, 24, 25, 26, 27, 28, 29, 30, 31, 32, 33, 34, 35, 36, 37, 38, 39, 40, 41, 42, 43, 44, 45, 46, 47, 48, 49, 50, 51, 52, 53, 54, 55, 56, 57, 58, 59, 60, 61, 62, 63, 64, 65, 66, 67, 68, 69, 70, 71, 72, 73, 74, 75, 76, 77, 78, 79, 80, 81, 82, 83, 84, 85, 86, 87, 88, 89, 90, 91, 92, 93, 94, 95, 96, 97, 98, 99, 100, 101, 102, 103, 104, 105, 106, 107, 108, 109, 110, 111, 112, 113, 114, 115, 116, 117, 118, 119, 120, 121, 122, 123, 124, 125, 126, 127, 128, 129, 130, 131, 132, 133, 134, 135, 136, 137, 138, 139, 140, 141, 142, 143, 144, 878, 879, 880, 843, 844, 845, 846, 847, 848, 881, 882, 883, 884, 885, 886, 887, 888, 889, 890, 891, 892, 893, 894, 895, 896, 897, 898, 899, 900, 901, 902, 903, 904, 905, 906, 907, 908, 909, 910, 911, 912, 913, 914, 915, 916, 917, 918, 919, 920, 921, 922, 923, 924, 925, 926, 927, 928, 929, 930, 931, 932, 933, 934, 935, 936, 937, 938] (by decide +kernel) (by decide +kernel)
set_option maxRecDepth 20000 in
theorem gL_law_X10_init : GoodIn wsL_law (wsX10_init) := ggL_law_X10_init
set_option maxRecDepth 20000 in
theorem ggL_law_X11_init : GoodIn wsL_law wsX11_init := goodIn_r _ [147, 148, 10, 11, 149, 150, 39, 151, 152, 153, 154, 155, 156, 157, 158, 159, 160, 161, 61, 162, 163, 164, 165, 166, 167, 168, 849, 850, 851, 852, 853, 854, 855, 856, 857, 858, 859, 860, 861, 862, 863, 864, 865, 866, 867, 868, 869, 870, 871, 872, 873, 874, 875, 876, 877] (by decide +kernel) (by decide +kernel)
set_option maxRecDepth 20000 in
theorem gL_law_X11_init : GoodIn wsL_law (wsX11_init) := ggL_law_X11_init
set_option maxRecDepth 20000 in
theorem ggL_law_X10_board : GoodIn wsL_law wsX10_board := goodIn_r _ [172, 15, 173, 174, 175, 14, 176, 41, 42, 40, 177, 178, 179, 180, 99, 100, 101, 181, 182, 183, 2, 184, 27, 35, 185, 186, 187, 26, 188, 84, 86, 79, 83, 189, 190, 191, 22, 192, 193, 63, 194, 94, 95, 78, 96, 91, 92, 97, 98, 195, 196, 197, 82, 198, 199, 200, 201, 202, 203, 34, 204, 205, 843, 844, 845, 846, 847, 848, 878, 879, 880, 895, 896, 897, 898, 899, 886, 887, 888, 889, 890, 891, 892, 893, 894, 923, 924, 925, 926, 927, 928, 929, 930, 931, 932, 933, 934, 903, 904, 905, 906, 907, 908, 909, 910, 911, 912, 913, 914, 915, 916, 917] (by decide +kernel) (by decide +kernel)
set_option maxRecDepth 20000 in
theorem gL_law_X10_board : GoodIn wsL_law (wsV RL 13 RX10 yX10_board wsX10_board) := goodIn_app (goodIn_of _ (by decide +kernel)) ggL_law_X10_board
set_option maxRecDepth 20000 in
theorem ggL_law_X11_board : GoodIn wsL_law wsX11_board := goodIn_r _ [209, 149, 150, 151, 210, 211, 212, 213, 5, 214, 849, 850, 851, 852, 853, 854, 855, 856, 857, 858, 859, 860, 861, 862, 863, 864, 865, 866, 867, 868, 869, 870, 871, 872, 873, 874, 875, 876, 877] (by decide +kernel) (by decide +kernel)
set_option maxRecDepth 20000 in
theorem gL_law_X11_board : GoodIn wsL_law (wsV RL 17 RX11 yX11_board wsX11_board) := goodIn_app (goodIn_of _ (by decide +kernel)) ggL_law_X11_board
set_option maxRecDepth 20000 in
theorem ggL_law_X10_line : GoodIn wsL_law wsX10_line := goodIn_r _ [218, 27, 15, 219, 220, 221, 26, 222, 84, 223, 224, 225, 14, 226, 41, 42, 40, 843, 844, 845, 846, 847, 848, 895, 896, 897, 898, 899, 878, 879, 880] (by decide +kernel) (by decide +kernel)
set_option maxRecDepth 20000 in
theorem gL_law_X10_line : GoodIn wsL_law (wsV RL 18 RX10 yX10_line wsX10_line) := goodIn_app (goodIn_of _ (by decide +kernel)) ggL_law_X10_line
set_option maxRecDepth 20000 in
theorem ggL_law_X11_line : GoodIn wsL_law wsX11_line := goodIn_r _ [230, 210, 149, 150, 151, 212, 213, 5, 214, 849, 850, 851, 852, 853, 854, 855, 856, 857, 858, 859, 860, 861, 862, 863, 864, 865, 866, 867, 868, 869, 870, 871, 872, 873, 874, 875, 876, 877] (by decide +kernel) (by decide +kernel)
set_option maxRecDepth 20000 in
theorem gL_law_X11_line : GoodIn wsL_law (wsV RL 22 RX11 yX11_line wsX11_line) := goodIn_app (goodIn_of _ (by decide +kernel)) ggL_law_X11_line
set_option maxRecDepth 20000 in
theorem ggL_law_X10_law : GoodIn wsL_law wsX10_law := goodIn_r _ [234, 27, 19, 219, 220, 221, 26, 222, 84, 235, 236, 237, 18, 238, 46, 47, 48, 49, 50, 843, 844, 845, 846, 847, 848, 895, 896, 897, 898, 899, 881, 882, 883, 884, 885] (by decide +kernel) (by decide +kernel)
set_option maxRecDepth 20000 in
theorem gL_law_X10_law : GoodIn wsL_law (wsV RL 23 RX10 yX10_law wsX10_law) := goodIn_app (goodIn_of _ (by decide +kernel)) ggL_law_X10_law
set_option maxRecDepth 20000 in
theorem ggL_law_X11_law : GoodIn wsL_law wsX11_law := goodIn_r _ [242, 210, 243, 152, 153, 244, 245, 212, 213, 5, 214, 849, 850, 851, 852, 853, 854, 855, 856, 857, 858, 859, 860, 861, 862, 863, 864, 865, 866, 867, 868, 869, 870, 871, 872, 873, 874, 875, 876, 877] (by decide +kernel) (by decide +kernel)
set_option maxRecDepth 20000 in
theorem gL_law_X11_law : GoodIn wsL_law (wsV RL 27 RX11 yX11_law wsX11_law) := goodIn_app (goodIn_of _ (by decide +kernel)) ggL_law_X11_law
set_option maxRecDepth 20000 in
theorem ggL_law_X10_begin : GoodIn wsL_law wsX10_begin := goodIn_r _ [249, 27, 15, 35, 23, 219, 220, 221, 26, 222, 84, 250, 251, 2, 252, 253, 254, 255, 14, 256, 40, 257, 258, 259, 260, 41, 42, 261, 262, 263, 264, 201, 202, 203, 34, 204, 205, 265, 266, 267, 268, 86, 85, 79, 269, 186, 187, 188, 83, 189, 190, 191, 22, 192, 193, 63, 194, 94, 95, 78, 96, 91, 92, 97, 98, 99, 100, 101, 195, 196, 197, 82, 198, 199, 200, 270, 271, 272, 57, 273, 274, 275, 69, 70, 71, 276, 277, 278, 279, 280, 281, 282, 283, 284, 285, 59, 60, 62, 65, 286, 287, 288, 289, 290, 291, 292, 293, 294, 295, 296, 297, 298, 299, 300, 301, 58, 302, 303, 304, 305, 306, 307, 308, 309, 310, 311, 312, 313, 314, 315, 316, 317, 318, 319, 320, 321, 843, 844, 845, 846, 847, 848, 886, 887, 888, 889, 890, 891, 892, 893, 894, 895, 896, 897, 898, 899, 878, 879, 880, 903, 904, 905, 906, 907, 908, 909, 910, 911, 912, 913, 914, 915, 916, 917, 881, 882, 883, 884, 885, 923, 924, 925, 926, 927, 928, 929, 930, 931, 932, 933, 934, 918, 919, 920, 921, 922] (by decide +kernel) (by decide +kernel)
set_option maxRecDepth 20000 in
theorem gL_law_X10_begin : GoodIn wsL_law (wsV RL 28 RX10 yX10_begin wsX10_begin) := goodIn_app (goodIn_of _ (by decide +kernel)) ggL_law_X10_begin
set_option maxRecDepth 20000 in
theorem ggL_law_X11_begin : GoodIn wsL_law wsX11_begin := goodIn_r _ [325, 210, 151, 326, 157, 156, 154, 155, 327, 328, 329, 330, 331, 211, 212, 213, 5, 214, 332, 333, 334, 335, 149, 150, 336, 337, 338, 339, 161, 340, 341, 342, 343, 344, 345, 346, 347, 243, 348, 349, 350, 351, 352, 353, 354, 355, 356, 357, 358, 359, 360, 361, 362, 363, 244, 364, 365, 366, 367, 368, 369, 370, 371, 849, 850, 851, 852, 853, 854, 855, 856, 857, 858, 859, 860, 861, 862, 863, 864, 865, 866, 867, 868, 869, 870, 871, 872, 873, 874, 875, 876, 877] (by decide +kernel) (by decide +kernel)
set_option maxRecDepth 20000 in
theorem gL_law_X11_begin : GoodIn wsL_law (wsV RL 32 RX11 yX11_begin wsX11_begin) := goodIn_app (goodIn_of _ (by decide +kernel)) ggL_law_X11_begin
set_option maxRecDepth 20000 in
theorem ggL_law_X10_stop : GoodIn wsL_law wsX10_stop := goodIn_r _ [375, 27, 219, 220, 221, 26, 222, 84, 181, 182, 183, 2, 184, 35, 185, 186, 187, 188, 86, 79, 83, 189, 190, 191, 22, 192, 193, 63, 194, 94, 95, 78, 96, 91, 92, 97, 98, 99, 100, 101, 195, 196, 197, 82, 198, 199, 200, 201, 202, 203, 34, 204, 205, 843, 844, 845, 846, 847, 848, 895, 896, 897, 898, 899, 886, 887, 888, 889, 890, 891, 892, 893, 894, 923, 924, 925, 926, 927, 928, 929, 930, 931, 932, 933, 934, 903, 904, 905, 906, 907, 908, 909, 910, 911, 912, 913, 914, 915, 916, 917] (by decide +kernel) (by decide +kernel)
set_option maxRecDepth 20000 in
theorem gL_law_X10_stop : GoodIn wsL_law (wsV RL 33 RX10 yX10_stop wsX10_stop) := goodIn_app (goodIn_of _ (by decide +kernel)) ggL_law_X10_stop
set_option maxRecDepth 20000 in
theorem ggL_law_X11_stop : GoodIn wsL_law wsX11_stop := goodIn_r _ [379, 210, 211, 849, 850, 851, 852, 853, 854, 855, 856, 857, 858, 859, 860, 861, 862, 863, 864, 865, 866, 867, 868, 869, 870, 871, 872, 873, 874, 875, 876, 877] (by decide +kernel) (by decide +kernel)
set_option maxRecDepth 20000 in
theorem gL_law_X11_stop : GoodIn wsL_law (wsV RL 37 RX11 yX11_stop wsX11_stop) := goodIn_app (goodIn_of _ (by decide +kernel)) ggL_law_X11_stop
set_option maxRecDepth 20000 in
theorem ggL_law_X10_go : GoodIn wsL_law wsX10_go := goodIn_r _ [383, 27, 384, 385, 386, 26, 387, 83, 86, 79, 388, 389, 390, 391, 84, 85, 392, 393, 394, 22, 395, 193, 396, 295, 296, 78, 297, 91, 397, 398, 399, 57, 400, 401, 311, 312, 313, 274, 71, 402, 403, 404, 405, 63, 65, 406, 407, 408, 409, 410, 411, 315, 316, 317, 92, 412, 319, 320, 321, 58, 413, 414, 415, 416, 417, 418, 419, 420, 421, 62, 60, 422, 294, 423, 279, 280, 281, 310, 314, 424, 425, 426, 427, 59, 428, 429, 430, 431, 432, 433, 434, 435, 64, 436, 437, 438, 82, 439, 111, 440, 441, 442, 443, 199, 108, 105, 106, 444, 445, 446, 447, 448, 449, 450, 451, 452, 453, 454, 455, 456, 107, 109, 110, 200, 457, 458, 459, 460, 461, 278, 286, 287, 288, 289, 290, 291, 292, 293, 298, 299, 300, 301, 302, 303, 304, 305, 306, 307, 308, 309, 318, 462, 463, 464, 465, 843, 844, 845, 846, 847, 848, 895, 896, 897, 898, 899, 926, 927, 928, 929, 930, 931, 932, 933, 934, 886, 887, 888, 889, 890, 891, 892, 893, 894, 923, 924, 925, 881, 882, 883, 884, 885, 918, 919, 920, 921, 922] (by decide +kernel) (by decide +kernel)
set_option maxRecDepth 20000 in
theorem gL_law_X10_go : GoodIn wsL_law (wsV RL 38 RX10 yX10_go wsX10_go) := goodIn_app (goodIn_of _ (by decide +kernel)) ggL_law_X10_go
set_option maxRecDepth 20000 in
theorem ggL_law_X11_go : GoodIn wsL_law wsX11_go := goodIn_r _ [469, 330, 331, 470, 471, 472, 5, 473, 210, 326, 155, 328, 245, 329, 212, 213, 214, 352, 353, 354, 355, 154, 360, 361, 362, 363, 244, 156, 364, 365, 366, 367, 150, 149, 368, 369, 370, 371, 157, 474, 475, 476, 477, 162, 478, 479, 480, 481, 153, 482, 483, 484, 485, 152, 486, 487, 488, 489, 336, 337, 338, 339, 161, 340, 341, 342, 343, 490, 491, 492, 493, 494, 495, 496, 497, 498, 499, 500, 501, 502, 503, 504, 505, 506, 507, 508, 509, 158, 327, 344, 345, 346, 347, 243, 332, 333, 334, 335, 348, 349, 350, 351, 356, 357, 358, 359, 849, 850, 851, 852, 853, 854, 855, 856, 857, 858, 859, 860, 861, 862, 863, 864, 865, 866, 867, 868, 869, 870, 871, 872, 873, 874, 875, 876, 877] (by decide +kernel) (by decide +kernel)
set_option maxRecDepth 20000 in
theorem gL_law_X11_go : GoodIn wsL_law (wsV RL 42 RX11 yX11_go wsX11_go) := goodIn_app (goodIn_of _ (by decide +kernel)) ggL_law_X11_go
set_option maxRecDepth 20000 in
theorem ggL_law_X10_why : GoodIn wsL_law wsX10_why := goodIn_r _ [513, 27, 514, 389, 390, 26, 391, 84, 86, 79, 85, 392, 393, 394, 22, 395, 193, 396, 295, 296, 78, 297, 91, 397, 398, 399, 57, 400, 401, 311, 312, 313, 274, 71, 402, 403, 404, 405, 63, 65, 406, 407, 408, 409, 410, 411, 315, 316, 317, 92, 412, 319, 320, 321, 58, 413, 414, 415, 416, 83, 417, 418, 419, 420, 421, 62, 60, 422, 294, 423, 279, 280, 281, 310, 314, 424, 425, 426, 427, 59, 428, 429, 430, 431, 432, 433, 434, 435, 64, 436, 437, 438, 82, 439, 111, 440, 441, 442, 443, 199, 108, 105, 106, 444, 843, 844, 845, 846, 847, 848, 895, 896, 897, 898, 899, 886, 887, 888, 889, 890, 891, 892, 893, 894, 923, 924, 925, 881, 882, 883, 884, 885, 918, 919, 920, 921, 922, 926, 927, 928, 929, 930, 931, 932, 933, 934] (by decide +kernel) (by decide +kernel)
set_option maxRecDepth 20000 in
theorem gL_law_X10_why : GoodIn wsL_law (wsV RL 43 RX10 yX10_why wsX10_why) := goodIn_app (goodIn_of _ (by decide +kernel)) ggL_law_X10_why
set_option maxRecDepth 20000 in
theorem ggL_law_X11_why : GoodIn wsL_law wsX11_why := goodIn_r _ [473, 210, 326, 155, 328, 245, 329, 212, 213, 5, 214, 352, 353, 354, 355, 154, 360, 361, 362, 363, 244, 156, 364, 365, 366, 367, 150, 149, 368, 369, 370, 371, 157, 474, 475, 476, 477, 162, 331, 478, 479, 480, 481, 153, 482, 483, 484, 485, 152, 486, 487, 488, 489, 336, 337, 338, 339, 161, 340, 341, 342, 343, 490, 491, 492, 493, 494, 495, 496, 497, 498, 499, 500, 501, 502, 503, 504, 505, 849, 850, 851, 852, 853, 854, 855, 856, 857, 858, 859, 860, 861, 862, 863, 864, 865, 866, 867, 868, 869, 870, 871, 872, 873, 874, 875, 876, 877] (by decide +kernel) (by decide +kernel)
set_option maxRecDepth 20000 in
theorem gL_law_X11_why : GoodIn wsL_law (wsV RL 46 RX11 yX11_why wsX11_why) := goodIn_app (goodIn_of _ (by decide +kernel)) ggL_law_X11_why
set_option maxRecDepth 20000 in
theorem ggL_law_X10_about : GoodIn wsL_law wsX10_about := goodIn_r _ [519, 27, 23, 15, 520, 521, 522, 26, 523, 84, 79, 524, 525, 526, 527, 86, 396, 295, 296, 78, 297, 91, 528, 258, 259, 14, 260, 41, 42, 529, 463, 464, 82, 465, 199, 108, 843, 844, 845, 846, 847, 848, 895, 896, 897, 898, 899, 886, 887, 888, 889, 890, 891, 892, 893, 894, 926, 927, 928, 929, 930, 931, 932, 933, 934, 878, 879, 880, 923, 924, 925] (by decide +kernel) (by decide +kernel)
set_option maxRecDepth 20000 in
theorem gL_law_X10_about : GoodIn wsL_law (wsV RL 47 RX10 yX10_about wsX10_about) := goodIn_app (goodIn_of _ (by decide +kernel)) ggL_law_X10_about
set_option maxRecDepth 20000 in
theorem ggL_law_X11_about : GoodIn wsL_law wsX11_about := goodIn_r _ [533, 210, 328, 326, 155, 329, 330, 149, 331, 332, 333, 334, 5, 335, 150, 849, 850, 851, 852, 853, 854, 855, 856, 857, 858, 859, 860, 861, 862, 863, 864, 865, 866, 867, 868, 869, 870, 871, 872, 873, 874, 875, 876, 877] (by decide +kernel) (by decide +kernel)
set_option maxRecDepth 20000 in
theorem gL_law_X11_about : GoodIn wsL_law (wsV RL 50 RX11 yX11_about wsX11_about) := goodIn_app (goodIn_of _ (by decide +kernel)) ggL_law_X11_about
set_option maxRecDepth 20000 in
theorem ggL_law_X10_piece : GoodIn wsL_law wsX10_piece := goodIn_r _ [537, 23, 27, 538, 393, 394, 22, 395, 193, 539, 295, 296, 78, 297, 91, 540, 541, 542, 26, 543, 86, 79, 392, 544, 521, 522, 523, 84, 545, 546, 547, 548, 306, 307, 308, 309, 63, 65, 58, 294, 310, 311, 312, 57, 313, 274, 71, 314, 315, 316, 317, 92, 318, 319, 320, 321, 843, 844, 845, 846, 847, 848, 886, 887, 888, 889, 890, 891, 892, 893, 894, 895, 896, 897, 898, 899, 923, 924, 925, 881, 882, 883, 884, 885, 918, 919, 920, 921, 922] (by decide +kernel) (by decide +kernel)
set_option maxRecDepth 20000 in
theorem gL_law_X10_piece : GoodIn wsL_law (wsV RL 51 RX10 yX10_piece wsX10_piece) := goodIn_app (goodIn_of _ (by decide +kernel)) ggL_law_X10_piece
set_option maxRecDepth 20000 in
theorem ggL_law_X11_piece : GoodIn wsL_law wsX11_piece := goodIn_r _ [552, 210, 326, 154, 155, 328, 212, 213, 5, 214, 352, 353, 354, 355, 356, 357, 358, 359, 360, 361, 362, 363, 244, 156, 364, 365, 366, 367, 150, 149, 368, 369, 370, 371, 157, 478, 479, 480, 481, 153, 849, 850, 851, 852, 853, 854, 855, 856, 857, 858, 859, 860, 861, 862, 863, 864, 865, 866, 867, 868, 869, 870, 871, 872, 873, 874, 875, 876, 877] (by decide +kernel) (by decide +kernel)
set_option maxRecDepth 20000 in
theorem gL_law_X11_piece : GoodIn wsL_law (wsV RL 55 RX11 yX11_piece wsX11_piece) := goodIn_app (goodIn_of _ (by decide +kernel)) ggL_law_X11_piece
set_option maxRecDepth 20000 in
theorem ggL_law_X10_on : GoodIn wsL_law wsX10_on := goodIn_r _ [556, 27, 557, 315, 316, 78, 317, 92, 843, 844, 845, 846, 847, 848, 895, 896, 897, 898, 899, 923, 924, 925] (by decide +kernel) (by decide +kernel)
set_option maxRecDepth 20000 in
theorem gL_law_X10_on : GoodIn wsL_law (wsV RL 56 RX10 yX10_on wsX10_on) := goodIn_app (goodIn_of _ (by decide +kernel)) ggL_law_X10_on
set_option maxRecDepth 20000 in
theorem ggL_law_X11_on : GoodIn wsL_law wsX11_on := goodIn_r _ [561, 210, 156, 332, 333, 334, 5, 335, 149, 150, 212, 213, 214, 849, 850, 851, 852, 853, 854, 855, 856, 857, 858, 859, 860, 861, 862, 863, 864, 865, 866, 867, 868, 869, 870, 871, 872, 873, 874, 875, 876, 877] (by decide +kernel) (by decide +kernel)
set_option maxRecDepth 20000 in
theorem gL_law_X11_on : GoodIn wsL_law (wsV RL 59 RX11 yX11_on wsX11_on) := goodIn_app (goodIn_of _ (by decide +kernel)) ggL_law_X11_on
set_option maxRecDepth 20000 in
theorem ggL_law_X10_field : GoodIn wsL_law wsX10_field := goodIn_r _ [565, 27, 15, 23, 219, 220, 221, 26, 222, 84, 528, 258, 259, 14, 260, 41, 42, 843, 844, 845, 846, 847, 848, 886, 887, 888, 889, 890, 891, 892, 893, 894, 918, 919, 920, 921, 922, 895, 896, 897, 898, 899, 878, 879, 880] (by decide +kernel) (by decide +kernel)
set_option maxRecDepth 20000 in
theorem gL_law_X10_field : GoodIn wsL_law (wsV RL 60 RX10 yX10_field wsX10_field) := goodIn_app (goodIn_of _ (by decide +kernel)) ggL_law_X10_field
set_option maxRecDepth 20000 in
theorem ggL_law_X11_field : GoodIn wsL_law wsX11_field := goodIn_r _ [569, 210, 157, 332, 333, 334, 5, 335, 149, 150, 212, 213, 214, 344, 345, 346, 347, 243, 849, 850, 851, 852, 853, 854, 855, 856, 857, 858, 859, 860, 861, 862, 863, 864, 865, 866, 867, 868, 869, 870, 871, 872, 873, 874, 875, 876, 877] (by decide +kernel) (by decide +kernel)
set_option maxRecDepth 20000 in
theorem gL_law_X11_field : GoodIn wsL_law (wsV RL 63 RX11 yX11_field wsX11_field) := goodIn_app (goodIn_of _ (by decide +kernel)) ggL_law_X11_field
set_option maxRecDepth 20000 in
theorem ggL_law_X10_took : GoodIn wsL_law wsX10_took := goodIn_r _ [573, 27, 574, 575, 576, 82, 577, 199, 108, 109, 843, 844, 845, 846, 847, 848, 895, 896, 897, 898, 899, 926, 927, 928, 929, 930, 931, 932, 933, 934] (by decide +kernel) (by decide +kernel)
set_option maxRecDepth 20000 in
theorem gL_law_X10_took : GoodIn wsL_law (wsV RL 64 RX10 yX10_took wsX10_took) := goodIn_app (goodIn_of _ (by decide +kernel)) ggL_law_X10_took
set_option maxRecDepth 20000 in
theorem ggL_law_X11_took : GoodIn wsL_law wsX11_took := goodIn_r _ [581, 210, 331, 326, 162, 849, 850, 851, 852, 853, 854, 855, 856, 857, 858, 859, 860, 861, 862, 863, 864, 865, 866, 867, 868, 869, 870, 871, 872, 873, 874, 875, 876, 877] (by decide +kernel) (by decide +kernel)
set_option maxRecDepth 20000 in
theorem gL_law_X11_took : GoodIn wsL_law (wsV RL 67 RX11 yX11_took wsX11_took) := goodIn_app (goodIn_of _ (by decide +kernel)) ggL_law_X11_took
set_option maxRecDepth 20000 in
theorem ggL_law_X10_ring : GoodIn wsL_law wsX10_ring := goodIn_r _ [585, 31, 27, 586, 587, 588, 30, 589, 118, 117, 116, 590, 295, 296, 78, 297, 91, 591, 299, 300, 22, 301, 58, 592, 311, 312, 57, 313, 274, 71, 593, 594, 595, 596, 597, 315, 316, 317, 92, 598, 393, 394, 395, 193, 843, 844, 845, 846, 847, 848, 895, 896, 897, 898, 899, 900, 901, 902, 886, 887, 888, 889, 890, 891, 892, 893, 894, 923, 924, 925, 918, 919, 920, 921, 922] (by decide +kernel) (by decide +kernel)
set_option maxRecDepth 20000 in
theorem gL_law_X10_ring : GoodIn wsL_law (wsV RL 68 RX10 yX10_ring wsX10_ring) := goodIn_app (goodIn_of _ (by decide +kernel)) ggL_law_X10_ring
set_option maxRecDepth 20000 in
theorem ggL_law_X11_ring : GoodIn wsL_law wsX11_ring := goodIn_r _ [602, 210, 155, 327, 344, 345, 346, 5, 347, 243, 157, 150, 332, 333, 334, 335, 149, 603, 604, 605, 606, 163, 164, 156, 364, 365, 366, 367, 849, 850, 851, 852, 853, 854, 855, 856, 857, 858, 859, 860, 861, 862, 863, 864, 865, 866, 867, 868, 869, 870, 871, 872, 873, 874, 875, 876, 877] (by decide +kernel) (by decide +kernel)
set_option maxRecDepth 20000 in
theorem gL_law_X11_ring : GoodIn wsL_law (wsV RL 71 RX11 yX11_ring wsX11_ring) := goodIn_app (goodIn_of _ (by decide +kernel)) ggL_law_X11_ring
set_option maxRecDepth 20000 in
theorem ggL_law_X10_needed : GoodIn wsL_law wsX10_needed := goodIn_r _ [610, 23, 31, 27, 538, 393, 394, 22, 395, 193, 586, 587, 588, 30, 589, 118, 117, 116, 590, 295, 296, 78, 297, 91, 591, 299, 300, 301, 58, 592, 311, 312, 57, 313, 274, 71, 593, 594, 595, 596, 597, 315, 316, 317, 92, 598, 843, 844, 845, 846, 847, 848, 886, 887, 888, 889, 890, 891, 892, 893, 894, 895, 896, 897, 898, 899, 900, 901, 902, 923, 924, 925, 918, 919, 920, 921, 922] (by decide +kernel) (by decide +kernel)
set_option maxRecDepth 20000 in
theorem gL_law_X10_needed : GoodIn wsL_law (wsV RL 72 RX10 yX10_needed wsX10_needed) := goodIn_app (goodIn_of _ (by decide +kernel)) ggL_law_X10_needed
set_option maxRecDepth 20000 in
theorem ggL_law_X11_needed : GoodIn wsL_law wsX11_needed := goodIn_r _ [614, 326, 155, 615, 600, 601, 5, 602, 210, 327, 344, 345, 346, 347, 243, 157, 150, 332, 333, 334, 335, 149, 603, 604, 605, 606, 163, 164, 156, 364, 365, 366, 367, 212, 213, 214, 352, 353, 354, 355, 154, 849, 850, 851, 852, 853, 854, 855, 856, 857, 858, 859, 860, 861, 862, 863, 864, 865, 866, 867, 868, 869, 870, 871, 872, 873, 874, 875, 876, 877] (by decide +kernel) (by decide +kernel)
set_option maxRecDepth 20000 in
theorem gL_law_X11_needed : GoodIn wsL_law (wsV RL 76 RX11 yX11_needed wsX11_needed) := goodIn_app (goodIn_of _ (by decide +kernel)) ggL_law_X11_needed
set_option maxRecDepth 20000 in
theorem ggL_law_X10_back : GoodIn wsL_law wsX10_back := goodIn_r _ [619, 27, 620, 621, 622, 26, 623, 83, 79, 84, 624, 625, 626, 82, 627, 199, 105, 106, 108, 109, 110, 628, 279, 280, 78, 281, 91, 92, 843, 844, 845, 846, 847, 848, 895, 896, 897, 898, 899, 926, 927, 928, 929, 930, 931, 932, 933, 934, 923, 924, 925] (by decide +kernel) (by decide +kernel)
set_option maxRecDepth 20000 in
theorem gL_law_X10_back : GoodIn wsL_law (wsV RL 77 RX10 yX10_back wsX10_back) := goodIn_app (goodIn_of _ (by decide +kernel)) ggL_law_X10_back
set_option maxRecDepth 20000 in
theorem ggL_law_X11_back : GoodIn wsL_law wsX11_back := goodIn_r _ [632, 210, 329, 330, 498, 499, 500, 5, 501, 156, 326, 155, 161, 328, 340, 341, 342, 343, 502, 503, 504, 505, 331, 162, 849, 850, 851, 852, 853, 854, 855, 856, 857, 858, 859, 860, 861, 862, 863, 864, 865, 866, 867, 868, 869, 870, 871, 872, 873, 874, 875, 876, 877] (by decide +kernel) (by decide +kernel)
set_option maxRecDepth 20000 in
theorem gL_law_X11_back : GoodIn wsL_law (wsV RL 80 RX11 yX11_back wsX11_back) := goodIn_app (goodIn_of _ (by decide +kernel)) ggL_law_X11_back
set_option maxRecDepth 20000 in
theorem ggL_law_X10_again : GoodIn wsL_law wsX10_again := goodIn_r _ [636, 27, 637, 638, 639, 26, 640, 83, 445, 446, 447, 82, 448, 199, 449, 450, 451, 452, 79, 86, 413, 414, 415, 416, 417, 418, 419, 22, 420, 421, 62, 58, 60, 422, 393, 394, 395, 193, 294, 295, 296, 78, 297, 91, 423, 279, 280, 281, 92, 310, 311, 312, 57, 313, 274, 71, 314, 315, 316, 317, 424, 425, 426, 427, 59, 63, 65, 428, 429, 430, 431, 432, 433, 434, 435, 64, 436, 437, 438, 439, 111, 440, 441, 442, 443, 108, 105, 106, 444, 453, 454, 455, 456, 107, 109, 110, 200, 457, 458, 459, 460, 461, 278, 286, 287, 288, 289, 84, 85, 290, 291, 292, 293, 298, 299, 300, 301, 302, 303, 304, 305, 306, 307, 308, 309, 318, 319, 320, 321, 843, 844, 845, 846, 847, 848, 895, 896, 897, 898, 899, 926, 927, 928, 929, 930, 931, 932, 933, 934, 886, 887, 888, 889, 890, 891, 892, 893, 894, 923, 924, 925, 918, 919, 920, 921, 922, 881, 882, 883, 884, 885] (by decide +kernel) (by decide +kernel)
set_option maxRecDepth 20000 in
theorem gL_law_X10_again : GoodIn wsL_law (wsV RL 81 RX10 yX10_again wsX10_again) := goodIn_app (goodIn_of _ (by decide +kernel)) ggL_law_X10_again
set_option maxRecDepth 20000 in
theorem ggL_law_X11_again : GoodIn wsL_law wsX11_again := goodIn_r _ [644, 210, 330, 158, 329, 506, 507, 508, 5, 509, 328, 155, 327, 245, 474, 475, 476, 477, 156, 326, 162, 331, 364, 365, 366, 367, 150, 149, 478, 479, 480, 481, 154, 153, 352, 353, 354, 355, 482, 483, 484, 485, 152, 486, 487, 488, 489, 157, 336, 337, 338, 339, 161, 340, 341, 342, 343, 344, 345, 346, 347, 243, 332, 333, 334, 335, 348, 349, 350, 351, 356, 357, 358, 359, 360, 361, 362, 363, 244, 368, 369, 370, 371, 490, 491, 492, 493, 494, 495, 496, 497, 849, 850, 851, 852, 853, 854, 855, 856, 857, 858, 859, 860, 861, 862, 863, 864, 865, 866, 867, 868, 869, 870, 871, 872, 873, 874, 875, 876, 877] (by decide +kernel) (by decide +kernel)
set_option maxRecDepth 20000 in
theorem gL_law_X11_again : GoodIn wsL_law (wsV RL 84 RX11 yX11_again wsX11_again) := goodIn_app (goodIn_of _ (by decide +kernel)) ggL_law_X11_again
set_option maxRecDepth 20000 in
theorem ggL_law_X10_solve : GoodIn wsL_law wsX10_solve := goodIn_r _ [648, 27, 35, 219, 220, 221, 26, 222, 84, 649, 650, 651, 34, 652, 205, 653, 654, 128, 137, 124, 130, 655, 656, 657, 658, 659, 129, 660, 661, 662, 663, 133, 39, 134, 135, 136, 664, 665, 127, 666, 667, 668, 459, 669, 670, 458, 460, 671, 672, 673, 674, 142, 143, 675, 144, 676, 677, 678, 99, 100, 101, 679, 94, 95, 78, 96, 91, 92, 97, 98, 680, 681, 682, 683, 684, 685, 686, 687, 688, 689, 279, 280, 281, 690, 315, 316, 317, 691, 319, 320, 22, 321, 63, 58, 692, 291, 292, 293, 294, 295, 296, 297, 298, 299, 300, 301, 302, 303, 304, 305, 193, 60, 306, 307, 308, 309, 65, 310, 311, 312, 57, 313, 274, 71, 314, 318, 693, 694, 695, 696, 697, 698, 699, 700, 701, 702, 703, 704, 418, 419, 420, 421, 62, 422, 393, 394, 395, 423, 424, 425, 426, 427, 59, 428, 429, 430, 431, 432, 433, 434, 435, 64, 705, 706, 707, 708, 709, 710, 711, 712, 713, 714, 715, 716, 717, 718, 719, 720, 721, 722, 723, 724, 725, 726, 727, 728, 131, 132, 729, 843, 844, 845, 846, 847, 848, 895, 896, 897, 898, 899, 903, 904, 905, 906, 907, 908, 909, 910, 911, 912, 913, 914, 915, 916, 917, 886, 887, 888, 889, 890, 891, 892, 893, 894, 918, 919, 920, 921, 922, 935, 936, 937, 938, 923, 924, 925, 881, 882, 883, 884, 885] (by decide +kernel) (by decide +kernel)
set_option maxRecDepth 20000 in
theorem gL_law_X10_solve : GoodIn wsL_law (wsV RL 85 RX10 yX10_solve wsX10_solve) := goodIn_app (goodIn_of _ (by decide +kernel)) ggL_law_X10_solve
set_option maxRecDepth 20000 in
theorem ggL_law_X11_solve : GoodIn wsL_law wsX11_solve := goodIn_r _ [733, 210, 734, 165, 166, 168, 329, 211, 735, 736, 737, 5, 738, 739, 326, 332, 333, 334, 335, 149, 150, 740, 741, 742, 743, 328, 156, 155, 368, 369, 370, 371, 157, 154, 744, 745, 746, 747, 327, 344, 345, 346, 347, 243, 348, 349, 350, 351, 352, 353, 354, 355, 356, 357, 358, 359, 360, 361, 362, 363, 244, 364, 365, 366, 367, 748, 749, 750, 751, 474, 475, 476, 477, 162, 331, 478, 479, 480, 481, 153, 482, 483, 484, 485, 152, 486, 487, 488, 489, 752, 753, 754, 755, 498, 499, 500, 501, 161, 340, 341, 342, 343, 502, 503, 504, 505, 849, 850, 851, 852, 853, 854, 855, 856, 857, 858, 859, 860, 861, 862, 863, 864, 865, 866, 867, 868, 869, 870, 871, 872, 873, 874, 875, 876, 877] (by decide +kernel) (by decide +kernel)
set_option maxRecDepth 20000 in
theorem gL_law_X11_solve : GoodIn wsL_law (wsV RL 89 RX11 yX11_solve wsX11_solve) := goodIn_app (goodIn_of _ (by decide +kernel)) ggL_law_X11_solve
set_option maxRecDepth 20000 in
theorem ggL_law_X10_worth : GoodIn wsL_law wsX10_worth := goodIn_r _ [759, 35, 27, 760, 761, 762, 34, 763, 133, 764, 765, 766, 767, 205, 137, 129, 654, 702, 295, 296, 78, 297, 91, 843, 844, 845, 846, 847, 848, 895, 896, 897, 898, 899, 903, 904, 905, 906, 907, 908, 909, 910, 911, 912, 913, 914, 915, 916, 917, 886, 887, 888, 889, 890, 891, 892, 893, 894, 918, 919, 920, 921, 922, 923, 924, 925] (by decide +kernel) (by decide +kernel)
set_option maxRecDepth 20000 in
theorem gL_law_X10_worth : GoodIn wsL_law (wsV RL 90 RX10 yX10_worth wsX10_worth) := goodIn_app (goodIn_of _ (by decide +kernel)) ggL_law_X10_worth
set_option maxRecDepth 20000 in
theorem ggL_law_X11_worth : GoodIn wsL_law wsX11_worth := goodIn_r _ [771, 211, 165, 752, 753, 754, 5, 755, 326, 155, 328, 332, 333, 334, 335, 149, 150, 849, 850, 851, 852, 853, 854, 855, 856, 857, 858, 859, 860, 861, 862, 863, 864, 865, 866, 867, 868, 869, 870, 871, 872, 873, 874, 875, 876, 877] (by decide +kernel) (by decide +kernel)
set_option maxRecDepth 20000 in
theorem gL_law_X11_worth : GoodIn wsL_law (wsV RL 93 RX11 yX11_worth wsX11_worth) := goodIn_app (goodIn_of _ (by decide +kernel)) ggL_law_X11_worth
set_option maxRecDepth 20000 in
theorem ggL_law_X10_deep : GoodIn wsL_law wsX10_deep := goodIn_r _ [775, 35, 27, 776, 777, 778, 34, 779, 134, 764, 765, 766, 767, 205, 137, 129, 654, 702, 295, 296, 78, 297, 91, 843, 844, 845, 846, 847, 848, 895, 896, 897, 898, 899, 903, 904, 905, 906, 907, 908, 909, 910, 911, 912, 913, 914, 915, 916, 917, 886, 887, 888, 889, 890, 891, 892, 893, 894, 918, 919, 920, 921, 922, 923, 924, 925] (by decide +kernel) (by decide +kernel)
set_option maxRecDepth 20000 in
theorem gL_law_X10_deep : GoodIn wsL_law (wsV RL 94 RX10 yX10_deep wsX10_deep) := goodIn_app (goodIn_of _ (by decide +kernel)) ggL_law_X10_deep
set_option maxRecDepth 20000 in
theorem ggL_law_X11_deep : GoodIn wsL_law wsX11_deep := goodIn_r _ [783, 211, 166, 752, 753, 754, 5, 755, 326, 155, 328, 332, 333, 334, 335, 149, 150, 849, 850, 851, 852, 853, 854, 855, 856, 857, 858, 859, 860, 861, 862, 863, 864, 865, 866, 867, 868, 869, 870, 871, 872, 873, 874, 875, 876, 877] (by decide +kernel) (by decide +kernel)
set_option maxRecDepth 20000 in
theorem gL_law_X11_deep : GoodIn wsL_law (wsV RL 97 RX11 yX11_deep wsX11_deep) := goodIn_app (goodIn_of _ (by decide +kernel)) ggL_law_X11_deep
set_option maxRecDepth 20000 in
theorem ggL_law_X10_best : GoodIn wsL_law wsX10_best := goodIn_r _ [787, 35, 27, 788, 789, 790, 34, 791, 133, 134, 137, 764, 765, 766, 767, 205, 129, 654, 702, 295, 296, 78, 297, 91, 792, 793, 794, 795, 796, 393, 394, 22, 395, 193, 701, 307, 308, 309, 63, 65, 58, 294, 310, 311, 312, 57, 313, 274, 71, 314, 315, 316, 317, 92, 318, 319, 320, 321, 797, 398, 399, 400, 401, 704, 418, 419, 420, 421, 62, 60, 422, 423, 279, 280, 281, 424, 425, 426, 427, 59, 428, 429, 430, 431, 432, 433, 434, 435, 64, 705, 706, 707, 708, 843, 844, 845, 846, 847, 848, 895, 896, 897, 898, 899, 903, 904, 905, 906, 907, 908, 909, 910, 911, 912, 913, 914, 915, 916, 917, 886, 887, 888, 889, 890, 891, 892, 893, 894, 923, 924, 925, 918, 919, 920, 921, 922, 881, 882, 883, 884, 885] (by decide +kernel) (by decide +kernel)
set_option maxRecDepth 20000 in
theorem gL_law_X10_best : GoodIn wsL_law (wsV RL 98 RX10 yX10_best wsX10_best) := goodIn_app (goodIn_of _ (by decide +kernel)) ggL_law_X10_best
set_option maxRecDepth 20000 in
theorem ggL_law_X11_best : GoodIn wsL_law wsX11_best := goodIn_r _ [801, 211, 326, 165, 166, 329, 752, 753, 754, 5, 755, 155, 328, 332, 333, 334, 335, 149, 150, 744, 745, 746, 747, 327, 344, 345, 346, 347, 243, 157, 348, 349, 350, 351, 352, 353, 354, 355, 154, 356, 357, 358, 359, 360, 361, 362, 363, 244, 156, 364, 365, 366, 367, 368, 369, 370, 371, 802, 803, 804, 805, 740, 741, 742, 743, 474, 475, 476, 477, 162, 331, 478, 479, 480, 481, 153, 482, 483, 484, 485, 152, 486, 487, 488, 489, 498, 499, 500, 501, 161, 340, 341, 342, 343, 502, 503, 504, 505, 849, 850, 851, 852, 853, 854, 855, 856, 857, 858, 859, 860, 861, 862, 863, 864, 865, 866, 867, 868, 869, 870, 871, 872, 873, 874, 875, 876, 877] (by decide +kernel) (by decide +kernel)
set_option maxRecDepth 20000 in
theorem gL_law_X11_best : GoodIn wsL_law (wsV RL 101 RX11 yX11_best wsX11_best) := goodIn_app (goodIn_of _ (by decide +kernel)) ggL_law_X11_best
set_option maxRecDepth 20000 in
theorem ggL_law_X10_count : GoodIn wsL_law wsX10_count := goodIn_r _ [809, 35, 810, 811, 812, 34, 813, 205, 131, 251, 2, 252, 843, 844, 845, 846, 847, 848, 903, 904, 905, 906, 907, 908, 909, 910, 911, 912, 913, 914, 915, 916, 917] (by decide +kernel) (by decide +kernel)
set_option maxRecDepth 20000 in
theorem gL_law_X10_count : GoodIn wsL_law (wsV RL 102 RX10 yX10_count wsX10_count) := goodIn_app (goodIn_of _ (by decide +kernel)) ggL_law_X10_count
set_option maxRecDepth 20000 in
theorem ggL_law_X11_count : GoodIn wsL_law wsX11_count := goodIn_r _ [817, 211, 165, 212, 213, 5, 214, 735, 736, 737, 738, 739, 326, 734, 332, 333, 334, 335, 149, 150, 849, 850, 851, 852, 853, 854, 855, 856, 857, 858, 859, 860, 861, 862, 863, 864, 865, 866, 867, 868, 869, 870, 871, 872, 873, 874, 875, 876, 877] (by decide +kernel) (by decide +kernel)
set_option maxRecDepth 20000 in
theorem gL_law_X11_count : GoodIn wsL_law (wsV RL 105 RX11 yX11_count wsX11_count) := goodIn_app (goodIn_of _ (by decide +kernel)) ggL_law_X11_count
set_option maxRecDepth 20000 in
theorem ggL_law_X10_most : GoodIn wsL_law wsX10_most := goodIn_r _ [821, 35, 822, 823, 824, 34, 825, 205, 132, 251, 2, 252, 843, 844, 845, 846, 847, 848, 903, 904, 905, 906, 907, 908, 909, 910, 911, 912, 913, 914, 915, 916, 917] (by decide +kernel) (by decide +kernel)
set_option maxRecDepth 20000 in
theorem gL_law_X10_most : GoodIn wsL_law (wsV RL 106 RX10 yX10_most wsX10_most) := goodIn_app (goodIn_of _ (by decide +kernel)) ggL_law_X10_most
set_option maxRecDepth 20000 in
theorem ggL_law_X11_most : GoodIn wsL_law wsX11_most := goodIn_r _ [829, 211, 165, 166, 830, 458, 459, 460, 212, 213, 5, 214, 735, 736, 737, 738, 739, 326, 734, 332, 333, 334, 335, 149, 150, 849, 850, 851, 852, 853, 854, 855, 856, 857, 858, 859, 860, 861, 862, 863, 864, 865, 866, 867, 868, 869, 870, 871, 872, 873, 874, 875, 876, 877] (by decide +kernel) (by decide +kernel)
set_option maxRecDepth 20000 in
theorem gL_law_X11_most : GoodIn wsL_law (wsV RL 109 RX11 yX11_most wsX11_most) := goodIn_app (goodIn_of _ (by decide +kernel)) ggL_law_X11_most
set_option maxRecDepth 20000 in
theorem ggL_law_X10_stand : GoodIn wsL_law wsX10_stand := goodIn_r _ [834, 35, 835, 836, 837, 34, 838, 205, 654, 133, 251, 2, 252, 843, 844, 845, 846, 847, 848, 903, 904, 905, 906, 907, 908, 909, 910, 911, 912, 913, 914, 915, 916, 917] (by decide +kernel) (by decide +kernel)
set_option maxRecDepth 20000 in
theorem gL_law_X10_stand : GoodIn wsL_law (wsV RL 110 RX10 yX10_stand wsX10_stand) := goodIn_app (goodIn_of _ (by decide +kernel)) ggL_law_X10_stand
set_option maxRecDepth 20000 in
theorem ggL_law_X11_stand : GoodIn wsL_law wsX11_stand := goodIn_r _ [842, 211, 739, 165, 212, 213, 5, 214, 735, 736, 737, 738, 326, 734, 332, 333, 334, 335, 149, 150, 849, 850, 851, 852, 853, 854, 855, 856, 857, 858, 859, 860, 861, 862, 863, 864, 865, 866, 867, 868, 869, 870, 871, 872, 873, 874, 875, 876, 877] (by decide +kernel) (by decide +kernel)
set_option maxRecDepth 20000 in
theorem gL_law_X11_stand : GoodIn wsL_law (wsV RL 113 RX11 yX11_stand wsX11_stand) := goodIn_app (goodIn_of _ (by decide +kernel)) ggL_law_X11_stand
theorem dL_law_0 : decode cL_law 0 = .ok (.new 7, 3) := by decide +kernel
theorem dL_law_3 : decode cL_law 3 = .ok (.dup, 1) := by decide +kernel
theorem dL_law_4 : decode cL_law 4 = .ok (.invokespecial 9, 3) := by decide +kernel
theorem dL_law_7 : decode cL_law 7 = .ok (.astore_n 1, 1) := by decide +kernel
theorem dL_law_8 : decode cL_law 8 = .ok (.new 10, 3) := by decide +kernel
theorem dL_law_11 : decode cL_law 11 = .ok (.dup, 1) := by decide +kernel
theorem dL_law_12 : decode cL_law 12 = .ok (.invokespecial 12, 3) := by decide +kernel
theorem dL_law_15 : decode cL_law 15 = .ok (.astore_n 2, 1) := by decide +kernel
theorem dL_law_16 : decode cL_law 16 = .ok (.iconst 0, 1) := by decide +kernel
theorem dL_law_17 : decode cL_law 17 = .ok (.istore_n 3, 1) := by decide +kernel
theorem dL_law_18 : decode cL_law 18 = .ok (.iload_n 3, 1) := by decide +kernel
theorem dL_law_19 : decode cL_law 19 = .ok (.aload_n 0, 1) := by decide +kernel
theorem dL_law_20 : decode cL_law 20 = .ok (.arraylength, 1) := by decide +kernel
theorem dL_law_21 : decode cL_law 21 = .ok (.bipush 6, 2) := by decide +kernel
theorem dL_law_23 : decode cL_law 23 = .ok (.isub, 1) := by decide +kernel
theorem dL_law_24 : decode cL_law 24 = .ok (.if_icmp .gt 727, 3) := by decide +kernel
theorem dL_law_27 : decode cL_law 27 = .ok (.aload_n 0, 1) := by decide +kernel
theorem dL_law_28 : decode cL_law 28 = .ok (.iload_n 3, 1) := by decide +kernel
theorem dL_law_29 : decode cL_law 29 = .ok (.iaload, 1) := by decide +kernel
theorem dL_law_30 : decode cL_law 30 = .ok (.bipush 31, 2) := by decide +kernel
theorem dL_law_32 : decode cL_law 32 = .ok (.iand, 1) := by decide +kernel
theorem dL_law_33 : decode cL_law 33 = .ok (.tableswitch 712 0 22 #[107, 140, 183, 262, 285, 298, 341, 384, 407, 440, 463, 486, 509, 522, 545, 558, 571, 584, 597, 610, 623, 656, 679], 107) := by decide +kernel
theorem dL_law_140 : decode cL_law 140 = .ok (.aload_n 1, 1) := by decide +kernel
theorem dL_law_141 : decode cL_law 141 = .ok (.aload_n 0, 1) := by decide +kernel
theorem dL_law_142 : decode cL_law 142 = .ok (.iload_n 3, 1) := by decide +kernel
theorem dL_law_143 : decode cL_law 143 = .ok (.iconst 1, 1) := by decide +kernel
theorem dL_law_144 : decode cL_law 144 = .ok (.iadd, 1) := by decide +kernel
theorem dL_law_145 : decode cL_law 145 = .ok (.iaload, 1) := by decide +kernel
theorem dL_law_146 : decode cL_law 146 = .ok (.aload_n 0, 1) := by decide +kernel
theorem dL_law_147 : decode cL_law 147 = .ok (.iload_n 3, 1) := by decide +kernel
theorem dL_law_148 : decode cL_law 148 = .ok (.iconst 2, 1) := by decide +kernel
theorem dL_law_149 : decode cL_law 149 = .ok (.iadd, 1) := by decide +kernel
theorem dL_law_150 : decode cL_law 150 = .ok (.iaload, 1) := by decide +kernel
theorem dL_law_151 : decode cL_law 151 = .ok (.invokevirtual 13, 3) := by decide +kernel
theorem dL_law_154 : decode cL_law 154 = .ok (.aload_n 2, 1) := by decide +kernel
theorem dL_law_155 : decode cL_law 155 = .ok (.aload_n 0, 1) := by decide +kernel
theorem dL_law_156 : decode cL_law 156 = .ok (.iload_n 3, 1) := by decide +kernel
theorem dL_law_157 : decode cL_law 157 = .ok (.iconst 1, 1) := by decide +kernel
theorem dL_law_158 : decode cL_law 158 = .ok (.iadd, 1) := by decide +kernel
theorem dL_law_159 : decode cL_law 159 = .ok (.iaload, 1) := by decide +kernel
theorem dL_law_160 : decode cL_law 160 = .ok (.aload_n 0, 1) := by decide +kernel
theorem dL_law_161 : decode cL_law 161 = .ok (.iload_n 3, 1) := by decide +kernel
theorem dL_law_162 : decode cL_law 162 = .ok (.iconst 2, 1) := by decide +kernel
theorem dL_law_163 : decode cL_law 163 = .ok (.iadd, 1) := by decide +kernel
theorem dL_law_164 : decode cL_law 164 = .ok (.iaload, 1) := by decide +kernel
theorem dL_law_165 : decode cL_law 165 = .ok (.invokevirtual 17, 3) := by decide +kernel
theorem dL_law_168 : decode cL_law 168 = .ok (.if_icmp .eq 577, 3) := by decide +kernel
theorem dL_law_171 : decode cL_law 171 = .ok (.iconst 0, 1) := by decide +kernel
theorem dL_law_172 : decode cL_law 172 = .ok (.ireturn, 1) := by decide +kernel
theorem dL_law_173 : decode cL_law 173 = .ok (.aload_n 1, 1) := by decide +kernel
theorem dL_law_174 : decode cL_law 174 = .ok (.aload_n 0, 1) := by decide +kernel
theorem dL_law_175 : decode cL_law 175 = .ok (.iload_n 3, 1) := by decide +kernel
theorem dL_law_176 : decode cL_law 176 = .ok (.iconst 1, 1) := by decide +kernel
theorem dL_law_177 : decode cL_law 177 = .ok (.iadd, 1) := by decide +kernel
theorem dL_law_178 : decode cL_law 178 = .ok (.iaload, 1) := by decide +kernel
theorem dL_law_179 : decode cL_law 179 = .ok (.aload_n 0, 1) := by decide +kernel
theorem dL_law_180 : decode cL_law 180 = .ok (.iload_n 3, 1) := by decide +kernel
theorem dL_law_181 : decode cL_law 181 = .ok (.iconst 2, 1) := by decide +kernel
theorem dL_law_182 : decode cL_law 182 = .ok (.iadd, 1) := by decide +kernel
theorem dL_law_183 : decode cL_law 183 = .ok (.iaload, 1) := by decide +kernel
theorem dL_law_184 : decode cL_law 184 = .ok (.aload_n 0, 1) := by decide +kernel
theorem dL_law_185 : decode cL_law 185 = .ok (.iload_n 3, 1) := by decide +kernel
theorem dL_law_186 : decode cL_law 186 = .ok (.iconst 3, 1) := by decide +kernel
theorem dL_law_187 : decode cL_law 187 = .ok (.iadd, 1) := by decide +kernel
theorem dL_law_188 : decode cL_law 188 = .ok (.iaload, 1) := by decide +kernel
theorem dL_law_189 : decode cL_law 189 = .ok (.invokevirtual 18, 3) := by decide +kernel
theorem dL_law_192 : decode cL_law 192 = .ok (.aload_n 2, 1) := by decide +kernel
theorem dL_law_193 : decode cL_law 193 = .ok (.aload_n 0, 1) := by decide +kernel
theorem dL_law_194 : decode cL_law 194 = .ok (.iload_n 3, 1) := by decide +kernel
theorem dL_law_195 : decode cL_law 195 = .ok (.iconst 1, 1) := by decide +kernel
theorem dL_law_196 : decode cL_law 196 = .ok (.iadd, 1) := by decide +kernel
theorem dL_law_197 : decode cL_law 197 = .ok (.iaload, 1) := by decide +kernel
theorem dL_law_198 : decode cL_law 198 = .ok (.aload_n 0, 1) := by decide +kernel
theorem dL_law_199 : decode cL_law 199 = .ok (.iload_n 3, 1) := by decide +kernel
theorem dL_law_200 : decode cL_law 200 = .ok (.iconst 2, 1) := by decide +kernel
theorem dL_law_201 : decode cL_law 201 = .ok (.iadd, 1) := by decide +kernel
theorem dL_law_202 : decode cL_law 202 = .ok (.iaload, 1) := by decide +kernel
theorem dL_law_203 : decode cL_law 203 = .ok (.aload_n 0, 1) := by decide +kernel
theorem dL_law_204 : decode cL_law 204 = .ok (.iload_n 3, 1) := by decide +kernel
theorem dL_law_205 : decode cL_law 205 = .ok (.iconst 3, 1) := by decide +kernel
theorem dL_law_206 : decode cL_law 206 = .ok (.iadd, 1) := by decide +kernel
theorem dL_law_207 : decode cL_law 207 = .ok (.iaload, 1) := by decide +kernel
theorem dL_law_208 : decode cL_law 208 = .ok (.invokevirtual 22, 3) := by decide +kernel
theorem dL_law_211 : decode cL_law 211 = .ok (.if_icmp .eq 534, 3) := by decide +kernel
theorem dL_law_214 : decode cL_law 214 = .ok (.iconst 0, 1) := by decide +kernel
theorem dL_law_215 : decode cL_law 215 = .ok (.ireturn, 1) := by decide +kernel
theorem dL_law_216 : decode cL_law 216 = .ok (.aload_n 1, 1) := by decide +kernel
theorem dL_law_217 : decode cL_law 217 = .ok (.aload_n 0, 1) := by decide +kernel
theorem dL_law_218 : decode cL_law 218 = .ok (.iload_n 3, 1) := by decide +kernel
theorem dL_law_219 : decode cL_law 219 = .ok (.iconst 1, 1) := by decide +kernel
theorem dL_law_220 : decode cL_law 220 = .ok (.iadd, 1) := by decide +kernel
theorem dL_law_221 : decode cL_law 221 = .ok (.iaload, 1) := by decide +kernel
theorem dL_law_222 : decode cL_law 222 = .ok (.aload_n 0, 1) := by decide +kernel
theorem dL_law_223 : decode cL_law 223 = .ok (.iload_n 3, 1) := by decide +kernel
theorem dL_law_224 : decode cL_law 224 = .ok (.iconst 2, 1) := by decide +kernel
theorem dL_law_225 : decode cL_law 225 = .ok (.iadd, 1) := by decide +kernel
theorem dL_law_226 : decode cL_law 226 = .ok (.iaload, 1) := by decide +kernel
theorem dL_law_227 : decode cL_law 227 = .ok (.aload_n 0, 1) := by decide +kernel
theorem dL_law_228 : decode cL_law 228 = .ok (.iload_n 3, 1) := by decide +kernel
theorem dL_law_229 : decode cL_law 229 = .ok (.iconst 3, 1) := by decide +kernel
theorem dL_law_230 : decode cL_law 230 = .ok (.iadd, 1) := by decide +kernel
theorem dL_law_231 : decode cL_law 231 = .ok (.iaload, 1) := by decide +kernel
theorem dL_law_232 : decode cL_law 232 = .ok (.ifCond .eq 7, 3) := by decide +kernel
theorem dL_law_235 : decode cL_law 235 = .ok (.iconst 1, 1) := by decide +kernel
theorem dL_law_236 : decode cL_law 236 = .ok (.goto 4, 3) := by decide +kernel
theorem dL_law_239 : decode cL_law 239 = .ok (.iconst 0, 1) := by decide +kernel
theorem dL_law_240 : decode cL_law 240 = .ok (.aload_n 0, 1) := by decide +kernel
theorem dL_law_241 : decode cL_law 241 = .ok (.iload_n 3, 1) := by decide +kernel
theorem dL_law_242 : decode cL_law 242 = .ok (.iconst 4, 1) := by decide +kernel
theorem dL_law_243 : decode cL_law 243 = .ok (.iadd, 1) := by decide +kernel
theorem dL_law_244 : decode cL_law 244 = .ok (.iaload, 1) := by decide +kernel
theorem dL_law_245 : decode cL_law 245 = .ok (.aload_n 0, 1) := by decide +kernel
theorem dL_law_246 : decode cL_law 246 = .ok (.iload_n 3, 1) := by decide +kernel
theorem dL_law_247 : decode cL_law 247 = .ok (.iconst 5, 1) := by decide +kernel
theorem dL_law_248 : decode cL_law 248 = .ok (.iadd, 1) := by decide +kernel
theorem dL_law_249 : decode cL_law 249 = .ok (.iaload, 1) := by decide +kernel
theorem dL_law_250 : decode cL_law 250 = .ok (.invokevirtual 23, 3) := by decide +kernel
theorem dL_law_253 : decode cL_law 253 = .ok (.aload_n 2, 1) := by decide +kernel
theorem dL_law_254 : decode cL_law 254 = .ok (.aload_n 0, 1) := by decide +kernel
theorem dL_law_255 : decode cL_law 255 = .ok (.iload_n 3, 1) := by decide +kernel
theorem dL_law_256 : decode cL_law 256 = .ok (.iconst 1, 1) := by decide +kernel
theorem dL_law_257 : decode cL_law 257 = .ok (.iadd, 1) := by decide +kernel
theorem dL_law_258 : decode cL_law 258 = .ok (.iaload, 1) := by decide +kernel
theorem dL_law_259 : decode cL_law 259 = .ok (.aload_n 0, 1) := by decide +kernel
theorem dL_law_260 : decode cL_law 260 = .ok (.iload_n 3, 1) := by decide +kernel
theorem dL_law_261 : decode cL_law 261 = .ok (.iconst 2, 1) := by decide +kernel
theorem dL_law_262 : decode cL_law 262 = .ok (.iadd, 1) := by decide +kernel
theorem dL_law_263 : decode cL_law 263 = .ok (.iaload, 1) := by decide +kernel
theorem dL_law_264 : decode cL_law 264 = .ok (.aload_n 0, 1) := by decide +kernel
theorem dL_law_265 : decode cL_law 265 = .ok (.iload_n 3, 1) := by decide +kernel
theorem dL_law_266 : decode cL_law 266 = .ok (.iconst 3, 1) := by decide +kernel
theorem dL_law_267 : decode cL_law 267 = .ok (.iadd, 1) := by decide +kernel
theorem dL_law_268 : decode cL_law 268 = .ok (.iaload, 1) := by decide +kernel
theorem dL_law_269 : decode cL_law 269 = .ok (.ifCond .eq 7, 3) := by decide +kernel
theorem dL_law_272 : decode cL_law 272 = .ok (.iconst 1, 1) := by decide +kernel
theorem dL_law_273 : decode cL_law 273 = .ok (.goto 4, 3) := by decide +kernel
theorem dL_law_276 : decode cL_law 276 = .ok (.iconst 0, 1) := by decide +kernel
theorem dL_law_277 : decode cL_law 277 = .ok (.aload_n 0, 1) := by decide +kernel
theorem dL_law_278 : decode cL_law 278 = .ok (.iload_n 3, 1) := by decide +kernel
theorem dL_law_279 : decode cL_law 279 = .ok (.iconst 4, 1) := by decide +kernel
theorem dL_law_280 : decode cL_law 280 = .ok (.iadd, 1) := by decide +kernel
theorem dL_law_281 : decode cL_law 281 = .ok (.iaload, 1) := by decide +kernel
theorem dL_law_282 : decode cL_law 282 = .ok (.aload_n 0, 1) := by decide +kernel
theorem dL_law_283 : decode cL_law 283 = .ok (.iload_n 3, 1) := by decide +kernel
theorem dL_law_284 : decode cL_law 284 = .ok (.iconst 5, 1) := by decide +kernel
theorem dL_law_285 : decode cL_law 285 = .ok (.iadd, 1) := by decide +kernel
theorem dL_law_286 : decode cL_law 286 = .ok (.iaload, 1) := by decide +kernel
theorem dL_law_287 : decode cL_law 287 = .ok (.invokevirtual 27, 3) := by decide +kernel
theorem dL_law_290 : decode cL_law 290 = .ok (.if_icmp .eq 455, 3) := by decide +kernel
theorem dL_law_293 : decode cL_law 293 = .ok (.iconst 0, 1) := by decide +kernel
theorem dL_law_294 : decode cL_law 294 = .ok (.ireturn, 1) := by decide +kernel
theorem dL_law_295 : decode cL_law 295 = .ok (.aload_n 1, 1) := by decide +kernel
theorem dL_law_296 : decode cL_law 296 = .ok (.aload_n 0, 1) := by decide +kernel
theorem dL_law_297 : decode cL_law 297 = .ok (.iload_n 3, 1) := by decide +kernel
theorem dL_law_298 : decode cL_law 298 = .ok (.iconst 1, 1) := by decide +kernel
theorem dL_law_299 : decode cL_law 299 = .ok (.iadd, 1) := by decide +kernel
theorem dL_law_300 : decode cL_law 300 = .ok (.iaload, 1) := by decide +kernel
theorem dL_law_301 : decode cL_law 301 = .ok (.invokevirtual 28, 3) := by decide +kernel
theorem dL_law_304 : decode cL_law 304 = .ok (.aload_n 2, 1) := by decide +kernel
theorem dL_law_305 : decode cL_law 305 = .ok (.aload_n 0, 1) := by decide +kernel
theorem dL_law_306 : decode cL_law 306 = .ok (.iload_n 3, 1) := by decide +kernel
theorem dL_law_307 : decode cL_law 307 = .ok (.iconst 1, 1) := by decide +kernel
theorem dL_law_308 : decode cL_law 308 = .ok (.iadd, 1) := by decide +kernel
theorem dL_law_309 : decode cL_law 309 = .ok (.iaload, 1) := by decide +kernel
theorem dL_law_310 : decode cL_law 310 = .ok (.invokevirtual 32, 3) := by decide +kernel
theorem dL_law_313 : decode cL_law 313 = .ok (.if_icmp .eq 432, 3) := by decide +kernel
theorem dL_law_316 : decode cL_law 316 = .ok (.iconst 0, 1) := by decide +kernel
theorem dL_law_317 : decode cL_law 317 = .ok (.ireturn, 1) := by decide +kernel
theorem dL_law_318 : decode cL_law 318 = .ok (.aload_n 1, 1) := by decide +kernel
theorem dL_law_319 : decode cL_law 319 = .ok (.invokevirtual 33, 3) := by decide +kernel
theorem dL_law_322 : decode cL_law 322 = .ok (.aload_n 2, 1) := by decide +kernel
theorem dL_law_323 : decode cL_law 323 = .ok (.invokevirtual 37, 3) := by decide +kernel
theorem dL_law_326 : decode cL_law 326 = .ok (.if_icmp .eq 419, 3) := by decide +kernel
theorem dL_law_329 : decode cL_law 329 = .ok (.iconst 0, 1) := by decide +kernel
theorem dL_law_330 : decode cL_law 330 = .ok (.ireturn, 1) := by decide +kernel
theorem dL_law_331 : decode cL_law 331 = .ok (.aload_n 1, 1) := by decide +kernel
theorem dL_law_332 : decode cL_law 332 = .ok (.aload_n 0, 1) := by decide +kernel
theorem dL_law_333 : decode cL_law 333 = .ok (.iload_n 3, 1) := by decide +kernel
theorem dL_law_334 : decode cL_law 334 = .ok (.iconst 1, 1) := by decide +kernel
theorem dL_law_335 : decode cL_law 335 = .ok (.iadd, 1) := by decide +kernel
theorem dL_law_336 : decode cL_law 336 = .ok (.iaload, 1) := by decide +kernel
theorem dL_law_337 : decode cL_law 337 = .ok (.aload_n 0, 1) := by decide +kernel
theorem dL_law_338 : decode cL_law 338 = .ok (.iload_n 3, 1) := by decide +kernel
theorem dL_law_339 : decode cL_law 339 = .ok (.iconst 2, 1) := by decide +kernel
theorem dL_law_340 : decode cL_law 340 = .ok (.iadd, 1) := by decide +kernel
theorem dL_law_341 : decode cL_law 341 = .ok (.iaload, 1) := by decide +kernel
theorem dL_law_342 : decode cL_law 342 = .ok (.aload_n 0, 1) := by decide +kernel
theorem dL_law_343 : decode cL_law 343 = .ok (.iload_n 3, 1) := by decide +kernel
theorem dL_law_344 : decode cL_law 344 = .ok (.iconst 3, 1) := by decide +kernel
theorem dL_law_345 : decode cL_law 345 = .ok (.iadd, 1) := by decide +kernel
theorem dL_law_346 : decode cL_law 346 = .ok (.iaload, 1) := by decide +kernel
theorem dL_law_347 : decode cL_law 347 = .ok (.invokevirtual 38, 3) := by decide +kernel
theorem dL_law_350 : decode cL_law 350 = .ok (.aload_n 2, 1) := by decide +kernel
theorem dL_law_351 : decode cL_law 351 = .ok (.aload_n 0, 1) := by decide +kernel
theorem dL_law_352 : decode cL_law 352 = .ok (.iload_n 3, 1) := by decide +kernel
theorem dL_law_353 : decode cL_law 353 = .ok (.iconst 1, 1) := by decide +kernel
theorem dL_law_354 : decode cL_law 354 = .ok (.iadd, 1) := by decide +kernel
theorem dL_law_355 : decode cL_law 355 = .ok (.iaload, 1) := by decide +kernel
theorem dL_law_356 : decode cL_law 356 = .ok (.aload_n 0, 1) := by decide +kernel
theorem dL_law_357 : decode cL_law 357 = .ok (.iload_n 3, 1) := by decide +kernel
theorem dL_law_358 : decode cL_law 358 = .ok (.iconst 2, 1) := by decide +kernel
theorem dL_law_359 : decode cL_law 359 = .ok (.iadd, 1) := by decide +kernel
theorem dL_law_360 : decode cL_law 360 = .ok (.iaload, 1) := by decide +kernel
theorem dL_law_361 : decode cL_law 361 = .ok (.aload_n 0, 1) := by decide +kernel
theorem dL_law_362 : decode cL_law 362 = .ok (.iload_n 3, 1) := by decide +kernel
theorem dL_law_363 : decode cL_law 363 = .ok (.iconst 3, 1) := by decide +kernel
theorem dL_law_364 : decode cL_law 364 = .ok (.iadd, 1) := by decide +kernel
theorem dL_law_365 : decode cL_law 365 = .ok (.iaload, 1) := by decide +kernel
theorem dL_law_366 : decode cL_law 366 = .ok (.invokevirtual 42, 3) := by decide +kernel
theorem dL_law_369 : decode cL_law 369 = .ok (.if_icmp .eq 376, 3) := by decide +kernel
theorem dL_law_372 : decode cL_law 372 = .ok (.iconst 0, 1) := by decide +kernel
theorem dL_law_373 : decode cL_law 373 = .ok (.ireturn, 1) := by decide +kernel
theorem dL_law_374 : decode cL_law 374 = .ok (.aload_n 1, 1) := by decide +kernel
theorem dL_law_375 : decode cL_law 375 = .ok (.aload_n 0, 1) := by decide +kernel
theorem dL_law_376 : decode cL_law 376 = .ok (.iload_n 3, 1) := by decide +kernel
theorem dL_law_377 : decode cL_law 377 = .ok (.iconst 1, 1) := by decide +kernel
theorem dL_law_378 : decode cL_law 378 = .ok (.iadd, 1) := by decide +kernel
theorem dL_law_379 : decode cL_law 379 = .ok (.iaload, 1) := by decide +kernel
theorem dL_law_380 : decode cL_law 380 = .ok (.aload_n 0, 1) := by decide +kernel
theorem dL_law_381 : decode cL_law 381 = .ok (.iload_n 3, 1) := by decide +kernel
theorem dL_law_382 : decode cL_law 382 = .ok (.iconst 2, 1) := by decide +kernel
theorem dL_law_383 : decode cL_law 383 = .ok (.iadd, 1) := by decide +kernel
theorem dL_law_384 : decode cL_law 384 = .ok (.iaload, 1) := by decide +kernel
theorem dL_law_385 : decode cL_law 385 = .ok (.aload_n 0, 1) := by decide +kernel
theorem dL_law_386 : decode cL_law 386 = .ok (.iload_n 3, 1) := by decide +kernel
theorem dL_law_387 : decode cL_law 387 = .ok (.iconst 3, 1) := by decide +kernel
theorem dL_law_388 : decode cL_law 388 = .ok (.iadd, 1) := by decide +kernel
theorem dL_law_389 : decode cL_law 389 = .ok (.iaload, 1) := by decide +kernel
theorem dL_law_390 : decode cL_law 390 = .ok (.invokevirtual 43, 3) := by decide +kernel
