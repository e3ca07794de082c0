theorem sX0_init_0 : kt_sg cX0_init 0 [42, 183, 0, 3, 42, 16, 81, 188, 10, 181, 0, 9, 42, 16, 81, 188, 4, 181, 0, 15, 42, 17, 1, 68, 188, 10, 181, 0, 19, 177] = true := by decide +kernel
theorem dX0_init_0 : decode cX0_init 0 = .ok (.aload_n 0, 1) := kt_o42 (j := 0) sX0_init_0 rfl
theorem dX0_init_1 : decode cX0_init 1 = .ok (.invokespecial 3, 3) := kt_o183 (j := 1) sX0_init_0 rfl rfl
theorem dX0_init_4 : decode cX0_init 4 = .ok (.aload_n 0, 1) := kt_o42 (j := 4) sX0_init_0 rfl
theorem dX0_init_5 : decode cX0_init 5 = .ok (.bipush 81, 2) := kt_o16 (j := 5) sX0_init_0 rfl (by decide +kernel)
theorem dX0_init_7 : decode cX0_init 7 = .ok (.newarray .int, 2) := kt_o188_10 (j := 7) sX0_init_0 rfl
theorem dX0_init_9 : decode cX0_init 9 = .ok (.putfield 9, 3) := kt_o181 (j := 9) sX0_init_0 rfl rfl
theorem dX0_init_12 : decode cX0_init 12 = .ok (.aload_n 0, 1) := kt_o42 (j := 12) sX0_init_0 rfl
theorem dX0_init_13 : decode cX0_init 13 = .ok (.bipush 81, 2) := kt_o16 (j := 13) sX0_init_0 rfl (by decide +kernel)
theorem dX0_init_15 : decode cX0_init 15 = .ok (.newarray .boolean, 2) := kt_o188_4 (j := 15) sX0_init_0 rfl
theorem dX0_init_17 : decode cX0_init 17 = .ok (.putfield 15, 3) := kt_o181 (j := 17) sX0_init_0 rfl rfl
theorem dX0_init_20 : decode cX0_init 20 = .ok (.aload_n 0, 1) := kt_o42 (j := 20) sX0_init_0 rfl
theorem dX0_init_21 : decode cX0_init 21 = .ok (.sipush 324, 3) := kt_o17 (j := 21) sX0_init_0 rfl (by decide +kernel)
theorem dX0_init_24 : decode cX0_init 24 = .ok (.newarray .int, 2) := kt_o188_10 (j := 24) sX0_init_0 rfl
theorem dX0_init_26 : decode cX0_init 26 = .ok (.putfield 19, 3) := kt_o181 (j := 26) sX0_init_0 rfl rfl
theorem dX0_init_29 : decode cX0_init 29 = .ok (.return_, 1) := kt_o177 (j := 29) sX0_init_0 rfl
theorem kt_wp_X0_lay__X00 {w : Cond} (h : w ∈ wsX00) : w ∈ wsX0_lay := List.mem_cons_of_mem _ (List.mem_append_left _ (List.mem_append_right _ (h)))
theorem kt_wp_X0_lay__X90 {w : Cond} (h : w ∈ wsX90) : w ∈ wsX0_lay := List.mem_cons_of_mem _ (List.mem_append_right _ (h))
set_option maxRecDepth 20000 in
theorem kt_wg_X9_size : wsX9_size.all goodWord = true := by decide +kernel
set_option maxRecDepth 20000 in
theorem ggX0_lay_X9_size : GoodIn wsX0_lay wsX9_size := goodIn_sub (kt_wf1 (List.mem_cons_of_mem _ (List.mem_append_left _ (List.mem_append_left _ (List.mem_cons_of_mem _ (List.mem_cons_of_mem _ (List.mem_cons_of_mem _ (List.mem_cons_of_mem _ (List.mem_cons_of_mem _ (List.mem_cons_of_mem _ (List.mem_cons_of_mem _ (List.mem_cons_of_mem _ (List.mem_cons_of_mem _ (List.Mem.head _))))))))))))) (kt_wfa (kt_wf1 (List.mem_cons_of_mem _ (List.mem_append_left _ (List.mem_append_left _ (List.mem_cons_of_mem _ (List.mem_cons_of_mem _ (List.mem_cons_of_mem _ (List.mem_cons_of_mem _ (List.mem_cons_of_mem _ (List.mem_cons_of_mem _ (List.mem_cons_of_mem _ (List.mem_cons_of_mem _ (List.mem_cons_of_mem _ (List.mem_cons_of_mem _ (List.Mem.head _)))))))))))))) (kt_wf1 (List.mem_cons_of_mem _ (List.mem_append_left _ (List.mem_append_left _ (List.mem_cons_of_mem _ (List.mem_cons_of_mem _ (List.mem_cons_of_mem _ (List.mem_cons_of_mem _ (List.mem_cons_of_mem _ (List.mem_cons_of_mem _ (List.mem_cons_of_mem _ (List.mem_cons_of_mem _ (List.mem_cons_of_mem _ (List.mem_cons_of_mem _ (List.mem_cons_of_mem _ (List.Mem.head _))))))))))))))) kt_wf0)) (fun _ h => kt_wp_X0_lay__X90 h))) kt_wg_X9_size
set_option maxRecDepth 20000 in
theorem gX0_lay_X9_size : GoodIn wsX0_lay (wsV RX0 22 RX9 yX9_size wsX9_size) := goodIn_app (a := [.methodLink RX0 22 yX9_size, .instanceMethod yX9_size, .selects RX9 yX9_size yX9_size, .initialized RX9]) (goodIn_sub (kt_wf1 (List.mem_cons_of_mem _ (List.mem_append_left _ (List.mem_append_left _ (List.mem_cons_of_mem _ (List.mem_cons_of_mem _ (List.mem_cons_of_mem _ (List.mem_cons_of_mem _ (List.mem_cons_of_mem _ (List.Mem.head _))))))))) (kt_wf1 (List.mem_cons_of_mem _ (List.mem_append_left _ (List.mem_append_left _ (List.mem_cons_of_mem _ (List.mem_cons_of_mem _ (List.mem_cons_of_mem _ (List.mem_cons_of_mem _ (List.mem_cons_of_mem _ (List.mem_cons_of_mem _ (List.Mem.head _)))))))))) (kt_wf1 (List.mem_cons_of_mem _ (List.mem_append_left _ (List.mem_append_left _ (List.mem_cons_of_mem _ (List.mem_cons_of_mem _ (List.mem_cons_of_mem _ (List.mem_cons_of_mem _ (List.mem_cons_of_mem _ (List.mem_cons_of_mem _ (List.mem_cons_of_mem _ (List.Mem.head _))))))))))) (kt_wf1 (List.mem_cons_of_mem _ (List.mem_append_left _ (List.mem_append_left _ (List.mem_cons_of_mem _ (List.mem_cons_of_mem _ (List.mem_cons_of_mem _ (List.mem_cons_of_mem _ (List.mem_cons_of_mem _ (List.mem_cons_of_mem _ (List.mem_cons_of_mem _ (List.mem_cons_of_mem _ (List.Mem.head _)))))))))))) kt_wf0)))) (by decide +kernel)) ggX0_lay_X9_size
set_option maxRecDepth 20000 in
theorem kt_wg_X10_typeOfSign : wsX10_typeOfSign.all goodWord = true := by decide +kernel
set_option maxRecDepth 20000 in
theorem ggX0_lay_X10_typeOfSign : GoodIn wsX0_lay wsX10_typeOfSign := goodIn_sub (kt_wf1 (List.mem_cons_of_mem _ (List.mem_append_left _ (List.mem_append_left _ (List.mem_cons_of_mem _ (List.mem_cons_of_mem _ (List.mem_cons_of_mem _ (List.mem_cons_of_mem _ (List.mem_cons_of_mem _ (List.mem_cons_of_mem _ (List.mem_cons_of_mem _ (List.mem_cons_of_mem _ (List.mem_cons_of_mem _ (List.mem_cons_of_mem _ (List.mem_cons_of_mem _ (List.mem_cons_of_mem _ (List.mem_cons_of_mem _ (List.mem_cons_of_mem _ (List.Mem.head _)))))))))))))))))) kt_wf0) kt_wg_X10_typeOfSign
set_option maxRecDepth 20000 in
theorem gX0_lay_X10_typeOfSign_n43 : GoodIn wsX0_lay (wsX10_typeOfSign) := ggX0_lay_X10_typeOfSign
theorem sX0_lay_0 : kt_sg cX0_lay 0 [42, 43, 182, 0, 22, 181, 0, 28, 42, 43, 180, 0, 31, 43, 180, 0, 34, 96, 5, 100, 181, 0, 37, 3, 62, 29, 43, 180, 0, 31, 162, 0, 234, 3, 54, 4, 21, 4, 43, 180, 0, 34, 162, 0, 216, 29, 43, 180, 0, 34, 104, 21, 4, 96, 54, 5, 29, 153, 0, 29, 21, 4, 153, 0, 24] = true := by decide +kernel
theorem dX0_lay_0 : decode cX0_lay 0 = .ok (.aload_n 0, 1) := kt_o42 (j := 0) sX0_lay_0 rfl
theorem dX0_lay_1 : decode cX0_lay 1 = .ok (.aload_n 1, 1) := kt_o43 (j := 1) sX0_lay_0 rfl
theorem dX0_lay_2 : decode cX0_lay 2 = .ok (.invokevirtual 22, 3) := kt_o182 (j := 2) sX0_lay_0 rfl rfl
theorem dX0_lay_5 : decode cX0_lay 5 = .ok (.putfield 28, 3) := kt_o181 (j := 5) sX0_lay_0 rfl rfl
theorem dX0_lay_8 : decode cX0_lay 8 = .ok (.aload_n 0, 1) := kt_o42 (j := 8) sX0_lay_0 rfl
theorem dX0_lay_9 : decode cX0_lay 9 = .ok (.aload_n 1, 1) := kt_o43 (j := 9) sX0_lay_0 rfl
theorem dX0_lay_10 : decode cX0_lay 10 = .ok (.getfield 31, 3) := kt_o180 (j := 10) sX0_lay_0 rfl rfl
theorem dX0_lay_13 : decode cX0_lay 13 = .ok (.aload_n 1, 1) := kt_o43 (j := 13) sX0_lay_0 rfl
theorem dX0_lay_14 : decode cX0_lay 14 = .ok (.getfield 34, 3) := kt_o180 (j := 14) sX0_lay_0 rfl rfl
theorem dX0_lay_17 : decode cX0_lay 17 = .ok (.iadd, 1) := kt_o96 (j := 17) sX0_lay_0 rfl
theorem dX0_lay_18 : decode cX0_lay 18 = .ok (.iconst 2, 1) := kt_o5 (j := 18) sX0_lay_0 rfl
theorem dX0_lay_19 : decode cX0_lay 19 = .ok (.isub, 1) := kt_o100 (j := 19) sX0_lay_0 rfl
theorem dX0_lay_20 : decode cX0_lay 20 = .ok (.putfield 37, 3) := kt_o181 (j := 20) sX0_lay_0 rfl rfl
theorem dX0_lay_23 : decode cX0_lay 23 = .ok (.iconst 0, 1) := kt_o3 (j := 23) sX0_lay_0 rfl
theorem dX0_lay_24 : decode cX0_lay 24 = .ok (.istore_n 3, 1) := kt_o62 (j := 24) sX0_lay_0 rfl
theorem dX0_lay_25 : decode cX0_lay 25 = .ok (.iload_n 3, 1) := kt_o29 (j := 25) sX0_lay_0 rfl
theorem dX0_lay_26 : decode cX0_lay 26 = .ok (.aload_n 1, 1) := kt_o43 (j := 26) sX0_lay_0 rfl
theorem dX0_lay_27 : decode cX0_lay 27 = .ok (.getfield 31, 3) := kt_o180 (j := 27) sX0_lay_0 rfl rfl
theorem dX0_lay_30 : decode cX0_lay 30 = .ok (.if_icmp .ge 234, 3) := kt_o162 (j := 30) sX0_lay_0 rfl (by decide +kernel)
theorem dX0_lay_33 : decode cX0_lay 33 = .ok (.iconst 0, 1) := kt_o3 (j := 33) sX0_lay_0 rfl
theorem dX0_lay_34 : decode cX0_lay 34 = .ok (.istore 4, 2) := kt_o54 (j := 34) sX0_lay_0 rfl
theorem dX0_lay_36 : decode cX0_lay 36 = .ok (.iload 4, 2) := kt_o21 (j := 36) sX0_lay_0 rfl
theorem dX0_lay_38 : decode cX0_lay 38 = .ok (.aload_n 1, 1) := kt_o43 (j := 38) sX0_lay_0 rfl
theorem dX0_lay_39 : decode cX0_lay 39 = .ok (.getfield 34, 3) := kt_o180 (j := 39) sX0_lay_0 rfl rfl
theorem dX0_lay_42 : decode cX0_lay 42 = .ok (.if_icmp .ge 216, 3) := kt_o162 (j := 42) sX0_lay_0 rfl (by decide +kernel)
theorem dX0_lay_45 : decode cX0_lay 45 = .ok (.iload_n 3, 1) := kt_o29 (j := 45) sX0_lay_0 rfl
theorem dX0_lay_46 : decode cX0_lay 46 = .ok (.aload_n 1, 1) := kt_o43 (j := 46) sX0_lay_0 rfl
theorem dX0_lay_47 : decode cX0_lay 47 = .ok (.getfield 34, 3) := kt_o180 (j := 47) sX0_lay_0 rfl rfl
theorem dX0_lay_50 : decode cX0_lay 50 = .ok (.imul, 1) := kt_o104 (j := 50) sX0_lay_0 rfl
theorem dX0_lay_51 : decode cX0_lay 51 = .ok (.iload 4, 2) := kt_o21 (j := 51) sX0_lay_0 rfl
theorem dX0_lay_53 : decode cX0_lay 53 = .ok (.iadd, 1) := kt_o96 (j := 53) sX0_lay_0 rfl
theorem dX0_lay_54 : decode cX0_lay 54 = .ok (.istore 5, 2) := kt_o54 (j := 54) sX0_lay_0 rfl
theorem dX0_lay_56 : decode cX0_lay 56 = .ok (.iload_n 3, 1) := kt_o29 (j := 56) sX0_lay_0 rfl
theorem dX0_lay_57 : decode cX0_lay 57 = .ok (.ifCond .eq 29, 3) := kt_o153 (j := 57) sX0_lay_0 rfl (by decide +kernel)
theorem dX0_lay_60 : decode cX0_lay 60 = .ok (.iload 4, 2) := kt_o21 (j := 60) sX0_lay_0 rfl
theorem dX0_lay_62 : decode cX0_lay 62 = .ok (.ifCond .eq 24, 3) := kt_o153 (j := 62) sX0_lay_0 rfl (by decide +kernel)
theorem sX0_lay_65 : kt_sg cX0_lay 65 [29, 43, 180, 0, 31, 4, 100, 159, 0, 14, 21, 4, 43, 180, 0, 34, 4, 100, 160, 0, 7, 4, 167, 0, 4, 3, 54, 6, 42, 180, 0, 9, 21, 5, 43, 180, 0, 40, 21, 5, 46, 184, 0, 43, 79, 42, 180, 0, 15, 21, 5, 28, 154, 0, 22, 42, 180, 0, 9, 21, 5, 46, 5, 160, 0, 7] = true := by decide +kernel
theorem dX0_lay_65 : decode cX0_lay 65 = .ok (.iload_n 3, 1) := kt_o29 (j := 0) sX0_lay_65 rfl
theorem dX0_lay_66 : decode cX0_lay 66 = .ok (.aload_n 1, 1) := kt_o43 (j := 1) sX0_lay_65 rfl
theorem dX0_lay_67 : decode cX0_lay 67 = .ok (.getfield 31, 3) := kt_o180 (j := 2) sX0_lay_65 rfl rfl
theorem dX0_lay_70 : decode cX0_lay 70 = .ok (.iconst 1, 1) := kt_o4 (j := 5) sX0_lay_65 rfl
theorem dX0_lay_71 : decode cX0_lay 71 = .ok (.isub, 1) := kt_o100 (j := 6) sX0_lay_65 rfl
theorem dX0_lay_72 : decode cX0_lay 72 = .ok (.if_icmp .eq 14, 3) := kt_o159 (j := 7) sX0_lay_65 rfl (by decide +kernel)
theorem dX0_lay_75 : decode cX0_lay 75 = .ok (.iload 4, 2) := kt_o21 (j := 10) sX0_lay_65 rfl
theorem dX0_lay_77 : decode cX0_lay 77 = .ok (.aload_n 1, 1) := kt_o43 (j := 12) sX0_lay_65 rfl
theorem dX0_lay_78 : decode cX0_lay 78 = .ok (.getfield 34, 3) := kt_o180 (j := 13) sX0_lay_65 rfl rfl
theorem dX0_lay_81 : decode cX0_lay 81 = .ok (.iconst 1, 1) := kt_o4 (j := 16) sX0_lay_65 rfl
theorem dX0_lay_82 : decode cX0_lay 82 = .ok (.isub, 1) := kt_o100 (j := 17) sX0_lay_65 rfl
theorem dX0_lay_83 : decode cX0_lay 83 = .ok (.if_icmp .ne 7, 3) := kt_o160 (j := 18) sX0_lay_65 rfl (by decide +kernel)
theorem dX0_lay_86 : decode cX0_lay 86 = .ok (.iconst 1, 1) := kt_o4 (j := 21) sX0_lay_65 rfl
theorem dX0_lay_87 : decode cX0_lay 87 = .ok (.goto 4, 3) := kt_o167 (j := 22) sX0_lay_65 rfl (by decide +kernel)
theorem dX0_lay_90 : decode cX0_lay 90 = .ok (.iconst 0, 1) := kt_o3 (j := 25) sX0_lay_65 rfl
theorem dX0_lay_91 : decode cX0_lay 91 = .ok (.istore 6, 2) := kt_o54 (j := 26) sX0_lay_65 rfl
theorem dX0_lay_93 : decode cX0_lay 93 = .ok (.aload_n 0, 1) := kt_o42 (j := 28) sX0_lay_65 rfl
theorem dX0_lay_94 : decode cX0_lay 94 = .ok (.getfield 9, 3) := kt_o180 (j := 29) sX0_lay_65 rfl rfl
theorem dX0_lay_97 : decode cX0_lay 97 = .ok (.iload 5, 2) := kt_o21 (j := 32) sX0_lay_65 rfl
theorem dX0_lay_99 : decode cX0_lay 99 = .ok (.aload_n 1, 1) := kt_o43 (j := 34) sX0_lay_65 rfl
theorem dX0_lay_100 : decode cX0_lay 100 = .ok (.getfield 40, 3) := kt_o180 (j := 35) sX0_lay_65 rfl rfl
theorem dX0_lay_103 : decode cX0_lay 103 = .ok (.iload 5, 2) := kt_o21 (j := 38) sX0_lay_65 rfl
theorem dX0_lay_105 : decode cX0_lay 105 = .ok (.iaload, 1) := kt_o46 (j := 40) sX0_lay_65 rfl
theorem dX0_lay_106 : decode cX0_lay 106 = .ok (.invokestatic 43, 3) := kt_o184 (j := 41) sX0_lay_65 rfl rfl
theorem dX0_lay_109 : decode cX0_lay 109 = .ok (.iastore, 1) := kt_o79 (j := 44) sX0_lay_65 rfl
theorem dX0_lay_110 : decode cX0_lay 110 = .ok (.aload_n 0, 1) := kt_o42 (j := 45) sX0_lay_65 rfl
theorem dX0_lay_111 : decode cX0_lay 111 = .ok (.getfield 15, 3) := kt_o180 (j := 46) sX0_lay_65 rfl rfl
theorem dX0_lay_114 : decode cX0_lay 114 = .ok (.iload 5, 2) := kt_o21 (j := 49) sX0_lay_65 rfl
theorem dX0_lay_116 : decode cX0_lay 116 = .ok (.iload_n 2, 1) := kt_o28 (j := 51) sX0_lay_65 rfl
theorem dX0_lay_117 : decode cX0_lay 117 = .ok (.ifCond .ne 22, 3) := kt_o154 (j := 52) sX0_lay_65 rfl (by decide +kernel)
theorem dX0_lay_120 : decode cX0_lay 120 = .ok (.aload_n 0, 1) := kt_o42 (j := 55) sX0_lay_65 rfl
theorem dX0_lay_121 : decode cX0_lay 121 = .ok (.getfield 9, 3) := kt_o180 (j := 56) sX0_lay_65 rfl rfl
theorem dX0_lay_124 : decode cX0_lay 124 = .ok (.iload 5, 2) := kt_o21 (j := 59) sX0_lay_65 rfl
theorem dX0_lay_126 : decode cX0_lay 126 = .ok (.iaload, 1) := kt_o46 (j := 61) sX0_lay_65 rfl
theorem dX0_lay_127 : decode cX0_lay 127 = .ok (.iconst 2, 1) := kt_o5 (j := 62) sX0_lay_65 rfl
theorem dX0_lay_128 : decode cX0_lay 128 = .ok (.if_icmp .ne 7, 3) := kt_o160 (j := 63) sX0_lay_65 rfl (by decide +kernel)
theorem sX0_lay_131 : kt_sg cX0_lay 131 [4, 167, 0, 9, 3, 167, 0, 5, 21, 6, 84, 42, 180, 0, 19, 21, 5, 7, 104, 29, 158, 0, 13, 21, 5, 43, 180, 0, 34, 100, 167, 0, 4, 2, 79, 42, 180, 0, 19, 21, 5, 7, 104, 4, 96, 21, 4, 43, 180, 0, 34, 4, 100, 162, 0, 10, 21, 5, 4, 96, 167, 0, 4, 2] = true := by decide +kernel
theorem dX0_lay_131 : decode cX0_lay 131 = .ok (.iconst 1, 1) := kt_o4 (j := 0) sX0_lay_131 rfl
theorem dX0_lay_132 : decode cX0_lay 132 = .ok (.goto 9, 3) := kt_o167 (j := 1) sX0_lay_131 rfl (by decide +kernel)
theorem dX0_lay_135 : decode cX0_lay 135 = .ok (.iconst 0, 1) := kt_o3 (j := 4) sX0_lay_131 rfl
theorem dX0_lay_136 : decode cX0_lay 136 = .ok (.goto 5, 3) := kt_o167 (j := 5) sX0_lay_131 rfl (by decide +kernel)
theorem dX0_lay_139 : decode cX0_lay 139 = .ok (.iload 6, 2) := kt_o21 (j := 8) sX0_lay_131 rfl
theorem dX0_lay_141 : decode cX0_lay 141 = .ok (.bastore, 1) := kt_o84 (j := 10) sX0_lay_131 rfl
theorem dX0_lay_142 : decode cX0_lay 142 = .ok (.aload_n 0, 1) := kt_o42 (j := 11) sX0_lay_131 rfl
theorem dX0_lay_143 : decode cX0_lay 143 = .ok (.getfield 19, 3) := kt_o180 (j := 12) sX0_lay_131 rfl rfl
theorem dX0_lay_146 : decode cX0_lay 146 = .ok (.iload 5, 2) := kt_o21 (j := 15) sX0_lay_131 rfl
theorem dX0_lay_148 : decode cX0_lay 148 = .ok (.iconst 4, 1) := kt_o7 (j := 17) sX0_lay_131 rfl
theorem dX0_lay_149 : decode cX0_lay 149 = .ok (.imul, 1) := kt_o104 (j := 18) sX0_lay_131 rfl
theorem dX0_lay_150 : decode cX0_lay 150 = .ok (.iload_n 3, 1) := kt_o29 (j := 19) sX0_lay_131 rfl
theorem dX0_lay_151 : decode cX0_lay 151 = .ok (.ifCond .le 13, 3) := kt_o158 (j := 20) sX0_lay_131 rfl (by decide +kernel)
theorem dX0_lay_154 : decode cX0_lay 154 = .ok (.iload 5, 2) := kt_o21 (j := 23) sX0_lay_131 rfl
theorem dX0_lay_156 : decode cX0_lay 156 = .ok (.aload_n 1, 1) := kt_o43 (j := 25) sX0_lay_131 rfl
theorem dX0_lay_157 : decode cX0_lay 157 = .ok (.getfield 34, 3) := kt_o180 (j := 26) sX0_lay_131 rfl rfl
theorem dX0_lay_160 : decode cX0_lay 160 = .ok (.isub, 1) := kt_o100 (j := 29) sX0_lay_131 rfl
theorem dX0_lay_161 : decode cX0_lay 161 = .ok (.goto 4, 3) := kt_o167 (j := 30) sX0_lay_131 rfl (by decide +kernel)
theorem dX0_lay_164 : decode cX0_lay 164 = .ok (.iconst (-1), 1) := kt_o2 (j := 33) sX0_lay_131 rfl
theorem dX0_lay_165 : decode cX0_lay 165 = .ok (.iastore, 1) := kt_o79 (j := 34) sX0_lay_131 rfl
theorem dX0_lay_166 : decode cX0_lay 166 = .ok (.aload_n 0, 1) := kt_o42 (j := 35) sX0_lay_131 rfl
theorem dX0_lay_167 : decode cX0_lay 167 = .ok (.getfield 19, 3) := kt_o180 (j := 36) sX0_lay_131 rfl rfl
theorem dX0_lay_170 : decode cX0_lay 170 = .ok (.iload 5, 2) := kt_o21 (j := 39) sX0_lay_131 rfl
theorem dX0_lay_172 : decode cX0_lay 172 = .ok (.iconst 4, 1) := kt_o7 (j := 41) sX0_lay_131 rfl
theorem dX0_lay_173 : decode cX0_lay 173 = .ok (.imul, 1) := kt_o104 (j := 42) sX0_lay_131 rfl
theorem dX0_lay_174 : decode cX0_lay 174 = .ok (.iconst 1, 1) := kt_o4 (j := 43) sX0_lay_131 rfl
theorem dX0_lay_175 : decode cX0_lay 175 = .ok (.iadd, 1) := kt_o96 (j := 44) sX0_lay_131 rfl
theorem dX0_lay_176 : decode cX0_lay 176 = .ok (.iload 4, 2) := kt_o21 (j := 45) sX0_lay_131 rfl
theorem dX0_lay_178 : decode cX0_lay 178 = .ok (.aload_n 1, 1) := kt_o43 (j := 47) sX0_lay_131 rfl
theorem dX0_lay_179 : decode cX0_lay 179 = .ok (.getfield 34, 3) := kt_o180 (j := 48) sX0_lay_131 rfl rfl
theorem dX0_lay_182 : decode cX0_lay 182 = .ok (.iconst 1, 1) := kt_o4 (j := 51) sX0_lay_131 rfl
theorem dX0_lay_183 : decode cX0_lay 183 = .ok (.isub, 1) := kt_o100 (j := 52) sX0_lay_131 rfl
theorem dX0_lay_184 : decode cX0_lay 184 = .ok (.if_icmp .ge 10, 3) := kt_o162 (j := 53) sX0_lay_131 rfl (by decide +kernel)
theorem dX0_lay_187 : decode cX0_lay 187 = .ok (.iload 5, 2) := kt_o21 (j := 56) sX0_lay_131 rfl
theorem dX0_lay_189 : decode cX0_lay 189 = .ok (.iconst 1, 1) := kt_o4 (j := 58) sX0_lay_131 rfl
theorem dX0_lay_190 : decode cX0_lay 190 = .ok (.iadd, 1) := kt_o96 (j := 59) sX0_lay_131 rfl
theorem dX0_lay_191 : decode cX0_lay 191 = .ok (.goto 4, 3) := kt_o167 (j := 60) sX0_lay_131 rfl (by decide +kernel)
theorem dX0_lay_194 : decode cX0_lay 194 = .ok (.iconst (-1), 1) := kt_o2 (j := 63) sX0_lay_131 rfl
theorem sX0_lay_195 : kt_sg cX0_lay 195 [79, 42, 180, 0, 19, 21, 5, 7, 104, 5, 96, 29, 43, 180, 0, 31, 4, 100, 162, 0, 13, 21, 5, 43, 180, 0, 34, 96, 167, 0, 4, 2, 79, 42, 180, 0, 19, 21, 5, 7, 104, 6, 96, 21, 4, 158, 0, 10, 21, 5, 4, 100, 167, 0, 4, 2, 79, 132, 4, 1, 167, 255, 37, 132, 3, 1] = true := by decide +kernel
theorem dX0_lay_195 : decode cX0_lay 195 = .ok (.iastore, 1) := kt_o79 (j := 0) sX0_lay_195 rfl
theorem dX0_lay_196 : decode cX0_lay 196 = .ok (.aload_n 0, 1) := kt_o42 (j := 1) sX0_lay_195 rfl
theorem dX0_lay_197 : decode cX0_lay 197 = .ok (.getfield 19, 3) := kt_o180 (j := 2) sX0_lay_195 rfl rfl
theorem dX0_lay_200 : decode cX0_lay 200 = .ok (.iload 5, 2) := kt_o21 (j := 5) sX0_lay_195 rfl
theorem dX0_lay_202 : decode cX0_lay 202 = .ok (.iconst 4, 1) := kt_o7 (j := 7) sX0_lay_195 rfl
theorem dX0_lay_203 : decode cX0_lay 203 = .ok (.imul, 1) := kt_o104 (j := 8) sX0_lay_195 rfl
theorem dX0_lay_204 : decode cX0_lay 204 = .ok (.iconst 2, 1) := kt_o5 (j := 9) sX0_lay_195 rfl
theorem dX0_lay_205 : decode cX0_lay 205 = .ok (.iadd, 1) := kt_o96 (j := 10) sX0_lay_195 rfl
theorem dX0_lay_206 : decode cX0_lay 206 = .ok (.iload_n 3, 1) := kt_o29 (j := 11) sX0_lay_195 rfl
theorem dX0_lay_207 : decode cX0_lay 207 = .ok (.aload_n 1, 1) := kt_o43 (j := 12) sX0_lay_195 rfl
theorem dX0_lay_208 : decode cX0_lay 208 = .ok (.getfield 31, 3) := kt_o180 (j := 13) sX0_lay_195 rfl rfl
theorem dX0_lay_211 : decode cX0_lay 211 = .ok (.iconst 1, 1) := kt_o4 (j := 16) sX0_lay_195 rfl
theorem dX0_lay_212 : decode cX0_lay 212 = .ok (.isub, 1) := kt_o100 (j := 17) sX0_lay_195 rfl
theorem dX0_lay_213 : decode cX0_lay 213 = .ok (.if_icmp .ge 13, 3) := kt_o162 (j := 18) sX0_lay_195 rfl (by decide +kernel)
theorem dX0_lay_216 : decode cX0_lay 216 = .ok (.iload 5, 2) := kt_o21 (j := 21) sX0_lay_195 rfl
theorem dX0_lay_218 : decode cX0_lay 218 = .ok (.aload_n 1, 1) := kt_o43 (j := 23) sX0_lay_195 rfl
theorem dX0_lay_219 : decode cX0_lay 219 = .ok (.getfield 34, 3) := kt_o180 (j := 24) sX0_lay_195 rfl rfl
theorem dX0_lay_222 : decode cX0_lay 222 = .ok (.iadd, 1) := kt_o96 (j := 27) sX0_lay_195 rfl
theorem dX0_lay_223 : decode cX0_lay 223 = .ok (.goto 4, 3) := kt_o167 (j := 28) sX0_lay_195 rfl (by decide +kernel)
theorem dX0_lay_226 : decode cX0_lay 226 = .ok (.iconst (-1), 1) := kt_o2 (j := 31) sX0_lay_195 rfl
theorem dX0_lay_227 : decode cX0_lay 227 = .ok (.iastore, 1) := kt_o79 (j := 32) sX0_lay_195 rfl
theorem dX0_lay_228 : decode cX0_lay 228 = .ok (.aload_n 0, 1) := kt_o42 (j := 33) sX0_lay_195 rfl
theorem dX0_lay_229 : decode cX0_lay 229 = .ok (.getfield 19, 3) := kt_o180 (j := 34) sX0_lay_195 rfl rfl
theorem dX0_lay_232 : decode cX0_lay 232 = .ok (.iload 5, 2) := kt_o21 (j := 37) sX0_lay_195 rfl
theorem dX0_lay_234 : decode cX0_lay 234 = .ok (.iconst 4, 1) := kt_o7 (j := 39) sX0_lay_195 rfl
theorem dX0_lay_235 : decode cX0_lay 235 = .ok (.imul, 1) := kt_o104 (j := 40) sX0_lay_195 rfl
theorem dX0_lay_236 : decode cX0_lay 236 = .ok (.iconst 3, 1) := kt_o6 (j := 41) sX0_lay_195 rfl
theorem dX0_lay_237 : decode cX0_lay 237 = .ok (.iadd, 1) := kt_o96 (j := 42) sX0_lay_195 rfl
theorem dX0_lay_238 : decode cX0_lay 238 = .ok (.iload 4, 2) := kt_o21 (j := 43) sX0_lay_195 rfl
theorem dX0_lay_240 : decode cX0_lay 240 = .ok (.ifCond .le 10, 3) := kt_o158 (j := 45) sX0_lay_195 rfl (by decide +kernel)
theorem dX0_lay_243 : decode cX0_lay 243 = .ok (.iload 5, 2) := kt_o21 (j := 48) sX0_lay_195 rfl
theorem dX0_lay_245 : decode cX0_lay 245 = .ok (.iconst 1, 1) := kt_o4 (j := 50) sX0_lay_195 rfl
theorem dX0_lay_246 : decode cX0_lay 246 = .ok (.isub, 1) := kt_o100 (j := 51) sX0_lay_195 rfl
theorem dX0_lay_247 : decode cX0_lay 247 = .ok (.goto 4, 3) := kt_o167 (j := 52) sX0_lay_195 rfl (by decide +kernel)
theorem dX0_lay_250 : decode cX0_lay 250 = .ok (.iconst (-1), 1) := kt_o2 (j := 55) sX0_lay_195 rfl
theorem dX0_lay_251 : decode cX0_lay 251 = .ok (.iastore, 1) := kt_o79 (j := 56) sX0_lay_195 rfl
theorem dX0_lay_252 : decode cX0_lay 252 = .ok (.iinc 4 1, 3) := kt_o132 (j := 57) sX0_lay_195 rfl (by decide +kernel)
theorem dX0_lay_255 : decode cX0_lay 255 = .ok (.goto (-219), 3) := kt_o167 (j := 60) sX0_lay_195 rfl (by decide +kernel)
theorem dX0_lay_258 : decode cX0_lay 258 = .ok (.iinc 3 1, 3) := kt_o132 (j := 63) sX0_lay_195 rfl (by decide +kernel)
theorem sX0_lay_261 : kt_sg cX0_lay 261 [167, 255, 20, 177] = true := by decide +kernel
theorem dX0_lay_261 : decode cX0_lay 261 = .ok (.goto (-236), 3) := kt_o167 (j := 0) sX0_lay_261 rfl (by decide +kernel)
theorem dX0_lay_264 : decode cX0_lay 264 = .ok (.return_, 1) := kt_o177 (j := 3) sX0_lay_261 rfl
theorem sX0_beside_0 : kt_sg cX0_beside 0 [27, 155, 0, 24, 27, 42, 180, 0, 28, 162, 0, 16, 28, 155, 0, 12, 28, 7, 162, 0, 7, 4, 167, 0, 4, 3, 62, 29, 153, 0, 16, 42, 180, 0, 19, 27, 7, 104, 28, 96, 46, 167, 0, 4, 2, 172] = true := by decide +kernel
theorem dX0_beside_0 : decode cX0_beside 0 = .ok (.iload_n 1, 1) := kt_o27 (j := 0) sX0_beside_0 rfl
theorem dX0_beside_1 : decode cX0_beside 1 = .ok (.ifCond .lt 24, 3) := kt_o155 (j := 1) sX0_beside_0 rfl (by decide +kernel)
theorem dX0_beside_4 : decode cX0_beside 4 = .ok (.iload_n 1, 1) := kt_o27 (j := 4) sX0_beside_0 rfl
theorem dX0_beside_5 : decode cX0_beside 5 = .ok (.aload_n 0, 1) := kt_o42 (j := 5) sX0_beside_0 rfl
theorem dX0_beside_6 : decode cX0_beside 6 = .ok (.getfield 28, 3) := kt_o180 (j := 6) sX0_beside_0 rfl rfl
theorem dX0_beside_9 : decode cX0_beside 9 = .ok (.if_icmp .ge 16, 3) := kt_o162 (j := 9) sX0_beside_0 rfl (by decide +kernel)
theorem dX0_beside_12 : decode cX0_beside 12 = .ok (.iload_n 2, 1) := kt_o28 (j := 12) sX0_beside_0 rfl
theorem dX0_beside_13 : decode cX0_beside 13 = .ok (.ifCond .lt 12, 3) := kt_o155 (j := 13) sX0_beside_0 rfl (by decide +kernel)
theorem dX0_beside_16 : decode cX0_beside 16 = .ok (.iload_n 2, 1) := kt_o28 (j := 16) sX0_beside_0 rfl
theorem dX0_beside_17 : decode cX0_beside 17 = .ok (.iconst 4, 1) := kt_o7 (j := 17) sX0_beside_0 rfl
theorem dX0_beside_18 : decode cX0_beside 18 = .ok (.if_icmp .ge 7, 3) := kt_o162 (j := 18) sX0_beside_0 rfl (by decide +kernel)
theorem dX0_beside_21 : decode cX0_beside 21 = .ok (.iconst 1, 1) := kt_o4 (j := 21) sX0_beside_0 rfl
theorem dX0_beside_22 : decode cX0_beside 22 = .ok (.goto 4, 3) := kt_o167 (j := 22) sX0_beside_0 rfl (by decide +kernel)
theorem dX0_beside_25 : decode cX0_beside 25 = .ok (.iconst 0, 1) := kt_o3 (j := 25) sX0_beside_0 rfl
theorem dX0_beside_26 : decode cX0_beside 26 = .ok (.istore_n 3, 1) := kt_o62 (j := 26) sX0_beside_0 rfl
theorem dX0_beside_27 : decode cX0_beside 27 = .ok (.iload_n 3, 1) := kt_o29 (j := 27) sX0_beside_0 rfl
theorem dX0_beside_28 : decode cX0_beside 28 = .ok (.ifCond .eq 16, 3) := kt_o153 (j := 28) sX0_beside_0 rfl (by decide +kernel)
theorem dX0_beside_31 : decode cX0_beside 31 = .ok (.aload_n 0, 1) := kt_o42 (j := 31) sX0_beside_0 rfl
theorem dX0_beside_32 : decode cX0_beside 32 = .ok (.getfield 19, 3) := kt_o180 (j := 32) sX0_beside_0 rfl rfl
theorem dX0_beside_35 : decode cX0_beside 35 = .ok (.iload_n 1, 1) := kt_o27 (j := 35) sX0_beside_0 rfl
theorem dX0_beside_36 : decode cX0_beside 36 = .ok (.iconst 4, 1) := kt_o7 (j := 36) sX0_beside_0 rfl
theorem dX0_beside_37 : decode cX0_beside 37 = .ok (.imul, 1) := kt_o104 (j := 37) sX0_beside_0 rfl
theorem dX0_beside_38 : decode cX0_beside 38 = .ok (.iload_n 2, 1) := kt_o28 (j := 38) sX0_beside_0 rfl
theorem dX0_beside_39 : decode cX0_beside 39 = .ok (.iadd, 1) := kt_o96 (j := 39) sX0_beside_0 rfl
theorem dX0_beside_40 : decode cX0_beside 40 = .ok (.iaload, 1) := kt_o46 (j := 40) sX0_beside_0 rfl
theorem dX0_beside_41 : decode cX0_beside 41 = .ok (.goto 4, 3) := kt_o167 (j := 41) sX0_beside_0 rfl (by decide +kernel)
theorem dX0_beside_44 : decode cX0_beside 44 = .ok (.iconst (-1), 1) := kt_o2 (j := 44) sX0_beside_0 rfl
theorem dX0_beside_45 : decode cX0_beside 45 = .ok (.ireturn, 1) := kt_o172 (j := 45) sX0_beside_0 rfl
theorem kt_wp_X0_away__X00 {w : Cond} (h : w ∈ wsX00) : w ∈ wsX0_away := List.mem_cons_of_mem _ (List.mem_append_right _ (h))
set_option maxRecDepth 20000 in
theorem kt_wg_X0_beside : wsX0_beside.all goodWord = true := by decide +kernel
set_option maxRecDepth 20000 in
theorem ggX0_away_X0_beside : GoodIn wsX0_away wsX0_beside := goodIn_sub (kt_wf1 (List.mem_cons_of_mem _ (List.mem_append_left _ (List.mem_cons_of_mem _ (List.mem_cons_of_mem _ (List.mem_cons_of_mem _ (List.mem_cons_of_mem _ (List.Mem.head _))))))) (kt_wfa (kt_wf1 (List.mem_cons_of_mem _ (List.mem_append_left _ (List.mem_cons_of_mem _ (List.mem_cons_of_mem _ (List.mem_cons_of_mem _ (List.mem_cons_of_mem _ (List.mem_cons_of_mem _ (List.Mem.head _)))))))) (kt_wf1 (List.mem_cons_of_mem _ (List.mem_append_left _ (List.mem_cons_of_mem _ (List.mem_cons_of_mem _ (List.mem_cons_of_mem _ (List.mem_cons_of_mem _ (List.mem_cons_of_mem _ (List.mem_cons_of_mem _ (List.Mem.head _))))))))) kt_wf0)) (fun _ h => kt_wp_X0_away__X00 h))) kt_wg_X0_beside
set_option maxRecDepth 20000 in
theorem gX0_away_X0_beside : GoodIn wsX0_away (wsV RX0 47 RX0 yX0_beside wsX0_beside) := goodIn_app (a := [.methodLink RX0 47 yX0_beside, .instanceMethod yX0_beside, .selects RX0 yX0_beside yX0_beside, .initialized RX0]) (goodIn_sub (kt_wf1 (List.mem_cons_of_mem _ (List.mem_append_left _ (List.Mem.head _))) (kt_wf1 (List.mem_cons_of_mem _ (List.mem_append_left _ (List.mem_cons_of_mem _ (List.Mem.head _)))) (kt_wf1 (List.mem_cons_of_mem _ (List.mem_append_left _ (List.mem_cons_of_mem _ (List.mem_cons_of_mem _ (List.Mem.head _))))) (kt_wf1 (List.mem_cons_of_mem _ (List.mem_append_left _ (List.mem_cons_of_mem _ (List.mem_cons_of_mem _ (List.mem_cons_of_mem _ (List.Mem.head _)))))) kt_wf0)))) (by decide +kernel)) ggX0_away_X0_beside
theorem sX0_away_0 : kt_sg cX0_away 0 [29, 16, 9, 161, 0, 5, 2, 172, 27, 54, 4, 3, 54, 5, 21, 5, 29, 162, 0, 18, 42, 21, 4, 28, 182, 0, 47, 54, 4, 132, 5, 1, 167, 255, 238, 21, 4, 172] = true := by decide +kernel
theorem dX0_away_0 : decode cX0_away 0 = .ok (.iload_n 3, 1) := kt_o29 (j := 0) sX0_away_0 rfl
theorem dX0_away_1 : decode cX0_away 1 = .ok (.bipush 9, 2) := kt_o16 (j := 1) sX0_away_0 rfl (by decide +kernel)
theorem dX0_away_3 : decode cX0_away 3 = .ok (.if_icmp .lt 5, 3) := kt_o161 (j := 3) sX0_away_0 rfl (by decide +kernel)
theorem dX0_away_6 : decode cX0_away 6 = .ok (.iconst (-1), 1) := kt_o2 (j := 6) sX0_away_0 rfl
theorem dX0_away_7 : decode cX0_away 7 = .ok (.ireturn, 1) := kt_o172 (j := 7) sX0_away_0 rfl
theorem dX0_away_8 : decode cX0_away 8 = .ok (.iload_n 1, 1) := kt_o27 (j := 8) sX0_away_0 rfl
theorem dX0_away_9 : decode cX0_away 9 = .ok (.istore 4, 2) := kt_o54 (j := 9) sX0_away_0 rfl
theorem dX0_away_11 : decode cX0_away 11 = .ok (.iconst 0, 1) := kt_o3 (j := 11) sX0_away_0 rfl
theorem dX0_away_12 : decode cX0_away 12 = .ok (.istore 5, 2) := kt_o54 (j := 12) sX0_away_0 rfl
theorem dX0_away_14 : decode cX0_away 14 = .ok (.iload 5, 2) := kt_o21 (j := 14) sX0_away_0 rfl
theorem dX0_away_16 : decode cX0_away 16 = .ok (.iload_n 3, 1) := kt_o29 (j := 16) sX0_away_0 rfl
theorem dX0_away_17 : decode cX0_away 17 = .ok (.if_icmp .ge 18, 3) := kt_o162 (j := 17) sX0_away_0 rfl (by decide +kernel)
theorem dX0_away_20 : decode cX0_away 20 = .ok (.aload_n 0, 1) := kt_o42 (j := 20) sX0_away_0 rfl
theorem dX0_away_21 : decode cX0_away 21 = .ok (.iload 4, 2) := kt_o21 (j := 21) sX0_away_0 rfl
theorem dX0_away_23 : decode cX0_away 23 = .ok (.iload_n 2, 1) := kt_o28 (j := 23) sX0_away_0 rfl
theorem dX0_away_24 : decode cX0_away 24 = .ok (.invokevirtual 47, 3) := kt_o182 (j := 24) sX0_away_0 rfl rfl
theorem dX0_away_27 : decode cX0_away 27 = .ok (.istore 4, 2) := kt_o54 (j := 27) sX0_away_0 rfl
theorem dX0_away_29 : decode cX0_away 29 = .ok (.iinc 5 1, 3) := kt_o132 (j := 29) sX0_away_0 rfl (by decide +kernel)
theorem dX0_away_32 : decode cX0_away 32 = .ok (.goto (-18), 3) := kt_o167 (j := 32) sX0_away_0 rfl (by decide +kernel)
theorem dX0_away_35 : decode cX0_away 35 = .ok (.iload 4, 2) := kt_o21 (j := 35) sX0_away_0 rfl
theorem dX0_away_37 : decode cX0_away 37 = .ok (.ireturn, 1) := kt_o172 (j := 37) sX0_away_0 rfl
theorem sX1_init_0 : kt_sg cX1_init 0 [42, 183, 0, 1, 42, 3, 181, 0, 7, 42, 7, 181, 0, 13, 42, 4, 181, 0, 16, 42, 3, 181, 0, 20, 42, 3, 181, 0, 23, 177] = true := by decide +kernel
theorem dX1_init_0 : decode cX1_init 0 = .ok (.aload_n 0, 1) := kt_o42 (j := 0) sX1_init_0 rfl
theorem dX1_init_1 : decode cX1_init 1 = .ok (.invokespecial 1, 3) := kt_o183 (j := 1) sX1_init_0 rfl rfl
theorem dX1_init_4 : decode cX1_init 4 = .ok (.aload_n 0, 1) := kt_o42 (j := 4) sX1_init_0 rfl
theorem dX1_init_5 : decode cX1_init 5 = .ok (.iconst 0, 1) := kt_o3 (j := 5) sX1_init_0 rfl
theorem dX1_init_6 : decode cX1_init 6 = .ok (.putfield 7, 3) := kt_o181 (j := 6) sX1_init_0 rfl rfl
theorem dX1_init_9 : decode cX1_init 9 = .ok (.aload_n 0, 1) := kt_o42 (j := 9) sX1_init_0 rfl
theorem dX1_init_10 : decode cX1_init 10 = .ok (.iconst 4, 1) := kt_o7 (j := 10) sX1_init_0 rfl
theorem dX1_init_11 : decode cX1_init 11 = .ok (.putfield 13, 3) := kt_o181 (j := 11) sX1_init_0 rfl rfl
theorem dX1_init_14 : decode cX1_init 14 = .ok (.aload_n 0, 1) := kt_o42 (j := 14) sX1_init_0 rfl
theorem dX1_init_15 : decode cX1_init 15 = .ok (.iconst 1, 1) := kt_o4 (j := 15) sX1_init_0 rfl
theorem dX1_init_16 : decode cX1_init 16 = .ok (.putfield 16, 3) := kt_o181 (j := 16) sX1_init_0 rfl rfl
theorem dX1_init_19 : decode cX1_init 19 = .ok (.aload_n 0, 1) := kt_o42 (j := 19) sX1_init_0 rfl
theorem dX1_init_20 : decode cX1_init 20 = .ok (.iconst 0, 1) := kt_o3 (j := 20) sX1_init_0 rfl
theorem dX1_init_21 : decode cX1_init 21 = .ok (.putfield 20, 3) := kt_o181 (j := 21) sX1_init_0 rfl rfl
theorem dX1_init_24 : decode cX1_init 24 = .ok (.aload_n 0, 1) := kt_o42 (j := 24) sX1_init_0 rfl
theorem dX1_init_25 : decode cX1_init 25 = .ok (.iconst 0, 1) := kt_o3 (j := 25) sX1_init_0 rfl
theorem dX1_init_26 : decode cX1_init 26 = .ok (.putfield 23, 3) := kt_o181 (j := 26) sX1_init_0 rfl rfl
theorem dX1_init_29 : decode cX1_init 29 = .ok (.return_, 1) := kt_o177 (j := 29) sX1_init_0 rfl
theorem sX1_change_0 : kt_sg cX1_change 0 [27, 153, 0, 8, 27, 4, 160, 0, 40, 28, 5, 159, 0, 8, 28, 7, 160, 0, 30, 21, 4, 155, 0, 25, 21, 4, 16, 8, 163, 0, 18, 21, 5, 153, 0, 9, 21, 5, 4, 160, 0, 7, 4, 167, 0, 4, 3, 54, 6, 21, 6, 154, 0, 5, 3, 172, 42, 27, 181, 0, 7, 42, 28, 181, 0, 13] = true := by decide +kernel
theorem dX1_change_0 : decode cX1_change 0 = .ok (.iload_n 1, 1) := kt_o27 (j := 0) sX1_change_0 rfl
theorem dX1_change_1 : decode cX1_change 1 = .ok (.ifCond .eq 8, 3) := kt_o153 (j := 1) sX1_change_0 rfl (by decide +kernel)
theorem dX1_change_4 : decode cX1_change 4 = .ok (.iload_n 1, 1) := kt_o27 (j := 4) sX1_change_0 rfl
theorem dX1_change_5 : decode cX1_change 5 = .ok (.iconst 1, 1) := kt_o4 (j := 5) sX1_change_0 rfl
theorem dX1_change_6 : decode cX1_change 6 = .ok (.if_icmp .ne 40, 3) := kt_o160 (j := 6) sX1_change_0 rfl (by decide +kernel)
theorem dX1_change_9 : decode cX1_change 9 = .ok (.iload_n 2, 1) := kt_o28 (j := 9) sX1_change_0 rfl
theorem dX1_change_10 : decode cX1_change 10 = .ok (.iconst 2, 1) := kt_o5 (j := 10) sX1_change_0 rfl
theorem dX1_change_11 : decode cX1_change 11 = .ok (.if_icmp .eq 8, 3) := kt_o159 (j := 11) sX1_change_0 rfl (by decide +kernel)
theorem dX1_change_14 : decode cX1_change 14 = .ok (.iload_n 2, 1) := kt_o28 (j := 14) sX1_change_0 rfl
theorem dX1_change_15 : decode cX1_change 15 = .ok (.iconst 4, 1) := kt_o7 (j := 15) sX1_change_0 rfl
theorem dX1_change_16 : decode cX1_change 16 = .ok (.if_icmp .ne 30, 3) := kt_o160 (j := 16) sX1_change_0 rfl (by decide +kernel)
theorem dX1_change_19 : decode cX1_change 19 = .ok (.iload 4, 2) := kt_o21 (j := 19) sX1_change_0 rfl
theorem dX1_change_21 : decode cX1_change 21 = .ok (.ifCond .lt 25, 3) := kt_o155 (j := 21) sX1_change_0 rfl (by decide +kernel)
theorem dX1_change_24 : decode cX1_change 24 = .ok (.iload 4, 2) := kt_o21 (j := 24) sX1_change_0 rfl
theorem dX1_change_26 : decode cX1_change 26 = .ok (.bipush 8, 2) := kt_o16 (j := 26) sX1_change_0 rfl (by decide +kernel)
theorem dX1_change_28 : decode cX1_change 28 = .ok (.if_icmp .gt 18, 3) := kt_o163 (j := 28) sX1_change_0 rfl (by decide +kernel)
theorem dX1_change_31 : decode cX1_change 31 = .ok (.iload 5, 2) := kt_o21 (j := 31) sX1_change_0 rfl
theorem dX1_change_33 : decode cX1_change 33 = .ok (.ifCond .eq 9, 3) := kt_o153 (j := 33) sX1_change_0 rfl (by decide +kernel)
theorem dX1_change_36 : decode cX1_change 36 = .ok (.iload 5, 2) := kt_o21 (j := 36) sX1_change_0 rfl
theorem dX1_change_38 : decode cX1_change 38 = .ok (.iconst 1, 1) := kt_o4 (j := 38) sX1_change_0 rfl
theorem dX1_change_39 : decode cX1_change 39 = .ok (.if_icmp .ne 7, 3) := kt_o160 (j := 39) sX1_change_0 rfl (by decide +kernel)
theorem dX1_change_42 : decode cX1_change 42 = .ok (.iconst 1, 1) := kt_o4 (j := 42) sX1_change_0 rfl
theorem dX1_change_43 : decode cX1_change 43 = .ok (.goto 4, 3) := kt_o167 (j := 43) sX1_change_0 rfl (by decide +kernel)
theorem dX1_change_46 : decode cX1_change 46 = .ok (.iconst 0, 1) := kt_o3 (j := 46) sX1_change_0 rfl
theorem dX1_change_47 : decode cX1_change 47 = .ok (.istore 6, 2) := kt_o54 (j := 47) sX1_change_0 rfl
theorem dX1_change_49 : decode cX1_change 49 = .ok (.iload 6, 2) := kt_o21 (j := 49) sX1_change_0 rfl
theorem dX1_change_51 : decode cX1_change 51 = .ok (.ifCond .ne 5, 3) := kt_o154 (j := 51) sX1_change_0 rfl (by decide +kernel)
theorem dX1_change_54 : decode cX1_change 54 = .ok (.iconst 0, 1) := kt_o3 (j := 54) sX1_change_0 rfl
theorem dX1_change_55 : decode cX1_change 55 = .ok (.ireturn, 1) := kt_o172 (j := 55) sX1_change_0 rfl
theorem dX1_change_56 : decode cX1_change 56 = .ok (.aload_n 0, 1) := kt_o42 (j := 56) sX1_change_0 rfl
theorem dX1_change_57 : decode cX1_change 57 = .ok (.iload_n 1, 1) := kt_o27 (j := 57) sX1_change_0 rfl
theorem dX1_change_58 : decode cX1_change 58 = .ok (.putfield 7, 3) := kt_o181 (j := 58) sX1_change_0 rfl rfl
theorem dX1_change_61 : decode cX1_change 61 = .ok (.aload_n 0, 1) := kt_o42 (j := 61) sX1_change_0 rfl
theorem dX1_change_62 : decode cX1_change 62 = .ok (.iload_n 2, 1) := kt_o28 (j := 62) sX1_change_0 rfl
theorem dX1_change_63 : decode cX1_change 63 = .ok (.putfield 13, 3) := kt_o181 (j := 63) sX1_change_0 rfl rfl
theorem sX1_change_66 : kt_sg cX1_change 66 [42, 29, 181, 0, 16, 42, 21, 4, 181, 0, 20, 42, 21, 5, 181, 0, 23, 4, 172] = true := by decide +kernel
theorem dX1_change_66 : decode cX1_change 66 = .ok (.aload_n 0, 1) := kt_o42 (j := 0) sX1_change_66 rfl
theorem dX1_change_67 : decode cX1_change 67 = .ok (.iload_n 3, 1) := kt_o29 (j := 1) sX1_change_66 rfl
theorem dX1_change_68 : decode cX1_change 68 = .ok (.putfield 16, 3) := kt_o181 (j := 2) sX1_change_66 rfl rfl
theorem dX1_change_71 : decode cX1_change 71 = .ok (.aload_n 0, 1) := kt_o42 (j := 5) sX1_change_66 rfl
theorem dX1_change_72 : decode cX1_change 72 = .ok (.iload 4, 2) := kt_o21 (j := 6) sX1_change_66 rfl
theorem dX1_change_74 : decode cX1_change 74 = .ok (.putfield 20, 3) := kt_o181 (j := 8) sX1_change_66 rfl rfl
theorem dX1_change_77 : decode cX1_change 77 = .ok (.aload_n 0, 1) := kt_o42 (j := 11) sX1_change_66 rfl
theorem dX1_change_78 : decode cX1_change 78 = .ok (.iload 5, 2) := kt_o21 (j := 12) sX1_change_66 rfl
theorem dX1_change_80 : decode cX1_change 80 = .ok (.putfield 23, 3) := kt_o181 (j := 14) sX1_change_66 rfl rfl
theorem dX1_change_83 : decode cX1_change 83 = .ok (.iconst 1, 1) := kt_o4 (j := 17) sX1_change_66 rfl
theorem dX1_change_84 : decode cX1_change 84 = .ok (.ireturn, 1) := kt_o172 (j := 18) sX1_change_66 rfl
theorem sX2_init_0 : kt_sg cX2_init 0 [42, 183, 0, 3, 42, 3, 188, 10, 181, 0, 9, 42, 3, 188, 10, 181, 0, 15, 42, 3, 188, 10, 181, 0, 18, 177] = true := by decide +kernel
theorem dX2_init_0 : decode cX2_init 0 = .ok (.aload_n 0, 1) := kt_o42 (j := 0) sX2_init_0 rfl
theorem dX2_init_1 : decode cX2_init 1 = .ok (.invokespecial 3, 3) := kt_o183 (j := 1) sX2_init_0 rfl rfl
theorem dX2_init_4 : decode cX2_init 4 = .ok (.aload_n 0, 1) := kt_o42 (j := 4) sX2_init_0 rfl
theorem dX2_init_5 : decode cX2_init 5 = .ok (.iconst 0, 1) := kt_o3 (j := 5) sX2_init_0 rfl
theorem dX2_init_6 : decode cX2_init 6 = .ok (.newarray .int, 2) := kt_o188_10 (j := 6) sX2_init_0 rfl
theorem dX2_init_8 : decode cX2_init 8 = .ok (.putfield 9, 3) := kt_o181 (j := 8) sX2_init_0 rfl rfl
theorem dX2_init_11 : decode cX2_init 11 = .ok (.aload_n 0, 1) := kt_o42 (j := 11) sX2_init_0 rfl
theorem dX2_init_12 : decode cX2_init 12 = .ok (.iconst 0, 1) := kt_o3 (j := 12) sX2_init_0 rfl
theorem dX2_init_13 : decode cX2_init 13 = .ok (.newarray .int, 2) := kt_o188_10 (j := 13) sX2_init_0 rfl
theorem dX2_init_15 : decode cX2_init 15 = .ok (.putfield 15, 3) := kt_o181 (j := 15) sX2_init_0 rfl rfl
theorem dX2_init_18 : decode cX2_init 18 = .ok (.aload_n 0, 1) := kt_o42 (j := 18) sX2_init_0 rfl
theorem dX2_init_19 : decode cX2_init 19 = .ok (.iconst 0, 1) := kt_o3 (j := 19) sX2_init_0 rfl
theorem dX2_init_20 : decode cX2_init 20 = .ok (.newarray .int, 2) := kt_o188_10 (j := 20) sX2_init_0 rfl
theorem dX2_init_22 : decode cX2_init 22 = .ok (.putfield 18, 3) := kt_o181 (j := 22) sX2_init_0 rfl rfl
theorem dX2_init_25 : decode cX2_init 25 = .ok (.return_, 1) := kt_o177 (j := 25) sX2_init_0 rfl
theorem kt_wp_X2_renew__X20 {w : Cond} (h : w ∈ wsX20) : w ∈ wsX2_renew := List.mem_cons_of_mem _ (List.mem_append_right _ (h))
set_option maxRecDepth 20000 in
theorem kt_wg_X2_roomFor : wsX2_roomFor.all goodWord = true := by decide +kernel
set_option maxRecDepth 20000 in
theorem ggX2_renew_X2_roomFor : GoodIn wsX2_renew wsX2_roomFor := goodIn_sub (kt_wf1 (List.mem_cons_of_mem _ (List.mem_append_left _ (List.mem_cons_of_mem _ (List.mem_cons_of_mem _ (List.mem_cons_of_mem _ (List.mem_cons_of_mem _ (List.mem_cons_of_mem _ (List.mem_cons_of_mem _ (List.mem_cons_of_mem _ (List.mem_cons_of_mem _ (List.mem_cons_of_mem _ (List.Mem.head _)))))))))))) (kt_wf1 (List.mem_cons_of_mem _ (List.mem_append_left _ (List.mem_cons_of_mem _ (List.mem_cons_of_mem _ (List.mem_cons_of_mem _ (List.mem_cons_of_mem _ (List.mem_cons_of_mem _ (List.mem_cons_of_mem _ (List.mem_cons_of_mem _ (List.mem_cons_of_mem _ (List.mem_cons_of_mem _ (List.mem_cons_of_mem _ (List.Mem.head _))))))))))))) (kt_wf1 (List.mem_cons_of_mem _ (List.mem_append_left _ (List.mem_cons_of_mem _ (List.mem_cons_of_mem _ (List.mem_cons_of_mem _ (List.mem_cons_of_mem _ (List.mem_cons_of_mem _ (List.mem_cons_of_mem _ (List.mem_cons_of_mem _ (List.mem_cons_of_mem _ (List.mem_cons_of_mem _ (List.mem_cons_of_mem _ (List.mem_cons_of_mem _ (List.Mem.head _)))))))))))))) (kt_wf1 (List.mem_cons_of_mem _ (List.mem_append_left _ (List.mem_cons_of_mem _ (List.mem_cons_of_mem _ (List.mem_cons_of_mem _ (List.mem_cons_of_mem _ (List.mem_cons_of_mem _ (List.mem_cons_of_mem _ (List.mem_cons_of_mem _ (List.mem_cons_of_mem _ (List.mem_cons_of_mem _ (List.mem_cons_of_mem _ (List.mem_cons_of_mem _ (List.mem_cons_of_mem _ (List.Mem.head _))))))))))))))) (kt_wf1 (List.mem_cons_of_mem _ (List.mem_append_left _ (List.mem_cons_of_mem _ (List.mem_cons_of_mem _ (List.mem_cons_of_mem _ (List.mem_cons_of_mem _ (List.mem_cons_of_mem _ (List.mem_cons_of_mem _ (List.mem_cons_of_mem _ (List.mem_cons_of_mem _ (List.mem_cons_of_mem _ (List.mem_cons_of_mem _ (List.mem_cons_of_mem _ (List.mem_cons_of_mem _ (List.mem_cons_of_mem _ (List.Mem.head _)))))))))))))))) (kt_wf1 (List.mem_cons_of_mem _ (List.mem_append_left _ (List.mem_cons_of_mem _ (List.mem_cons_of_mem _ (List.mem_cons_of_mem _ (List.mem_cons_of_mem _ (List.mem_cons_of_mem _ (List.mem_cons_of_mem _ (List.mem_cons_of_mem _ (List.mem_cons_of_mem _ (List.mem_cons_of_mem _ (List.mem_cons_of_mem _ (List.mem_cons_of_mem _ (List.mem_cons_of_mem _ (List.mem_cons_of_mem _ (List.mem_cons_of_mem _ (List.Mem.head _))))))))))))))))) (kt_wf1 (List.mem_cons_of_mem _ (List.mem_append_left _ (List.mem_cons_of_mem _ (List.mem_cons_of_mem _ (List.mem_cons_of_mem _ (List.mem_cons_of_mem _ (List.mem_cons_of_mem _ (List.mem_cons_of_mem _ (List.mem_cons_of_mem _ (List.mem_cons_of_mem _ (List.mem_cons_of_mem _ (List.mem_cons_of_mem _ (List.mem_cons_of_mem _ (List.mem_cons_of_mem _ (List.mem_cons_of_mem _ (List.mem_cons_of_mem _ (List.mem_cons_of_mem _ (List.Mem.head _)))))))))))))))))) (kt_wf1 (List.mem_cons_of_mem _ (List.mem_append_left _ (List.mem_cons_of_mem _ (List.mem_cons_of_mem _ (List.mem_cons_of_mem _ (List.mem_cons_of_mem _ (List.mem_cons_of_mem _ (List.mem_cons_of_mem _ (List.mem_cons_of_mem _ (List.mem_cons_of_mem _ (List.mem_cons_of_mem _ (List.mem_cons_of_mem _ (List.mem_cons_of_mem _ (List.mem_cons_of_mem _ (List.mem_cons_of_mem _ (List.mem_cons_of_mem _ (List.mem_cons_of_mem _ (List.mem_cons_of_mem _ (List.Mem.head _))))))))))))))))))) kt_wf0)))))))) kt_wg_X2_roomFor
set_option maxRecDepth 20000 in
theorem gX2_renew_X2_roomFor : GoodIn wsX2_renew (va_wsS RX2 21 yX2_roomFor wsX2_roomFor) := goodIn_app (goodIn_of _ (by decide +kernel)) ggX2_renew_X2_roomFor
set_option maxRecDepth 20000 in
theorem kt_wg_J7_fill_53178 : wsJ7_fill_53178.all goodWord = true := by decide +kernel
set_option maxRecDepth 20000 in
theorem ggX2_renew_J7_fill_53178 : GoodIn wsX2_renew wsJ7_fill_53178 := goodIn_sub (kt_wf1 (List.mem_cons_of_mem _ (List.mem_append_left _ (List.mem_cons_of_mem _ (List.mem_cons_of_mem _ (List.mem_cons_of_mem _ (List.mem_cons_of_mem _ (List.mem_cons_of_mem _ (List.mem_cons_of_mem _ (List.mem_cons_of_mem _ (List.mem_cons_of_mem _ (List.mem_cons_of_mem _ (List.mem_cons_of_mem _ (List.mem_cons_of_mem _ (List.mem_cons_of_mem _ (List.mem_cons_of_mem _ (List.mem_cons_of_mem _ (List.mem_cons_of_mem _ (List.mem_cons_of_mem _ (List.mem_cons_of_mem _ (List.mem_cons_of_mem _ (List.mem_cons_of_mem _ (List.mem_cons_of_mem _ (List.Mem.head _))))))))))))))))))))))) kt_wf0) kt_wg_J7_fill_53178
set_option maxRecDepth 20000 in
theorem gX2_renew_J7_fill_53178 : GoodIn wsX2_renew (va_wsS RX2 26 yJ7_fill_53178 wsJ7_fill_53178) := goodIn_app (goodIn_of _ (by decide +kernel)) ggX2_renew_J7_fill_53178
theorem sX2_renew_0 : kt_sg cX2_renew 0 [42, 180, 0, 9, 190, 27, 162, 0, 21, 42, 27, 42, 180, 0, 9, 190, 17, 39, 16, 184, 0, 21, 188, 10, 181, 0, 9, 42, 180, 0, 15, 190, 28, 162, 0, 29, 28, 42, 180, 0, 15, 190, 18, 25, 184, 0, 21, 62, 42, 29, 188, 10, 181, 0, 15, 42, 29, 188, 10, 181, 0, 18, 42, 180, 0, 9] = true := by decide +kernel
theorem dX2_renew_0 : decode cX2_renew 0 = .ok (.aload_n 0, 1) := kt_o42 (j := 0) sX2_renew_0 rfl
theorem dX2_renew_1 : decode cX2_renew 1 = .ok (.getfield 9, 3) := kt_o180 (j := 1) sX2_renew_0 rfl rfl
theorem dX2_renew_4 : decode cX2_renew 4 = .ok (.arraylength, 1) := kt_o190 (j := 4) sX2_renew_0 rfl
theorem dX2_renew_5 : decode cX2_renew 5 = .ok (.iload_n 1, 1) := kt_o27 (j := 5) sX2_renew_0 rfl
theorem dX2_renew_6 : decode cX2_renew 6 = .ok (.if_icmp .ge 21, 3) := kt_o162 (j := 6) sX2_renew_0 rfl (by decide +kernel)
theorem dX2_renew_9 : decode cX2_renew 9 = .ok (.aload_n 0, 1) := kt_o42 (j := 9) sX2_renew_0 rfl
theorem dX2_renew_10 : decode cX2_renew 10 = .ok (.iload_n 1, 1) := kt_o27 (j := 10) sX2_renew_0 rfl
theorem dX2_renew_11 : decode cX2_renew 11 = .ok (.aload_n 0, 1) := kt_o42 (j := 11) sX2_renew_0 rfl
theorem dX2_renew_12 : decode cX2_renew 12 = .ok (.getfield 9, 3) := kt_o180 (j := 12) sX2_renew_0 rfl rfl
theorem dX2_renew_15 : decode cX2_renew 15 = .ok (.arraylength, 1) := kt_o190 (j := 15) sX2_renew_0 rfl
theorem dX2_renew_16 : decode cX2_renew 16 = .ok (.sipush 10000, 3) := kt_o17 (j := 16) sX2_renew_0 rfl (by decide +kernel)
theorem dX2_renew_19 : decode cX2_renew 19 = .ok (.invokestatic 21, 3) := kt_o184 (j := 19) sX2_renew_0 rfl rfl
theorem dX2_renew_22 : decode cX2_renew 22 = .ok (.newarray .int, 2) := kt_o188_10 (j := 22) sX2_renew_0 rfl
theorem dX2_renew_24 : decode cX2_renew 24 = .ok (.putfield 9, 3) := kt_o181 (j := 24) sX2_renew_0 rfl rfl
theorem dX2_renew_27 : decode cX2_renew 27 = .ok (.aload_n 0, 1) := kt_o42 (j := 27) sX2_renew_0 rfl
theorem dX2_renew_28 : decode cX2_renew 28 = .ok (.getfield 15, 3) := kt_o180 (j := 28) sX2_renew_0 rfl rfl
theorem dX2_renew_31 : decode cX2_renew 31 = .ok (.arraylength, 1) := kt_o190 (j := 31) sX2_renew_0 rfl
theorem dX2_renew_32 : decode cX2_renew 32 = .ok (.iload_n 2, 1) := kt_o28 (j := 32) sX2_renew_0 rfl
theorem dX2_renew_33 : decode cX2_renew 33 = .ok (.if_icmp .ge 29, 3) := kt_o162 (j := 33) sX2_renew_0 rfl (by decide +kernel)
theorem dX2_renew_36 : decode cX2_renew 36 = .ok (.iload_n 2, 1) := kt_o28 (j := 36) sX2_renew_0 rfl
theorem dX2_renew_37 : decode cX2_renew 37 = .ok (.aload_n 0, 1) := kt_o42 (j := 37) sX2_renew_0 rfl
theorem dX2_renew_38 : decode cX2_renew 38 = .ok (.getfield 15, 3) := kt_o180 (j := 38) sX2_renew_0 rfl rfl
theorem dX2_renew_41 : decode cX2_renew 41 = .ok (.arraylength, 1) := kt_o190 (j := 41) sX2_renew_0 rfl
theorem dX2_renew_42 : decode cX2_renew 42 = .ok (.ldc 25, 2) := kt_o18 (j := 42) sX2_renew_0 rfl
theorem dX2_renew_44 : decode cX2_renew 44 = .ok (.invokestatic 21, 3) := kt_o184 (j := 44) sX2_renew_0 rfl rfl
theorem dX2_renew_47 : decode cX2_renew 47 = .ok (.istore_n 3, 1) := kt_o62 (j := 47) sX2_renew_0 rfl
theorem dX2_renew_48 : decode cX2_renew 48 = .ok (.aload_n 0, 1) := kt_o42 (j := 48) sX2_renew_0 rfl
theorem dX2_renew_49 : decode cX2_renew 49 = .ok (.iload_n 3, 1) := kt_o29 (j := 49) sX2_renew_0 rfl
theorem dX2_renew_50 : decode cX2_renew 50 = .ok (.newarray .int, 2) := kt_o188_10 (j := 50) sX2_renew_0 rfl
theorem dX2_renew_52 : decode cX2_renew 52 = .ok (.putfield 15, 3) := kt_o181 (j := 52) sX2_renew_0 rfl rfl
theorem dX2_renew_55 : decode cX2_renew 55 = .ok (.aload_n 0, 1) := kt_o42 (j := 55) sX2_renew_0 rfl
theorem dX2_renew_56 : decode cX2_renew 56 = .ok (.iload_n 3, 1) := kt_o29 (j := 56) sX2_renew_0 rfl
theorem dX2_renew_57 : decode cX2_renew 57 = .ok (.newarray .int, 2) := kt_o188_10 (j := 57) sX2_renew_0 rfl
theorem dX2_renew_59 : decode cX2_renew 59 = .ok (.putfield 18, 3) := kt_o181 (j := 59) sX2_renew_0 rfl rfl
theorem dX2_renew_62 : decode cX2_renew 62 = .ok (.aload_n 0, 1) := kt_o42 (j := 62) sX2_renew_0 rfl
theorem dX2_renew_63 : decode cX2_renew 63 = .ok (.getfield 9, 3) := kt_o180 (j := 63) sX2_renew_0 rfl rfl
theorem sX2_renew_66 : kt_sg cX2_renew 66 [2, 184, 0, 26, 42, 3, 181, 0, 32, 177] = true := by decide +kernel
theorem dX2_renew_66 : decode cX2_renew 66 = .ok (.iconst (-1), 1) := kt_o2 (j := 0) sX2_renew_66 rfl
theorem dX2_renew_67 : decode cX2_renew 67 = .ok (.invokestatic 26, 3) := kt_o184 (j := 1) sX2_renew_66 rfl rfl
theorem dX2_renew_70 : decode cX2_renew 70 = .ok (.aload_n 0, 1) := kt_o42 (j := 4) sX2_renew_66 rfl
theorem dX2_renew_71 : decode cX2_renew 71 = .ok (.iconst 0, 1) := kt_o3 (j := 5) sX2_renew_66 rfl
theorem dX2_renew_72 : decode cX2_renew 72 = .ok (.putfield 32, 3) := kt_o181 (j := 6) sX2_renew_66 rfl rfl
theorem dX2_renew_75 : decode cX2_renew 75 = .ok (.return_, 1) := kt_o177 (j := 9) sX2_renew_66 rfl
theorem sX2_roomFor_0 : kt_sg cX2_roomFor 0 [26, 5, 27, 104, 28, 184, 0, 36, 184, 0, 42, 172] = true := by decide +kernel
theorem dX2_roomFor_0 : decode cX2_roomFor 0 = .ok (.iload_n 0, 1) := kt_o26 (j := 0) sX2_roomFor_0 rfl
theorem dX2_roomFor_1 : decode cX2_roomFor 1 = .ok (.iconst 2, 1) := kt_o5 (j := 1) sX2_roomFor_0 rfl
theorem dX2_roomFor_2 : decode cX2_roomFor 2 = .ok (.iload_n 1, 1) := kt_o27 (j := 2) sX2_roomFor_0 rfl
theorem dX2_roomFor_3 : decode cX2_roomFor 3 = .ok (.imul, 1) := kt_o104 (j := 3) sX2_roomFor_0 rfl
theorem dX2_roomFor_4 : decode cX2_roomFor 4 = .ok (.iload_n 2, 1) := kt_o28 (j := 4) sX2_roomFor_0 rfl
theorem dX2_roomFor_5 : decode cX2_roomFor 5 = .ok (.invokestatic 36, 3) := kt_o184 (j := 5) sX2_roomFor_0 rfl rfl
theorem dX2_roomFor_8 : decode cX2_roomFor 8 = .ok (.invokestatic 42, 3) := kt_o184 (j := 8) sX2_roomFor_0 rfl rfl
theorem dX2_roomFor_11 : decode cX2_roomFor 11 = .ok (.ireturn, 1) := kt_o172 (j := 11) sX2_roomFor_0 rfl
theorem sX2_add_0 : kt_sg cX2_add 0 [42, 180, 0, 32, 42, 180, 0, 15, 190, 162, 0, 61, 28, 155, 0, 57, 28, 42, 180, 0, 9, 190, 162, 0, 48, 42, 180, 0, 15, 42, 180, 0, 32, 27, 79, 42, 180, 0, 18, 42, 180, 0, 32, 42, 180, 0, 9, 28, 46, 79, 42, 180, 0, 9, 28, 42, 180, 0, 32, 79, 42, 89, 180, 0, 32] = true := by decide +kernel
theorem dX2_add_0 : decode cX2_add 0 = .ok (.aload_n 0, 1) := kt_o42 (j := 0) sX2_add_0 rfl
theorem dX2_add_1 : decode cX2_add 1 = .ok (.getfield 32, 3) := kt_o180 (j := 1) sX2_add_0 rfl rfl
theorem dX2_add_4 : decode cX2_add 4 = .ok (.aload_n 0, 1) := kt_o42 (j := 4) sX2_add_0 rfl
theorem dX2_add_5 : decode cX2_add 5 = .ok (.getfield 15, 3) := kt_o180 (j := 5) sX2_add_0 rfl rfl
theorem dX2_add_8 : decode cX2_add 8 = .ok (.arraylength, 1) := kt_o190 (j := 8) sX2_add_0 rfl
theorem dX2_add_9 : decode cX2_add 9 = .ok (.if_icmp .ge 61, 3) := kt_o162 (j := 9) sX2_add_0 rfl (by decide +kernel)
theorem dX2_add_12 : decode cX2_add 12 = .ok (.iload_n 2, 1) := kt_o28 (j := 12) sX2_add_0 rfl
theorem dX2_add_13 : decode cX2_add 13 = .ok (.ifCond .lt 57, 3) := kt_o155 (j := 13) sX2_add_0 rfl (by decide +kernel)
theorem dX2_add_16 : decode cX2_add 16 = .ok (.iload_n 2, 1) := kt_o28 (j := 16) sX2_add_0 rfl
theorem dX2_add_17 : decode cX2_add 17 = .ok (.aload_n 0, 1) := kt_o42 (j := 17) sX2_add_0 rfl
theorem dX2_add_18 : decode cX2_add 18 = .ok (.getfield 9, 3) := kt_o180 (j := 18) sX2_add_0 rfl rfl
theorem dX2_add_21 : decode cX2_add 21 = .ok (.arraylength, 1) := kt_o190 (j := 21) sX2_add_0 rfl
theorem dX2_add_22 : decode cX2_add 22 = .ok (.if_icmp .ge 48, 3) := kt_o162 (j := 22) sX2_add_0 rfl (by decide +kernel)
theorem dX2_add_25 : decode cX2_add 25 = .ok (.aload_n 0, 1) := kt_o42 (j := 25) sX2_add_0 rfl
theorem dX2_add_26 : decode cX2_add 26 = .ok (.getfield 15, 3) := kt_o180 (j := 26) sX2_add_0 rfl rfl
theorem dX2_add_29 : decode cX2_add 29 = .ok (.aload_n 0, 1) := kt_o42 (j := 29) sX2_add_0 rfl
theorem dX2_add_30 : decode cX2_add 30 = .ok (.getfield 32, 3) := kt_o180 (j := 30) sX2_add_0 rfl rfl
theorem dX2_add_33 : decode cX2_add 33 = .ok (.iload_n 1, 1) := kt_o27 (j := 33) sX2_add_0 rfl
theorem dX2_add_34 : decode cX2_add 34 = .ok (.iastore, 1) := kt_o79 (j := 34) sX2_add_0 rfl
theorem dX2_add_35 : decode cX2_add 35 = .ok (.aload_n 0, 1) := kt_o42 (j := 35) sX2_add_0 rfl
theorem dX2_add_36 : decode cX2_add 36 = .ok (.getfield 18, 3) := kt_o180 (j := 36) sX2_add_0 rfl rfl
theorem dX2_add_39 : decode cX2_add 39 = .ok (.aload_n 0, 1) := kt_o42 (j := 39) sX2_add_0 rfl
theorem dX2_add_40 : decode cX2_add 40 = .ok (.getfield 32, 3) := kt_o180 (j := 40) sX2_add_0 rfl rfl
theorem dX2_add_43 : decode cX2_add 43 = .ok (.aload_n 0, 1) := kt_o42 (j := 43) sX2_add_0 rfl
theorem dX2_add_44 : decode cX2_add 44 = .ok (.getfield 9, 3) := kt_o180 (j := 44) sX2_add_0 rfl rfl
theorem dX2_add_47 : decode cX2_add 47 = .ok (.iload_n 2, 1) := kt_o28 (j := 47) sX2_add_0 rfl
theorem dX2_add_48 : decode cX2_add 48 = .ok (.iaload, 1) := kt_o46 (j := 48) sX2_add_0 rfl
theorem dX2_add_49 : decode cX2_add 49 = .ok (.iastore, 1) := kt_o79 (j := 49) sX2_add_0 rfl
theorem dX2_add_50 : decode cX2_add 50 = .ok (.aload_n 0, 1) := kt_o42 (j := 50) sX2_add_0 rfl
theorem dX2_add_51 : decode cX2_add 51 = .ok (.getfield 9, 3) := kt_o180 (j := 51) sX2_add_0 rfl rfl
theorem dX2_add_54 : decode cX2_add 54 = .ok (.iload_n 2, 1) := kt_o28 (j := 54) sX2_add_0 rfl
theorem dX2_add_55 : decode cX2_add 55 = .ok (.aload_n 0, 1) := kt_o42 (j := 55) sX2_add_0 rfl
theorem dX2_add_56 : decode cX2_add 56 = .ok (.getfield 32, 3) := kt_o180 (j := 56) sX2_add_0 rfl rfl
theorem dX2_add_59 : decode cX2_add 59 = .ok (.iastore, 1) := kt_o79 (j := 59) sX2_add_0 rfl
theorem dX2_add_60 : decode cX2_add 60 = .ok (.aload_n 0, 1) := kt_o42 (j := 60) sX2_add_0 rfl
theorem dX2_add_61 : decode cX2_add 61 = .ok (.dup, 1) := kt_o89 (j := 61) sX2_add_0 rfl
theorem dX2_add_62 : decode cX2_add 62 = .ok (.getfield 32, 3) := kt_o180 (j := 62) sX2_add_0 rfl rfl
theorem sX2_add_65 : kt_sg cX2_add 65 [4, 96, 181, 0, 32, 177] = true := by decide +kernel
theorem dX2_add_65 : decode cX2_add 65 = .ok (.iconst 1, 1) := kt_o4 (j := 0) sX2_add_65 rfl
theorem dX2_add_66 : decode cX2_add 66 = .ok (.iadd, 1) := kt_o96 (j := 1) sX2_add_65 rfl
theorem dX2_add_67 : decode cX2_add 67 = .ok (.putfield 32, 3) := kt_o181 (j := 2) sX2_add_65 rfl rfl
theorem dX2_add_70 : decode cX2_add 70 = .ok (.return_, 1) := kt_o177 (j := 5) sX2_add_65 rfl
theorem sX3_init_0 : kt_sg cX3_init 0 [42, 183, 0, 3, 42, 17, 2, 0, 188, 10, 181, 0, 9, 42, 17, 2, 0, 188, 10, 181, 0, 15, 42, 17, 2, 0, 188, 10, 181, 0, 18, 42, 17, 2, 0, 188, 10, 181, 0, 21, 42, 17, 8, 0, 188, 10, 181, 0, 24, 42, 17, 8, 0, 188, 10, 181, 0, 27, 42, 16, 40, 188, 10, 181, 0, 30] = true := by decide +kernel
theorem dX3_init_0 : decode cX3_init 0 = .ok (.aload_n 0, 1) := kt_o42 (j := 0) sX3_init_0 rfl
theorem dX3_init_1 : decode cX3_init 1 = .ok (.invokespecial 3, 3) := kt_o183 (j := 1) sX3_init_0 rfl rfl
theorem dX3_init_4 : decode cX3_init 4 = .ok (.aload_n 0, 1) := kt_o42 (j := 4) sX3_init_0 rfl
theorem dX3_init_5 : decode cX3_init 5 = .ok (.sipush 512, 3) := kt_o17 (j := 5) sX3_init_0 rfl (by decide +kernel)
theorem dX3_init_8 : decode cX3_init 8 = .ok (.newarray .int, 2) := kt_o188_10 (j := 8) sX3_init_0 rfl
theorem dX3_init_10 : decode cX3_init 10 = .ok (.putfield 9, 3) := kt_o181 (j := 10) sX3_init_0 rfl rfl
theorem dX3_init_13 : decode cX3_init 13 = .ok (.aload_n 0, 1) := kt_o42 (j := 13) sX3_init_0 rfl
theorem dX3_init_14 : decode cX3_init 14 = .ok (.sipush 512, 3) := kt_o17 (j := 14) sX3_init_0 rfl (by decide +kernel)
theorem dX3_init_17 : decode cX3_init 17 = .ok (.newarray .int, 2) := kt_o188_10 (j := 17) sX3_init_0 rfl
theorem dX3_init_19 : decode cX3_init 19 = .ok (.putfield 15, 3) := kt_o181 (j := 19) sX3_init_0 rfl rfl
theorem dX3_init_22 : decode cX3_init 22 = .ok (.aload_n 0, 1) := kt_o42 (j := 22) sX3_init_0 rfl
theorem dX3_init_23 : decode cX3_init 23 = .ok (.sipush 512, 3) := kt_o17 (j := 23) sX3_init_0 rfl (by decide +kernel)
theorem dX3_init_26 : decode cX3_init 26 = .ok (.newarray .int, 2) := kt_o188_10 (j := 26) sX3_init_0 rfl
theorem dX3_init_28 : decode cX3_init 28 = .ok (.putfield 18, 3) := kt_o181 (j := 28) sX3_init_0 rfl rfl
theorem dX3_init_31 : decode cX3_init 31 = .ok (.aload_n 0, 1) := kt_o42 (j := 31) sX3_init_0 rfl
theorem dX3_init_32 : decode cX3_init 32 = .ok (.sipush 512, 3) := kt_o17 (j := 32) sX3_init_0 rfl (by decide +kernel)
theorem dX3_init_35 : decode cX3_init 35 = .ok (.newarray .int, 2) := kt_o188_10 (j := 35) sX3_init_0 rfl
theorem dX3_init_37 : decode cX3_init 37 = .ok (.putfield 21, 3) := kt_o181 (j := 37) sX3_init_0 rfl rfl
theorem dX3_init_40 : decode cX3_init 40 = .ok (.aload_n 0, 1) := kt_o42 (j := 40) sX3_init_0 rfl
theorem dX3_init_41 : decode cX3_init 41 = .ok (.sipush 2048, 3) := kt_o17 (j := 41) sX3_init_0 rfl (by decide +kernel)
theorem dX3_init_44 : decode cX3_init 44 = .ok (.newarray .int, 2) := kt_o188_10 (j := 44) sX3_init_0 rfl
theorem dX3_init_46 : decode cX3_init 46 = .ok (.putfield 24, 3) := kt_o181 (j := 46) sX3_init_0 rfl rfl
theorem dX3_init_49 : decode cX3_init 49 = .ok (.aload_n 0, 1) := kt_o42 (j := 49) sX3_init_0 rfl
theorem dX3_init_50 : decode cX3_init 50 = .ok (.sipush 2048, 3) := kt_o17 (j := 50) sX3_init_0 rfl (by decide +kernel)
theorem dX3_init_53 : decode cX3_init 53 = .ok (.newarray .int, 2) := kt_o188_10 (j := 53) sX3_init_0 rfl
theorem dX3_init_55 : decode cX3_init 55 = .ok (.putfield 27, 3) := kt_o181 (j := 55) sX3_init_0 rfl rfl
theorem dX3_init_58 : decode cX3_init 58 = .ok (.aload_n 0, 1) := kt_o42 (j := 58) sX3_init_0 rfl
theorem dX3_init_59 : decode cX3_init 59 = .ok (.bipush 40, 2) := kt_o16 (j := 59) sX3_init_0 rfl (by decide +kernel)
theorem dX3_init_61 : decode cX3_init 61 = .ok (.newarray .int, 2) := kt_o188_10 (j := 61) sX3_init_0 rfl
theorem dX3_init_63 : decode cX3_init 63 = .ok (.putfield 30, 3) := kt_o181 (j := 63) sX3_init_0 rfl rfl
theorem sX3_init_66 : kt_sg cX3_init 66 [177] = true := by decide +kernel
theorem dX3_init_66 : decode cX3_init 66 = .ok (.return_, 1) := kt_o177 (j := 0) sX3_init_66 rfl
theorem sX3_clear_0 : kt_sg cX3_clear 0 [42, 3, 181, 0, 33, 42, 3, 181, 0, 37, 177] = true := by decide +kernel
theorem dX3_clear_0 : decode cX3_clear 0 = .ok (.aload_n 0, 1) := kt_o42 (j := 0) sX3_clear_0 rfl
theorem dX3_clear_1 : decode cX3_clear 1 = .ok (.iconst 0, 1) := kt_o3 (j := 1) sX3_clear_0 rfl
theorem dX3_clear_2 : decode cX3_clear 2 = .ok (.putfield 33, 3) := kt_o181 (j := 2) sX3_clear_0 rfl rfl
theorem dX3_clear_5 : decode cX3_clear 5 = .ok (.aload_n 0, 1) := kt_o42 (j := 5) sX3_clear_0 rfl
theorem dX3_clear_6 : decode cX3_clear 6 = .ok (.iconst 0, 1) := kt_o3 (j := 6) sX3_clear_0 rfl
theorem dX3_clear_7 : decode cX3_clear 7 = .ok (.putfield 37, 3) := kt_o181 (j := 7) sX3_clear_0 rfl rfl
theorem dX3_clear_10 : decode cX3_clear 10 = .ok (.return_, 1) := kt_o177 (j := 10) sX3_clear_0 rfl
theorem sX3_isFull_0 : kt_sg cX3_isFull 0 [42, 180, 0, 33, 17, 2, 0, 161, 0, 7, 4, 167, 0, 4, 3, 172] = true := by decide +kernel
theorem dX3_isFull_0 : decode cX3_isFull 0 = .ok (.aload_n 0, 1) := kt_o42 (j := 0) sX3_isFull_0 rfl
theorem dX3_isFull_1 : decode cX3_isFull 1 = .ok (.getfield 33, 3) := kt_o180 (j := 1) sX3_isFull_0 rfl rfl
theorem dX3_isFull_4 : decode cX3_isFull 4 = .ok (.sipush 512, 3) := kt_o17 (j := 4) sX3_isFull_0 rfl (by decide +kernel)
theorem dX3_isFull_7 : decode cX3_isFull 7 = .ok (.if_icmp .lt 7, 3) := kt_o161 (j := 7) sX3_isFull_0 rfl (by decide +kernel)
theorem dX3_isFull_10 : decode cX3_isFull 10 = .ok (.iconst 1, 1) := kt_o4 (j := 10) sX3_isFull_0 rfl
theorem dX3_isFull_11 : decode cX3_isFull 11 = .ok (.goto 4, 3) := kt_o167 (j := 11) sX3_isFull_0 rfl (by decide +kernel)
theorem dX3_isFull_14 : decode cX3_isFull 14 = .ok (.iconst 0, 1) := kt_o3 (j := 14) sX3_isFull_0 rfl
theorem dX3_isFull_15 : decode cX3_isFull 15 = .ok (.ireturn, 1) := kt_o172 (j := 15) sX3_isFull_0 rfl
theorem kt_wp_X3_write__X30 {w : Cond} (h : w ∈ wsX30) : w ∈ wsX3_write := List.mem_cons_of_mem _ (List.mem_append_left _ (List.mem_append_left _ (List.mem_append_right _ (h))))
theorem kt_wp_X3_write__X60 {w : Cond} (h : w ∈ wsX60) : w ∈ wsX3_write := List.mem_cons_of_mem _ (List.mem_append_left _ (List.mem_append_right _ (h)))
theorem kt_wp_X3_write__X80 {w : Cond} (h : w ∈ wsX80) : w ∈ wsX3_write := List.mem_cons_of_mem _ (List.mem_append_right _ (h))
set_option maxRecDepth 20000 in
theorem kt_wg_X3_isFull : wsX3_isFull.all goodWord = true := by decide +kernel
set_option maxRecDepth 20000 in
theorem ggX3_write_X3_isFull : GoodIn wsX3_write wsX3_isFull := goodIn_sub (kt_wf1 (List.mem_cons_of_mem _ (List.mem_append_left _ (List.mem_append_left _ (List.mem_append_left _ (List.mem_cons_of_mem _ (List.mem_cons_of_mem _ (List.mem_cons_of_mem _ (List.mem_cons_of_mem _ (List.mem_cons_of_mem _ (List.mem_cons_of_mem _ (List.mem_cons_of_mem _ (List.mem_cons_of_mem _ (List.mem_cons_of_mem _ (List.mem_cons_of_mem _ (List.mem_cons_of_mem _ (List.mem_cons_of_mem _ (List.mem_cons_of_mem _ (List.mem_cons_of_mem _ (List.mem_cons_of_mem _ (List.mem_cons_of_mem _ (List.Mem.head _))))))))))))))))))))) (kt_wfa (kt_wf1 (List.mem_cons_of_mem _ (List.mem_append_left _ (List.mem_append_left _ (List.mem_append_left _ (List.mem_cons_of_mem _ (List.Mem.head _)))))) kt_wf0) (fun _ h => kt_wp_X3_write__X30 h))) kt_wg_X3_isFull
set_option maxRecDepth 20000 in
theorem gX3_write_X3_isFull : GoodIn wsX3_write (wsV RX3 40 RX3 yX3_isFull wsX3_isFull) := goodIn_app (a := [.methodLink RX3 40 yX3_isFull, .instanceMethod yX3_isFull, .selects RX3 yX3_isFull yX3_isFull, .initialized RX3]) (goodIn_sub (kt_wf1 (List.mem_cons_of_mem _ (List.mem_append_left _ (List.mem_append_left _ (List.mem_append_left _ (List.mem_cons_of_mem _ (List.mem_cons_of_mem _ (List.mem_cons_of_mem _ (List.mem_cons_of_mem _ (List.mem_cons_of_mem _ (List.mem_cons_of_mem _ (List.mem_cons_of_mem _ (List.mem_cons_of_mem _ (List.mem_cons_of_mem _ (List.mem_cons_of_mem _ (List.mem_cons_of_mem _ (List.mem_cons_of_mem _ (List.Mem.head _))))))))))))))))) (kt_wf1 (List.mem_cons_of_mem _ (List.mem_append_left _ (List.mem_append_left _ (List.mem_append_left _ (List.mem_cons_of_mem _ (List.mem_cons_of_mem _ (List.mem_cons_of_mem _ (List.mem_cons_of_mem _ (List.mem_cons_of_mem _ (List.mem_cons_of_mem _ (List.mem_cons_of_mem _ (List.mem_cons_of_mem _ (List.mem_cons_of_mem _ (List.mem_cons_of_mem _ (List.mem_cons_of_mem _ (List.mem_cons_of_mem _ (List.mem_cons_of_mem _ (List.Mem.head _)))))))))))))))))) (kt_wf1 (List.mem_cons_of_mem _ (List.mem_append_left _ (List.mem_append_left _ (List.mem_append_left _ (List.mem_cons_of_mem _ (List.mem_cons_of_mem _ (List.mem_cons_of_mem _ (List.mem_cons_of_mem _ (List.mem_cons_of_mem _ (List.mem_cons_of_mem _ (List.mem_cons_of_mem _ (List.mem_cons_of_mem _ (List.mem_cons_of_mem _ (List.mem_cons_of_mem _ (List.mem_cons_of_mem _ (List.mem_cons_of_mem _ (List.mem_cons_of_mem _ (List.mem_cons_of_mem _ (List.Mem.head _))))))))))))))))))) (kt_wf1 (List.mem_cons_of_mem _ (List.mem_append_left _ (List.mem_append_left _ (List.mem_append_left _ (List.mem_cons_of_mem _ (List.mem_cons_of_mem _ (List.mem_cons_of_mem _ (List.mem_cons_of_mem _ (List.mem_cons_of_mem _ (List.mem_cons_of_mem _ (List.mem_cons_of_mem _ (List.mem_cons_of_mem _ (List.mem_cons_of_mem _ (List.mem_cons_of_mem _ (List.mem_cons_of_mem _ (List.mem_cons_of_mem _ (List.mem_cons_of_mem _ (List.mem_cons_of_mem _ (List.mem_cons_of_mem _ (List.Mem.head _)))))))))))))))))))) kt_wf0)))) (by decide +kernel)) ggX3_write_X3_isFull
set_option maxRecDepth 20000 in
theorem kt_wg_X8_fieldOf : wsX8_fieldOf.all goodWord = true := by decide +kernel
set_option maxRecDepth 20000 in
theorem ggX3_write_X8_fieldOf : GoodIn wsX3_write wsX8_fieldOf := goodIn_sub (kt_wf1 (List.mem_cons_of_mem _ (List.mem_append_left _ (List.mem_append_left _ (List.mem_append_left _ (List.mem_cons_of_mem _ (List.mem_cons_of_mem _ (List.mem_cons_of_mem _ (List.mem_cons_of_mem _ (List.mem_cons_of_mem _ (List.mem_cons_of_mem _ (List.mem_cons_of_mem _ (List.mem_cons_of_mem _ (List.mem_cons_of_mem _ (List.mem_cons_of_mem _ (List.mem_cons_of_mem _ (List.mem_cons_of_mem _ (List.mem_cons_of_mem _ (List.mem_cons_of_mem _ (List.mem_cons_of_mem _ (List.mem_cons_of_mem _ (List.mem_cons_of_mem _ (List.mem_cons_of_mem _ (List.mem_cons_of_mem _ (List.mem_cons_of_mem _ (List.mem_cons_of_mem _ (List.Mem.head _)))))))))))))))))))))))))) (kt_wfa (kt_wf1 (List.mem_cons_of_mem _ (List.mem_append_left _ (List.mem_append_left _ (List.mem_append_left _ (List.mem_cons_of_mem _ (List.mem_cons_of_mem _ (List.mem_cons_of_mem _ (List.mem_cons_of_mem _ (List.mem_cons_of_mem _ (List.mem_cons_of_mem _ (List.mem_cons_of_mem _ (List.mem_cons_of_mem _ (List.mem_cons_of_mem _ (List.mem_cons_of_mem _ (List.mem_cons_of_mem _ (List.mem_cons_of_mem _ (List.mem_cons_of_mem _ (List.mem_cons_of_mem _ (List.mem_cons_of_mem _ (List.mem_cons_of_mem _ (List.mem_cons_of_mem _ (List.mem_cons_of_mem _ (List.mem_cons_of_mem _ (List.mem_cons_of_mem _ (List.mem_cons_of_mem _ (List.mem_cons_of_mem _ (List.Mem.head _))))))))))))))))))))))))))) kt_wf0) (fun _ h => kt_wp_X3_write__X80 h))) kt_wg_X8_fieldOf
set_option maxRecDepth 20000 in
theorem gX3_write_X8_fieldOf : GoodIn wsX3_write (wsV RX3 44 RX8 yX8_fieldOf wsX8_fieldOf) := goodIn_app (a := [.methodLink RX3 44 yX8_fieldOf, .instanceMethod yX8_fieldOf, .selects RX8 yX8_fieldOf yX8_fieldOf, .initialized RX8]) (goodIn_sub (kt_wf1 (List.mem_cons_of_mem _ (List.mem_append_left _ (List.mem_append_left _ (List.mem_append_left _ (List.mem_cons_of_mem _ (List.mem_cons_of_mem _ (List.mem_cons_of_mem _ (List.mem_cons_of_mem _ (List.mem_cons_of_mem _ (List.mem_cons_of_mem _ (List.mem_cons_of_mem _ (List.mem_cons_of_mem _ (List.mem_cons_of_mem _ (List.mem_cons_of_mem _ (List.mem_cons_of_mem _ (List.mem_cons_of_mem _ (List.mem_cons_of_mem _ (List.mem_cons_of_mem _ (List.mem_cons_of_mem _ (List.mem_cons_of_mem _ (List.mem_cons_of_mem _ (List.Mem.head _)))))))))))))))))))))) (kt_wf1 (List.mem_cons_of_mem _ (List.mem_append_left _ (List.mem_append_left _ (List.mem_append_left _ (List.mem_cons_of_mem _ (List.mem_cons_of_mem _ (List.mem_cons_of_mem _ (List.mem_cons_of_mem _ (List.mem_cons_of_mem _ (List.mem_cons_of_mem _ (List.mem_cons_of_mem _ (List.mem_cons_of_mem _ (List.mem_cons_of_mem _ (List.mem_cons_of_mem _ (List.mem_cons_of_mem _ (List.mem_cons_of_mem _ (List.mem_cons_of_mem _ (List.mem_cons_of_mem _ (List.mem_cons_of_mem _ (List.mem_cons_of_mem _ (List.mem_cons_of_mem _ (List.mem_cons_of_mem _ (List.Mem.head _))))))))))))))))))))))) (kt_wf1 (List.mem_cons_of_mem _ (List.mem_append_left _ (List.mem_append_left _ (List.mem_append_left _ (List.mem_cons_of_mem _ (List.mem_cons_of_mem _ (List.mem_cons_of_mem _ (List.mem_cons_of_mem _ (List.mem_cons_of_mem _ (List.mem_cons_of_mem _ (List.mem_cons_of_mem _ (List.mem_cons_of_mem _ (List.mem_cons_of_mem _ (List.mem_cons_of_mem _ (List.mem_cons_of_mem _ (List.mem_cons_of_mem _ (List.mem_cons_of_mem _ (List.mem_cons_of_mem _ (List.mem_cons_of_mem _ (List.mem_cons_of_mem _ (List.mem_cons_of_mem _ (List.mem_cons_of_mem _ (List.mem_cons_of_mem _ (List.Mem.head _)))))))))))))))))))))))) (kt_wf1 (List.mem_cons_of_mem _ (List.mem_append_left _ (List.mem_append_left _ (List.mem_append_left _ (List.mem_cons_of_mem _ (List.mem_cons_of_mem _ (List.mem_cons_of_mem _ (List.mem_cons_of_mem _ (List.mem_cons_of_mem _ (List.mem_cons_of_mem _ (List.mem_cons_of_mem _ (List.mem_cons_of_mem _ (List.mem_cons_of_mem _ (List.mem_cons_of_mem _ (List.mem_cons_of_mem _ (List.mem_cons_of_mem _ (List.mem_cons_of_mem _ (List.mem_cons_of_mem _ (List.mem_cons_of_mem _ (List.mem_cons_of_mem _ (List.mem_cons_of_mem _ (List.mem_cons_of_mem _ (List.mem_cons_of_mem _ (List.mem_cons_of_mem _ (List.Mem.head _))))))))))))))))))))))))) kt_wf0)))) (by decide +kernel)) ggX3_write_X8_fieldOf
theorem sX3_write_0 : kt_sg cX3_write 0 [42, 182, 0, 40, 153, 0, 4, 177, 42, 180, 0, 9, 42, 180, 0, 33, 28, 79, 42, 180, 0, 15, 42, 180, 0, 33, 43, 28, 182, 0, 44, 79, 42, 180, 0, 18, 42, 180, 0, 33, 29, 79, 42, 180, 0, 21, 42, 180, 0, 33, 25, 4, 180, 0, 50, 79, 3, 54, 5, 21, 5, 25, 4, 180, 0, 50] = true := by decide +kernel
theorem dX3_write_0 : decode cX3_write 0 = .ok (.aload_n 0, 1) := kt_o42 (j := 0) sX3_write_0 rfl
theorem dX3_write_1 : decode cX3_write 1 = .ok (.invokevirtual 40, 3) := kt_o182 (j := 1) sX3_write_0 rfl rfl
theorem dX3_write_4 : decode cX3_write 4 = .ok (.ifCond .eq 4, 3) := kt_o153 (j := 4) sX3_write_0 rfl (by decide +kernel)
theorem dX3_write_7 : decode cX3_write 7 = .ok (.return_, 1) := kt_o177 (j := 7) sX3_write_0 rfl
theorem dX3_write_8 : decode cX3_write 8 = .ok (.aload_n 0, 1) := kt_o42 (j := 8) sX3_write_0 rfl
theorem dX3_write_9 : decode cX3_write 9 = .ok (.getfield 9, 3) := kt_o180 (j := 9) sX3_write_0 rfl rfl
theorem dX3_write_12 : decode cX3_write 12 = .ok (.aload_n 0, 1) := kt_o42 (j := 12) sX3_write_0 rfl
theorem dX3_write_13 : decode cX3_write 13 = .ok (.getfield 33, 3) := kt_o180 (j := 13) sX3_write_0 rfl rfl
theorem dX3_write_16 : decode cX3_write 16 = .ok (.iload_n 2, 1) := kt_o28 (j := 16) sX3_write_0 rfl
theorem dX3_write_17 : decode cX3_write 17 = .ok (.iastore, 1) := kt_o79 (j := 17) sX3_write_0 rfl
theorem dX3_write_18 : decode cX3_write 18 = .ok (.aload_n 0, 1) := kt_o42 (j := 18) sX3_write_0 rfl
theorem dX3_write_19 : decode cX3_write 19 = .ok (.getfield 15, 3) := kt_o180 (j := 19) sX3_write_0 rfl rfl
theorem dX3_write_22 : decode cX3_write 22 = .ok (.aload_n 0, 1) := kt_o42 (j := 22) sX3_write_0 rfl
theorem dX3_write_23 : decode cX3_write 23 = .ok (.getfield 33, 3) := kt_o180 (j := 23) sX3_write_0 rfl rfl
theorem dX3_write_26 : decode cX3_write 26 = .ok (.aload_n 1, 1) := kt_o43 (j := 26) sX3_write_0 rfl
theorem dX3_write_27 : decode cX3_write 27 = .ok (.iload_n 2, 1) := kt_o28 (j := 27) sX3_write_0 rfl
theorem dX3_write_28 : decode cX3_write 28 = .ok (.invokevirtual 44, 3) := kt_o182 (j := 28) sX3_write_0 rfl rfl
theorem dX3_write_31 : decode cX3_write 31 = .ok (.iastore, 1) := kt_o79 (j := 31) sX3_write_0 rfl
theorem dX3_write_32 : decode cX3_write 32 = .ok (.aload_n 0, 1) := kt_o42 (j := 32) sX3_write_0 rfl
theorem dX3_write_33 : decode cX3_write 33 = .ok (.getfield 18, 3) := kt_o180 (j := 33) sX3_write_0 rfl rfl
theorem dX3_write_36 : decode cX3_write 36 = .ok (.aload_n 0, 1) := kt_o42 (j := 36) sX3_write_0 rfl
theorem dX3_write_37 : decode cX3_write 37 = .ok (.getfield 33, 3) := kt_o180 (j := 37) sX3_write_0 rfl rfl
theorem dX3_write_40 : decode cX3_write 40 = .ok (.iload_n 3, 1) := kt_o29 (j := 40) sX3_write_0 rfl
theorem dX3_write_41 : decode cX3_write 41 = .ok (.iastore, 1) := kt_o79 (j := 41) sX3_write_0 rfl
theorem dX3_write_42 : decode cX3_write 42 = .ok (.aload_n 0, 1) := kt_o42 (j := 42) sX3_write_0 rfl
theorem dX3_write_43 : decode cX3_write 43 = .ok (.getfield 21, 3) := kt_o180 (j := 43) sX3_write_0 rfl rfl
theorem dX3_write_46 : decode cX3_write 46 = .ok (.aload_n 0, 1) := kt_o42 (j := 46) sX3_write_0 rfl
theorem dX3_write_47 : decode cX3_write 47 = .ok (.getfield 33, 3) := kt_o180 (j := 47) sX3_write_0 rfl rfl
theorem dX3_write_50 : decode cX3_write 50 = .ok (.aload 4, 2) := kt_o25 (j := 50) sX3_write_0 rfl
theorem dX3_write_52 : decode cX3_write 52 = .ok (.getfield 50, 3) := kt_o180 (j := 52) sX3_write_0 rfl rfl
theorem dX3_write_55 : decode cX3_write 55 = .ok (.iastore, 1) := kt_o79 (j := 55) sX3_write_0 rfl
theorem dX3_write_56 : decode cX3_write 56 = .ok (.iconst 0, 1) := kt_o3 (j := 56) sX3_write_0 rfl
theorem dX3_write_57 : decode cX3_write 57 = .ok (.istore 5, 2) := kt_o54 (j := 57) sX3_write_0 rfl
theorem dX3_write_59 : decode cX3_write 59 = .ok (.iload 5, 2) := kt_o21 (j := 59) sX3_write_0 rfl
theorem dX3_write_61 : decode cX3_write 61 = .ok (.aload 4, 2) := kt_o25 (j := 61) sX3_write_0 rfl
theorem dX3_write_63 : decode cX3_write 63 = .ok (.getfield 50, 3) := kt_o180 (j := 63) sX3_write_0 rfl rfl
theorem sX3_write_66 : kt_sg cX3_write 66 [162, 0, 57, 42, 180, 0, 24, 42, 180, 0, 33, 7, 104, 21, 5, 96, 25, 4, 180, 0, 55, 21, 5, 46, 79, 42, 180, 0, 27, 42, 180, 0, 33, 7, 104, 21, 5, 96, 43, 25, 4, 180, 0, 55, 21, 5, 46, 182, 0, 44, 79, 132, 5, 1, 167, 255, 195, 42, 89, 180, 0, 33, 4, 96] = true := by decide +kernel
theorem dX3_write_66 : decode cX3_write 66 = .ok (.if_icmp .ge 57, 3) := kt_o162 (j := 0) sX3_write_66 rfl (by decide +kernel)
theorem dX3_write_69 : decode cX3_write 69 = .ok (.aload_n 0, 1) := kt_o42 (j := 3) sX3_write_66 rfl
theorem dX3_write_70 : decode cX3_write 70 = .ok (.getfield 24, 3) := kt_o180 (j := 4) sX3_write_66 rfl rfl
theorem dX3_write_73 : decode cX3_write 73 = .ok (.aload_n 0, 1) := kt_o42 (j := 7) sX3_write_66 rfl
theorem dX3_write_74 : decode cX3_write 74 = .ok (.getfield 33, 3) := kt_o180 (j := 8) sX3_write_66 rfl rfl
theorem dX3_write_77 : decode cX3_write 77 = .ok (.iconst 4, 1) := kt_o7 (j := 11) sX3_write_66 rfl
theorem dX3_write_78 : decode cX3_write 78 = .ok (.imul, 1) := kt_o104 (j := 12) sX3_write_66 rfl
theorem dX3_write_79 : decode cX3_write 79 = .ok (.iload 5, 2) := kt_o21 (j := 13) sX3_write_66 rfl
theorem dX3_write_81 : decode cX3_write 81 = .ok (.iadd, 1) := kt_o96 (j := 15) sX3_write_66 rfl
theorem dX3_write_82 : decode cX3_write 82 = .ok (.aload 4, 2) := kt_o25 (j := 16) sX3_write_66 rfl
theorem dX3_write_84 : decode cX3_write 84 = .ok (.getfield 55, 3) := kt_o180 (j := 18) sX3_write_66 rfl rfl
theorem dX3_write_87 : decode cX3_write 87 = .ok (.iload 5, 2) := kt_o21 (j := 21) sX3_write_66 rfl
theorem dX3_write_89 : decode cX3_write 89 = .ok (.iaload, 1) := kt_o46 (j := 23) sX3_write_66 rfl
theorem dX3_write_90 : decode cX3_write 90 = .ok (.iastore, 1) := kt_o79 (j := 24) sX3_write_66 rfl
theorem dX3_write_91 : decode cX3_write 91 = .ok (.aload_n 0, 1) := kt_o42 (j := 25) sX3_write_66 rfl
theorem dX3_write_92 : decode cX3_write 92 = .ok (.getfield 27, 3) := kt_o180 (j := 26) sX3_write_66 rfl rfl
theorem dX3_write_95 : decode cX3_write 95 = .ok (.aload_n 0, 1) := kt_o42 (j := 29) sX3_write_66 rfl
theorem dX3_write_96 : decode cX3_write 96 = .ok (.getfield 33, 3) := kt_o180 (j := 30) sX3_write_66 rfl rfl
theorem dX3_write_99 : decode cX3_write 99 = .ok (.iconst 4, 1) := kt_o7 (j := 33) sX3_write_66 rfl
theorem dX3_write_100 : decode cX3_write 100 = .ok (.imul, 1) := kt_o104 (j := 34) sX3_write_66 rfl
theorem dX3_write_101 : decode cX3_write 101 = .ok (.iload 5, 2) := kt_o21 (j := 35) sX3_write_66 rfl
theorem dX3_write_103 : decode cX3_write 103 = .ok (.iadd, 1) := kt_o96 (j := 37) sX3_write_66 rfl
theorem dX3_write_104 : decode cX3_write 104 = .ok (.aload_n 1, 1) := kt_o43 (j := 38) sX3_write_66 rfl
theorem dX3_write_105 : decode cX3_write 105 = .ok (.aload 4, 2) := kt_o25 (j := 39) sX3_write_66 rfl
theorem dX3_write_107 : decode cX3_write 107 = .ok (.getfield 55, 3) := kt_o180 (j := 41) sX3_write_66 rfl rfl
theorem dX3_write_110 : decode cX3_write 110 = .ok (.iload 5, 2) := kt_o21 (j := 44) sX3_write_66 rfl
theorem dX3_write_112 : decode cX3_write 112 = .ok (.iaload, 1) := kt_o46 (j := 46) sX3_write_66 rfl
theorem dX3_write_113 : decode cX3_write 113 = .ok (.invokevirtual 44, 3) := kt_o182 (j := 47) sX3_write_66 rfl rfl
theorem dX3_write_116 : decode cX3_write 116 = .ok (.iastore, 1) := kt_o79 (j := 50) sX3_write_66 rfl
theorem dX3_write_117 : decode cX3_write 117 = .ok (.iinc 5 1, 3) := kt_o132 (j := 51) sX3_write_66 rfl (by decide +kernel)
theorem dX3_write_120 : decode cX3_write 120 = .ok (.goto (-61), 3) := kt_o167 (j := 54) sX3_write_66 rfl (by decide +kernel)
theorem dX3_write_123 : decode cX3_write 123 = .ok (.aload_n 0, 1) := kt_o42 (j := 57) sX3_write_66 rfl
theorem dX3_write_124 : decode cX3_write 124 = .ok (.dup, 1) := kt_o89 (j := 58) sX3_write_66 rfl
theorem dX3_write_125 : decode cX3_write 125 = .ok (.getfield 33, 3) := kt_o180 (j := 59) sX3_write_66 rfl rfl
theorem dX3_write_128 : decode cX3_write 128 = .ok (.iconst 1, 1) := kt_o4 (j := 62) sX3_write_66 rfl
theorem dX3_write_129 : decode cX3_write 129 = .ok (.iadd, 1) := kt_o96 (j := 63) sX3_write_66 rfl
theorem sX3_write_130 : kt_sg cX3_write 130 [181, 0, 33, 42, 42, 180, 0, 37, 42, 180, 0, 33, 184, 0, 56, 181, 0, 37, 177] = true := by decide +kernel
theorem dX3_write_130 : decode cX3_write 130 = .ok (.putfield 33, 3) := kt_o181 (j := 0) sX3_write_130 rfl rfl
theorem dX3_write_133 : decode cX3_write 133 = .ok (.aload_n 0, 1) := kt_o42 (j := 3) sX3_write_130 rfl
theorem dX3_write_134 : decode cX3_write 134 = .ok (.aload_n 0, 1) := kt_o42 (j := 4) sX3_write_130 rfl
theorem dX3_write_135 : decode cX3_write 135 = .ok (.getfield 37, 3) := kt_o180 (j := 5) sX3_write_130 rfl rfl
theorem dX3_write_138 : decode cX3_write 138 = .ok (.aload_n 0, 1) := kt_o42 (j := 8) sX3_write_130 rfl
theorem dX3_write_139 : decode cX3_write 139 = .ok (.getfield 33, 3) := kt_o180 (j := 9) sX3_write_130 rfl rfl
theorem dX3_write_142 : decode cX3_write 142 = .ok (.invokestatic 56, 3) := kt_o184 (j := 12) sX3_write_130 rfl rfl
theorem dX3_write_145 : decode cX3_write 145 = .ok (.putfield 37, 3) := kt_o181 (j := 15) sX3_write_130 rfl rfl
theorem dX3_write_148 : decode cX3_write 148 = .ok (.return_, 1) := kt_o177 (j := 18) sX3_write_130 rfl
theorem sX3_latestTakings_0 : kt_sg cX3_latestTakings 0 [42, 180, 0, 33, 158, 0, 17, 42, 180, 0, 21, 42, 180, 0, 33, 4, 100, 46, 167, 0, 4, 2, 172] = true := by decide +kernel
theorem dX3_latestTakings_0 : decode cX3_latestTakings 0 = .ok (.aload_n 0, 1) := kt_o42 (j := 0) sX3_latestTakings_0 rfl
theorem dX3_latestTakings_1 : decode cX3_latestTakings 1 = .ok (.getfield 33, 3) := kt_o180 (j := 1) sX3_latestTakings_0 rfl rfl
theorem dX3_latestTakings_4 : decode cX3_latestTakings 4 = .ok (.ifCond .le 17, 3) := kt_o158 (j := 4) sX3_latestTakings_0 rfl (by decide +kernel)
theorem dX3_latestTakings_7 : decode cX3_latestTakings 7 = .ok (.aload_n 0, 1) := kt_o42 (j := 7) sX3_latestTakings_0 rfl
theorem dX3_latestTakings_8 : decode cX3_latestTakings 8 = .ok (.getfield 21, 3) := kt_o180 (j := 8) sX3_latestTakings_0 rfl rfl
theorem dX3_latestTakings_11 : decode cX3_latestTakings 11 = .ok (.aload_n 0, 1) := kt_o42 (j := 11) sX3_latestTakings_0 rfl
theorem dX3_latestTakings_12 : decode cX3_latestTakings 12 = .ok (.getfield 33, 3) := kt_o180 (j := 12) sX3_latestTakings_0 rfl rfl
theorem dX3_latestTakings_15 : decode cX3_latestTakings 15 = .ok (.iconst 1, 1) := kt_o4 (j := 15) sX3_latestTakings_0 rfl
theorem dX3_latestTakings_16 : decode cX3_latestTakings 16 = .ok (.isub, 1) := kt_o100 (j := 16) sX3_latestTakings_0 rfl
theorem dX3_latestTakings_17 : decode cX3_latestTakings 17 = .ok (.iaload, 1) := kt_o46 (j := 17) sX3_latestTakings_0 rfl
theorem dX3_latestTakings_18 : decode cX3_latestTakings 18 = .ok (.goto 4, 3) := kt_o167 (j := 18) sX3_latestTakings_0 rfl (by decide +kernel)
theorem dX3_latestTakings_21 : decode cX3_latestTakings 21 = .ok (.iconst (-1), 1) := kt_o2 (j := 21) sX3_latestTakings_0 rfl
theorem dX3_latestTakings_22 : decode cX3_latestTakings 22 = .ok (.ireturn, 1) := kt_o172 (j := 22) sX3_latestTakings_0 rfl
theorem sX3_latestVictim_0 : kt_sg cX3_latestVictim 0 [42, 180, 0, 33, 158, 0, 26, 27, 155, 0, 22, 27, 42, 180, 0, 21, 42, 180, 0, 33, 4, 100, 46, 162, 0, 7, 4, 167, 0, 4, 3, 61, 28, 153, 0, 21, 42, 180, 0, 24, 42, 180, 0, 33, 4, 100, 7, 104, 27, 96, 46, 167, 0, 4, 2, 172] = true := by decide +kernel
theorem dX3_latestVictim_0 : decode cX3_latestVictim 0 = .ok (.aload_n 0, 1) := kt_o42 (j := 0) sX3_latestVictim_0 rfl
theorem dX3_latestVictim_1 : decode cX3_latestVictim 1 = .ok (.getfield 33, 3) := kt_o180 (j := 1) sX3_latestVictim_0 rfl rfl
theorem dX3_latestVictim_4 : decode cX3_latestVictim 4 = .ok (.ifCond .le 26, 3) := kt_o158 (j := 4) sX3_latestVictim_0 rfl (by decide +kernel)
theorem dX3_latestVictim_7 : decode cX3_latestVictim 7 = .ok (.iload_n 1, 1) := kt_o27 (j := 7) sX3_latestVictim_0 rfl
theorem dX3_latestVictim_8 : decode cX3_latestVictim 8 = .ok (.ifCond .lt 22, 3) := kt_o155 (j := 8) sX3_latestVictim_0 rfl (by decide +kernel)
theorem dX3_latestVictim_11 : decode cX3_latestVictim 11 = .ok (.iload_n 1, 1) := kt_o27 (j := 11) sX3_latestVictim_0 rfl
theorem dX3_latestVictim_12 : decode cX3_latestVictim 12 = .ok (.aload_n 0, 1) := kt_o42 (j := 12) sX3_latestVictim_0 rfl
theorem dX3_latestVictim_13 : decode cX3_latestVictim 13 = .ok (.getfield 21, 3) := kt_o180 (j := 13) sX3_latestVictim_0 rfl rfl
theorem dX3_latestVictim_16 : decode cX3_latestVictim 16 = .ok (.aload_n 0, 1) := kt_o42 (j := 16) sX3_latestVictim_0 rfl
theorem dX3_latestVictim_17 : decode cX3_latestVictim 17 = .ok (.getfield 33, 3) := kt_o180 (j := 17) sX3_latestVictim_0 rfl rfl
theorem dX3_latestVictim_20 : decode cX3_latestVictim 20 = .ok (.iconst 1, 1) := kt_o4 (j := 20) sX3_latestVictim_0 rfl
theorem dX3_latestVictim_21 : decode cX3_latestVictim 21 = .ok (.isub, 1) := kt_o100 (j := 21) sX3_latestVictim_0 rfl
theorem dX3_latestVictim_22 : decode cX3_latestVictim 22 = .ok (.iaload, 1) := kt_o46 (j := 22) sX3_latestVictim_0 rfl
theorem dX3_latestVictim_23 : decode cX3_latestVictim 23 = .ok (.if_icmp .ge 7, 3) := kt_o162 (j := 23) sX3_latestVictim_0 rfl (by decide +kernel)
theorem dX3_latestVictim_26 : decode cX3_latestVictim 26 = .ok (.iconst 1, 1) := kt_o4 (j := 26) sX3_latestVictim_0 rfl
theorem dX3_latestVictim_27 : decode cX3_latestVictim 27 = .ok (.goto 4, 3) := kt_o167 (j := 27) sX3_latestVictim_0 rfl (by decide +kernel)
theorem dX3_latestVictim_30 : decode cX3_latestVictim 30 = .ok (.iconst 0, 1) := kt_o3 (j := 30) sX3_latestVictim_0 rfl
theorem dX3_latestVictim_31 : decode cX3_latestVictim 31 = .ok (.istore_n 2, 1) := kt_o61 (j := 31) sX3_latestVictim_0 rfl
theorem dX3_latestVictim_32 : decode cX3_latestVictim 32 = .ok (.iload_n 2, 1) := kt_o28 (j := 32) sX3_latestVictim_0 rfl
theorem dX3_latestVictim_33 : decode cX3_latestVictim 33 = .ok (.ifCond .eq 21, 3) := kt_o153 (j := 33) sX3_latestVictim_0 rfl (by decide +kernel)
theorem dX3_latestVictim_36 : decode cX3_latestVictim 36 = .ok (.aload_n 0, 1) := kt_o42 (j := 36) sX3_latestVictim_0 rfl
theorem dX3_latestVictim_37 : decode cX3_latestVictim 37 = .ok (.getfield 24, 3) := kt_o180 (j := 37) sX3_latestVictim_0 rfl rfl
theorem dX3_latestVictim_40 : decode cX3_latestVictim 40 = .ok (.aload_n 0, 1) := kt_o42 (j := 40) sX3_latestVictim_0 rfl
theorem dX3_latestVictim_41 : decode cX3_latestVictim 41 = .ok (.getfield 33, 3) := kt_o180 (j := 41) sX3_latestVictim_0 rfl rfl
theorem dX3_latestVictim_44 : decode cX3_latestVictim 44 = .ok (.iconst 1, 1) := kt_o4 (j := 44) sX3_latestVictim_0 rfl
theorem dX3_latestVictim_45 : decode cX3_latestVictim 45 = .ok (.isub, 1) := kt_o100 (j := 45) sX3_latestVictim_0 rfl
theorem dX3_latestVictim_46 : decode cX3_latestVictim 46 = .ok (.iconst 4, 1) := kt_o7 (j := 46) sX3_latestVictim_0 rfl
theorem dX3_latestVictim_47 : decode cX3_latestVictim 47 = .ok (.imul, 1) := kt_o104 (j := 47) sX3_latestVictim_0 rfl
theorem dX3_latestVictim_48 : decode cX3_latestVictim 48 = .ok (.iload_n 1, 1) := kt_o27 (j := 48) sX3_latestVictim_0 rfl
theorem dX3_latestVictim_49 : decode cX3_latestVictim 49 = .ok (.iadd, 1) := kt_o96 (j := 49) sX3_latestVictim_0 rfl
theorem dX3_latestVictim_50 : decode cX3_latestVictim 50 = .ok (.iaload, 1) := kt_o46 (j := 50) sX3_latestVictim_0 rfl
theorem dX3_latestVictim_51 : decode cX3_latestVictim 51 = .ok (.goto 4, 3) := kt_o167 (j := 51) sX3_latestVictim_0 rfl (by decide +kernel)
theorem dX3_latestVictim_54 : decode cX3_latestVictim 54 = .ok (.iconst (-1), 1) := kt_o2 (j := 54) sX3_latestVictim_0 rfl
theorem dX3_latestVictim_55 : decode cX3_latestVictim 55 = .ok (.ireturn, 1) := kt_o172 (j := 55) sX3_latestVictim_0 rfl
theorem kt_wp_X3_unwind__X30 {w : Cond} (h : w ∈ wsX30) : w ∈ wsX3_unwind := List.mem_cons_of_mem _ (List.mem_append_left _ (List.mem_append_right _ (h)))
theorem kt_wp_X3_unwind__X80 {w : Cond} (h : w ∈ wsX80) : w ∈ wsX3_unwind := List.mem_cons_of_mem _ (List.mem_append_right _ (h))
set_option maxRecDepth 20000 in
theorem kt_wg_X8_place : wsX8_place.all goodWord = true := by decide +kernel
set_option maxRecDepth 20000 in
theorem ggX3_unwind_X8_place : GoodIn wsX3_unwind wsX8_place := goodIn_sub (kt_wf1 (List.mem_cons_of_mem _ (List.mem_append_left _ (List.mem_append_left _ (List.mem_cons_of_mem _ (List.mem_cons_of_mem _ (List.mem_cons_of_mem _ (List.mem_cons_of_mem _ (List.mem_cons_of_mem _ (List.mem_cons_of_mem _ (List.mem_cons_of_mem _ (List.mem_cons_of_mem _ (List.mem_cons_of_mem _ (List.mem_cons_of_mem _ (List.Mem.head _)))))))))))))) (kt_wfa (kt_wf1 (List.mem_cons_of_mem _ (List.mem_append_left _ (List.mem_append_left _ (List.mem_cons_of_mem _ (List.mem_cons_of_mem _ (List.mem_cons_of_mem _ (List.mem_cons_of_mem _ (List.mem_cons_of_mem _ (List.mem_cons_of_mem _ (List.mem_cons_of_mem _ (List.mem_cons_of_mem _ (List.mem_cons_of_mem _ (List.mem_cons_of_mem _ (List.mem_cons_of_mem _ (List.Mem.head _))))))))))))))) (kt_wf1 (List.mem_cons_of_mem _ (List.mem_append_left _ (List.mem_append_left _ (List.mem_cons_of_mem _ (List.mem_cons_of_mem _ (List.mem_cons_of_mem _ (List.mem_cons_of_mem _ (List.mem_cons_of_mem _ (List.mem_cons_of_mem _ (List.mem_cons_of_mem _ (List.mem_cons_of_mem _ (List.mem_cons_of_mem _ (List.mem_cons_of_mem _ (List.mem_cons_of_mem _ (List.mem_cons_of_mem _ (List.Mem.head _)))))))))))))))) kt_wf0)) (fun _ h => kt_wp_X3_unwind__X80 h))) kt_wg_X8_place
set_option maxRecDepth 20000 in
theorem gX3_unwind_X8_place : GoodIn wsX3_unwind (wsV RX3 62 RX8 yX8_place wsX8_place) := goodIn_app (a := [.methodLink RX3 62 yX8_place, .instanceMethod yX8_place, .selects RX8 yX8_place yX8_place, .initialized RX8]) (goodIn_sub (kt_wf1 (List.mem_cons_of_mem _ (List.mem_append_left _ (List.mem_append_left _ (List.mem_cons_of_mem _ (List.mem_cons_of_mem _ (List.mem_cons_of_mem _ (List.mem_cons_of_mem _ (List.mem_cons_of_mem _ (List.mem_cons_of_mem _ (List.Mem.head _)))))))))) (kt_wf1 (List.mem_cons_of_mem _ (List.mem_append_left _ (List.mem_append_left _ (List.mem_cons_of_mem _ (List.mem_cons_of_mem _ (List.mem_cons_of_mem _ (List.mem_cons_of_mem _ (List.mem_cons_of_mem _ (List.mem_cons_of_mem _ (List.mem_cons_of_mem _ (List.Mem.head _))))))))))) (kt_wf1 (List.mem_cons_of_mem _ (List.mem_append_left _ (List.mem_append_left _ (List.mem_cons_of_mem _ (List.mem_cons_of_mem _ (List.mem_cons_of_mem _ (List.mem_cons_of_mem _ (List.mem_cons_of_mem _ (List.mem_cons_of_mem _ (List.mem_cons_of_mem _ (List.mem_cons_of_mem _ (List.Mem.head _)))))))))))) (kt_wf1 (List.mem_cons_of_mem _ (List.mem_append_left _ (List.mem_append_left _ (List.mem_cons_of_mem _ (List.mem_cons_of_mem _ (List.mem_cons_of_mem _ (List.mem_cons_of_mem _ (List.mem_cons_of_mem _ (List.mem_cons_of_mem _ (List.mem_cons_of_mem _ (List.mem_cons_of_mem _ (List.mem_cons_of_mem _ (List.Mem.head _))))))))))))) kt_wf0)))) (by decide +kernel)) ggX3_unwind_X8_place
theorem sX3_unwind_0 : kt_sg cX3_unwind 0 [42, 180, 0, 33, 157, 0, 4, 177, 42, 89, 180, 0, 33, 4, 100, 181, 0, 33, 43, 42, 180, 0, 9, 42, 180, 0, 33, 46, 42, 180, 0, 15, 42, 180, 0, 33, 46, 182, 0, 62, 3, 61, 28, 42, 180, 0, 21, 42, 180, 0, 33, 46, 162, 0, 39, 43, 42, 180, 0, 24, 42, 180, 0, 33] = true := by decide +kernel
theorem dX3_unwind_0 : decode cX3_unwind 0 = .ok (.aload_n 0, 1) := kt_o42 (j := 0) sX3_unwind_0 rfl
theorem dX3_unwind_1 : decode cX3_unwind 1 = .ok (.getfield 33, 3) := kt_o180 (j := 1) sX3_unwind_0 rfl rfl
theorem dX3_unwind_4 : decode cX3_unwind 4 = .ok (.ifCond .gt 4, 3) := kt_o157 (j := 4) sX3_unwind_0 rfl (by decide +kernel)
theorem dX3_unwind_7 : decode cX3_unwind 7 = .ok (.return_, 1) := kt_o177 (j := 7) sX3_unwind_0 rfl
theorem dX3_unwind_8 : decode cX3_unwind 8 = .ok (.aload_n 0, 1) := kt_o42 (j := 8) sX3_unwind_0 rfl
theorem dX3_unwind_9 : decode cX3_unwind 9 = .ok (.dup, 1) := kt_o89 (j := 9) sX3_unwind_0 rfl
theorem dX3_unwind_10 : decode cX3_unwind 10 = .ok (.getfield 33, 3) := kt_o180 (j := 10) sX3_unwind_0 rfl rfl
theorem dX3_unwind_13 : decode cX3_unwind 13 = .ok (.iconst 1, 1) := kt_o4 (j := 13) sX3_unwind_0 rfl
theorem dX3_unwind_14 : decode cX3_unwind 14 = .ok (.isub, 1) := kt_o100 (j := 14) sX3_unwind_0 rfl
theorem dX3_unwind_15 : decode cX3_unwind 15 = .ok (.putfield 33, 3) := kt_o181 (j := 15) sX3_unwind_0 rfl rfl
theorem dX3_unwind_18 : decode cX3_unwind 18 = .ok (.aload_n 1, 1) := kt_o43 (j := 18) sX3_unwind_0 rfl
theorem dX3_unwind_19 : decode cX3_unwind 19 = .ok (.aload_n 0, 1) := kt_o42 (j := 19) sX3_unwind_0 rfl
theorem dX3_unwind_20 : decode cX3_unwind 20 = .ok (.getfield 9, 3) := kt_o180 (j := 20) sX3_unwind_0 rfl rfl
theorem dX3_unwind_23 : decode cX3_unwind 23 = .ok (.aload_n 0, 1) := kt_o42 (j := 23) sX3_unwind_0 rfl
theorem dX3_unwind_24 : decode cX3_unwind 24 = .ok (.getfield 33, 3) := kt_o180 (j := 24) sX3_unwind_0 rfl rfl
theorem dX3_unwind_27 : decode cX3_unwind 27 = .ok (.iaload, 1) := kt_o46 (j := 27) sX3_unwind_0 rfl
theorem dX3_unwind_28 : decode cX3_unwind 28 = .ok (.aload_n 0, 1) := kt_o42 (j := 28) sX3_unwind_0 rfl
theorem dX3_unwind_29 : decode cX3_unwind 29 = .ok (.getfield 15, 3) := kt_o180 (j := 29) sX3_unwind_0 rfl rfl
theorem dX3_unwind_32 : decode cX3_unwind 32 = .ok (.aload_n 0, 1) := kt_o42 (j := 32) sX3_unwind_0 rfl
theorem dX3_unwind_33 : decode cX3_unwind 33 = .ok (.getfield 33, 3) := kt_o180 (j := 33) sX3_unwind_0 rfl rfl
theorem dX3_unwind_36 : decode cX3_unwind 36 = .ok (.iaload, 1) := kt_o46 (j := 36) sX3_unwind_0 rfl
theorem dX3_unwind_37 : decode cX3_unwind 37 = .ok (.invokevirtual 62, 3) := kt_o182 (j := 37) sX3_unwind_0 rfl rfl
theorem dX3_unwind_40 : decode cX3_unwind 40 = .ok (.iconst 0, 1) := kt_o3 (j := 40) sX3_unwind_0 rfl
theorem dX3_unwind_41 : decode cX3_unwind 41 = .ok (.istore_n 2, 1) := kt_o61 (j := 41) sX3_unwind_0 rfl
theorem dX3_unwind_42 : decode cX3_unwind 42 = .ok (.iload_n 2, 1) := kt_o28 (j := 42) sX3_unwind_0 rfl
theorem dX3_unwind_43 : decode cX3_unwind 43 = .ok (.aload_n 0, 1) := kt_o42 (j := 43) sX3_unwind_0 rfl
theorem dX3_unwind_44 : decode cX3_unwind 44 = .ok (.getfield 21, 3) := kt_o180 (j := 44) sX3_unwind_0 rfl rfl
theorem dX3_unwind_47 : decode cX3_unwind 47 = .ok (.aload_n 0, 1) := kt_o42 (j := 47) sX3_unwind_0 rfl
theorem dX3_unwind_48 : decode cX3_unwind 48 = .ok (.getfield 33, 3) := kt_o180 (j := 48) sX3_unwind_0 rfl rfl
theorem dX3_unwind_51 : decode cX3_unwind 51 = .ok (.iaload, 1) := kt_o46 (j := 51) sX3_unwind_0 rfl
theorem dX3_unwind_52 : decode cX3_unwind 52 = .ok (.if_icmp .ge 39, 3) := kt_o162 (j := 52) sX3_unwind_0 rfl (by decide +kernel)
theorem dX3_unwind_55 : decode cX3_unwind 55 = .ok (.aload_n 1, 1) := kt_o43 (j := 55) sX3_unwind_0 rfl
theorem dX3_unwind_56 : decode cX3_unwind 56 = .ok (.aload_n 0, 1) := kt_o42 (j := 56) sX3_unwind_0 rfl
theorem dX3_unwind_57 : decode cX3_unwind 57 = .ok (.getfield 24, 3) := kt_o180 (j := 57) sX3_unwind_0 rfl rfl
theorem dX3_unwind_60 : decode cX3_unwind 60 = .ok (.aload_n 0, 1) := kt_o42 (j := 60) sX3_unwind_0 rfl
theorem dX3_unwind_61 : decode cX3_unwind 61 = .ok (.getfield 33, 3) := kt_o180 (j := 61) sX3_unwind_0 rfl rfl
theorem sX3_unwind_64 : kt_sg cX3_unwind 64 [7, 104, 28, 96, 46, 42, 180, 0, 27, 42, 180, 0, 33, 7, 104, 28, 96, 46, 182, 0, 62, 132, 2, 1, 167, 255, 210, 43, 4, 43, 180, 0, 66, 100, 181, 0, 66, 177] = true := by decide +kernel
theorem dX3_unwind_64 : decode cX3_unwind 64 = .ok (.iconst 4, 1) := kt_o7 (j := 0) sX3_unwind_64 rfl
theorem dX3_unwind_65 : decode cX3_unwind 65 = .ok (.imul, 1) := kt_o104 (j := 1) sX3_unwind_64 rfl
theorem dX3_unwind_66 : decode cX3_unwind 66 = .ok (.iload_n 2, 1) := kt_o28 (j := 2) sX3_unwind_64 rfl
theorem dX3_unwind_67 : decode cX3_unwind 67 = .ok (.iadd, 1) := kt_o96 (j := 3) sX3_unwind_64 rfl
theorem dX3_unwind_68 : decode cX3_unwind 68 = .ok (.iaload, 1) := kt_o46 (j := 4) sX3_unwind_64 rfl
theorem dX3_unwind_69 : decode cX3_unwind 69 = .ok (.aload_n 0, 1) := kt_o42 (j := 5) sX3_unwind_64 rfl
theorem dX3_unwind_70 : decode cX3_unwind 70 = .ok (.getfield 27, 3) := kt_o180 (j := 6) sX3_unwind_64 rfl rfl
theorem dX3_unwind_73 : decode cX3_unwind 73 = .ok (.aload_n 0, 1) := kt_o42 (j := 9) sX3_unwind_64 rfl
theorem dX3_unwind_74 : decode cX3_unwind 74 = .ok (.getfield 33, 3) := kt_o180 (j := 10) sX3_unwind_64 rfl rfl
theorem dX3_unwind_77 : decode cX3_unwind 77 = .ok (.iconst 4, 1) := kt_o7 (j := 13) sX3_unwind_64 rfl
theorem dX3_unwind_78 : decode cX3_unwind 78 = .ok (.imul, 1) := kt_o104 (j := 14) sX3_unwind_64 rfl
theorem dX3_unwind_79 : decode cX3_unwind 79 = .ok (.iload_n 2, 1) := kt_o28 (j := 15) sX3_unwind_64 rfl
theorem dX3_unwind_80 : decode cX3_unwind 80 = .ok (.iadd, 1) := kt_o96 (j := 16) sX3_unwind_64 rfl
theorem dX3_unwind_81 : decode cX3_unwind 81 = .ok (.iaload, 1) := kt_o46 (j := 17) sX3_unwind_64 rfl
theorem dX3_unwind_82 : decode cX3_unwind 82 = .ok (.invokevirtual 62, 3) := kt_o182 (j := 18) sX3_unwind_64 rfl rfl
theorem dX3_unwind_85 : decode cX3_unwind 85 = .ok (.iinc 2 1, 3) := kt_o132 (j := 21) sX3_unwind_64 rfl (by decide +kernel)
theorem dX3_unwind_88 : decode cX3_unwind 88 = .ok (.goto (-46), 3) := kt_o167 (j := 24) sX3_unwind_64 rfl (by decide +kernel)
theorem dX3_unwind_91 : decode cX3_unwind 91 = .ok (.aload_n 1, 1) := kt_o43 (j := 27) sX3_unwind_64 rfl
theorem dX3_unwind_92 : decode cX3_unwind 92 = .ok (.iconst 1, 1) := kt_o4 (j := 28) sX3_unwind_64 rfl
theorem dX3_unwind_93 : decode cX3_unwind 93 = .ok (.aload_n 1, 1) := kt_o43 (j := 29) sX3_unwind_64 rfl
theorem dX3_unwind_94 : decode cX3_unwind 94 = .ok (.getfield 66, 3) := kt_o180 (j := 30) sX3_unwind_64 rfl rfl
theorem dX3_unwind_97 : decode cX3_unwind 97 = .ok (.isub, 1) := kt_o100 (j := 33) sX3_unwind_64 rfl
theorem dX3_unwind_98 : decode cX3_unwind 98 = .ok (.putfield 66, 3) := kt_o181 (j := 34) sX3_unwind_64 rfl rfl
theorem dX3_unwind_101 : decode cX3_unwind 101 = .ok (.return_, 1) := kt_o177 (j := 37) sX3_unwind_64 rfl
theorem kt_wp_X3_hasSeen__X80 {w : Cond} (h : w ∈ wsX80) : w ∈ wsX3_hasSeen := List.mem_cons_of_mem _ (List.mem_append_left _ (List.mem_append_right _ (h)))
theorem kt_wp_X3_hasSeen__X30 {w : Cond} (h : w ∈ wsX30) : w ∈ wsX3_hasSeen := List.mem_cons_of_mem _ (List.mem_append_right _ (h))
set_option maxRecDepth 20000 in
theorem ggX3_hasSeen_X8_fieldOf : GoodIn wsX3_hasSeen wsX8_fieldOf := goodIn_sub (kt_wf1 (List.mem_cons_of_mem _ (List.mem_append_left _ (List.mem_append_left _ (List.mem_cons_of_mem _ (List.mem_cons_of_mem _ (List.mem_cons_of_mem _ (List.mem_cons_of_mem _ (List.mem_cons_of_mem _ (List.mem_cons_of_mem _ (List.mem_cons_of_mem _ (List.mem_cons_of_mem _ (List.mem_cons_of_mem _ (List.mem_cons_of_mem _ (List.mem_cons_of_mem _ (List.mem_cons_of_mem _ (List.mem_cons_of_mem _ (List.Mem.head _))))))))))))))))) (kt_wfa (kt_wf1 (List.mem_cons_of_mem _ (List.mem_append_left _ (List.mem_append_left _ (List.mem_cons_of_mem _ (List.mem_cons_of_mem _ (List.mem_cons_of_mem _ (List.mem_cons_of_mem _ (List.mem_cons_of_mem _ (List.mem_cons_of_mem _ (List.mem_cons_of_mem _ (List.mem_cons_of_mem _ (List.mem_cons_of_mem _ (List.mem_cons_of_mem _ (List.mem_cons_of_mem _ (List.mem_cons_of_mem _ (List.mem_cons_of_mem _ (List.mem_cons_of_mem _ (List.Mem.head _)))))))))))))))))) kt_wf0) (fun _ h => kt_wp_X3_hasSeen__X80 h))) kt_wg_X8_fieldOf
set_option maxRecDepth 20000 in
theorem gX3_hasSeen_X8_fieldOf : GoodIn wsX3_hasSeen (wsV RX3 44 RX8 yX8_fieldOf wsX8_fieldOf) := goodIn_app (a := [.methodLink RX3 44 yX8_fieldOf, .instanceMethod yX8_fieldOf, .selects RX8 yX8_fieldOf yX8_fieldOf, .initialized RX8]) (goodIn_sub (kt_wf1 (List.mem_cons_of_mem _ (List.mem_append_left _ (List.mem_append_left _ (List.mem_cons_of_mem _ (List.mem_cons_of_mem _ (List.mem_cons_of_mem _ (List.mem_cons_of_mem _ (List.mem_cons_of_mem _ (List.mem_cons_of_mem _ (List.mem_cons_of_mem _ (List.mem_cons_of_mem _ (List.mem_cons_of_mem _ (List.Mem.head _))))))))))))) (kt_wf1 (List.mem_cons_of_mem _ (List.mem_append_left _ (List.mem_append_left _ (List.mem_cons_of_mem _ (List.mem_cons_of_mem _ (List.mem_cons_of_mem _ (List.mem_cons_of_mem _ (List.mem_cons_of_mem _ (List.mem_cons_of_mem _ (List.mem_cons_of_mem _ (List.mem_cons_of_mem _ (List.mem_cons_of_mem _ (List.mem_cons_of_mem _ (List.Mem.head _)))))))))))))) (kt_wf1 (List.mem_cons_of_mem _ (List.mem_append_left _ (List.mem_append_left _ (List.mem_cons_of_mem _ (List.mem_cons_of_mem _ (List.mem_cons_of_mem _ (List.mem_cons_of_mem _ (List.mem_cons_of_mem _ (List.mem_cons_of_mem _ (List.mem_cons_of_mem _ (List.mem_cons_of_mem _ (List.mem_cons_of_mem _ (List.mem_cons_of_mem _ (List.mem_cons_of_mem _ (List.Mem.head _))))))))))))))) (kt_wf1 (List.mem_cons_of_mem _ (List.mem_append_left _ (List.mem_append_left _ (List.mem_cons_of_mem _ (List.mem_cons_of_mem _ (List.mem_cons_of_mem _ (List.mem_cons_of_mem _ (List.mem_cons_of_mem _ (List.mem_cons_of_mem _ (List.mem_cons_of_mem _ (List.mem_cons_of_mem _ (List.mem_cons_of_mem _ (List.mem_cons_of_mem _ (List.mem_cons_of_mem _ (List.mem_cons_of_mem _ (List.Mem.head _)))))))))))))))) kt_wf0)))) (by decide +kernel)) ggX3_hasSeen_X8_fieldOf
theorem sX3_hasSeen_0 : kt_sg cX3_hasSeen 0 [43, 180, 0, 69, 3, 42, 180, 0, 30, 3, 16, 40, 184, 0, 72, 4, 54, 4, 42, 180, 0, 33, 4, 100, 54, 5, 21, 5, 155, 0, 136, 42, 180, 0, 21, 21, 5, 46, 154, 0, 126, 42, 180, 0, 9, 21, 5, 46, 54, 6, 21, 6, 28, 160, 0, 7, 29, 167, 0, 9, 43, 21, 6, 182, 0, 44] = true := by decide +kernel
theorem dX3_hasSeen_0 : decode cX3_hasSeen 0 = .ok (.aload_n 1, 1) := kt_o43 (j := 0) sX3_hasSeen_0 rfl
theorem dX3_hasSeen_1 : decode cX3_hasSeen 1 = .ok (.getfield 69, 3) := kt_o180 (j := 1) sX3_hasSeen_0 rfl rfl
theorem dX3_hasSeen_4 : decode cX3_hasSeen 4 = .ok (.iconst 0, 1) := kt_o3 (j := 4) sX3_hasSeen_0 rfl
theorem dX3_hasSeen_5 : decode cX3_hasSeen 5 = .ok (.aload_n 0, 1) := kt_o42 (j := 5) sX3_hasSeen_0 rfl
theorem dX3_hasSeen_6 : decode cX3_hasSeen 6 = .ok (.getfield 30, 3) := kt_o180 (j := 6) sX3_hasSeen_0 rfl rfl
theorem dX3_hasSeen_9 : decode cX3_hasSeen 9 = .ok (.iconst 0, 1) := kt_o3 (j := 9) sX3_hasSeen_0 rfl
theorem dX3_hasSeen_10 : decode cX3_hasSeen 10 = .ok (.bipush 40, 2) := kt_o16 (j := 10) sX3_hasSeen_0 rfl (by decide +kernel)
theorem dX3_hasSeen_12 : decode cX3_hasSeen 12 = .ok (.invokestatic 72, 3) := kt_o184 (j := 12) sX3_hasSeen_0 rfl rfl
theorem dX3_hasSeen_15 : decode cX3_hasSeen 15 = .ok (.iconst 1, 1) := kt_o4 (j := 15) sX3_hasSeen_0 rfl
theorem dX3_hasSeen_16 : decode cX3_hasSeen 16 = .ok (.istore 4, 2) := kt_o54 (j := 16) sX3_hasSeen_0 rfl
theorem dX3_hasSeen_18 : decode cX3_hasSeen 18 = .ok (.aload_n 0, 1) := kt_o42 (j := 18) sX3_hasSeen_0 rfl
theorem dX3_hasSeen_19 : decode cX3_hasSeen 19 = .ok (.getfield 33, 3) := kt_o180 (j := 19) sX3_hasSeen_0 rfl rfl
theorem dX3_hasSeen_22 : decode cX3_hasSeen 22 = .ok (.iconst 1, 1) := kt_o4 (j := 22) sX3_hasSeen_0 rfl
theorem dX3_hasSeen_23 : decode cX3_hasSeen 23 = .ok (.isub, 1) := kt_o100 (j := 23) sX3_hasSeen_0 rfl
theorem dX3_hasSeen_24 : decode cX3_hasSeen 24 = .ok (.istore 5, 2) := kt_o54 (j := 24) sX3_hasSeen_0 rfl
theorem dX3_hasSeen_26 : decode cX3_hasSeen 26 = .ok (.iload 5, 2) := kt_o21 (j := 26) sX3_hasSeen_0 rfl
theorem dX3_hasSeen_28 : decode cX3_hasSeen 28 = .ok (.ifCond .lt 136, 3) := kt_o155 (j := 28) sX3_hasSeen_0 rfl (by decide +kernel)
theorem dX3_hasSeen_31 : decode cX3_hasSeen 31 = .ok (.aload_n 0, 1) := kt_o42 (j := 31) sX3_hasSeen_0 rfl
theorem dX3_hasSeen_32 : decode cX3_hasSeen 32 = .ok (.getfield 21, 3) := kt_o180 (j := 32) sX3_hasSeen_0 rfl rfl
theorem dX3_hasSeen_35 : decode cX3_hasSeen 35 = .ok (.iload 5, 2) := kt_o21 (j := 35) sX3_hasSeen_0 rfl
theorem dX3_hasSeen_37 : decode cX3_hasSeen 37 = .ok (.iaload, 1) := kt_o46 (j := 37) sX3_hasSeen_0 rfl
theorem dX3_hasSeen_38 : decode cX3_hasSeen 38 = .ok (.ifCond .ne 126, 3) := kt_o154 (j := 38) sX3_hasSeen_0 rfl (by decide +kernel)
theorem dX3_hasSeen_41 : decode cX3_hasSeen 41 = .ok (.aload_n 0, 1) := kt_o42 (j := 41) sX3_hasSeen_0 rfl
theorem dX3_hasSeen_42 : decode cX3_hasSeen 42 = .ok (.getfield 9, 3) := kt_o180 (j := 42) sX3_hasSeen_0 rfl rfl
theorem dX3_hasSeen_45 : decode cX3_hasSeen 45 = .ok (.iload 5, 2) := kt_o21 (j := 45) sX3_hasSeen_0 rfl
theorem dX3_hasSeen_47 : decode cX3_hasSeen 47 = .ok (.iaload, 1) := kt_o46 (j := 47) sX3_hasSeen_0 rfl
theorem dX3_hasSeen_48 : decode cX3_hasSeen 48 = .ok (.istore 6, 2) := kt_o54 (j := 48) sX3_hasSeen_0 rfl
theorem dX3_hasSeen_50 : decode cX3_hasSeen 50 = .ok (.iload 6, 2) := kt_o21 (j := 50) sX3_hasSeen_0 rfl
theorem dX3_hasSeen_52 : decode cX3_hasSeen 52 = .ok (.iload_n 2, 1) := kt_o28 (j := 52) sX3_hasSeen_0 rfl
theorem dX3_hasSeen_53 : decode cX3_hasSeen 53 = .ok (.if_icmp .ne 7, 3) := kt_o160 (j := 53) sX3_hasSeen_0 rfl (by decide +kernel)
theorem dX3_hasSeen_56 : decode cX3_hasSeen 56 = .ok (.iload_n 3, 1) := kt_o29 (j := 56) sX3_hasSeen_0 rfl
theorem dX3_hasSeen_57 : decode cX3_hasSeen 57 = .ok (.goto 9, 3) := kt_o167 (j := 57) sX3_hasSeen_0 rfl (by decide +kernel)
theorem dX3_hasSeen_60 : decode cX3_hasSeen 60 = .ok (.aload_n 1, 1) := kt_o43 (j := 60) sX3_hasSeen_0 rfl
theorem dX3_hasSeen_61 : decode cX3_hasSeen 61 = .ok (.iload 6, 2) := kt_o21 (j := 61) sX3_hasSeen_0 rfl
theorem dX3_hasSeen_63 : decode cX3_hasSeen 63 = .ok (.invokevirtual 44, 3) := kt_o182 (j := 63) sX3_hasSeen_0 rfl rfl
theorem sX3_hasSeen_66 : kt_sg cX3_hasSeen 66 [54, 7, 21, 4, 42, 180, 0, 30, 21, 6, 46, 21, 7, 160, 0, 7, 4, 167, 0, 4, 3, 96, 54, 4, 42, 180, 0, 30, 21, 6, 42, 180, 0, 15, 21, 5, 46, 79, 21, 4, 42, 180, 0, 30, 21, 6, 46, 21, 7, 160, 0, 7, 4, 167, 0, 4, 3, 100, 54, 4, 42, 180, 0, 33] = true := by decide +kernel
theorem dX3_hasSeen_66 : decode cX3_hasSeen 66 = .ok (.istore 7, 2) := kt_o54 (j := 0) sX3_hasSeen_66 rfl
theorem dX3_hasSeen_68 : decode cX3_hasSeen 68 = .ok (.iload 4, 2) := kt_o21 (j := 2) sX3_hasSeen_66 rfl
theorem dX3_hasSeen_70 : decode cX3_hasSeen 70 = .ok (.aload_n 0, 1) := kt_o42 (j := 4) sX3_hasSeen_66 rfl
theorem dX3_hasSeen_71 : decode cX3_hasSeen 71 = .ok (.getfield 30, 3) := kt_o180 (j := 5) sX3_hasSeen_66 rfl rfl
theorem dX3_hasSeen_74 : decode cX3_hasSeen 74 = .ok (.iload 6, 2) := kt_o21 (j := 8) sX3_hasSeen_66 rfl
theorem dX3_hasSeen_76 : decode cX3_hasSeen 76 = .ok (.iaload, 1) := kt_o46 (j := 10) sX3_hasSeen_66 rfl
theorem dX3_hasSeen_77 : decode cX3_hasSeen 77 = .ok (.iload 7, 2) := kt_o21 (j := 11) sX3_hasSeen_66 rfl
theorem dX3_hasSeen_79 : decode cX3_hasSeen 79 = .ok (.if_icmp .ne 7, 3) := kt_o160 (j := 13) sX3_hasSeen_66 rfl (by decide +kernel)
theorem dX3_hasSeen_82 : decode cX3_hasSeen 82 = .ok (.iconst 1, 1) := kt_o4 (j := 16) sX3_hasSeen_66 rfl
theorem dX3_hasSeen_83 : decode cX3_hasSeen 83 = .ok (.goto 4, 3) := kt_o167 (j := 17) sX3_hasSeen_66 rfl (by decide +kernel)
theorem dX3_hasSeen_86 : decode cX3_hasSeen 86 = .ok (.iconst 0, 1) := kt_o3 (j := 20) sX3_hasSeen_66 rfl
theorem dX3_hasSeen_87 : decode cX3_hasSeen 87 = .ok (.iadd, 1) := kt_o96 (j := 21) sX3_hasSeen_66 rfl
theorem dX3_hasSeen_88 : decode cX3_hasSeen 88 = .ok (.istore 4, 2) := kt_o54 (j := 22) sX3_hasSeen_66 rfl
theorem dX3_hasSeen_90 : decode cX3_hasSeen 90 = .ok (.aload_n 0, 1) := kt_o42 (j := 24) sX3_hasSeen_66 rfl
theorem dX3_hasSeen_91 : decode cX3_hasSeen 91 = .ok (.getfield 30, 3) := kt_o180 (j := 25) sX3_hasSeen_66 rfl rfl
theorem dX3_hasSeen_94 : decode cX3_hasSeen 94 = .ok (.iload 6, 2) := kt_o21 (j := 28) sX3_hasSeen_66 rfl
theorem dX3_hasSeen_96 : decode cX3_hasSeen 96 = .ok (.aload_n 0, 1) := kt_o42 (j := 30) sX3_hasSeen_66 rfl
theorem dX3_hasSeen_97 : decode cX3_hasSeen 97 = .ok (.getfield 15, 3) := kt_o180 (j := 31) sX3_hasSeen_66 rfl rfl
theorem dX3_hasSeen_100 : decode cX3_hasSeen 100 = .ok (.iload 5, 2) := kt_o21 (j := 34) sX3_hasSeen_66 rfl
theorem dX3_hasSeen_102 : decode cX3_hasSeen 102 = .ok (.iaload, 1) := kt_o46 (j := 36) sX3_hasSeen_66 rfl
theorem dX3_hasSeen_103 : decode cX3_hasSeen 103 = .ok (.iastore, 1) := kt_o79 (j := 37) sX3_hasSeen_66 rfl
theorem dX3_hasSeen_104 : decode cX3_hasSeen 104 = .ok (.iload 4, 2) := kt_o21 (j := 38) sX3_hasSeen_66 rfl
theorem dX3_hasSeen_106 : decode cX3_hasSeen 106 = .ok (.aload_n 0, 1) := kt_o42 (j := 40) sX3_hasSeen_66 rfl
theorem dX3_hasSeen_107 : decode cX3_hasSeen 107 = .ok (.getfield 30, 3) := kt_o180 (j := 41) sX3_hasSeen_66 rfl rfl
theorem dX3_hasSeen_110 : decode cX3_hasSeen 110 = .ok (.iload 6, 2) := kt_o21 (j := 44) sX3_hasSeen_66 rfl
theorem dX3_hasSeen_112 : decode cX3_hasSeen 112 = .ok (.iaload, 1) := kt_o46 (j := 46) sX3_hasSeen_66 rfl
theorem dX3_hasSeen_113 : decode cX3_hasSeen 113 = .ok (.iload 7, 2) := kt_o21 (j := 47) sX3_hasSeen_66 rfl
theorem dX3_hasSeen_115 : decode cX3_hasSeen 115 = .ok (.if_icmp .ne 7, 3) := kt_o160 (j := 49) sX3_hasSeen_66 rfl (by decide +kernel)
theorem dX3_hasSeen_118 : decode cX3_hasSeen 118 = .ok (.iconst 1, 1) := kt_o4 (j := 52) sX3_hasSeen_66 rfl
theorem dX3_hasSeen_119 : decode cX3_hasSeen 119 = .ok (.goto 4, 3) := kt_o167 (j := 53) sX3_hasSeen_66 rfl (by decide +kernel)
theorem dX3_hasSeen_122 : decode cX3_hasSeen 122 = .ok (.iconst 0, 1) := kt_o3 (j := 56) sX3_hasSeen_66 rfl
theorem dX3_hasSeen_123 : decode cX3_hasSeen 123 = .ok (.isub, 1) := kt_o100 (j := 57) sX3_hasSeen_66 rfl
theorem dX3_hasSeen_124 : decode cX3_hasSeen 124 = .ok (.istore 4, 2) := kt_o54 (j := 58) sX3_hasSeen_66 rfl
theorem dX3_hasSeen_126 : decode cX3_hasSeen 126 = .ok (.aload_n 0, 1) := kt_o42 (j := 60) sX3_hasSeen_66 rfl
theorem dX3_hasSeen_127 : decode cX3_hasSeen 127 = .ok (.getfield 33, 3) := kt_o180 (j := 61) sX3_hasSeen_66 rfl rfl
theorem sX3_hasSeen_130 : kt_sg cX3_hasSeen 130 [21, 5, 100, 4, 126, 4, 160, 0, 7, 4, 167, 0, 4, 3, 54, 8, 21, 4, 154, 0, 10, 21, 8, 153, 0, 5, 4, 172, 132, 5, 255, 167, 255, 121, 3, 172] = true := by decide +kernel
theorem dX3_hasSeen_130 : decode cX3_hasSeen 130 = .ok (.iload 5, 2) := kt_o21 (j := 0) sX3_hasSeen_130 rfl
theorem dX3_hasSeen_132 : decode cX3_hasSeen 132 = .ok (.isub, 1) := kt_o100 (j := 2) sX3_hasSeen_130 rfl
theorem dX3_hasSeen_133 : decode cX3_hasSeen 133 = .ok (.iconst 1, 1) := kt_o4 (j := 3) sX3_hasSeen_130 rfl
theorem dX3_hasSeen_134 : decode cX3_hasSeen 134 = .ok (.iand, 1) := kt_o126 (j := 4) sX3_hasSeen_130 rfl
theorem dX3_hasSeen_135 : decode cX3_hasSeen 135 = .ok (.iconst 1, 1) := kt_o4 (j := 5) sX3_hasSeen_130 rfl
theorem dX3_hasSeen_136 : decode cX3_hasSeen 136 = .ok (.if_icmp .ne 7, 3) := kt_o160 (j := 6) sX3_hasSeen_130 rfl (by decide +kernel)
theorem dX3_hasSeen_139 : decode cX3_hasSeen 139 = .ok (.iconst 1, 1) := kt_o4 (j := 9) sX3_hasSeen_130 rfl
theorem dX3_hasSeen_140 : decode cX3_hasSeen 140 = .ok (.goto 4, 3) := kt_o167 (j := 10) sX3_hasSeen_130 rfl (by decide +kernel)
theorem dX3_hasSeen_143 : decode cX3_hasSeen 143 = .ok (.iconst 0, 1) := kt_o3 (j := 13) sX3_hasSeen_130 rfl
theorem dX3_hasSeen_144 : decode cX3_hasSeen 144 = .ok (.istore 8, 2) := kt_o54 (j := 14) sX3_hasSeen_130 rfl
theorem dX3_hasSeen_146 : decode cX3_hasSeen 146 = .ok (.iload 4, 2) := kt_o21 (j := 16) sX3_hasSeen_130 rfl
theorem dX3_hasSeen_148 : decode cX3_hasSeen 148 = .ok (.ifCond .ne 10, 3) := kt_o154 (j := 18) sX3_hasSeen_130 rfl (by decide +kernel)
theorem dX3_hasSeen_151 : decode cX3_hasSeen 151 = .ok (.iload 8, 2) := kt_o21 (j := 21) sX3_hasSeen_130 rfl
theorem dX3_hasSeen_153 : decode cX3_hasSeen 153 = .ok (.ifCond .eq 5, 3) := kt_o153 (j := 23) sX3_hasSeen_130 rfl (by decide +kernel)
theorem dX3_hasSeen_156 : decode cX3_hasSeen 156 = .ok (.iconst 1, 1) := kt_o4 (j := 26) sX3_hasSeen_130 rfl
theorem dX3_hasSeen_157 : decode cX3_hasSeen 157 = .ok (.ireturn, 1) := kt_o172 (j := 27) sX3_hasSeen_130 rfl
theorem dX3_hasSeen_158 : decode cX3_hasSeen 158 = .ok (.iinc 5 (-1), 3) := kt_o132 (j := 28) sX3_hasSeen_130 rfl (by decide +kernel)
theorem dX3_hasSeen_161 : decode cX3_hasSeen 161 = .ok (.goto (-135), 3) := kt_o167 (j := 31) sX3_hasSeen_130 rfl (by decide +kernel)
theorem dX3_hasSeen_164 : decode cX3_hasSeen 164 = .ok (.iconst 0, 1) := kt_o3 (j := 34) sX3_hasSeen_130 rfl
theorem dX3_hasSeen_165 : decode cX3_hasSeen 165 = .ok (.ireturn, 1) := kt_o172 (j := 35) sX3_hasSeen_130 rfl
theorem kt_wp_X4_init__X4_init_r1 {w : Cond} (h : w ∈ wsX4_init_r1) : w ∈ wsX4_init := List.mem_cons_of_mem _ (List.mem_append_left _ (List.mem_append_left _ (List.mem_append_left _ (List.mem_append_left _ (h)))))
theorem kt_wp_X4_init__X4_init_r2 {w : Cond} (h : w ∈ wsX4_init_r2) : w ∈ wsX4_init := List.mem_cons_of_mem _ (List.mem_append_left _ (List.mem_append_left _ (List.mem_append_left _ (List.mem_append_right _ (h)))))
theorem kt_wp_X4_init__X80 {w : Cond} (h : w ∈ wsX80) : w ∈ wsX4_init := List.mem_cons_of_mem _ (List.mem_append_left _ (List.mem_append_left _ (List.mem_append_right _ (h))))
theorem kt_wp_X4_init__X40 {w : Cond} (h : w ∈ wsX40) : w ∈ wsX4_init := List.mem_cons_of_mem _ (List.mem_append_left _ (List.mem_append_right _ (h)))
theorem kt_wp_X4_init__X30 {w : Cond} (h : w ∈ wsX30) : w ∈ wsX4_init := List.mem_cons_of_mem _ (List.mem_append_right _ (h))
set_option maxRecDepth 20000 in
theorem kt_wg_X8_init : wsX8_init.all goodWord = true := by decide +kernel
set_option maxRecDepth 20000 in
theorem ggX4_init_X8_init : GoodIn wsX4_init wsX8_init := goodIn_sub (kt_wf1 (kt_wp_X4_init__X4_init_r1 kt_wm16) (kt_wfa (kt_wf1 (kt_wp_X4_init__X4_init_r1 kt_wm17) (kt_wf1 (kt_wp_X4_init__X4_init_r1 kt_wm1) (kt_wf1 (kt_wp_X4_init__X4_init_r1 kt_wm2) (kt_wf1 (kt_wp_X4_init__X4_init_r1 kt_wm18) (kt_wf1 (kt_wp_X4_init__X4_init_r1 kt_wm19) (kt_wf1 (kt_wp_X4_init__X4_init_r1 kt_wm20) (kt_wf1 (kt_wp_X4_init__X4_init_r1 kt_wm21) (kt_wf1 (kt_wp_X4_init__X4_init_r1 kt_wm22) (kt_wf1 (kt_wp_X4_init__X4_init_r1 kt_wm23) (kt_wf1 (kt_wp_X4_init__X4_init_r1 kt_wm5) (kt_wf1 (kt_wp_X4_init__X4_init_r2 kt_wm0) (kt_wf1 (kt_wp_X4_init__X4_init_r2 kt_wm1) (kt_wf1 (kt_wp_X4_init__X4_init_r2 kt_wm2) (kt_wf1 (kt_wp_X4_init__X4_init_r2 kt_wm3) (kt_wf1 (kt_wp_X4_init__X4_init_r2 kt_wm4) (kt_wf1 (kt_wp_X4_init__X4_init_r2 kt_wm5) kt_wf0)))))))))))))))) (fun _ h => kt_wp_X4_init__X80 h))) kt_wg_X8_init
set_option maxRecDepth 20000 in
theorem gX4_init_X8_init : GoodIn wsX4_init (wsX8_init) := ggX4_init_X8_init
set_option maxRecDepth 20000 in
theorem kt_wg_X3_init : wsX3_init.all goodWord = true := by decide +kernel
set_option maxRecDepth 20000 in
theorem ggX4_init_X3_init : GoodIn wsX4_init wsX3_init := goodIn_sub (kt_wf1 (kt_wp_X4_init__X4_init_r2 kt_wm7) (kt_wfa (kt_wf1 (kt_wp_X4_init__X4_init_r2 kt_wm8) (kt_wf1 (kt_wp_X4_init__X4_init_r1 kt_wm1) (kt_wf1 (kt_wp_X4_init__X4_init_r1 kt_wm2) (kt_wf1 (kt_wp_X4_init__X4_init_r1 kt_wm18) (kt_wf1 (kt_wp_X4_init__X4_init_r2 kt_wm9) (kt_wf1 (kt_wp_X4_init__X4_init_r2 kt_wm10) (kt_wf1 (kt_wp_X4_init__X4_init_r2 kt_wm11) (kt_wf1 (kt_wp_X4_init__X4_init_r2 kt_wm12) (kt_wf1 (kt_wp_X4_init__X4_init_r2 kt_wm13) (kt_wf1 (kt_wp_X4_init__X4_init_r2 kt_wm14) (kt_wf1 (kt_wp_X4_init__X4_init_r2 kt_wm15) kt_wf0))))))))))) (fun _ h => kt_wp_X4_init__X30 h))) kt_wg_X3_init
set_option maxRecDepth 20000 in
theorem gX4_init_X3_init_n20 : GoodIn wsX4_init (wsX3_init) := ggX4_init_X3_init
theorem sX4_init_0 : kt_sg cX4_init 0 [42, 183, 0, 3, 42, 187, 0, 9, 89, 183, 0, 11, 181, 0, 12, 42, 187, 0, 18, 89, 183, 0, 20, 181, 0, 21, 42, 3, 181, 0, 25, 42, 43, 181, 0, 29, 42, 44, 181, 0, 33, 177] = true := by decide +kernel
theorem dX4_init_0 : decode cX4_init 0 = .ok (.aload_n 0, 1) := kt_o42 (j := 0) sX4_init_0 rfl
theorem dX4_init_1 : decode cX4_init 1 = .ok (.invokespecial 3, 3) := kt_o183 (j := 1) sX4_init_0 rfl rfl
theorem dX4_init_4 : decode cX4_init 4 = .ok (.aload_n 0, 1) := kt_o42 (j := 4) sX4_init_0 rfl
theorem dX4_init_5 : decode cX4_init 5 = .ok (.new 9, 3) := kt_o187 (j := 5) sX4_init_0 rfl rfl
theorem dX4_init_8 : decode cX4_init 8 = .ok (.dup, 1) := kt_o89 (j := 8) sX4_init_0 rfl
theorem dX4_init_9 : decode cX4_init 9 = .ok (.invokespecial 11, 3) := kt_o183 (j := 9) sX4_init_0 rfl rfl
theorem dX4_init_12 : decode cX4_init 12 = .ok (.putfield 12, 3) := kt_o181 (j := 12) sX4_init_0 rfl rfl
theorem dX4_init_15 : decode cX4_init 15 = .ok (.aload_n 0, 1) := kt_o42 (j := 15) sX4_init_0 rfl
theorem dX4_init_16 : decode cX4_init 16 = .ok (.new 18, 3) := kt_o187 (j := 16) sX4_init_0 rfl rfl
theorem dX4_init_19 : decode cX4_init 19 = .ok (.dup, 1) := kt_o89 (j := 19) sX4_init_0 rfl
theorem dX4_init_20 : decode cX4_init 20 = .ok (.invokespecial 20, 3) := kt_o183 (j := 20) sX4_init_0 rfl rfl
theorem dX4_init_23 : decode cX4_init 23 = .ok (.putfield 21, 3) := kt_o181 (j := 23) sX4_init_0 rfl rfl
theorem dX4_init_26 : decode cX4_init 26 = .ok (.aload_n 0, 1) := kt_o42 (j := 26) sX4_init_0 rfl
theorem dX4_init_27 : decode cX4_init 27 = .ok (.iconst 0, 1) := kt_o3 (j := 27) sX4_init_0 rfl
theorem dX4_init_28 : decode cX4_init 28 = .ok (.putfield 25, 3) := kt_o181 (j := 28) sX4_init_0 rfl rfl
theorem dX4_init_31 : decode cX4_init 31 = .ok (.aload_n 0, 1) := kt_o42 (j := 31) sX4_init_0 rfl
theorem dX4_init_32 : decode cX4_init 32 = .ok (.aload_n 1, 1) := kt_o43 (j := 32) sX4_init_0 rfl
theorem dX4_init_33 : decode cX4_init 33 = .ok (.putfield 29, 3) := kt_o181 (j := 33) sX4_init_0 rfl rfl
theorem dX4_init_36 : decode cX4_init 36 = .ok (.aload_n 0, 1) := kt_o42 (j := 36) sX4_init_0 rfl
theorem dX4_init_37 : decode cX4_init 37 = .ok (.aload_n 2, 1) := kt_o44 (j := 37) sX4_init_0 rfl
theorem dX4_init_38 : decode cX4_init 38 = .ok (.putfield 33, 3) := kt_o181 (j := 38) sX4_init_0 rfl rfl
theorem dX4_init_41 : decode cX4_init 41 = .ok (.return_, 1) := kt_o177 (j := 41) sX4_init_0 rfl
theorem sX4_isThere_0 : kt_sg cX4_isThere 0 [42, 180, 0, 25, 153, 0, 7, 4, 167, 0, 4, 3, 172] = true := by decide +kernel
theorem dX4_isThere_0 : decode cX4_isThere 0 = .ok (.aload_n 0, 1) := kt_o42 (j := 0) sX4_isThere_0 rfl
theorem dX4_isThere_1 : decode cX4_isThere 1 = .ok (.getfield 25, 3) := kt_o180 (j := 1) sX4_isThere_0 rfl rfl
theorem dX4_isThere_4 : decode cX4_isThere 4 = .ok (.ifCond .eq 7, 3) := kt_o153 (j := 4) sX4_isThere_0 rfl (by decide +kernel)
theorem dX4_isThere_7 : decode cX4_isThere 7 = .ok (.iconst 1, 1) := kt_o4 (j := 7) sX4_isThere_0 rfl
theorem dX4_isThere_8 : decode cX4_isThere 8 = .ok (.goto 4, 3) := kt_o167 (j := 8) sX4_isThere_0 rfl (by decide +kernel)
theorem dX4_isThere_11 : decode cX4_isThere 11 = .ok (.iconst 0, 1) := kt_o3 (j := 11) sX4_isThere_0 rfl
theorem dX4_isThere_12 : decode cX4_isThere 12 = .ok (.ireturn, 1) := kt_o172 (j := 12) sX4_isThere_0 rfl
theorem kt_wp_X4_start__X4_start_r1 {w : Cond} (h : w ∈ wsX4_start_r1) : w ∈ wsX4_start := List.mem_cons_of_mem _ (List.mem_append_left _ (List.mem_append_left _ (List.mem_append_left _ (List.mem_append_left _ (List.mem_append_left _ (List.mem_append_left _ (List.mem_append_left _ (List.mem_append_left _ (h)))))))))
theorem kt_wp_X4_start__X4_start_r2 {w : Cond} (h : w ∈ wsX4_start_r2) : w ∈ wsX4_start := List.mem_cons_of_mem _ (List.mem_append_left _ (List.mem_append_left _ (List.mem_append_left _ (List.mem_append_left _ (List.mem_append_left _ (List.mem_append_left _ (List.mem_append_left _ (List.mem_append_right _ (List.mem_append_left _ (h))))))))))
theorem kt_wp_X4_start__X4_start_r3 {w : Cond} (h : w ∈ wsX4_start_r3) : w ∈ wsX4_start := List.mem_cons_of_mem _ (List.mem_append_left _ (List.mem_append_left _ (List.mem_append_left _ (List.mem_append_left _ (List.mem_append_left _ (List.mem_append_left _ (List.mem_append_left _ (List.mem_append_right _ (List.mem_append_right _ (List.mem_append_left _ (h)))))))))))
theorem kt_wp_X4_start__X4_start_r4 {w : Cond} (h : w ∈ wsX4_start_r4) : w ∈ wsX4_start := List.mem_cons_of_mem _ (List.mem_append_left _ (List.mem_append_left _ (List.mem_append_left _ (List.mem_append_left _ (List.mem_append_left _ (List.mem_append_left _ (List.mem_append_left _ (List.mem_append_right _ (List.mem_append_right _ (List.mem_append_right _ (List.mem_append_left _ (h))))))))))))
theorem kt_wp_X4_start__X4_start_r5 {w : Cond} (h : w ∈ wsX4_start_r5) : w ∈ wsX4_start := List.mem_cons_of_mem _ (List.mem_append_left _ (List.mem_append_left _ (List.mem_append_left _ (List.mem_append_left _ (List.mem_append_left _ (List.mem_append_left _ (List.mem_append_left _ (List.mem_append_right _ (List.mem_append_right _ (List.mem_append_right _ (List.mem_append_right _ (h))))))))))))
theorem kt_wp_X4_start__X40 {w : Cond} (h : w ∈ wsX40) : w ∈ wsX4_start := List.mem_cons_of_mem _ (List.mem_append_left _ (List.mem_append_left _ (List.mem_append_left _ (List.mem_append_left _ (List.mem_append_left _ (List.mem_append_left _ (List.mem_append_right _ (h))))))))
theorem kt_wp_X4_start__X60 {w : Cond} (h : w ∈ wsX60) : w ∈ wsX4_start := List.mem_cons_of_mem _ (List.mem_append_left _ (List.mem_append_left _ (List.mem_append_left _ (List.mem_append_left _ (List.mem_append_left _ (List.mem_append_right _ (h)))))))
theorem kt_wp_X4_start__X10 {w : Cond} (h : w ∈ wsX10) : w ∈ wsX4_start := List.mem_cons_of_mem _ (List.mem_append_left _ (List.mem_append_left _ (List.mem_append_left _ (List.mem_append_left _ (List.mem_append_right _ (h))))))
theorem kt_wp_X4_start__X90 {w : Cond} (h : w ∈ wsX90) : w ∈ wsX4_start := List.mem_cons_of_mem _ (List.mem_append_left _ (List.mem_append_left _ (List.mem_append_left _ (List.mem_append_right _ (h)))))
theorem kt_wp_X4_start__X80 {w : Cond} (h : w ∈ wsX80) : w ∈ wsX4_start := List.mem_cons_of_mem _ (List.mem_append_left _ (List.mem_append_left _ (List.mem_append_right _ (h))))
theorem kt_wp_X4_start__X30 {w : Cond} (h : w ∈ wsX30) : w ∈ wsX4_start := List.mem_cons_of_mem _ (List.mem_append_left _ (List.mem_append_right _ (h)))
theorem kt_wp_X4_start__X00 {w : Cond} (h : w ∈ wsX00) : w ∈ wsX4_start := List.mem_cons_of_mem _ (List.mem_append_right _ (h))
set_option maxRecDepth 20000 in
theorem kt_wg_X4_finish : wsX4_finish.all goodWord = true := by decide +kernel
set_option maxRecDepth 20000 in
theorem ggX4_start_X4_finish : GoodIn wsX4_start wsX4_finish := goodIn_sub (kt_wf1 (kt_wp_X4_start__X4_start_r1 kt_wm7) (kt_wfa (kt_wfa (kt_wfa (kt_wfa (kt_wfa (kt_wf1 (kt_wp_X4_start__X4_start_r1 kt_wm8) (kt_wf1 (kt_wp_X4_start__X4_start_r1 kt_wm0) (kt_wf1 (kt_wp_X4_start__X4_start_r1 kt_wm2) (kt_wf1 (kt_wp_X4_start__X4_start_r1 kt_wm9) (kt_wf1 (kt_wp_X4_start__X4_start_r1 kt_wm10) (kt_wf1 (kt_wp_X4_start__X4_start_r1 kt_wm11) (kt_wf1 (kt_wp_X4_start__X4_start_r1 kt_wm12) (kt_wf1 (kt_wp_X4_start__X4_start_r1 kt_wm13) (kt_wf1 (kt_wp_X4_start__X4_start_r1 kt_wm14) (kt_wf1 (kt_wp_X4_start__X4_start_r1 kt_wm15) (kt_wf1 (kt_wp_X4_start__X4_start_r1 kt_wm16) (kt_wf1 (kt_wp_X4_start__X4_start_r1 kt_wm17) (kt_wf1 (kt_wp_X4_start__X4_start_r1 kt_wm18) (kt_wf1 (kt_wp_X4_start__X4_start_r1 kt_wm19) (kt_wf1 (kt_wp_X4_start__X4_start_r1 kt_wm20) (kt_wf1 (kt_wp_X4_start__X4_start_r1 kt_wm21) (kt_wf1 (kt_wp_X4_start__X4_start_r1 kt_wm22) (kt_wf1 (kt_wp_X4_start__X4_start_r1 kt_wm23) (kt_wf1 (kt_wp_X4_start__X4_start_r2 kt_wm0) (kt_wf1 (kt_wp_X4_start__X4_start_r2 kt_wm1) (kt_wf1 (kt_wp_X4_start__X4_start_r2 kt_wm2) (kt_wf1 (kt_wp_X4_start__X4_start_r2 kt_wm3) (kt_wf1 (kt_wp_X4_start__X4_start_r2 kt_wm4) (kt_wf1 (kt_wp_X4_start__X4_start_r2 kt_wm5) kt_wf0)))))))))))))))))))))))) (kt_wf1 (kt_wp_X4_start__X4_start_r2 kt_wm6) (kt_wf1 (kt_wp_X4_start__X4_start_r2 kt_wm7) (kt_wf1 (kt_wp_X4_start__X4_start_r2 kt_wm8) (kt_wf1 (kt_wp_X4_start__X4_start_r2 kt_wm9) (kt_wf1 (kt_wp_X4_start__X4_start_r2 kt_wm10) (kt_wf1 (kt_wp_X4_start__X4_start_r2 kt_wm11) kt_wf0))))))) (fun _ h => kt_wp_X4_start__X40 h)) (fun _ h => kt_wp_X4_start__X60 h)) (fun _ h => kt_wp_X4_start__X80 h)) (fun _ h => kt_wp_X4_start__X30 h))) kt_wg_X4_finish
set_option maxRecDepth 20000 in
theorem gX4_start_X4_finish : GoodIn wsX4_start (wsV RX4 37 RX4 yX4_finish wsX4_finish) := goodIn_app (a := [.methodLink RX4 37 yX4_finish, .instanceMethod yX4_finish, .selects RX4 yX4_finish yX4_finish, .initialized RX4]) (goodIn_sub (kt_wf1 (kt_wp_X4_start__X4_start_r1 kt_wm3) (kt_wf1 (kt_wp_X4_start__X4_start_r1 kt_wm4) (kt_wf1 (kt_wp_X4_start__X4_start_r1 kt_wm5) (kt_wf1 (kt_wp_X4_start__X4_start_r1 kt_wm6) kt_wf0)))) (by decide +kernel)) ggX4_start_X4_finish
set_option maxRecDepth 20000 in
theorem kt_wg_X0_lay : wsX0_lay.all goodWord = true := by decide +kernel
set_option maxRecDepth 20000 in
theorem ggX4_start_X0_lay : GoodIn wsX4_start wsX0_lay := goodIn_sub (kt_wf1 (kt_wp_X4_start__X4_start_r2 kt_wm16) (kt_wfa (kt_wfa (kt_wf1 (kt_wp_X4_start__X4_start_r2 kt_wm17) (kt_wf1 (kt_wp_X4_start__X4_start_r2 kt_wm18) (kt_wf1 (kt_wp_X4_start__X4_start_r2 kt_wm19) (kt_wf1 (kt_wp_X4_start__X4_start_r2 kt_wm20) (kt_wf1 (kt_wp_X4_start__X4_start_r2 kt_wm21) (kt_wf1 (kt_wp_X4_start__X4_start_r2 kt_wm22) (kt_wf1 (kt_wp_X4_start__X4_start_r2 kt_wm23) (kt_wf1 (kt_wp_X4_start__X4_start_r3 kt_wm0) (kt_wf1 (kt_wp_X4_start__X4_start_r3 kt_wm1) (kt_wf1 (kt_wp_X4_start__X4_start_r3 kt_wm2) (kt_wf1 (kt_wp_X4_start__X4_start_r3 kt_wm3) (kt_wf1 (kt_wp_X4_start__X4_start_r3 kt_wm4) (kt_wf1 (kt_wp_X4_start__X4_start_r3 kt_wm5) (kt_wf1 (kt_wp_X4_start__X4_start_r3 kt_wm6) (kt_wf1 (kt_wp_X4_start__X4_start_r3 kt_wm7) kt_wf0))))))))))))))) (fun _ h => kt_wp_X4_start__X00 h)) (fun _ h => kt_wp_X4_start__X90 h))) kt_wg_X0_lay
set_option maxRecDepth 20000 in
theorem gX4_start_X0_lay : GoodIn wsX4_start (wsV RX4 51 RX0 yX0_lay wsX0_lay) := goodIn_app (a := [.methodLink RX4 51 yX0_lay, .instanceMethod yX0_lay, .selects RX0 yX0_lay yX0_lay, .initialized RX0]) (goodIn_sub (kt_wf1 (kt_wp_X4_start__X4_start_r2 kt_wm12) (kt_wf1 (kt_wp_X4_start__X4_start_r2 kt_wm13) (kt_wf1 (kt_wp_X4_start__X4_start_r2 kt_wm14) (kt_wf1 (kt_wp_X4_start__X4_start_r2 kt_wm15) kt_wf0)))) (by decide +kernel)) ggX4_start_X0_lay
set_option maxRecDepth 20000 in
theorem ggX4_start_X9_size : GoodIn wsX4_start wsX9_size := goodIn_sub (kt_wf1 (kt_wp_X4_start__X4_start_r3 kt_wm2) (kt_wfa (kt_wf1 (kt_wp_X4_start__X4_start_r3 kt_wm3) (kt_wf1 (kt_wp_X4_start__X4_start_r3 kt_wm4) kt_wf0)) (fun _ h => kt_wp_X4_start__X90 h))) kt_wg_X9_size
set_option maxRecDepth 20000 in
theorem gX4_start_X9_size : GoodIn wsX4_start (wsV RX4 57 RX9 yX9_size wsX9_size) := goodIn_app (a := [.methodLink RX4 57 yX9_size, .instanceMethod yX9_size, .selects RX9 yX9_size yX9_size, .initialized RX9]) (goodIn_sub (kt_wf1 (kt_wp_X4_start__X4_start_r3 kt_wm8) (kt_wf1 (kt_wp_X4_start__X4_start_r2 kt_wm23) (kt_wf1 (kt_wp_X4_start__X4_start_r3 kt_wm0) (kt_wf1 (kt_wp_X4_start__X4_start_r3 kt_wm1) kt_wf0)))) (by decide +kernel)) ggX4_start_X9_size
set_option maxRecDepth 20000 in
theorem kt_wg_X10_kindOfSign : wsX10_kindOfSign.all goodWord = true := by decide +kernel
set_option maxRecDepth 20000 in
theorem ggX4_start_X10_kindOfSign : GoodIn wsX4_start wsX10_kindOfSign := goodIn_sub (kt_wf1 (kt_wp_X4_start__X4_start_r3 kt_wm10) kt_wf0) kt_wg_X10_kindOfSign
set_option maxRecDepth 20000 in
theorem gX4_start_X10_kindOfSign_n67 : GoodIn wsX4_start (wsX10_kindOfSign) := ggX4_start_X10_kindOfSign
set_option maxRecDepth 20000 in
theorem ggX4_start_X8_place : GoodIn wsX4_start wsX8_place := goodIn_sub (kt_wf1 (kt_wp_X4_start__X4_start_r3 kt_wm14) (kt_wfa (kt_wf1 (kt_wp_X4_start__X4_start_r1 kt_wm22) (kt_wf1 (kt_wp_X4_start__X4_start_r1 kt_wm23) kt_wf0)) (fun _ h => kt_wp_X4_start__X80 h))) kt_wg_X8_place
set_option maxRecDepth 20000 in
theorem gX4_start_X8_place : GoodIn wsX4_start (wsV RX4 74 RX8 yX8_place wsX8_place) := goodIn_app (a := [.methodLink RX4 74 yX8_place, .instanceMethod yX8_place, .selects RX8 yX8_place yX8_place, .initialized RX8]) (goodIn_sub (kt_wf1 (kt_wp_X4_start__X4_start_r3 kt_wm11) (kt_wf1 (kt_wp_X4_start__X4_start_r3 kt_wm12) (kt_wf1 (kt_wp_X4_start__X4_start_r3 kt_wm13) (kt_wf1 (kt_wp_X4_start__X4_start_r1 kt_wm20) kt_wf0)))) (by decide +kernel)) ggX4_start_X8_place
set_option maxRecDepth 20000 in
theorem kt_wg_X6_enlist : wsX6_enlist.all goodWord = true := by decide +kernel
set_option maxRecDepth 20000 in
theorem ggX4_start_X6_enlist : GoodIn wsX4_start wsX6_enlist := goodIn_sub (kt_wf1 (kt_wp_X4_start__X4_start_r3 kt_wm18) (kt_wfa (kt_wfa (kt_wf1 (kt_wp_X4_start__X4_start_r1 kt_wm15) (kt_wf1 (kt_wp_X4_start__X4_start_r1 kt_wm16) (kt_wf1 (kt_wp_X4_start__X4_start_r3 kt_wm19) (kt_wf1 (kt_wp_X4_start__X4_start_r3 kt_wm20) (kt_wf1 (kt_wp_X4_start__X4_start_r3 kt_wm21) (kt_wf1 (kt_wp_X4_start__X4_start_r3 kt_wm22) kt_wf0)))))) (fun _ h => kt_wp_X4_start__X60 h)) (fun _ h => kt_wp_X4_start__X10 h))) kt_wg_X6_enlist
set_option maxRecDepth 20000 in
theorem gX4_start_X6_enlist : GoodIn wsX4_start (wsV RX4 78 RX6 yX6_enlist wsX6_enlist) := goodIn_app (a := [.methodLink RX4 78 yX6_enlist, .instanceMethod yX6_enlist, .selects RX6 yX6_enlist yX6_enlist, .initialized RX6]) (goodIn_sub (kt_wf1 (kt_wp_X4_start__X4_start_r3 kt_wm15) (kt_wf1 (kt_wp_X4_start__X4_start_r3 kt_wm16) (kt_wf1 (kt_wp_X4_start__X4_start_r3 kt_wm17) (kt_wf1 (kt_wp_X4_start__X4_start_r1 kt_wm13) kt_wf0)))) (by decide +kernel)) ggX4_start_X6_enlist
set_option maxRecDepth 20000 in
theorem kt_wg_X4_settle : wsX4_settle.all goodWord = true := by decide +kernel
set_option maxRecDepth 20000 in
theorem ggX4_start_X4_settle : GoodIn wsX4_start wsX4_settle := goodIn_sub (kt_wf1 (kt_wp_X4_start__X4_start_r4 kt_wm2) (kt_wfa (kt_wfa (kt_wfa (kt_wfa (kt_wfa (kt_wfa (kt_wf1 (kt_wp_X4_start__X4_start_r1 kt_wm0) (kt_wf1 (kt_wp_X4_start__X4_start_r1 kt_wm2) (kt_wf1 (kt_wp_X4_start__X4_start_r1 kt_wm8) (kt_wf1 (kt_wp_X4_start__X4_start_r1 kt_wm1) (kt_wf1 (kt_wp_X4_start__X4_start_r4 kt_wm3) (kt_wf1 (kt_wp_X4_start__X4_start_r4 kt_wm4) (kt_wf1 (kt_wp_X4_start__X4_start_r4 kt_wm5) (kt_wf1 (kt_wp_X4_start__X4_start_r1 kt_wm13) (kt_wf1 (kt_wp_X4_start__X4_start_r4 kt_wm6) (kt_wf1 (kt_wp_X4_start__X4_start_r1 kt_wm16) (kt_wf1 (kt_wp_X4_start__X4_start_r4 kt_wm7) (kt_wf1 (kt_wp_X4_start__X4_start_r4 kt_wm8) (kt_wf1 (kt_wp_X4_start__X4_start_r4 kt_wm9) (kt_wf1 (kt_wp_X4_start__X4_start_r1 kt_wm20) (kt_wf1 (kt_wp_X4_start__X4_start_r4 kt_wm10) (kt_wf1 (kt_wp_X4_start__X4_start_r1 kt_wm22) (kt_wf1 (kt_wp_X4_start__X4_start_r4 kt_wm11) (kt_wf1 (kt_wp_X4_start__X4_start_r4 kt_wm12) (kt_wf1 (kt_wp_X4_start__X4_start_r4 kt_wm13) (kt_wf1 (kt_wp_X4_start__X4_start_r4 kt_wm14) (kt_wf1 (kt_wp_X4_start__X4_start_r4 kt_wm15) (kt_wf1 (kt_wp_X4_start__X4_start_r4 kt_wm16) (kt_wf1 (kt_wp_X4_start__X4_start_r4 kt_wm17) (kt_wf1 (kt_wp_X4_start__X4_start_r4 kt_wm18) kt_wf0)))))))))))))))))))))))) (kt_wf1 (kt_wp_X4_start__X4_start_r4 kt_wm19) (kt_wf1 (kt_wp_X4_start__X4_start_r1 kt_wm15) (kt_wf1 (kt_wp_X4_start__X4_start_r3 kt_wm20) (kt_wf1 (kt_wp_X4_start__X4_start_r4 kt_wm20) (kt_wf1 (kt_wp_X4_start__X4_start_r4 kt_wm21) (kt_wf1 (kt_wp_X4_start__X4_start_r4 kt_wm22) (kt_wf1 (kt_wp_X4_start__X4_start_r4 kt_wm23) (kt_wf1 (kt_wp_X4_start__X4_start_r3 kt_wm22) (kt_wf1 (kt_wp_X4_start__X4_start_r5 kt_wm0) (kt_wf1 (kt_wp_X4_start__X4_start_r5 kt_wm1) (kt_wf1 (kt_wp_X4_start__X4_start_r5 kt_wm2) (kt_wf1 (kt_wp_X4_start__X4_start_r2 kt_wm15) (kt_wf1 (kt_wp_X4_start__X4_start_r5 kt_wm3) (kt_wf1 (kt_wp_X4_start__X4_start_r2 kt_wm17) (kt_wf1 (kt_wp_X4_start__X4_start_r2 kt_wm21) (kt_wf1 (kt_wp_X4_start__X4_start_r5 kt_wm4) (kt_wf1 (kt_wp_X4_start__X4_start_r5 kt_wm5) (kt_wf1 (kt_wp_X4_start__X4_start_r5 kt_wm6) (kt_wf1 (kt_wp_X4_start__X4_start_r5 kt_wm7) (kt_wf1 (kt_wp_X4_start__X4_start_r1 kt_wm23) (kt_wf1 (kt_wp_X4_start__X4_start_r5 kt_wm8) (kt_wf1 (kt_wp_X4_start__X4_start_r5 kt_wm9) (kt_wf1 (kt_wp_X4_start__X4_start_r5 kt_wm10) (kt_wf1 (kt_wp_X4_start__X4_start_r5 kt_wm11) kt_wf0))))))))))))))))))))))))) (fun _ h => kt_wp_X4_start__X40 h)) (fun _ h => kt_wp_X4_start__X10 h)) (fun _ h => kt_wp_X4_start__X60 h)) (fun _ h => kt_wp_X4_start__X80 h)) (fun _ h => kt_wp_X4_start__X00 h))) kt_wg_X4_settle
set_option maxRecDepth 20000 in
theorem gX4_start_X4_settle : GoodIn wsX4_start (wsV RX4 85 RX4 yX4_settle wsX4_settle) := goodIn_app (a := [.methodLink RX4 85 yX4_settle, .instanceMethod yX4_settle, .selects RX4 yX4_settle yX4_settle, .initialized RX4]) (goodIn_sub (kt_wf1 (kt_wp_X4_start__X4_start_r3 kt_wm23) (kt_wf1 (kt_wp_X4_start__X4_start_r4 kt_wm0) (kt_wf1 (kt_wp_X4_start__X4_start_r4 kt_wm1) (kt_wf1 (kt_wp_X4_start__X4_start_r1 kt_wm6) kt_wf0)))) (by decide +kernel)) ggX4_start_X4_settle
theorem sX4_start_0 : kt_sg cX4_start 0 [42, 182, 0, 37, 42, 180, 0, 33, 180, 0, 40, 43, 42, 180, 0, 29, 180, 0, 46, 182, 0, 51, 43, 182, 0, 57, 62, 3, 54, 4, 21, 4, 29, 162, 0, 51, 43, 180, 0, 63, 21, 4, 46, 184, 0, 67, 54, 5, 21, 5, 153, 0, 28, 42, 180, 0, 12, 42, 180, 0, 33, 180, 0, 71] = true := by decide +kernel
theorem dX4_start_0 : decode cX4_start 0 = .ok (.aload_n 0, 1) := kt_o42 (j := 0) sX4_start_0 rfl
theorem dX4_start_1 : decode cX4_start 1 = .ok (.invokevirtual 37, 3) := kt_o182 (j := 1) sX4_start_0 rfl rfl
theorem dX4_start_4 : decode cX4_start 4 = .ok (.aload_n 0, 1) := kt_o42 (j := 4) sX4_start_0 rfl
theorem dX4_start_5 : decode cX4_start 5 = .ok (.getfield 33, 3) := kt_o180 (j := 5) sX4_start_0 rfl rfl
theorem dX4_start_8 : decode cX4_start 8 = .ok (.getfield 40, 3) := kt_o180 (j := 8) sX4_start_0 rfl rfl
theorem dX4_start_11 : decode cX4_start 11 = .ok (.aload_n 1, 1) := kt_o43 (j := 11) sX4_start_0 rfl
theorem dX4_start_12 : decode cX4_start 12 = .ok (.aload_n 0, 1) := kt_o42 (j := 12) sX4_start_0 rfl
theorem dX4_start_13 : decode cX4_start 13 = .ok (.getfield 29, 3) := kt_o180 (j := 13) sX4_start_0 rfl rfl
theorem dX4_start_16 : decode cX4_start 16 = .ok (.getfield 46, 3) := kt_o180 (j := 16) sX4_start_0 rfl rfl
theorem dX4_start_19 : decode cX4_start 19 = .ok (.invokevirtual 51, 3) := kt_o182 (j := 19) sX4_start_0 rfl rfl
theorem dX4_start_22 : decode cX4_start 22 = .ok (.aload_n 1, 1) := kt_o43 (j := 22) sX4_start_0 rfl
theorem dX4_start_23 : decode cX4_start 23 = .ok (.invokevirtual 57, 3) := kt_o182 (j := 23) sX4_start_0 rfl rfl
theorem dX4_start_26 : decode cX4_start 26 = .ok (.istore_n 3, 1) := kt_o62 (j := 26) sX4_start_0 rfl
theorem dX4_start_27 : decode cX4_start 27 = .ok (.iconst 0, 1) := kt_o3 (j := 27) sX4_start_0 rfl
theorem dX4_start_28 : decode cX4_start 28 = .ok (.istore 4, 2) := kt_o54 (j := 28) sX4_start_0 rfl
theorem dX4_start_30 : decode cX4_start 30 = .ok (.iload 4, 2) := kt_o21 (j := 30) sX4_start_0 rfl
theorem dX4_start_32 : decode cX4_start 32 = .ok (.iload_n 3, 1) := kt_o29 (j := 32) sX4_start_0 rfl
theorem dX4_start_33 : decode cX4_start 33 = .ok (.if_icmp .ge 51, 3) := kt_o162 (j := 33) sX4_start_0 rfl (by decide +kernel)
theorem dX4_start_36 : decode cX4_start 36 = .ok (.aload_n 1, 1) := kt_o43 (j := 36) sX4_start_0 rfl
theorem dX4_start_37 : decode cX4_start 37 = .ok (.getfield 63, 3) := kt_o180 (j := 37) sX4_start_0 rfl rfl
theorem dX4_start_40 : decode cX4_start 40 = .ok (.iload 4, 2) := kt_o21 (j := 40) sX4_start_0 rfl
theorem dX4_start_42 : decode cX4_start 42 = .ok (.iaload, 1) := kt_o46 (j := 42) sX4_start_0 rfl
theorem dX4_start_43 : decode cX4_start 43 = .ok (.invokestatic 67, 3) := kt_o184 (j := 43) sX4_start_0 rfl rfl
theorem dX4_start_46 : decode cX4_start 46 = .ok (.istore 5, 2) := kt_o54 (j := 46) sX4_start_0 rfl
theorem dX4_start_48 : decode cX4_start 48 = .ok (.iload 5, 2) := kt_o21 (j := 48) sX4_start_0 rfl
theorem dX4_start_50 : decode cX4_start 50 = .ok (.ifCond .eq 28, 3) := kt_o153 (j := 50) sX4_start_0 rfl (by decide +kernel)
theorem dX4_start_53 : decode cX4_start 53 = .ok (.aload_n 0, 1) := kt_o42 (j := 53) sX4_start_0 rfl
theorem dX4_start_54 : decode cX4_start 54 = .ok (.getfield 12, 3) := kt_o180 (j := 54) sX4_start_0 rfl rfl
theorem dX4_start_57 : decode cX4_start 57 = .ok (.aload_n 0, 1) := kt_o42 (j := 57) sX4_start_0 rfl
theorem dX4_start_58 : decode cX4_start 58 = .ok (.getfield 33, 3) := kt_o180 (j := 58) sX4_start_0 rfl rfl
theorem dX4_start_61 : decode cX4_start 61 = .ok (.getfield 71, 3) := kt_o180 (j := 61) sX4_start_0 rfl rfl
theorem sX4_start_64 : kt_sg cX4_start 64 [21, 4, 182, 0, 74, 42, 180, 0, 33, 21, 5, 182, 0, 78, 132, 4, 1, 167, 255, 205, 42, 180, 0, 12, 28, 181, 0, 82, 42, 3, 182, 0, 85, 177] = true := by decide +kernel
theorem dX4_start_64 : decode cX4_start 64 = .ok (.iload 4, 2) := kt_o21 (j := 0) sX4_start_64 rfl
theorem dX4_start_66 : decode cX4_start 66 = .ok (.invokevirtual 74, 3) := kt_o182 (j := 2) sX4_start_64 rfl rfl
theorem dX4_start_69 : decode cX4_start 69 = .ok (.aload_n 0, 1) := kt_o42 (j := 5) sX4_start_64 rfl
theorem dX4_start_70 : decode cX4_start 70 = .ok (.getfield 33, 3) := kt_o180 (j := 6) sX4_start_64 rfl rfl
theorem dX4_start_73 : decode cX4_start 73 = .ok (.iload 5, 2) := kt_o21 (j := 9) sX4_start_64 rfl
theorem dX4_start_75 : decode cX4_start 75 = .ok (.invokevirtual 78, 3) := kt_o182 (j := 11) sX4_start_64 rfl rfl
theorem dX4_start_78 : decode cX4_start 78 = .ok (.iinc 4 1, 3) := kt_o132 (j := 14) sX4_start_64 rfl (by decide +kernel)
theorem dX4_start_81 : decode cX4_start 81 = .ok (.goto (-51), 3) := kt_o167 (j := 17) sX4_start_64 rfl (by decide +kernel)
theorem dX4_start_84 : decode cX4_start 84 = .ok (.aload_n 0, 1) := kt_o42 (j := 20) sX4_start_64 rfl
theorem dX4_start_85 : decode cX4_start 85 = .ok (.getfield 12, 3) := kt_o180 (j := 21) sX4_start_64 rfl rfl
theorem dX4_start_88 : decode cX4_start 88 = .ok (.iload_n 2, 1) := kt_o28 (j := 24) sX4_start_64 rfl
theorem dX4_start_89 : decode cX4_start 89 = .ok (.putfield 82, 3) := kt_o181 (j := 25) sX4_start_64 rfl rfl
theorem dX4_start_92 : decode cX4_start 92 = .ok (.aload_n 0, 1) := kt_o42 (j := 28) sX4_start_64 rfl
theorem dX4_start_93 : decode cX4_start 93 = .ok (.iconst 0, 1) := kt_o3 (j := 29) sX4_start_64 rfl
theorem dX4_start_94 : decode cX4_start 94 = .ok (.invokevirtual 85, 3) := kt_o182 (j := 30) sX4_start_64 rfl rfl
theorem dX4_start_97 : decode cX4_start 97 = .ok (.return_, 1) := kt_o177 (j := 33) sX4_start_64 rfl
theorem kt_wp_X4_finish__X4_finish_r1 {w : Cond} (h : w ∈ wsX4_finish_r1) : w ∈ wsX4_finish := List.mem_cons_of_mem _ (List.mem_append_left _ (List.mem_append_left _ (List.mem_append_left _ (List.mem_append_left _ (List.mem_append_left _ (h))))))
theorem kt_wp_X4_finish__X4_finish_r2 {w : Cond} (h : w ∈ wsX4_finish_r2) : w ∈ wsX4_finish := List.mem_cons_of_mem _ (List.mem_append_left _ (List.mem_append_left _ (List.mem_append_left _ (List.mem_append_left _ (List.mem_append_right _ (h))))))
theorem kt_wp_X4_finish__X40 {w : Cond} (h : w ∈ wsX40) : w ∈ wsX4_finish := List.mem_cons_of_mem _ (List.mem_append_left _ (List.mem_append_left _ (List.mem_append_left _ (List.mem_append_right _ (h)))))
theorem kt_wp_X4_finish__X60 {w : Cond} (h : w ∈ wsX60) : w ∈ wsX4_finish := List.mem_cons_of_mem _ (List.mem_append_left _ (List.mem_append_left _ (List.mem_append_right _ (h))))
theorem kt_wp_X4_finish__X80 {w : Cond} (h : w ∈ wsX80) : w ∈ wsX4_finish := List.mem_cons_of_mem _ (List.mem_append_left _ (List.mem_append_right _ (h)))
theorem kt_wp_X4_finish__X30 {w : Cond} (h : w ∈ wsX30) : w ∈ wsX4_finish := List.mem_cons_of_mem _ (List.mem_append_right _ (h))
set_option maxRecDepth 20000 in
theorem kt_wg_X6_dismiss : wsX6_dismiss.all goodWord = true := by decide +kernel
set_option maxRecDepth 20000 in
theorem ggX4_finish_X6_dismiss : GoodIn wsX4_finish wsX6_dismiss := goodIn_sub (kt_wf1 (kt_wp_X4_finish__X4_finish_r1 kt_wm8) (kt_wfa (kt_wf1 (kt_wp_X4_finish__X4_finish_r1 kt_wm9) (kt_wf1 (kt_wp_X4_finish__X4_finish_r1 kt_wm10) kt_wf0)) (fun _ h => kt_wp_X4_finish__X60 h))) kt_wg_X6_dismiss
set_option maxRecDepth 20000 in
theorem gX4_finish_X6_dismiss : GoodIn wsX4_finish (wsV RX4 89 RX6 yX6_dismiss wsX6_dismiss) := goodIn_app (a := [.methodLink RX4 89 yX6_dismiss, .instanceMethod yX6_dismiss, .selects RX6 yX6_dismiss yX6_dismiss, .initialized RX6]) (goodIn_sub (kt_wf1 (kt_wp_X4_finish__X4_finish_r1 kt_wm4) (kt_wf1 (kt_wp_X4_finish__X4_finish_r1 kt_wm5) (kt_wf1 (kt_wp_X4_finish__X4_finish_r1 kt_wm6) (kt_wf1 (kt_wp_X4_finish__X4_finish_r1 kt_wm7) kt_wf0)))) (by decide +kernel)) ggX4_finish_X6_dismiss
set_option maxRecDepth 20000 in
theorem kt_wg_X8_clear : wsX8_clear.all goodWord = true := by decide +kernel
set_option maxRecDepth 20000 in
theorem ggX4_finish_X8_clear : GoodIn wsX4_finish wsX8_clear := goodIn_sub (kt_wf1 (kt_wp_X4_finish__X4_finish_r1 kt_wm15) (kt_wfa (kt_wf1 (kt_wp_X4_finish__X4_finish_r1 kt_wm16) (kt_wf1 (kt_wp_X4_finish__X4_finish_r1 kt_wm17) (kt_wf1 (kt_wp_X4_finish__X4_finish_r1 kt_wm18) (kt_wf1 (kt_wp_X4_finish__X4_finish_r1 kt_wm19) (kt_wf1 (kt_wp_X4_finish__X4_finish_r1 kt_wm20) (kt_wf1 (kt_wp_X4_finish__X4_finish_r1 kt_wm21) (kt_wf1 (kt_wp_X4_finish__X4_finish_r1 kt_wm22) kt_wf0))))))) (fun _ h => kt_wp_X4_finish__X80 h))) kt_wg_X8_clear
set_option maxRecDepth 20000 in
theorem gX4_finish_X8_clear : GoodIn wsX4_finish (wsV RX4 92 RX8 yX8_clear wsX8_clear) := goodIn_app (a := [.methodLink RX4 92 yX8_clear, .instanceMethod yX8_clear, .selects RX8 yX8_clear yX8_clear, .initialized RX8]) (goodIn_sub (kt_wf1 (kt_wp_X4_finish__X4_finish_r1 kt_wm11) (kt_wf1 (kt_wp_X4_finish__X4_finish_r1 kt_wm12) (kt_wf1 (kt_wp_X4_finish__X4_finish_r1 kt_wm13) (kt_wf1 (kt_wp_X4_finish__X4_finish_r1 kt_wm14) kt_wf0)))) (by decide +kernel)) ggX4_finish_X8_clear
set_option maxRecDepth 20000 in
theorem kt_wg_X3_clear : wsX3_clear.all goodWord = true := by decide +kernel
set_option maxRecDepth 20000 in
theorem ggX4_finish_X3_clear : GoodIn wsX4_finish wsX3_clear := goodIn_sub (kt_wf1 (kt_wp_X4_finish__X4_finish_r2 kt_wm3) (kt_wfa (kt_wf1 (kt_wp_X4_finish__X4_finish_r2 kt_wm4) (kt_wf1 (kt_wp_X4_finish__X4_finish_r2 kt_wm5) kt_wf0)) (fun _ h => kt_wp_X4_finish__X30 h))) kt_wg_X3_clear
set_option maxRecDepth 20000 in
theorem gX4_finish_X3_clear : GoodIn wsX4_finish (wsV RX4 95 RX3 yX3_clear wsX3_clear) := goodIn_app (a := [.methodLink RX4 95 yX3_clear, .instanceMethod yX3_clear, .selects RX3 yX3_clear yX3_clear, .initialized RX3]) (goodIn_sub (kt_wf1 (kt_wp_X4_finish__X4_finish_r1 kt_wm23) (kt_wf1 (kt_wp_X4_finish__X4_finish_r2 kt_wm0) (kt_wf1 (kt_wp_X4_finish__X4_finish_r2 kt_wm1) (kt_wf1 (kt_wp_X4_finish__X4_finish_r2 kt_wm2) kt_wf0)))) (by decide +kernel)) ggX4_finish_X3_clear
theorem sX4_finish_0 : kt_sg cX4_finish 0 [42, 3, 181, 0, 25, 42, 180, 0, 33, 182, 0, 89, 42, 180, 0, 12, 182, 0, 92, 42, 180, 0, 21, 182, 0, 95, 177] = true := by decide +kernel
theorem dX4_finish_0 : decode cX4_finish 0 = .ok (.aload_n 0, 1) := kt_o42 (j := 0) sX4_finish_0 rfl
theorem dX4_finish_1 : decode cX4_finish 1 = .ok (.iconst 0, 1) := kt_o3 (j := 1) sX4_finish_0 rfl
theorem dX4_finish_2 : decode cX4_finish 2 = .ok (.putfield 25, 3) := kt_o181 (j := 2) sX4_finish_0 rfl rfl
theorem dX4_finish_5 : decode cX4_finish 5 = .ok (.aload_n 0, 1) := kt_o42 (j := 5) sX4_finish_0 rfl
theorem dX4_finish_6 : decode cX4_finish 6 = .ok (.getfield 33, 3) := kt_o180 (j := 6) sX4_finish_0 rfl rfl
theorem dX4_finish_9 : decode cX4_finish 9 = .ok (.invokevirtual 89, 3) := kt_o182 (j := 9) sX4_finish_0 rfl rfl
theorem dX4_finish_12 : decode cX4_finish 12 = .ok (.aload_n 0, 1) := kt_o42 (j := 12) sX4_finish_0 rfl
theorem dX4_finish_13 : decode cX4_finish 13 = .ok (.getfield 12, 3) := kt_o180 (j := 13) sX4_finish_0 rfl rfl
theorem dX4_finish_16 : decode cX4_finish 16 = .ok (.invokevirtual 92, 3) := kt_o182 (j := 16) sX4_finish_0 rfl rfl
theorem dX4_finish_19 : decode cX4_finish 19 = .ok (.aload_n 0, 1) := kt_o42 (j := 19) sX4_finish_0 rfl
theorem dX4_finish_20 : decode cX4_finish 20 = .ok (.getfield 21, 3) := kt_o180 (j := 20) sX4_finish_0 rfl rfl
theorem dX4_finish_23 : decode cX4_finish 23 = .ok (.invokevirtual 95, 3) := kt_o182 (j := 23) sX4_finish_0 rfl rfl
theorem dX4_finish_26 : decode cX4_finish 26 = .ok (.return_, 1) := kt_o177 (j := 26) sX4_finish_0 rfl
theorem kt_wp_X4_settle__X4_settle_r1 {w : Cond} (h : w ∈ wsX4_settle_r1) : w ∈ wsX4_settle := List.mem_cons_of_mem _ (List.mem_append_left _ (List.mem_append_left _ (List.mem_append_left _ (List.mem_append_left _ (List.mem_append_left _ (List.mem_append_left _ (h)))))))
theorem kt_wp_X4_settle__X4_settle_r2 {w : Cond} (h : w ∈ wsX4_settle_r2) : w ∈ wsX4_settle := List.mem_cons_of_mem _ (List.mem_append_left _ (List.mem_append_left _ (List.mem_append_left _ (List.mem_append_left _ (List.mem_append_left _ (List.mem_append_right _ (h)))))))
theorem kt_wp_X4_settle__X40 {w : Cond} (h : w ∈ wsX40) : w ∈ wsX4_settle := List.mem_cons_of_mem _ (List.mem_append_left _ (List.mem_append_left _ (List.mem_append_left _ (List.mem_append_left _ (List.mem_append_right _ (h))))))
theorem kt_wp_X4_settle__X10 {w : Cond} (h : w ∈ wsX10) : w ∈ wsX4_settle := List.mem_cons_of_mem _ (List.mem_append_left _ (List.mem_append_left _ (List.mem_append_left _ (List.mem_append_right _ (h)))))
theorem kt_wp_X4_settle__X60 {w : Cond} (h : w ∈ wsX60) : w ∈ wsX4_settle := List.mem_cons_of_mem _ (List.mem_append_left _ (List.mem_append_left _ (List.mem_append_right _ (h))))
theorem kt_wp_X4_settle__X80 {w : Cond} (h : w ∈ wsX80) : w ∈ wsX4_settle := List.mem_cons_of_mem _ (List.mem_append_left _ (List.mem_append_right _ (h)))
theorem kt_wp_X4_settle__X00 {w : Cond} (h : w ∈ wsX00) : w ∈ wsX4_settle := List.mem_cons_of_mem _ (List.mem_append_right _ (h))
set_option maxRecDepth 20000 in
theorem kt_wg_X6_winner : wsX6_winner.all goodWord = true := by decide +kernel
set_option maxRecDepth 20000 in
theorem ggX4_settle_X6_winner : GoodIn wsX4_settle wsX6_winner := goodIn_sub (kt_wf1 (kt_wp_X4_settle__X4_settle_r1 kt_wm8) (kt_wfa (kt_wfa (kt_wfa (kt_wfa (kt_wfa (kt_wf1 (kt_wp_X4_settle__X4_settle_r1 kt_wm9) (kt_wf1 (kt_wp_X4_settle__X4_settle_r1 kt_wm10) (kt_wf1 (kt_wp_X4_settle__X4_settle_r1 kt_wm11) (kt_wf1 (kt_wp_X4_settle__X4_settle_r1 kt_wm12) (kt_wf1 (kt_wp_X4_settle__X4_settle_r1 kt_wm13) (kt_wf1 (kt_wp_X4_settle__X4_settle_r1 kt_wm14) (kt_wf1 (kt_wp_X4_settle__X4_settle_r1 kt_wm15) (kt_wf1 (kt_wp_X4_settle__X4_settle_r1 kt_wm16) (kt_wf1 (kt_wp_X4_settle__X4_settle_r1 kt_wm17) (kt_wf1 (kt_wp_X4_settle__X4_settle_r1 kt_wm18) (kt_wf1 (kt_wp_X4_settle__X4_settle_r1 kt_wm7) (kt_wf1 (kt_wp_X4_settle__X4_settle_r1 kt_wm19) (kt_wf1 (kt_wp_X4_settle__X4_settle_r1 kt_wm20) (kt_wf1 (kt_wp_X4_settle__X4_settle_r1 kt_wm21) (kt_wf1 (kt_wp_X4_settle__X4_settle_r1 kt_wm22) (kt_wf1 (kt_wp_X4_settle__X4_settle_r1 kt_wm23) (kt_wf1 (kt_wp_X4_settle__X4_settle_r2 kt_wm0) (kt_wf1 (kt_wp_X4_settle__X4_settle_r2 kt_wm1) (kt_wf1 (kt_wp_X4_settle__X4_settle_r2 kt_wm2) (kt_wf1 (kt_wp_X4_settle__X4_settle_r2 kt_wm3) (kt_wf1 (kt_wp_X4_settle__X4_settle_r2 kt_wm4) (kt_wf1 (kt_wp_X4_settle__X4_settle_r2 kt_wm5) (kt_wf1 (kt_wp_X4_settle__X4_settle_r2 kt_wm6) (kt_wf1 (kt_wp_X4_settle__X4_settle_r2 kt_wm7) kt_wf0)))))))))))))))))))))))) (kt_wf1 (kt_wp_X4_settle__X4_settle_r2 kt_wm8) (kt_wf1 (kt_wp_X4_settle__X4_settle_r2 kt_wm9) (kt_wf1 (kt_wp_X4_settle__X4_settle_r2 kt_wm10) (kt_wf1 (kt_wp_X4_settle__X4_settle_r2 kt_wm11) (kt_wf1 (kt_wp_X4_settle__X4_settle_r2 kt_wm12) (kt_wf1 (kt_wp_X4_settle__X4_settle_r2 kt_wm13) (kt_wf1 (kt_wp_X4_settle__X4_settle_r2 kt_wm14) (kt_wf1 (kt_wp_X4_settle__X4_settle_r2 kt_wm15) (kt_wf1 (kt_wp_X4_settle__X4_settle_r2 kt_wm16) (kt_wf1 (kt_wp_X4_settle__X4_settle_r2 kt_wm17) (kt_wf1 (kt_wp_X4_settle__X4_settle_r2 kt_wm18) (kt_wf1 (kt_wp_X4_settle__X4_settle_r2 kt_wm19) (kt_wf1 (kt_wp_X4_settle__X4_settle_r2 kt_wm20) (kt_wf1 (kt_wp_X4_settle__X4_settle_r2 kt_wm21) (kt_wf1 (kt_wp_X4_settle__X4_settle_r2 kt_wm22) (kt_wf1 (kt_wp_X4_settle__X4_settle_r2 kt_wm23) kt_wf0))))))))))))))))) (fun _ h => kt_wp_X4_settle__X60 h)) (fun _ h => kt_wp_X4_settle__X80 h)) (fun _ h => kt_wp_X4_settle__X00 h)) (fun _ h => kt_wp_X4_settle__X10 h))) kt_wg_X6_winner
set_option maxRecDepth 20000 in
theorem gX4_settle_X6_winner : GoodIn wsX4_settle (wsV RX4 96 RX6 yX6_winner wsX6_winner) := goodIn_app (a := [.methodLink RX4 96 yX6_winner, .instanceMethod yX6_winner, .selects RX6 yX6_winner yX6_winner, .initialized RX6]) (goodIn_sub (kt_wf1 (kt_wp_X4_settle__X4_settle_r1 kt_wm4) (kt_wf1 (kt_wp_X4_settle__X4_settle_r1 kt_wm5) (kt_wf1 (kt_wp_X4_settle__X4_settle_r1 kt_wm6) (kt_wf1 (kt_wp_X4_settle__X4_settle_r1 kt_wm7) kt_wf0)))) (by decide +kernel)) ggX4_settle_X6_winner
theorem sX4_settle_0 : kt_sg cX4_settle 0 [42, 180, 0, 33, 42, 180, 0, 12, 182, 0, 96, 61, 28, 2, 159, 0, 13, 42, 5, 28, 96, 181, 0, 25, 167, 0, 26, 42, 27, 153, 0, 17, 42, 180, 0, 29, 180, 0, 100, 154, 0, 7, 7, 167, 0, 4, 4, 181, 0, 25, 177] = true := by decide +kernel
theorem dX4_settle_0 : decode cX4_settle 0 = .ok (.aload_n 0, 1) := kt_o42 (j := 0) sX4_settle_0 rfl
theorem dX4_settle_1 : decode cX4_settle 1 = .ok (.getfield 33, 3) := kt_o180 (j := 1) sX4_settle_0 rfl rfl
theorem dX4_settle_4 : decode cX4_settle 4 = .ok (.aload_n 0, 1) := kt_o42 (j := 4) sX4_settle_0 rfl
theorem dX4_settle_5 : decode cX4_settle 5 = .ok (.getfield 12, 3) := kt_o180 (j := 5) sX4_settle_0 rfl rfl
theorem dX4_settle_8 : decode cX4_settle 8 = .ok (.invokevirtual 96, 3) := kt_o182 (j := 8) sX4_settle_0 rfl rfl
theorem dX4_settle_11 : decode cX4_settle 11 = .ok (.istore_n 2, 1) := kt_o61 (j := 11) sX4_settle_0 rfl
theorem dX4_settle_12 : decode cX4_settle 12 = .ok (.iload_n 2, 1) := kt_o28 (j := 12) sX4_settle_0 rfl
theorem dX4_settle_13 : decode cX4_settle 13 = .ok (.iconst (-1), 1) := kt_o2 (j := 13) sX4_settle_0 rfl
theorem dX4_settle_14 : decode cX4_settle 14 = .ok (.if_icmp .eq 13, 3) := kt_o159 (j := 14) sX4_settle_0 rfl (by decide +kernel)
theorem dX4_settle_17 : decode cX4_settle 17 = .ok (.aload_n 0, 1) := kt_o42 (j := 17) sX4_settle_0 rfl
theorem dX4_settle_18 : decode cX4_settle 18 = .ok (.iconst 2, 1) := kt_o5 (j := 18) sX4_settle_0 rfl
theorem dX4_settle_19 : decode cX4_settle 19 = .ok (.iload_n 2, 1) := kt_o28 (j := 19) sX4_settle_0 rfl
theorem dX4_settle_20 : decode cX4_settle 20 = .ok (.iadd, 1) := kt_o96 (j := 20) sX4_settle_0 rfl
theorem dX4_settle_21 : decode cX4_settle 21 = .ok (.putfield 25, 3) := kt_o181 (j := 21) sX4_settle_0 rfl rfl
theorem dX4_settle_24 : decode cX4_settle 24 = .ok (.goto 26, 3) := kt_o167 (j := 24) sX4_settle_0 rfl (by decide +kernel)
theorem dX4_settle_27 : decode cX4_settle 27 = .ok (.aload_n 0, 1) := kt_o42 (j := 27) sX4_settle_0 rfl
theorem dX4_settle_28 : decode cX4_settle 28 = .ok (.iload_n 1, 1) := kt_o27 (j := 28) sX4_settle_0 rfl
theorem dX4_settle_29 : decode cX4_settle 29 = .ok (.ifCond .eq 17, 3) := kt_o153 (j := 29) sX4_settle_0 rfl (by decide +kernel)
theorem dX4_settle_32 : decode cX4_settle 32 = .ok (.aload_n 0, 1) := kt_o42 (j := 32) sX4_settle_0 rfl
theorem dX4_settle_33 : decode cX4_settle 33 = .ok (.getfield 29, 3) := kt_o180 (j := 33) sX4_settle_0 rfl rfl
theorem dX4_settle_36 : decode cX4_settle 36 = .ok (.getfield 100, 3) := kt_o180 (j := 36) sX4_settle_0 rfl rfl
theorem dX4_settle_39 : decode cX4_settle 39 = .ok (.ifCond .ne 7, 3) := kt_o154 (j := 39) sX4_settle_0 rfl (by decide +kernel)
theorem dX4_settle_42 : decode cX4_settle 42 = .ok (.iconst 4, 1) := kt_o7 (j := 42) sX4_settle_0 rfl
theorem dX4_settle_43 : decode cX4_settle 43 = .ok (.goto 4, 3) := kt_o167 (j := 43) sX4_settle_0 rfl (by decide +kernel)
theorem dX4_settle_46 : decode cX4_settle 46 = .ok (.iconst 1, 1) := kt_o4 (j := 46) sX4_settle_0 rfl
theorem dX4_settle_47 : decode cX4_settle 47 = .ok (.putfield 25, 3) := kt_o181 (j := 47) sX4_settle_0 rfl rfl
theorem dX4_settle_50 : decode cX4_settle 50 = .ok (.return_, 1) := kt_o177 (j := 50) sX4_settle_0 rfl
theorem sX4_sideOnTurn_0 : kt_sg cX4_sideOnTurn 0 [42, 180, 0, 25, 4, 160, 0, 13, 42, 180, 0, 12, 180, 0, 82, 167, 0, 4, 2, 172] = true := by decide +kernel
theorem dX4_sideOnTurn_0 : decode cX4_sideOnTurn 0 = .ok (.aload_n 0, 1) := kt_o42 (j := 0) sX4_sideOnTurn_0 rfl
theorem dX4_sideOnTurn_1 : decode cX4_sideOnTurn 1 = .ok (.getfield 25, 3) := kt_o180 (j := 1) sX4_sideOnTurn_0 rfl rfl
theorem dX4_sideOnTurn_4 : decode cX4_sideOnTurn 4 = .ok (.iconst 1, 1) := kt_o4 (j := 4) sX4_sideOnTurn_0 rfl
theorem dX4_sideOnTurn_5 : decode cX4_sideOnTurn 5 = .ok (.if_icmp .ne 13, 3) := kt_o160 (j := 5) sX4_sideOnTurn_0 rfl (by decide +kernel)
theorem dX4_sideOnTurn_8 : decode cX4_sideOnTurn 8 = .ok (.aload_n 0, 1) := kt_o42 (j := 8) sX4_sideOnTurn_0 rfl
theorem dX4_sideOnTurn_9 : decode cX4_sideOnTurn 9 = .ok (.getfield 12, 3) := kt_o180 (j := 9) sX4_sideOnTurn_0 rfl rfl
theorem dX4_sideOnTurn_12 : decode cX4_sideOnTurn 12 = .ok (.getfield 82, 3) := kt_o180 (j := 12) sX4_sideOnTurn_0 rfl rfl
theorem dX4_sideOnTurn_15 : decode cX4_sideOnTurn 15 = .ok (.goto 4, 3) := kt_o167 (j := 15) sX4_sideOnTurn_0 rfl (by decide +kernel)
theorem dX4_sideOnTurn_18 : decode cX4_sideOnTurn 18 = .ok (.iconst (-1), 1) := kt_o2 (j := 18) sX4_sideOnTurn_0 rfl
theorem dX4_sideOnTurn_19 : decode cX4_sideOnTurn 19 = .ok (.ireturn, 1) := kt_o172 (j := 19) sX4_sideOnTurn_0 rfl
theorem kt_wp_X4_lost__X40 {w : Cond} (h : w ∈ wsX40) : w ∈ wsX4_lost := List.mem_cons_of_mem _ (List.mem_append_left _ (List.mem_append_left _ (List.mem_append_right _ (h))))
theorem kt_wp_X4_lost__X60 {w : Cond} (h : w ∈ wsX60) : w ∈ wsX4_lost := List.mem_cons_of_mem _ (List.mem_append_left _ (List.mem_append_right _ (h)))
theorem kt_wp_X4_lost__X80 {w : Cond} (h : w ∈ wsX80) : w ∈ wsX4_lost := List.mem_cons_of_mem _ (List.mem_append_right _ (h))
set_option maxRecDepth 20000 in
theorem ggX4_lost_X8_fieldOf : GoodIn wsX4_lost wsX8_fieldOf := goodIn_sub (kt_wf1 (List.mem_cons_of_mem _ (List.mem_append_left _ (List.mem_append_left _ (List.mem_append_left _ (List.mem_cons_of_mem _ (List.mem_cons_of_mem _ (List.mem_cons_of_mem _ (List.mem_cons_of_mem _ (List.mem_cons_of_mem _ (List.mem_cons_of_mem _ (List.Mem.head _))))))))))) (kt_wfa (kt_wf1 (List.mem_cons_of_mem _ (List.mem_append_left _ (List.mem_append_left _ (List.mem_append_left _ (List.mem_cons_of_mem _ (List.mem_cons_of_mem _ (List.mem_cons_of_mem _ (List.mem_cons_of_mem _ (List.mem_cons_of_mem _ (List.mem_cons_of_mem _ (List.mem_cons_of_mem _ (List.Mem.head _)))))))))))) kt_wf0) (fun _ h => kt_wp_X4_lost__X80 h))) kt_wg_X8_fieldOf
set_option maxRecDepth 20000 in
theorem gX4_lost_X8_fieldOf : GoodIn wsX4_lost (wsV RX4 103 RX8 yX8_fieldOf wsX8_fieldOf) := goodIn_app (a := [.methodLink RX4 103 yX8_fieldOf, .instanceMethod yX8_fieldOf, .selects RX8 yX8_fieldOf yX8_fieldOf, .initialized RX8]) (goodIn_sub (kt_wf1 (List.mem_cons_of_mem _ (List.mem_append_left _ (List.mem_append_left _ (List.mem_append_left _ (List.mem_cons_of_mem _ (List.mem_cons_of_mem _ (List.Mem.head _))))))) (kt_wf1 (List.mem_cons_of_mem _ (List.mem_append_left _ (List.mem_append_left _ (List.mem_append_left _ (List.mem_cons_of_mem _ (List.mem_cons_of_mem _ (List.mem_cons_of_mem _ (List.Mem.head _)))))))) (kt_wf1 (List.mem_cons_of_mem _ (List.mem_append_left _ (List.mem_append_left _ (List.mem_append_left _ (List.mem_cons_of_mem _ (List.mem_cons_of_mem _ (List.mem_cons_of_mem _ (List.mem_cons_of_mem _ (List.Mem.head _))))))))) (kt_wf1 (List.mem_cons_of_mem _ (List.mem_append_left _ (List.mem_append_left _ (List.mem_append_left _ (List.mem_cons_of_mem _ (List.mem_cons_of_mem _ (List.mem_cons_of_mem _ (List.mem_cons_of_mem _ (List.mem_cons_of_mem _ (List.Mem.head _)))))))))) kt_wf0)))) (by decide +kernel)) ggX4_lost_X8_fieldOf
theorem sX4_lost_0 : kt_sg cX4_lost 0 [3, 60, 3, 61, 28, 42, 180, 0, 33, 180, 0, 71, 162, 0, 29, 27, 42, 180, 0, 12, 28, 182, 0, 103, 2, 160, 0, 7, 4, 167, 0, 4, 3, 96, 60, 132, 2, 1, 167, 255, 222, 27, 172] = true := by decide +kernel
theorem dX4_lost_0 : decode cX4_lost 0 = .ok (.iconst 0, 1) := kt_o3 (j := 0) sX4_lost_0 rfl
theorem dX4_lost_1 : decode cX4_lost 1 = .ok (.istore_n 1, 1) := kt_o60 (j := 1) sX4_lost_0 rfl
theorem dX4_lost_2 : decode cX4_lost 2 = .ok (.iconst 0, 1) := kt_o3 (j := 2) sX4_lost_0 rfl
theorem dX4_lost_3 : decode cX4_lost 3 = .ok (.istore_n 2, 1) := kt_o61 (j := 3) sX4_lost_0 rfl
theorem dX4_lost_4 : decode cX4_lost 4 = .ok (.iload_n 2, 1) := kt_o28 (j := 4) sX4_lost_0 rfl
theorem dX4_lost_5 : decode cX4_lost 5 = .ok (.aload_n 0, 1) := kt_o42 (j := 5) sX4_lost_0 rfl
theorem dX4_lost_6 : decode cX4_lost 6 = .ok (.getfield 33, 3) := kt_o180 (j := 6) sX4_lost_0 rfl rfl
theorem dX4_lost_9 : decode cX4_lost 9 = .ok (.getfield 71, 3) := kt_o180 (j := 9) sX4_lost_0 rfl rfl
theorem dX4_lost_12 : decode cX4_lost 12 = .ok (.if_icmp .ge 29, 3) := kt_o162 (j := 12) sX4_lost_0 rfl (by decide +kernel)
theorem dX4_lost_15 : decode cX4_lost 15 = .ok (.iload_n 1, 1) := kt_o27 (j := 15) sX4_lost_0 rfl
theorem dX4_lost_16 : decode cX4_lost 16 = .ok (.aload_n 0, 1) := kt_o42 (j := 16) sX4_lost_0 rfl
theorem dX4_lost_17 : decode cX4_lost 17 = .ok (.getfield 12, 3) := kt_o180 (j := 17) sX4_lost_0 rfl rfl
theorem dX4_lost_20 : decode cX4_lost 20 = .ok (.iload_n 2, 1) := kt_o28 (j := 20) sX4_lost_0 rfl
theorem dX4_lost_21 : decode cX4_lost 21 = .ok (.invokevirtual 103, 3) := kt_o182 (j := 21) sX4_lost_0 rfl rfl
theorem dX4_lost_24 : decode cX4_lost 24 = .ok (.iconst (-1), 1) := kt_o2 (j := 24) sX4_lost_0 rfl
theorem dX4_lost_25 : decode cX4_lost 25 = .ok (.if_icmp .ne 7, 3) := kt_o160 (j := 25) sX4_lost_0 rfl (by decide +kernel)
theorem dX4_lost_28 : decode cX4_lost 28 = .ok (.iconst 1, 1) := kt_o4 (j := 28) sX4_lost_0 rfl
theorem dX4_lost_29 : decode cX4_lost 29 = .ok (.goto 4, 3) := kt_o167 (j := 29) sX4_lost_0 rfl (by decide +kernel)
theorem dX4_lost_32 : decode cX4_lost 32 = .ok (.iconst 0, 1) := kt_o3 (j := 32) sX4_lost_0 rfl
theorem dX4_lost_33 : decode cX4_lost 33 = .ok (.iadd, 1) := kt_o96 (j := 33) sX4_lost_0 rfl
theorem dX4_lost_34 : decode cX4_lost 34 = .ok (.istore_n 1, 1) := kt_o60 (j := 34) sX4_lost_0 rfl
theorem dX4_lost_35 : decode cX4_lost 35 = .ok (.iinc 2 1, 3) := kt_o132 (j := 35) sX4_lost_0 rfl (by decide +kernel)
theorem dX4_lost_38 : decode cX4_lost 38 = .ok (.goto (-34), 3) := kt_o167 (j := 38) sX4_lost_0 rfl (by decide +kernel)
theorem dX4_lost_41 : decode cX4_lost 41 = .ok (.iload_n 1, 1) := kt_o27 (j := 41) sX4_lost_0 rfl
theorem dX4_lost_42 : decode cX4_lost 42 = .ok (.ireturn, 1) := kt_o172 (j := 42) sX4_lost_0 rfl
theorem kt_wp_X4_movesOf__X4_movesOf_r1 {w : Cond} (h : w ∈ wsX4_movesOf_r1) : w ∈ wsX4_movesOf := List.mem_cons_of_mem _ (List.mem_append_left _ (List.mem_append_left _ (List.mem_append_left _ (List.mem_append_left _ (List.mem_append_left _ (List.mem_append_left _ (h)))))))
theorem kt_wp_X4_movesOf__X4_movesOf_r2 {w : Cond} (h : w ∈ wsX4_movesOf_r2) : w ∈ wsX4_movesOf := List.mem_cons_of_mem _ (List.mem_append_left _ (List.mem_append_left _ (List.mem_append_left _ (List.mem_append_left _ (List.mem_append_left _ (List.mem_append_right _ (h)))))))
theorem kt_wp_X4_movesOf__X40 {w : Cond} (h : w ∈ wsX40) : w ∈ wsX4_movesOf := List.mem_cons_of_mem _ (List.mem_append_left _ (List.mem_append_left _ (List.mem_append_left _ (List.mem_append_left _ (List.mem_append_right _ (h))))))
theorem kt_wp_X4_movesOf__X60 {w : Cond} (h : w ∈ wsX60) : w ∈ wsX4_movesOf := List.mem_cons_of_mem _ (List.mem_append_left _ (List.mem_append_left _ (List.mem_append_left _ (List.mem_append_right _ (h)))))
theorem kt_wp_X4_movesOf__X80 {w : Cond} (h : w ∈ wsX80) : w ∈ wsX4_movesOf := List.mem_cons_of_mem _ (List.mem_append_left _ (List.mem_append_left _ (List.mem_append_right _ (h))))
theorem kt_wp_X4_movesOf__X10 {w : Cond} (h : w ∈ wsX10) : w ∈ wsX4_movesOf := List.mem_cons_of_mem _ (List.mem_append_left _ (List.mem_append_right _ (h)))
theorem kt_wp_X4_movesOf__X00 {w : Cond} (h : w ∈ wsX00) : w ∈ wsX4_movesOf := List.mem_cons_of_mem _ (List.mem_append_right _ (h))
set_option maxRecDepth 20000 in
theorem kt_wg_X6_isPiece : wsX6_isPiece.all goodWord = true := by decide +kernel
set_option maxRecDepth 20000 in
theorem ggX4_movesOf_X6_isPiece : GoodIn wsX4_movesOf wsX6_isPiece := goodIn_sub (kt_wf1 (kt_wp_X4_movesOf__X4_movesOf_r1 kt_wm6) (kt_wfa (kt_wf1 (kt_wp_X4_movesOf__X4_movesOf_r1 kt_wm7) kt_wf0) (fun _ h => kt_wp_X4_movesOf__X60 h))) kt_wg_X6_isPiece
set_option maxRecDepth 20000 in
theorem gX4_movesOf_X6_isPiece : GoodIn wsX4_movesOf (wsV RX4 106 RX6 yX6_isPiece wsX6_isPiece) := goodIn_app (a := [.methodLink RX4 106 yX6_isPiece, .instanceMethod yX6_isPiece, .selects RX6 yX6_isPiece yX6_isPiece, .initialized RX6]) (goodIn_sub (kt_wf1 (kt_wp_X4_movesOf__X4_movesOf_r1 kt_wm2) (kt_wf1 (kt_wp_X4_movesOf__X4_movesOf_r1 kt_wm3) (kt_wf1 (kt_wp_X4_movesOf__X4_movesOf_r1 kt_wm4) (kt_wf1 (kt_wp_X4_movesOf__X4_movesOf_r1 kt_wm5) kt_wf0)))) (by decide +kernel)) ggX4_movesOf_X6_isPiece
set_option maxRecDepth 20000 in
theorem kt_wg_X4_sideOnTurn : wsX4_sideOnTurn.all goodWord = true := by decide +kernel
set_option maxRecDepth 20000 in
theorem ggX4_movesOf_X4_sideOnTurn : GoodIn wsX4_movesOf wsX4_sideOnTurn := goodIn_sub (kt_wf1 (kt_wp_X4_movesOf__X4_movesOf_r1 kt_wm12) (kt_wfa (kt_wfa (kt_wf1 (kt_wp_X4_movesOf__X4_movesOf_r1 kt_wm13) (kt_wf1 (kt_wp_X4_movesOf__X4_movesOf_r1 kt_wm1) kt_wf0)) (fun _ h => kt_wp_X4_movesOf__X40 h)) (fun _ h => kt_wp_X4_movesOf__X80 h))) kt_wg_X4_sideOnTurn
set_option maxRecDepth 20000 in
theorem gX4_movesOf_X4_sideOnTurn : GoodIn wsX4_movesOf (wsV RX4 113 RX4 yX4_sideOnTurn wsX4_sideOnTurn) := goodIn_app (a := [.methodLink RX4 113 yX4_sideOnTurn, .instanceMethod yX4_sideOnTurn, .selects RX4 yX4_sideOnTurn yX4_sideOnTurn, .initialized RX4]) (goodIn_sub (kt_wf1 (kt_wp_X4_movesOf__X4_movesOf_r1 kt_wm8) (kt_wf1 (kt_wp_X4_movesOf__X4_movesOf_r1 kt_wm9) (kt_wf1 (kt_wp_X4_movesOf__X4_movesOf_r1 kt_wm10) (kt_wf1 (kt_wp_X4_movesOf__X4_movesOf_r1 kt_wm11) kt_wf0)))) (by decide +kernel)) ggX4_movesOf_X4_sideOnTurn
set_option maxRecDepth 20000 in
theorem kt_wg_X6_movesOf : wsX6_movesOf.all goodWord = true := by decide +kernel
set_option maxRecDepth 20000 in
theorem ggX4_movesOf_X6_movesOf : GoodIn wsX4_movesOf wsX6_movesOf := goodIn_sub (kt_wf1 (kt_wp_X4_movesOf__X4_movesOf_r1 kt_wm17) (kt_wfa (kt_wfa (kt_wfa (kt_wfa (kt_wfa (kt_wf1 (kt_wp_X4_movesOf__X4_movesOf_r1 kt_wm18) (kt_wf1 (kt_wp_X4_movesOf__X4_movesOf_r1 kt_wm19) (kt_wf1 (kt_wp_X4_movesOf__X4_movesOf_r1 kt_wm20) (kt_wf1 (kt_wp_X4_movesOf__X4_movesOf_r1 kt_wm5) (kt_wf1 (kt_wp_X4_movesOf__X4_movesOf_r1 kt_wm21) (kt_wf1 (kt_wp_X4_movesOf__X4_movesOf_r1 kt_wm22) (kt_wf1 (kt_wp_X4_movesOf__X4_movesOf_r1 kt_wm23) (kt_wf1 (kt_wp_X4_movesOf__X4_movesOf_r2 kt_wm0) (kt_wf1 (kt_wp_X4_movesOf__X4_movesOf_r2 kt_wm1) (kt_wf1 (kt_wp_X4_movesOf__X4_movesOf_r2 kt_wm2) (kt_wf1 (kt_wp_X4_movesOf__X4_movesOf_r2 kt_wm3) (kt_wf1 (kt_wp_X4_movesOf__X4_movesOf_r2 kt_wm4) (kt_wf1 (kt_wp_X4_movesOf__X4_movesOf_r2 kt_wm5) (kt_wf1 (kt_wp_X4_movesOf__X4_movesOf_r2 kt_wm6) (kt_wf1 (kt_wp_X4_movesOf__X4_movesOf_r2 kt_wm7) (kt_wf1 (kt_wp_X4_movesOf__X4_movesOf_r2 kt_wm8) (kt_wf1 (kt_wp_X4_movesOf__X4_movesOf_r2 kt_wm9) (kt_wf1 (kt_wp_X4_movesOf__X4_movesOf_r2 kt_wm10) (kt_wf1 (kt_wp_X4_movesOf__X4_movesOf_r2 kt_wm11) (kt_wf1 (kt_wp_X4_movesOf__X4_movesOf_r2 kt_wm12) (kt_wf1 (kt_wp_X4_movesOf__X4_movesOf_r2 kt_wm13) (kt_wf1 (kt_wp_X4_movesOf__X4_movesOf_r2 kt_wm14) (kt_wf1 (kt_wp_X4_movesOf__X4_movesOf_r2 kt_wm15) (kt_wf1 (kt_wp_X4_movesOf__X4_movesOf_r2 kt_wm16) kt_wf0)))))))))))))))))))))))) (kt_wf1 (kt_wp_X4_movesOf__X4_movesOf_r2 kt_wm17) (kt_wf1 (kt_wp_X4_movesOf__X4_movesOf_r2 kt_wm18) (kt_wf1 (kt_wp_X4_movesOf__X4_movesOf_r2 kt_wm19) (kt_wf1 (kt_wp_X4_movesOf__X4_movesOf_r2 kt_wm20) (kt_wf1 (kt_wp_X4_movesOf__X4_movesOf_r2 kt_wm21) (kt_wf1 (kt_wp_X4_movesOf__X4_movesOf_r2 kt_wm22) kt_wf0))))))) (fun _ h => kt_wp_X4_movesOf__X60 h)) (fun _ h => kt_wp_X4_movesOf__X10 h)) (fun _ h => kt_wp_X4_movesOf__X80 h)) (fun _ h => kt_wp_X4_movesOf__X00 h))) kt_wg_X6_movesOf
set_option maxRecDepth 20000 in
theorem gX4_movesOf_X6_movesOf : GoodIn wsX4_movesOf (wsV RX4 116 RX6 yX6_movesOf wsX6_movesOf) := goodIn_app (a := [.methodLink RX4 116 yX6_movesOf, .instanceMethod yX6_movesOf, .selects RX6 yX6_movesOf yX6_movesOf, .initialized RX6]) (goodIn_sub (kt_wf1 (kt_wp_X4_movesOf__X4_movesOf_r1 kt_wm14) (kt_wf1 (kt_wp_X4_movesOf__X4_movesOf_r1 kt_wm15) (kt_wf1 (kt_wp_X4_movesOf__X4_movesOf_r1 kt_wm16) (kt_wf1 (kt_wp_X4_movesOf__X4_movesOf_r1 kt_wm5) kt_wf0)))) (by decide +kernel)) ggX4_movesOf_X6_movesOf
theorem sX4_movesOf_0 : kt_sg cX4_movesOf 0 [42, 180, 0, 33, 27, 182, 0, 106, 153, 0, 23, 42, 180, 0, 33, 180, 0, 110, 27, 46, 42, 182, 0, 113, 160, 0, 7, 4, 167, 0, 4, 3, 61, 28, 153, 0, 18, 42, 180, 0, 33, 42, 180, 0, 12, 27, 182, 0, 116, 167, 0, 4, 3, 172] = true := by decide +kernel
theorem dX4_movesOf_0 : decode cX4_movesOf 0 = .ok (.aload_n 0, 1) := kt_o42 (j := 0) sX4_movesOf_0 rfl
theorem dX4_movesOf_1 : decode cX4_movesOf 1 = .ok (.getfield 33, 3) := kt_o180 (j := 1) sX4_movesOf_0 rfl rfl
theorem dX4_movesOf_4 : decode cX4_movesOf 4 = .ok (.iload_n 1, 1) := kt_o27 (j := 4) sX4_movesOf_0 rfl
theorem dX4_movesOf_5 : decode cX4_movesOf 5 = .ok (.invokevirtual 106, 3) := kt_o182 (j := 5) sX4_movesOf_0 rfl rfl
theorem dX4_movesOf_8 : decode cX4_movesOf 8 = .ok (.ifCond .eq 23, 3) := kt_o153 (j := 8) sX4_movesOf_0 rfl (by decide +kernel)
theorem dX4_movesOf_11 : decode cX4_movesOf 11 = .ok (.aload_n 0, 1) := kt_o42 (j := 11) sX4_movesOf_0 rfl
theorem dX4_movesOf_12 : decode cX4_movesOf 12 = .ok (.getfield 33, 3) := kt_o180 (j := 12) sX4_movesOf_0 rfl rfl
theorem dX4_movesOf_15 : decode cX4_movesOf 15 = .ok (.getfield 110, 3) := kt_o180 (j := 15) sX4_movesOf_0 rfl rfl
theorem dX4_movesOf_18 : decode cX4_movesOf 18 = .ok (.iload_n 1, 1) := kt_o27 (j := 18) sX4_movesOf_0 rfl
theorem dX4_movesOf_19 : decode cX4_movesOf 19 = .ok (.iaload, 1) := kt_o46 (j := 19) sX4_movesOf_0 rfl
theorem dX4_movesOf_20 : decode cX4_movesOf 20 = .ok (.aload_n 0, 1) := kt_o42 (j := 20) sX4_movesOf_0 rfl
theorem dX4_movesOf_21 : decode cX4_movesOf 21 = .ok (.invokevirtual 113, 3) := kt_o182 (j := 21) sX4_movesOf_0 rfl rfl
theorem dX4_movesOf_24 : decode cX4_movesOf 24 = .ok (.if_icmp .ne 7, 3) := kt_o160 (j := 24) sX4_movesOf_0 rfl (by decide +kernel)
theorem dX4_movesOf_27 : decode cX4_movesOf 27 = .ok (.iconst 1, 1) := kt_o4 (j := 27) sX4_movesOf_0 rfl
theorem dX4_movesOf_28 : decode cX4_movesOf 28 = .ok (.goto 4, 3) := kt_o167 (j := 28) sX4_movesOf_0 rfl (by decide +kernel)
theorem dX4_movesOf_31 : decode cX4_movesOf 31 = .ok (.iconst 0, 1) := kt_o3 (j := 31) sX4_movesOf_0 rfl
theorem dX4_movesOf_32 : decode cX4_movesOf 32 = .ok (.istore_n 2, 1) := kt_o61 (j := 32) sX4_movesOf_0 rfl
theorem dX4_movesOf_33 : decode cX4_movesOf 33 = .ok (.iload_n 2, 1) := kt_o28 (j := 33) sX4_movesOf_0 rfl
theorem dX4_movesOf_34 : decode cX4_movesOf 34 = .ok (.ifCond .eq 18, 3) := kt_o153 (j := 34) sX4_movesOf_0 rfl (by decide +kernel)
theorem dX4_movesOf_37 : decode cX4_movesOf 37 = .ok (.aload_n 0, 1) := kt_o42 (j := 37) sX4_movesOf_0 rfl
theorem dX4_movesOf_38 : decode cX4_movesOf 38 = .ok (.getfield 33, 3) := kt_o180 (j := 38) sX4_movesOf_0 rfl rfl
theorem dX4_movesOf_41 : decode cX4_movesOf 41 = .ok (.aload_n 0, 1) := kt_o42 (j := 41) sX4_movesOf_0 rfl
theorem dX4_movesOf_42 : decode cX4_movesOf 42 = .ok (.getfield 12, 3) := kt_o180 (j := 42) sX4_movesOf_0 rfl rfl
theorem dX4_movesOf_45 : decode cX4_movesOf 45 = .ok (.iload_n 1, 1) := kt_o27 (j := 45) sX4_movesOf_0 rfl
theorem dX4_movesOf_46 : decode cX4_movesOf 46 = .ok (.invokevirtual 116, 3) := kt_o182 (j := 46) sX4_movesOf_0 rfl rfl
theorem dX4_movesOf_49 : decode cX4_movesOf 49 = .ok (.goto 4, 3) := kt_o167 (j := 49) sX4_movesOf_0 rfl (by decide +kernel)
theorem dX4_movesOf_52 : decode cX4_movesOf 52 = .ok (.iconst 0, 1) := kt_o3 (j := 52) sX4_movesOf_0 rfl
theorem dX4_movesOf_53 : decode cX4_movesOf 53 = .ok (.ireturn, 1) := kt_o172 (j := 53) sX4_movesOf_0 rfl
theorem kt_wp_X4_reason__X4_reason_r1 {w : Cond} (h : w ∈ wsX4_reason_r1) : w ∈ wsX4_reason := List.mem_cons_of_mem _ (List.mem_append_left _ (List.mem_append_left _ (List.mem_append_left _ (List.mem_append_left _ (List.mem_append_left _ (List.mem_append_left _ (List.mem_append_left _ (h))))))))
theorem kt_wp_X4_reason__X4_reason_r2 {w : Cond} (h : w ∈ wsX4_reason_r2) : w ∈ wsX4_reason := List.mem_cons_of_mem _ (List.mem_append_left _ (List.mem_append_left _ (List.mem_append_left _ (List.mem_append_left _ (List.mem_append_left _ (List.mem_append_left _ (List.mem_append_right _ (List.mem_append_left _ (h)))))))))
theorem kt_wp_X4_reason__X4_reason_r3 {w : Cond} (h : w ∈ wsX4_reason_r3) : w ∈ wsX4_reason := List.mem_cons_of_mem _ (List.mem_append_left _ (List.mem_append_left _ (List.mem_append_left _ (List.mem_append_left _ (List.mem_append_left _ (List.mem_append_left _ (List.mem_append_right _ (List.mem_append_right _ (List.mem_append_left _ (h))))))))))
theorem kt_wp_X4_reason__X4_reason_r4 {w : Cond} (h : w ∈ wsX4_reason_r4) : w ∈ wsX4_reason := List.mem_cons_of_mem _ (List.mem_append_left _ (List.mem_append_left _ (List.mem_append_left _ (List.mem_append_left _ (List.mem_append_left _ (List.mem_append_left _ (List.mem_append_right _ (List.mem_append_right _ (List.mem_append_right _ (List.mem_append_left _ (h)))))))))))
theorem kt_wp_X4_reason__X4_reason_r5 {w : Cond} (h : w ∈ wsX4_reason_r5) : w ∈ wsX4_reason := List.mem_cons_of_mem _ (List.mem_append_left _ (List.mem_append_left _ (List.mem_append_left _ (List.mem_append_left _ (List.mem_append_left _ (List.mem_append_left _ (List.mem_append_right _ (List.mem_append_right _ (List.mem_append_right _ (List.mem_append_right _ (h)))))))))))
theorem kt_wp_X4_reason__X40 {w : Cond} (h : w ∈ wsX40) : w ∈ wsX4_reason := List.mem_cons_of_mem _ (List.mem_append_left _ (List.mem_append_left _ (List.mem_append_left _ (List.mem_append_left _ (List.mem_append_left _ (List.mem_append_right _ (h)))))))
theorem kt_wp_X4_reason__X60 {w : Cond} (h : w ∈ wsX60) : w ∈ wsX4_reason := List.mem_cons_of_mem _ (List.mem_append_left _ (List.mem_append_left _ (List.mem_append_left _ (List.mem_append_left _ (List.mem_append_right _ (h))))))
theorem kt_wp_X4_reason__X80 {w : Cond} (h : w ∈ wsX80) : w ∈ wsX4_reason := List.mem_cons_of_mem _ (List.mem_append_left _ (List.mem_append_left _ (List.mem_append_left _ (List.mem_append_right _ (h)))))
theorem kt_wp_X4_reason__X10 {w : Cond} (h : w ∈ wsX10) : w ∈ wsX4_reason := List.mem_cons_of_mem _ (List.mem_append_left _ (List.mem_append_left _ (List.mem_append_right _ (h))))
theorem kt_wp_X4_reason__X00 {w : Cond} (h : w ∈ wsX00) : w ∈ wsX4_reason := List.mem_cons_of_mem _ (List.mem_append_left _ (List.mem_append_right _ (h)))
theorem kt_wp_X4_reason__X30 {w : Cond} (h : w ∈ wsX30) : w ∈ wsX4_reason := List.mem_cons_of_mem _ (List.mem_append_right _ (h))
set_option maxRecDepth 20000 in
theorem ggX4_reason_X6_isPiece : GoodIn wsX4_reason wsX6_isPiece := goodIn_sub (kt_wf1 (kt_wp_X4_reason__X4_reason_r1 kt_wm8) (kt_wfa (kt_wf1 (kt_wp_X4_reason__X4_reason_r1 kt_wm9) kt_wf0) (fun _ h => kt_wp_X4_reason__X60 h))) kt_wg_X6_isPiece
set_option maxRecDepth 20000 in
theorem gX4_reason_X6_isPiece : GoodIn wsX4_reason (wsV RX4 106 RX6 yX6_isPiece wsX6_isPiece) := goodIn_app (a := [.methodLink RX4 106 yX6_isPiece, .instanceMethod yX6_isPiece, .selects RX6 yX6_isPiece yX6_isPiece, .initialized RX6]) (goodIn_sub (kt_wf1 (kt_wp_X4_reason__X4_reason_r1 kt_wm4) (kt_wf1 (kt_wp_X4_reason__X4_reason_r1 kt_wm5) (kt_wf1 (kt_wp_X4_reason__X4_reason_r1 kt_wm6) (kt_wf1 (kt_wp_X4_reason__X4_reason_r1 kt_wm7) kt_wf0)))) (by decide +kernel)) ggX4_reason_X6_isPiece
set_option maxRecDepth 20000 in
theorem ggX4_reason_X8_fieldOf : GoodIn wsX4_reason wsX8_fieldOf := goodIn_sub (kt_wf1 (kt_wp_X4_reason__X4_reason_r1 kt_wm14) (kt_wfa (kt_wf1 (kt_wp_X4_reason__X4_reason_r1 kt_wm15) kt_wf0) (fun _ h => kt_wp_X4_reason__X80 h))) kt_wg_X8_fieldOf
set_option maxRecDepth 20000 in
theorem gX4_reason_X8_fieldOf : GoodIn wsX4_reason (wsV RX4 103 RX8 yX8_fieldOf wsX8_fieldOf) := goodIn_app (a := [.methodLink RX4 103 yX8_fieldOf, .instanceMethod yX8_fieldOf, .selects RX8 yX8_fieldOf yX8_fieldOf, .initialized RX8]) (goodIn_sub (kt_wf1 (kt_wp_X4_reason__X4_reason_r1 kt_wm10) (kt_wf1 (kt_wp_X4_reason__X4_reason_r1 kt_wm11) (kt_wf1 (kt_wp_X4_reason__X4_reason_r1 kt_wm12) (kt_wf1 (kt_wp_X4_reason__X4_reason_r1 kt_wm13) kt_wf0)))) (by decide +kernel)) ggX4_reason_X8_fieldOf
set_option maxRecDepth 20000 in
theorem kt_wg_X0_away : wsX0_away.all goodWord = true := by decide +kernel
set_option maxRecDepth 20000 in
theorem ggX4_reason_X0_away : GoodIn wsX4_reason wsX0_away := goodIn_sub (kt_wf1 (kt_wp_X4_reason__X4_reason_r1 kt_wm20) (kt_wfa (kt_wf1 (kt_wp_X4_reason__X4_reason_r1 kt_wm21) (kt_wf1 (kt_wp_X4_reason__X4_reason_r1 kt_wm22) (kt_wf1 (kt_wp_X4_reason__X4_reason_r1 kt_wm23) (kt_wf1 (kt_wp_X4_reason__X4_reason_r1 kt_wm19) (kt_wf1 (kt_wp_X4_reason__X4_reason_r2 kt_wm0) (kt_wf1 (kt_wp_X4_reason__X4_reason_r2 kt_wm1) (kt_wf1 (kt_wp_X4_reason__X4_reason_r2 kt_wm2) kt_wf0))))))) (fun _ h => kt_wp_X4_reason__X00 h))) kt_wg_X0_away
set_option maxRecDepth 20000 in
theorem gX4_reason_X0_away : GoodIn wsX4_reason (wsV RX4 120 RX0 yX0_away wsX0_away) := goodIn_app (a := [.methodLink RX4 120 yX0_away, .instanceMethod yX0_away, .selects RX0 yX0_away yX0_away, .initialized RX0]) (goodIn_sub (kt_wf1 (kt_wp_X4_reason__X4_reason_r1 kt_wm16) (kt_wf1 (kt_wp_X4_reason__X4_reason_r1 kt_wm17) (kt_wf1 (kt_wp_X4_reason__X4_reason_r1 kt_wm18) (kt_wf1 (kt_wp_X4_reason__X4_reason_r1 kt_wm19) kt_wf0)))) (by decide +kernel)) ggX4_reason_X0_away
set_option maxRecDepth 20000 in
theorem kt_wg_X6_isBeyondReach : wsX6_isBeyondReach.all goodWord = true := by decide +kernel
set_option maxRecDepth 20000 in
theorem ggX4_reason_X6_isBeyondReach : GoodIn wsX4_reason wsX6_isBeyondReach := goodIn_sub (kt_wf1 (kt_wp_X4_reason__X4_reason_r2 kt_wm6) (kt_wfa (kt_wfa (kt_wf1 (kt_wp_X4_reason__X4_reason_r2 kt_wm7) (kt_wf1 (kt_wp_X4_reason__X4_reason_r2 kt_wm8) kt_wf0)) (fun _ h => kt_wp_X4_reason__X60 h)) (fun _ h => kt_wp_X4_reason__X10 h))) kt_wg_X6_isBeyondReach
set_option maxRecDepth 20000 in
theorem gX4_reason_X6_isBeyondReach : GoodIn wsX4_reason (wsV RX4 124 RX6 yX6_isBeyondReach wsX6_isBeyondReach) := goodIn_app (a := [.methodLink RX4 124 yX6_isBeyondReach, .instanceMethod yX6_isBeyondReach, .selects RX6 yX6_isBeyondReach yX6_isBeyondReach, .initialized RX6]) (goodIn_sub (kt_wf1 (kt_wp_X4_reason__X4_reason_r2 kt_wm3) (kt_wf1 (kt_wp_X4_reason__X4_reason_r2 kt_wm4) (kt_wf1 (kt_wp_X4_reason__X4_reason_r2 kt_wm5) (kt_wf1 (kt_wp_X4_reason__X4_reason_r1 kt_wm7) kt_wf0)))) (by decide +kernel)) ggX4_reason_X6_isBeyondReach
set_option maxRecDepth 20000 in
theorem kt_wg_X4_barrier : wsX4_barrier.all goodWord = true := by decide +kernel
set_option maxRecDepth 20000 in
theorem ggX4_reason_X4_barrier : GoodIn wsX4_reason wsX4_barrier := goodIn_sub (kt_wf1 (kt_wp_X4_reason__X4_reason_r2 kt_wm13) (kt_wfa (kt_wfa (kt_wfa (kt_wfa (kt_wfa (kt_wf1 (kt_wp_X4_reason__X4_reason_r1 kt_wm2) (kt_wf1 (kt_wp_X4_reason__X4_reason_r1 kt_wm1) (kt_wf1 (kt_wp_X4_reason__X4_reason_r1 kt_wm10) (kt_wf1 (kt_wp_X4_reason__X4_reason_r1 kt_wm11) (kt_wf1 (kt_wp_X4_reason__X4_reason_r1 kt_wm12) (kt_wf1 (kt_wp_X4_reason__X4_reason_r1 kt_wm13) (kt_wf1 (kt_wp_X4_reason__X4_reason_r1 kt_wm14) (kt_wf1 (kt_wp_X4_reason__X4_reason_r1 kt_wm15) (kt_wf1 (kt_wp_X4_reason__X4_reason_r2 kt_wm14) (kt_wf1 (kt_wp_X4_reason__X4_reason_r1 kt_wm22) (kt_wf1 (kt_wp_X4_reason__X4_reason_r1 kt_wm23) (kt_wf1 (kt_wp_X4_reason__X4_reason_r1 kt_wm19) (kt_wf1 (kt_wp_X4_reason__X4_reason_r2 kt_wm0) (kt_wf1 (kt_wp_X4_reason__X4_reason_r2 kt_wm1) (kt_wf1 (kt_wp_X4_reason__X4_reason_r2 kt_wm2) (kt_wf1 (kt_wp_X4_reason__X4_reason_r2 kt_wm15) (kt_wf1 (kt_wp_X4_reason__X4_reason_r2 kt_wm16) (kt_wf1 (kt_wp_X4_reason__X4_reason_r2 kt_wm17) (kt_wf1 (kt_wp_X4_reason__X4_reason_r2 kt_wm18) (kt_wf1 (kt_wp_X4_reason__X4_reason_r2 kt_wm19) (kt_wf1 (kt_wp_X4_reason__X4_reason_r2 kt_wm20) (kt_wf1 (kt_wp_X4_reason__X4_reason_r2 kt_wm21) (kt_wf1 (kt_wp_X4_reason__X4_reason_r2 kt_wm22) (kt_wf1 (kt_wp_X4_reason__X4_reason_r1 kt_wm7) kt_wf0)))))))))))))))))))))))) (kt_wf1 (kt_wp_X4_reason__X4_reason_r2 kt_wm23) (kt_wf1 (kt_wp_X4_reason__X4_reason_r2 kt_wm7) (kt_wf1 (kt_wp_X4_reason__X4_reason_r3 kt_wm0) kt_wf0)))) (fun _ h => kt_wp_X4_reason__X40 h)) (fun _ h => kt_wp_X4_reason__X60 h)) (fun _ h => kt_wp_X4_reason__X80 h)) (fun _ h => kt_wp_X4_reason__X00 h))) kt_wg_X4_barrier
set_option maxRecDepth 20000 in
theorem gX4_reason_X4_barrier : GoodIn wsX4_reason (wsV RX4 128 RX4 yX4_barrier wsX4_barrier) := goodIn_app (a := [.methodLink RX4 128 yX4_barrier, .instanceMethod yX4_barrier, .selects RX4 yX4_barrier yX4_barrier, .initialized RX4]) (goodIn_sub (kt_wf1 (kt_wp_X4_reason__X4_reason_r2 kt_wm9) (kt_wf1 (kt_wp_X4_reason__X4_reason_r2 kt_wm10) (kt_wf1 (kt_wp_X4_reason__X4_reason_r2 kt_wm11) (kt_wf1 (kt_wp_X4_reason__X4_reason_r2 kt_wm12) kt_wf0)))) (by decide +kernel)) ggX4_reason_X4_barrier
set_option maxRecDepth 20000 in
theorem kt_wg_X4_comesBack : wsX4_comesBack.all goodWord = true := by decide +kernel
set_option maxRecDepth 20000 in
theorem ggX4_reason_X4_comesBack : GoodIn wsX4_reason wsX4_comesBack := goodIn_sub (kt_wf1 (kt_wp_X4_reason__X4_reason_r3 kt_wm4) (kt_wfa (kt_wfa (kt_wfa (kt_wfa (kt_wfa (kt_wfa (kt_wfa (kt_wf1 (kt_wp_X4_reason__X4_reason_r1 kt_wm1) (kt_wf1 (kt_wp_X4_reason__X4_reason_r1 kt_wm2) (kt_wf1 (kt_wp_X4_reason__X4_reason_r3 kt_wm5) (kt_wf1 (kt_wp_X4_reason__X4_reason_r3 kt_wm6) (kt_wf1 (kt_wp_X4_reason__X4_reason_r3 kt_wm7) (kt_wf1 (kt_wp_X4_reason__X4_reason_r3 kt_wm8) (kt_wf1 (kt_wp_X4_reason__X4_reason_r1 kt_wm7) (kt_wf1 (kt_wp_X4_reason__X4_reason_r3 kt_wm9) (kt_wf1 (kt_wp_X4_reason__X4_reason_r3 kt_wm10) (kt_wf1 (kt_wp_X4_reason__X4_reason_r3 kt_wm11) (kt_wf1 (kt_wp_X4_reason__X4_reason_r3 kt_wm0) (kt_wf1 (kt_wp_X4_reason__X4_reason_r3 kt_wm12) (kt_wf1 (kt_wp_X4_reason__X4_reason_r3 kt_wm13) (kt_wf1 (kt_wp_X4_reason__X4_reason_r1 kt_wm5) (kt_wf1 (kt_wp_X4_reason__X4_reason_r1 kt_wm6) (kt_wf1 (kt_wp_X4_reason__X4_reason_r1 kt_wm8) (kt_wf1 (kt_wp_X4_reason__X4_reason_r1 kt_wm9) (kt_wf1 (kt_wp_X4_reason__X4_reason_r3 kt_wm14) (kt_wf1 (kt_wp_X4_reason__X4_reason_r1 kt_wm11) (kt_wf1 (kt_wp_X4_reason__X4_reason_r1 kt_wm12) (kt_wf1 (kt_wp_X4_reason__X4_reason_r1 kt_wm13) (kt_wf1 (kt_wp_X4_reason__X4_reason_r1 kt_wm14) (kt_wf1 (kt_wp_X4_reason__X4_reason_r1 kt_wm15) (kt_wf1 (kt_wp_X4_reason__X4_reason_r3 kt_wm15) kt_wf0)))))))))))))))))))))))) (kt_wfa (kt_wf1 (kt_wp_X4_reason__X4_reason_r3 kt_wm16) (kt_wf1 (kt_wp_X4_reason__X4_reason_r3 kt_wm17) (kt_wf1 (kt_wp_X4_reason__X4_reason_r3 kt_wm18) (kt_wf1 (kt_wp_X4_reason__X4_reason_r2 kt_wm19) (kt_wf1 (kt_wp_X4_reason__X4_reason_r3 kt_wm19) (kt_wf1 (kt_wp_X4_reason__X4_reason_r1 kt_wm22) (kt_wf1 (kt_wp_X4_reason__X4_reason_r1 kt_wm23) (kt_wf1 (kt_wp_X4_reason__X4_reason_r1 kt_wm19) (kt_wf1 (kt_wp_X4_reason__X4_reason_r2 kt_wm0) (kt_wf1 (kt_wp_X4_reason__X4_reason_r2 kt_wm1) (kt_wf1 (kt_wp_X4_reason__X4_reason_r2 kt_wm2) (kt_wf1 (kt_wp_X4_reason__X4_reason_r3 kt_wm20) (kt_wf1 (kt_wp_X4_reason__X4_reason_r2 kt_wm16) (kt_wf1 (kt_wp_X4_reason__X4_reason_r2 kt_wm17) (kt_wf1 (kt_wp_X4_reason__X4_reason_r2 kt_wm18) (kt_wf1 (kt_wp_X4_reason__X4_reason_r3 kt_wm21) (kt_wf1 (kt_wp_X4_reason__X4_reason_r3 kt_wm22) (kt_wf1 (kt_wp_X4_reason__X4_reason_r3 kt_wm23) (kt_wf1 (kt_wp_X4_reason__X4_reason_r4 kt_wm0) (kt_wf1 (kt_wp_X4_reason__X4_reason_r4 kt_wm1) (kt_wf1 (kt_wp_X4_reason__X4_reason_r2 kt_wm7) (kt_wf1 (kt_wp_X4_reason__X4_reason_r2 kt_wm8) (kt_wf1 (kt_wp_X4_reason__X4_reason_r4 kt_wm2) (kt_wf1 (kt_wp_X4_reason__X4_reason_r4 kt_wm3) kt_wf0)))))))))))))))))))))))) (kt_wf1 (kt_wp_X4_reason__X4_reason_r4 kt_wm4) (kt_wf1 (kt_wp_X4_reason__X4_reason_r4 kt_wm5) (kt_wf1 (kt_wp_X4_reason__X4_reason_r4 kt_wm6) (kt_wf1 (kt_wp_X4_reason__X4_reason_r4 kt_wm7) (kt_wf1 (kt_wp_X4_reason__X4_reason_r4 kt_wm8) (kt_wf1 (kt_wp_X4_reason__X4_reason_r4 kt_wm9) (kt_wf1 (kt_wp_X4_reason__X4_reason_r4 kt_wm10) (kt_wf1 (kt_wp_X4_reason__X4_reason_r4 kt_wm11) (kt_wf1 (kt_wp_X4_reason__X4_reason_r4 kt_wm12) (kt_wf1 (kt_wp_X4_reason__X4_reason_r4 kt_wm13) (kt_wf1 (kt_wp_X4_reason__X4_reason_r4 kt_wm14) (kt_wf1 (kt_wp_X4_reason__X4_reason_r4 kt_wm15) (kt_wf1 (kt_wp_X4_reason__X4_reason_r4 kt_wm16) (kt_wf1 (kt_wp_X4_reason__X4_reason_r4 kt_wm17) (kt_wf1 (kt_wp_X4_reason__X4_reason_r4 kt_wm18) (kt_wf1 (kt_wp_X4_reason__X4_reason_r4 kt_wm19) (kt_wf1 (kt_wp_X4_reason__X4_reason_r4 kt_wm20) (kt_wf1 (kt_wp_X4_reason__X4_reason_r4 kt_wm21) (kt_wf1 (kt_wp_X4_reason__X4_reason_r4 kt_wm22) (kt_wf1 (kt_wp_X4_reason__X4_reason_r4 kt_wm23) (kt_wf1 (kt_wp_X4_reason__X4_reason_r5 kt_wm0) (kt_wf1 (kt_wp_X4_reason__X4_reason_r5 kt_wm1) kt_wf0)))))))))))))))))))))))) (fun _ h => kt_wp_X4_reason__X40 h)) (fun _ h => kt_wp_X4_reason__X60 h)) (fun _ h => kt_wp_X4_reason__X80 h)) (fun _ h => kt_wp_X4_reason__X00 h)) (fun _ h => kt_wp_X4_reason__X10 h)) (fun _ h => kt_wp_X4_reason__X30 h))) kt_wg_X4_comesBack
set_option maxRecDepth 20000 in
theorem gX4_reason_X4_comesBack : GoodIn wsX4_reason (wsV RX4 131 RX4 yX4_comesBack wsX4_comesBack) := goodIn_app (a := [.methodLink RX4 131 yX4_comesBack, .instanceMethod yX4_comesBack, .selects RX4 yX4_comesBack yX4_comesBack, .initialized RX4]) (goodIn_sub (kt_wf1 (kt_wp_X4_reason__X4_reason_r3 kt_wm1) (kt_wf1 (kt_wp_X4_reason__X4_reason_r3 kt_wm2) (kt_wf1 (kt_wp_X4_reason__X4_reason_r3 kt_wm3) (kt_wf1 (kt_wp_X4_reason__X4_reason_r2 kt_wm12) kt_wf0)))) (by decide +kernel)) ggX4_reason_X4_comesBack
theorem sX4_reason_0 : kt_sg cX4_reason 0 [42, 180, 0, 25, 4, 159, 0, 5, 4, 172, 42, 180, 0, 33, 27, 182, 0, 106, 154, 0, 5, 5, 172, 42, 180, 0, 12, 27, 182, 0, 103, 54, 4, 21, 4, 2, 160, 0, 5, 6, 172, 42, 180, 0, 33, 180, 0, 110, 27, 46, 42, 180, 0, 12, 180, 0, 82, 159, 0, 5, 7, 172, 28, 155, 0, 13] = true := by decide +kernel
theorem dX4_reason_0 : decode cX4_reason 0 = .ok (.aload_n 0, 1) := kt_o42 (j := 0) sX4_reason_0 rfl
theorem dX4_reason_1 : decode cX4_reason 1 = .ok (.getfield 25, 3) := kt_o180 (j := 1) sX4_reason_0 rfl rfl
theorem dX4_reason_4 : decode cX4_reason 4 = .ok (.iconst 1, 1) := kt_o4 (j := 4) sX4_reason_0 rfl
theorem dX4_reason_5 : decode cX4_reason 5 = .ok (.if_icmp .eq 5, 3) := kt_o159 (j := 5) sX4_reason_0 rfl (by decide +kernel)
theorem dX4_reason_8 : decode cX4_reason 8 = .ok (.iconst 1, 1) := kt_o4 (j := 8) sX4_reason_0 rfl
theorem dX4_reason_9 : decode cX4_reason 9 = .ok (.ireturn, 1) := kt_o172 (j := 9) sX4_reason_0 rfl
theorem dX4_reason_10 : decode cX4_reason 10 = .ok (.aload_n 0, 1) := kt_o42 (j := 10) sX4_reason_0 rfl
theorem dX4_reason_11 : decode cX4_reason 11 = .ok (.getfield 33, 3) := kt_o180 (j := 11) sX4_reason_0 rfl rfl
theorem dX4_reason_14 : decode cX4_reason 14 = .ok (.iload_n 1, 1) := kt_o27 (j := 14) sX4_reason_0 rfl
theorem dX4_reason_15 : decode cX4_reason 15 = .ok (.invokevirtual 106, 3) := kt_o182 (j := 15) sX4_reason_0 rfl rfl
theorem dX4_reason_18 : decode cX4_reason 18 = .ok (.ifCond .ne 5, 3) := kt_o154 (j := 18) sX4_reason_0 rfl (by decide +kernel)
theorem dX4_reason_21 : decode cX4_reason 21 = .ok (.iconst 2, 1) := kt_o5 (j := 21) sX4_reason_0 rfl
theorem dX4_reason_22 : decode cX4_reason 22 = .ok (.ireturn, 1) := kt_o172 (j := 22) sX4_reason_0 rfl
theorem dX4_reason_23 : decode cX4_reason 23 = .ok (.aload_n 0, 1) := kt_o42 (j := 23) sX4_reason_0 rfl
theorem dX4_reason_24 : decode cX4_reason 24 = .ok (.getfield 12, 3) := kt_o180 (j := 24) sX4_reason_0 rfl rfl
theorem dX4_reason_27 : decode cX4_reason 27 = .ok (.iload_n 1, 1) := kt_o27 (j := 27) sX4_reason_0 rfl
theorem dX4_reason_28 : decode cX4_reason 28 = .ok (.invokevirtual 103, 3) := kt_o182 (j := 28) sX4_reason_0 rfl rfl
theorem dX4_reason_31 : decode cX4_reason 31 = .ok (.istore 4, 2) := kt_o54 (j := 31) sX4_reason_0 rfl
theorem dX4_reason_33 : decode cX4_reason 33 = .ok (.iload 4, 2) := kt_o21 (j := 33) sX4_reason_0 rfl
theorem dX4_reason_35 : decode cX4_reason 35 = .ok (.iconst (-1), 1) := kt_o2 (j := 35) sX4_reason_0 rfl
theorem dX4_reason_36 : decode cX4_reason 36 = .ok (.if_icmp .ne 5, 3) := kt_o160 (j := 36) sX4_reason_0 rfl (by decide +kernel)
theorem dX4_reason_39 : decode cX4_reason 39 = .ok (.iconst 3, 1) := kt_o6 (j := 39) sX4_reason_0 rfl
theorem dX4_reason_40 : decode cX4_reason 40 = .ok (.ireturn, 1) := kt_o172 (j := 40) sX4_reason_0 rfl
theorem dX4_reason_41 : decode cX4_reason 41 = .ok (.aload_n 0, 1) := kt_o42 (j := 41) sX4_reason_0 rfl
theorem dX4_reason_42 : decode cX4_reason 42 = .ok (.getfield 33, 3) := kt_o180 (j := 42) sX4_reason_0 rfl rfl
theorem dX4_reason_45 : decode cX4_reason 45 = .ok (.getfield 110, 3) := kt_o180 (j := 45) sX4_reason_0 rfl rfl
theorem dX4_reason_48 : decode cX4_reason 48 = .ok (.iload_n 1, 1) := kt_o27 (j := 48) sX4_reason_0 rfl
theorem dX4_reason_49 : decode cX4_reason 49 = .ok (.iaload, 1) := kt_o46 (j := 49) sX4_reason_0 rfl
theorem dX4_reason_50 : decode cX4_reason 50 = .ok (.aload_n 0, 1) := kt_o42 (j := 50) sX4_reason_0 rfl
theorem dX4_reason_51 : decode cX4_reason 51 = .ok (.getfield 12, 3) := kt_o180 (j := 51) sX4_reason_0 rfl rfl
theorem dX4_reason_54 : decode cX4_reason 54 = .ok (.getfield 82, 3) := kt_o180 (j := 54) sX4_reason_0 rfl rfl
theorem dX4_reason_57 : decode cX4_reason 57 = .ok (.if_icmp .eq 5, 3) := kt_o159 (j := 57) sX4_reason_0 rfl (by decide +kernel)
theorem dX4_reason_60 : decode cX4_reason 60 = .ok (.iconst 4, 1) := kt_o7 (j := 60) sX4_reason_0 rfl
theorem dX4_reason_61 : decode cX4_reason 61 = .ok (.ireturn, 1) := kt_o172 (j := 61) sX4_reason_0 rfl
theorem dX4_reason_62 : decode cX4_reason 62 = .ok (.iload_n 2, 1) := kt_o28 (j := 62) sX4_reason_0 rfl
theorem dX4_reason_63 : decode cX4_reason 63 = .ok (.ifCond .lt 13, 3) := kt_o155 (j := 63) sX4_reason_0 rfl (by decide +kernel)
theorem sX4_reason_66 : kt_sg cX4_reason 66 [28, 7, 162, 0, 8, 29, 4, 162, 0, 5, 8, 172, 42, 180, 0, 33, 180, 0, 40, 21, 4, 28, 29, 182, 0, 120, 54, 5, 21, 5, 2, 160, 0, 6, 16, 6, 172, 42, 180, 0, 33, 27, 29, 182, 0, 124, 153, 0, 6, 16, 7, 172, 42, 27, 28, 21, 5, 182, 0, 128, 54, 6, 21, 6] = true := by decide +kernel
theorem dX4_reason_66 : decode cX4_reason 66 = .ok (.iload_n 2, 1) := kt_o28 (j := 0) sX4_reason_66 rfl
theorem dX4_reason_67 : decode cX4_reason 67 = .ok (.iconst 4, 1) := kt_o7 (j := 1) sX4_reason_66 rfl
theorem dX4_reason_68 : decode cX4_reason 68 = .ok (.if_icmp .ge 8, 3) := kt_o162 (j := 2) sX4_reason_66 rfl (by decide +kernel)
theorem dX4_reason_71 : decode cX4_reason 71 = .ok (.iload_n 3, 1) := kt_o29 (j := 5) sX4_reason_66 rfl
theorem dX4_reason_72 : decode cX4_reason 72 = .ok (.iconst 1, 1) := kt_o4 (j := 6) sX4_reason_66 rfl
theorem dX4_reason_73 : decode cX4_reason 73 = .ok (.if_icmp .ge 5, 3) := kt_o162 (j := 7) sX4_reason_66 rfl (by decide +kernel)
theorem dX4_reason_76 : decode cX4_reason 76 = .ok (.iconst 5, 1) := kt_o8 (j := 10) sX4_reason_66 rfl
theorem dX4_reason_77 : decode cX4_reason 77 = .ok (.ireturn, 1) := kt_o172 (j := 11) sX4_reason_66 rfl
theorem dX4_reason_78 : decode cX4_reason 78 = .ok (.aload_n 0, 1) := kt_o42 (j := 12) sX4_reason_66 rfl
theorem dX4_reason_79 : decode cX4_reason 79 = .ok (.getfield 33, 3) := kt_o180 (j := 13) sX4_reason_66 rfl rfl
theorem dX4_reason_82 : decode cX4_reason 82 = .ok (.getfield 40, 3) := kt_o180 (j := 16) sX4_reason_66 rfl rfl
theorem dX4_reason_85 : decode cX4_reason 85 = .ok (.iload 4, 2) := kt_o21 (j := 19) sX4_reason_66 rfl
theorem dX4_reason_87 : decode cX4_reason 87 = .ok (.iload_n 2, 1) := kt_o28 (j := 21) sX4_reason_66 rfl
theorem dX4_reason_88 : decode cX4_reason 88 = .ok (.iload_n 3, 1) := kt_o29 (j := 22) sX4_reason_66 rfl
theorem dX4_reason_89 : decode cX4_reason 89 = .ok (.invokevirtual 120, 3) := kt_o182 (j := 23) sX4_reason_66 rfl rfl
theorem dX4_reason_92 : decode cX4_reason 92 = .ok (.istore 5, 2) := kt_o54 (j := 26) sX4_reason_66 rfl
theorem dX4_reason_94 : decode cX4_reason 94 = .ok (.iload 5, 2) := kt_o21 (j := 28) sX4_reason_66 rfl
theorem dX4_reason_96 : decode cX4_reason 96 = .ok (.iconst (-1), 1) := kt_o2 (j := 30) sX4_reason_66 rfl
theorem dX4_reason_97 : decode cX4_reason 97 = .ok (.if_icmp .ne 6, 3) := kt_o160 (j := 31) sX4_reason_66 rfl (by decide +kernel)
theorem dX4_reason_100 : decode cX4_reason 100 = .ok (.bipush 6, 2) := kt_o16 (j := 34) sX4_reason_66 rfl (by decide +kernel)
theorem dX4_reason_102 : decode cX4_reason 102 = .ok (.ireturn, 1) := kt_o172 (j := 36) sX4_reason_66 rfl
theorem dX4_reason_103 : decode cX4_reason 103 = .ok (.aload_n 0, 1) := kt_o42 (j := 37) sX4_reason_66 rfl
theorem dX4_reason_104 : decode cX4_reason 104 = .ok (.getfield 33, 3) := kt_o180 (j := 38) sX4_reason_66 rfl rfl
theorem dX4_reason_107 : decode cX4_reason 107 = .ok (.iload_n 1, 1) := kt_o27 (j := 41) sX4_reason_66 rfl
theorem dX4_reason_108 : decode cX4_reason 108 = .ok (.iload_n 3, 1) := kt_o29 (j := 42) sX4_reason_66 rfl
theorem dX4_reason_109 : decode cX4_reason 109 = .ok (.invokevirtual 124, 3) := kt_o182 (j := 43) sX4_reason_66 rfl rfl
theorem dX4_reason_112 : decode cX4_reason 112 = .ok (.ifCond .eq 6, 3) := kt_o153 (j := 46) sX4_reason_66 rfl (by decide +kernel)
theorem dX4_reason_115 : decode cX4_reason 115 = .ok (.bipush 7, 2) := kt_o16 (j := 49) sX4_reason_66 rfl (by decide +kernel)
theorem dX4_reason_117 : decode cX4_reason 117 = .ok (.ireturn, 1) := kt_o172 (j := 51) sX4_reason_66 rfl
theorem dX4_reason_118 : decode cX4_reason 118 = .ok (.aload_n 0, 1) := kt_o42 (j := 52) sX4_reason_66 rfl
theorem dX4_reason_119 : decode cX4_reason 119 = .ok (.iload_n 1, 1) := kt_o27 (j := 53) sX4_reason_66 rfl
theorem dX4_reason_120 : decode cX4_reason 120 = .ok (.iload_n 2, 1) := kt_o28 (j := 54) sX4_reason_66 rfl
theorem dX4_reason_121 : decode cX4_reason 121 = .ok (.iload 5, 2) := kt_o21 (j := 55) sX4_reason_66 rfl
theorem dX4_reason_123 : decode cX4_reason 123 = .ok (.invokevirtual 128, 3) := kt_o182 (j := 57) sX4_reason_66 rfl rfl
theorem dX4_reason_126 : decode cX4_reason 126 = .ok (.istore 6, 2) := kt_o54 (j := 60) sX4_reason_66 rfl
theorem dX4_reason_128 : decode cX4_reason 128 = .ok (.iload 6, 2) := kt_o21 (j := 62) sX4_reason_66 rfl
theorem sX4_reason_130 : kt_sg cX4_reason 130 [153, 0, 6, 21, 6, 172, 42, 180, 0, 29, 180, 0, 100, 4, 160, 0, 18, 42, 27, 21, 5, 182, 0, 131, 153, 0, 8, 16, 10, 167, 0, 4, 3, 172] = true := by decide +kernel
theorem dX4_reason_130 : decode cX4_reason 130 = .ok (.ifCond .eq 6, 3) := kt_o153 (j := 0) sX4_reason_130 rfl (by decide +kernel)
theorem dX4_reason_133 : decode cX4_reason 133 = .ok (.iload 6, 2) := kt_o21 (j := 3) sX4_reason_130 rfl
theorem dX4_reason_135 : decode cX4_reason 135 = .ok (.ireturn, 1) := kt_o172 (j := 5) sX4_reason_130 rfl
theorem dX4_reason_136 : decode cX4_reason 136 = .ok (.aload_n 0, 1) := kt_o42 (j := 6) sX4_reason_130 rfl
theorem dX4_reason_137 : decode cX4_reason 137 = .ok (.getfield 29, 3) := kt_o180 (j := 7) sX4_reason_130 rfl rfl
theorem dX4_reason_140 : decode cX4_reason 140 = .ok (.getfield 100, 3) := kt_o180 (j := 10) sX4_reason_130 rfl rfl
theorem dX4_reason_143 : decode cX4_reason 143 = .ok (.iconst 1, 1) := kt_o4 (j := 13) sX4_reason_130 rfl
theorem dX4_reason_144 : decode cX4_reason 144 = .ok (.if_icmp .ne 18, 3) := kt_o160 (j := 14) sX4_reason_130 rfl (by decide +kernel)
theorem dX4_reason_147 : decode cX4_reason 147 = .ok (.aload_n 0, 1) := kt_o42 (j := 17) sX4_reason_130 rfl
theorem dX4_reason_148 : decode cX4_reason 148 = .ok (.iload_n 1, 1) := kt_o27 (j := 18) sX4_reason_130 rfl
theorem dX4_reason_149 : decode cX4_reason 149 = .ok (.iload 5, 2) := kt_o21 (j := 19) sX4_reason_130 rfl
theorem dX4_reason_151 : decode cX4_reason 151 = .ok (.invokevirtual 131, 3) := kt_o182 (j := 21) sX4_reason_130 rfl rfl
theorem dX4_reason_154 : decode cX4_reason 154 = .ok (.ifCond .eq 8, 3) := kt_o153 (j := 24) sX4_reason_130 rfl (by decide +kernel)
theorem dX4_reason_157 : decode cX4_reason 157 = .ok (.bipush 10, 2) := kt_o16 (j := 27) sX4_reason_130 rfl (by decide +kernel)
theorem dX4_reason_159 : decode cX4_reason 159 = .ok (.goto 4, 3) := kt_o167 (j := 29) sX4_reason_130 rfl (by decide +kernel)
theorem dX4_reason_162 : decode cX4_reason 162 = .ok (.iconst 0, 1) := kt_o3 (j := 32) sX4_reason_130 rfl
theorem dX4_reason_163 : decode cX4_reason 163 = .ok (.ireturn, 1) := kt_o172 (j := 33) sX4_reason_130 rfl
theorem kt_wp_X4_barrier__X4_barrier_r1 {w : Cond} (h : w ∈ wsX4_barrier_r1) : w ∈ wsX4_barrier := List.mem_cons_of_mem _ (List.mem_append_left _ (List.mem_append_left _ (List.mem_append_left _ (List.mem_append_left _ (List.mem_append_left _ (h))))))
theorem kt_wp_X4_barrier__X4_barrier_r2 {w : Cond} (h : w ∈ wsX4_barrier_r2) : w ∈ wsX4_barrier := List.mem_cons_of_mem _ (List.mem_append_left _ (List.mem_append_left _ (List.mem_append_left _ (List.mem_append_left _ (List.mem_append_right _ (h))))))
theorem kt_wp_X4_barrier__X40 {w : Cond} (h : w ∈ wsX40) : w ∈ wsX4_barrier := List.mem_cons_of_mem _ (List.mem_append_left _ (List.mem_append_left _ (List.mem_append_left _ (List.mem_append_right _ (h)))))
theorem kt_wp_X4_barrier__X60 {w : Cond} (h : w ∈ wsX60) : w ∈ wsX4_barrier := List.mem_cons_of_mem _ (List.mem_append_left _ (List.mem_append_left _ (List.mem_append_right _ (h))))
theorem kt_wp_X4_barrier__X80 {w : Cond} (h : w ∈ wsX80) : w ∈ wsX4_barrier := List.mem_cons_of_mem _ (List.mem_append_left _ (List.mem_append_right _ (h)))
theorem kt_wp_X4_barrier__X00 {w : Cond} (h : w ∈ wsX00) : w ∈ wsX4_barrier := List.mem_cons_of_mem _ (List.mem_append_right _ (h))
set_option maxRecDepth 20000 in
theorem ggX4_barrier_X8_fieldOf : GoodIn wsX4_barrier wsX8_fieldOf := goodIn_sub (kt_wf1 (kt_wp_X4_barrier__X4_barrier_r1 kt_wm6) (kt_wfa (kt_wf1 (kt_wp_X4_barrier__X4_barrier_r1 kt_wm7) kt_wf0) (fun _ h => kt_wp_X4_barrier__X80 h))) kt_wg_X8_fieldOf
set_option maxRecDepth 20000 in
theorem gX4_barrier_X8_fieldOf : GoodIn wsX4_barrier (wsV RX4 103 RX8 yX8_fieldOf wsX8_fieldOf) := goodIn_app (a := [.methodLink RX4 103 yX8_fieldOf, .instanceMethod yX8_fieldOf, .selects RX8 yX8_fieldOf yX8_fieldOf, .initialized RX8]) (goodIn_sub (kt_wf1 (kt_wp_X4_barrier__X4_barrier_r1 kt_wm2) (kt_wf1 (kt_wp_X4_barrier__X4_barrier_r1 kt_wm3) (kt_wf1 (kt_wp_X4_barrier__X4_barrier_r1 kt_wm4) (kt_wf1 (kt_wp_X4_barrier__X4_barrier_r1 kt_wm5) kt_wf0)))) (by decide +kernel)) ggX4_barrier_X8_fieldOf
set_option maxRecDepth 20000 in
theorem ggX4_barrier_X0_beside : GoodIn wsX4_barrier wsX0_beside := goodIn_sub (kt_wf1 (kt_wp_X4_barrier__X4_barrier_r1 kt_wm12) (kt_wfa (kt_wf1 (kt_wp_X4_barrier__X4_barrier_r1 kt_wm13) (kt_wf1 (kt_wp_X4_barrier__X4_barrier_r1 kt_wm14) kt_wf0)) (fun _ h => kt_wp_X4_barrier__X00 h))) kt_wg_X0_beside
set_option maxRecDepth 20000 in
theorem gX4_barrier_X0_beside : GoodIn wsX4_barrier (wsV RX4 134 RX0 yX0_beside wsX0_beside) := goodIn_app (a := [.methodLink RX4 134 yX0_beside, .instanceMethod yX0_beside, .selects RX0 yX0_beside yX0_beside, .initialized RX0]) (goodIn_sub (kt_wf1 (kt_wp_X4_barrier__X4_barrier_r1 kt_wm8) (kt_wf1 (kt_wp_X4_barrier__X4_barrier_r1 kt_wm9) (kt_wf1 (kt_wp_X4_barrier__X4_barrier_r1 kt_wm10) (kt_wf1 (kt_wp_X4_barrier__X4_barrier_r1 kt_wm11) kt_wf0)))) (by decide +kernel)) ggX4_barrier_X0_beside
set_option maxRecDepth 20000 in
theorem kt_wg_X8_holderOf : wsX8_holderOf.all goodWord = true := by decide +kernel
set_option maxRecDepth 20000 in
theorem ggX4_barrier_X8_holderOf : GoodIn wsX4_barrier wsX8_holderOf := goodIn_sub (kt_wf1 (kt_wp_X4_barrier__X4_barrier_r1 kt_wm18) (kt_wfa (kt_wf1 (kt_wp_X4_barrier__X4_barrier_r1 kt_wm19) kt_wf0) (fun _ h => kt_wp_X4_barrier__X80 h))) kt_wg_X8_holderOf
set_option maxRecDepth 20000 in
theorem gX4_barrier_X8_holderOf : GoodIn wsX4_barrier (wsV RX4 138 RX8 yX8_holderOf wsX8_holderOf) := goodIn_app (a := [.methodLink RX4 138 yX8_holderOf, .instanceMethod yX8_holderOf, .selects RX8 yX8_holderOf yX8_holderOf, .initialized RX8]) (goodIn_sub (kt_wf1 (kt_wp_X4_barrier__X4_barrier_r1 kt_wm15) (kt_wf1 (kt_wp_X4_barrier__X4_barrier_r1 kt_wm16) (kt_wf1 (kt_wp_X4_barrier__X4_barrier_r1 kt_wm17) (kt_wf1 (kt_wp_X4_barrier__X4_barrier_r1 kt_wm5) kt_wf0)))) (by decide +kernel)) ggX4_barrier_X8_holderOf
set_option maxRecDepth 20000 in
theorem kt_wg_X6_bears : wsX6_bears.all goodWord = true := by decide +kernel
set_option maxRecDepth 20000 in
theorem ggX4_barrier_X6_bears : GoodIn wsX4_barrier wsX6_bears := goodIn_sub (kt_wf1 (kt_wp_X4_barrier__X4_barrier_r2 kt_wm0) (kt_wfa (kt_wfa (kt_wf1 (kt_wp_X4_barrier__X4_barrier_r2 kt_wm1) (kt_wf1 (kt_wp_X4_barrier__X4_barrier_r2 kt_wm2) kt_wf0)) (fun _ h => kt_wp_X4_barrier__X60 h)) (fun _ h => kt_wp_X4_barrier__X00 h))) kt_wg_X6_bears
set_option maxRecDepth 20000 in
theorem gX4_barrier_X6_bears : GoodIn wsX4_barrier (wsV RX4 141 RX6 yX6_bears wsX6_bears) := goodIn_app (a := [.methodLink RX4 141 yX6_bears, .instanceMethod yX6_bears, .selects RX6 yX6_bears yX6_bears, .initialized RX6]) (goodIn_sub (kt_wf1 (kt_wp_X4_barrier__X4_barrier_r1 kt_wm20) (kt_wf1 (kt_wp_X4_barrier__X4_barrier_r1 kt_wm21) (kt_wf1 (kt_wp_X4_barrier__X4_barrier_r1 kt_wm22) (kt_wf1 (kt_wp_X4_barrier__X4_barrier_r1 kt_wm23) kt_wf0)))) (by decide +kernel)) ggX4_barrier_X6_bears
theorem sX4_barrier_0 : kt_sg cX4_barrier 0 [42, 180, 0, 12, 27, 182, 0, 103, 54, 4, 4, 54, 5, 21, 5, 16, 9, 162, 0, 62, 21, 4, 29, 159, 0, 56, 42, 180, 0, 33, 180, 0, 40, 21, 4, 28, 182, 0, 134, 54, 4, 42, 180, 0, 12, 21, 4, 182, 0, 138, 2, 159, 0, 6, 16, 8, 172, 42, 180, 0, 33, 21, 4, 27] = true := by decide +kernel
theorem dX4_barrier_0 : decode cX4_barrier 0 = .ok (.aload_n 0, 1) := kt_o42 (j := 0) sX4_barrier_0 rfl
theorem dX4_barrier_1 : decode cX4_barrier 1 = .ok (.getfield 12, 3) := kt_o180 (j := 1) sX4_barrier_0 rfl rfl
theorem dX4_barrier_4 : decode cX4_barrier 4 = .ok (.iload_n 1, 1) := kt_o27 (j := 4) sX4_barrier_0 rfl
theorem dX4_barrier_5 : decode cX4_barrier 5 = .ok (.invokevirtual 103, 3) := kt_o182 (j := 5) sX4_barrier_0 rfl rfl
theorem dX4_barrier_8 : decode cX4_barrier 8 = .ok (.istore 4, 2) := kt_o54 (j := 8) sX4_barrier_0 rfl
theorem dX4_barrier_10 : decode cX4_barrier 10 = .ok (.iconst 1, 1) := kt_o4 (j := 10) sX4_barrier_0 rfl
theorem dX4_barrier_11 : decode cX4_barrier 11 = .ok (.istore 5, 2) := kt_o54 (j := 11) sX4_barrier_0 rfl
theorem dX4_barrier_13 : decode cX4_barrier 13 = .ok (.iload 5, 2) := kt_o21 (j := 13) sX4_barrier_0 rfl
theorem dX4_barrier_15 : decode cX4_barrier 15 = .ok (.bipush 9, 2) := kt_o16 (j := 15) sX4_barrier_0 rfl (by decide +kernel)
theorem dX4_barrier_17 : decode cX4_barrier 17 = .ok (.if_icmp .ge 62, 3) := kt_o162 (j := 17) sX4_barrier_0 rfl (by decide +kernel)
theorem dX4_barrier_20 : decode cX4_barrier 20 = .ok (.iload 4, 2) := kt_o21 (j := 20) sX4_barrier_0 rfl
theorem dX4_barrier_22 : decode cX4_barrier 22 = .ok (.iload_n 3, 1) := kt_o29 (j := 22) sX4_barrier_0 rfl
theorem dX4_barrier_23 : decode cX4_barrier 23 = .ok (.if_icmp .eq 56, 3) := kt_o159 (j := 23) sX4_barrier_0 rfl (by decide +kernel)
theorem dX4_barrier_26 : decode cX4_barrier 26 = .ok (.aload_n 0, 1) := kt_o42 (j := 26) sX4_barrier_0 rfl
theorem dX4_barrier_27 : decode cX4_barrier 27 = .ok (.getfield 33, 3) := kt_o180 (j := 27) sX4_barrier_0 rfl rfl
theorem dX4_barrier_30 : decode cX4_barrier 30 = .ok (.getfield 40, 3) := kt_o180 (j := 30) sX4_barrier_0 rfl rfl
theorem dX4_barrier_33 : decode cX4_barrier 33 = .ok (.iload 4, 2) := kt_o21 (j := 33) sX4_barrier_0 rfl
theorem dX4_barrier_35 : decode cX4_barrier 35 = .ok (.iload_n 2, 1) := kt_o28 (j := 35) sX4_barrier_0 rfl
theorem dX4_barrier_36 : decode cX4_barrier 36 = .ok (.invokevirtual 134, 3) := kt_o182 (j := 36) sX4_barrier_0 rfl rfl
theorem dX4_barrier_39 : decode cX4_barrier 39 = .ok (.istore 4, 2) := kt_o54 (j := 39) sX4_barrier_0 rfl
theorem dX4_barrier_41 : decode cX4_barrier 41 = .ok (.aload_n 0, 1) := kt_o42 (j := 41) sX4_barrier_0 rfl
theorem dX4_barrier_42 : decode cX4_barrier 42 = .ok (.getfield 12, 3) := kt_o180 (j := 42) sX4_barrier_0 rfl rfl
theorem dX4_barrier_45 : decode cX4_barrier 45 = .ok (.iload 4, 2) := kt_o21 (j := 45) sX4_barrier_0 rfl
theorem dX4_barrier_47 : decode cX4_barrier 47 = .ok (.invokevirtual 138, 3) := kt_o182 (j := 47) sX4_barrier_0 rfl rfl
theorem dX4_barrier_50 : decode cX4_barrier 50 = .ok (.iconst (-1), 1) := kt_o2 (j := 50) sX4_barrier_0 rfl
theorem dX4_barrier_51 : decode cX4_barrier 51 = .ok (.if_icmp .eq 6, 3) := kt_o159 (j := 51) sX4_barrier_0 rfl (by decide +kernel)
theorem dX4_barrier_54 : decode cX4_barrier 54 = .ok (.bipush 8, 2) := kt_o16 (j := 54) sX4_barrier_0 rfl (by decide +kernel)
theorem dX4_barrier_56 : decode cX4_barrier 56 = .ok (.ireturn, 1) := kt_o172 (j := 56) sX4_barrier_0 rfl
theorem dX4_barrier_57 : decode cX4_barrier 57 = .ok (.aload_n 0, 1) := kt_o42 (j := 57) sX4_barrier_0 rfl
theorem dX4_barrier_58 : decode cX4_barrier 58 = .ok (.getfield 33, 3) := kt_o180 (j := 58) sX4_barrier_0 rfl rfl
theorem dX4_barrier_61 : decode cX4_barrier 61 = .ok (.iload 4, 2) := kt_o21 (j := 61) sX4_barrier_0 rfl
theorem dX4_barrier_63 : decode cX4_barrier 63 = .ok (.iload_n 1, 1) := kt_o27 (j := 63) sX4_barrier_0 rfl
theorem sX4_barrier_64 : kt_sg cX4_barrier 64 [182, 0, 141, 154, 0, 6, 16, 9, 172, 132, 5, 1, 167, 255, 193, 3, 172] = true := by decide +kernel
theorem dX4_barrier_64 : decode cX4_barrier 64 = .ok (.invokevirtual 141, 3) := kt_o182 (j := 0) sX4_barrier_64 rfl rfl
theorem dX4_barrier_67 : decode cX4_barrier 67 = .ok (.ifCond .ne 6, 3) := kt_o154 (j := 3) sX4_barrier_64 rfl (by decide +kernel)
theorem dX4_barrier_70 : decode cX4_barrier 70 = .ok (.bipush 9, 2) := kt_o16 (j := 6) sX4_barrier_64 rfl (by decide +kernel)
theorem dX4_barrier_72 : decode cX4_barrier 72 = .ok (.ireturn, 1) := kt_o172 (j := 8) sX4_barrier_64 rfl
theorem dX4_barrier_73 : decode cX4_barrier 73 = .ok (.iinc 5 1, 3) := kt_o132 (j := 9) sX4_barrier_64 rfl (by decide +kernel)
theorem dX4_barrier_76 : decode cX4_barrier 76 = .ok (.goto (-63), 3) := kt_o167 (j := 12) sX4_barrier_64 rfl (by decide +kernel)
theorem dX4_barrier_79 : decode cX4_barrier 79 = .ok (.iconst 0, 1) := kt_o3 (j := 15) sX4_barrier_64 rfl
theorem dX4_barrier_80 : decode cX4_barrier 80 = .ok (.ireturn, 1) := kt_o172 (j := 16) sX4_barrier_64 rfl
theorem kt_wp_X4_comesBack__X4_comesBack_r1 {w : Cond} (h : w ∈ wsX4_comesBack_r1) : w ∈ wsX4_comesBack := List.mem_cons_of_mem _ (List.mem_append_left _ (List.mem_append_left _ (List.mem_append_left _ (List.mem_append_left _ (List.mem_append_left _ (List.mem_append_left _ (List.mem_append_left _ (h))))))))
theorem kt_wp_X4_comesBack__X4_comesBack_r2 {w : Cond} (h : w ∈ wsX4_comesBack_r2) : w ∈ wsX4_comesBack := List.mem_cons_of_mem _ (List.mem_append_left _ (List.mem_append_left _ (List.mem_append_left _ (List.mem_append_left _ (List.mem_append_left _ (List.mem_append_left _ (List.mem_append_right _ (List.mem_append_left _ (h)))))))))
theorem kt_wp_X4_comesBack__X4_comesBack_r3 {w : Cond} (h : w ∈ wsX4_comesBack_r3) : w ∈ wsX4_comesBack := List.mem_cons_of_mem _ (List.mem_append_left _ (List.mem_append_left _ (List.mem_append_left _ (List.mem_append_left _ (List.mem_append_left _ (List.mem_append_left _ (List.mem_append_right _ (List.mem_append_right _ (h)))))))))
theorem kt_wp_X4_comesBack__X40 {w : Cond} (h : w ∈ wsX40) : w ∈ wsX4_comesBack := List.mem_cons_of_mem _ (List.mem_append_left _ (List.mem_append_left _ (List.mem_append_left _ (List.mem_append_left _ (List.mem_append_left _ (List.mem_append_right _ (h)))))))
theorem kt_wp_X4_comesBack__X60 {w : Cond} (h : w ∈ wsX60) : w ∈ wsX4_comesBack := List.mem_cons_of_mem _ (List.mem_append_left _ (List.mem_append_left _ (List.mem_append_left _ (List.mem_append_left _ (List.mem_append_right _ (h))))))
theorem kt_wp_X4_comesBack__X80 {w : Cond} (h : w ∈ wsX80) : w ∈ wsX4_comesBack := List.mem_cons_of_mem _ (List.mem_append_left _ (List.mem_append_left _ (List.mem_append_left _ (List.mem_append_right _ (h)))))
theorem kt_wp_X4_comesBack__X00 {w : Cond} (h : w ∈ wsX00) : w ∈ wsX4_comesBack := List.mem_cons_of_mem _ (List.mem_append_left _ (List.mem_append_left _ (List.mem_append_right _ (h))))
theorem kt_wp_X4_comesBack__X10 {w : Cond} (h : w ∈ wsX10) : w ∈ wsX4_comesBack := List.mem_cons_of_mem _ (List.mem_append_left _ (List.mem_append_right _ (h)))
theorem kt_wp_X4_comesBack__X30 {w : Cond} (h : w ∈ wsX30) : w ∈ wsX4_comesBack := List.mem_cons_of_mem _ (List.mem_append_right _ (h))
set_option maxRecDepth 20000 in
theorem kt_wg_X6_findVictims : wsX6_findVictims.all goodWord = true := by decide +kernel
set_option maxRecDepth 20000 in
theorem ggX4_comesBack_X6_findVictims : GoodIn wsX4_comesBack wsX6_findVictims := goodIn_sub (kt_wf1 (kt_wp_X4_comesBack__X4_comesBack_r1 kt_wm7) (kt_wfa (kt_wfa (kt_wfa (kt_wfa (kt_wfa (kt_wf1 (kt_wp_X4_comesBack__X4_comesBack_r1 kt_wm8) (kt_wf1 (kt_wp_X4_comesBack__X4_comesBack_r1 kt_wm9) (kt_wf1 (kt_wp_X4_comesBack__X4_comesBack_r1 kt_wm10) (kt_wf1 (kt_wp_X4_comesBack__X4_comesBack_r1 kt_wm11) (kt_wf1 (kt_wp_X4_comesBack__X4_comesBack_r1 kt_wm12) (kt_wf1 (kt_wp_X4_comesBack__X4_comesBack_r1 kt_wm13) (kt_wf1 (kt_wp_X4_comesBack__X4_comesBack_r1 kt_wm14) (kt_wf1 (kt_wp_X4_comesBack__X4_comesBack_r1 kt_wm6) (kt_wf1 (kt_wp_X4_comesBack__X4_comesBack_r1 kt_wm15) (kt_wf1 (kt_wp_X4_comesBack__X4_comesBack_r1 kt_wm16) (kt_wf1 (kt_wp_X4_comesBack__X4_comesBack_r1 kt_wm17) (kt_wf1 (kt_wp_X4_comesBack__X4_comesBack_r1 kt_wm18) (kt_wf1 (kt_wp_X4_comesBack__X4_comesBack_r1 kt_wm19) (kt_wf1 (kt_wp_X4_comesBack__X4_comesBack_r1 kt_wm20) (kt_wf1 (kt_wp_X4_comesBack__X4_comesBack_r1 kt_wm21) (kt_wf1 (kt_wp_X4_comesBack__X4_comesBack_r1 kt_wm22) (kt_wf1 (kt_wp_X4_comesBack__X4_comesBack_r1 kt_wm23) (kt_wf1 (kt_wp_X4_comesBack__X4_comesBack_r2 kt_wm0) (kt_wf1 (kt_wp_X4_comesBack__X4_comesBack_r2 kt_wm1) (kt_wf1 (kt_wp_X4_comesBack__X4_comesBack_r2 kt_wm2) (kt_wf1 (kt_wp_X4_comesBack__X4_comesBack_r2 kt_wm3) (kt_wf1 (kt_wp_X4_comesBack__X4_comesBack_r2 kt_wm4) (kt_wf1 (kt_wp_X4_comesBack__X4_comesBack_r2 kt_wm5) (kt_wf1 (kt_wp_X4_comesBack__X4_comesBack_r2 kt_wm6) kt_wf0)))))))))))))))))))))))) (kt_wf1 (kt_wp_X4_comesBack__X4_comesBack_r2 kt_wm7) (kt_wf1 (kt_wp_X4_comesBack__X4_comesBack_r2 kt_wm8) (kt_wf1 (kt_wp_X4_comesBack__X4_comesBack_r2 kt_wm9) (kt_wf1 (kt_wp_X4_comesBack__X4_comesBack_r2 kt_wm10) (kt_wf1 (kt_wp_X4_comesBack__X4_comesBack_r2 kt_wm11) (kt_wf1 (kt_wp_X4_comesBack__X4_comesBack_r2 kt_wm12) (kt_wf1 (kt_wp_X4_comesBack__X4_comesBack_r2 kt_wm13) (kt_wf1 (kt_wp_X4_comesBack__X4_comesBack_r2 kt_wm14) (kt_wf1 (kt_wp_X4_comesBack__X4_comesBack_r2 kt_wm15) (kt_wf1 (kt_wp_X4_comesBack__X4_comesBack_r2 kt_wm16) (kt_wf1 (kt_wp_X4_comesBack__X4_comesBack_r2 kt_wm17) (kt_wf1 (kt_wp_X4_comesBack__X4_comesBack_r2 kt_wm18) (kt_wf1 (kt_wp_X4_comesBack__X4_comesBack_r2 kt_wm19) (kt_wf1 (kt_wp_X4_comesBack__X4_comesBack_r2 kt_wm20) (kt_wf1 (kt_wp_X4_comesBack__X4_comesBack_r2 kt_wm21) (kt_wf1 (kt_wp_X4_comesBack__X4_comesBack_r2 kt_wm22) (kt_wf1 (kt_wp_X4_comesBack__X4_comesBack_r2 kt_wm23) (kt_wf1 (kt_wp_X4_comesBack__X4_comesBack_r3 kt_wm0) (kt_wf1 (kt_wp_X4_comesBack__X4_comesBack_r3 kt_wm1) (kt_wf1 (kt_wp_X4_comesBack__X4_comesBack_r3 kt_wm2) (kt_wf1 (kt_wp_X4_comesBack__X4_comesBack_r3 kt_wm3) (kt_wf1 (kt_wp_X4_comesBack__X4_comesBack_r3 kt_wm4) (kt_wf1 (kt_wp_X4_comesBack__X4_comesBack_r3 kt_wm5) (kt_wf1 (kt_wp_X4_comesBack__X4_comesBack_r3 kt_wm6) kt_wf0))))))))))))))))))))))))) (fun _ h => kt_wp_X4_comesBack__X60 h)) (fun _ h => kt_wp_X4_comesBack__X80 h)) (fun _ h => kt_wp_X4_comesBack__X00 h)) (fun _ h => kt_wp_X4_comesBack__X10 h))) kt_wg_X6_findVictims
set_option maxRecDepth 20000 in
theorem gX4_comesBack_X6_findVictims : GoodIn wsX4_comesBack (wsV RX4 144 RX6 yX6_findVictims wsX6_findVictims) := goodIn_app (a := [.methodLink RX4 144 yX6_findVictims, .instanceMethod yX6_findVictims, .selects RX6 yX6_findVictims yX6_findVictims, .initialized RX6]) (goodIn_sub (kt_wf1 (kt_wp_X4_comesBack__X4_comesBack_r1 kt_wm3) (kt_wf1 (kt_wp_X4_comesBack__X4_comesBack_r1 kt_wm4) (kt_wf1 (kt_wp_X4_comesBack__X4_comesBack_r1 kt_wm5) (kt_wf1 (kt_wp_X4_comesBack__X4_comesBack_r1 kt_wm6) kt_wf0)))) (by decide +kernel)) ggX4_comesBack_X6_findVictims
set_option maxRecDepth 20000 in
theorem kt_wg_X3_hasSeen : wsX3_hasSeen.all goodWord = true := by decide +kernel
set_option maxRecDepth 20000 in
theorem ggX4_comesBack_X3_hasSeen : GoodIn wsX4_comesBack wsX3_hasSeen := goodIn_sub (kt_wf1 (kt_wp_X4_comesBack__X4_comesBack_r3 kt_wm11) (kt_wfa (kt_wfa (kt_wf1 (kt_wp_X4_comesBack__X4_comesBack_r3 kt_wm12) (kt_wf1 (kt_wp_X4_comesBack__X4_comesBack_r3 kt_wm13) (kt_wf1 (kt_wp_X4_comesBack__X4_comesBack_r3 kt_wm14) (kt_wf1 (kt_wp_X4_comesBack__X4_comesBack_r3 kt_wm15) (kt_wf1 (kt_wp_X4_comesBack__X4_comesBack_r3 kt_wm16) (kt_wf1 (kt_wp_X4_comesBack__X4_comesBack_r3 kt_wm17) (kt_wf1 (kt_wp_X4_comesBack__X4_comesBack_r3 kt_wm18) (kt_wf1 (kt_wp_X4_comesBack__X4_comesBack_r3 kt_wm19) (kt_wf1 (kt_wp_X4_comesBack__X4_comesBack_r3 kt_wm20) (kt_wf1 (kt_wp_X4_comesBack__X4_comesBack_r3 kt_wm21) (kt_wf1 (kt_wp_X4_comesBack__X4_comesBack_r1 kt_wm18) (kt_wf1 (kt_wp_X4_comesBack__X4_comesBack_r1 kt_wm19) (kt_wf1 (kt_wp_X4_comesBack__X4_comesBack_r1 kt_wm20) (kt_wf1 (kt_wp_X4_comesBack__X4_comesBack_r1 kt_wm21) (kt_wf1 (kt_wp_X4_comesBack__X4_comesBack_r1 kt_wm22) kt_wf0))))))))))))))) (fun _ h => kt_wp_X4_comesBack__X80 h)) (fun _ h => kt_wp_X4_comesBack__X30 h))) kt_wg_X3_hasSeen
set_option maxRecDepth 20000 in
theorem gX4_comesBack_X3_hasSeen : GoodIn wsX4_comesBack (wsV RX4 148 RX3 yX3_hasSeen wsX3_hasSeen) := goodIn_app (a := [.methodLink RX4 148 yX3_hasSeen, .instanceMethod yX3_hasSeen, .selects RX3 yX3_hasSeen yX3_hasSeen, .initialized RX3]) (goodIn_sub (kt_wf1 (kt_wp_X4_comesBack__X4_comesBack_r3 kt_wm7) (kt_wf1 (kt_wp_X4_comesBack__X4_comesBack_r3 kt_wm8) (kt_wf1 (kt_wp_X4_comesBack__X4_comesBack_r3 kt_wm9) (kt_wf1 (kt_wp_X4_comesBack__X4_comesBack_r3 kt_wm10) kt_wf0)))) (by decide +kernel)) ggX4_comesBack_X3_hasSeen
theorem sX4_comesBack_0 : kt_sg cX4_comesBack 0 [42, 180, 0, 33, 42, 180, 0, 12, 27, 28, 182, 0, 144, 154, 0, 23, 42, 180, 0, 21, 42, 180, 0, 12, 27, 28, 182, 0, 148, 153, 0, 7, 4, 167, 0, 4, 3, 172] = true := by decide +kernel
theorem dX4_comesBack_0 : decode cX4_comesBack 0 = .ok (.aload_n 0, 1) := kt_o42 (j := 0) sX4_comesBack_0 rfl
theorem dX4_comesBack_1 : decode cX4_comesBack 1 = .ok (.getfield 33, 3) := kt_o180 (j := 1) sX4_comesBack_0 rfl rfl
theorem dX4_comesBack_4 : decode cX4_comesBack 4 = .ok (.aload_n 0, 1) := kt_o42 (j := 4) sX4_comesBack_0 rfl
theorem dX4_comesBack_5 : decode cX4_comesBack 5 = .ok (.getfield 12, 3) := kt_o180 (j := 5) sX4_comesBack_0 rfl rfl
theorem dX4_comesBack_8 : decode cX4_comesBack 8 = .ok (.iload_n 1, 1) := kt_o27 (j := 8) sX4_comesBack_0 rfl
theorem dX4_comesBack_9 : decode cX4_comesBack 9 = .ok (.iload_n 2, 1) := kt_o28 (j := 9) sX4_comesBack_0 rfl
theorem dX4_comesBack_10 : decode cX4_comesBack 10 = .ok (.invokevirtual 144, 3) := kt_o182 (j := 10) sX4_comesBack_0 rfl rfl
theorem dX4_comesBack_13 : decode cX4_comesBack 13 = .ok (.ifCond .ne 23, 3) := kt_o154 (j := 13) sX4_comesBack_0 rfl (by decide +kernel)
theorem dX4_comesBack_16 : decode cX4_comesBack 16 = .ok (.aload_n 0, 1) := kt_o42 (j := 16) sX4_comesBack_0 rfl
theorem dX4_comesBack_17 : decode cX4_comesBack 17 = .ok (.getfield 21, 3) := kt_o180 (j := 17) sX4_comesBack_0 rfl rfl
theorem dX4_comesBack_20 : decode cX4_comesBack 20 = .ok (.aload_n 0, 1) := kt_o42 (j := 20) sX4_comesBack_0 rfl
theorem dX4_comesBack_21 : decode cX4_comesBack 21 = .ok (.getfield 12, 3) := kt_o180 (j := 21) sX4_comesBack_0 rfl rfl
theorem dX4_comesBack_24 : decode cX4_comesBack 24 = .ok (.iload_n 1, 1) := kt_o27 (j := 24) sX4_comesBack_0 rfl
theorem dX4_comesBack_25 : decode cX4_comesBack 25 = .ok (.iload_n 2, 1) := kt_o28 (j := 25) sX4_comesBack_0 rfl
theorem dX4_comesBack_26 : decode cX4_comesBack 26 = .ok (.invokevirtual 148, 3) := kt_o182 (j := 26) sX4_comesBack_0 rfl rfl
theorem dX4_comesBack_29 : decode cX4_comesBack 29 = .ok (.ifCond .eq 7, 3) := kt_o153 (j := 29) sX4_comesBack_0 rfl (by decide +kernel)
theorem dX4_comesBack_32 : decode cX4_comesBack 32 = .ok (.iconst 1, 1) := kt_o4 (j := 32) sX4_comesBack_0 rfl
theorem dX4_comesBack_33 : decode cX4_comesBack 33 = .ok (.goto 4, 3) := kt_o167 (j := 33) sX4_comesBack_0 rfl (by decide +kernel)
theorem dX4_comesBack_36 : decode cX4_comesBack 36 = .ok (.iconst 0, 1) := kt_o3 (j := 36) sX4_comesBack_0 rfl
theorem dX4_comesBack_37 : decode cX4_comesBack 37 = .ok (.ireturn, 1) := kt_o172 (j := 37) sX4_comesBack_0 rfl
theorem kt_wp_X4_tryMove__X4_tryMove_r1 {w : Cond} (h : w ∈ wsX4_tryMove_r1) : w ∈ wsX4_tryMove := List.mem_cons_of_mem _ (List.mem_append_left _ (List.mem_append_left _ (List.mem_append_left _ (List.mem_append_left _ (List.mem_append_left _ (List.mem_append_left _ (List.mem_append_left _ (h))))))))
theorem kt_wp_X4_tryMove__X4_tryMove_r2 {w : Cond} (h : w ∈ wsX4_tryMove_r2) : w ∈ wsX4_tryMove := List.mem_cons_of_mem _ (List.mem_append_left _ (List.mem_append_left _ (List.mem_append_left _ (List.mem_append_left _ (List.mem_append_left _ (List.mem_append_left _ (List.mem_append_right _ (List.mem_append_left _ (h)))))))))
theorem kt_wp_X4_tryMove__X4_tryMove_r3 {w : Cond} (h : w ∈ wsX4_tryMove_r3) : w ∈ wsX4_tryMove := List.mem_cons_of_mem _ (List.mem_append_left _ (List.mem_append_left _ (List.mem_append_left _ (List.mem_append_left _ (List.mem_append_left _ (List.mem_append_left _ (List.mem_append_right _ (List.mem_append_right _ (List.mem_append_left _ (h))))))))))
theorem kt_wp_X4_tryMove__X4_tryMove_r4 {w : Cond} (h : w ∈ wsX4_tryMove_r4) : w ∈ wsX4_tryMove := List.mem_cons_of_mem _ (List.mem_append_left _ (List.mem_append_left _ (List.mem_append_left _ (List.mem_append_left _ (List.mem_append_left _ (List.mem_append_left _ (List.mem_append_right _ (List.mem_append_right _ (List.mem_append_right _ (List.mem_append_left _ (h)))))))))))
theorem kt_wp_X4_tryMove__X4_tryMove_r5 {w : Cond} (h : w ∈ wsX4_tryMove_r5) : w ∈ wsX4_tryMove := List.mem_cons_of_mem _ (List.mem_append_left _ (List.mem_append_left _ (List.mem_append_left _ (List.mem_append_left _ (List.mem_append_left _ (List.mem_append_left _ (List.mem_append_right _ (List.mem_append_right _ (List.mem_append_right _ (List.mem_append_right _ (List.mem_append_left _ (h))))))))))))
theorem kt_wp_X4_tryMove__X4_tryMove_r6 {w : Cond} (h : w ∈ wsX4_tryMove_r6) : w ∈ wsX4_tryMove := List.mem_cons_of_mem _ (List.mem_append_left _ (List.mem_append_left _ (List.mem_append_left _ (List.mem_append_left _ (List.mem_append_left _ (List.mem_append_left _ (List.mem_append_right _ (List.mem_append_right _ (List.mem_append_right _ (List.mem_append_right _ (List.mem_append_right _ (List.mem_append_left _ (h)))))))))))))
theorem kt_wp_X4_tryMove__X4_tryMove_r7 {w : Cond} (h : w ∈ wsX4_tryMove_r7) : w ∈ wsX4_tryMove := List.mem_cons_of_mem _ (List.mem_append_left _ (List.mem_append_left _ (List.mem_append_left _ (List.mem_append_left _ (List.mem_append_left _ (List.mem_append_left _ (List.mem_append_right _ (List.mem_append_right _ (List.mem_append_right _ (List.mem_append_right _ (List.mem_append_right _ (List.mem_append_right _ (h)))))))))))))
theorem kt_wp_X4_tryMove__X40 {w : Cond} (h : w ∈ wsX40) : w ∈ wsX4_tryMove := List.mem_cons_of_mem _ (List.mem_append_left _ (List.mem_append_left _ (List.mem_append_left _ (List.mem_append_left _ (List.mem_append_left _ (List.mem_append_right _ (h)))))))
theorem kt_wp_X4_tryMove__X30 {w : Cond} (h : w ∈ wsX30) : w ∈ wsX4_tryMove := List.mem_cons_of_mem _ (List.mem_append_left _ (List.mem_append_left _ (List.mem_append_left _ (List.mem_append_left _ (List.mem_append_right _ (h))))))
theorem kt_wp_X4_tryMove__X60 {w : Cond} (h : w ∈ wsX60) : w ∈ wsX4_tryMove := List.mem_cons_of_mem _ (List.mem_append_left _ (List.mem_append_left _ (List.mem_append_left _ (List.mem_append_right _ (h)))))
theorem kt_wp_X4_tryMove__X80 {w : Cond} (h : w ∈ wsX80) : w ∈ wsX4_tryMove := List.mem_cons_of_mem _ (List.mem_append_left _ (List.mem_append_left _ (List.mem_append_right _ (h))))
theorem kt_wp_X4_tryMove__X10 {w : Cond} (h : w ∈ wsX10) : w ∈ wsX4_tryMove := List.mem_cons_of_mem _ (List.mem_append_left _ (List.mem_append_right _ (h)))
theorem kt_wp_X4_tryMove__X00 {w : Cond} (h : w ∈ wsX00) : w ∈ wsX4_tryMove := List.mem_cons_of_mem _ (List.mem_append_right _ (h))
set_option maxRecDepth 20000 in
theorem kt_wg_X4_reason : wsX4_reason.all goodWord = true := by decide +kernel
set_option maxRecDepth 20000 in
theorem ggX4_tryMove_X4_reason : GoodIn wsX4_tryMove wsX4_reason := goodIn_sub (kt_wf1 (kt_wp_X4_tryMove__X4_tryMove_r1 kt_wm7) (kt_wfa (kt_wfa (kt_wfa (kt_wfa (kt_wfa (kt_wfa (kt_wfa (kt_wf1 (kt_wp_X4_tryMove__X4_tryMove_r1 kt_wm8) (kt_wf1 (kt_wp_X4_tryMove__X4_tryMove_r1 kt_wm1) (kt_wf1 (kt_wp_X4_tryMove__X4_tryMove_r1 kt_wm2) (kt_wf1 (kt_wp_X4_tryMove__X4_tryMove_r1 kt_wm9) (kt_wf1 (kt_wp_X4_tryMove__X4_tryMove_r1 kt_wm10) (kt_wf1 (kt_wp_X4_tryMove__X4_tryMove_r1 kt_wm11) (kt_wf1 (kt_wp_X4_tryMove__X4_tryMove_r1 kt_wm12) (kt_wf1 (kt_wp_X4_tryMove__X4_tryMove_r1 kt_wm13) (kt_wf1 (kt_wp_X4_tryMove__X4_tryMove_r1 kt_wm14) (kt_wf1 (kt_wp_X4_tryMove__X4_tryMove_r1 kt_wm15) (kt_wf1 (kt_wp_X4_tryMove__X4_tryMove_r1 kt_wm16) (kt_wf1 (kt_wp_X4_tryMove__X4_tryMove_r1 kt_wm17) (kt_wf1 (kt_wp_X4_tryMove__X4_tryMove_r1 kt_wm18) (kt_wf1 (kt_wp_X4_tryMove__X4_tryMove_r1 kt_wm19) (kt_wf1 (kt_wp_X4_tryMove__X4_tryMove_r1 kt_wm20) (kt_wf1 (kt_wp_X4_tryMove__X4_tryMove_r1 kt_wm21) (kt_wf1 (kt_wp_X4_tryMove__X4_tryMove_r1 kt_wm22) (kt_wf1 (kt_wp_X4_tryMove__X4_tryMove_r1 kt_wm23) (kt_wf1 (kt_wp_X4_tryMove__X4_tryMove_r2 kt_wm0) (kt_wf1 (kt_wp_X4_tryMove__X4_tryMove_r2 kt_wm1) (kt_wf1 (kt_wp_X4_tryMove__X4_tryMove_r2 kt_wm2) (kt_wf1 (kt_wp_X4_tryMove__X4_tryMove_r2 kt_wm3) (kt_wf1 (kt_wp_X4_tryMove__X4_tryMove_r2 kt_wm4) (kt_wf1 (kt_wp_X4_tryMove__X4_tryMove_r2 kt_wm5) kt_wf0)))))))))))))))))))))))) (kt_wfa (kt_wf1 (kt_wp_X4_tryMove__X4_tryMove_r2 kt_wm6) (kt_wf1 (kt_wp_X4_tryMove__X4_tryMove_r2 kt_wm7) (kt_wf1 (kt_wp_X4_tryMove__X4_tryMove_r2 kt_wm8) (kt_wf1 (kt_wp_X4_tryMove__X4_tryMove_r2 kt_wm9) (kt_wf1 (kt_wp_X4_tryMove__X4_tryMove_r2 kt_wm10) (kt_wf1 (kt_wp_X4_tryMove__X4_tryMove_r2 kt_wm11) (kt_wf1 (kt_wp_X4_tryMove__X4_tryMove_r2 kt_wm12) (kt_wf1 (kt_wp_X4_tryMove__X4_tryMove_r2 kt_wm13) (kt_wf1 (kt_wp_X4_tryMove__X4_tryMove_r2 kt_wm14) (kt_wf1 (kt_wp_X4_tryMove__X4_tryMove_r2 kt_wm15) (kt_wf1 (kt_wp_X4_tryMove__X4_tryMove_r2 kt_wm16) (kt_wf1 (kt_wp_X4_tryMove__X4_tryMove_r2 kt_wm17) (kt_wf1 (kt_wp_X4_tryMove__X4_tryMove_r1 kt_wm6) (kt_wf1 (kt_wp_X4_tryMove__X4_tryMove_r2 kt_wm18) (kt_wf1 (kt_wp_X4_tryMove__X4_tryMove_r2 kt_wm19) (kt_wf1 (kt_wp_X4_tryMove__X4_tryMove_r2 kt_wm20) (kt_wf1 (kt_wp_X4_tryMove__X4_tryMove_r2 kt_wm21) (kt_wf1 (kt_wp_X4_tryMove__X4_tryMove_r2 kt_wm22) (kt_wf1 (kt_wp_X4_tryMove__X4_tryMove_r2 kt_wm23) (kt_wf1 (kt_wp_X4_tryMove__X4_tryMove_r3 kt_wm0) (kt_wf1 (kt_wp_X4_tryMove__X4_tryMove_r3 kt_wm1) (kt_wf1 (kt_wp_X4_tryMove__X4_tryMove_r3 kt_wm2) (kt_wf1 (kt_wp_X4_tryMove__X4_tryMove_r3 kt_wm3) (kt_wf1 (kt_wp_X4_tryMove__X4_tryMove_r3 kt_wm4) kt_wf0)))))))))))))))))))))))) (kt_wfa (kt_wf1 (kt_wp_X4_tryMove__X4_tryMove_r3 kt_wm5) (kt_wf1 (kt_wp_X4_tryMove__X4_tryMove_r3 kt_wm6) (kt_wf1 (kt_wp_X4_tryMove__X4_tryMove_r3 kt_wm7) (kt_wf1 (kt_wp_X4_tryMove__X4_tryMove_r3 kt_wm8) (kt_wf1 (kt_wp_X4_tryMove__X4_tryMove_r3 kt_wm9) (kt_wf1 (kt_wp_X4_tryMove__X4_tryMove_r1 kt_wm0) (kt_wf1 (kt_wp_X4_tryMove__X4_tryMove_r3 kt_wm10) (kt_wf1 (kt_wp_X4_tryMove__X4_tryMove_r3 kt_wm11) (kt_wf1 (kt_wp_X4_tryMove__X4_tryMove_r3 kt_wm12) (kt_wf1 (kt_wp_X4_tryMove__X4_tryMove_r3 kt_wm13) (kt_wf1 (kt_wp_X4_tryMove__X4_tryMove_r3 kt_wm14) (kt_wf1 (kt_wp_X4_tryMove__X4_tryMove_r3 kt_wm15) (kt_wf1 (kt_wp_X4_tryMove__X4_tryMove_r3 kt_wm16) (kt_wf1 (kt_wp_X4_tryMove__X4_tryMove_r3 kt_wm17) (kt_wf1 (kt_wp_X4_tryMove__X4_tryMove_r3 kt_wm18) (kt_wf1 (kt_wp_X4_tryMove__X4_tryMove_r3 kt_wm19) (kt_wf1 (kt_wp_X4_tryMove__X4_tryMove_r3 kt_wm20) (kt_wf1 (kt_wp_X4_tryMove__X4_tryMove_r3 kt_wm21) (kt_wf1 (kt_wp_X4_tryMove__X4_tryMove_r3 kt_wm22) (kt_wf1 (kt_wp_X4_tryMove__X4_tryMove_r3 kt_wm23) (kt_wf1 (kt_wp_X4_tryMove__X4_tryMove_r4 kt_wm0) (kt_wf1 (kt_wp_X4_tryMove__X4_tryMove_r4 kt_wm1) (kt_wf1 (kt_wp_X4_tryMove__X4_tryMove_r4 kt_wm2) (kt_wf1 (kt_wp_X4_tryMove__X4_tryMove_r4 kt_wm3) kt_wf0)))))))))))))))))))))))) (kt_wfa (kt_wf1 (kt_wp_X4_tryMove__X4_tryMove_r4 kt_wm4) (kt_wf1 (kt_wp_X4_tryMove__X4_tryMove_r4 kt_wm5) (kt_wf1 (kt_wp_X4_tryMove__X4_tryMove_r4 kt_wm6) (kt_wf1 (kt_wp_X4_tryMove__X4_tryMove_r4 kt_wm7) (kt_wf1 (kt_wp_X4_tryMove__X4_tryMove_r4 kt_wm8) (kt_wf1 (kt_wp_X4_tryMove__X4_tryMove_r4 kt_wm9) (kt_wf1 (kt_wp_X4_tryMove__X4_tryMove_r4 kt_wm10) (kt_wf1 (kt_wp_X4_tryMove__X4_tryMove_r4 kt_wm11) (kt_wf1 (kt_wp_X4_tryMove__X4_tryMove_r4 kt_wm12) (kt_wf1 (kt_wp_X4_tryMove__X4_tryMove_r4 kt_wm13) (kt_wf1 (kt_wp_X4_tryMove__X4_tryMove_r4 kt_wm14) (kt_wf1 (kt_wp_X4_tryMove__X4_tryMove_r4 kt_wm15) (kt_wf1 (kt_wp_X4_tryMove__X4_tryMove_r4 kt_wm16) (kt_wf1 (kt_wp_X4_tryMove__X4_tryMove_r4 kt_wm17) (kt_wf1 (kt_wp_X4_tryMove__X4_tryMove_r4 kt_wm18) (kt_wf1 (kt_wp_X4_tryMove__X4_tryMove_r4 kt_wm19) (kt_wf1 (kt_wp_X4_tryMove__X4_tryMove_r4 kt_wm20) (kt_wf1 (kt_wp_X4_tryMove__X4_tryMove_r4 kt_wm21) (kt_wf1 (kt_wp_X4_tryMove__X4_tryMove_r4 kt_wm22) (kt_wf1 (kt_wp_X4_tryMove__X4_tryMove_r4 kt_wm23) (kt_wf1 (kt_wp_X4_tryMove__X4_tryMove_r5 kt_wm0) (kt_wf1 (kt_wp_X4_tryMove__X4_tryMove_r5 kt_wm1) (kt_wf1 (kt_wp_X4_tryMove__X4_tryMove_r5 kt_wm2) (kt_wf1 (kt_wp_X4_tryMove__X4_tryMove_r5 kt_wm3) kt_wf0)))))))))))))))))))))))) (kt_wf1 (kt_wp_X4_tryMove__X4_tryMove_r5 kt_wm4) (kt_wf1 (kt_wp_X4_tryMove__X4_tryMove_r5 kt_wm5) kt_wf0)))))) (fun _ h => kt_wp_X4_tryMove__X40 h)) (fun _ h => kt_wp_X4_tryMove__X60 h)) (fun _ h => kt_wp_X4_tryMove__X80 h)) (fun _ h => kt_wp_X4_tryMove__X10 h)) (fun _ h => kt_wp_X4_tryMove__X00 h)) (fun _ h => kt_wp_X4_tryMove__X30 h))) kt_wg_X4_reason
set_option maxRecDepth 20000 in
theorem gX4_tryMove_X4_reason : GoodIn wsX4_tryMove (wsV RX4 152 RX4 yX4_reason wsX4_reason) := goodIn_app (a := [.methodLink RX4 152 yX4_reason, .instanceMethod yX4_reason, .selects RX4 yX4_reason yX4_reason, .initialized RX4]) (goodIn_sub (kt_wf1 (kt_wp_X4_tryMove__X4_tryMove_r1 kt_wm3) (kt_wf1 (kt_wp_X4_tryMove__X4_tryMove_r1 kt_wm4) (kt_wf1 (kt_wp_X4_tryMove__X4_tryMove_r1 kt_wm5) (kt_wf1 (kt_wp_X4_tryMove__X4_tryMove_r1 kt_wm6) kt_wf0)))) (by decide +kernel)) ggX4_tryMove_X4_reason
set_option maxRecDepth 20000 in
theorem ggX4_tryMove_X3_isFull : GoodIn wsX4_tryMove wsX3_isFull := goodIn_sub (kt_wf1 (kt_wp_X4_tryMove__X4_tryMove_r5 kt_wm9) (kt_wfa (kt_wf1 (kt_wp_X4_tryMove__X4_tryMove_r5 kt_wm1) kt_wf0) (fun _ h => kt_wp_X4_tryMove__X30 h))) kt_wg_X3_isFull
set_option maxRecDepth 20000 in
theorem gX4_tryMove_X3_isFull : GoodIn wsX4_tryMove (wsV RX4 155 RX3 yX3_isFull wsX3_isFull) := goodIn_app (a := [.methodLink RX4 155 yX3_isFull, .instanceMethod yX3_isFull, .selects RX3 yX3_isFull yX3_isFull, .initialized RX3]) (goodIn_sub (kt_wf1 (kt_wp_X4_tryMove__X4_tryMove_r5 kt_wm6) (kt_wf1 (kt_wp_X4_tryMove__X4_tryMove_r5 kt_wm7) (kt_wf1 (kt_wp_X4_tryMove__X4_tryMove_r5 kt_wm8) (kt_wf1 (kt_wp_X4_tryMove__X4_tryMove_r4 kt_wm18) kt_wf0)))) (by decide +kernel)) ggX4_tryMove_X3_isFull
set_option maxRecDepth 20000 in
theorem ggX4_tryMove_X8_fieldOf : GoodIn wsX4_tryMove wsX8_fieldOf := goodIn_sub (kt_wf1 (kt_wp_X4_tryMove__X4_tryMove_r1 kt_wm20) (kt_wfa (kt_wf1 (kt_wp_X4_tryMove__X4_tryMove_r1 kt_wm21) kt_wf0) (fun _ h => kt_wp_X4_tryMove__X80 h))) kt_wg_X8_fieldOf
set_option maxRecDepth 20000 in
theorem gX4_tryMove_X8_fieldOf : GoodIn wsX4_tryMove (wsV RX4 103 RX8 yX8_fieldOf wsX8_fieldOf) := goodIn_app (a := [.methodLink RX4 103 yX8_fieldOf, .instanceMethod yX8_fieldOf, .selects RX8 yX8_fieldOf yX8_fieldOf, .initialized RX8]) (goodIn_sub (kt_wf1 (kt_wp_X4_tryMove__X4_tryMove_r1 kt_wm16) (kt_wf1 (kt_wp_X4_tryMove__X4_tryMove_r1 kt_wm17) (kt_wf1 (kt_wp_X4_tryMove__X4_tryMove_r1 kt_wm18) (kt_wf1 (kt_wp_X4_tryMove__X4_tryMove_r1 kt_wm19) kt_wf0)))) (by decide +kernel)) ggX4_tryMove_X8_fieldOf
set_option maxRecDepth 20000 in
theorem ggX4_tryMove_X0_away : GoodIn wsX4_tryMove wsX0_away := goodIn_sub (kt_wf1 (kt_wp_X4_tryMove__X4_tryMove_r2 kt_wm2) (kt_wfa (kt_wf1 (kt_wp_X4_tryMove__X4_tryMove_r2 kt_wm3) (kt_wf1 (kt_wp_X4_tryMove__X4_tryMove_r2 kt_wm4) (kt_wf1 (kt_wp_X4_tryMove__X4_tryMove_r2 kt_wm5) (kt_wf1 (kt_wp_X4_tryMove__X4_tryMove_r2 kt_wm1) (kt_wf1 (kt_wp_X4_tryMove__X4_tryMove_r2 kt_wm6) (kt_wf1 (kt_wp_X4_tryMove__X4_tryMove_r2 kt_wm7) (kt_wf1 (kt_wp_X4_tryMove__X4_tryMove_r2 kt_wm8) kt_wf0))))))) (fun _ h => kt_wp_X4_tryMove__X00 h))) kt_wg_X0_away
set_option maxRecDepth 20000 in
theorem gX4_tryMove_X0_away : GoodIn wsX4_tryMove (wsV RX4 120 RX0 yX0_away wsX0_away) := goodIn_app (a := [.methodLink RX4 120 yX0_away, .instanceMethod yX0_away, .selects RX0 yX0_away yX0_away, .initialized RX0]) (goodIn_sub (kt_wf1 (kt_wp_X4_tryMove__X4_tryMove_r1 kt_wm22) (kt_wf1 (kt_wp_X4_tryMove__X4_tryMove_r1 kt_wm23) (kt_wf1 (kt_wp_X4_tryMove__X4_tryMove_r2 kt_wm0) (kt_wf1 (kt_wp_X4_tryMove__X4_tryMove_r2 kt_wm1) kt_wf0)))) (by decide +kernel)) ggX4_tryMove_X0_away
set_option maxRecDepth 20000 in
theorem kt_wg_X4_move : wsX4_move.all goodWord = true := by decide +kernel
set_option maxRecDepth 20000 in
theorem ggX4_tryMove_X4_move : GoodIn wsX4_tryMove wsX4_move := goodIn_sub (kt_wf1 (kt_wp_X4_tryMove__X4_tryMove_r5 kt_wm13) (kt_wfa (kt_wfa (kt_wfa (kt_wfa (kt_wfa (kt_wfa (kt_wfa (kt_wf1 (kt_wp_X4_tryMove__X4_tryMove_r1 kt_wm0) (kt_wf1 (kt_wp_X4_tryMove__X4_tryMove_r1 kt_wm2) (kt_wf1 (kt_wp_X4_tryMove__X4_tryMove_r1 kt_wm1) (kt_wf1 (kt_wp_X4_tryMove__X4_tryMove_r3 kt_wm6) (kt_wf1 (kt_wp_X4_tryMove__X4_tryMove_r3 kt_wm7) (kt_wf1 (kt_wp_X4_tryMove__X4_tryMove_r3 kt_wm8) (kt_wf1 (kt_wp_X4_tryMove__X4_tryMove_r1 kt_wm6) (kt_wf1 (kt_wp_X4_tryMove__X4_tryMove_r3 kt_wm9) (kt_wf1 (kt_wp_X4_tryMove__X4_tryMove_r3 kt_wm10) (kt_wf1 (kt_wp_X4_tryMove__X4_tryMove_r3 kt_wm11) (kt_wf1 (kt_wp_X4_tryMove__X4_tryMove_r3 kt_wm12) (kt_wf1 (kt_wp_X4_tryMove__X4_tryMove_r1 kt_wm13) (kt_wf1 (kt_wp_X4_tryMove__X4_tryMove_r3 kt_wm13) (kt_wf1 (kt_wp_X4_tryMove__X4_tryMove_r3 kt_wm14) (kt_wf1 (kt_wp_X4_tryMove__X4_tryMove_r3 kt_wm15) (kt_wf1 (kt_wp_X4_tryMove__X4_tryMove_r3 kt_wm5) (kt_wf1 (kt_wp_X4_tryMove__X4_tryMove_r3 kt_wm16) (kt_wf1 (kt_wp_X4_tryMove__X4_tryMove_r3 kt_wm17) (kt_wf1 (kt_wp_X4_tryMove__X4_tryMove_r1 kt_wm11) (kt_wf1 (kt_wp_X4_tryMove__X4_tryMove_r1 kt_wm12) (kt_wf1 (kt_wp_X4_tryMove__X4_tryMove_r1 kt_wm14) (kt_wf1 (kt_wp_X4_tryMove__X4_tryMove_r1 kt_wm15) (kt_wf1 (kt_wp_X4_tryMove__X4_tryMove_r3 kt_wm18) (kt_wf1 (kt_wp_X4_tryMove__X4_tryMove_r1 kt_wm17) kt_wf0)))))))))))))))))))))))) (kt_wfa (kt_wf1 (kt_wp_X4_tryMove__X4_tryMove_r1 kt_wm18) (kt_wf1 (kt_wp_X4_tryMove__X4_tryMove_r1 kt_wm19) (kt_wf1 (kt_wp_X4_tryMove__X4_tryMove_r1 kt_wm20) (kt_wf1 (kt_wp_X4_tryMove__X4_tryMove_r1 kt_wm21) (kt_wf1 (kt_wp_X4_tryMove__X4_tryMove_r3 kt_wm19) (kt_wf1 (kt_wp_X4_tryMove__X4_tryMove_r3 kt_wm20) (kt_wf1 (kt_wp_X4_tryMove__X4_tryMove_r3 kt_wm21) (kt_wf1 (kt_wp_X4_tryMove__X4_tryMove_r3 kt_wm22) (kt_wf1 (kt_wp_X4_tryMove__X4_tryMove_r3 kt_wm0) (kt_wf1 (kt_wp_X4_tryMove__X4_tryMove_r3 kt_wm23) (kt_wf1 (kt_wp_X4_tryMove__X4_tryMove_r2 kt_wm4) (kt_wf1 (kt_wp_X4_tryMove__X4_tryMove_r2 kt_wm5) (kt_wf1 (kt_wp_X4_tryMove__X4_tryMove_r2 kt_wm1) (kt_wf1 (kt_wp_X4_tryMove__X4_tryMove_r2 kt_wm6) (kt_wf1 (kt_wp_X4_tryMove__X4_tryMove_r2 kt_wm7) (kt_wf1 (kt_wp_X4_tryMove__X4_tryMove_r2 kt_wm8) (kt_wf1 (kt_wp_X4_tryMove__X4_tryMove_r4 kt_wm0) (kt_wf1 (kt_wp_X4_tryMove__X4_tryMove_r2 kt_wm21) (kt_wf1 (kt_wp_X4_tryMove__X4_tryMove_r2 kt_wm22) (kt_wf1 (kt_wp_X4_tryMove__X4_tryMove_r2 kt_wm23) (kt_wf1 (kt_wp_X4_tryMove__X4_tryMove_r4 kt_wm1) (kt_wf1 (kt_wp_X4_tryMove__X4_tryMove_r4 kt_wm2) (kt_wf1 (kt_wp_X4_tryMove__X4_tryMove_r4 kt_wm3) (kt_wf1 (kt_wp_X4_tryMove__X4_tryMove_r4 kt_wm4) kt_wf0)))))))))))))))))))))))) (kt_wfa (kt_wf1 (kt_wp_X4_tryMove__X4_tryMove_r4 kt_wm5) (kt_wf1 (kt_wp_X4_tryMove__X4_tryMove_r2 kt_wm13) (kt_wf1 (kt_wp_X4_tryMove__X4_tryMove_r2 kt_wm14) (kt_wf1 (kt_wp_X4_tryMove__X4_tryMove_r4 kt_wm6) (kt_wf1 (kt_wp_X4_tryMove__X4_tryMove_r4 kt_wm7) (kt_wf1 (kt_wp_X4_tryMove__X4_tryMove_r4 kt_wm8) (kt_wf1 (kt_wp_X4_tryMove__X4_tryMove_r4 kt_wm9) (kt_wf1 (kt_wp_X4_tryMove__X4_tryMove_r4 kt_wm10) (kt_wf1 (kt_wp_X4_tryMove__X4_tryMove_r4 kt_wm11) (kt_wf1 (kt_wp_X4_tryMove__X4_tryMove_r4 kt_wm12) (kt_wf1 (kt_wp_X4_tryMove__X4_tryMove_r4 kt_wm13) (kt_wf1 (kt_wp_X4_tryMove__X4_tryMove_r4 kt_wm14) (kt_wf1 (kt_wp_X4_tryMove__X4_tryMove_r4 kt_wm15) (kt_wf1 (kt_wp_X4_tryMove__X4_tryMove_r4 kt_wm16) (kt_wf1 (kt_wp_X4_tryMove__X4_tryMove_r4 kt_wm17) (kt_wf1 (kt_wp_X4_tryMove__X4_tryMove_r4 kt_wm18) (kt_wf1 (kt_wp_X4_tryMove__X4_tryMove_r4 kt_wm19) (kt_wf1 (kt_wp_X4_tryMove__X4_tryMove_r4 kt_wm20) (kt_wf1 (kt_wp_X4_tryMove__X4_tryMove_r4 kt_wm21) (kt_wf1 (kt_wp_X4_tryMove__X4_tryMove_r4 kt_wm22) (kt_wf1 (kt_wp_X4_tryMove__X4_tryMove_r4 kt_wm23) (kt_wf1 (kt_wp_X4_tryMove__X4_tryMove_r5 kt_wm0) (kt_wf1 (kt_wp_X4_tryMove__X4_tryMove_r5 kt_wm1) (kt_wf1 (kt_wp_X4_tryMove__X4_tryMove_r5 kt_wm2) kt_wf0)))))))))))))))))))))))) (kt_wf1 (kt_wp_X4_tryMove__X4_tryMove_r5 kt_wm3) (kt_wf1 (kt_wp_X4_tryMove__X4_tryMove_r5 kt_wm4) (kt_wf1 (kt_wp_X4_tryMove__X4_tryMove_r5 kt_wm5) (kt_wf1 (kt_wp_X4_tryMove__X4_tryMove_r5 kt_wm14) (kt_wf1 (kt_wp_X4_tryMove__X4_tryMove_r5 kt_wm15) (kt_wf1 (kt_wp_X4_tryMove__X4_tryMove_r5 kt_wm16) (kt_wf1 (kt_wp_X4_tryMove__X4_tryMove_r5 kt_wm17) (kt_wf1 (kt_wp_X4_tryMove__X4_tryMove_r5 kt_wm18) (kt_wf1 (kt_wp_X4_tryMove__X4_tryMove_r5 kt_wm19) (kt_wf1 (kt_wp_X4_tryMove__X4_tryMove_r5 kt_wm20) (kt_wf1 (kt_wp_X4_tryMove__X4_tryMove_r5 kt_wm21) (kt_wf1 (kt_wp_X4_tryMove__X4_tryMove_r5 kt_wm22) (kt_wf1 (kt_wp_X4_tryMove__X4_tryMove_r5 kt_wm23) (kt_wf1 (kt_wp_X4_tryMove__X4_tryMove_r6 kt_wm0) (kt_wf1 (kt_wp_X4_tryMove__X4_tryMove_r6 kt_wm1) (kt_wf1 (kt_wp_X4_tryMove__X4_tryMove_r6 kt_wm2) (kt_wf1 (kt_wp_X4_tryMove__X4_tryMove_r5 kt_wm7) (kt_wf1 (kt_wp_X4_tryMove__X4_tryMove_r5 kt_wm8) (kt_wf1 (kt_wp_X4_tryMove__X4_tryMove_r5 kt_wm9) (kt_wf1 (kt_wp_X4_tryMove__X4_tryMove_r6 kt_wm3) kt_wf0))))))))))))))))))))))) (fun _ h => kt_wp_X4_tryMove__X40 h)) (fun _ h => kt_wp_X4_tryMove__X60 h)) (fun _ h => kt_wp_X4_tryMove__X80 h)) (fun _ h => kt_wp_X4_tryMove__X00 h)) (fun _ h => kt_wp_X4_tryMove__X10 h)) (fun _ h => kt_wp_X4_tryMove__X30 h))) kt_wg_X4_move
set_option maxRecDepth 20000 in
theorem gX4_tryMove_X4_move : GoodIn wsX4_tryMove (wsV RX4 165 RX4 yX4_move wsX4_move) := goodIn_app (a := [.methodLink RX4 165 yX4_move, .instanceMethod yX4_move, .selects RX4 yX4_move yX4_move, .initialized RX4]) (goodIn_sub (kt_wf1 (kt_wp_X4_tryMove__X4_tryMove_r5 kt_wm10) (kt_wf1 (kt_wp_X4_tryMove__X4_tryMove_r5 kt_wm11) (kt_wf1 (kt_wp_X4_tryMove__X4_tryMove_r5 kt_wm12) (kt_wf1 (kt_wp_X4_tryMove__X4_tryMove_r1 kt_wm6) kt_wf0)))) (by decide +kernel)) ggX4_tryMove_X4_move
set_option maxRecDepth 20000 in
theorem ggX4_tryMove_X4_settle : GoodIn wsX4_tryMove wsX4_settle := goodIn_sub (kt_wf1 (kt_wp_X4_tryMove__X4_tryMove_r6 kt_wm7) (kt_wfa (kt_wfa (kt_wfa (kt_wfa (kt_wfa (kt_wfa (kt_wf1 (kt_wp_X4_tryMove__X4_tryMove_r1 kt_wm1) (kt_wf1 (kt_wp_X4_tryMove__X4_tryMove_r1 kt_wm2) (kt_wf1 (kt_wp_X4_tryMove__X4_tryMove_r1 kt_wm8) (kt_wf1 (kt_wp_X4_tryMove__X4_tryMove_r1 kt_wm9) (kt_wf1 (kt_wp_X4_tryMove__X4_tryMove_r6 kt_wm8) (kt_wf1 (kt_wp_X4_tryMove__X4_tryMove_r6 kt_wm9) (kt_wf1 (kt_wp_X4_tryMove__X4_tryMove_r6 kt_wm10) (kt_wf1 (kt_wp_X4_tryMove__X4_tryMove_r1 kt_wm13) (kt_wf1 (kt_wp_X4_tryMove__X4_tryMove_r6 kt_wm11) (kt_wf1 (kt_wp_X4_tryMove__X4_tryMove_r2 kt_wm13) (kt_wf1 (kt_wp_X4_tryMove__X4_tryMove_r3 kt_wm18) (kt_wf1 (kt_wp_X4_tryMove__X4_tryMove_r1 kt_wm17) (kt_wf1 (kt_wp_X4_tryMove__X4_tryMove_r1 kt_wm18) (kt_wf1 (kt_wp_X4_tryMove__X4_tryMove_r1 kt_wm19) (kt_wf1 (kt_wp_X4_tryMove__X4_tryMove_r1 kt_wm20) (kt_wf1 (kt_wp_X4_tryMove__X4_tryMove_r1 kt_wm21) (kt_wf1 (kt_wp_X4_tryMove__X4_tryMove_r6 kt_wm12) (kt_wf1 (kt_wp_X4_tryMove__X4_tryMove_r6 kt_wm13) (kt_wf1 (kt_wp_X4_tryMove__X4_tryMove_r6 kt_wm14) (kt_wf1 (kt_wp_X4_tryMove__X4_tryMove_r6 kt_wm15) (kt_wf1 (kt_wp_X4_tryMove__X4_tryMove_r3 kt_wm5) (kt_wf1 (kt_wp_X4_tryMove__X4_tryMove_r6 kt_wm16) (kt_wf1 (kt_wp_X4_tryMove__X4_tryMove_r6 kt_wm17) (kt_wf1 (kt_wp_X4_tryMove__X4_tryMove_r6 kt_wm18) kt_wf0)))))))))))))))))))))))) (kt_wf1 (kt_wp_X4_tryMove__X4_tryMove_r6 kt_wm19) (kt_wf1 (kt_wp_X4_tryMove__X4_tryMove_r1 kt_wm15) (kt_wf1 (kt_wp_X4_tryMove__X4_tryMove_r3 kt_wm16) (kt_wf1 (kt_wp_X4_tryMove__X4_tryMove_r6 kt_wm20) (kt_wf1 (kt_wp_X4_tryMove__X4_tryMove_r6 kt_wm21) (kt_wf1 (kt_wp_X4_tryMove__X4_tryMove_r6 kt_wm22) (kt_wf1 (kt_wp_X4_tryMove__X4_tryMove_r6 kt_wm23) (kt_wf1 (kt_wp_X4_tryMove__X4_tryMove_r2 kt_wm14) (kt_wf1 (kt_wp_X4_tryMove__X4_tryMove_r3 kt_wm23) (kt_wf1 (kt_wp_X4_tryMove__X4_tryMove_r2 kt_wm4) (kt_wf1 (kt_wp_X4_tryMove__X4_tryMove_r2 kt_wm5) (kt_wf1 (kt_wp_X4_tryMove__X4_tryMove_r2 kt_wm1) (kt_wf1 (kt_wp_X4_tryMove__X4_tryMove_r2 kt_wm6) (kt_wf1 (kt_wp_X4_tryMove__X4_tryMove_r2 kt_wm7) (kt_wf1 (kt_wp_X4_tryMove__X4_tryMove_r2 kt_wm8) (kt_wf1 (kt_wp_X4_tryMove__X4_tryMove_r4 kt_wm0) (kt_wf1 (kt_wp_X4_tryMove__X4_tryMove_r2 kt_wm21) (kt_wf1 (kt_wp_X4_tryMove__X4_tryMove_r2 kt_wm22) (kt_wf1 (kt_wp_X4_tryMove__X4_tryMove_r2 kt_wm23) (kt_wf1 (kt_wp_X4_tryMove__X4_tryMove_r3 kt_wm0) (kt_wf1 (kt_wp_X4_tryMove__X4_tryMove_r7 kt_wm0) (kt_wf1 (kt_wp_X4_tryMove__X4_tryMove_r3 kt_wm2) (kt_wf1 (kt_wp_X4_tryMove__X4_tryMove_r3 kt_wm3) (kt_wf1 (kt_wp_X4_tryMove__X4_tryMove_r3 kt_wm4) kt_wf0))))))))))))))))))))))))) (fun _ h => kt_wp_X4_tryMove__X40 h)) (fun _ h => kt_wp_X4_tryMove__X10 h)) (fun _ h => kt_wp_X4_tryMove__X60 h)) (fun _ h => kt_wp_X4_tryMove__X80 h)) (fun _ h => kt_wp_X4_tryMove__X00 h))) kt_wg_X4_settle
set_option maxRecDepth 20000 in
theorem gX4_tryMove_X4_settle : GoodIn wsX4_tryMove (wsV RX4 85 RX4 yX4_settle wsX4_settle) := goodIn_app (a := [.methodLink RX4 85 yX4_settle, .instanceMethod yX4_settle, .selects RX4 yX4_settle yX4_settle, .initialized RX4]) (goodIn_sub (kt_wf1 (kt_wp_X4_tryMove__X4_tryMove_r6 kt_wm4) (kt_wf1 (kt_wp_X4_tryMove__X4_tryMove_r6 kt_wm5) (kt_wf1 (kt_wp_X4_tryMove__X4_tryMove_r6 kt_wm6) (kt_wf1 (kt_wp_X4_tryMove__X4_tryMove_r1 kt_wm6) kt_wf0)))) (by decide +kernel)) ggX4_tryMove_X4_settle
set_option maxRecDepth 20000 in
theorem kt_wg_X3_latestTakings : wsX3_latestTakings.all goodWord = true := by decide +kernel
set_option maxRecDepth 20000 in
theorem ggX4_tryMove_X3_latestTakings : GoodIn wsX4_tryMove wsX3_latestTakings := goodIn_sub (kt_wf1 (kt_wp_X4_tryMove__X4_tryMove_r7 kt_wm4) (kt_wfa (kt_wf1 (kt_wp_X4_tryMove__X4_tryMove_r5 kt_wm1) (kt_wf1 (kt_wp_X4_tryMove__X4_tryMove_r5 kt_wm2) kt_wf0)) (fun _ h => kt_wp_X4_tryMove__X30 h))) kt_wg_X3_latestTakings
set_option maxRecDepth 20000 in
theorem gX4_tryMove_X3_latestTakings : GoodIn wsX4_tryMove (wsV RX4 168 RX3 yX3_latestTakings wsX3_latestTakings) := goodIn_app (a := [.methodLink RX4 168 yX3_latestTakings, .instanceMethod yX3_latestTakings, .selects RX3 yX3_latestTakings yX3_latestTakings, .initialized RX3]) (goodIn_sub (kt_wf1 (kt_wp_X4_tryMove__X4_tryMove_r7 kt_wm1) (kt_wf1 (kt_wp_X4_tryMove__X4_tryMove_r7 kt_wm2) (kt_wf1 (kt_wp_X4_tryMove__X4_tryMove_r7 kt_wm3) (kt_wf1 (kt_wp_X4_tryMove__X4_tryMove_r4 kt_wm18) kt_wf0)))) (by decide +kernel)) ggX4_tryMove_X3_latestTakings
theorem sX4_tryMove_0 : kt_sg cX4_tryMove 0 [42, 27, 28, 29, 182, 0, 152, 154, 0, 13, 42, 180, 0, 21, 182, 0, 155, 153, 0, 5, 2, 172, 42, 180, 0, 21, 42, 180, 0, 21, 180, 0, 159, 181, 0, 162, 42, 42, 27, 42, 180, 0, 33, 180, 0, 40, 42, 180, 0, 12, 27, 182, 0, 103, 28, 29, 182, 0, 120, 182, 0, 165, 182, 0, 85] = true := by decide +kernel
theorem dX4_tryMove_0 : decode cX4_tryMove 0 = .ok (.aload_n 0, 1) := kt_o42 (j := 0) sX4_tryMove_0 rfl
theorem dX4_tryMove_1 : decode cX4_tryMove 1 = .ok (.iload_n 1, 1) := kt_o27 (j := 1) sX4_tryMove_0 rfl
theorem dX4_tryMove_2 : decode cX4_tryMove 2 = .ok (.iload_n 2, 1) := kt_o28 (j := 2) sX4_tryMove_0 rfl
theorem dX4_tryMove_3 : decode cX4_tryMove 3 = .ok (.iload_n 3, 1) := kt_o29 (j := 3) sX4_tryMove_0 rfl
theorem dX4_tryMove_4 : decode cX4_tryMove 4 = .ok (.invokevirtual 152, 3) := kt_o182 (j := 4) sX4_tryMove_0 rfl rfl
theorem dX4_tryMove_7 : decode cX4_tryMove 7 = .ok (.ifCond .ne 13, 3) := kt_o154 (j := 7) sX4_tryMove_0 rfl (by decide +kernel)
theorem dX4_tryMove_10 : decode cX4_tryMove 10 = .ok (.aload_n 0, 1) := kt_o42 (j := 10) sX4_tryMove_0 rfl
theorem dX4_tryMove_11 : decode cX4_tryMove 11 = .ok (.getfield 21, 3) := kt_o180 (j := 11) sX4_tryMove_0 rfl rfl
theorem dX4_tryMove_14 : decode cX4_tryMove 14 = .ok (.invokevirtual 155, 3) := kt_o182 (j := 14) sX4_tryMove_0 rfl rfl
theorem dX4_tryMove_17 : decode cX4_tryMove 17 = .ok (.ifCond .eq 5, 3) := kt_o153 (j := 17) sX4_tryMove_0 rfl (by decide +kernel)
theorem dX4_tryMove_20 : decode cX4_tryMove 20 = .ok (.iconst (-1), 1) := kt_o2 (j := 20) sX4_tryMove_0 rfl
theorem dX4_tryMove_21 : decode cX4_tryMove 21 = .ok (.ireturn, 1) := kt_o172 (j := 21) sX4_tryMove_0 rfl
theorem dX4_tryMove_22 : decode cX4_tryMove 22 = .ok (.aload_n 0, 1) := kt_o42 (j := 22) sX4_tryMove_0 rfl
theorem dX4_tryMove_23 : decode cX4_tryMove 23 = .ok (.getfield 21, 3) := kt_o180 (j := 23) sX4_tryMove_0 rfl rfl
theorem dX4_tryMove_26 : decode cX4_tryMove 26 = .ok (.aload_n 0, 1) := kt_o42 (j := 26) sX4_tryMove_0 rfl
theorem dX4_tryMove_27 : decode cX4_tryMove 27 = .ok (.getfield 21, 3) := kt_o180 (j := 27) sX4_tryMove_0 rfl rfl
theorem dX4_tryMove_30 : decode cX4_tryMove 30 = .ok (.getfield 159, 3) := kt_o180 (j := 30) sX4_tryMove_0 rfl rfl
theorem dX4_tryMove_33 : decode cX4_tryMove 33 = .ok (.putfield 162, 3) := kt_o181 (j := 33) sX4_tryMove_0 rfl rfl
theorem dX4_tryMove_36 : decode cX4_tryMove 36 = .ok (.aload_n 0, 1) := kt_o42 (j := 36) sX4_tryMove_0 rfl
theorem dX4_tryMove_37 : decode cX4_tryMove 37 = .ok (.aload_n 0, 1) := kt_o42 (j := 37) sX4_tryMove_0 rfl
theorem dX4_tryMove_38 : decode cX4_tryMove 38 = .ok (.iload_n 1, 1) := kt_o27 (j := 38) sX4_tryMove_0 rfl
theorem dX4_tryMove_39 : decode cX4_tryMove 39 = .ok (.aload_n 0, 1) := kt_o42 (j := 39) sX4_tryMove_0 rfl
theorem dX4_tryMove_40 : decode cX4_tryMove 40 = .ok (.getfield 33, 3) := kt_o180 (j := 40) sX4_tryMove_0 rfl rfl
theorem dX4_tryMove_43 : decode cX4_tryMove 43 = .ok (.getfield 40, 3) := kt_o180 (j := 43) sX4_tryMove_0 rfl rfl
theorem dX4_tryMove_46 : decode cX4_tryMove 46 = .ok (.aload_n 0, 1) := kt_o42 (j := 46) sX4_tryMove_0 rfl
theorem dX4_tryMove_47 : decode cX4_tryMove 47 = .ok (.getfield 12, 3) := kt_o180 (j := 47) sX4_tryMove_0 rfl rfl
theorem dX4_tryMove_50 : decode cX4_tryMove 50 = .ok (.iload_n 1, 1) := kt_o27 (j := 50) sX4_tryMove_0 rfl
theorem dX4_tryMove_51 : decode cX4_tryMove 51 = .ok (.invokevirtual 103, 3) := kt_o182 (j := 51) sX4_tryMove_0 rfl rfl
theorem dX4_tryMove_54 : decode cX4_tryMove 54 = .ok (.iload_n 2, 1) := kt_o28 (j := 54) sX4_tryMove_0 rfl
theorem dX4_tryMove_55 : decode cX4_tryMove 55 = .ok (.iload_n 3, 1) := kt_o29 (j := 55) sX4_tryMove_0 rfl
theorem dX4_tryMove_56 : decode cX4_tryMove 56 = .ok (.invokevirtual 120, 3) := kt_o182 (j := 56) sX4_tryMove_0 rfl rfl
theorem dX4_tryMove_59 : decode cX4_tryMove 59 = .ok (.invokevirtual 165, 3) := kt_o182 (j := 59) sX4_tryMove_0 rfl rfl
theorem dX4_tryMove_62 : decode cX4_tryMove 62 = .ok (.invokevirtual 85, 3) := kt_o182 (j := 62) sX4_tryMove_0 rfl rfl
theorem sX4_tryMove_65 : kt_sg cX4_tryMove 65 [42, 180, 0, 21, 182, 0, 168, 172] = true := by decide +kernel
theorem dX4_tryMove_65 : decode cX4_tryMove 65 = .ok (.aload_n 0, 1) := kt_o42 (j := 0) sX4_tryMove_65 rfl
theorem dX4_tryMove_66 : decode cX4_tryMove 66 = .ok (.getfield 21, 3) := kt_o180 (j := 1) sX4_tryMove_65 rfl rfl
theorem dX4_tryMove_69 : decode cX4_tryMove 69 = .ok (.invokevirtual 168, 3) := kt_o182 (j := 4) sX4_tryMove_65 rfl rfl
theorem dX4_tryMove_72 : decode cX4_tryMove 72 = .ok (.ireturn, 1) := kt_o172 (j := 7) sX4_tryMove_65 rfl
theorem kt_wp_X4_move__X4_move_r1 {w : Cond} (h : w ∈ wsX4_move_r1) : w ∈ wsX4_move := List.mem_cons_of_mem _ (List.mem_append_left _ (List.mem_append_left _ (List.mem_append_left _ (List.mem_append_left _ (List.mem_append_left _ (List.mem_append_left _ (List.mem_append_left _ (h))))))))
theorem kt_wp_X4_move__X4_move_r2 {w : Cond} (h : w ∈ wsX4_move_r2) : w ∈ wsX4_move := List.mem_cons_of_mem _ (List.mem_append_left _ (List.mem_append_left _ (List.mem_append_left _ (List.mem_append_left _ (List.mem_append_left _ (List.mem_append_left _ (List.mem_append_right _ (List.mem_append_left _ (h)))))))))
theorem kt_wp_X4_move__X4_move_r3 {w : Cond} (h : w ∈ wsX4_move_r3) : w ∈ wsX4_move := List.mem_cons_of_mem _ (List.mem_append_left _ (List.mem_append_left _ (List.mem_append_left _ (List.mem_append_left _ (List.mem_append_left _ (List.mem_append_left _ (List.mem_append_right _ (List.mem_append_right _ (List.mem_append_left _ (h))))))))))
theorem kt_wp_X4_move__X4_move_r4 {w : Cond} (h : w ∈ wsX4_move_r4) : w ∈ wsX4_move := List.mem_cons_of_mem _ (List.mem_append_left _ (List.mem_append_left _ (List.mem_append_left _ (List.mem_append_left _ (List.mem_append_left _ (List.mem_append_left _ (List.mem_append_right _ (List.mem_append_right _ (List.mem_append_right _ (h))))))))))
theorem kt_wp_X4_move__X40 {w : Cond} (h : w ∈ wsX40) : w ∈ wsX4_move := List.mem_cons_of_mem _ (List.mem_append_left _ (List.mem_append_left _ (List.mem_append_left _ (List.mem_append_left _ (List.mem_append_left _ (List.mem_append_right _ (h)))))))
theorem kt_wp_X4_move__X60 {w : Cond} (h : w ∈ wsX60) : w ∈ wsX4_move := List.mem_cons_of_mem _ (List.mem_append_left _ (List.mem_append_left _ (List.mem_append_left _ (List.mem_append_left _ (List.mem_append_right _ (h))))))
theorem kt_wp_X4_move__X80 {w : Cond} (h : w ∈ wsX80) : w ∈ wsX4_move := List.mem_cons_of_mem _ (List.mem_append_left _ (List.mem_append_left _ (List.mem_append_left _ (List.mem_append_right _ (h)))))
theorem kt_wp_X4_move__X00 {w : Cond} (h : w ∈ wsX00) : w ∈ wsX4_move := List.mem_cons_of_mem _ (List.mem_append_left _ (List.mem_append_left _ (List.mem_append_right _ (h))))
theorem kt_wp_X4_move__X10 {w : Cond} (h : w ∈ wsX10) : w ∈ wsX4_move := List.mem_cons_of_mem _ (List.mem_append_left _ (List.mem_append_right _ (h)))
theorem kt_wp_X4_move__X30 {w : Cond} (h : w ∈ wsX30) : w ∈ wsX4_move := List.mem_cons_of_mem _ (List.mem_append_right _ (h))
set_option maxRecDepth 20000 in
theorem ggX4_move_X4_comesBack : GoodIn wsX4_move wsX4_comesBack := goodIn_sub (kt_wf1 (kt_wp_X4_move__X4_move_r1 kt_wm7) (kt_wfa (kt_wfa (kt_wfa (kt_wfa (kt_wfa (kt_wfa (kt_wfa (kt_wf1 (kt_wp_X4_move__X4_move_r1 kt_wm2) (kt_wf1 (kt_wp_X4_move__X4_move_r1 kt_wm1) (kt_wf1 (kt_wp_X4_move__X4_move_r1 kt_wm0) (kt_wf1 (kt_wp_X4_move__X4_move_r1 kt_wm8) (kt_wf1 (kt_wp_X4_move__X4_move_r1 kt_wm9) (kt_wf1 (kt_wp_X4_move__X4_move_r1 kt_wm10) (kt_wf1 (kt_wp_X4_move__X4_move_r1 kt_wm11) (kt_wf1 (kt_wp_X4_move__X4_move_r1 kt_wm12) (kt_wf1 (kt_wp_X4_move__X4_move_r1 kt_wm13) (kt_wf1 (kt_wp_X4_move__X4_move_r1 kt_wm14) (kt_wf1 (kt_wp_X4_move__X4_move_r1 kt_wm15) (kt_wf1 (kt_wp_X4_move__X4_move_r1 kt_wm16) (kt_wf1 (kt_wp_X4_move__X4_move_r1 kt_wm17) (kt_wf1 (kt_wp_X4_move__X4_move_r1 kt_wm18) (kt_wf1 (kt_wp_X4_move__X4_move_r1 kt_wm19) (kt_wf1 (kt_wp_X4_move__X4_move_r1 kt_wm20) (kt_wf1 (kt_wp_X4_move__X4_move_r1 kt_wm21) (kt_wf1 (kt_wp_X4_move__X4_move_r1 kt_wm22) (kt_wf1 (kt_wp_X4_move__X4_move_r1 kt_wm23) (kt_wf1 (kt_wp_X4_move__X4_move_r2 kt_wm0) (kt_wf1 (kt_wp_X4_move__X4_move_r2 kt_wm1) (kt_wf1 (kt_wp_X4_move__X4_move_r2 kt_wm2) (kt_wf1 (kt_wp_X4_move__X4_move_r2 kt_wm3) (kt_wf1 (kt_wp_X4_move__X4_move_r2 kt_wm4) kt_wf0)))))))))))))))))))))))) (kt_wfa (kt_wf1 (kt_wp_X4_move__X4_move_r2 kt_wm5) (kt_wf1 (kt_wp_X4_move__X4_move_r2 kt_wm6) (kt_wf1 (kt_wp_X4_move__X4_move_r2 kt_wm7) (kt_wf1 (kt_wp_X4_move__X4_move_r2 kt_wm8) (kt_wf1 (kt_wp_X4_move__X4_move_r2 kt_wm9) (kt_wf1 (kt_wp_X4_move__X4_move_r2 kt_wm10) (kt_wf1 (kt_wp_X4_move__X4_move_r2 kt_wm11) (kt_wf1 (kt_wp_X4_move__X4_move_r2 kt_wm12) (kt_wf1 (kt_wp_X4_move__X4_move_r2 kt_wm13) (kt_wf1 (kt_wp_X4_move__X4_move_r2 kt_wm14) (kt_wf1 (kt_wp_X4_move__X4_move_r2 kt_wm15) (kt_wf1 (kt_wp_X4_move__X4_move_r2 kt_wm16) (kt_wf1 (kt_wp_X4_move__X4_move_r2 kt_wm17) (kt_wf1 (kt_wp_X4_move__X4_move_r2 kt_wm18) (kt_wf1 (kt_wp_X4_move__X4_move_r2 kt_wm19) (kt_wf1 (kt_wp_X4_move__X4_move_r2 kt_wm20) (kt_wf1 (kt_wp_X4_move__X4_move_r2 kt_wm21) (kt_wf1 (kt_wp_X4_move__X4_move_r2 kt_wm22) (kt_wf1 (kt_wp_X4_move__X4_move_r2 kt_wm23) (kt_wf1 (kt_wp_X4_move__X4_move_r3 kt_wm0) (kt_wf1 (kt_wp_X4_move__X4_move_r3 kt_wm1) (kt_wf1 (kt_wp_X4_move__X4_move_r3 kt_wm2) (kt_wf1 (kt_wp_X4_move__X4_move_r3 kt_wm3) (kt_wf1 (kt_wp_X4_move__X4_move_r3 kt_wm4) kt_wf0)))))))))))))))))))))))) (kt_wf1 (kt_wp_X4_move__X4_move_r3 kt_wm5) (kt_wf1 (kt_wp_X4_move__X4_move_r3 kt_wm6) (kt_wf1 (kt_wp_X4_move__X4_move_r3 kt_wm7) (kt_wf1 (kt_wp_X4_move__X4_move_r3 kt_wm8) (kt_wf1 (kt_wp_X4_move__X4_move_r3 kt_wm9) (kt_wf1 (kt_wp_X4_move__X4_move_r3 kt_wm10) (kt_wf1 (kt_wp_X4_move__X4_move_r3 kt_wm11) (kt_wf1 (kt_wp_X4_move__X4_move_r3 kt_wm12) (kt_wf1 (kt_wp_X4_move__X4_move_r3 kt_wm13) (kt_wf1 (kt_wp_X4_move__X4_move_r3 kt_wm14) (kt_wf1 (kt_wp_X4_move__X4_move_r3 kt_wm15) (kt_wf1 (kt_wp_X4_move__X4_move_r3 kt_wm16) (kt_wf1 (kt_wp_X4_move__X4_move_r3 kt_wm17) (kt_wf1 (kt_wp_X4_move__X4_move_r3 kt_wm18) (kt_wf1 (kt_wp_X4_move__X4_move_r3 kt_wm19) (kt_wf1 (kt_wp_X4_move__X4_move_r3 kt_wm20) (kt_wf1 (kt_wp_X4_move__X4_move_r3 kt_wm21) (kt_wf1 (kt_wp_X4_move__X4_move_r3 kt_wm22) (kt_wf1 (kt_wp_X4_move__X4_move_r3 kt_wm23) (kt_wf1 (kt_wp_X4_move__X4_move_r4 kt_wm0) (kt_wf1 (kt_wp_X4_move__X4_move_r4 kt_wm1) (kt_wf1 (kt_wp_X4_move__X4_move_r4 kt_wm2) kt_wf0)))))))))))))))))))))))) (fun _ h => kt_wp_X4_move__X40 h)) (fun _ h => kt_wp_X4_move__X60 h)) (fun _ h => kt_wp_X4_move__X80 h)) (fun _ h => kt_wp_X4_move__X00 h)) (fun _ h => kt_wp_X4_move__X10 h)) (fun _ h => kt_wp_X4_move__X30 h))) kt_wg_X4_comesBack
set_option maxRecDepth 20000 in
theorem gX4_move_X4_comesBack : GoodIn wsX4_move (wsV RX4 131 RX4 yX4_comesBack wsX4_comesBack) := goodIn_app (a := [.methodLink RX4 131 yX4_comesBack, .instanceMethod yX4_comesBack, .selects RX4 yX4_comesBack yX4_comesBack, .initialized RX4]) (goodIn_sub (kt_wf1 (kt_wp_X4_move__X4_move_r1 kt_wm3) (kt_wf1 (kt_wp_X4_move__X4_move_r1 kt_wm4) (kt_wf1 (kt_wp_X4_move__X4_move_r1 kt_wm5) (kt_wf1 (kt_wp_X4_move__X4_move_r1 kt_wm6) kt_wf0)))) (by decide +kernel)) ggX4_move_X4_comesBack
set_option maxRecDepth 20000 in
theorem kt_wg_X3_write : wsX3_write.all goodWord = true := by decide +kernel
set_option maxRecDepth 20000 in
theorem ggX4_move_X3_write : GoodIn wsX4_move wsX3_write := goodIn_sub (kt_wf1 (kt_wp_X4_move__X4_move_r4 kt_wm6) (kt_wfa (kt_wfa (kt_wfa (kt_wf1 (kt_wp_X4_move__X4_move_r4 kt_wm0) (kt_wf1 (kt_wp_X4_move__X4_move_r3 kt_wm22) (kt_wf1 (kt_wp_X4_move__X4_move_r4 kt_wm1) (kt_wf1 (kt_wp_X4_move__X4_move_r4 kt_wm7) (kt_wf1 (kt_wp_X4_move__X4_move_r3 kt_wm23) (kt_wf1 (kt_wp_X4_move__X4_move_r4 kt_wm8) (kt_wf1 (kt_wp_X4_move__X4_move_r4 kt_wm9) (kt_wf1 (kt_wp_X4_move__X4_move_r4 kt_wm10) (kt_wf1 (kt_wp_X4_move__X4_move_r4 kt_wm11) (kt_wf1 (kt_wp_X4_move__X4_move_r4 kt_wm12) (kt_wf1 (kt_wp_X4_move__X4_move_r4 kt_wm13) (kt_wf1 (kt_wp_X4_move__X4_move_r4 kt_wm14) (kt_wf1 (kt_wp_X4_move__X4_move_r4 kt_wm15) (kt_wf1 (kt_wp_X4_move__X4_move_r4 kt_wm16) (kt_wf1 (kt_wp_X4_move__X4_move_r4 kt_wm17) (kt_wf1 (kt_wp_X4_move__X4_move_r3 kt_wm15) (kt_wf1 (kt_wp_X4_move__X4_move_r4 kt_wm18) (kt_wf1 (kt_wp_X4_move__X4_move_r4 kt_wm2) (kt_wf1 (kt_wp_X4_move__X4_move_r1 kt_wm23) (kt_wf1 (kt_wp_X4_move__X4_move_r2 kt_wm0) (kt_wf1 (kt_wp_X4_move__X4_move_r2 kt_wm1) (kt_wf1 (kt_wp_X4_move__X4_move_r2 kt_wm2) (kt_wf1 (kt_wp_X4_move__X4_move_r2 kt_wm3) kt_wf0))))))))))))))))))))))) (fun _ h => kt_wp_X4_move__X30 h)) (fun _ h => kt_wp_X4_move__X60 h)) (fun _ h => kt_wp_X4_move__X80 h))) kt_wg_X3_write
set_option maxRecDepth 20000 in
theorem gX4_move_X3_write : GoodIn wsX4_move (wsV RX4 171 RX3 yX3_write wsX3_write) := goodIn_app (a := [.methodLink RX4 171 yX3_write, .instanceMethod yX3_write, .selects RX3 yX3_write yX3_write, .initialized RX3]) (goodIn_sub (kt_wf1 (kt_wp_X4_move__X4_move_r4 kt_wm3) (kt_wf1 (kt_wp_X4_move__X4_move_r4 kt_wm4) (kt_wf1 (kt_wp_X4_move__X4_move_r4 kt_wm5) (kt_wf1 (kt_wp_X4_move__X4_move_r3 kt_wm15) kt_wf0)))) (by decide +kernel)) ggX4_move_X3_write
set_option maxRecDepth 20000 in
theorem ggX4_move_X8_place : GoodIn wsX4_move wsX8_place := goodIn_sub (kt_wf1 (kt_wp_X4_move__X4_move_r2 kt_wm7) (kt_wfa (kt_wf1 (kt_wp_X4_move__X4_move_r2 kt_wm3) (kt_wf1 (kt_wp_X4_move__X4_move_r2 kt_wm8) kt_wf0)) (fun _ h => kt_wp_X4_move__X80 h))) kt_wg_X8_place
set_option maxRecDepth 20000 in
theorem gX4_move_X8_place : GoodIn wsX4_move (wsV RX4 74 RX8 yX8_place wsX8_place) := goodIn_app (a := [.methodLink RX4 74 yX8_place, .instanceMethod yX8_place, .selects RX8 yX8_place yX8_place, .initialized RX8]) (goodIn_sub (kt_wf1 (kt_wp_X4_move__X4_move_r4 kt_wm19) (kt_wf1 (kt_wp_X4_move__X4_move_r2 kt_wm5) (kt_wf1 (kt_wp_X4_move__X4_move_r2 kt_wm6) (kt_wf1 (kt_wp_X4_move__X4_move_r2 kt_wm1) kt_wf0)))) (by decide +kernel)) ggX4_move_X8_place
theorem sX4_move_0 : kt_sg cX4_move 0 [42, 27, 28, 182, 0, 131, 62, 42, 180, 0, 21, 42, 180, 0, 12, 27, 28, 42, 180, 0, 33, 182, 0, 171, 42, 180, 0, 12, 27, 28, 182, 0, 74, 3, 54, 4, 21, 4, 42, 180, 0, 33, 180, 0, 175, 162, 0, 27, 42, 180, 0, 12, 42, 180, 0, 33, 180, 0, 178, 21, 4, 46, 2, 182, 0, 74] = true := by decide +kernel
theorem dX4_move_0 : decode cX4_move 0 = .ok (.aload_n 0, 1) := kt_o42 (j := 0) sX4_move_0 rfl
theorem dX4_move_1 : decode cX4_move 1 = .ok (.iload_n 1, 1) := kt_o27 (j := 1) sX4_move_0 rfl
theorem dX4_move_2 : decode cX4_move 2 = .ok (.iload_n 2, 1) := kt_o28 (j := 2) sX4_move_0 rfl
theorem dX4_move_3 : decode cX4_move 3 = .ok (.invokevirtual 131, 3) := kt_o182 (j := 3) sX4_move_0 rfl rfl
theorem dX4_move_6 : decode cX4_move 6 = .ok (.istore_n 3, 1) := kt_o62 (j := 6) sX4_move_0 rfl
theorem dX4_move_7 : decode cX4_move 7 = .ok (.aload_n 0, 1) := kt_o42 (j := 7) sX4_move_0 rfl
theorem dX4_move_8 : decode cX4_move 8 = .ok (.getfield 21, 3) := kt_o180 (j := 8) sX4_move_0 rfl rfl
theorem dX4_move_11 : decode cX4_move 11 = .ok (.aload_n 0, 1) := kt_o42 (j := 11) sX4_move_0 rfl
theorem dX4_move_12 : decode cX4_move 12 = .ok (.getfield 12, 3) := kt_o180 (j := 12) sX4_move_0 rfl rfl
theorem dX4_move_15 : decode cX4_move 15 = .ok (.iload_n 1, 1) := kt_o27 (j := 15) sX4_move_0 rfl
theorem dX4_move_16 : decode cX4_move 16 = .ok (.iload_n 2, 1) := kt_o28 (j := 16) sX4_move_0 rfl
theorem dX4_move_17 : decode cX4_move 17 = .ok (.aload_n 0, 1) := kt_o42 (j := 17) sX4_move_0 rfl
theorem dX4_move_18 : decode cX4_move 18 = .ok (.getfield 33, 3) := kt_o180 (j := 18) sX4_move_0 rfl rfl
theorem dX4_move_21 : decode cX4_move 21 = .ok (.invokevirtual 171, 3) := kt_o182 (j := 21) sX4_move_0 rfl rfl
theorem dX4_move_24 : decode cX4_move 24 = .ok (.aload_n 0, 1) := kt_o42 (j := 24) sX4_move_0 rfl
theorem dX4_move_25 : decode cX4_move 25 = .ok (.getfield 12, 3) := kt_o180 (j := 25) sX4_move_0 rfl rfl
theorem dX4_move_28 : decode cX4_move 28 = .ok (.iload_n 1, 1) := kt_o27 (j := 28) sX4_move_0 rfl
theorem dX4_move_29 : decode cX4_move 29 = .ok (.iload_n 2, 1) := kt_o28 (j := 29) sX4_move_0 rfl
theorem dX4_move_30 : decode cX4_move 30 = .ok (.invokevirtual 74, 3) := kt_o182 (j := 30) sX4_move_0 rfl rfl
theorem dX4_move_33 : decode cX4_move 33 = .ok (.iconst 0, 1) := kt_o3 (j := 33) sX4_move_0 rfl
theorem dX4_move_34 : decode cX4_move 34 = .ok (.istore 4, 2) := kt_o54 (j := 34) sX4_move_0 rfl
theorem dX4_move_36 : decode cX4_move 36 = .ok (.iload 4, 2) := kt_o21 (j := 36) sX4_move_0 rfl
theorem dX4_move_38 : decode cX4_move 38 = .ok (.aload_n 0, 1) := kt_o42 (j := 38) sX4_move_0 rfl
theorem dX4_move_39 : decode cX4_move 39 = .ok (.getfield 33, 3) := kt_o180 (j := 39) sX4_move_0 rfl rfl
theorem dX4_move_42 : decode cX4_move 42 = .ok (.getfield 175, 3) := kt_o180 (j := 42) sX4_move_0 rfl rfl
theorem dX4_move_45 : decode cX4_move 45 = .ok (.if_icmp .ge 27, 3) := kt_o162 (j := 45) sX4_move_0 rfl (by decide +kernel)
theorem dX4_move_48 : decode cX4_move 48 = .ok (.aload_n 0, 1) := kt_o42 (j := 48) sX4_move_0 rfl
theorem dX4_move_49 : decode cX4_move 49 = .ok (.getfield 12, 3) := kt_o180 (j := 49) sX4_move_0 rfl rfl
theorem dX4_move_52 : decode cX4_move 52 = .ok (.aload_n 0, 1) := kt_o42 (j := 52) sX4_move_0 rfl
theorem dX4_move_53 : decode cX4_move 53 = .ok (.getfield 33, 3) := kt_o180 (j := 53) sX4_move_0 rfl rfl
theorem dX4_move_56 : decode cX4_move 56 = .ok (.getfield 178, 3) := kt_o180 (j := 56) sX4_move_0 rfl rfl
theorem dX4_move_59 : decode cX4_move 59 = .ok (.iload 4, 2) := kt_o21 (j := 59) sX4_move_0 rfl
theorem dX4_move_61 : decode cX4_move 61 = .ok (.iaload, 1) := kt_o46 (j := 61) sX4_move_0 rfl
theorem dX4_move_62 : decode cX4_move 62 = .ok (.iconst (-1), 1) := kt_o2 (j := 62) sX4_move_0 rfl
theorem dX4_move_63 : decode cX4_move 63 = .ok (.invokevirtual 74, 3) := kt_o182 (j := 63) sX4_move_0 rfl rfl
theorem sX4_move_66 : kt_sg cX4_move 66 [132, 4, 1, 167, 255, 223, 42, 180, 0, 12, 4, 42, 180, 0, 12, 180, 0, 82, 100, 181, 0, 82, 29, 172] = true := by decide +kernel
theorem dX4_move_66 : decode cX4_move 66 = .ok (.iinc 4 1, 3) := kt_o132 (j := 0) sX4_move_66 rfl (by decide +kernel)
theorem dX4_move_69 : decode cX4_move 69 = .ok (.goto (-33), 3) := kt_o167 (j := 3) sX4_move_66 rfl (by decide +kernel)
theorem dX4_move_72 : decode cX4_move 72 = .ok (.aload_n 0, 1) := kt_o42 (j := 6) sX4_move_66 rfl
theorem dX4_move_73 : decode cX4_move 73 = .ok (.getfield 12, 3) := kt_o180 (j := 7) sX4_move_66 rfl rfl
theorem dX4_move_76 : decode cX4_move 76 = .ok (.iconst 1, 1) := kt_o4 (j := 10) sX4_move_66 rfl
theorem dX4_move_77 : decode cX4_move 77 = .ok (.aload_n 0, 1) := kt_o42 (j := 11) sX4_move_66 rfl
theorem dX4_move_78 : decode cX4_move 78 = .ok (.getfield 12, 3) := kt_o180 (j := 12) sX4_move_66 rfl rfl
theorem dX4_move_81 : decode cX4_move 81 = .ok (.getfield 82, 3) := kt_o180 (j := 15) sX4_move_66 rfl rfl
theorem dX4_move_84 : decode cX4_move 84 = .ok (.isub, 1) := kt_o100 (j := 18) sX4_move_66 rfl
theorem dX4_move_85 : decode cX4_move 85 = .ok (.putfield 82, 3) := kt_o181 (j := 19) sX4_move_66 rfl rfl
theorem dX4_move_88 : decode cX4_move 88 = .ok (.iload_n 3, 1) := kt_o29 (j := 22) sX4_move_66 rfl
theorem dX4_move_89 : decode cX4_move 89 = .ok (.ireturn, 1) := kt_o172 (j := 23) sX4_move_66 rfl
theorem kt_wp_X4_takeBack__X40 {w : Cond} (h : w ∈ wsX40) : w ∈ wsX4_takeBack := List.mem_cons_of_mem _ (List.mem_append_left _ (List.mem_append_left _ (List.mem_append_right _ (h))))
theorem kt_wp_X4_takeBack__X30 {w : Cond} (h : w ∈ wsX30) : w ∈ wsX4_takeBack := List.mem_cons_of_mem _ (List.mem_append_left _ (List.mem_append_right _ (h)))
theorem kt_wp_X4_takeBack__X80 {w : Cond} (h : w ∈ wsX80) : w ∈ wsX4_takeBack := List.mem_cons_of_mem _ (List.mem_append_right _ (h))
set_option maxRecDepth 20000 in
theorem kt_wg_X3_unwind : wsX3_unwind.all goodWord = true := by decide +kernel
set_option maxRecDepth 20000 in
theorem ggX4_takeBack_X3_unwind : GoodIn wsX4_takeBack wsX3_unwind := goodIn_sub (kt_wf1 (List.mem_cons_of_mem _ (List.mem_append_left _ (List.mem_append_left _ (List.mem_append_left _ (List.mem_cons_of_mem _ (List.mem_cons_of_mem _ (List.mem_cons_of_mem _ (List.mem_cons_of_mem _ (List.mem_cons_of_mem _ (List.mem_cons_of_mem _ (List.mem_cons_of_mem _ (List.Mem.head _)))))))))))) (kt_wfa (kt_wfa (kt_wf1 (List.mem_cons_of_mem _ (List.mem_append_left _ (List.mem_append_left _ (List.mem_append_left _ (List.mem_cons_of_mem _ (List.mem_cons_of_mem _ (List.mem_cons_of_mem _ (List.mem_cons_of_mem _ (List.mem_cons_of_mem _ (List.mem_cons_of_mem _ (List.mem_cons_of_mem _ (List.mem_cons_of_mem _ (List.Mem.head _))))))))))))) (kt_wf1 (List.mem_cons_of_mem _ (List.mem_append_left _ (List.mem_append_left _ (List.mem_append_left _ (List.mem_cons_of_mem _ (List.mem_cons_of_mem _ (List.mem_cons_of_mem _ (List.mem_cons_of_mem _ (List.mem_cons_of_mem _ (List.mem_cons_of_mem _ (List.mem_cons_of_mem _ (List.mem_cons_of_mem _ (List.mem_cons_of_mem _ (List.Mem.head _)))))))))))))) (kt_wf1 (List.mem_cons_of_mem _ (List.mem_append_left _ (List.mem_append_left _ (List.mem_append_left _ (List.mem_cons_of_mem _ (List.mem_cons_of_mem _ (List.mem_cons_of_mem _ (List.mem_cons_of_mem _ (List.mem_cons_of_mem _ (List.mem_cons_of_mem _ (List.mem_cons_of_mem _ (List.mem_cons_of_mem _ (List.mem_cons_of_mem _ (List.mem_cons_of_mem _ (List.Mem.head _))))))))))))))) (kt_wf1 (List.mem_cons_of_mem _ (List.mem_append_left _ (List.mem_append_left _ (List.mem_append_left _ (List.mem_cons_of_mem _ (List.mem_cons_of_mem _ (List.mem_cons_of_mem _ (List.mem_cons_of_mem _ (List.mem_cons_of_mem _ (List.mem_cons_of_mem _ (List.mem_cons_of_mem _ (List.mem_cons_of_mem _ (List.mem_cons_of_mem _ (List.mem_cons_of_mem _ (List.mem_cons_of_mem _ (List.Mem.head _)))))))))))))))) (kt_wf1 (List.mem_cons_of_mem _ (List.mem_append_left _ (List.mem_append_left _ (List.mem_append_left _ (List.mem_cons_of_mem _ (List.mem_cons_of_mem _ (List.mem_cons_of_mem _ (List.mem_cons_of_mem _ (List.mem_cons_of_mem _ (List.mem_cons_of_mem _ (List.mem_cons_of_mem _ (List.mem_cons_of_mem _ (List.mem_cons_of_mem _ (List.mem_cons_of_mem _ (List.mem_cons_of_mem _ (List.mem_cons_of_mem _ (List.Mem.head _))))))))))))))))) (kt_wf1 (List.mem_cons_of_mem _ (List.mem_append_left _ (List.mem_append_left _ (List.mem_append_left _ (List.mem_cons_of_mem _ (List.mem_cons_of_mem _ (List.mem_cons_of_mem _ (List.mem_cons_of_mem _ (List.mem_cons_of_mem _ (List.mem_cons_of_mem _ (List.mem_cons_of_mem _ (List.mem_cons_of_mem _ (List.mem_cons_of_mem _ (List.mem_cons_of_mem _ (List.mem_cons_of_mem _ (List.mem_cons_of_mem _ (List.mem_cons_of_mem _ (List.Mem.head _)))))))))))))))))) (kt_wf1 (List.mem_cons_of_mem _ (List.mem_append_left _ (List.mem_append_left _ (List.mem_append_left _ (List.mem_cons_of_mem _ (List.mem_cons_of_mem _ (List.mem_cons_of_mem _ (List.mem_cons_of_mem _ (List.mem_cons_of_mem _ (List.mem_cons_of_mem _ (List.mem_cons_of_mem _ (List.mem_cons_of_mem _ (List.mem_cons_of_mem _ (List.mem_cons_of_mem _ (List.mem_cons_of_mem _ (List.mem_cons_of_mem _ (List.mem_cons_of_mem _ (List.mem_cons_of_mem _ (List.Mem.head _))))))))))))))))))) (kt_wf1 (List.mem_cons_of_mem _ (List.mem_append_left _ (List.mem_append_left _ (List.mem_append_left _ (List.mem_cons_of_mem _ (List.mem_cons_of_mem _ (List.mem_cons_of_mem _ (List.mem_cons_of_mem _ (List.mem_cons_of_mem _ (List.mem_cons_of_mem _ (List.mem_cons_of_mem _ (List.mem_cons_of_mem _ (List.mem_cons_of_mem _ (List.mem_cons_of_mem _ (List.mem_cons_of_mem _ (List.mem_cons_of_mem _ (List.mem_cons_of_mem _ (List.mem_cons_of_mem _ (List.mem_cons_of_mem _ (List.Mem.head _)))))))))))))))))))) (kt_wf1 (List.mem_cons_of_mem _ (List.mem_append_left _ (List.mem_append_left _ (List.mem_append_left _ (List.mem_cons_of_mem _ (List.mem_cons_of_mem _ (List.mem_cons_of_mem _ (List.mem_cons_of_mem _ (List.mem_cons_of_mem _ (List.mem_cons_of_mem _ (List.mem_cons_of_mem _ (List.mem_cons_of_mem _ (List.mem_cons_of_mem _ (List.mem_cons_of_mem _ (List.mem_cons_of_mem _ (List.mem_cons_of_mem _ (List.mem_cons_of_mem _ (List.mem_cons_of_mem _ (List.mem_cons_of_mem _ (List.mem_cons_of_mem _ (List.Mem.head _))))))))))))))))))))) (kt_wf1 (List.mem_cons_of_mem _ (List.mem_append_left _ (List.mem_append_left _ (List.mem_append_left _ (List.mem_cons_of_mem _ (List.mem_cons_of_mem _ (List.mem_cons_of_mem _ (List.mem_cons_of_mem _ (List.mem_cons_of_mem _ (List.mem_cons_of_mem _ (List.mem_cons_of_mem _ (List.mem_cons_of_mem _ (List.mem_cons_of_mem _ (List.mem_cons_of_mem _ (List.mem_cons_of_mem _ (List.mem_cons_of_mem _ (List.mem_cons_of_mem _ (List.mem_cons_of_mem _ (List.mem_cons_of_mem _ (List.mem_cons_of_mem _ (List.mem_cons_of_mem _ (List.Mem.head _)))))))))))))))))))))) (kt_wf1 (List.mem_cons_of_mem _ (List.mem_append_left _ (List.mem_append_left _ (List.mem_append_left _ (List.mem_cons_of_mem _ (List.mem_cons_of_mem _ (List.mem_cons_of_mem _ (List.mem_cons_of_mem _ (List.mem_cons_of_mem _ (List.mem_cons_of_mem _ (List.mem_cons_of_mem _ (List.mem_cons_of_mem _ (List.mem_cons_of_mem _ (List.mem_cons_of_mem _ (List.mem_cons_of_mem _ (List.mem_cons_of_mem _ (List.mem_cons_of_mem _ (List.mem_cons_of_mem _ (List.mem_cons_of_mem _ (List.mem_cons_of_mem _ (List.mem_cons_of_mem _ (List.mem_cons_of_mem _ (List.Mem.head _))))))))))))))))))))))) (kt_wf1 (List.mem_cons_of_mem _ (List.mem_append_left _ (List.mem_append_left _ (List.mem_append_left _ (List.mem_cons_of_mem _ (List.mem_cons_of_mem _ (List.mem_cons_of_mem _ (List.mem_cons_of_mem _ (List.mem_cons_of_mem _ (List.mem_cons_of_mem _ (List.mem_cons_of_mem _ (List.mem_cons_of_mem _ (List.mem_cons_of_mem _ (List.mem_cons_of_mem _ (List.mem_cons_of_mem _ (List.mem_cons_of_mem _ (List.mem_cons_of_mem _ (List.mem_cons_of_mem _ (List.mem_cons_of_mem _ (List.mem_cons_of_mem _ (List.mem_cons_of_mem _ (List.mem_cons_of_mem _ (List.mem_cons_of_mem _ (List.Mem.head _)))))))))))))))))))))))) (kt_wf1 (List.mem_cons_of_mem _ (List.mem_append_left _ (List.mem_append_left _ (List.mem_append_left _ (List.mem_cons_of_mem _ (List.mem_cons_of_mem _ (List.mem_cons_of_mem _ (List.mem_cons_of_mem _ (List.mem_cons_of_mem _ (List.mem_cons_of_mem _ (List.mem_cons_of_mem _ (List.mem_cons_of_mem _ (List.mem_cons_of_mem _ (List.mem_cons_of_mem _ (List.mem_cons_of_mem _ (List.mem_cons_of_mem _ (List.mem_cons_of_mem _ (List.mem_cons_of_mem _ (List.mem_cons_of_mem _ (List.mem_cons_of_mem _ (List.mem_cons_of_mem _ (List.mem_cons_of_mem _ (List.mem_cons_of_mem _ (List.mem_cons_of_mem _ (List.Mem.head _))))))))))))))))))))))))) kt_wf0))))))))))))) (fun _ h => kt_wp_X4_takeBack__X30 h)) (fun _ h => kt_wp_X4_takeBack__X80 h))) kt_wg_X3_unwind
set_option maxRecDepth 20000 in
theorem gX4_takeBack_X3_unwind : GoodIn wsX4_takeBack (wsV RX4 181 RX3 yX3_unwind wsX3_unwind) := goodIn_app (a := [.methodLink RX4 181 yX3_unwind, .instanceMethod yX3_unwind, .selects RX3 yX3_unwind yX3_unwind, .initialized RX3]) (goodIn_sub (kt_wf1 (List.mem_cons_of_mem _ (List.mem_append_left _ (List.mem_append_left _ (List.mem_append_left _ (List.mem_cons_of_mem _ (List.mem_cons_of_mem _ (List.mem_cons_of_mem _ (List.Mem.head _)))))))) (kt_wf1 (List.mem_cons_of_mem _ (List.mem_append_left _ (List.mem_append_left _ (List.mem_append_left _ (List.mem_cons_of_mem _ (List.mem_cons_of_mem _ (List.mem_cons_of_mem _ (List.mem_cons_of_mem _ (List.Mem.head _))))))))) (kt_wf1 (List.mem_cons_of_mem _ (List.mem_append_left _ (List.mem_append_left _ (List.mem_append_left _ (List.mem_cons_of_mem _ (List.mem_cons_of_mem _ (List.mem_cons_of_mem _ (List.mem_cons_of_mem _ (List.mem_cons_of_mem _ (List.Mem.head _)))))))))) (kt_wf1 (List.mem_cons_of_mem _ (List.mem_append_left _ (List.mem_append_left _ (List.mem_append_left _ (List.mem_cons_of_mem _ (List.mem_cons_of_mem _ (List.mem_cons_of_mem _ (List.mem_cons_of_mem _ (List.mem_cons_of_mem _ (List.mem_cons_of_mem _ (List.Mem.head _))))))))))) kt_wf0)))) (by decide +kernel)) ggX4_takeBack_X3_unwind
theorem sX4_takeBack_0 : kt_sg cX4_takeBack 0 [42, 180, 0, 21, 180, 0, 159, 154, 0, 5, 3, 172, 42, 180, 0, 21, 42, 180, 0, 12, 182, 0, 181, 42, 4, 181, 0, 25, 4, 172] = true := by decide +kernel
theorem dX4_takeBack_0 : decode cX4_takeBack 0 = .ok (.aload_n 0, 1) := kt_o42 (j := 0) sX4_takeBack_0 rfl
theorem dX4_takeBack_1 : decode cX4_takeBack 1 = .ok (.getfield 21, 3) := kt_o180 (j := 1) sX4_takeBack_0 rfl rfl
theorem dX4_takeBack_4 : decode cX4_takeBack 4 = .ok (.getfield 159, 3) := kt_o180 (j := 4) sX4_takeBack_0 rfl rfl
theorem dX4_takeBack_7 : decode cX4_takeBack 7 = .ok (.ifCond .ne 5, 3) := kt_o154 (j := 7) sX4_takeBack_0 rfl (by decide +kernel)
theorem dX4_takeBack_10 : decode cX4_takeBack 10 = .ok (.iconst 0, 1) := kt_o3 (j := 10) sX4_takeBack_0 rfl
theorem dX4_takeBack_11 : decode cX4_takeBack 11 = .ok (.ireturn, 1) := kt_o172 (j := 11) sX4_takeBack_0 rfl
theorem dX4_takeBack_12 : decode cX4_takeBack 12 = .ok (.aload_n 0, 1) := kt_o42 (j := 12) sX4_takeBack_0 rfl
theorem dX4_takeBack_13 : decode cX4_takeBack 13 = .ok (.getfield 21, 3) := kt_o180 (j := 13) sX4_takeBack_0 rfl rfl
theorem dX4_takeBack_16 : decode cX4_takeBack 16 = .ok (.aload_n 0, 1) := kt_o42 (j := 16) sX4_takeBack_0 rfl
theorem dX4_takeBack_17 : decode cX4_takeBack 17 = .ok (.getfield 12, 3) := kt_o180 (j := 17) sX4_takeBack_0 rfl rfl
theorem dX4_takeBack_20 : decode cX4_takeBack 20 = .ok (.invokevirtual 181, 3) := kt_o182 (j := 20) sX4_takeBack_0 rfl rfl
theorem dX4_takeBack_23 : decode cX4_takeBack 23 = .ok (.aload_n 0, 1) := kt_o42 (j := 23) sX4_takeBack_0 rfl
theorem dX4_takeBack_24 : decode cX4_takeBack 24 = .ok (.iconst 1, 1) := kt_o4 (j := 24) sX4_takeBack_0 rfl
theorem dX4_takeBack_25 : decode cX4_takeBack 25 = .ok (.putfield 25, 3) := kt_o181 (j := 25) sX4_takeBack_0 rfl rfl
theorem dX4_takeBack_28 : decode cX4_takeBack 28 = .ok (.iconst 1, 1) := kt_o4 (j := 28) sX4_takeBack_0 rfl
theorem dX4_takeBack_29 : decode cX4_takeBack 29 = .ok (.ireturn, 1) := kt_o172 (j := 29) sX4_takeBack_0 rfl
theorem kt_wp_X4_redo__X4_redo_r1 {w : Cond} (h : w ∈ wsX4_redo_r1) : w ∈ wsX4_redo := List.mem_cons_of_mem _ (List.mem_append_left _ (List.mem_append_left _ (List.mem_append_left _ (List.mem_append_left _ (List.mem_append_left _ (List.mem_append_left _ (List.mem_append_left _ (h))))))))
theorem kt_wp_X4_redo__X4_redo_r2 {w : Cond} (h : w ∈ wsX4_redo_r2) : w ∈ wsX4_redo := List.mem_cons_of_mem _ (List.mem_append_left _ (List.mem_append_left _ (List.mem_append_left _ (List.mem_append_left _ (List.mem_append_left _ (List.mem_append_left _ (List.mem_append_right _ (List.mem_append_left _ (h)))))))))
theorem kt_wp_X4_redo__X4_redo_r3 {w : Cond} (h : w ∈ wsX4_redo_r3) : w ∈ wsX4_redo := List.mem_cons_of_mem _ (List.mem_append_left _ (List.mem_append_left _ (List.mem_append_left _ (List.mem_append_left _ (List.mem_append_left _ (List.mem_append_left _ (List.mem_append_right _ (List.mem_append_right _ (List.mem_append_left _ (h))))))))))
theorem kt_wp_X4_redo__X4_redo_r4 {w : Cond} (h : w ∈ wsX4_redo_r4) : w ∈ wsX4_redo := List.mem_cons_of_mem _ (List.mem_append_left _ (List.mem_append_left _ (List.mem_append_left _ (List.mem_append_left _ (List.mem_append_left _ (List.mem_append_left _ (List.mem_append_right _ (List.mem_append_right _ (List.mem_append_right _ (List.mem_append_left _ (h)))))))))))
theorem kt_wp_X4_redo__X4_redo_r5 {w : Cond} (h : w ∈ wsX4_redo_r5) : w ∈ wsX4_redo := List.mem_cons_of_mem _ (List.mem_append_left _ (List.mem_append_left _ (List.mem_append_left _ (List.mem_append_left _ (List.mem_append_left _ (List.mem_append_left _ (List.mem_append_right _ (List.mem_append_right _ (List.mem_append_right _ (List.mem_append_right _ (List.mem_append_left _ (h))))))))))))
theorem kt_wp_X4_redo__X4_redo_r6 {w : Cond} (h : w ∈ wsX4_redo_r6) : w ∈ wsX4_redo := List.mem_cons_of_mem _ (List.mem_append_left _ (List.mem_append_left _ (List.mem_append_left _ (List.mem_append_left _ (List.mem_append_left _ (List.mem_append_left _ (List.mem_append_right _ (List.mem_append_right _ (List.mem_append_right _ (List.mem_append_right _ (List.mem_append_right _ (h))))))))))))
theorem kt_wp_X4_redo__X40 {w : Cond} (h : w ∈ wsX40) : w ∈ wsX4_redo := List.mem_cons_of_mem _ (List.mem_append_left _ (List.mem_append_left _ (List.mem_append_left _ (List.mem_append_left _ (List.mem_append_left _ (List.mem_append_right _ (h)))))))
theorem kt_wp_X4_redo__X30 {w : Cond} (h : w ∈ wsX30) : w ∈ wsX4_redo := List.mem_cons_of_mem _ (List.mem_append_left _ (List.mem_append_left _ (List.mem_append_left _ (List.mem_append_left _ (List.mem_append_right _ (h))))))
theorem kt_wp_X4_redo__X60 {w : Cond} (h : w ∈ wsX60) : w ∈ wsX4_redo := List.mem_cons_of_mem _ (List.mem_append_left _ (List.mem_append_left _ (List.mem_append_left _ (List.mem_append_right _ (h)))))
theorem kt_wp_X4_redo__X80 {w : Cond} (h : w ∈ wsX80) : w ∈ wsX4_redo := List.mem_cons_of_mem _ (List.mem_append_left _ (List.mem_append_left _ (List.mem_append_right _ (h))))
theorem kt_wp_X4_redo__X00 {w : Cond} (h : w ∈ wsX00) : w ∈ wsX4_redo := List.mem_cons_of_mem _ (List.mem_append_left _ (List.mem_append_right _ (h)))
theorem kt_wp_X4_redo__X10 {w : Cond} (h : w ∈ wsX10) : w ∈ wsX4_redo := List.mem_cons_of_mem _ (List.mem_append_right _ (h))
set_option maxRecDepth 20000 in
theorem ggX4_redo_X3_isFull : GoodIn wsX4_redo wsX3_isFull := goodIn_sub (kt_wf1 (kt_wp_X4_redo__X4_redo_r1 kt_wm5) (kt_wfa (kt_wf1 (kt_wp_X4_redo__X4_redo_r1 kt_wm6) kt_wf0) (fun _ h => kt_wp_X4_redo__X30 h))) kt_wg_X3_isFull
set_option maxRecDepth 20000 in
theorem gX4_redo_X3_isFull : GoodIn wsX4_redo (wsV RX4 155 RX3 yX3_isFull wsX3_isFull) := goodIn_app (a := [.methodLink RX4 155 yX3_isFull, .instanceMethod yX3_isFull, .selects RX3 yX3_isFull yX3_isFull, .initialized RX3]) (goodIn_sub (kt_wf1 (kt_wp_X4_redo__X4_redo_r1 kt_wm1) (kt_wf1 (kt_wp_X4_redo__X4_redo_r1 kt_wm2) (kt_wf1 (kt_wp_X4_redo__X4_redo_r1 kt_wm3) (kt_wf1 (kt_wp_X4_redo__X4_redo_r1 kt_wm4) kt_wf0)))) (by decide +kernel)) ggX4_redo_X3_isFull
set_option maxRecDepth 20000 in
theorem ggX4_redo_X4_move : GoodIn wsX4_redo wsX4_move := goodIn_sub (kt_wf1 (kt_wp_X4_redo__X4_redo_r1 kt_wm11) (kt_wfa (kt_wfa (kt_wfa (kt_wfa (kt_wfa (kt_wfa (kt_wfa (kt_wf1 (kt_wp_X4_redo__X4_redo_r1 kt_wm0) (kt_wf1 (kt_wp_X4_redo__X4_redo_r1 kt_wm12) (kt_wf1 (kt_wp_X4_redo__X4_redo_r1 kt_wm13) (kt_wf1 (kt_wp_X4_redo__X4_redo_r1 kt_wm14) (kt_wf1 (kt_wp_X4_redo__X4_redo_r1 kt_wm15) (kt_wf1 (kt_wp_X4_redo__X4_redo_r1 kt_wm16) (kt_wf1 (kt_wp_X4_redo__X4_redo_r1 kt_wm10) (kt_wf1 (kt_wp_X4_redo__X4_redo_r1 kt_wm17) (kt_wf1 (kt_wp_X4_redo__X4_redo_r1 kt_wm18) (kt_wf1 (kt_wp_X4_redo__X4_redo_r1 kt_wm19) (kt_wf1 (kt_wp_X4_redo__X4_redo_r1 kt_wm20) (kt_wf1 (kt_wp_X4_redo__X4_redo_r1 kt_wm21) (kt_wf1 (kt_wp_X4_redo__X4_redo_r1 kt_wm22) (kt_wf1 (kt_wp_X4_redo__X4_redo_r1 kt_wm23) (kt_wf1 (kt_wp_X4_redo__X4_redo_r2 kt_wm0) (kt_wf1 (kt_wp_X4_redo__X4_redo_r2 kt_wm1) (kt_wf1 (kt_wp_X4_redo__X4_redo_r2 kt_wm2) (kt_wf1 (kt_wp_X4_redo__X4_redo_r2 kt_wm3) (kt_wf1 (kt_wp_X4_redo__X4_redo_r2 kt_wm4) (kt_wf1 (kt_wp_X4_redo__X4_redo_r2 kt_wm5) (kt_wf1 (kt_wp_X4_redo__X4_redo_r2 kt_wm6) (kt_wf1 (kt_wp_X4_redo__X4_redo_r2 kt_wm7) (kt_wf1 (kt_wp_X4_redo__X4_redo_r2 kt_wm8) (kt_wf1 (kt_wp_X4_redo__X4_redo_r2 kt_wm9) kt_wf0)))))))))))))))))))))))) (kt_wfa (kt_wf1 (kt_wp_X4_redo__X4_redo_r2 kt_wm10) (kt_wf1 (kt_wp_X4_redo__X4_redo_r2 kt_wm11) (kt_wf1 (kt_wp_X4_redo__X4_redo_r2 kt_wm12) (kt_wf1 (kt_wp_X4_redo__X4_redo_r2 kt_wm13) (kt_wf1 (kt_wp_X4_redo__X4_redo_r2 kt_wm14) (kt_wf1 (kt_wp_X4_redo__X4_redo_r2 kt_wm15) (kt_wf1 (kt_wp_X4_redo__X4_redo_r2 kt_wm16) (kt_wf1 (kt_wp_X4_redo__X4_redo_r2 kt_wm17) (kt_wf1 (kt_wp_X4_redo__X4_redo_r2 kt_wm18) (kt_wf1 (kt_wp_X4_redo__X4_redo_r2 kt_wm19) (kt_wf1 (kt_wp_X4_redo__X4_redo_r2 kt_wm20) (kt_wf1 (kt_wp_X4_redo__X4_redo_r2 kt_wm21) (kt_wf1 (kt_wp_X4_redo__X4_redo_r2 kt_wm22) (kt_wf1 (kt_wp_X4_redo__X4_redo_r2 kt_wm23) (kt_wf1 (kt_wp_X4_redo__X4_redo_r3 kt_wm0) (kt_wf1 (kt_wp_X4_redo__X4_redo_r3 kt_wm1) (kt_wf1 (kt_wp_X4_redo__X4_redo_r3 kt_wm2) (kt_wf1 (kt_wp_X4_redo__X4_redo_r3 kt_wm3) (kt_wf1 (kt_wp_X4_redo__X4_redo_r3 kt_wm4) (kt_wf1 (kt_wp_X4_redo__X4_redo_r3 kt_wm5) (kt_wf1 (kt_wp_X4_redo__X4_redo_r3 kt_wm6) (kt_wf1 (kt_wp_X4_redo__X4_redo_r3 kt_wm7) (kt_wf1 (kt_wp_X4_redo__X4_redo_r3 kt_wm8) (kt_wf1 (kt_wp_X4_redo__X4_redo_r3 kt_wm9) kt_wf0)))))))))))))))))))))))) (kt_wfa (kt_wf1 (kt_wp_X4_redo__X4_redo_r3 kt_wm10) (kt_wf1 (kt_wp_X4_redo__X4_redo_r3 kt_wm11) (kt_wf1 (kt_wp_X4_redo__X4_redo_r3 kt_wm12) (kt_wf1 (kt_wp_X4_redo__X4_redo_r3 kt_wm13) (kt_wf1 (kt_wp_X4_redo__X4_redo_r3 kt_wm14) (kt_wf1 (kt_wp_X4_redo__X4_redo_r3 kt_wm15) (kt_wf1 (kt_wp_X4_redo__X4_redo_r3 kt_wm16) (kt_wf1 (kt_wp_X4_redo__X4_redo_r3 kt_wm17) (kt_wf1 (kt_wp_X4_redo__X4_redo_r3 kt_wm18) (kt_wf1 (kt_wp_X4_redo__X4_redo_r3 kt_wm19) (kt_wf1 (kt_wp_X4_redo__X4_redo_r3 kt_wm20) (kt_wf1 (kt_wp_X4_redo__X4_redo_r3 kt_wm21) (kt_wf1 (kt_wp_X4_redo__X4_redo_r3 kt_wm22) (kt_wf1 (kt_wp_X4_redo__X4_redo_r3 kt_wm23) (kt_wf1 (kt_wp_X4_redo__X4_redo_r4 kt_wm0) (kt_wf1 (kt_wp_X4_redo__X4_redo_r1 kt_wm4) (kt_wf1 (kt_wp_X4_redo__X4_redo_r4 kt_wm1) (kt_wf1 (kt_wp_X4_redo__X4_redo_r4 kt_wm2) (kt_wf1 (kt_wp_X4_redo__X4_redo_r4 kt_wm3) (kt_wf1 (kt_wp_X4_redo__X4_redo_r4 kt_wm4) (kt_wf1 (kt_wp_X4_redo__X4_redo_r4 kt_wm5) (kt_wf1 (kt_wp_X4_redo__X4_redo_r4 kt_wm6) (kt_wf1 (kt_wp_X4_redo__X4_redo_r1 kt_wm6) (kt_wf1 (kt_wp_X4_redo__X4_redo_r4 kt_wm7) kt_wf0)))))))))))))))))))))))) (kt_wf1 (kt_wp_X4_redo__X4_redo_r4 kt_wm8) (kt_wf1 (kt_wp_X4_redo__X4_redo_r4 kt_wm9) (kt_wf1 (kt_wp_X4_redo__X4_redo_r4 kt_wm10) (kt_wf1 (kt_wp_X4_redo__X4_redo_r4 kt_wm11) (kt_wf1 (kt_wp_X4_redo__X4_redo_r4 kt_wm12) (kt_wf1 (kt_wp_X4_redo__X4_redo_r4 kt_wm13) (kt_wf1 (kt_wp_X4_redo__X4_redo_r4 kt_wm14) (kt_wf1 (kt_wp_X4_redo__X4_redo_r4 kt_wm15) (kt_wf1 (kt_wp_X4_redo__X4_redo_r4 kt_wm16) (kt_wf1 (kt_wp_X4_redo__X4_redo_r4 kt_wm17) (kt_wf1 (kt_wp_X4_redo__X4_redo_r4 kt_wm18) (kt_wf1 (kt_wp_X4_redo__X4_redo_r4 kt_wm19) (kt_wf1 (kt_wp_X4_redo__X4_redo_r4 kt_wm20) (kt_wf1 (kt_wp_X4_redo__X4_redo_r4 kt_wm21) (kt_wf1 (kt_wp_X4_redo__X4_redo_r4 kt_wm22) (kt_wf1 (kt_wp_X4_redo__X4_redo_r4 kt_wm23) (kt_wf1 (kt_wp_X4_redo__X4_redo_r1 kt_wm2) (kt_wf1 (kt_wp_X4_redo__X4_redo_r1 kt_wm3) (kt_wf1 (kt_wp_X4_redo__X4_redo_r1 kt_wm5) (kt_wf1 (kt_wp_X4_redo__X4_redo_r5 kt_wm0) kt_wf0))))))))))))))))))))))) (fun _ h => kt_wp_X4_redo__X40 h)) (fun _ h => kt_wp_X4_redo__X60 h)) (fun _ h => kt_wp_X4_redo__X80 h)) (fun _ h => kt_wp_X4_redo__X00 h)) (fun _ h => kt_wp_X4_redo__X10 h)) (fun _ h => kt_wp_X4_redo__X30 h))) kt_wg_X4_move
set_option maxRecDepth 20000 in
theorem gX4_redo_X4_move : GoodIn wsX4_redo (wsV RX4 165 RX4 yX4_move wsX4_move) := goodIn_app (a := [.methodLink RX4 165 yX4_move, .instanceMethod yX4_move, .selects RX4 yX4_move yX4_move, .initialized RX4]) (goodIn_sub (kt_wf1 (kt_wp_X4_redo__X4_redo_r1 kt_wm7) (kt_wf1 (kt_wp_X4_redo__X4_redo_r1 kt_wm8) (kt_wf1 (kt_wp_X4_redo__X4_redo_r1 kt_wm9) (kt_wf1 (kt_wp_X4_redo__X4_redo_r1 kt_wm10) kt_wf0)))) (by decide +kernel)) ggX4_redo_X4_move
set_option maxRecDepth 20000 in
theorem ggX4_redo_X4_settle : GoodIn wsX4_redo wsX4_settle := goodIn_sub (kt_wf1 (kt_wp_X4_redo__X4_redo_r5 kt_wm4) (kt_wfa (kt_wfa (kt_wfa (kt_wfa (kt_wfa (kt_wfa (kt_wf1 (kt_wp_X4_redo__X4_redo_r1 kt_wm13) (kt_wf1 (kt_wp_X4_redo__X4_redo_r1 kt_wm12) (kt_wf1 (kt_wp_X4_redo__X4_redo_r5 kt_wm5) (kt_wf1 (kt_wp_X4_redo__X4_redo_r5 kt_wm6) (kt_wf1 (kt_wp_X4_redo__X4_redo_r5 kt_wm7) (kt_wf1 (kt_wp_X4_redo__X4_redo_r5 kt_wm8) (kt_wf1 (kt_wp_X4_redo__X4_redo_r5 kt_wm9) (kt_wf1 (kt_wp_X4_redo__X4_redo_r1 kt_wm21) (kt_wf1 (kt_wp_X4_redo__X4_redo_r5 kt_wm10) (kt_wf1 (kt_wp_X4_redo__X4_redo_r3 kt_wm11) (kt_wf1 (kt_wp_X4_redo__X4_redo_r2 kt_wm8) (kt_wf1 (kt_wp_X4_redo__X4_redo_r2 kt_wm9) (kt_wf1 (kt_wp_X4_redo__X4_redo_r2 kt_wm10) (kt_wf1 (kt_wp_X4_redo__X4_redo_r2 kt_wm11) (kt_wf1 (kt_wp_X4_redo__X4_redo_r2 kt_wm12) (kt_wf1 (kt_wp_X4_redo__X4_redo_r2 kt_wm13) (kt_wf1 (kt_wp_X4_redo__X4_redo_r5 kt_wm11) (kt_wf1 (kt_wp_X4_redo__X4_redo_r5 kt_wm12) (kt_wf1 (kt_wp_X4_redo__X4_redo_r5 kt_wm13) (kt_wf1 (kt_wp_X4_redo__X4_redo_r5 kt_wm14) (kt_wf1 (kt_wp_X4_redo__X4_redo_r2 kt_wm1) (kt_wf1 (kt_wp_X4_redo__X4_redo_r5 kt_wm15) (kt_wf1 (kt_wp_X4_redo__X4_redo_r5 kt_wm16) (kt_wf1 (kt_wp_X4_redo__X4_redo_r5 kt_wm17) kt_wf0)))))))))))))))))))))))) (kt_wf1 (kt_wp_X4_redo__X4_redo_r5 kt_wm18) (kt_wf1 (kt_wp_X4_redo__X4_redo_r2 kt_wm7) (kt_wf1 (kt_wp_X4_redo__X4_redo_r2 kt_wm2) (kt_wf1 (kt_wp_X4_redo__X4_redo_r5 kt_wm19) (kt_wf1 (kt_wp_X4_redo__X4_redo_r5 kt_wm20) (kt_wf1 (kt_wp_X4_redo__X4_redo_r5 kt_wm21) (kt_wf1 (kt_wp_X4_redo__X4_redo_r5 kt_wm22) (kt_wf1 (kt_wp_X4_redo__X4_redo_r3 kt_wm12) (kt_wf1 (kt_wp_X4_redo__X4_redo_r2 kt_wm19) (kt_wf1 (kt_wp_X4_redo__X4_redo_r2 kt_wm20) (kt_wf1 (kt_wp_X4_redo__X4_redo_r2 kt_wm21) (kt_wf1 (kt_wp_X4_redo__X4_redo_r2 kt_wm22) (kt_wf1 (kt_wp_X4_redo__X4_redo_r2 kt_wm23) (kt_wf1 (kt_wp_X4_redo__X4_redo_r3 kt_wm0) (kt_wf1 (kt_wp_X4_redo__X4_redo_r3 kt_wm1) (kt_wf1 (kt_wp_X4_redo__X4_redo_r3 kt_wm2) (kt_wf1 (kt_wp_X4_redo__X4_redo_r3 kt_wm3) (kt_wf1 (kt_wp_X4_redo__X4_redo_r3 kt_wm4) (kt_wf1 (kt_wp_X4_redo__X4_redo_r3 kt_wm5) (kt_wf1 (kt_wp_X4_redo__X4_redo_r2 kt_wm18) (kt_wf1 (kt_wp_X4_redo__X4_redo_r5 kt_wm23) (kt_wf1 (kt_wp_X4_redo__X4_redo_r6 kt_wm0) (kt_wf1 (kt_wp_X4_redo__X4_redo_r6 kt_wm1) (kt_wf1 (kt_wp_X4_redo__X4_redo_r6 kt_wm2) kt_wf0))))))))))))))))))))))))) (fun _ h => kt_wp_X4_redo__X40 h)) (fun _ h => kt_wp_X4_redo__X10 h)) (fun _ h => kt_wp_X4_redo__X60 h)) (fun _ h => kt_wp_X4_redo__X80 h)) (fun _ h => kt_wp_X4_redo__X00 h))) kt_wg_X4_settle
set_option maxRecDepth 20000 in
theorem gX4_redo_X4_settle : GoodIn wsX4_redo (wsV RX4 85 RX4 yX4_settle wsX4_settle) := goodIn_app (a := [.methodLink RX4 85 yX4_settle, .instanceMethod yX4_settle, .selects RX4 yX4_settle yX4_settle, .initialized RX4]) (goodIn_sub (kt_wf1 (kt_wp_X4_redo__X4_redo_r5 kt_wm1) (kt_wf1 (kt_wp_X4_redo__X4_redo_r5 kt_wm2) (kt_wf1 (kt_wp_X4_redo__X4_redo_r5 kt_wm3) (kt_wf1 (kt_wp_X4_redo__X4_redo_r1 kt_wm10) kt_wf0)))) (by decide +kernel)) ggX4_redo_X4_settle
theorem sX4_redo_0 : kt_sg cX4_redo 0 [42, 180, 0, 21, 180, 0, 159, 42, 180, 0, 21, 180, 0, 162, 162, 0, 13, 42, 180, 0, 21, 182, 0, 155, 153, 0, 5, 3, 172, 42, 42, 42, 180, 0, 21, 180, 0, 185, 42, 180, 0, 21, 180, 0, 159, 46, 42, 180, 0, 21, 180, 0, 188, 42, 180, 0, 21, 180, 0, 159, 46, 182, 0, 165] = true := by decide +kernel
theorem dX4_redo_0 : decode cX4_redo 0 = .ok (.aload_n 0, 1) := kt_o42 (j := 0) sX4_redo_0 rfl
theorem dX4_redo_1 : decode cX4_redo 1 = .ok (.getfield 21, 3) := kt_o180 (j := 1) sX4_redo_0 rfl rfl
theorem dX4_redo_4 : decode cX4_redo 4 = .ok (.getfield 159, 3) := kt_o180 (j := 4) sX4_redo_0 rfl rfl
theorem dX4_redo_7 : decode cX4_redo 7 = .ok (.aload_n 0, 1) := kt_o42 (j := 7) sX4_redo_0 rfl
theorem dX4_redo_8 : decode cX4_redo 8 = .ok (.getfield 21, 3) := kt_o180 (j := 8) sX4_redo_0 rfl rfl
theorem dX4_redo_11 : decode cX4_redo 11 = .ok (.getfield 162, 3) := kt_o180 (j := 11) sX4_redo_0 rfl rfl
theorem dX4_redo_14 : decode cX4_redo 14 = .ok (.if_icmp .ge 13, 3) := kt_o162 (j := 14) sX4_redo_0 rfl (by decide +kernel)
theorem dX4_redo_17 : decode cX4_redo 17 = .ok (.aload_n 0, 1) := kt_o42 (j := 17) sX4_redo_0 rfl
theorem dX4_redo_18 : decode cX4_redo 18 = .ok (.getfield 21, 3) := kt_o180 (j := 18) sX4_redo_0 rfl rfl
theorem dX4_redo_21 : decode cX4_redo 21 = .ok (.invokevirtual 155, 3) := kt_o182 (j := 21) sX4_redo_0 rfl rfl
theorem dX4_redo_24 : decode cX4_redo 24 = .ok (.ifCond .eq 5, 3) := kt_o153 (j := 24) sX4_redo_0 rfl (by decide +kernel)
theorem dX4_redo_27 : decode cX4_redo 27 = .ok (.iconst 0, 1) := kt_o3 (j := 27) sX4_redo_0 rfl
theorem dX4_redo_28 : decode cX4_redo 28 = .ok (.ireturn, 1) := kt_o172 (j := 28) sX4_redo_0 rfl
theorem dX4_redo_29 : decode cX4_redo 29 = .ok (.aload_n 0, 1) := kt_o42 (j := 29) sX4_redo_0 rfl
theorem dX4_redo_30 : decode cX4_redo 30 = .ok (.aload_n 0, 1) := kt_o42 (j := 30) sX4_redo_0 rfl
theorem dX4_redo_31 : decode cX4_redo 31 = .ok (.aload_n 0, 1) := kt_o42 (j := 31) sX4_redo_0 rfl
theorem dX4_redo_32 : decode cX4_redo 32 = .ok (.getfield 21, 3) := kt_o180 (j := 32) sX4_redo_0 rfl rfl
theorem dX4_redo_35 : decode cX4_redo 35 = .ok (.getfield 185, 3) := kt_o180 (j := 35) sX4_redo_0 rfl rfl
theorem dX4_redo_38 : decode cX4_redo 38 = .ok (.aload_n 0, 1) := kt_o42 (j := 38) sX4_redo_0 rfl
theorem dX4_redo_39 : decode cX4_redo 39 = .ok (.getfield 21, 3) := kt_o180 (j := 39) sX4_redo_0 rfl rfl
theorem dX4_redo_42 : decode cX4_redo 42 = .ok (.getfield 159, 3) := kt_o180 (j := 42) sX4_redo_0 rfl rfl
theorem dX4_redo_45 : decode cX4_redo 45 = .ok (.iaload, 1) := kt_o46 (j := 45) sX4_redo_0 rfl
theorem dX4_redo_46 : decode cX4_redo 46 = .ok (.aload_n 0, 1) := kt_o42 (j := 46) sX4_redo_0 rfl
theorem dX4_redo_47 : decode cX4_redo 47 = .ok (.getfield 21, 3) := kt_o180 (j := 47) sX4_redo_0 rfl rfl
theorem dX4_redo_50 : decode cX4_redo 50 = .ok (.getfield 188, 3) := kt_o180 (j := 50) sX4_redo_0 rfl rfl
theorem dX4_redo_53 : decode cX4_redo 53 = .ok (.aload_n 0, 1) := kt_o42 (j := 53) sX4_redo_0 rfl
theorem dX4_redo_54 : decode cX4_redo 54 = .ok (.getfield 21, 3) := kt_o180 (j := 54) sX4_redo_0 rfl rfl
theorem dX4_redo_57 : decode cX4_redo 57 = .ok (.getfield 159, 3) := kt_o180 (j := 57) sX4_redo_0 rfl rfl
theorem dX4_redo_60 : decode cX4_redo 60 = .ok (.iaload, 1) := kt_o46 (j := 60) sX4_redo_0 rfl
theorem dX4_redo_61 : decode cX4_redo 61 = .ok (.invokevirtual 165, 3) := kt_o182 (j := 61) sX4_redo_0 rfl rfl
theorem sX4_redo_64 : kt_sg cX4_redo 64 [182, 0, 85, 4, 172] = true := by decide +kernel
theorem dX4_redo_64 : decode cX4_redo 64 = .ok (.invokevirtual 85, 3) := kt_o182 (j := 0) sX4_redo_64 rfl rfl
theorem dX4_redo_67 : decode cX4_redo 67 = .ok (.iconst 1, 1) := kt_o4 (j := 3) sX4_redo_64 rfl
theorem dX4_redo_68 : decode cX4_redo 68 = .ok (.ireturn, 1) := kt_o172 (j := 4) sX4_redo_64 rfl
theorem sX5_init_0 : kt_sg cX5_init 0 [42, 183, 0, 3, 42, 16, 81, 188, 10, 181, 0, 9, 42, 16, 81, 188, 4, 181, 0, 15, 42, 43, 181, 0, 19, 177] = true := by decide +kernel
theorem dX5_init_0 : decode cX5_init 0 = .ok (.aload_n 0, 1) := kt_o42 (j := 0) sX5_init_0 rfl
theorem dX5_init_1 : decode cX5_init 1 = .ok (.invokespecial 3, 3) := kt_o183 (j := 1) sX5_init_0 rfl rfl
theorem dX5_init_4 : decode cX5_init 4 = .ok (.aload_n 0, 1) := kt_o42 (j := 4) sX5_init_0 rfl
theorem dX5_init_5 : decode cX5_init 5 = .ok (.bipush 81, 2) := kt_o16 (j := 5) sX5_init_0 rfl (by decide +kernel)
theorem dX5_init_7 : decode cX5_init 7 = .ok (.newarray .int, 2) := kt_o188_10 (j := 7) sX5_init_0 rfl
theorem dX5_init_9 : decode cX5_init 9 = .ok (.putfield 9, 3) := kt_o181 (j := 9) sX5_init_0 rfl rfl
theorem dX5_init_12 : decode cX5_init 12 = .ok (.aload_n 0, 1) := kt_o42 (j := 12) sX5_init_0 rfl
theorem dX5_init_13 : decode cX5_init 13 = .ok (.bipush 81, 2) := kt_o16 (j := 13) sX5_init_0 rfl (by decide +kernel)
theorem dX5_init_15 : decode cX5_init 15 = .ok (.newarray .boolean, 2) := kt_o188_4 (j := 15) sX5_init_0 rfl
theorem dX5_init_17 : decode cX5_init 17 = .ok (.putfield 15, 3) := kt_o181 (j := 17) sX5_init_0 rfl rfl
theorem dX5_init_20 : decode cX5_init 20 = .ok (.aload_n 0, 1) := kt_o42 (j := 20) sX5_init_0 rfl
theorem dX5_init_21 : decode cX5_init 21 = .ok (.aload_n 1, 1) := kt_o43 (j := 21) sX5_init_0 rfl
theorem dX5_init_22 : decode cX5_init 22 = .ok (.putfield 19, 3) := kt_o181 (j := 22) sX5_init_0 rfl rfl
theorem dX5_init_25 : decode cX5_init 25 = .ok (.return_, 1) := kt_o177 (j := 25) sX5_init_0 rfl
theorem kt_wp_X5_holds__X5_holds_r1 {w : Cond} (h : w ∈ wsX5_holds_r1) : w ∈ wsX5_holds := List.mem_cons_of_mem _ (List.mem_append_left _ (List.mem_append_left _ (List.mem_append_left _ (List.mem_append_left _ (List.mem_append_left _ (h))))))
theorem kt_wp_X5_holds__X5_holds_r2 {w : Cond} (h : w ∈ wsX5_holds_r2) : w ∈ wsX5_holds := List.mem_cons_of_mem _ (List.mem_append_left _ (List.mem_append_left _ (List.mem_append_left _ (List.mem_append_left _ (List.mem_append_right _ (h))))))
theorem kt_wp_X5_holds__X50 {w : Cond} (h : w ∈ wsX50) : w ∈ wsX5_holds := List.mem_cons_of_mem _ (List.mem_append_left _ (List.mem_append_left _ (List.mem_append_left _ (List.mem_append_right _ (h)))))
theorem kt_wp_X5_holds__X60 {w : Cond} (h : w ∈ wsX60) : w ∈ wsX5_holds := List.mem_cons_of_mem _ (List.mem_append_left _ (List.mem_append_left _ (List.mem_append_right _ (h))))
theorem kt_wp_X5_holds__X80 {w : Cond} (h : w ∈ wsX80) : w ∈ wsX5_holds := List.mem_cons_of_mem _ (List.mem_append_left _ (List.mem_append_right _ (h)))
theorem kt_wp_X5_holds__X00 {w : Cond} (h : w ∈ wsX00) : w ∈ wsX5_holds := List.mem_cons_of_mem _ (List.mem_append_right _ (h))
set_option maxRecDepth 20000 in
theorem ggX5_holds_X8_fieldOf : GoodIn wsX5_holds wsX8_fieldOf := goodIn_sub (kt_wf1 (kt_wp_X5_holds__X5_holds_r1 kt_wm7) (kt_wfa (kt_wf1 (kt_wp_X5_holds__X5_holds_r1 kt_wm8) kt_wf0) (fun _ h => kt_wp_X5_holds__X80 h))) kt_wg_X8_fieldOf
set_option maxRecDepth 20000 in
theorem gX5_holds_X8_fieldOf : GoodIn wsX5_holds (wsV RX5 29 RX8 yX8_fieldOf wsX8_fieldOf) := goodIn_app (a := [.methodLink RX5 29 yX8_fieldOf, .instanceMethod yX8_fieldOf, .selects RX8 yX8_fieldOf yX8_fieldOf, .initialized RX8]) (goodIn_sub (kt_wf1 (kt_wp_X5_holds__X5_holds_r1 kt_wm3) (kt_wf1 (kt_wp_X5_holds__X5_holds_r1 kt_wm4) (kt_wf1 (kt_wp_X5_holds__X5_holds_r1 kt_wm5) (kt_wf1 (kt_wp_X5_holds__X5_holds_r1 kt_wm6) kt_wf0)))) (by decide +kernel)) ggX5_holds_X8_fieldOf
set_option maxRecDepth 20000 in
theorem kt_wg_X6_isGoal : wsX6_isGoal.all goodWord = true := by decide +kernel
set_option maxRecDepth 20000 in
theorem ggX5_holds_X6_isGoal : GoodIn wsX5_holds wsX6_isGoal := goodIn_sub (kt_wf1 (kt_wp_X5_holds__X5_holds_r1 kt_wm13) (kt_wfa (kt_wfa (kt_wf1 (kt_wp_X5_holds__X5_holds_r1 kt_wm14) kt_wf0) (fun _ h => kt_wp_X5_holds__X60 h)) (fun _ h => kt_wp_X5_holds__X00 h))) kt_wg_X6_isGoal
set_option maxRecDepth 20000 in
theorem gX5_holds_X6_isGoal : GoodIn wsX5_holds (wsV RX5 35 RX6 yX6_isGoal wsX6_isGoal) := goodIn_app (a := [.methodLink RX5 35 yX6_isGoal, .instanceMethod yX6_isGoal, .selects RX6 yX6_isGoal yX6_isGoal, .initialized RX6]) (goodIn_sub (kt_wf1 (kt_wp_X5_holds__X5_holds_r1 kt_wm9) (kt_wf1 (kt_wp_X5_holds__X5_holds_r1 kt_wm10) (kt_wf1 (kt_wp_X5_holds__X5_holds_r1 kt_wm11) (kt_wf1 (kt_wp_X5_holds__X5_holds_r1 kt_wm12) kt_wf0)))) (by decide +kernel)) ggX5_holds_X6_isGoal
set_option maxRecDepth 20000 in
theorem ggX5_holds_X0_beside : GoodIn wsX5_holds wsX0_beside := goodIn_sub (kt_wf1 (kt_wp_X5_holds__X5_holds_r1 kt_wm19) (kt_wfa (kt_wf1 (kt_wp_X5_holds__X5_holds_r1 kt_wm20) (kt_wf1 (kt_wp_X5_holds__X5_holds_r1 kt_wm21) kt_wf0)) (fun _ h => kt_wp_X5_holds__X00 h))) kt_wg_X0_beside
set_option maxRecDepth 20000 in
theorem gX5_holds_X0_beside : GoodIn wsX5_holds (wsV RX5 43 RX0 yX0_beside wsX0_beside) := goodIn_app (a := [.methodLink RX5 43 yX0_beside, .instanceMethod yX0_beside, .selects RX0 yX0_beside yX0_beside, .initialized RX0]) (goodIn_sub (kt_wf1 (kt_wp_X5_holds__X5_holds_r1 kt_wm15) (kt_wf1 (kt_wp_X5_holds__X5_holds_r1 kt_wm16) (kt_wf1 (kt_wp_X5_holds__X5_holds_r1 kt_wm17) (kt_wf1 (kt_wp_X5_holds__X5_holds_r1 kt_wm18) kt_wf0)))) (by decide +kernel)) ggX5_holds_X0_beside
set_option maxRecDepth 20000 in
theorem kt_wg_X5_isBarred : wsX5_isBarred.all goodWord = true := by decide +kernel
set_option maxRecDepth 20000 in
theorem ggX5_holds_X5_isBarred : GoodIn wsX5_holds wsX5_isBarred := goodIn_sub (kt_wf1 (kt_wp_X5_holds__X5_holds_r2 kt_wm2) (kt_wfa (kt_wfa (kt_wfa (kt_wf1 (kt_wp_X5_holds__X5_holds_r1 kt_wm0) (kt_wf1 (kt_wp_X5_holds__X5_holds_r2 kt_wm3) (kt_wf1 (kt_wp_X5_holds__X5_holds_r2 kt_wm4) (kt_wf1 (kt_wp_X5_holds__X5_holds_r2 kt_wm5) (kt_wf1 (kt_wp_X5_holds__X5_holds_r1 kt_wm6) (kt_wf1 (kt_wp_X5_holds__X5_holds_r2 kt_wm6) (kt_wf1 (kt_wp_X5_holds__X5_holds_r2 kt_wm7) (kt_wf1 (kt_wp_X5_holds__X5_holds_r2 kt_wm8) (kt_wf1 (kt_wp_X5_holds__X5_holds_r2 kt_wm9) (kt_wf1 (kt_wp_X5_holds__X5_holds_r2 kt_wm10) (kt_wf1 (kt_wp_X5_holds__X5_holds_r1 kt_wm12) (kt_wf1 (kt_wp_X5_holds__X5_holds_r2 kt_wm11) (kt_wf1 (kt_wp_X5_holds__X5_holds_r2 kt_wm12) kt_wf0))))))))))))) (fun _ h => kt_wp_X5_holds__X50 h)) (fun _ h => kt_wp_X5_holds__X60 h)) (fun _ h => kt_wp_X5_holds__X80 h))) kt_wg_X5_isBarred
set_option maxRecDepth 20000 in
theorem gX5_holds_X5_isBarred : GoodIn wsX5_holds (wsV RX5 49 RX5 yX5_isBarred wsX5_isBarred) := goodIn_app (a := [.methodLink RX5 49 yX5_isBarred, .instanceMethod yX5_isBarred, .selects RX5 yX5_isBarred yX5_isBarred, .initialized RX5]) (goodIn_sub (kt_wf1 (kt_wp_X5_holds__X5_holds_r1 kt_wm22) (kt_wf1 (kt_wp_X5_holds__X5_holds_r1 kt_wm23) (kt_wf1 (kt_wp_X5_holds__X5_holds_r2 kt_wm0) (kt_wf1 (kt_wp_X5_holds__X5_holds_r2 kt_wm1) kt_wf0)))) (by decide +kernel)) ggX5_holds_X5_isBarred
theorem sX5_holds_0 : kt_sg cX5_holds 0 [43, 42, 180, 0, 19, 180, 0, 23, 182, 0, 29, 62, 29, 155, 0, 20, 29, 16, 81, 162, 0, 14, 42, 180, 0, 19, 29, 182, 0, 35, 153, 0, 5, 3, 172, 3, 54, 4, 21, 4, 16, 81, 162, 0, 17, 42, 180, 0, 15, 21, 4, 3, 84, 132, 4, 1, 167, 255, 238, 42, 180, 0, 15, 29] = true := by decide +kernel
theorem dX5_holds_0 : decode cX5_holds 0 = .ok (.aload_n 1, 1) := kt_o43 (j := 0) sX5_holds_0 rfl
theorem dX5_holds_1 : decode cX5_holds 1 = .ok (.aload_n 0, 1) := kt_o42 (j := 1) sX5_holds_0 rfl
theorem dX5_holds_2 : decode cX5_holds 2 = .ok (.getfield 19, 3) := kt_o180 (j := 2) sX5_holds_0 rfl rfl
theorem dX5_holds_5 : decode cX5_holds 5 = .ok (.getfield 23, 3) := kt_o180 (j := 5) sX5_holds_0 rfl rfl
theorem dX5_holds_8 : decode cX5_holds 8 = .ok (.invokevirtual 29, 3) := kt_o182 (j := 8) sX5_holds_0 rfl rfl
theorem dX5_holds_11 : decode cX5_holds 11 = .ok (.istore_n 3, 1) := kt_o62 (j := 11) sX5_holds_0 rfl
theorem dX5_holds_12 : decode cX5_holds 12 = .ok (.iload_n 3, 1) := kt_o29 (j := 12) sX5_holds_0 rfl
theorem dX5_holds_13 : decode cX5_holds 13 = .ok (.ifCond .lt 20, 3) := kt_o155 (j := 13) sX5_holds_0 rfl (by decide +kernel)
theorem dX5_holds_16 : decode cX5_holds 16 = .ok (.iload_n 3, 1) := kt_o29 (j := 16) sX5_holds_0 rfl
theorem dX5_holds_17 : decode cX5_holds 17 = .ok (.bipush 81, 2) := kt_o16 (j := 17) sX5_holds_0 rfl (by decide +kernel)
theorem dX5_holds_19 : decode cX5_holds 19 = .ok (.if_icmp .ge 14, 3) := kt_o162 (j := 19) sX5_holds_0 rfl (by decide +kernel)
theorem dX5_holds_22 : decode cX5_holds 22 = .ok (.aload_n 0, 1) := kt_o42 (j := 22) sX5_holds_0 rfl
theorem dX5_holds_23 : decode cX5_holds 23 = .ok (.getfield 19, 3) := kt_o180 (j := 23) sX5_holds_0 rfl rfl
theorem dX5_holds_26 : decode cX5_holds 26 = .ok (.iload_n 3, 1) := kt_o29 (j := 26) sX5_holds_0 rfl
theorem dX5_holds_27 : decode cX5_holds 27 = .ok (.invokevirtual 35, 3) := kt_o182 (j := 27) sX5_holds_0 rfl rfl
theorem dX5_holds_30 : decode cX5_holds 30 = .ok (.ifCond .eq 5, 3) := kt_o153 (j := 30) sX5_holds_0 rfl (by decide +kernel)
theorem dX5_holds_33 : decode cX5_holds 33 = .ok (.iconst 0, 1) := kt_o3 (j := 33) sX5_holds_0 rfl
theorem dX5_holds_34 : decode cX5_holds 34 = .ok (.ireturn, 1) := kt_o172 (j := 34) sX5_holds_0 rfl
theorem dX5_holds_35 : decode cX5_holds 35 = .ok (.iconst 0, 1) := kt_o3 (j := 35) sX5_holds_0 rfl
theorem dX5_holds_36 : decode cX5_holds 36 = .ok (.istore 4, 2) := kt_o54 (j := 36) sX5_holds_0 rfl
theorem dX5_holds_38 : decode cX5_holds 38 = .ok (.iload 4, 2) := kt_o21 (j := 38) sX5_holds_0 rfl
theorem dX5_holds_40 : decode cX5_holds 40 = .ok (.bipush 81, 2) := kt_o16 (j := 40) sX5_holds_0 rfl (by decide +kernel)
theorem dX5_holds_42 : decode cX5_holds 42 = .ok (.if_icmp .ge 17, 3) := kt_o162 (j := 42) sX5_holds_0 rfl (by decide +kernel)
theorem dX5_holds_45 : decode cX5_holds 45 = .ok (.aload_n 0, 1) := kt_o42 (j := 45) sX5_holds_0 rfl
theorem dX5_holds_46 : decode cX5_holds 46 = .ok (.getfield 15, 3) := kt_o180 (j := 46) sX5_holds_0 rfl rfl
theorem dX5_holds_49 : decode cX5_holds 49 = .ok (.iload 4, 2) := kt_o21 (j := 49) sX5_holds_0 rfl
theorem dX5_holds_51 : decode cX5_holds 51 = .ok (.iconst 0, 1) := kt_o3 (j := 51) sX5_holds_0 rfl
theorem dX5_holds_52 : decode cX5_holds 52 = .ok (.bastore, 1) := kt_o84 (j := 52) sX5_holds_0 rfl
theorem dX5_holds_53 : decode cX5_holds 53 = .ok (.iinc 4 1, 3) := kt_o132 (j := 53) sX5_holds_0 rfl (by decide +kernel)
theorem dX5_holds_56 : decode cX5_holds 56 = .ok (.goto (-18), 3) := kt_o167 (j := 56) sX5_holds_0 rfl (by decide +kernel)
theorem dX5_holds_59 : decode cX5_holds 59 = .ok (.aload_n 0, 1) := kt_o42 (j := 59) sX5_holds_0 rfl
theorem dX5_holds_60 : decode cX5_holds 60 = .ok (.getfield 15, 3) := kt_o180 (j := 60) sX5_holds_0 rfl rfl
theorem dX5_holds_63 : decode cX5_holds 63 = .ok (.iload_n 3, 1) := kt_o29 (j := 63) sX5_holds_0 rfl
theorem sX5_holds_64 : kt_sg cX5_holds 64 [4, 84, 42, 180, 0, 9, 3, 29, 79, 4, 54, 4, 3, 54, 5, 21, 5, 21, 4, 162, 0, 116, 21, 5, 16, 81, 162, 0, 109, 3, 54, 6, 21, 6, 7, 162, 0, 94, 42, 180, 0, 19, 180, 0, 39, 42, 180, 0, 9, 21, 5, 46, 21, 6, 182, 0, 43, 54, 7, 21, 7, 2, 159, 0, 61] = true := by decide +kernel
theorem dX5_holds_64 : decode cX5_holds 64 = .ok (.iconst 1, 1) := kt_o4 (j := 0) sX5_holds_64 rfl
theorem dX5_holds_65 : decode cX5_holds 65 = .ok (.bastore, 1) := kt_o84 (j := 1) sX5_holds_64 rfl
theorem dX5_holds_66 : decode cX5_holds 66 = .ok (.aload_n 0, 1) := kt_o42 (j := 2) sX5_holds_64 rfl
theorem dX5_holds_67 : decode cX5_holds 67 = .ok (.getfield 9, 3) := kt_o180 (j := 3) sX5_holds_64 rfl rfl
theorem dX5_holds_70 : decode cX5_holds 70 = .ok (.iconst 0, 1) := kt_o3 (j := 6) sX5_holds_64 rfl
theorem dX5_holds_71 : decode cX5_holds 71 = .ok (.iload_n 3, 1) := kt_o29 (j := 7) sX5_holds_64 rfl
theorem dX5_holds_72 : decode cX5_holds 72 = .ok (.iastore, 1) := kt_o79 (j := 8) sX5_holds_64 rfl
theorem dX5_holds_73 : decode cX5_holds 73 = .ok (.iconst 1, 1) := kt_o4 (j := 9) sX5_holds_64 rfl
theorem dX5_holds_74 : decode cX5_holds 74 = .ok (.istore 4, 2) := kt_o54 (j := 10) sX5_holds_64 rfl
theorem dX5_holds_76 : decode cX5_holds 76 = .ok (.iconst 0, 1) := kt_o3 (j := 12) sX5_holds_64 rfl
theorem dX5_holds_77 : decode cX5_holds 77 = .ok (.istore 5, 2) := kt_o54 (j := 13) sX5_holds_64 rfl
theorem dX5_holds_79 : decode cX5_holds 79 = .ok (.iload 5, 2) := kt_o21 (j := 15) sX5_holds_64 rfl
theorem dX5_holds_81 : decode cX5_holds 81 = .ok (.iload 4, 2) := kt_o21 (j := 17) sX5_holds_64 rfl
theorem dX5_holds_83 : decode cX5_holds 83 = .ok (.if_icmp .ge 116, 3) := kt_o162 (j := 19) sX5_holds_64 rfl (by decide +kernel)
theorem dX5_holds_86 : decode cX5_holds 86 = .ok (.iload 5, 2) := kt_o21 (j := 22) sX5_holds_64 rfl
theorem dX5_holds_88 : decode cX5_holds 88 = .ok (.bipush 81, 2) := kt_o16 (j := 24) sX5_holds_64 rfl (by decide +kernel)
theorem dX5_holds_90 : decode cX5_holds 90 = .ok (.if_icmp .ge 109, 3) := kt_o162 (j := 26) sX5_holds_64 rfl (by decide +kernel)
theorem dX5_holds_93 : decode cX5_holds 93 = .ok (.iconst 0, 1) := kt_o3 (j := 29) sX5_holds_64 rfl
theorem dX5_holds_94 : decode cX5_holds 94 = .ok (.istore 6, 2) := kt_o54 (j := 30) sX5_holds_64 rfl
theorem dX5_holds_96 : decode cX5_holds 96 = .ok (.iload 6, 2) := kt_o21 (j := 32) sX5_holds_64 rfl
theorem dX5_holds_98 : decode cX5_holds 98 = .ok (.iconst 4, 1) := kt_o7 (j := 34) sX5_holds_64 rfl
theorem dX5_holds_99 : decode cX5_holds 99 = .ok (.if_icmp .ge 94, 3) := kt_o162 (j := 35) sX5_holds_64 rfl (by decide +kernel)
theorem dX5_holds_102 : decode cX5_holds 102 = .ok (.aload_n 0, 1) := kt_o42 (j := 38) sX5_holds_64 rfl
theorem dX5_holds_103 : decode cX5_holds 103 = .ok (.getfield 19, 3) := kt_o180 (j := 39) sX5_holds_64 rfl rfl
theorem dX5_holds_106 : decode cX5_holds 106 = .ok (.getfield 39, 3) := kt_o180 (j := 42) sX5_holds_64 rfl rfl
theorem dX5_holds_109 : decode cX5_holds 109 = .ok (.aload_n 0, 1) := kt_o42 (j := 45) sX5_holds_64 rfl
theorem dX5_holds_110 : decode cX5_holds 110 = .ok (.getfield 9, 3) := kt_o180 (j := 46) sX5_holds_64 rfl rfl
theorem dX5_holds_113 : decode cX5_holds 113 = .ok (.iload 5, 2) := kt_o21 (j := 49) sX5_holds_64 rfl
theorem dX5_holds_115 : decode cX5_holds 115 = .ok (.iaload, 1) := kt_o46 (j := 51) sX5_holds_64 rfl
theorem dX5_holds_116 : decode cX5_holds 116 = .ok (.iload 6, 2) := kt_o21 (j := 52) sX5_holds_64 rfl
theorem dX5_holds_118 : decode cX5_holds 118 = .ok (.invokevirtual 43, 3) := kt_o182 (j := 54) sX5_holds_64 rfl rfl
theorem dX5_holds_121 : decode cX5_holds 121 = .ok (.istore 7, 2) := kt_o54 (j := 57) sX5_holds_64 rfl
theorem dX5_holds_123 : decode cX5_holds 123 = .ok (.iload 7, 2) := kt_o21 (j := 59) sX5_holds_64 rfl
theorem dX5_holds_125 : decode cX5_holds 125 = .ok (.iconst (-1), 1) := kt_o2 (j := 61) sX5_holds_64 rfl
theorem dX5_holds_126 : decode cX5_holds 126 = .ok (.if_icmp .eq 61, 3) := kt_o159 (j := 62) sX5_holds_64 rfl (by decide +kernel)
theorem sX5_holds_129 : kt_sg cX5_holds 129 [42, 180, 0, 15, 21, 7, 51, 154, 0, 51, 42, 43, 21, 7, 28, 182, 0, 49, 153, 0, 6, 167, 0, 37, 42, 180, 0, 19, 21, 7, 182, 0, 35, 153, 0, 5, 3, 172, 42, 180, 0, 15, 21, 7, 4, 84, 42, 180, 0, 9, 21, 4, 21, 7, 79, 132, 4, 1, 132, 6, 1, 167, 255, 162] = true := by decide +kernel
theorem dX5_holds_129 : decode cX5_holds 129 = .ok (.aload_n 0, 1) := kt_o42 (j := 0) sX5_holds_129 rfl
theorem dX5_holds_130 : decode cX5_holds 130 = .ok (.getfield 15, 3) := kt_o180 (j := 1) sX5_holds_129 rfl rfl
theorem dX5_holds_133 : decode cX5_holds 133 = .ok (.iload 7, 2) := kt_o21 (j := 4) sX5_holds_129 rfl
theorem dX5_holds_135 : decode cX5_holds 135 = .ok (.baload, 1) := kt_o51 (j := 6) sX5_holds_129 rfl
theorem dX5_holds_136 : decode cX5_holds 136 = .ok (.ifCond .ne 51, 3) := kt_o154 (j := 7) sX5_holds_129 rfl (by decide +kernel)
theorem dX5_holds_139 : decode cX5_holds 139 = .ok (.aload_n 0, 1) := kt_o42 (j := 10) sX5_holds_129 rfl
theorem dX5_holds_140 : decode cX5_holds 140 = .ok (.aload_n 1, 1) := kt_o43 (j := 11) sX5_holds_129 rfl
theorem dX5_holds_141 : decode cX5_holds 141 = .ok (.iload 7, 2) := kt_o21 (j := 12) sX5_holds_129 rfl
theorem dX5_holds_143 : decode cX5_holds 143 = .ok (.iload_n 2, 1) := kt_o28 (j := 14) sX5_holds_129 rfl
theorem dX5_holds_144 : decode cX5_holds 144 = .ok (.invokevirtual 49, 3) := kt_o182 (j := 15) sX5_holds_129 rfl rfl
theorem dX5_holds_147 : decode cX5_holds 147 = .ok (.ifCond .eq 6, 3) := kt_o153 (j := 18) sX5_holds_129 rfl (by decide +kernel)
theorem dX5_holds_150 : decode cX5_holds 150 = .ok (.goto 37, 3) := kt_o167 (j := 21) sX5_holds_129 rfl (by decide +kernel)
theorem dX5_holds_153 : decode cX5_holds 153 = .ok (.aload_n 0, 1) := kt_o42 (j := 24) sX5_holds_129 rfl
theorem dX5_holds_154 : decode cX5_holds 154 = .ok (.getfield 19, 3) := kt_o180 (j := 25) sX5_holds_129 rfl rfl
theorem dX5_holds_157 : decode cX5_holds 157 = .ok (.iload 7, 2) := kt_o21 (j := 28) sX5_holds_129 rfl
theorem dX5_holds_159 : decode cX5_holds 159 = .ok (.invokevirtual 35, 3) := kt_o182 (j := 30) sX5_holds_129 rfl rfl
theorem dX5_holds_162 : decode cX5_holds 162 = .ok (.ifCond .eq 5, 3) := kt_o153 (j := 33) sX5_holds_129 rfl (by decide +kernel)
theorem dX5_holds_165 : decode cX5_holds 165 = .ok (.iconst 0, 1) := kt_o3 (j := 36) sX5_holds_129 rfl
theorem dX5_holds_166 : decode cX5_holds 166 = .ok (.ireturn, 1) := kt_o172 (j := 37) sX5_holds_129 rfl
theorem dX5_holds_167 : decode cX5_holds 167 = .ok (.aload_n 0, 1) := kt_o42 (j := 38) sX5_holds_129 rfl
theorem dX5_holds_168 : decode cX5_holds 168 = .ok (.getfield 15, 3) := kt_o180 (j := 39) sX5_holds_129 rfl rfl
theorem dX5_holds_171 : decode cX5_holds 171 = .ok (.iload 7, 2) := kt_o21 (j := 42) sX5_holds_129 rfl
theorem dX5_holds_173 : decode cX5_holds 173 = .ok (.iconst 1, 1) := kt_o4 (j := 44) sX5_holds_129 rfl
theorem dX5_holds_174 : decode cX5_holds 174 = .ok (.bastore, 1) := kt_o84 (j := 45) sX5_holds_129 rfl
theorem dX5_holds_175 : decode cX5_holds 175 = .ok (.aload_n 0, 1) := kt_o42 (j := 46) sX5_holds_129 rfl
theorem dX5_holds_176 : decode cX5_holds 176 = .ok (.getfield 9, 3) := kt_o180 (j := 47) sX5_holds_129 rfl rfl
theorem dX5_holds_179 : decode cX5_holds 179 = .ok (.iload 4, 2) := kt_o21 (j := 50) sX5_holds_129 rfl
theorem dX5_holds_181 : decode cX5_holds 181 = .ok (.iload 7, 2) := kt_o21 (j := 52) sX5_holds_129 rfl
theorem dX5_holds_183 : decode cX5_holds 183 = .ok (.iastore, 1) := kt_o79 (j := 54) sX5_holds_129 rfl
theorem dX5_holds_184 : decode cX5_holds 184 = .ok (.iinc 4 1, 3) := kt_o132 (j := 55) sX5_holds_129 rfl (by decide +kernel)
theorem dX5_holds_187 : decode cX5_holds 187 = .ok (.iinc 6 1, 3) := kt_o132 (j := 58) sX5_holds_129 rfl (by decide +kernel)
theorem dX5_holds_190 : decode cX5_holds 190 = .ok (.goto (-94), 3) := kt_o167 (j := 61) sX5_holds_129 rfl (by decide +kernel)
theorem sX5_holds_193 : kt_sg cX5_holds 193 [132, 5, 1, 167, 255, 139, 4, 172] = true := by decide +kernel
theorem dX5_holds_193 : decode cX5_holds 193 = .ok (.iinc 5 1, 3) := kt_o132 (j := 0) sX5_holds_193 rfl (by decide +kernel)
theorem dX5_holds_196 : decode cX5_holds 196 = .ok (.goto (-117), 3) := kt_o167 (j := 3) sX5_holds_193 rfl (by decide +kernel)
theorem dX5_holds_199 : decode cX5_holds 199 = .ok (.iconst 1, 1) := kt_o4 (j := 6) sX5_holds_193 rfl
theorem dX5_holds_200 : decode cX5_holds 200 = .ok (.ireturn, 1) := kt_o172 (j := 7) sX5_holds_193 rfl
theorem kt_wp_X5_isBarred__X50 {w : Cond} (h : w ∈ wsX50) : w ∈ wsX5_isBarred := List.mem_cons_of_mem _ (List.mem_append_left _ (List.mem_append_left _ (List.mem_append_right _ (h))))
theorem kt_wp_X5_isBarred__X60 {w : Cond} (h : w ∈ wsX60) : w ∈ wsX5_isBarred := List.mem_cons_of_mem _ (List.mem_append_left _ (List.mem_append_right _ (h)))
theorem kt_wp_X5_isBarred__X80 {w : Cond} (h : w ∈ wsX80) : w ∈ wsX5_isBarred := List.mem_cons_of_mem _ (List.mem_append_right _ (h))
set_option maxRecDepth 20000 in
theorem ggX5_isBarred_X8_holderOf : GoodIn wsX5_isBarred wsX8_holderOf := goodIn_sub (kt_wf1 (List.mem_cons_of_mem _ (List.mem_append_left _ (List.mem_append_left _ (List.mem_append_left _ (List.mem_cons_of_mem _ (List.mem_cons_of_mem _ (List.mem_cons_of_mem _ (List.mem_cons_of_mem _ (List.mem_cons_of_mem _ (List.Mem.head _)))))))))) (kt_wfa (kt_wf1 (List.mem_cons_of_mem _ (List.mem_append_left _ (List.mem_append_left _ (List.mem_append_left _ (List.mem_cons_of_mem _ (List.mem_cons_of_mem _ (List.mem_cons_of_mem _ (List.mem_cons_of_mem _ (List.mem_cons_of_mem _ (List.mem_cons_of_mem _ (List.Mem.head _))))))))))) kt_wf0) (fun _ h => kt_wp_X5_isBarred__X80 h))) kt_wg_X8_holderOf
set_option maxRecDepth 20000 in
theorem gX5_isBarred_X8_holderOf : GoodIn wsX5_isBarred (wsV RX5 53 RX8 yX8_holderOf wsX8_holderOf) := goodIn_app (a := [.methodLink RX5 53 yX8_holderOf, .instanceMethod yX8_holderOf, .selects RX8 yX8_holderOf yX8_holderOf, .initialized RX8]) (goodIn_sub (kt_wf1 (List.mem_cons_of_mem _ (List.mem_append_left _ (List.mem_append_left _ (List.mem_append_left _ (List.mem_cons_of_mem _ (List.Mem.head _)))))) (kt_wf1 (List.mem_cons_of_mem _ (List.mem_append_left _ (List.mem_append_left _ (List.mem_append_left _ (List.mem_cons_of_mem _ (List.mem_cons_of_mem _ (List.Mem.head _))))))) (kt_wf1 (List.mem_cons_of_mem _ (List.mem_append_left _ (List.mem_append_left _ (List.mem_append_left _ (List.mem_cons_of_mem _ (List.mem_cons_of_mem _ (List.mem_cons_of_mem _ (List.Mem.head _)))))))) (kt_wf1 (List.mem_cons_of_mem _ (List.mem_append_left _ (List.mem_append_left _ (List.mem_append_left _ (List.mem_cons_of_mem _ (List.mem_cons_of_mem _ (List.mem_cons_of_mem _ (List.mem_cons_of_mem _ (List.Mem.head _))))))))) kt_wf0)))) (by decide +kernel)) ggX5_isBarred_X8_holderOf
set_option maxRecDepth 20000 in
theorem ggX5_isBarred_X6_isPiece : GoodIn wsX5_isBarred wsX6_isPiece := goodIn_sub (kt_wf1 (List.mem_cons_of_mem _ (List.mem_append_left _ (List.mem_append_left _ (List.mem_append_left _ (List.mem_cons_of_mem _ (List.mem_cons_of_mem _ (List.mem_cons_of_mem _ (List.mem_cons_of_mem _ (List.mem_cons_of_mem _ (List.mem_cons_of_mem _ (List.mem_cons_of_mem _ (List.mem_cons_of_mem _ (List.mem_cons_of_mem _ (List.mem_cons_of_mem _ (List.mem_cons_of_mem _ (List.Mem.head _)))))))))))))))) (kt_wfa (kt_wf1 (List.mem_cons_of_mem _ (List.mem_append_left _ (List.mem_append_left _ (List.mem_append_left _ (List.mem_cons_of_mem _ (List.mem_cons_of_mem _ (List.mem_cons_of_mem _ (List.mem_cons_of_mem _ (List.mem_cons_of_mem _ (List.mem_cons_of_mem _ (List.mem_cons_of_mem _ (List.mem_cons_of_mem _ (List.mem_cons_of_mem _ (List.mem_cons_of_mem _ (List.mem_cons_of_mem _ (List.mem_cons_of_mem _ (List.Mem.head _))))))))))))))))) kt_wf0) (fun _ h => kt_wp_X5_isBarred__X60 h))) kt_wg_X6_isPiece
set_option maxRecDepth 20000 in
theorem gX5_isBarred_X6_isPiece : GoodIn wsX5_isBarred (wsV RX5 56 RX6 yX6_isPiece wsX6_isPiece) := goodIn_app (a := [.methodLink RX5 56 yX6_isPiece, .instanceMethod yX6_isPiece, .selects RX6 yX6_isPiece yX6_isPiece, .initialized RX6]) (goodIn_sub (kt_wf1 (List.mem_cons_of_mem _ (List.mem_append_left _ (List.mem_append_left _ (List.mem_append_left _ (List.mem_cons_of_mem _ (List.mem_cons_of_mem _ (List.mem_cons_of_mem _ (List.mem_cons_of_mem _ (List.mem_cons_of_mem _ (List.mem_cons_of_mem _ (List.mem_cons_of_mem _ (List.Mem.head _)))))))))))) (kt_wf1 (List.mem_cons_of_mem _ (List.mem_append_left _ (List.mem_append_left _ (List.mem_append_left _ (List.mem_cons_of_mem _ (List.mem_cons_of_mem _ (List.mem_cons_of_mem _ (List.mem_cons_of_mem _ (List.mem_cons_of_mem _ (List.mem_cons_of_mem _ (List.mem_cons_of_mem _ (List.mem_cons_of_mem _ (List.Mem.head _))))))))))))) (kt_wf1 (List.mem_cons_of_mem _ (List.mem_append_left _ (List.mem_append_left _ (List.mem_append_left _ (List.mem_cons_of_mem _ (List.mem_cons_of_mem _ (List.mem_cons_of_mem _ (List.mem_cons_of_mem _ (List.mem_cons_of_mem _ (List.mem_cons_of_mem _ (List.mem_cons_of_mem _ (List.mem_cons_of_mem _ (List.mem_cons_of_mem _ (List.Mem.head _)))))))))))))) (kt_wf1 (List.mem_cons_of_mem _ (List.mem_append_left _ (List.mem_append_left _ (List.mem_append_left _ (List.mem_cons_of_mem _ (List.mem_cons_of_mem _ (List.mem_cons_of_mem _ (List.mem_cons_of_mem _ (List.mem_cons_of_mem _ (List.mem_cons_of_mem _ (List.mem_cons_of_mem _ (List.mem_cons_of_mem _ (List.mem_cons_of_mem _ (List.mem_cons_of_mem _ (List.Mem.head _))))))))))))))) kt_wf0)))) (by decide +kernel)) ggX5_isBarred_X6_isPiece
theorem sX5_isBarred_0 : kt_sg cX5_isBarred 0 [43, 28, 182, 0, 53, 54, 4, 42, 180, 0, 19, 21, 4, 182, 0, 56, 153, 0, 27, 21, 4, 29, 159, 0, 21, 42, 180, 0, 19, 180, 0, 59, 21, 4, 46, 4, 160, 0, 7, 4, 167, 0, 4, 3, 172] = true := by decide +kernel
theorem dX5_isBarred_0 : decode cX5_isBarred 0 = .ok (.aload_n 1, 1) := kt_o43 (j := 0) sX5_isBarred_0 rfl
theorem dX5_isBarred_1 : decode cX5_isBarred 1 = .ok (.iload_n 2, 1) := kt_o28 (j := 1) sX5_isBarred_0 rfl
theorem dX5_isBarred_2 : decode cX5_isBarred 2 = .ok (.invokevirtual 53, 3) := kt_o182 (j := 2) sX5_isBarred_0 rfl rfl
theorem dX5_isBarred_5 : decode cX5_isBarred 5 = .ok (.istore 4, 2) := kt_o54 (j := 5) sX5_isBarred_0 rfl
theorem dX5_isBarred_7 : decode cX5_isBarred 7 = .ok (.aload_n 0, 1) := kt_o42 (j := 7) sX5_isBarred_0 rfl
theorem dX5_isBarred_8 : decode cX5_isBarred 8 = .ok (.getfield 19, 3) := kt_o180 (j := 8) sX5_isBarred_0 rfl rfl
theorem dX5_isBarred_11 : decode cX5_isBarred 11 = .ok (.iload 4, 2) := kt_o21 (j := 11) sX5_isBarred_0 rfl
theorem dX5_isBarred_13 : decode cX5_isBarred 13 = .ok (.invokevirtual 56, 3) := kt_o182 (j := 13) sX5_isBarred_0 rfl rfl
theorem dX5_isBarred_16 : decode cX5_isBarred 16 = .ok (.ifCond .eq 27, 3) := kt_o153 (j := 16) sX5_isBarred_0 rfl (by decide +kernel)
theorem dX5_isBarred_19 : decode cX5_isBarred 19 = .ok (.iload 4, 2) := kt_o21 (j := 19) sX5_isBarred_0 rfl
theorem dX5_isBarred_21 : decode cX5_isBarred 21 = .ok (.iload_n 3, 1) := kt_o29 (j := 21) sX5_isBarred_0 rfl
theorem dX5_isBarred_22 : decode cX5_isBarred 22 = .ok (.if_icmp .eq 21, 3) := kt_o159 (j := 22) sX5_isBarred_0 rfl (by decide +kernel)
theorem dX5_isBarred_25 : decode cX5_isBarred 25 = .ok (.aload_n 0, 1) := kt_o42 (j := 25) sX5_isBarred_0 rfl
theorem dX5_isBarred_26 : decode cX5_isBarred 26 = .ok (.getfield 19, 3) := kt_o180 (j := 26) sX5_isBarred_0 rfl rfl
theorem dX5_isBarred_29 : decode cX5_isBarred 29 = .ok (.getfield 59, 3) := kt_o180 (j := 29) sX5_isBarred_0 rfl rfl
theorem dX5_isBarred_32 : decode cX5_isBarred 32 = .ok (.iload 4, 2) := kt_o21 (j := 32) sX5_isBarred_0 rfl
theorem dX5_isBarred_34 : decode cX5_isBarred 34 = .ok (.iaload, 1) := kt_o46 (j := 34) sX5_isBarred_0 rfl
theorem dX5_isBarred_35 : decode cX5_isBarred 35 = .ok (.iconst 1, 1) := kt_o4 (j := 35) sX5_isBarred_0 rfl
theorem dX5_isBarred_36 : decode cX5_isBarred 36 = .ok (.if_icmp .ne 7, 3) := kt_o160 (j := 36) sX5_isBarred_0 rfl (by decide +kernel)
theorem dX5_isBarred_39 : decode cX5_isBarred 39 = .ok (.iconst 1, 1) := kt_o4 (j := 39) sX5_isBarred_0 rfl
theorem dX5_isBarred_40 : decode cX5_isBarred 40 = .ok (.goto 4, 3) := kt_o167 (j := 40) sX5_isBarred_0 rfl (by decide +kernel)
theorem dX5_isBarred_43 : decode cX5_isBarred 43 = .ok (.iconst 0, 1) := kt_o3 (j := 43) sX5_isBarred_0 rfl
theorem dX5_isBarred_44 : decode cX5_isBarred 44 = .ok (.ireturn, 1) := kt_o172 (j := 44) sX5_isBarred_0 rfl
theorem kt_wp_X6_init__X00 {w : Cond} (h : w ∈ wsX00) : w ∈ wsX6_init := List.mem_cons_of_mem _ (List.mem_append_left _ (List.mem_append_right _ (h)))
theorem kt_wp_X6_init__X60 {w : Cond} (h : w ∈ wsX60) : w ∈ wsX6_init := List.mem_cons_of_mem _ (List.mem_append_right _ (h))
set_option maxRecDepth 20000 in
theorem kt_wg_X0_init : wsX0_init.all goodWord = true := by decide +kernel
set_option maxRecDepth 20000 in
theorem ggX6_init_X0_init : GoodIn wsX6_init wsX0_init := goodIn_sub (kt_wf1 (List.mem_cons_of_mem _ (List.mem_append_left _ (List.mem_append_left _ (List.mem_cons_of_mem _ (List.mem_cons_of_mem _ (List.mem_cons_of_mem _ (List.mem_cons_of_mem _ (List.mem_cons_of_mem _ (List.mem_cons_of_mem _ (List.mem_cons_of_mem _ (List.mem_cons_of_mem _ (List.mem_cons_of_mem _ (List.mem_cons_of_mem _ (List.mem_cons_of_mem _ (List.mem_cons_of_mem _ (List.mem_cons_of_mem _ (List.mem_cons_of_mem _ (List.mem_cons_of_mem _ (List.mem_cons_of_mem _ (List.Mem.head _)))))))))))))))))))) (kt_wfa (kt_wf1 (List.mem_cons_of_mem _ (List.mem_append_left _ (List.mem_append_left _ (List.mem_cons_of_mem _ (List.mem_cons_of_mem _ (List.mem_cons_of_mem _ (List.mem_cons_of_mem _ (List.mem_cons_of_mem _ (List.mem_cons_of_mem _ (List.mem_cons_of_mem _ (List.mem_cons_of_mem _ (List.mem_cons_of_mem _ (List.mem_cons_of_mem _ (List.mem_cons_of_mem _ (List.mem_cons_of_mem _ (List.mem_cons_of_mem _ (List.mem_cons_of_mem _ (List.mem_cons_of_mem _ (List.mem_cons_of_mem _ (List.mem_cons_of_mem _ (List.Mem.head _))))))))))))))))))))) (kt_wf1 (List.mem_cons_of_mem _ (List.mem_append_left _ (List.mem_append_left _ (List.mem_cons_of_mem _ (List.Mem.head _))))) (kt_wf1 (List.mem_cons_of_mem _ (List.mem_append_left _ (List.mem_append_left _ (List.mem_cons_of_mem _ (List.mem_cons_of_mem _ (List.Mem.head _)))))) (kt_wf1 (List.mem_cons_of_mem _ (List.mem_append_left _ (List.mem_append_left _ (List.mem_cons_of_mem _ (List.mem_cons_of_mem _ (List.mem_cons_of_mem _ (List.mem_cons_of_mem _ (List.mem_cons_of_mem _ (List.mem_cons_of_mem _ (List.mem_cons_of_mem _ (List.Mem.head _))))))))))) (kt_wf1 (List.mem_cons_of_mem _ (List.mem_append_left _ (List.mem_append_left _ (List.mem_cons_of_mem _ (List.mem_cons_of_mem _ (List.mem_cons_of_mem _ (List.mem_cons_of_mem _ (List.mem_cons_of_mem _ (List.mem_cons_of_mem _ (List.mem_cons_of_mem _ (List.mem_cons_of_mem _ (List.mem_cons_of_mem _ (List.mem_cons_of_mem _ (List.mem_cons_of_mem _ (List.mem_cons_of_mem _ (List.mem_cons_of_mem _ (List.mem_cons_of_mem _ (List.mem_cons_of_mem _ (List.mem_cons_of_mem _ (List.mem_cons_of_mem _ (List.mem_cons_of_mem _ (List.Mem.head _)))))))))))))))))))))) (kt_wf1 (List.mem_cons_of_mem _ (List.mem_append_left _ (List.mem_append_left _ (List.mem_cons_of_mem _ (List.mem_cons_of_mem _ (List.mem_cons_of_mem _ (List.mem_cons_of_mem _ (List.mem_cons_of_mem _ (List.mem_cons_of_mem _ (List.mem_cons_of_mem _ (List.mem_cons_of_mem _ (List.mem_cons_of_mem _ (List.mem_cons_of_mem _ (List.Mem.head _)))))))))))))) (kt_wf1 (List.mem_cons_of_mem _ (List.mem_append_left _ (List.mem_append_left _ (List.mem_cons_of_mem _ (List.mem_cons_of_mem _ (List.mem_cons_of_mem _ (List.mem_cons_of_mem _ (List.mem_cons_of_mem _ (List.mem_cons_of_mem _ (List.mem_cons_of_mem _ (List.mem_cons_of_mem _ (List.mem_cons_of_mem _ (List.mem_cons_of_mem _ (List.mem_cons_of_mem _ (List.mem_cons_of_mem _ (List.mem_cons_of_mem _ (List.mem_cons_of_mem _ (List.mem_cons_of_mem _ (List.mem_cons_of_mem _ (List.mem_cons_of_mem _ (List.mem_cons_of_mem _ (List.mem_cons_of_mem _ (List.Mem.head _))))))))))))))))))))))) (kt_wf1 (List.mem_cons_of_mem _ (List.mem_append_left _ (List.mem_append_left _ (List.mem_cons_of_mem _ (List.mem_cons_of_mem _ (List.mem_cons_of_mem _ (List.mem_cons_of_mem _ (List.mem_cons_of_mem _ (List.mem_cons_of_mem _ (List.mem_cons_of_mem _ (List.mem_cons_of_mem _ (List.mem_cons_of_mem _ (List.mem_cons_of_mem _ (List.mem_cons_of_mem _ (List.mem_cons_of_mem _ (List.mem_cons_of_mem _ (List.mem_cons_of_mem _ (List.mem_cons_of_mem _ (List.mem_cons_of_mem _ (List.mem_cons_of_mem _ (List.mem_cons_of_mem _ (List.mem_cons_of_mem _ (List.mem_cons_of_mem _ (List.Mem.head _)))))))))))))))))))))))) kt_wf0)))))))) (fun _ h => kt_wp_X6_init__X00 h))) kt_wg_X0_init
set_option maxRecDepth 20000 in
theorem gX6_init_X0_init_n11 : GoodIn wsX6_init (wsX0_init) := ggX6_init_X0_init
theorem sX6_init_0 : kt_sg cX6_init 0 [42, 183, 0, 3, 42, 187, 0, 9, 89, 183, 0, 11, 181, 0, 12, 42, 16, 40, 188, 10, 181, 0, 18, 42, 16, 40, 188, 10, 181, 0, 22, 42, 16, 40, 188, 4, 181, 0, 25, 42, 2, 181, 0, 29, 42, 7, 188, 10, 181, 0, 33, 42, 43, 181, 0, 36, 177] = true := by decide +kernel
theorem dX6_init_0 : decode cX6_init 0 = .ok (.aload_n 0, 1) := kt_o42 (j := 0) sX6_init_0 rfl
theorem dX6_init_1 : decode cX6_init 1 = .ok (.invokespecial 3, 3) := kt_o183 (j := 1) sX6_init_0 rfl rfl
theorem dX6_init_4 : decode cX6_init 4 = .ok (.aload_n 0, 1) := kt_o42 (j := 4) sX6_init_0 rfl
theorem dX6_init_5 : decode cX6_init 5 = .ok (.new 9, 3) := kt_o187 (j := 5) sX6_init_0 rfl rfl
theorem dX6_init_8 : decode cX6_init 8 = .ok (.dup, 1) := kt_o89 (j := 8) sX6_init_0 rfl
theorem dX6_init_9 : decode cX6_init 9 = .ok (.invokespecial 11, 3) := kt_o183 (j := 9) sX6_init_0 rfl rfl
theorem dX6_init_12 : decode cX6_init 12 = .ok (.putfield 12, 3) := kt_o181 (j := 12) sX6_init_0 rfl rfl
theorem dX6_init_15 : decode cX6_init 15 = .ok (.aload_n 0, 1) := kt_o42 (j := 15) sX6_init_0 rfl
theorem dX6_init_16 : decode cX6_init 16 = .ok (.bipush 40, 2) := kt_o16 (j := 16) sX6_init_0 rfl (by decide +kernel)
theorem dX6_init_18 : decode cX6_init 18 = .ok (.newarray .int, 2) := kt_o188_10 (j := 18) sX6_init_0 rfl
theorem dX6_init_20 : decode cX6_init 20 = .ok (.putfield 18, 3) := kt_o181 (j := 20) sX6_init_0 rfl rfl
theorem dX6_init_23 : decode cX6_init 23 = .ok (.aload_n 0, 1) := kt_o42 (j := 23) sX6_init_0 rfl
theorem dX6_init_24 : decode cX6_init 24 = .ok (.bipush 40, 2) := kt_o16 (j := 24) sX6_init_0 rfl (by decide +kernel)
theorem dX6_init_26 : decode cX6_init 26 = .ok (.newarray .int, 2) := kt_o188_10 (j := 26) sX6_init_0 rfl
theorem dX6_init_28 : decode cX6_init 28 = .ok (.putfield 22, 3) := kt_o181 (j := 28) sX6_init_0 rfl rfl
theorem dX6_init_31 : decode cX6_init 31 = .ok (.aload_n 0, 1) := kt_o42 (j := 31) sX6_init_0 rfl
theorem dX6_init_32 : decode cX6_init 32 = .ok (.bipush 40, 2) := kt_o16 (j := 32) sX6_init_0 rfl (by decide +kernel)
theorem dX6_init_34 : decode cX6_init 34 = .ok (.newarray .boolean, 2) := kt_o188_4 (j := 34) sX6_init_0 rfl
theorem dX6_init_36 : decode cX6_init 36 = .ok (.putfield 25, 3) := kt_o181 (j := 36) sX6_init_0 rfl rfl
theorem dX6_init_39 : decode cX6_init 39 = .ok (.aload_n 0, 1) := kt_o42 (j := 39) sX6_init_0 rfl
theorem dX6_init_40 : decode cX6_init 40 = .ok (.iconst (-1), 1) := kt_o2 (j := 40) sX6_init_0 rfl
theorem dX6_init_41 : decode cX6_init 41 = .ok (.putfield 29, 3) := kt_o181 (j := 41) sX6_init_0 rfl rfl
theorem dX6_init_44 : decode cX6_init 44 = .ok (.aload_n 0, 1) := kt_o42 (j := 44) sX6_init_0 rfl
theorem dX6_init_45 : decode cX6_init 45 = .ok (.iconst 4, 1) := kt_o7 (j := 45) sX6_init_0 rfl
theorem dX6_init_46 : decode cX6_init 46 = .ok (.newarray .int, 2) := kt_o188_10 (j := 46) sX6_init_0 rfl
theorem dX6_init_48 : decode cX6_init 48 = .ok (.putfield 33, 3) := kt_o181 (j := 48) sX6_init_0 rfl rfl
theorem dX6_init_51 : decode cX6_init 51 = .ok (.aload_n 0, 1) := kt_o42 (j := 51) sX6_init_0 rfl
theorem dX6_init_52 : decode cX6_init 52 = .ok (.aload_n 1, 1) := kt_o43 (j := 52) sX6_init_0 rfl
theorem dX6_init_53 : decode cX6_init 53 = .ok (.putfield 36, 3) := kt_o181 (j := 53) sX6_init_0 rfl rfl
theorem dX6_init_56 : decode cX6_init 56 = .ok (.return_, 1) := kt_o177 (j := 56) sX6_init_0 rfl
theorem sX6_enlist_0 : kt_sg cX6_enlist 0 [42, 180, 0, 40, 16, 40, 161, 0, 4, 177, 27, 5, 160, 0, 11, 42, 42, 180, 0, 40, 181, 0, 29, 42, 180, 0, 18, 42, 180, 0, 40, 27, 79, 42, 180, 0, 22, 42, 180, 0, 40, 27, 5, 159, 0, 8, 27, 4, 160, 0, 7, 3, 167, 0, 4, 4, 79, 42, 180, 0, 25, 42, 180, 0, 40] = true := by decide +kernel
theorem dX6_enlist_0 : decode cX6_enlist 0 = .ok (.aload_n 0, 1) := kt_o42 (j := 0) sX6_enlist_0 rfl
theorem dX6_enlist_1 : decode cX6_enlist 1 = .ok (.getfield 40, 3) := kt_o180 (j := 1) sX6_enlist_0 rfl rfl
theorem dX6_enlist_4 : decode cX6_enlist 4 = .ok (.bipush 40, 2) := kt_o16 (j := 4) sX6_enlist_0 rfl (by decide +kernel)
theorem dX6_enlist_6 : decode cX6_enlist 6 = .ok (.if_icmp .lt 4, 3) := kt_o161 (j := 6) sX6_enlist_0 rfl (by decide +kernel)
theorem dX6_enlist_9 : decode cX6_enlist 9 = .ok (.return_, 1) := kt_o177 (j := 9) sX6_enlist_0 rfl
theorem dX6_enlist_10 : decode cX6_enlist 10 = .ok (.iload_n 1, 1) := kt_o27 (j := 10) sX6_enlist_0 rfl
theorem dX6_enlist_11 : decode cX6_enlist 11 = .ok (.iconst 2, 1) := kt_o5 (j := 11) sX6_enlist_0 rfl
theorem dX6_enlist_12 : decode cX6_enlist 12 = .ok (.if_icmp .ne 11, 3) := kt_o160 (j := 12) sX6_enlist_0 rfl (by decide +kernel)
theorem dX6_enlist_15 : decode cX6_enlist 15 = .ok (.aload_n 0, 1) := kt_o42 (j := 15) sX6_enlist_0 rfl
theorem dX6_enlist_16 : decode cX6_enlist 16 = .ok (.aload_n 0, 1) := kt_o42 (j := 16) sX6_enlist_0 rfl
theorem dX6_enlist_17 : decode cX6_enlist 17 = .ok (.getfield 40, 3) := kt_o180 (j := 17) sX6_enlist_0 rfl rfl
theorem dX6_enlist_20 : decode cX6_enlist 20 = .ok (.putfield 29, 3) := kt_o181 (j := 20) sX6_enlist_0 rfl rfl
theorem dX6_enlist_23 : decode cX6_enlist 23 = .ok (.aload_n 0, 1) := kt_o42 (j := 23) sX6_enlist_0 rfl
theorem dX6_enlist_24 : decode cX6_enlist 24 = .ok (.getfield 18, 3) := kt_o180 (j := 24) sX6_enlist_0 rfl rfl
theorem dX6_enlist_27 : decode cX6_enlist 27 = .ok (.aload_n 0, 1) := kt_o42 (j := 27) sX6_enlist_0 rfl
theorem dX6_enlist_28 : decode cX6_enlist 28 = .ok (.getfield 40, 3) := kt_o180 (j := 28) sX6_enlist_0 rfl rfl
theorem dX6_enlist_31 : decode cX6_enlist 31 = .ok (.iload_n 1, 1) := kt_o27 (j := 31) sX6_enlist_0 rfl
theorem dX6_enlist_32 : decode cX6_enlist 32 = .ok (.iastore, 1) := kt_o79 (j := 32) sX6_enlist_0 rfl
theorem dX6_enlist_33 : decode cX6_enlist 33 = .ok (.aload_n 0, 1) := kt_o42 (j := 33) sX6_enlist_0 rfl
theorem dX6_enlist_34 : decode cX6_enlist 34 = .ok (.getfield 22, 3) := kt_o180 (j := 34) sX6_enlist_0 rfl rfl
theorem dX6_enlist_37 : decode cX6_enlist 37 = .ok (.aload_n 0, 1) := kt_o42 (j := 37) sX6_enlist_0 rfl
theorem dX6_enlist_38 : decode cX6_enlist 38 = .ok (.getfield 40, 3) := kt_o180 (j := 38) sX6_enlist_0 rfl rfl
theorem dX6_enlist_41 : decode cX6_enlist 41 = .ok (.iload_n 1, 1) := kt_o27 (j := 41) sX6_enlist_0 rfl
theorem dX6_enlist_42 : decode cX6_enlist 42 = .ok (.iconst 2, 1) := kt_o5 (j := 42) sX6_enlist_0 rfl
theorem dX6_enlist_43 : decode cX6_enlist 43 = .ok (.if_icmp .eq 8, 3) := kt_o159 (j := 43) sX6_enlist_0 rfl (by decide +kernel)
theorem dX6_enlist_46 : decode cX6_enlist 46 = .ok (.iload_n 1, 1) := kt_o27 (j := 46) sX6_enlist_0 rfl
theorem dX6_enlist_47 : decode cX6_enlist 47 = .ok (.iconst 1, 1) := kt_o4 (j := 47) sX6_enlist_0 rfl
theorem dX6_enlist_48 : decode cX6_enlist 48 = .ok (.if_icmp .ne 7, 3) := kt_o160 (j := 48) sX6_enlist_0 rfl (by decide +kernel)
theorem dX6_enlist_51 : decode cX6_enlist 51 = .ok (.iconst 0, 1) := kt_o3 (j := 51) sX6_enlist_0 rfl
theorem dX6_enlist_52 : decode cX6_enlist 52 = .ok (.goto 4, 3) := kt_o167 (j := 52) sX6_enlist_0 rfl (by decide +kernel)
theorem dX6_enlist_55 : decode cX6_enlist 55 = .ok (.iconst 1, 1) := kt_o4 (j := 55) sX6_enlist_0 rfl
theorem dX6_enlist_56 : decode cX6_enlist 56 = .ok (.iastore, 1) := kt_o79 (j := 56) sX6_enlist_0 rfl
theorem dX6_enlist_57 : decode cX6_enlist 57 = .ok (.aload_n 0, 1) := kt_o42 (j := 57) sX6_enlist_0 rfl
theorem dX6_enlist_58 : decode cX6_enlist 58 = .ok (.getfield 25, 3) := kt_o180 (j := 58) sX6_enlist_0 rfl rfl
theorem dX6_enlist_61 : decode cX6_enlist 61 = .ok (.aload_n 0, 1) := kt_o42 (j := 61) sX6_enlist_0 rfl
theorem dX6_enlist_62 : decode cX6_enlist 62 = .ok (.getfield 40, 3) := kt_o180 (j := 62) sX6_enlist_0 rfl rfl
theorem sX6_enlist_65 : kt_sg cX6_enlist 65 [27, 5, 160, 0, 13, 42, 180, 0, 36, 180, 0, 43, 153, 0, 7, 4, 167, 0, 4, 3, 84, 42, 89, 180, 0, 40, 4, 96, 181, 0, 40, 177] = true := by decide +kernel
theorem dX6_enlist_65 : decode cX6_enlist 65 = .ok (.iload_n 1, 1) := kt_o27 (j := 0) sX6_enlist_65 rfl
theorem dX6_enlist_66 : decode cX6_enlist 66 = .ok (.iconst 2, 1) := kt_o5 (j := 1) sX6_enlist_65 rfl
theorem dX6_enlist_67 : decode cX6_enlist 67 = .ok (.if_icmp .ne 13, 3) := kt_o160 (j := 2) sX6_enlist_65 rfl (by decide +kernel)
theorem dX6_enlist_70 : decode cX6_enlist 70 = .ok (.aload_n 0, 1) := kt_o42 (j := 5) sX6_enlist_65 rfl
theorem dX6_enlist_71 : decode cX6_enlist 71 = .ok (.getfield 36, 3) := kt_o180 (j := 6) sX6_enlist_65 rfl rfl
theorem dX6_enlist_74 : decode cX6_enlist 74 = .ok (.getfield 43, 3) := kt_o180 (j := 9) sX6_enlist_65 rfl rfl
theorem dX6_enlist_77 : decode cX6_enlist 77 = .ok (.ifCond .eq 7, 3) := kt_o153 (j := 12) sX6_enlist_65 rfl (by decide +kernel)
theorem dX6_enlist_80 : decode cX6_enlist 80 = .ok (.iconst 1, 1) := kt_o4 (j := 15) sX6_enlist_65 rfl
theorem dX6_enlist_81 : decode cX6_enlist 81 = .ok (.goto 4, 3) := kt_o167 (j := 16) sX6_enlist_65 rfl (by decide +kernel)
theorem dX6_enlist_84 : decode cX6_enlist 84 = .ok (.iconst 0, 1) := kt_o3 (j := 19) sX6_enlist_65 rfl
theorem dX6_enlist_85 : decode cX6_enlist 85 = .ok (.bastore, 1) := kt_o84 (j := 20) sX6_enlist_65 rfl
theorem dX6_enlist_86 : decode cX6_enlist 86 = .ok (.aload_n 0, 1) := kt_o42 (j := 21) sX6_enlist_65 rfl
theorem dX6_enlist_87 : decode cX6_enlist 87 = .ok (.dup, 1) := kt_o89 (j := 22) sX6_enlist_65 rfl
theorem dX6_enlist_88 : decode cX6_enlist 88 = .ok (.getfield 40, 3) := kt_o180 (j := 23) sX6_enlist_65 rfl rfl
theorem dX6_enlist_91 : decode cX6_enlist 91 = .ok (.iconst 1, 1) := kt_o4 (j := 26) sX6_enlist_65 rfl
theorem dX6_enlist_92 : decode cX6_enlist 92 = .ok (.iadd, 1) := kt_o96 (j := 27) sX6_enlist_65 rfl
theorem dX6_enlist_93 : decode cX6_enlist 93 = .ok (.putfield 40, 3) := kt_o181 (j := 28) sX6_enlist_65 rfl rfl
theorem dX6_enlist_96 : decode cX6_enlist 96 = .ok (.return_, 1) := kt_o177 (j := 31) sX6_enlist_65 rfl
theorem sX6_dismiss_0 : kt_sg cX6_dismiss 0 [42, 3, 181, 0, 40, 42, 2, 181, 0, 29, 177] = true := by decide +kernel
theorem dX6_dismiss_0 : decode cX6_dismiss 0 = .ok (.aload_n 0, 1) := kt_o42 (j := 0) sX6_dismiss_0 rfl
theorem dX6_dismiss_1 : decode cX6_dismiss 1 = .ok (.iconst 0, 1) := kt_o3 (j := 1) sX6_dismiss_0 rfl
theorem dX6_dismiss_2 : decode cX6_dismiss 2 = .ok (.putfield 40, 3) := kt_o181 (j := 2) sX6_dismiss_0 rfl rfl
theorem dX6_dismiss_5 : decode cX6_dismiss 5 = .ok (.aload_n 0, 1) := kt_o42 (j := 5) sX6_dismiss_0 rfl
theorem dX6_dismiss_6 : decode cX6_dismiss 6 = .ok (.iconst (-1), 1) := kt_o2 (j := 6) sX6_dismiss_0 rfl
theorem dX6_dismiss_7 : decode cX6_dismiss 7 = .ok (.putfield 29, 3) := kt_o181 (j := 7) sX6_dismiss_0 rfl rfl
theorem dX6_dismiss_10 : decode cX6_dismiss 10 = .ok (.return_, 1) := kt_o177 (j := 10) sX6_dismiss_0 rfl
theorem sX6_isPiece_0 : kt_sg cX6_isPiece 0 [27, 155, 0, 15, 27, 42, 180, 0, 40, 162, 0, 7, 4, 167, 0, 4, 3, 172] = true := by decide +kernel
theorem dX6_isPiece_0 : decode cX6_isPiece 0 = .ok (.iload_n 1, 1) := kt_o27 (j := 0) sX6_isPiece_0 rfl
theorem dX6_isPiece_1 : decode cX6_isPiece 1 = .ok (.ifCond .lt 15, 3) := kt_o155 (j := 1) sX6_isPiece_0 rfl (by decide +kernel)
theorem dX6_isPiece_4 : decode cX6_isPiece 4 = .ok (.iload_n 1, 1) := kt_o27 (j := 4) sX6_isPiece_0 rfl
theorem dX6_isPiece_5 : decode cX6_isPiece 5 = .ok (.aload_n 0, 1) := kt_o42 (j := 5) sX6_isPiece_0 rfl
theorem dX6_isPiece_6 : decode cX6_isPiece 6 = .ok (.getfield 40, 3) := kt_o180 (j := 6) sX6_isPiece_0 rfl rfl
theorem dX6_isPiece_9 : decode cX6_isPiece 9 = .ok (.if_icmp .ge 7, 3) := kt_o162 (j := 9) sX6_isPiece_0 rfl (by decide +kernel)
theorem dX6_isPiece_12 : decode cX6_isPiece 12 = .ok (.iconst 1, 1) := kt_o4 (j := 12) sX6_isPiece_0 rfl
theorem dX6_isPiece_13 : decode cX6_isPiece 13 = .ok (.goto 4, 3) := kt_o167 (j := 13) sX6_isPiece_0 rfl (by decide +kernel)
theorem dX6_isPiece_16 : decode cX6_isPiece 16 = .ok (.iconst 0, 1) := kt_o3 (j := 16) sX6_isPiece_0 rfl
theorem dX6_isPiece_17 : decode cX6_isPiece 17 = .ok (.ireturn, 1) := kt_o172 (j := 17) sX6_isPiece_0 rfl
theorem sX6_bears_0 : kt_sg cX6_bears 0 [28, 42, 180, 0, 29, 159, 0, 30, 27, 155, 0, 30, 27, 42, 180, 0, 12, 180, 0, 49, 162, 0, 19, 42, 180, 0, 12, 180, 0, 52, 27, 46, 154, 0, 7, 4, 167, 0, 4, 3, 172] = true := by decide +kernel
theorem dX6_bears_0 : decode cX6_bears 0 = .ok (.iload_n 2, 1) := kt_o28 (j := 0) sX6_bears_0 rfl
theorem dX6_bears_1 : decode cX6_bears 1 = .ok (.aload_n 0, 1) := kt_o42 (j := 1) sX6_bears_0 rfl
theorem dX6_bears_2 : decode cX6_bears 2 = .ok (.getfield 29, 3) := kt_o180 (j := 2) sX6_bears_0 rfl rfl
theorem dX6_bears_5 : decode cX6_bears 5 = .ok (.if_icmp .eq 30, 3) := kt_o159 (j := 5) sX6_bears_0 rfl (by decide +kernel)
theorem dX6_bears_8 : decode cX6_bears 8 = .ok (.iload_n 1, 1) := kt_o27 (j := 8) sX6_bears_0 rfl
theorem dX6_bears_9 : decode cX6_bears 9 = .ok (.ifCond .lt 30, 3) := kt_o155 (j := 9) sX6_bears_0 rfl (by decide +kernel)
theorem dX6_bears_12 : decode cX6_bears 12 = .ok (.iload_n 1, 1) := kt_o27 (j := 12) sX6_bears_0 rfl
theorem dX6_bears_13 : decode cX6_bears 13 = .ok (.aload_n 0, 1) := kt_o42 (j := 13) sX6_bears_0 rfl
theorem dX6_bears_14 : decode cX6_bears 14 = .ok (.getfield 12, 3) := kt_o180 (j := 14) sX6_bears_0 rfl rfl
theorem dX6_bears_17 : decode cX6_bears 17 = .ok (.getfield 49, 3) := kt_o180 (j := 17) sX6_bears_0 rfl rfl
theorem dX6_bears_20 : decode cX6_bears 20 = .ok (.if_icmp .ge 19, 3) := kt_o162 (j := 20) sX6_bears_0 rfl (by decide +kernel)
theorem dX6_bears_23 : decode cX6_bears 23 = .ok (.aload_n 0, 1) := kt_o42 (j := 23) sX6_bears_0 rfl
theorem dX6_bears_24 : decode cX6_bears 24 = .ok (.getfield 12, 3) := kt_o180 (j := 24) sX6_bears_0 rfl rfl
theorem dX6_bears_27 : decode cX6_bears 27 = .ok (.getfield 52, 3) := kt_o180 (j := 27) sX6_bears_0 rfl rfl
theorem dX6_bears_30 : decode cX6_bears 30 = .ok (.iload_n 1, 1) := kt_o27 (j := 30) sX6_bears_0 rfl
theorem dX6_bears_31 : decode cX6_bears 31 = .ok (.iaload, 1) := kt_o46 (j := 31) sX6_bears_0 rfl
theorem dX6_bears_32 : decode cX6_bears 32 = .ok (.ifCond .ne 7, 3) := kt_o154 (j := 32) sX6_bears_0 rfl (by decide +kernel)
theorem dX6_bears_35 : decode cX6_bears 35 = .ok (.iconst 1, 1) := kt_o4 (j := 35) sX6_bears_0 rfl
theorem dX6_bears_36 : decode cX6_bears 36 = .ok (.goto 4, 3) := kt_o167 (j := 36) sX6_bears_0 rfl (by decide +kernel)
theorem dX6_bears_39 : decode cX6_bears 39 = .ok (.iconst 0, 1) := kt_o3 (j := 39) sX6_bears_0 rfl
theorem dX6_bears_40 : decode cX6_bears 40 = .ok (.ireturn, 1) := kt_o172 (j := 40) sX6_bears_0 rfl
theorem sX6_isGoal_0 : kt_sg cX6_isGoal 0 [27, 155, 0, 30, 27, 42, 180, 0, 12, 180, 0, 49, 162, 0, 19, 42, 180, 0, 12, 180, 0, 55, 27, 51, 153, 0, 7, 4, 167, 0, 4, 3, 172] = true := by decide +kernel
theorem dX6_isGoal_0 : decode cX6_isGoal 0 = .ok (.iload_n 1, 1) := kt_o27 (j := 0) sX6_isGoal_0 rfl
theorem dX6_isGoal_1 : decode cX6_isGoal 1 = .ok (.ifCond .lt 30, 3) := kt_o155 (j := 1) sX6_isGoal_0 rfl (by decide +kernel)
theorem dX6_isGoal_4 : decode cX6_isGoal 4 = .ok (.iload_n 1, 1) := kt_o27 (j := 4) sX6_isGoal_0 rfl
theorem dX6_isGoal_5 : decode cX6_isGoal 5 = .ok (.aload_n 0, 1) := kt_o42 (j := 5) sX6_isGoal_0 rfl
theorem dX6_isGoal_6 : decode cX6_isGoal 6 = .ok (.getfield 12, 3) := kt_o180 (j := 6) sX6_isGoal_0 rfl rfl
theorem dX6_isGoal_9 : decode cX6_isGoal 9 = .ok (.getfield 49, 3) := kt_o180 (j := 9) sX6_isGoal_0 rfl rfl
theorem dX6_isGoal_12 : decode cX6_isGoal 12 = .ok (.if_icmp .ge 19, 3) := kt_o162 (j := 12) sX6_isGoal_0 rfl (by decide +kernel)
theorem dX6_isGoal_15 : decode cX6_isGoal 15 = .ok (.aload_n 0, 1) := kt_o42 (j := 15) sX6_isGoal_0 rfl
theorem dX6_isGoal_16 : decode cX6_isGoal 16 = .ok (.getfield 12, 3) := kt_o180 (j := 16) sX6_isGoal_0 rfl rfl
theorem dX6_isGoal_19 : decode cX6_isGoal 19 = .ok (.getfield 55, 3) := kt_o180 (j := 19) sX6_isGoal_0 rfl rfl
theorem dX6_isGoal_22 : decode cX6_isGoal 22 = .ok (.iload_n 1, 1) := kt_o27 (j := 22) sX6_isGoal_0 rfl
theorem dX6_isGoal_23 : decode cX6_isGoal 23 = .ok (.baload, 1) := kt_o51 (j := 23) sX6_isGoal_0 rfl
theorem dX6_isGoal_24 : decode cX6_isGoal 24 = .ok (.ifCond .eq 7, 3) := kt_o153 (j := 24) sX6_isGoal_0 rfl (by decide +kernel)
theorem dX6_isGoal_27 : decode cX6_isGoal 27 = .ok (.iconst 1, 1) := kt_o4 (j := 27) sX6_isGoal_0 rfl
theorem dX6_isGoal_28 : decode cX6_isGoal 28 = .ok (.goto 4, 3) := kt_o167 (j := 28) sX6_isGoal_0 rfl (by decide +kernel)
theorem dX6_isGoal_31 : decode cX6_isGoal 31 = .ok (.iconst 0, 1) := kt_o3 (j := 31) sX6_isGoal_0 rfl
theorem dX6_isGoal_32 : decode cX6_isGoal 32 = .ok (.ireturn, 1) := kt_o172 (j := 32) sX6_isGoal_0 rfl
theorem sX6_isBeyondReach_0 : kt_sg cX6_isBeyondReach 0 [27, 42, 180, 0, 29, 160, 0, 28, 42, 180, 0, 36, 180, 0, 58, 158, 0, 18, 28, 42, 180, 0, 36, 180, 0, 58, 164, 0, 7, 4, 167, 0, 4, 3, 172] = true := by decide +kernel
theorem dX6_isBeyondReach_0 : decode cX6_isBeyondReach 0 = .ok (.iload_n 1, 1) := kt_o27 (j := 0) sX6_isBeyondReach_0 rfl
theorem dX6_isBeyondReach_1 : decode cX6_isBeyondReach 1 = .ok (.aload_n 0, 1) := kt_o42 (j := 1) sX6_isBeyondReach_0 rfl
theorem dX6_isBeyondReach_2 : decode cX6_isBeyondReach 2 = .ok (.getfield 29, 3) := kt_o180 (j := 2) sX6_isBeyondReach_0 rfl rfl
theorem dX6_isBeyondReach_5 : decode cX6_isBeyondReach 5 = .ok (.if_icmp .ne 28, 3) := kt_o160 (j := 5) sX6_isBeyondReach_0 rfl (by decide +kernel)
theorem dX6_isBeyondReach_8 : decode cX6_isBeyondReach 8 = .ok (.aload_n 0, 1) := kt_o42 (j := 8) sX6_isBeyondReach_0 rfl
theorem dX6_isBeyondReach_9 : decode cX6_isBeyondReach 9 = .ok (.getfield 36, 3) := kt_o180 (j := 9) sX6_isBeyondReach_0 rfl rfl
theorem dX6_isBeyondReach_12 : decode cX6_isBeyondReach 12 = .ok (.getfield 58, 3) := kt_o180 (j := 12) sX6_isBeyondReach_0 rfl rfl
theorem dX6_isBeyondReach_15 : decode cX6_isBeyondReach 15 = .ok (.ifCond .le 18, 3) := kt_o158 (j := 15) sX6_isBeyondReach_0 rfl (by decide +kernel)
theorem dX6_isBeyondReach_18 : decode cX6_isBeyondReach 18 = .ok (.iload_n 2, 1) := kt_o28 (j := 18) sX6_isBeyondReach_0 rfl
theorem dX6_isBeyondReach_19 : decode cX6_isBeyondReach 19 = .ok (.aload_n 0, 1) := kt_o42 (j := 19) sX6_isBeyondReach_0 rfl
theorem dX6_isBeyondReach_20 : decode cX6_isBeyondReach 20 = .ok (.getfield 36, 3) := kt_o180 (j := 20) sX6_isBeyondReach_0 rfl rfl
theorem dX6_isBeyondReach_23 : decode cX6_isBeyondReach 23 = .ok (.getfield 58, 3) := kt_o180 (j := 23) sX6_isBeyondReach_0 rfl rfl
theorem dX6_isBeyondReach_26 : decode cX6_isBeyondReach 26 = .ok (.if_icmp .le 7, 3) := kt_o164 (j := 26) sX6_isBeyondReach_0 rfl (by decide +kernel)
theorem dX6_isBeyondReach_29 : decode cX6_isBeyondReach 29 = .ok (.iconst 1, 1) := kt_o4 (j := 29) sX6_isBeyondReach_0 rfl
theorem dX6_isBeyondReach_30 : decode cX6_isBeyondReach 30 = .ok (.goto 4, 3) := kt_o167 (j := 30) sX6_isBeyondReach_0 rfl (by decide +kernel)
theorem dX6_isBeyondReach_33 : decode cX6_isBeyondReach 33 = .ok (.iconst 0, 1) := kt_o3 (j := 33) sX6_isBeyondReach_0 rfl
theorem dX6_isBeyondReach_34 : decode cX6_isBeyondReach 34 = .ok (.ireturn, 1) := kt_o172 (j := 34) sX6_isBeyondReach_0 rfl
theorem kt_wp_X6_room__X6_room_r1 {w : Cond} (h : w ∈ wsX6_room_r1) : w ∈ wsX6_room := List.mem_cons_of_mem _ (List.mem_append_left _ (List.mem_append_left _ (List.mem_append_left _ (List.mem_append_left _ (List.mem_append_left _ (h))))))
theorem kt_wp_X6_room__X6_room_r2 {w : Cond} (h : w ∈ wsX6_room_r2) : w ∈ wsX6_room := List.mem_cons_of_mem _ (List.mem_append_left _ (List.mem_append_left _ (List.mem_append_left _ (List.mem_append_left _ (List.mem_append_right _ (h))))))
theorem kt_wp_X6_room__X60 {w : Cond} (h : w ∈ wsX60) : w ∈ wsX6_room := List.mem_cons_of_mem _ (List.mem_append_left _ (List.mem_append_left _ (List.mem_append_left _ (List.mem_append_right _ (h)))))
theorem kt_wp_X6_room__X10 {w : Cond} (h : w ∈ wsX10) : w ∈ wsX6_room := List.mem_cons_of_mem _ (List.mem_append_left _ (List.mem_append_left _ (List.mem_append_right _ (h))))
theorem kt_wp_X6_room__X80 {w : Cond} (h : w ∈ wsX80) : w ∈ wsX6_room := List.mem_cons_of_mem _ (List.mem_append_left _ (List.mem_append_right _ (h)))
theorem kt_wp_X6_room__X00 {w : Cond} (h : w ∈ wsX00) : w ∈ wsX6_room := List.mem_cons_of_mem _ (List.mem_append_right _ (h))
set_option maxRecDepth 20000 in
theorem ggX6_room_X8_fieldOf : GoodIn wsX6_room wsX8_fieldOf := goodIn_sub (kt_wf1 (kt_wp_X6_room__X6_room_r1 kt_wm7) (kt_wfa (kt_wf1 (kt_wp_X6_room__X6_room_r1 kt_wm8) kt_wf0) (fun _ h => kt_wp_X6_room__X80 h))) kt_wg_X8_fieldOf
set_option maxRecDepth 20000 in
theorem gX6_room_X8_fieldOf : GoodIn wsX6_room (wsV RX6 61 RX8 yX8_fieldOf wsX8_fieldOf) := goodIn_app (a := [.methodLink RX6 61 yX8_fieldOf, .instanceMethod yX8_fieldOf, .selects RX8 yX8_fieldOf yX8_fieldOf, .initialized RX8]) (goodIn_sub (kt_wf1 (kt_wp_X6_room__X6_room_r1 kt_wm3) (kt_wf1 (kt_wp_X6_room__X6_room_r1 kt_wm4) (kt_wf1 (kt_wp_X6_room__X6_room_r1 kt_wm5) (kt_wf1 (kt_wp_X6_room__X6_room_r1 kt_wm6) kt_wf0)))) (by decide +kernel)) ggX6_room_X8_fieldOf
set_option maxRecDepth 20000 in
theorem ggX6_room_X0_beside : GoodIn wsX6_room wsX0_beside := goodIn_sub (kt_wf1 (kt_wp_X6_room__X6_room_r1 kt_wm13) (kt_wfa (kt_wf1 (kt_wp_X6_room__X6_room_r1 kt_wm14) (kt_wf1 (kt_wp_X6_room__X6_room_r1 kt_wm15) kt_wf0)) (fun _ h => kt_wp_X6_room__X00 h))) kt_wg_X0_beside
set_option maxRecDepth 20000 in
theorem gX6_room_X0_beside : GoodIn wsX6_room (wsV RX6 67 RX0 yX0_beside wsX0_beside) := goodIn_app (a := [.methodLink RX6 67 yX0_beside, .instanceMethod yX0_beside, .selects RX0 yX0_beside yX0_beside, .initialized RX0]) (goodIn_sub (kt_wf1 (kt_wp_X6_room__X6_room_r1 kt_wm9) (kt_wf1 (kt_wp_X6_room__X6_room_r1 kt_wm10) (kt_wf1 (kt_wp_X6_room__X6_room_r1 kt_wm11) (kt_wf1 (kt_wp_X6_room__X6_room_r1 kt_wm12) kt_wf0)))) (by decide +kernel)) ggX6_room_X0_beside
set_option maxRecDepth 20000 in
theorem ggX6_room_X8_holderOf : GoodIn wsX6_room wsX8_holderOf := goodIn_sub (kt_wf1 (kt_wp_X6_room__X6_room_r1 kt_wm19) (kt_wfa (kt_wf1 (kt_wp_X6_room__X6_room_r1 kt_wm20) kt_wf0) (fun _ h => kt_wp_X6_room__X80 h))) kt_wg_X8_holderOf
set_option maxRecDepth 20000 in
theorem gX6_room_X8_holderOf : GoodIn wsX6_room (wsV RX6 71 RX8 yX8_holderOf wsX8_holderOf) := goodIn_app (a := [.methodLink RX6 71 yX8_holderOf, .instanceMethod yX8_holderOf, .selects RX8 yX8_holderOf yX8_holderOf, .initialized RX8]) (goodIn_sub (kt_wf1 (kt_wp_X6_room__X6_room_r1 kt_wm16) (kt_wf1 (kt_wp_X6_room__X6_room_r1 kt_wm17) (kt_wf1 (kt_wp_X6_room__X6_room_r1 kt_wm18) (kt_wf1 (kt_wp_X6_room__X6_room_r1 kt_wm6) kt_wf0)))) (by decide +kernel)) ggX6_room_X8_holderOf
set_option maxRecDepth 20000 in
theorem ggX6_room_X6_bears : GoodIn wsX6_room wsX6_bears := goodIn_sub (kt_wf1 (kt_wp_X6_room__X6_room_r2 kt_wm1) (kt_wfa (kt_wfa (kt_wf1 (kt_wp_X6_room__X6_room_r1 kt_wm0) (kt_wf1 (kt_wp_X6_room__X6_room_r1 kt_wm2) kt_wf0)) (fun _ h => kt_wp_X6_room__X60 h)) (fun _ h => kt_wp_X6_room__X00 h))) kt_wg_X6_bears
set_option maxRecDepth 20000 in
theorem gX6_room_X6_bears : GoodIn wsX6_room (wsV RX6 74 RX6 yX6_bears wsX6_bears) := goodIn_app (a := [.methodLink RX6 74 yX6_bears, .instanceMethod yX6_bears, .selects RX6 yX6_bears yX6_bears, .initialized RX6]) (goodIn_sub (kt_wf1 (kt_wp_X6_room__X6_room_r1 kt_wm21) (kt_wf1 (kt_wp_X6_room__X6_room_r1 kt_wm22) (kt_wf1 (kt_wp_X6_room__X6_room_r1 kt_wm23) (kt_wf1 (kt_wp_X6_room__X6_room_r2 kt_wm0) kt_wf0)))) (by decide +kernel)) ggX6_room_X6_bears
theorem sX6_room_0 : kt_sg cX6_room 0 [28, 42, 180, 0, 29, 160, 0, 23, 42, 180, 0, 36, 180, 0, 58, 158, 0, 13, 42, 180, 0, 36, 180, 0, 58, 167, 0, 5, 16, 9, 54, 4, 42, 180, 0, 12, 43, 28, 182, 0, 61, 29, 182, 0, 67, 54, 5, 3, 54, 6, 21, 6, 21, 4, 162, 0, 47, 21, 5, 2, 159, 0, 41, 43] = true := by decide +kernel
theorem dX6_room_0 : decode cX6_room 0 = .ok (.iload_n 2, 1) := kt_o28 (j := 0) sX6_room_0 rfl
theorem dX6_room_1 : decode cX6_room 1 = .ok (.aload_n 0, 1) := kt_o42 (j := 1) sX6_room_0 rfl
theorem dX6_room_2 : decode cX6_room 2 = .ok (.getfield 29, 3) := kt_o180 (j := 2) sX6_room_0 rfl rfl
theorem dX6_room_5 : decode cX6_room 5 = .ok (.if_icmp .ne 23, 3) := kt_o160 (j := 5) sX6_room_0 rfl (by decide +kernel)
theorem dX6_room_8 : decode cX6_room 8 = .ok (.aload_n 0, 1) := kt_o42 (j := 8) sX6_room_0 rfl
theorem dX6_room_9 : decode cX6_room 9 = .ok (.getfield 36, 3) := kt_o180 (j := 9) sX6_room_0 rfl rfl
theorem dX6_room_12 : decode cX6_room 12 = .ok (.getfield 58, 3) := kt_o180 (j := 12) sX6_room_0 rfl rfl
theorem dX6_room_15 : decode cX6_room 15 = .ok (.ifCond .le 13, 3) := kt_o158 (j := 15) sX6_room_0 rfl (by decide +kernel)
theorem dX6_room_18 : decode cX6_room 18 = .ok (.aload_n 0, 1) := kt_o42 (j := 18) sX6_room_0 rfl
theorem dX6_room_19 : decode cX6_room 19 = .ok (.getfield 36, 3) := kt_o180 (j := 19) sX6_room_0 rfl rfl
theorem dX6_room_22 : decode cX6_room 22 = .ok (.getfield 58, 3) := kt_o180 (j := 22) sX6_room_0 rfl rfl
theorem dX6_room_25 : decode cX6_room 25 = .ok (.goto 5, 3) := kt_o167 (j := 25) sX6_room_0 rfl (by decide +kernel)
theorem dX6_room_28 : decode cX6_room 28 = .ok (.bipush 9, 2) := kt_o16 (j := 28) sX6_room_0 rfl (by decide +kernel)
theorem dX6_room_30 : decode cX6_room 30 = .ok (.istore 4, 2) := kt_o54 (j := 30) sX6_room_0 rfl
theorem dX6_room_32 : decode cX6_room 32 = .ok (.aload_n 0, 1) := kt_o42 (j := 32) sX6_room_0 rfl
theorem dX6_room_33 : decode cX6_room 33 = .ok (.getfield 12, 3) := kt_o180 (j := 33) sX6_room_0 rfl rfl
theorem dX6_room_36 : decode cX6_room 36 = .ok (.aload_n 1, 1) := kt_o43 (j := 36) sX6_room_0 rfl
theorem dX6_room_37 : decode cX6_room 37 = .ok (.iload_n 2, 1) := kt_o28 (j := 37) sX6_room_0 rfl
theorem dX6_room_38 : decode cX6_room 38 = .ok (.invokevirtual 61, 3) := kt_o182 (j := 38) sX6_room_0 rfl rfl
theorem dX6_room_41 : decode cX6_room 41 = .ok (.iload_n 3, 1) := kt_o29 (j := 41) sX6_room_0 rfl
theorem dX6_room_42 : decode cX6_room 42 = .ok (.invokevirtual 67, 3) := kt_o182 (j := 42) sX6_room_0 rfl rfl
theorem dX6_room_45 : decode cX6_room 45 = .ok (.istore 5, 2) := kt_o54 (j := 45) sX6_room_0 rfl
theorem dX6_room_47 : decode cX6_room 47 = .ok (.iconst 0, 1) := kt_o3 (j := 47) sX6_room_0 rfl
theorem dX6_room_48 : decode cX6_room 48 = .ok (.istore 6, 2) := kt_o54 (j := 48) sX6_room_0 rfl
theorem dX6_room_50 : decode cX6_room 50 = .ok (.iload 6, 2) := kt_o21 (j := 50) sX6_room_0 rfl
theorem dX6_room_52 : decode cX6_room 52 = .ok (.iload 4, 2) := kt_o21 (j := 52) sX6_room_0 rfl
theorem dX6_room_54 : decode cX6_room 54 = .ok (.if_icmp .ge 47, 3) := kt_o162 (j := 54) sX6_room_0 rfl (by decide +kernel)
theorem dX6_room_57 : decode cX6_room 57 = .ok (.iload 5, 2) := kt_o21 (j := 57) sX6_room_0 rfl
theorem dX6_room_59 : decode cX6_room 59 = .ok (.iconst (-1), 1) := kt_o2 (j := 59) sX6_room_0 rfl
theorem dX6_room_60 : decode cX6_room 60 = .ok (.if_icmp .eq 41, 3) := kt_o159 (j := 60) sX6_room_0 rfl (by decide +kernel)
theorem dX6_room_63 : decode cX6_room 63 = .ok (.aload_n 1, 1) := kt_o43 (j := 63) sX6_room_0 rfl
theorem sX6_room_64 : kt_sg cX6_room 64 [21, 5, 182, 0, 71, 2, 160, 0, 31, 42, 21, 5, 28, 182, 0, 74, 153, 0, 21, 132, 6, 1, 42, 180, 0, 12, 21, 5, 29, 182, 0, 67, 54, 5, 167, 255, 208, 21, 6, 172] = true := by decide +kernel
theorem dX6_room_64 : decode cX6_room 64 = .ok (.iload 5, 2) := kt_o21 (j := 0) sX6_room_64 rfl
theorem dX6_room_66 : decode cX6_room 66 = .ok (.invokevirtual 71, 3) := kt_o182 (j := 2) sX6_room_64 rfl rfl
theorem dX6_room_69 : decode cX6_room 69 = .ok (.iconst (-1), 1) := kt_o2 (j := 5) sX6_room_64 rfl
theorem dX6_room_70 : decode cX6_room 70 = .ok (.if_icmp .ne 31, 3) := kt_o160 (j := 6) sX6_room_64 rfl (by decide +kernel)
theorem dX6_room_73 : decode cX6_room 73 = .ok (.aload_n 0, 1) := kt_o42 (j := 9) sX6_room_64 rfl
theorem dX6_room_74 : decode cX6_room 74 = .ok (.iload 5, 2) := kt_o21 (j := 10) sX6_room_64 rfl
theorem dX6_room_76 : decode cX6_room 76 = .ok (.iload_n 2, 1) := kt_o28 (j := 12) sX6_room_64 rfl
theorem dX6_room_77 : decode cX6_room 77 = .ok (.invokevirtual 74, 3) := kt_o182 (j := 13) sX6_room_64 rfl rfl
theorem dX6_room_80 : decode cX6_room 80 = .ok (.ifCond .eq 21, 3) := kt_o153 (j := 16) sX6_room_64 rfl (by decide +kernel)
theorem dX6_room_83 : decode cX6_room 83 = .ok (.iinc 6 1, 3) := kt_o132 (j := 19) sX6_room_64 rfl (by decide +kernel)
theorem dX6_room_86 : decode cX6_room 86 = .ok (.aload_n 0, 1) := kt_o42 (j := 22) sX6_room_64 rfl
theorem dX6_room_87 : decode cX6_room 87 = .ok (.getfield 12, 3) := kt_o180 (j := 23) sX6_room_64 rfl rfl
theorem dX6_room_90 : decode cX6_room 90 = .ok (.iload 5, 2) := kt_o21 (j := 26) sX6_room_64 rfl
theorem dX6_room_92 : decode cX6_room 92 = .ok (.iload_n 3, 1) := kt_o29 (j := 28) sX6_room_64 rfl
theorem dX6_room_93 : decode cX6_room 93 = .ok (.invokevirtual 67, 3) := kt_o182 (j := 29) sX6_room_64 rfl rfl
theorem dX6_room_96 : decode cX6_room 96 = .ok (.istore 5, 2) := kt_o54 (j := 32) sX6_room_64 rfl
theorem dX6_room_98 : decode cX6_room 98 = .ok (.goto (-48), 3) := kt_o167 (j := 34) sX6_room_64 rfl (by decide +kernel)
theorem dX6_room_101 : decode cX6_room 101 = .ok (.iload 6, 2) := kt_o21 (j := 37) sX6_room_64 rfl
theorem dX6_room_103 : decode cX6_room 103 = .ok (.ireturn, 1) := kt_o172 (j := 39) sX6_room_64 rfl
theorem kt_wp_X6_movesOf__X6_movesOf_r1 {w : Cond} (h : w ∈ wsX6_movesOf_r1) : w ∈ wsX6_movesOf := List.mem_cons_of_mem _ (List.mem_append_left _ (List.mem_append_left _ (List.mem_append_left _ (List.mem_append_left _ (List.mem_append_left _ (h))))))
theorem kt_wp_X6_movesOf__X6_movesOf_r2 {w : Cond} (h : w ∈ wsX6_movesOf_r2) : w ∈ wsX6_movesOf := List.mem_cons_of_mem _ (List.mem_append_left _ (List.mem_append_left _ (List.mem_append_left _ (List.mem_append_left _ (List.mem_append_right _ (h))))))
theorem kt_wp_X6_movesOf__X60 {w : Cond} (h : w ∈ wsX60) : w ∈ wsX6_movesOf := List.mem_cons_of_mem _ (List.mem_append_left _ (List.mem_append_left _ (List.mem_append_left _ (List.mem_append_right _ (h)))))
theorem kt_wp_X6_movesOf__X10 {w : Cond} (h : w ∈ wsX10) : w ∈ wsX6_movesOf := List.mem_cons_of_mem _ (List.mem_append_left _ (List.mem_append_left _ (List.mem_append_right _ (h))))
theorem kt_wp_X6_movesOf__X80 {w : Cond} (h : w ∈ wsX80) : w ∈ wsX6_movesOf := List.mem_cons_of_mem _ (List.mem_append_left _ (List.mem_append_right _ (h)))
theorem kt_wp_X6_movesOf__X00 {w : Cond} (h : w ∈ wsX00) : w ∈ wsX6_movesOf := List.mem_cons_of_mem _ (List.mem_append_right _ (h))
set_option maxRecDepth 20000 in
theorem kt_wg_X6_room : wsX6_room.all goodWord = true := by decide +kernel
set_option maxRecDepth 20000 in
theorem ggX6_movesOf_X6_room : GoodIn wsX6_movesOf wsX6_room := goodIn_sub (kt_wf1 (kt_wp_X6_movesOf__X6_movesOf_r1 kt_wm4) (kt_wfa (kt_wfa (kt_wfa (kt_wfa (kt_wfa (kt_wf1 (kt_wp_X6_movesOf__X6_movesOf_r1 kt_wm5) (kt_wf1 (kt_wp_X6_movesOf__X6_movesOf_r1 kt_wm6) (kt_wf1 (kt_wp_X6_movesOf__X6_movesOf_r1 kt_wm7) (kt_wf1 (kt_wp_X6_movesOf__X6_movesOf_r1 kt_wm8) (kt_wf1 (kt_wp_X6_movesOf__X6_movesOf_r1 kt_wm9) (kt_wf1 (kt_wp_X6_movesOf__X6_movesOf_r1 kt_wm10) (kt_wf1 (kt_wp_X6_movesOf__X6_movesOf_r1 kt_wm11) (kt_wf1 (kt_wp_X6_movesOf__X6_movesOf_r1 kt_wm12) (kt_wf1 (kt_wp_X6_movesOf__X6_movesOf_r1 kt_wm13) (kt_wf1 (kt_wp_X6_movesOf__X6_movesOf_r1 kt_wm14) (kt_wf1 (kt_wp_X6_movesOf__X6_movesOf_r1 kt_wm15) (kt_wf1 (kt_wp_X6_movesOf__X6_movesOf_r1 kt_wm16) (kt_wf1 (kt_wp_X6_movesOf__X6_movesOf_r1 kt_wm17) (kt_wf1 (kt_wp_X6_movesOf__X6_movesOf_r1 kt_wm18) (kt_wf1 (kt_wp_X6_movesOf__X6_movesOf_r1 kt_wm19) (kt_wf1 (kt_wp_X6_movesOf__X6_movesOf_r1 kt_wm20) (kt_wf1 (kt_wp_X6_movesOf__X6_movesOf_r1 kt_wm21) (kt_wf1 (kt_wp_X6_movesOf__X6_movesOf_r1 kt_wm22) (kt_wf1 (kt_wp_X6_movesOf__X6_movesOf_r1 kt_wm23) (kt_wf1 (kt_wp_X6_movesOf__X6_movesOf_r2 kt_wm0) (kt_wf1 (kt_wp_X6_movesOf__X6_movesOf_r2 kt_wm1) (kt_wf1 (kt_wp_X6_movesOf__X6_movesOf_r2 kt_wm2) (kt_wf1 (kt_wp_X6_movesOf__X6_movesOf_r2 kt_wm3) (kt_wf1 (kt_wp_X6_movesOf__X6_movesOf_r2 kt_wm4) kt_wf0)))))))))))))))))))))))) (kt_wf1 (kt_wp_X6_movesOf__X6_movesOf_r1 kt_wm3) (kt_wf1 (kt_wp_X6_movesOf__X6_movesOf_r2 kt_wm5) kt_wf0))) (fun _ h => kt_wp_X6_movesOf__X60 h)) (fun _ h => kt_wp_X6_movesOf__X10 h)) (fun _ h => kt_wp_X6_movesOf__X80 h)) (fun _ h => kt_wp_X6_movesOf__X00 h))) kt_wg_X6_room
set_option maxRecDepth 20000 in
theorem gX6_movesOf_X6_room : GoodIn wsX6_movesOf (wsV RX6 78 RX6 yX6_room wsX6_room) := goodIn_app (a := [.methodLink RX6 78 yX6_room, .instanceMethod yX6_room, .selects RX6 yX6_room yX6_room, .initialized RX6]) (goodIn_sub (kt_wf1 (kt_wp_X6_movesOf__X6_movesOf_r1 kt_wm0) (kt_wf1 (kt_wp_X6_movesOf__X6_movesOf_r1 kt_wm1) (kt_wf1 (kt_wp_X6_movesOf__X6_movesOf_r1 kt_wm2) (kt_wf1 (kt_wp_X6_movesOf__X6_movesOf_r1 kt_wm3) kt_wf0)))) (by decide +kernel)) ggX6_movesOf_X6_room
theorem sX6_movesOf_0 : kt_sg cX6_movesOf 0 [3, 62, 3, 54, 4, 21, 4, 7, 162, 0, 20, 29, 42, 43, 28, 21, 4, 182, 0, 78, 96, 62, 132, 4, 1, 167, 255, 236, 29, 172] = true := by decide +kernel
theorem dX6_movesOf_0 : decode cX6_movesOf 0 = .ok (.iconst 0, 1) := kt_o3 (j := 0) sX6_movesOf_0 rfl
theorem dX6_movesOf_1 : decode cX6_movesOf 1 = .ok (.istore_n 3, 1) := kt_o62 (j := 1) sX6_movesOf_0 rfl
theorem dX6_movesOf_2 : decode cX6_movesOf 2 = .ok (.iconst 0, 1) := kt_o3 (j := 2) sX6_movesOf_0 rfl
theorem dX6_movesOf_3 : decode cX6_movesOf 3 = .ok (.istore 4, 2) := kt_o54 (j := 3) sX6_movesOf_0 rfl
theorem dX6_movesOf_5 : decode cX6_movesOf 5 = .ok (.iload 4, 2) := kt_o21 (j := 5) sX6_movesOf_0 rfl
theorem dX6_movesOf_7 : decode cX6_movesOf 7 = .ok (.iconst 4, 1) := kt_o7 (j := 7) sX6_movesOf_0 rfl
theorem dX6_movesOf_8 : decode cX6_movesOf 8 = .ok (.if_icmp .ge 20, 3) := kt_o162 (j := 8) sX6_movesOf_0 rfl (by decide +kernel)
theorem dX6_movesOf_11 : decode cX6_movesOf 11 = .ok (.iload_n 3, 1) := kt_o29 (j := 11) sX6_movesOf_0 rfl
theorem dX6_movesOf_12 : decode cX6_movesOf 12 = .ok (.aload_n 0, 1) := kt_o42 (j := 12) sX6_movesOf_0 rfl
theorem dX6_movesOf_13 : decode cX6_movesOf 13 = .ok (.aload_n 1, 1) := kt_o43 (j := 13) sX6_movesOf_0 rfl
theorem dX6_movesOf_14 : decode cX6_movesOf 14 = .ok (.iload_n 2, 1) := kt_o28 (j := 14) sX6_movesOf_0 rfl
theorem dX6_movesOf_15 : decode cX6_movesOf 15 = .ok (.iload 4, 2) := kt_o21 (j := 15) sX6_movesOf_0 rfl
theorem dX6_movesOf_17 : decode cX6_movesOf 17 = .ok (.invokevirtual 78, 3) := kt_o182 (j := 17) sX6_movesOf_0 rfl rfl
theorem dX6_movesOf_20 : decode cX6_movesOf 20 = .ok (.iadd, 1) := kt_o96 (j := 20) sX6_movesOf_0 rfl
theorem dX6_movesOf_21 : decode cX6_movesOf 21 = .ok (.istore_n 3, 1) := kt_o62 (j := 21) sX6_movesOf_0 rfl
theorem dX6_movesOf_22 : decode cX6_movesOf 22 = .ok (.iinc 4 1, 3) := kt_o132 (j := 22) sX6_movesOf_0 rfl (by decide +kernel)
theorem dX6_movesOf_25 : decode cX6_movesOf 25 = .ok (.goto (-20), 3) := kt_o167 (j := 25) sX6_movesOf_0 rfl (by decide +kernel)
theorem dX6_movesOf_28 : decode cX6_movesOf 28 = .ok (.iload_n 3, 1) := kt_o29 (j := 28) sX6_movesOf_0 rfl
theorem dX6_movesOf_29 : decode cX6_movesOf 29 = .ok (.ireturn, 1) := kt_o172 (j := 29) sX6_movesOf_0 rfl
theorem kt_wp_X6_canGo__X6_canGo_r1 {w : Cond} (h : w ∈ wsX6_canGo_r1) : w ∈ wsX6_canGo := List.mem_cons_of_mem _ (List.mem_append_left _ (List.mem_append_left _ (List.mem_append_left _ (List.mem_append_left _ (List.mem_append_left _ (h))))))
theorem kt_wp_X6_canGo__X6_canGo_r2 {w : Cond} (h : w ∈ wsX6_canGo_r2) : w ∈ wsX6_canGo := List.mem_cons_of_mem _ (List.mem_append_left _ (List.mem_append_left _ (List.mem_append_left _ (List.mem_append_left _ (List.mem_append_right _ (h))))))
theorem kt_wp_X6_canGo__X60 {w : Cond} (h : w ∈ wsX60) : w ∈ wsX6_canGo := List.mem_cons_of_mem _ (List.mem_append_left _ (List.mem_append_left _ (List.mem_append_left _ (List.mem_append_right _ (h)))))
theorem kt_wp_X6_canGo__X80 {w : Cond} (h : w ∈ wsX80) : w ∈ wsX6_canGo := List.mem_cons_of_mem _ (List.mem_append_left _ (List.mem_append_left _ (List.mem_append_right _ (h))))
theorem kt_wp_X6_canGo__X10 {w : Cond} (h : w ∈ wsX10) : w ∈ wsX6_canGo := List.mem_cons_of_mem _ (List.mem_append_left _ (List.mem_append_right _ (h)))
theorem kt_wp_X6_canGo__X00 {w : Cond} (h : w ∈ wsX00) : w ∈ wsX6_canGo := List.mem_cons_of_mem _ (List.mem_append_right _ (h))
set_option maxRecDepth 20000 in
theorem ggX6_canGo_X6_room : GoodIn wsX6_canGo wsX6_room := goodIn_sub (kt_wf1 (kt_wp_X6_canGo__X6_canGo_r1 kt_wm6) (kt_wfa (kt_wfa (kt_wfa (kt_wfa (kt_wfa (kt_wf1 (kt_wp_X6_canGo__X6_canGo_r1 kt_wm7) (kt_wf1 (kt_wp_X6_canGo__X6_canGo_r1 kt_wm8) (kt_wf1 (kt_wp_X6_canGo__X6_canGo_r1 kt_wm9) (kt_wf1 (kt_wp_X6_canGo__X6_canGo_r1 kt_wm10) (kt_wf1 (kt_wp_X6_canGo__X6_canGo_r1 kt_wm11) (kt_wf1 (kt_wp_X6_canGo__X6_canGo_r1 kt_wm12) (kt_wf1 (kt_wp_X6_canGo__X6_canGo_r1 kt_wm13) (kt_wf1 (kt_wp_X6_canGo__X6_canGo_r1 kt_wm14) (kt_wf1 (kt_wp_X6_canGo__X6_canGo_r1 kt_wm15) (kt_wf1 (kt_wp_X6_canGo__X6_canGo_r1 kt_wm16) (kt_wf1 (kt_wp_X6_canGo__X6_canGo_r1 kt_wm17) (kt_wf1 (kt_wp_X6_canGo__X6_canGo_r1 kt_wm18) (kt_wf1 (kt_wp_X6_canGo__X6_canGo_r1 kt_wm19) (kt_wf1 (kt_wp_X6_canGo__X6_canGo_r1 kt_wm20) (kt_wf1 (kt_wp_X6_canGo__X6_canGo_r1 kt_wm21) (kt_wf1 (kt_wp_X6_canGo__X6_canGo_r1 kt_wm22) (kt_wf1 (kt_wp_X6_canGo__X6_canGo_r1 kt_wm23) (kt_wf1 (kt_wp_X6_canGo__X6_canGo_r2 kt_wm0) (kt_wf1 (kt_wp_X6_canGo__X6_canGo_r2 kt_wm1) (kt_wf1 (kt_wp_X6_canGo__X6_canGo_r2 kt_wm2) (kt_wf1 (kt_wp_X6_canGo__X6_canGo_r2 kt_wm3) (kt_wf1 (kt_wp_X6_canGo__X6_canGo_r2 kt_wm4) (kt_wf1 (kt_wp_X6_canGo__X6_canGo_r2 kt_wm5) (kt_wf1 (kt_wp_X6_canGo__X6_canGo_r2 kt_wm6) kt_wf0)))))))))))))))))))))))) (kt_wf1 (kt_wp_X6_canGo__X6_canGo_r1 kt_wm5) (kt_wf1 (kt_wp_X6_canGo__X6_canGo_r2 kt_wm7) kt_wf0))) (fun _ h => kt_wp_X6_canGo__X60 h)) (fun _ h => kt_wp_X6_canGo__X10 h)) (fun _ h => kt_wp_X6_canGo__X80 h)) (fun _ h => kt_wp_X6_canGo__X00 h))) kt_wg_X6_room
set_option maxRecDepth 20000 in
theorem gX6_canGo_X6_room : GoodIn wsX6_canGo (wsV RX6 78 RX6 yX6_room wsX6_room) := goodIn_app (a := [.methodLink RX6 78 yX6_room, .instanceMethod yX6_room, .selects RX6 yX6_room yX6_room, .initialized RX6]) (goodIn_sub (kt_wf1 (kt_wp_X6_canGo__X6_canGo_r1 kt_wm2) (kt_wf1 (kt_wp_X6_canGo__X6_canGo_r1 kt_wm3) (kt_wf1 (kt_wp_X6_canGo__X6_canGo_r1 kt_wm4) (kt_wf1 (kt_wp_X6_canGo__X6_canGo_r1 kt_wm5) kt_wf0)))) (by decide +kernel)) ggX6_canGo_X6_room
theorem sX6_canGo_0 : kt_sg cX6_canGo 0 [3, 61, 28, 42, 180, 0, 40, 162, 0, 47, 3, 62, 42, 180, 0, 22, 28, 46, 43, 180, 0, 82, 160, 0, 26, 29, 7, 162, 0, 21, 42, 43, 28, 29, 182, 0, 78, 158, 0, 5, 4, 172, 132, 3, 1, 167, 255, 223, 132, 2, 1, 167, 255, 207, 3, 172] = true := by decide +kernel
theorem dX6_canGo_0 : decode cX6_canGo 0 = .ok (.iconst 0, 1) := kt_o3 (j := 0) sX6_canGo_0 rfl
theorem dX6_canGo_1 : decode cX6_canGo 1 = .ok (.istore_n 2, 1) := kt_o61 (j := 1) sX6_canGo_0 rfl
theorem dX6_canGo_2 : decode cX6_canGo 2 = .ok (.iload_n 2, 1) := kt_o28 (j := 2) sX6_canGo_0 rfl
theorem dX6_canGo_3 : decode cX6_canGo 3 = .ok (.aload_n 0, 1) := kt_o42 (j := 3) sX6_canGo_0 rfl
theorem dX6_canGo_4 : decode cX6_canGo 4 = .ok (.getfield 40, 3) := kt_o180 (j := 4) sX6_canGo_0 rfl rfl
theorem dX6_canGo_7 : decode cX6_canGo 7 = .ok (.if_icmp .ge 47, 3) := kt_o162 (j := 7) sX6_canGo_0 rfl (by decide +kernel)
theorem dX6_canGo_10 : decode cX6_canGo 10 = .ok (.iconst 0, 1) := kt_o3 (j := 10) sX6_canGo_0 rfl
theorem dX6_canGo_11 : decode cX6_canGo 11 = .ok (.istore_n 3, 1) := kt_o62 (j := 11) sX6_canGo_0 rfl
theorem dX6_canGo_12 : decode cX6_canGo 12 = .ok (.aload_n 0, 1) := kt_o42 (j := 12) sX6_canGo_0 rfl
theorem dX6_canGo_13 : decode cX6_canGo 13 = .ok (.getfield 22, 3) := kt_o180 (j := 13) sX6_canGo_0 rfl rfl
theorem dX6_canGo_16 : decode cX6_canGo 16 = .ok (.iload_n 2, 1) := kt_o28 (j := 16) sX6_canGo_0 rfl
theorem dX6_canGo_17 : decode cX6_canGo 17 = .ok (.iaload, 1) := kt_o46 (j := 17) sX6_canGo_0 rfl
theorem dX6_canGo_18 : decode cX6_canGo 18 = .ok (.aload_n 1, 1) := kt_o43 (j := 18) sX6_canGo_0 rfl
theorem dX6_canGo_19 : decode cX6_canGo 19 = .ok (.getfield 82, 3) := kt_o180 (j := 19) sX6_canGo_0 rfl rfl
theorem dX6_canGo_22 : decode cX6_canGo 22 = .ok (.if_icmp .ne 26, 3) := kt_o160 (j := 22) sX6_canGo_0 rfl (by decide +kernel)
theorem dX6_canGo_25 : decode cX6_canGo 25 = .ok (.iload_n 3, 1) := kt_o29 (j := 25) sX6_canGo_0 rfl
theorem dX6_canGo_26 : decode cX6_canGo 26 = .ok (.iconst 4, 1) := kt_o7 (j := 26) sX6_canGo_0 rfl
theorem dX6_canGo_27 : decode cX6_canGo 27 = .ok (.if_icmp .ge 21, 3) := kt_o162 (j := 27) sX6_canGo_0 rfl (by decide +kernel)
theorem dX6_canGo_30 : decode cX6_canGo 30 = .ok (.aload_n 0, 1) := kt_o42 (j := 30) sX6_canGo_0 rfl
theorem dX6_canGo_31 : decode cX6_canGo 31 = .ok (.aload_n 1, 1) := kt_o43 (j := 31) sX6_canGo_0 rfl
theorem dX6_canGo_32 : decode cX6_canGo 32 = .ok (.iload_n 2, 1) := kt_o28 (j := 32) sX6_canGo_0 rfl
theorem dX6_canGo_33 : decode cX6_canGo 33 = .ok (.iload_n 3, 1) := kt_o29 (j := 33) sX6_canGo_0 rfl
theorem dX6_canGo_34 : decode cX6_canGo 34 = .ok (.invokevirtual 78, 3) := kt_o182 (j := 34) sX6_canGo_0 rfl rfl
theorem dX6_canGo_37 : decode cX6_canGo 37 = .ok (.ifCond .le 5, 3) := kt_o158 (j := 37) sX6_canGo_0 rfl (by decide +kernel)
theorem dX6_canGo_40 : decode cX6_canGo 40 = .ok (.iconst 1, 1) := kt_o4 (j := 40) sX6_canGo_0 rfl
theorem dX6_canGo_41 : decode cX6_canGo 41 = .ok (.ireturn, 1) := kt_o172 (j := 41) sX6_canGo_0 rfl
theorem dX6_canGo_42 : decode cX6_canGo 42 = .ok (.iinc 3 1, 3) := kt_o132 (j := 42) sX6_canGo_0 rfl (by decide +kernel)
theorem dX6_canGo_45 : decode cX6_canGo 45 = .ok (.goto (-33), 3) := kt_o167 (j := 45) sX6_canGo_0 rfl (by decide +kernel)
theorem dX6_canGo_48 : decode cX6_canGo 48 = .ok (.iinc 2 1, 3) := kt_o132 (j := 48) sX6_canGo_0 rfl (by decide +kernel)
theorem dX6_canGo_51 : decode cX6_canGo 51 = .ok (.goto (-49), 3) := kt_o167 (j := 51) sX6_canGo_0 rfl (by decide +kernel)
theorem dX6_canGo_54 : decode cX6_canGo 54 = .ok (.iconst 0, 1) := kt_o3 (j := 54) sX6_canGo_0 rfl
theorem dX6_canGo_55 : decode cX6_canGo 55 = .ok (.ireturn, 1) := kt_o172 (j := 55) sX6_canGo_0 rfl
theorem kt_wp_X6_winner__X6_winner_r1 {w : Cond} (h : w ∈ wsX6_winner_r1) : w ∈ wsX6_winner := List.mem_cons_of_mem _ (List.mem_append_left _ (List.mem_append_left _ (List.mem_append_left _ (List.mem_append_left _ (List.mem_append_left _ (h))))))
theorem kt_wp_X6_winner__X6_winner_r2 {w : Cond} (h : w ∈ wsX6_winner_r2) : w ∈ wsX6_winner := List.mem_cons_of_mem _ (List.mem_append_left _ (List.mem_append_left _ (List.mem_append_left _ (List.mem_append_left _ (List.mem_append_right _ (h))))))
theorem kt_wp_X6_winner__X60 {w : Cond} (h : w ∈ wsX60) : w ∈ wsX6_winner := List.mem_cons_of_mem _ (List.mem_append_left _ (List.mem_append_left _ (List.mem_append_left _ (List.mem_append_right _ (h)))))
theorem kt_wp_X6_winner__X80 {w : Cond} (h : w ∈ wsX80) : w ∈ wsX6_winner := List.mem_cons_of_mem _ (List.mem_append_left _ (List.mem_append_left _ (List.mem_append_right _ (h))))
theorem kt_wp_X6_winner__X00 {w : Cond} (h : w ∈ wsX00) : w ∈ wsX6_winner := List.mem_cons_of_mem _ (List.mem_append_left _ (List.mem_append_right _ (h)))
theorem kt_wp_X6_winner__X10 {w : Cond} (h : w ∈ wsX10) : w ∈ wsX6_winner := List.mem_cons_of_mem _ (List.mem_append_right _ (h))
set_option maxRecDepth 20000 in
theorem ggX6_winner_X8_fieldOf : GoodIn wsX6_winner wsX8_fieldOf := goodIn_sub (kt_wf1 (kt_wp_X6_winner__X6_winner_r1 kt_wm5) (kt_wfa (kt_wf1 (kt_wp_X6_winner__X6_winner_r1 kt_wm6) kt_wf0) (fun _ h => kt_wp_X6_winner__X80 h))) kt_wg_X8_fieldOf
set_option maxRecDepth 20000 in
theorem gX6_winner_X8_fieldOf : GoodIn wsX6_winner (wsV RX6 61 RX8 yX8_fieldOf wsX8_fieldOf) := goodIn_app (a := [.methodLink RX6 61 yX8_fieldOf, .instanceMethod yX8_fieldOf, .selects RX8 yX8_fieldOf yX8_fieldOf, .initialized RX8]) (goodIn_sub (kt_wf1 (kt_wp_X6_winner__X6_winner_r1 kt_wm1) (kt_wf1 (kt_wp_X6_winner__X6_winner_r1 kt_wm2) (kt_wf1 (kt_wp_X6_winner__X6_winner_r1 kt_wm3) (kt_wf1 (kt_wp_X6_winner__X6_winner_r1 kt_wm4) kt_wf0)))) (by decide +kernel)) ggX6_winner_X8_fieldOf
set_option maxRecDepth 20000 in
theorem ggX6_winner_X6_isGoal : GoodIn wsX6_winner wsX6_isGoal := goodIn_sub (kt_wf1 (kt_wp_X6_winner__X6_winner_r1 kt_wm11) (kt_wfa (kt_wfa (kt_wf1 (kt_wp_X6_winner__X6_winner_r1 kt_wm12) kt_wf0) (fun _ h => kt_wp_X6_winner__X60 h)) (fun _ h => kt_wp_X6_winner__X00 h))) kt_wg_X6_isGoal
set_option maxRecDepth 20000 in
theorem gX6_winner_X6_isGoal : GoodIn wsX6_winner (wsV RX6 85 RX6 yX6_isGoal wsX6_isGoal) := goodIn_app (a := [.methodLink RX6 85 yX6_isGoal, .instanceMethod yX6_isGoal, .selects RX6 yX6_isGoal yX6_isGoal, .initialized RX6]) (goodIn_sub (kt_wf1 (kt_wp_X6_winner__X6_winner_r1 kt_wm7) (kt_wf1 (kt_wp_X6_winner__X6_winner_r1 kt_wm8) (kt_wf1 (kt_wp_X6_winner__X6_winner_r1 kt_wm9) (kt_wf1 (kt_wp_X6_winner__X6_winner_r1 kt_wm10) kt_wf0)))) (by decide +kernel)) ggX6_winner_X6_isGoal
set_option maxRecDepth 20000 in
theorem kt_wg_X6_canGo : wsX6_canGo.all goodWord = true := by decide +kernel
set_option maxRecDepth 20000 in
theorem ggX6_winner_X6_canGo : GoodIn wsX6_winner wsX6_canGo := goodIn_sub (kt_wf1 (kt_wp_X6_winner__X6_winner_r1 kt_wm16) (kt_wfa (kt_wfa (kt_wfa (kt_wfa (kt_wfa (kt_wf1 (kt_wp_X6_winner__X6_winner_r1 kt_wm17) (kt_wf1 (kt_wp_X6_winner__X6_winner_r1 kt_wm18) (kt_wf1 (kt_wp_X6_winner__X6_winner_r1 kt_wm19) (kt_wf1 (kt_wp_X6_winner__X6_winner_r1 kt_wm20) (kt_wf1 (kt_wp_X6_winner__X6_winner_r1 kt_wm21) (kt_wf1 (kt_wp_X6_winner__X6_winner_r1 kt_wm10) (kt_wf1 (kt_wp_X6_winner__X6_winner_r1 kt_wm22) (kt_wf1 (kt_wp_X6_winner__X6_winner_r1 kt_wm0) (kt_wf1 (kt_wp_X6_winner__X6_winner_r1 kt_wm23) (kt_wf1 (kt_wp_X6_winner__X6_winner_r1 kt_wm12) (kt_wf1 (kt_wp_X6_winner__X6_winner_r1 kt_wm1) (kt_wf1 (kt_wp_X6_winner__X6_winner_r1 kt_wm2) (kt_wf1 (kt_wp_X6_winner__X6_winner_r1 kt_wm3) (kt_wf1 (kt_wp_X6_winner__X6_winner_r1 kt_wm4) (kt_wf1 (kt_wp_X6_winner__X6_winner_r1 kt_wm5) (kt_wf1 (kt_wp_X6_winner__X6_winner_r1 kt_wm6) (kt_wf1 (kt_wp_X6_winner__X6_winner_r2 kt_wm0) (kt_wf1 (kt_wp_X6_winner__X6_winner_r2 kt_wm1) (kt_wf1 (kt_wp_X6_winner__X6_winner_r2 kt_wm2) (kt_wf1 (kt_wp_X6_winner__X6_winner_r2 kt_wm3) (kt_wf1 (kt_wp_X6_winner__X6_winner_r2 kt_wm4) (kt_wf1 (kt_wp_X6_winner__X6_winner_r2 kt_wm5) (kt_wf1 (kt_wp_X6_winner__X6_winner_r2 kt_wm6) (kt_wf1 (kt_wp_X6_winner__X6_winner_r2 kt_wm7) kt_wf0)))))))))))))))))))))))) (kt_wf1 (kt_wp_X6_winner__X6_winner_r2 kt_wm8) (kt_wf1 (kt_wp_X6_winner__X6_winner_r2 kt_wm9) (kt_wf1 (kt_wp_X6_winner__X6_winner_r2 kt_wm10) (kt_wf1 (kt_wp_X6_winner__X6_winner_r2 kt_wm11) (kt_wf1 (kt_wp_X6_winner__X6_winner_r2 kt_wm12) (kt_wf1 (kt_wp_X6_winner__X6_winner_r2 kt_wm13) (kt_wf1 (kt_wp_X6_winner__X6_winner_r2 kt_wm14) (kt_wf1 (kt_wp_X6_winner__X6_winner_r2 kt_wm15) kt_wf0))))))))) (fun _ h => kt_wp_X6_winner__X60 h)) (fun _ h => kt_wp_X6_winner__X80 h)) (fun _ h => kt_wp_X6_winner__X10 h)) (fun _ h => kt_wp_X6_winner__X00 h))) kt_wg_X6_canGo
set_option maxRecDepth 20000 in
theorem gX6_winner_X6_canGo : GoodIn wsX6_winner (wsV RX6 89 RX6 yX6_canGo wsX6_canGo) := goodIn_app (a := [.methodLink RX6 89 yX6_canGo, .instanceMethod yX6_canGo, .selects RX6 yX6_canGo yX6_canGo, .initialized RX6]) (goodIn_sub (kt_wf1 (kt_wp_X6_winner__X6_winner_r1 kt_wm13) (kt_wf1 (kt_wp_X6_winner__X6_winner_r1 kt_wm14) (kt_wf1 (kt_wp_X6_winner__X6_winner_r1 kt_wm15) (kt_wf1 (kt_wp_X6_winner__X6_winner_r1 kt_wm10) kt_wf0)))) (by decide +kernel)) ggX6_winner_X6_canGo
theorem sX6_winner_0 : kt_sg cX6_winner 0 [43, 42, 180, 0, 29, 182, 0, 61, 61, 28, 2, 160, 0, 5, 4, 172, 42, 28, 182, 0, 85, 153, 0, 5, 3, 172, 42, 43, 182, 0, 89, 153, 0, 7, 2, 167, 0, 9, 4, 43, 180, 0, 82, 100, 172] = true := by decide +kernel
theorem dX6_winner_0 : decode cX6_winner 0 = .ok (.aload_n 1, 1) := kt_o43 (j := 0) sX6_winner_0 rfl
theorem dX6_winner_1 : decode cX6_winner 1 = .ok (.aload_n 0, 1) := kt_o42 (j := 1) sX6_winner_0 rfl
theorem dX6_winner_2 : decode cX6_winner 2 = .ok (.getfield 29, 3) := kt_o180 (j := 2) sX6_winner_0 rfl rfl
theorem dX6_winner_5 : decode cX6_winner 5 = .ok (.invokevirtual 61, 3) := kt_o182 (j := 5) sX6_winner_0 rfl rfl
theorem dX6_winner_8 : decode cX6_winner 8 = .ok (.istore_n 2, 1) := kt_o61 (j := 8) sX6_winner_0 rfl
theorem dX6_winner_9 : decode cX6_winner 9 = .ok (.iload_n 2, 1) := kt_o28 (j := 9) sX6_winner_0 rfl
theorem dX6_winner_10 : decode cX6_winner 10 = .ok (.iconst (-1), 1) := kt_o2 (j := 10) sX6_winner_0 rfl
theorem dX6_winner_11 : decode cX6_winner 11 = .ok (.if_icmp .ne 5, 3) := kt_o160 (j := 11) sX6_winner_0 rfl (by decide +kernel)
theorem dX6_winner_14 : decode cX6_winner 14 = .ok (.iconst 1, 1) := kt_o4 (j := 14) sX6_winner_0 rfl
theorem dX6_winner_15 : decode cX6_winner 15 = .ok (.ireturn, 1) := kt_o172 (j := 15) sX6_winner_0 rfl
theorem dX6_winner_16 : decode cX6_winner 16 = .ok (.aload_n 0, 1) := kt_o42 (j := 16) sX6_winner_0 rfl
theorem dX6_winner_17 : decode cX6_winner 17 = .ok (.iload_n 2, 1) := kt_o28 (j := 17) sX6_winner_0 rfl
theorem dX6_winner_18 : decode cX6_winner 18 = .ok (.invokevirtual 85, 3) := kt_o182 (j := 18) sX6_winner_0 rfl rfl
theorem dX6_winner_21 : decode cX6_winner 21 = .ok (.ifCond .eq 5, 3) := kt_o153 (j := 21) sX6_winner_0 rfl (by decide +kernel)
theorem dX6_winner_24 : decode cX6_winner 24 = .ok (.iconst 0, 1) := kt_o3 (j := 24) sX6_winner_0 rfl
theorem dX6_winner_25 : decode cX6_winner 25 = .ok (.ireturn, 1) := kt_o172 (j := 25) sX6_winner_0 rfl
theorem dX6_winner_26 : decode cX6_winner 26 = .ok (.aload_n 0, 1) := kt_o42 (j := 26) sX6_winner_0 rfl
theorem dX6_winner_27 : decode cX6_winner 27 = .ok (.aload_n 1, 1) := kt_o43 (j := 27) sX6_winner_0 rfl
theorem dX6_winner_28 : decode cX6_winner 28 = .ok (.invokevirtual 89, 3) := kt_o182 (j := 28) sX6_winner_0 rfl rfl
theorem dX6_winner_31 : decode cX6_winner 31 = .ok (.ifCond .eq 7, 3) := kt_o153 (j := 31) sX6_winner_0 rfl (by decide +kernel)
theorem dX6_winner_34 : decode cX6_winner 34 = .ok (.iconst (-1), 1) := kt_o2 (j := 34) sX6_winner_0 rfl
theorem dX6_winner_35 : decode cX6_winner 35 = .ok (.goto 9, 3) := kt_o167 (j := 35) sX6_winner_0 rfl (by decide +kernel)
theorem dX6_winner_38 : decode cX6_winner 38 = .ok (.iconst 1, 1) := kt_o4 (j := 38) sX6_winner_0 rfl
theorem dX6_winner_39 : decode cX6_winner 39 = .ok (.aload_n 1, 1) := kt_o43 (j := 39) sX6_winner_0 rfl
theorem dX6_winner_40 : decode cX6_winner 40 = .ok (.getfield 82, 3) := kt_o180 (j := 40) sX6_winner_0 rfl rfl
theorem dX6_winner_43 : decode cX6_winner 43 = .ok (.isub, 1) := kt_o100 (j := 43) sX6_winner_0 rfl
theorem dX6_winner_44 : decode cX6_winner 44 = .ok (.ireturn, 1) := kt_o172 (j := 44) sX6_winner_0 rfl
theorem kt_wp_X6_findVictims__X6_findVictims_r1 {w : Cond} (h : w ∈ wsX6_findVictims_r1) : w ∈ wsX6_findVictims := List.mem_cons_of_mem _ (List.mem_append_left _ (List.mem_append_left _ (List.mem_append_left _ (List.mem_append_left _ (List.mem_append_left _ (h))))))
theorem kt_wp_X6_findVictims__X6_findVictims_r2 {w : Cond} (h : w ∈ wsX6_findVictims_r2) : w ∈ wsX6_findVictims := List.mem_cons_of_mem _ (List.mem_append_left _ (List.mem_append_left _ (List.mem_append_left _ (List.mem_append_left _ (List.mem_append_right _ (h))))))
theorem kt_wp_X6_findVictims__X60 {w : Cond} (h : w ∈ wsX60) : w ∈ wsX6_findVictims := List.mem_cons_of_mem _ (List.mem_append_left _ (List.mem_append_left _ (List.mem_append_left _ (List.mem_append_right _ (h)))))
theorem kt_wp_X6_findVictims__X80 {w : Cond} (h : w ∈ wsX80) : w ∈ wsX6_findVictims := List.mem_cons_of_mem _ (List.mem_append_left _ (List.mem_append_left _ (List.mem_append_right _ (h))))
theorem kt_wp_X6_findVictims__X00 {w : Cond} (h : w ∈ wsX00) : w ∈ wsX6_findVictims := List.mem_cons_of_mem _ (List.mem_append_left _ (List.mem_append_right _ (h)))
theorem kt_wp_X6_findVictims__X10 {w : Cond} (h : w ∈ wsX10) : w ∈ wsX6_findVictims := List.mem_cons_of_mem _ (List.mem_append_right _ (h))
set_option maxRecDepth 20000 in
theorem ggX6_findVictims_X6_isPiece : GoodIn wsX6_findVictims wsX6_isPiece := goodIn_sub (kt_wf1 (kt_wp_X6_findVictims__X6_findVictims_r1 kt_wm8) (kt_wfa (kt_wf1 (kt_wp_X6_findVictims__X6_findVictims_r1 kt_wm9) kt_wf0) (fun _ h => kt_wp_X6_findVictims__X60 h))) kt_wg_X6_isPiece
set_option maxRecDepth 20000 in
theorem gX6_findVictims_X6_isPiece : GoodIn wsX6_findVictims (wsV RX6 96 RX6 yX6_isPiece wsX6_isPiece) := goodIn_app (a := [.methodLink RX6 96 yX6_isPiece, .instanceMethod yX6_isPiece, .selects RX6 yX6_isPiece yX6_isPiece, .initialized RX6]) (goodIn_sub (kt_wf1 (kt_wp_X6_findVictims__X6_findVictims_r1 kt_wm4) (kt_wf1 (kt_wp_X6_findVictims__X6_findVictims_r1 kt_wm5) (kt_wf1 (kt_wp_X6_findVictims__X6_findVictims_r1 kt_wm6) (kt_wf1 (kt_wp_X6_findVictims__X6_findVictims_r1 kt_wm7) kt_wf0)))) (by decide +kernel)) ggX6_findVictims_X6_isPiece
set_option maxRecDepth 20000 in
theorem ggX6_findVictims_X8_fieldOf : GoodIn wsX6_findVictims wsX8_fieldOf := goodIn_sub (kt_wf1 (kt_wp_X6_findVictims__X6_findVictims_r1 kt_wm14) (kt_wfa (kt_wf1 (kt_wp_X6_findVictims__X6_findVictims_r1 kt_wm15) kt_wf0) (fun _ h => kt_wp_X6_findVictims__X80 h))) kt_wg_X8_fieldOf
set_option maxRecDepth 20000 in
theorem gX6_findVictims_X8_fieldOf : GoodIn wsX6_findVictims (wsV RX6 61 RX8 yX8_fieldOf wsX8_fieldOf) := goodIn_app (a := [.methodLink RX6 61 yX8_fieldOf, .instanceMethod yX8_fieldOf, .selects RX8 yX8_fieldOf yX8_fieldOf, .initialized RX8]) (goodIn_sub (kt_wf1 (kt_wp_X6_findVictims__X6_findVictims_r1 kt_wm10) (kt_wf1 (kt_wp_X6_findVictims__X6_findVictims_r1 kt_wm11) (kt_wf1 (kt_wp_X6_findVictims__X6_findVictims_r1 kt_wm12) (kt_wf1 (kt_wp_X6_findVictims__X6_findVictims_r1 kt_wm13) kt_wf0)))) (by decide +kernel)) ggX6_findVictims_X8_fieldOf
set_option maxRecDepth 20000 in
theorem ggX6_findVictims_X8_place : GoodIn wsX6_findVictims wsX8_place := goodIn_sub (kt_wf1 (kt_wp_X6_findVictims__X6_findVictims_r1 kt_wm19) (kt_wfa (kt_wf1 (kt_wp_X6_findVictims__X6_findVictims_r1 kt_wm15) (kt_wf1 (kt_wp_X6_findVictims__X6_findVictims_r1 kt_wm20) kt_wf0)) (fun _ h => kt_wp_X6_findVictims__X80 h))) kt_wg_X8_place
set_option maxRecDepth 20000 in
theorem gX6_findVictims_X8_place : GoodIn wsX6_findVictims (wsV RX6 99 RX8 yX8_place wsX8_place) := goodIn_app (a := [.methodLink RX6 99 yX8_place, .instanceMethod yX8_place, .selects RX8 yX8_place yX8_place, .initialized RX8]) (goodIn_sub (kt_wf1 (kt_wp_X6_findVictims__X6_findVictims_r1 kt_wm16) (kt_wf1 (kt_wp_X6_findVictims__X6_findVictims_r1 kt_wm17) (kt_wf1 (kt_wp_X6_findVictims__X6_findVictims_r1 kt_wm18) (kt_wf1 (kt_wp_X6_findVictims__X6_findVictims_r1 kt_wm13) kt_wf0)))) (by decide +kernel)) ggX6_findVictims_X8_place
set_option maxRecDepth 20000 in
theorem ggX6_findVictims_X0_beside : GoodIn wsX6_findVictims wsX0_beside := goodIn_sub (kt_wf1 (kt_wp_X6_findVictims__X6_findVictims_r2 kt_wm1) (kt_wfa (kt_wf1 (kt_wp_X6_findVictims__X6_findVictims_r2 kt_wm2) (kt_wf1 (kt_wp_X6_findVictims__X6_findVictims_r2 kt_wm3) kt_wf0)) (fun _ h => kt_wp_X6_findVictims__X00 h))) kt_wg_X0_beside
set_option maxRecDepth 20000 in
theorem gX6_findVictims_X0_beside : GoodIn wsX6_findVictims (wsV RX6 67 RX0 yX0_beside wsX0_beside) := goodIn_app (a := [.methodLink RX6 67 yX0_beside, .instanceMethod yX0_beside, .selects RX0 yX0_beside yX0_beside, .initialized RX0]) (goodIn_sub (kt_wf1 (kt_wp_X6_findVictims__X6_findVictims_r1 kt_wm21) (kt_wf1 (kt_wp_X6_findVictims__X6_findVictims_r1 kt_wm22) (kt_wf1 (kt_wp_X6_findVictims__X6_findVictims_r1 kt_wm23) (kt_wf1 (kt_wp_X6_findVictims__X6_findVictims_r2 kt_wm0) kt_wf0)))) (by decide +kernel)) ggX6_findVictims_X0_beside
set_option maxRecDepth 20000 in
theorem ggX6_findVictims_X8_holderOf : GoodIn wsX6_findVictims wsX8_holderOf := goodIn_sub (kt_wf1 (kt_wp_X6_findVictims__X6_findVictims_r2 kt_wm7) (kt_wfa (kt_wf1 (kt_wp_X6_findVictims__X6_findVictims_r1 kt_wm20) kt_wf0) (fun _ h => kt_wp_X6_findVictims__X80 h))) kt_wg_X8_holderOf
set_option maxRecDepth 20000 in
theorem gX6_findVictims_X8_holderOf : GoodIn wsX6_findVictims (wsV RX6 71 RX8 yX8_holderOf wsX8_holderOf) := goodIn_app (a := [.methodLink RX6 71 yX8_holderOf, .instanceMethod yX8_holderOf, .selects RX8 yX8_holderOf yX8_holderOf, .initialized RX8]) (goodIn_sub (kt_wf1 (kt_wp_X6_findVictims__X6_findVictims_r2 kt_wm4) (kt_wf1 (kt_wp_X6_findVictims__X6_findVictims_r2 kt_wm5) (kt_wf1 (kt_wp_X6_findVictims__X6_findVictims_r2 kt_wm6) (kt_wf1 (kt_wp_X6_findVictims__X6_findVictims_r1 kt_wm13) kt_wf0)))) (by decide +kernel)) ggX6_findVictims_X8_holderOf
set_option maxRecDepth 20000 in
theorem kt_wg_X6_isCaught : wsX6_isCaught.all goodWord = true := by decide +kernel
set_option maxRecDepth 20000 in
theorem ggX6_findVictims_X6_isCaught : GoodIn wsX6_findVictims wsX6_isCaught := goodIn_sub (kt_wf1 (kt_wp_X6_findVictims__X6_findVictims_r2 kt_wm11) (kt_wfa (kt_wfa (kt_wfa (kt_wfa (kt_wfa (kt_wf1 (kt_wp_X6_findVictims__X6_findVictims_r2 kt_wm12) (kt_wf1 (kt_wp_X6_findVictims__X6_findVictims_r2 kt_wm13) (kt_wf1 (kt_wp_X6_findVictims__X6_findVictims_r2 kt_wm14) (kt_wf1 (kt_wp_X6_findVictims__X6_findVictims_r1 kt_wm2) (kt_wf1 (kt_wp_X6_findVictims__X6_findVictims_r1 kt_wm3) (kt_wf1 (kt_wp_X6_findVictims__X6_findVictims_r1 kt_wm10) (kt_wf1 (kt_wp_X6_findVictims__X6_findVictims_r1 kt_wm11) (kt_wf1 (kt_wp_X6_findVictims__X6_findVictims_r1 kt_wm12) (kt_wf1 (kt_wp_X6_findVictims__X6_findVictims_r1 kt_wm13) (kt_wf1 (kt_wp_X6_findVictims__X6_findVictims_r1 kt_wm14) (kt_wf1 (kt_wp_X6_findVictims__X6_findVictims_r1 kt_wm15) (kt_wf1 (kt_wp_X6_findVictims__X6_findVictims_r1 kt_wm21) (kt_wf1 (kt_wp_X6_findVictims__X6_findVictims_r1 kt_wm22) (kt_wf1 (kt_wp_X6_findVictims__X6_findVictims_r1 kt_wm23) (kt_wf1 (kt_wp_X6_findVictims__X6_findVictims_r2 kt_wm0) (kt_wf1 (kt_wp_X6_findVictims__X6_findVictims_r2 kt_wm1) (kt_wf1 (kt_wp_X6_findVictims__X6_findVictims_r2 kt_wm2) (kt_wf1 (kt_wp_X6_findVictims__X6_findVictims_r2 kt_wm3) (kt_wf1 (kt_wp_X6_findVictims__X6_findVictims_r2 kt_wm15) (kt_wf1 (kt_wp_X6_findVictims__X6_findVictims_r2 kt_wm16) (kt_wf1 (kt_wp_X6_findVictims__X6_findVictims_r2 kt_wm17) (kt_wf1 (kt_wp_X6_findVictims__X6_findVictims_r1 kt_wm7) (kt_wf1 (kt_wp_X6_findVictims__X6_findVictims_r2 kt_wm18) (kt_wf1 (kt_wp_X6_findVictims__X6_findVictims_r1 kt_wm9) kt_wf0)))))))))))))))))))))))) (kt_wf1 (kt_wp_X6_findVictims__X6_findVictims_r1 kt_wm1) kt_wf0)) (fun _ h => kt_wp_X6_findVictims__X60 h)) (fun _ h => kt_wp_X6_findVictims__X10 h)) (fun _ h => kt_wp_X6_findVictims__X80 h)) (fun _ h => kt_wp_X6_findVictims__X00 h))) kt_wg_X6_isCaught
set_option maxRecDepth 20000 in
theorem gX6_findVictims_X6_isCaught : GoodIn wsX6_findVictims (wsV RX6 103 RX6 yX6_isCaught wsX6_isCaught) := goodIn_app (a := [.methodLink RX6 103 yX6_isCaught, .instanceMethod yX6_isCaught, .selects RX6 yX6_isCaught yX6_isCaught, .initialized RX6]) (goodIn_sub (kt_wf1 (kt_wp_X6_findVictims__X6_findVictims_r2 kt_wm8) (kt_wf1 (kt_wp_X6_findVictims__X6_findVictims_r2 kt_wm9) (kt_wf1 (kt_wp_X6_findVictims__X6_findVictims_r2 kt_wm10) (kt_wf1 (kt_wp_X6_findVictims__X6_findVictims_r1 kt_wm7) kt_wf0)))) (by decide +kernel)) ggX6_findVictims_X6_isCaught
set_option maxRecDepth 20000 in
theorem kt_wg_X6_addVictim : wsX6_addVictim.all goodWord = true := by decide +kernel
set_option maxRecDepth 20000 in
theorem ggX6_findVictims_X6_addVictim : GoodIn wsX6_findVictims wsX6_addVictim := goodIn_sub (kt_wf1 (kt_wp_X6_findVictims__X6_findVictims_r2 kt_wm22) (kt_wfa (kt_wf1 (kt_wp_X6_findVictims__X6_findVictims_r1 kt_wm0) (kt_wf1 (kt_wp_X6_findVictims__X6_findVictims_r2 kt_wm23) kt_wf0)) (fun _ h => kt_wp_X6_findVictims__X60 h))) kt_wg_X6_addVictim
set_option maxRecDepth 20000 in
theorem gX6_findVictims_X6_addVictim : GoodIn wsX6_findVictims (wsV RX6 107 RX6 yX6_addVictim wsX6_addVictim) := goodIn_app (a := [.methodLink RX6 107 yX6_addVictim, .instanceMethod yX6_addVictim, .selects RX6 yX6_addVictim yX6_addVictim, .initialized RX6]) (goodIn_sub (kt_wf1 (kt_wp_X6_findVictims__X6_findVictims_r2 kt_wm19) (kt_wf1 (kt_wp_X6_findVictims__X6_findVictims_r2 kt_wm20) (kt_wf1 (kt_wp_X6_findVictims__X6_findVictims_r2 kt_wm21) (kt_wf1 (kt_wp_X6_findVictims__X6_findVictims_r1 kt_wm7) kt_wf0)))) (by decide +kernel)) ggX6_findVictims_X6_addVictim
theorem sX6_findVictims_0 : kt_sg cX6_findVictims 0 [42, 3, 181, 0, 93, 42, 28, 182, 0, 96, 153, 0, 12, 42, 180, 0, 25, 28, 51, 154, 0, 5, 3, 172, 43, 28, 182, 0, 61, 54, 4, 43, 28, 29, 182, 0, 99, 3, 54, 5, 21, 5, 7, 162, 0, 72, 42, 180, 0, 12, 29, 21, 5, 182, 0, 67, 54, 6, 43, 21, 6, 182, 0, 71] = true := by decide +kernel
theorem dX6_findVictims_0 : decode cX6_findVictims 0 = .ok (.aload_n 0, 1) := kt_o42 (j := 0) sX6_findVictims_0 rfl
theorem dX6_findVictims_1 : decode cX6_findVictims 1 = .ok (.iconst 0, 1) := kt_o3 (j := 1) sX6_findVictims_0 rfl
theorem dX6_findVictims_2 : decode cX6_findVictims 2 = .ok (.putfield 93, 3) := kt_o181 (j := 2) sX6_findVictims_0 rfl rfl
theorem dX6_findVictims_5 : decode cX6_findVictims 5 = .ok (.aload_n 0, 1) := kt_o42 (j := 5) sX6_findVictims_0 rfl
theorem dX6_findVictims_6 : decode cX6_findVictims 6 = .ok (.iload_n 2, 1) := kt_o28 (j := 6) sX6_findVictims_0 rfl
theorem dX6_findVictims_7 : decode cX6_findVictims 7 = .ok (.invokevirtual 96, 3) := kt_o182 (j := 7) sX6_findVictims_0 rfl rfl
theorem dX6_findVictims_10 : decode cX6_findVictims 10 = .ok (.ifCond .eq 12, 3) := kt_o153 (j := 10) sX6_findVictims_0 rfl (by decide +kernel)
theorem dX6_findVictims_13 : decode cX6_findVictims 13 = .ok (.aload_n 0, 1) := kt_o42 (j := 13) sX6_findVictims_0 rfl
theorem dX6_findVictims_14 : decode cX6_findVictims 14 = .ok (.getfield 25, 3) := kt_o180 (j := 14) sX6_findVictims_0 rfl rfl
theorem dX6_findVictims_17 : decode cX6_findVictims 17 = .ok (.iload_n 2, 1) := kt_o28 (j := 17) sX6_findVictims_0 rfl
theorem dX6_findVictims_18 : decode cX6_findVictims 18 = .ok (.baload, 1) := kt_o51 (j := 18) sX6_findVictims_0 rfl
theorem dX6_findVictims_19 : decode cX6_findVictims 19 = .ok (.ifCond .ne 5, 3) := kt_o154 (j := 19) sX6_findVictims_0 rfl (by decide +kernel)
theorem dX6_findVictims_22 : decode cX6_findVictims 22 = .ok (.iconst 0, 1) := kt_o3 (j := 22) sX6_findVictims_0 rfl
theorem dX6_findVictims_23 : decode cX6_findVictims 23 = .ok (.ireturn, 1) := kt_o172 (j := 23) sX6_findVictims_0 rfl
theorem dX6_findVictims_24 : decode cX6_findVictims 24 = .ok (.aload_n 1, 1) := kt_o43 (j := 24) sX6_findVictims_0 rfl
theorem dX6_findVictims_25 : decode cX6_findVictims 25 = .ok (.iload_n 2, 1) := kt_o28 (j := 25) sX6_findVictims_0 rfl
theorem dX6_findVictims_26 : decode cX6_findVictims 26 = .ok (.invokevirtual 61, 3) := kt_o182 (j := 26) sX6_findVictims_0 rfl rfl
theorem dX6_findVictims_29 : decode cX6_findVictims 29 = .ok (.istore 4, 2) := kt_o54 (j := 29) sX6_findVictims_0 rfl
theorem dX6_findVictims_31 : decode cX6_findVictims 31 = .ok (.aload_n 1, 1) := kt_o43 (j := 31) sX6_findVictims_0 rfl
theorem dX6_findVictims_32 : decode cX6_findVictims 32 = .ok (.iload_n 2, 1) := kt_o28 (j := 32) sX6_findVictims_0 rfl
theorem dX6_findVictims_33 : decode cX6_findVictims 33 = .ok (.iload_n 3, 1) := kt_o29 (j := 33) sX6_findVictims_0 rfl
theorem dX6_findVictims_34 : decode cX6_findVictims 34 = .ok (.invokevirtual 99, 3) := kt_o182 (j := 34) sX6_findVictims_0 rfl rfl
theorem dX6_findVictims_37 : decode cX6_findVictims 37 = .ok (.iconst 0, 1) := kt_o3 (j := 37) sX6_findVictims_0 rfl
theorem dX6_findVictims_38 : decode cX6_findVictims 38 = .ok (.istore 5, 2) := kt_o54 (j := 38) sX6_findVictims_0 rfl
theorem dX6_findVictims_40 : decode cX6_findVictims 40 = .ok (.iload 5, 2) := kt_o21 (j := 40) sX6_findVictims_0 rfl
theorem dX6_findVictims_42 : decode cX6_findVictims 42 = .ok (.iconst 4, 1) := kt_o7 (j := 42) sX6_findVictims_0 rfl
theorem dX6_findVictims_43 : decode cX6_findVictims 43 = .ok (.if_icmp .ge 72, 3) := kt_o162 (j := 43) sX6_findVictims_0 rfl (by decide +kernel)
theorem dX6_findVictims_46 : decode cX6_findVictims 46 = .ok (.aload_n 0, 1) := kt_o42 (j := 46) sX6_findVictims_0 rfl
theorem dX6_findVictims_47 : decode cX6_findVictims 47 = .ok (.getfield 12, 3) := kt_o180 (j := 47) sX6_findVictims_0 rfl rfl
theorem dX6_findVictims_50 : decode cX6_findVictims 50 = .ok (.iload_n 3, 1) := kt_o29 (j := 50) sX6_findVictims_0 rfl
theorem dX6_findVictims_51 : decode cX6_findVictims 51 = .ok (.iload 5, 2) := kt_o21 (j := 51) sX6_findVictims_0 rfl
theorem dX6_findVictims_53 : decode cX6_findVictims 53 = .ok (.invokevirtual 67, 3) := kt_o182 (j := 53) sX6_findVictims_0 rfl rfl
theorem dX6_findVictims_56 : decode cX6_findVictims 56 = .ok (.istore 6, 2) := kt_o54 (j := 56) sX6_findVictims_0 rfl
theorem dX6_findVictims_58 : decode cX6_findVictims 58 = .ok (.aload_n 1, 1) := kt_o43 (j := 58) sX6_findVictims_0 rfl
theorem dX6_findVictims_59 : decode cX6_findVictims 59 = .ok (.iload 6, 2) := kt_o21 (j := 59) sX6_findVictims_0 rfl
theorem dX6_findVictims_61 : decode cX6_findVictims 61 = .ok (.invokevirtual 71, 3) := kt_o182 (j := 61) sX6_findVictims_0 rfl rfl
theorem sX6_findVictims_64 : kt_sg cX6_findVictims 64 [54, 7, 42, 21, 7, 182, 0, 96, 153, 0, 37, 42, 180, 0, 22, 21, 7, 46, 42, 180, 0, 22, 28, 46, 159, 0, 21, 42, 43, 21, 7, 21, 5, 182, 0, 103, 153, 0, 9, 42, 21, 7, 182, 0, 107, 132, 5, 1, 167, 255, 184, 43, 28, 21, 4, 182, 0, 99, 42, 180, 0, 93, 172] = true := by decide +kernel
theorem dX6_findVictims_64 : decode cX6_findVictims 64 = .ok (.istore 7, 2) := kt_o54 (j := 0) sX6_findVictims_64 rfl
theorem dX6_findVictims_66 : decode cX6_findVictims 66 = .ok (.aload_n 0, 1) := kt_o42 (j := 2) sX6_findVictims_64 rfl
theorem dX6_findVictims_67 : decode cX6_findVictims 67 = .ok (.iload 7, 2) := kt_o21 (j := 3) sX6_findVictims_64 rfl
theorem dX6_findVictims_69 : decode cX6_findVictims 69 = .ok (.invokevirtual 96, 3) := kt_o182 (j := 5) sX6_findVictims_64 rfl rfl
theorem dX6_findVictims_72 : decode cX6_findVictims 72 = .ok (.ifCond .eq 37, 3) := kt_o153 (j := 8) sX6_findVictims_64 rfl (by decide +kernel)
theorem dX6_findVictims_75 : decode cX6_findVictims 75 = .ok (.aload_n 0, 1) := kt_o42 (j := 11) sX6_findVictims_64 rfl
theorem dX6_findVictims_76 : decode cX6_findVictims 76 = .ok (.getfield 22, 3) := kt_o180 (j := 12) sX6_findVictims_64 rfl rfl
theorem dX6_findVictims_79 : decode cX6_findVictims 79 = .ok (.iload 7, 2) := kt_o21 (j := 15) sX6_findVictims_64 rfl
theorem dX6_findVictims_81 : decode cX6_findVictims 81 = .ok (.iaload, 1) := kt_o46 (j := 17) sX6_findVictims_64 rfl
theorem dX6_findVictims_82 : decode cX6_findVictims 82 = .ok (.aload_n 0, 1) := kt_o42 (j := 18) sX6_findVictims_64 rfl
theorem dX6_findVictims_83 : decode cX6_findVictims 83 = .ok (.getfield 22, 3) := kt_o180 (j := 19) sX6_findVictims_64 rfl rfl
theorem dX6_findVictims_86 : decode cX6_findVictims 86 = .ok (.iload_n 2, 1) := kt_o28 (j := 22) sX6_findVictims_64 rfl
theorem dX6_findVictims_87 : decode cX6_findVictims 87 = .ok (.iaload, 1) := kt_o46 (j := 23) sX6_findVictims_64 rfl
theorem dX6_findVictims_88 : decode cX6_findVictims 88 = .ok (.if_icmp .eq 21, 3) := kt_o159 (j := 24) sX6_findVictims_64 rfl (by decide +kernel)
theorem dX6_findVictims_91 : decode cX6_findVictims 91 = .ok (.aload_n 0, 1) := kt_o42 (j := 27) sX6_findVictims_64 rfl
theorem dX6_findVictims_92 : decode cX6_findVictims 92 = .ok (.aload_n 1, 1) := kt_o43 (j := 28) sX6_findVictims_64 rfl
theorem dX6_findVictims_93 : decode cX6_findVictims 93 = .ok (.iload 7, 2) := kt_o21 (j := 29) sX6_findVictims_64 rfl
theorem dX6_findVictims_95 : decode cX6_findVictims 95 = .ok (.iload 5, 2) := kt_o21 (j := 31) sX6_findVictims_64 rfl
theorem dX6_findVictims_97 : decode cX6_findVictims 97 = .ok (.invokevirtual 103, 3) := kt_o182 (j := 33) sX6_findVictims_64 rfl rfl
theorem dX6_findVictims_100 : decode cX6_findVictims 100 = .ok (.ifCond .eq 9, 3) := kt_o153 (j := 36) sX6_findVictims_64 rfl (by decide +kernel)
theorem dX6_findVictims_103 : decode cX6_findVictims 103 = .ok (.aload_n 0, 1) := kt_o42 (j := 39) sX6_findVictims_64 rfl
theorem dX6_findVictims_104 : decode cX6_findVictims 104 = .ok (.iload 7, 2) := kt_o21 (j := 40) sX6_findVictims_64 rfl
theorem dX6_findVictims_106 : decode cX6_findVictims 106 = .ok (.invokevirtual 107, 3) := kt_o182 (j := 42) sX6_findVictims_64 rfl rfl
theorem dX6_findVictims_109 : decode cX6_findVictims 109 = .ok (.iinc 5 1, 3) := kt_o132 (j := 45) sX6_findVictims_64 rfl (by decide +kernel)
theorem dX6_findVictims_112 : decode cX6_findVictims 112 = .ok (.goto (-72), 3) := kt_o167 (j := 48) sX6_findVictims_64 rfl (by decide +kernel)
theorem dX6_findVictims_115 : decode cX6_findVictims 115 = .ok (.aload_n 1, 1) := kt_o43 (j := 51) sX6_findVictims_64 rfl
theorem dX6_findVictims_116 : decode cX6_findVictims 116 = .ok (.iload_n 2, 1) := kt_o28 (j := 52) sX6_findVictims_64 rfl
theorem dX6_findVictims_117 : decode cX6_findVictims 117 = .ok (.iload 4, 2) := kt_o21 (j := 53) sX6_findVictims_64 rfl
theorem dX6_findVictims_119 : decode cX6_findVictims 119 = .ok (.invokevirtual 99, 3) := kt_o182 (j := 55) sX6_findVictims_64 rfl rfl
theorem dX6_findVictims_122 : decode cX6_findVictims 122 = .ok (.aload_n 0, 1) := kt_o42 (j := 58) sX6_findVictims_64 rfl
theorem dX6_findVictims_123 : decode cX6_findVictims 123 = .ok (.getfield 93, 3) := kt_o180 (j := 59) sX6_findVictims_64 rfl rfl
theorem dX6_findVictims_126 : decode cX6_findVictims 126 = .ok (.ireturn, 1) := kt_o172 (j := 62) sX6_findVictims_64 rfl
theorem sX6_addVictim_0 : kt_sg cX6_addVictim 0 [42, 180, 0, 93, 61, 28, 7, 161, 0, 4, 177, 28, 158, 0, 35, 42, 180, 0, 33, 28, 4, 100, 46, 27, 164, 0, 23, 42, 180, 0, 33, 28, 42, 180, 0, 33, 28, 4, 100, 46, 79, 132, 2, 255, 167, 255, 223, 42, 180, 0, 33, 28, 27, 79, 42, 89, 180, 0, 93, 4, 96, 181, 0, 93] = true := by decide +kernel
theorem dX6_addVictim_0 : decode cX6_addVictim 0 = .ok (.aload_n 0, 1) := kt_o42 (j := 0) sX6_addVictim_0 rfl
theorem dX6_addVictim_1 : decode cX6_addVictim 1 = .ok (.getfield 93, 3) := kt_o180 (j := 1) sX6_addVictim_0 rfl rfl
theorem dX6_addVictim_4 : decode cX6_addVictim 4 = .ok (.istore_n 2, 1) := kt_o61 (j := 4) sX6_addVictim_0 rfl
theorem dX6_addVictim_5 : decode cX6_addVictim 5 = .ok (.iload_n 2, 1) := kt_o28 (j := 5) sX6_addVictim_0 rfl
theorem dX6_addVictim_6 : decode cX6_addVictim 6 = .ok (.iconst 4, 1) := kt_o7 (j := 6) sX6_addVictim_0 rfl
theorem dX6_addVictim_7 : decode cX6_addVictim 7 = .ok (.if_icmp .lt 4, 3) := kt_o161 (j := 7) sX6_addVictim_0 rfl (by decide +kernel)
theorem dX6_addVictim_10 : decode cX6_addVictim 10 = .ok (.return_, 1) := kt_o177 (j := 10) sX6_addVictim_0 rfl
theorem dX6_addVictim_11 : decode cX6_addVictim 11 = .ok (.iload_n 2, 1) := kt_o28 (j := 11) sX6_addVictim_0 rfl
theorem dX6_addVictim_12 : decode cX6_addVictim 12 = .ok (.ifCond .le 35, 3) := kt_o158 (j := 12) sX6_addVictim_0 rfl (by decide +kernel)
theorem dX6_addVictim_15 : decode cX6_addVictim 15 = .ok (.aload_n 0, 1) := kt_o42 (j := 15) sX6_addVictim_0 rfl
theorem dX6_addVictim_16 : decode cX6_addVictim 16 = .ok (.getfield 33, 3) := kt_o180 (j := 16) sX6_addVictim_0 rfl rfl
theorem dX6_addVictim_19 : decode cX6_addVictim 19 = .ok (.iload_n 2, 1) := kt_o28 (j := 19) sX6_addVictim_0 rfl
theorem dX6_addVictim_20 : decode cX6_addVictim 20 = .ok (.iconst 1, 1) := kt_o4 (j := 20) sX6_addVictim_0 rfl
theorem dX6_addVictim_21 : decode cX6_addVictim 21 = .ok (.isub, 1) := kt_o100 (j := 21) sX6_addVictim_0 rfl
theorem dX6_addVictim_22 : decode cX6_addVictim 22 = .ok (.iaload, 1) := kt_o46 (j := 22) sX6_addVictim_0 rfl
theorem dX6_addVictim_23 : decode cX6_addVictim 23 = .ok (.iload_n 1, 1) := kt_o27 (j := 23) sX6_addVictim_0 rfl
theorem dX6_addVictim_24 : decode cX6_addVictim 24 = .ok (.if_icmp .le 23, 3) := kt_o164 (j := 24) sX6_addVictim_0 rfl (by decide +kernel)
theorem dX6_addVictim_27 : decode cX6_addVictim 27 = .ok (.aload_n 0, 1) := kt_o42 (j := 27) sX6_addVictim_0 rfl
theorem dX6_addVictim_28 : decode cX6_addVictim 28 = .ok (.getfield 33, 3) := kt_o180 (j := 28) sX6_addVictim_0 rfl rfl
theorem dX6_addVictim_31 : decode cX6_addVictim 31 = .ok (.iload_n 2, 1) := kt_o28 (j := 31) sX6_addVictim_0 rfl
theorem dX6_addVictim_32 : decode cX6_addVictim 32 = .ok (.aload_n 0, 1) := kt_o42 (j := 32) sX6_addVictim_0 rfl
theorem dX6_addVictim_33 : decode cX6_addVictim 33 = .ok (.getfield 33, 3) := kt_o180 (j := 33) sX6_addVictim_0 rfl rfl
theorem dX6_addVictim_36 : decode cX6_addVictim 36 = .ok (.iload_n 2, 1) := kt_o28 (j := 36) sX6_addVictim_0 rfl
theorem dX6_addVictim_37 : decode cX6_addVictim 37 = .ok (.iconst 1, 1) := kt_o4 (j := 37) sX6_addVictim_0 rfl
theorem dX6_addVictim_38 : decode cX6_addVictim 38 = .ok (.isub, 1) := kt_o100 (j := 38) sX6_addVictim_0 rfl
theorem dX6_addVictim_39 : decode cX6_addVictim 39 = .ok (.iaload, 1) := kt_o46 (j := 39) sX6_addVictim_0 rfl
theorem dX6_addVictim_40 : decode cX6_addVictim 40 = .ok (.iastore, 1) := kt_o79 (j := 40) sX6_addVictim_0 rfl
theorem dX6_addVictim_41 : decode cX6_addVictim 41 = .ok (.iinc 2 (-1), 3) := kt_o132 (j := 41) sX6_addVictim_0 rfl (by decide +kernel)
theorem dX6_addVictim_44 : decode cX6_addVictim 44 = .ok (.goto (-33), 3) := kt_o167 (j := 44) sX6_addVictim_0 rfl (by decide +kernel)
theorem dX6_addVictim_47 : decode cX6_addVictim 47 = .ok (.aload_n 0, 1) := kt_o42 (j := 47) sX6_addVictim_0 rfl
theorem dX6_addVictim_48 : decode cX6_addVictim 48 = .ok (.getfield 33, 3) := kt_o180 (j := 48) sX6_addVictim_0 rfl rfl
theorem dX6_addVictim_51 : decode cX6_addVictim 51 = .ok (.iload_n 2, 1) := kt_o28 (j := 51) sX6_addVictim_0 rfl
theorem dX6_addVictim_52 : decode cX6_addVictim 52 = .ok (.iload_n 1, 1) := kt_o27 (j := 52) sX6_addVictim_0 rfl
theorem dX6_addVictim_53 : decode cX6_addVictim 53 = .ok (.iastore, 1) := kt_o79 (j := 53) sX6_addVictim_0 rfl
theorem dX6_addVictim_54 : decode cX6_addVictim 54 = .ok (.aload_n 0, 1) := kt_o42 (j := 54) sX6_addVictim_0 rfl
theorem dX6_addVictim_55 : decode cX6_addVictim 55 = .ok (.dup, 1) := kt_o89 (j := 55) sX6_addVictim_0 rfl
theorem dX6_addVictim_56 : decode cX6_addVictim 56 = .ok (.getfield 93, 3) := kt_o180 (j := 56) sX6_addVictim_0 rfl rfl
theorem dX6_addVictim_59 : decode cX6_addVictim 59 = .ok (.iconst 1, 1) := kt_o4 (j := 59) sX6_addVictim_0 rfl
theorem dX6_addVictim_60 : decode cX6_addVictim 60 = .ok (.iadd, 1) := kt_o96 (j := 60) sX6_addVictim_0 rfl
theorem dX6_addVictim_61 : decode cX6_addVictim 61 = .ok (.putfield 93, 3) := kt_o181 (j := 61) sX6_addVictim_0 rfl rfl
theorem sX6_addVictim_64 : kt_sg cX6_addVictim 64 [177] = true := by decide +kernel
theorem dX6_addVictim_64 : decode cX6_addVictim 64 = .ok (.return_, 1) := kt_o177 (j := 0) sX6_addVictim_64 rfl
theorem kt_wp_X6_isCaught__X6_isCaught_r1 {w : Cond} (h : w ∈ wsX6_isCaught_r1) : w ∈ wsX6_isCaught := List.mem_cons_of_mem _ (List.mem_append_left _ (List.mem_append_left _ (List.mem_append_left _ (List.mem_append_left _ (List.mem_append_left _ (h))))))
theorem kt_wp_X6_isCaught__X6_isCaught_r2 {w : Cond} (h : w ∈ wsX6_isCaught_r2) : w ∈ wsX6_isCaught := List.mem_cons_of_mem _ (List.mem_append_left _ (List.mem_append_left _ (List.mem_append_left _ (List.mem_append_left _ (List.mem_append_right _ (h))))))
theorem kt_wp_X6_isCaught__X60 {w : Cond} (h : w ∈ wsX60) : w ∈ wsX6_isCaught := List.mem_cons_of_mem _ (List.mem_append_left _ (List.mem_append_left _ (List.mem_append_left _ (List.mem_append_right _ (h)))))
theorem kt_wp_X6_isCaught__X10 {w : Cond} (h : w ∈ wsX10) : w ∈ wsX6_isCaught := List.mem_cons_of_mem _ (List.mem_append_left _ (List.mem_append_left _ (List.mem_append_right _ (h))))
theorem kt_wp_X6_isCaught__X80 {w : Cond} (h : w ∈ wsX80) : w ∈ wsX6_isCaught := List.mem_cons_of_mem _ (List.mem_append_left _ (List.mem_append_right _ (h)))
theorem kt_wp_X6_isCaught__X00 {w : Cond} (h : w ∈ wsX00) : w ∈ wsX6_isCaught := List.mem_cons_of_mem _ (List.mem_append_right _ (h))
set_option maxRecDepth 20000 in
theorem ggX6_isCaught_X8_fieldOf : GoodIn wsX6_isCaught wsX8_fieldOf := goodIn_sub (kt_wf1 (kt_wp_X6_isCaught__X6_isCaught_r1 kt_wm9) (kt_wfa (kt_wf1 (kt_wp_X6_isCaught__X6_isCaught_r1 kt_wm10) kt_wf0) (fun _ h => kt_wp_X6_isCaught__X80 h))) kt_wg_X8_fieldOf
set_option maxRecDepth 20000 in
theorem gX6_isCaught_X8_fieldOf : GoodIn wsX6_isCaught (wsV RX6 61 RX8 yX8_fieldOf wsX8_fieldOf) := goodIn_app (a := [.methodLink RX6 61 yX8_fieldOf, .instanceMethod yX8_fieldOf, .selects RX8 yX8_fieldOf yX8_fieldOf, .initialized RX8]) (goodIn_sub (kt_wf1 (kt_wp_X6_isCaught__X6_isCaught_r1 kt_wm5) (kt_wf1 (kt_wp_X6_isCaught__X6_isCaught_r1 kt_wm6) (kt_wf1 (kt_wp_X6_isCaught__X6_isCaught_r1 kt_wm7) (kt_wf1 (kt_wp_X6_isCaught__X6_isCaught_r1 kt_wm8) kt_wf0)))) (by decide +kernel)) ggX6_isCaught_X8_fieldOf
set_option maxRecDepth 20000 in
theorem ggX6_isCaught_X0_beside : GoodIn wsX6_isCaught wsX0_beside := goodIn_sub (kt_wf1 (kt_wp_X6_isCaught__X6_isCaught_r1 kt_wm15) (kt_wfa (kt_wf1 (kt_wp_X6_isCaught__X6_isCaught_r1 kt_wm16) (kt_wf1 (kt_wp_X6_isCaught__X6_isCaught_r1 kt_wm17) kt_wf0)) (fun _ h => kt_wp_X6_isCaught__X00 h))) kt_wg_X0_beside
set_option maxRecDepth 20000 in
theorem gX6_isCaught_X0_beside : GoodIn wsX6_isCaught (wsV RX6 67 RX0 yX0_beside wsX0_beside) := goodIn_app (a := [.methodLink RX6 67 yX0_beside, .instanceMethod yX0_beside, .selects RX0 yX0_beside yX0_beside, .initialized RX0]) (goodIn_sub (kt_wf1 (kt_wp_X6_isCaught__X6_isCaught_r1 kt_wm11) (kt_wf1 (kt_wp_X6_isCaught__X6_isCaught_r1 kt_wm12) (kt_wf1 (kt_wp_X6_isCaught__X6_isCaught_r1 kt_wm13) (kt_wf1 (kt_wp_X6_isCaught__X6_isCaught_r1 kt_wm14) kt_wf0)))) (by decide +kernel)) ggX6_isCaught_X0_beside
set_option maxRecDepth 20000 in
theorem kt_wg_X6_isFoe : wsX6_isFoe.all goodWord = true := by decide +kernel
set_option maxRecDepth 20000 in
theorem ggX6_isCaught_X6_isFoe : GoodIn wsX6_isCaught wsX6_isFoe := goodIn_sub (kt_wf1 (kt_wp_X6_isCaught__X6_isCaught_r1 kt_wm22) (kt_wfa (kt_wfa (kt_wfa (kt_wf1 (kt_wp_X6_isCaught__X6_isCaught_r1 kt_wm3) (kt_wf1 (kt_wp_X6_isCaught__X6_isCaught_r1 kt_wm23) (kt_wf1 (kt_wp_X6_isCaught__X6_isCaught_r1 kt_wm4) (kt_wf1 (kt_wp_X6_isCaught__X6_isCaught_r2 kt_wm0) kt_wf0)))) (fun _ h => kt_wp_X6_isCaught__X60 h)) (fun _ h => kt_wp_X6_isCaught__X00 h)) (fun _ h => kt_wp_X6_isCaught__X80 h))) kt_wg_X6_isFoe
set_option maxRecDepth 20000 in
theorem gX6_isCaught_X6_isFoe : GoodIn wsX6_isCaught (wsV RX6 114 RX6 yX6_isFoe wsX6_isFoe) := goodIn_app (a := [.methodLink RX6 114 yX6_isFoe, .instanceMethod yX6_isFoe, .selects RX6 yX6_isFoe yX6_isFoe, .initialized RX6]) (goodIn_sub (kt_wf1 (kt_wp_X6_isCaught__X6_isCaught_r1 kt_wm18) (kt_wf1 (kt_wp_X6_isCaught__X6_isCaught_r1 kt_wm19) (kt_wf1 (kt_wp_X6_isCaught__X6_isCaught_r1 kt_wm20) (kt_wf1 (kt_wp_X6_isCaught__X6_isCaught_r1 kt_wm21) kt_wf0)))) (by decide +kernel)) ggX6_isCaught_X6_isFoe
theorem sX6_isCaught_0 : kt_sg cX6_isCaught 0 [42, 180, 0, 18, 28, 46, 7, 159, 0, 22, 28, 42, 180, 0, 29, 160, 0, 18, 42, 180, 0, 36, 180, 0, 111, 7, 160, 0, 7, 4, 167, 0, 4, 3, 54, 4, 43, 28, 182, 0, 61, 54, 5, 3, 54, 6, 21, 6, 7, 162, 0, 49, 21, 4, 154, 0, 9, 21, 6, 29, 160, 0, 32, 42] = true := by decide +kernel
theorem dX6_isCaught_0 : decode cX6_isCaught 0 = .ok (.aload_n 0, 1) := kt_o42 (j := 0) sX6_isCaught_0 rfl
theorem dX6_isCaught_1 : decode cX6_isCaught 1 = .ok (.getfield 18, 3) := kt_o180 (j := 1) sX6_isCaught_0 rfl rfl
theorem dX6_isCaught_4 : decode cX6_isCaught 4 = .ok (.iload_n 2, 1) := kt_o28 (j := 4) sX6_isCaught_0 rfl
theorem dX6_isCaught_5 : decode cX6_isCaught 5 = .ok (.iaload, 1) := kt_o46 (j := 5) sX6_isCaught_0 rfl
theorem dX6_isCaught_6 : decode cX6_isCaught 6 = .ok (.iconst 4, 1) := kt_o7 (j := 6) sX6_isCaught_0 rfl
theorem dX6_isCaught_7 : decode cX6_isCaught 7 = .ok (.if_icmp .eq 22, 3) := kt_o159 (j := 7) sX6_isCaught_0 rfl (by decide +kernel)
theorem dX6_isCaught_10 : decode cX6_isCaught 10 = .ok (.iload_n 2, 1) := kt_o28 (j := 10) sX6_isCaught_0 rfl
theorem dX6_isCaught_11 : decode cX6_isCaught 11 = .ok (.aload_n 0, 1) := kt_o42 (j := 11) sX6_isCaught_0 rfl
theorem dX6_isCaught_12 : decode cX6_isCaught 12 = .ok (.getfield 29, 3) := kt_o180 (j := 12) sX6_isCaught_0 rfl rfl
theorem dX6_isCaught_15 : decode cX6_isCaught 15 = .ok (.if_icmp .ne 18, 3) := kt_o160 (j := 15) sX6_isCaught_0 rfl (by decide +kernel)
theorem dX6_isCaught_18 : decode cX6_isCaught 18 = .ok (.aload_n 0, 1) := kt_o42 (j := 18) sX6_isCaught_0 rfl
theorem dX6_isCaught_19 : decode cX6_isCaught 19 = .ok (.getfield 36, 3) := kt_o180 (j := 19) sX6_isCaught_0 rfl rfl
theorem dX6_isCaught_22 : decode cX6_isCaught 22 = .ok (.getfield 111, 3) := kt_o180 (j := 22) sX6_isCaught_0 rfl rfl
theorem dX6_isCaught_25 : decode cX6_isCaught 25 = .ok (.iconst 4, 1) := kt_o7 (j := 25) sX6_isCaught_0 rfl
theorem dX6_isCaught_26 : decode cX6_isCaught 26 = .ok (.if_icmp .ne 7, 3) := kt_o160 (j := 26) sX6_isCaught_0 rfl (by decide +kernel)
theorem dX6_isCaught_29 : decode cX6_isCaught 29 = .ok (.iconst 1, 1) := kt_o4 (j := 29) sX6_isCaught_0 rfl
theorem dX6_isCaught_30 : decode cX6_isCaught 30 = .ok (.goto 4, 3) := kt_o167 (j := 30) sX6_isCaught_0 rfl (by decide +kernel)
theorem dX6_isCaught_33 : decode cX6_isCaught 33 = .ok (.iconst 0, 1) := kt_o3 (j := 33) sX6_isCaught_0 rfl
theorem dX6_isCaught_34 : decode cX6_isCaught 34 = .ok (.istore 4, 2) := kt_o54 (j := 34) sX6_isCaught_0 rfl
theorem dX6_isCaught_36 : decode cX6_isCaught 36 = .ok (.aload_n 1, 1) := kt_o43 (j := 36) sX6_isCaught_0 rfl
theorem dX6_isCaught_37 : decode cX6_isCaught 37 = .ok (.iload_n 2, 1) := kt_o28 (j := 37) sX6_isCaught_0 rfl
theorem dX6_isCaught_38 : decode cX6_isCaught 38 = .ok (.invokevirtual 61, 3) := kt_o182 (j := 38) sX6_isCaught_0 rfl rfl
theorem dX6_isCaught_41 : decode cX6_isCaught 41 = .ok (.istore 5, 2) := kt_o54 (j := 41) sX6_isCaught_0 rfl
theorem dX6_isCaught_43 : decode cX6_isCaught 43 = .ok (.iconst 0, 1) := kt_o3 (j := 43) sX6_isCaught_0 rfl
theorem dX6_isCaught_44 : decode cX6_isCaught 44 = .ok (.istore 6, 2) := kt_o54 (j := 44) sX6_isCaught_0 rfl
theorem dX6_isCaught_46 : decode cX6_isCaught 46 = .ok (.iload 6, 2) := kt_o21 (j := 46) sX6_isCaught_0 rfl
theorem dX6_isCaught_48 : decode cX6_isCaught 48 = .ok (.iconst 4, 1) := kt_o7 (j := 48) sX6_isCaught_0 rfl
theorem dX6_isCaught_49 : decode cX6_isCaught 49 = .ok (.if_icmp .ge 49, 3) := kt_o162 (j := 49) sX6_isCaught_0 rfl (by decide +kernel)
theorem dX6_isCaught_52 : decode cX6_isCaught 52 = .ok (.iload 4, 2) := kt_o21 (j := 52) sX6_isCaught_0 rfl
theorem dX6_isCaught_54 : decode cX6_isCaught 54 = .ok (.ifCond .ne 9, 3) := kt_o154 (j := 54) sX6_isCaught_0 rfl (by decide +kernel)
theorem dX6_isCaught_57 : decode cX6_isCaught 57 = .ok (.iload 6, 2) := kt_o21 (j := 57) sX6_isCaught_0 rfl
theorem dX6_isCaught_59 : decode cX6_isCaught 59 = .ok (.iload_n 3, 1) := kt_o29 (j := 59) sX6_isCaught_0 rfl
theorem dX6_isCaught_60 : decode cX6_isCaught 60 = .ok (.if_icmp .ne 32, 3) := kt_o160 (j := 60) sX6_isCaught_0 rfl (by decide +kernel)
theorem dX6_isCaught_63 : decode cX6_isCaught 63 = .ok (.aload_n 0, 1) := kt_o42 (j := 63) sX6_isCaught_0 rfl
theorem sX6_isCaught_64 : kt_sg cX6_isCaught 64 [43, 42, 180, 0, 12, 21, 5, 21, 6, 182, 0, 67, 4, 42, 180, 0, 22, 28, 46, 100, 182, 0, 114, 154, 0, 5, 3, 172, 132, 6, 1, 167, 255, 207, 4, 172] = true := by decide +kernel
theorem dX6_isCaught_64 : decode cX6_isCaught 64 = .ok (.aload_n 1, 1) := kt_o43 (j := 0) sX6_isCaught_64 rfl
theorem dX6_isCaught_65 : decode cX6_isCaught 65 = .ok (.aload_n 0, 1) := kt_o42 (j := 1) sX6_isCaught_64 rfl
theorem dX6_isCaught_66 : decode cX6_isCaught 66 = .ok (.getfield 12, 3) := kt_o180 (j := 2) sX6_isCaught_64 rfl rfl
theorem dX6_isCaught_69 : decode cX6_isCaught 69 = .ok (.iload 5, 2) := kt_o21 (j := 5) sX6_isCaught_64 rfl
theorem dX6_isCaught_71 : decode cX6_isCaught 71 = .ok (.iload 6, 2) := kt_o21 (j := 7) sX6_isCaught_64 rfl
theorem dX6_isCaught_73 : decode cX6_isCaught 73 = .ok (.invokevirtual 67, 3) := kt_o182 (j := 9) sX6_isCaught_64 rfl rfl
theorem dX6_isCaught_76 : decode cX6_isCaught 76 = .ok (.iconst 1, 1) := kt_o4 (j := 12) sX6_isCaught_64 rfl
theorem dX6_isCaught_77 : decode cX6_isCaught 77 = .ok (.aload_n 0, 1) := kt_o42 (j := 13) sX6_isCaught_64 rfl
theorem dX6_isCaught_78 : decode cX6_isCaught 78 = .ok (.getfield 22, 3) := kt_o180 (j := 14) sX6_isCaught_64 rfl rfl
theorem dX6_isCaught_81 : decode cX6_isCaught 81 = .ok (.iload_n 2, 1) := kt_o28 (j := 17) sX6_isCaught_64 rfl
theorem dX6_isCaught_82 : decode cX6_isCaught 82 = .ok (.iaload, 1) := kt_o46 (j := 18) sX6_isCaught_64 rfl
theorem dX6_isCaught_83 : decode cX6_isCaught 83 = .ok (.isub, 1) := kt_o100 (j := 19) sX6_isCaught_64 rfl
theorem dX6_isCaught_84 : decode cX6_isCaught 84 = .ok (.invokevirtual 114, 3) := kt_o182 (j := 20) sX6_isCaught_64 rfl rfl
theorem dX6_isCaught_87 : decode cX6_isCaught 87 = .ok (.ifCond .ne 5, 3) := kt_o154 (j := 23) sX6_isCaught_64 rfl (by decide +kernel)
theorem dX6_isCaught_90 : decode cX6_isCaught 90 = .ok (.iconst 0, 1) := kt_o3 (j := 26) sX6_isCaught_64 rfl
theorem dX6_isCaught_91 : decode cX6_isCaught 91 = .ok (.ireturn, 1) := kt_o172 (j := 27) sX6_isCaught_64 rfl
theorem dX6_isCaught_92 : decode cX6_isCaught 92 = .ok (.iinc 6 1, 3) := kt_o132 (j := 28) sX6_isCaught_64 rfl (by decide +kernel)
theorem dX6_isCaught_95 : decode cX6_isCaught 95 = .ok (.goto (-49), 3) := kt_o167 (j := 31) sX6_isCaught_64 rfl (by decide +kernel)
theorem dX6_isCaught_98 : decode cX6_isCaught 98 = .ok (.iconst 1, 1) := kt_o4 (j := 34) sX6_isCaught_64 rfl
theorem dX6_isCaught_99 : decode cX6_isCaught 99 = .ok (.ireturn, 1) := kt_o172 (j := 35) sX6_isCaught_64 rfl
theorem sX6_isFoe_0 : kt_sg cX6_isFoe 0 [28, 155, 0, 14, 28, 42, 180, 0, 12, 180, 0, 49, 161, 0, 5, 3, 172, 43, 180, 0, 117, 28, 46, 54, 4, 21, 4, 155, 0, 12, 21, 4, 42, 180, 0, 40, 161, 0, 22, 42, 180, 0, 12, 180, 0, 52, 28, 46, 5, 160, 0, 7, 4, 167, 0, 4, 3, 172, 42, 180, 0, 22, 21, 4] = true := by decide +kernel
theorem dX6_isFoe_0 : decode cX6_isFoe 0 = .ok (.iload_n 2, 1) := kt_o28 (j := 0) sX6_isFoe_0 rfl
theorem dX6_isFoe_1 : decode cX6_isFoe 1 = .ok (.ifCond .lt 14, 3) := kt_o155 (j := 1) sX6_isFoe_0 rfl (by decide +kernel)
theorem dX6_isFoe_4 : decode cX6_isFoe 4 = .ok (.iload_n 2, 1) := kt_o28 (j := 4) sX6_isFoe_0 rfl
theorem dX6_isFoe_5 : decode cX6_isFoe 5 = .ok (.aload_n 0, 1) := kt_o42 (j := 5) sX6_isFoe_0 rfl
theorem dX6_isFoe_6 : decode cX6_isFoe 6 = .ok (.getfield 12, 3) := kt_o180 (j := 6) sX6_isFoe_0 rfl rfl
theorem dX6_isFoe_9 : decode cX6_isFoe 9 = .ok (.getfield 49, 3) := kt_o180 (j := 9) sX6_isFoe_0 rfl rfl
theorem dX6_isFoe_12 : decode cX6_isFoe 12 = .ok (.if_icmp .lt 5, 3) := kt_o161 (j := 12) sX6_isFoe_0 rfl (by decide +kernel)
theorem dX6_isFoe_15 : decode cX6_isFoe 15 = .ok (.iconst 0, 1) := kt_o3 (j := 15) sX6_isFoe_0 rfl
theorem dX6_isFoe_16 : decode cX6_isFoe 16 = .ok (.ireturn, 1) := kt_o172 (j := 16) sX6_isFoe_0 rfl
theorem dX6_isFoe_17 : decode cX6_isFoe 17 = .ok (.aload_n 1, 1) := kt_o43 (j := 17) sX6_isFoe_0 rfl
theorem dX6_isFoe_18 : decode cX6_isFoe 18 = .ok (.getfield 117, 3) := kt_o180 (j := 18) sX6_isFoe_0 rfl rfl
theorem dX6_isFoe_21 : decode cX6_isFoe 21 = .ok (.iload_n 2, 1) := kt_o28 (j := 21) sX6_isFoe_0 rfl
theorem dX6_isFoe_22 : decode cX6_isFoe 22 = .ok (.iaload, 1) := kt_o46 (j := 22) sX6_isFoe_0 rfl
theorem dX6_isFoe_23 : decode cX6_isFoe 23 = .ok (.istore 4, 2) := kt_o54 (j := 23) sX6_isFoe_0 rfl
theorem dX6_isFoe_25 : decode cX6_isFoe 25 = .ok (.iload 4, 2) := kt_o21 (j := 25) sX6_isFoe_0 rfl
theorem dX6_isFoe_27 : decode cX6_isFoe 27 = .ok (.ifCond .lt 12, 3) := kt_o155 (j := 27) sX6_isFoe_0 rfl (by decide +kernel)
theorem dX6_isFoe_30 : decode cX6_isFoe 30 = .ok (.iload 4, 2) := kt_o21 (j := 30) sX6_isFoe_0 rfl
theorem dX6_isFoe_32 : decode cX6_isFoe 32 = .ok (.aload_n 0, 1) := kt_o42 (j := 32) sX6_isFoe_0 rfl
theorem dX6_isFoe_33 : decode cX6_isFoe 33 = .ok (.getfield 40, 3) := kt_o180 (j := 33) sX6_isFoe_0 rfl rfl
theorem dX6_isFoe_36 : decode cX6_isFoe 36 = .ok (.if_icmp .lt 22, 3) := kt_o161 (j := 36) sX6_isFoe_0 rfl (by decide +kernel)
theorem dX6_isFoe_39 : decode cX6_isFoe 39 = .ok (.aload_n 0, 1) := kt_o42 (j := 39) sX6_isFoe_0 rfl
theorem dX6_isFoe_40 : decode cX6_isFoe 40 = .ok (.getfield 12, 3) := kt_o180 (j := 40) sX6_isFoe_0 rfl rfl
theorem dX6_isFoe_43 : decode cX6_isFoe 43 = .ok (.getfield 52, 3) := kt_o180 (j := 43) sX6_isFoe_0 rfl rfl
theorem dX6_isFoe_46 : decode cX6_isFoe 46 = .ok (.iload_n 2, 1) := kt_o28 (j := 46) sX6_isFoe_0 rfl
theorem dX6_isFoe_47 : decode cX6_isFoe 47 = .ok (.iaload, 1) := kt_o46 (j := 47) sX6_isFoe_0 rfl
theorem dX6_isFoe_48 : decode cX6_isFoe 48 = .ok (.iconst 2, 1) := kt_o5 (j := 48) sX6_isFoe_0 rfl
theorem dX6_isFoe_49 : decode cX6_isFoe 49 = .ok (.if_icmp .ne 7, 3) := kt_o160 (j := 49) sX6_isFoe_0 rfl (by decide +kernel)
theorem dX6_isFoe_52 : decode cX6_isFoe 52 = .ok (.iconst 1, 1) := kt_o4 (j := 52) sX6_isFoe_0 rfl
theorem dX6_isFoe_53 : decode cX6_isFoe 53 = .ok (.goto 4, 3) := kt_o167 (j := 53) sX6_isFoe_0 rfl (by decide +kernel)
theorem dX6_isFoe_56 : decode cX6_isFoe 56 = .ok (.iconst 0, 1) := kt_o3 (j := 56) sX6_isFoe_0 rfl
theorem dX6_isFoe_57 : decode cX6_isFoe 57 = .ok (.ireturn, 1) := kt_o172 (j := 57) sX6_isFoe_0 rfl
theorem dX6_isFoe_58 : decode cX6_isFoe 58 = .ok (.aload_n 0, 1) := kt_o42 (j := 58) sX6_isFoe_0 rfl
theorem dX6_isFoe_59 : decode cX6_isFoe 59 = .ok (.getfield 22, 3) := kt_o180 (j := 59) sX6_isFoe_0 rfl rfl
theorem dX6_isFoe_62 : decode cX6_isFoe 62 = .ok (.iload 4, 2) := kt_o21 (j := 62) sX6_isFoe_0 rfl
theorem sX6_isFoe_64 : kt_sg cX6_isFoe 64 [46, 29, 160, 0, 17, 42, 180, 0, 25, 21, 4, 51, 153, 0, 7, 4, 167, 0, 4, 3, 172] = true := by decide +kernel
theorem dX6_isFoe_64 : decode cX6_isFoe 64 = .ok (.iaload, 1) := kt_o46 (j := 0) sX6_isFoe_64 rfl
theorem dX6_isFoe_65 : decode cX6_isFoe 65 = .ok (.iload_n 3, 1) := kt_o29 (j := 1) sX6_isFoe_64 rfl
theorem dX6_isFoe_66 : decode cX6_isFoe 66 = .ok (.if_icmp .ne 17, 3) := kt_o160 (j := 2) sX6_isFoe_64 rfl (by decide +kernel)
theorem dX6_isFoe_69 : decode cX6_isFoe 69 = .ok (.aload_n 0, 1) := kt_o42 (j := 5) sX6_isFoe_64 rfl
theorem dX6_isFoe_70 : decode cX6_isFoe 70 = .ok (.getfield 25, 3) := kt_o180 (j := 6) sX6_isFoe_64 rfl rfl
theorem dX6_isFoe_73 : decode cX6_isFoe 73 = .ok (.iload 4, 2) := kt_o21 (j := 9) sX6_isFoe_64 rfl
theorem dX6_isFoe_75 : decode cX6_isFoe 75 = .ok (.baload, 1) := kt_o51 (j := 11) sX6_isFoe_64 rfl
theorem dX6_isFoe_76 : decode cX6_isFoe 76 = .ok (.ifCond .eq 7, 3) := kt_o153 (j := 12) sX6_isFoe_64 rfl (by decide +kernel)
theorem dX6_isFoe_79 : decode cX6_isFoe 79 = .ok (.iconst 1, 1) := kt_o4 (j := 15) sX6_isFoe_64 rfl
theorem dX6_isFoe_80 : decode cX6_isFoe 80 = .ok (.goto 4, 3) := kt_o167 (j := 16) sX6_isFoe_64 rfl (by decide +kernel)
theorem dX6_isFoe_83 : decode cX6_isFoe 83 = .ok (.iconst 0, 1) := kt_o3 (j := 19) sX6_isFoe_64 rfl
theorem dX6_isFoe_84 : decode cX6_isFoe 84 = .ok (.ireturn, 1) := kt_o172 (j := 20) sX6_isFoe_64 rfl
theorem kt_wp_X7_init__X7_init_r1 {w : Cond} (h : w ∈ wsX7_init_r1) : w ∈ wsX7_init := List.mem_cons_of_mem _ (List.mem_append_left _ (List.mem_append_left _ (List.mem_append_left _ (List.mem_append_left _ (h)))))
theorem kt_wp_X7_init__X7_init_r2 {w : Cond} (h : w ∈ wsX7_init_r2) : w ∈ wsX7_init := List.mem_cons_of_mem _ (List.mem_append_left _ (List.mem_append_left _ (List.mem_append_left _ (List.mem_append_right _ (h)))))
theorem kt_wp_X7_init__X80 {w : Cond} (h : w ∈ wsX80) : w ∈ wsX7_init := List.mem_cons_of_mem _ (List.mem_append_left _ (List.mem_append_left _ (List.mem_append_right _ (h))))
theorem kt_wp_X7_init__X70 {w : Cond} (h : w ∈ wsX70) : w ∈ wsX7_init := List.mem_cons_of_mem _ (List.mem_append_left _ (List.mem_append_right _ (h)))
theorem kt_wp_X7_init__X20 {w : Cond} (h : w ∈ wsX20) : w ∈ wsX7_init := List.mem_cons_of_mem _ (List.mem_append_right _ (h))
set_option maxRecDepth 20000 in
theorem ggX7_init_X8_init : GoodIn wsX7_init wsX8_init := goodIn_sub (kt_wf1 (kt_wp_X7_init__X7_init_r1 kt_wm23) (kt_wfa (kt_wf1 (kt_wp_X7_init__X7_init_r2 kt_wm0) (kt_wf1 (kt_wp_X7_init__X7_init_r1 kt_wm1) (kt_wf1 (kt_wp_X7_init__X7_init_r1 kt_wm2) (kt_wf1 (kt_wp_X7_init__X7_init_r1 kt_wm11) (kt_wf1 (kt_wp_X7_init__X7_init_r2 kt_wm1) (kt_wf1 (kt_wp_X7_init__X7_init_r2 kt_wm2) (kt_wf1 (kt_wp_X7_init__X7_init_r2 kt_wm3) (kt_wf1 (kt_wp_X7_init__X7_init_r2 kt_wm4) (kt_wf1 (kt_wp_X7_init__X7_init_r2 kt_wm5) (kt_wf1 (kt_wp_X7_init__X7_init_r1 kt_wm5) (kt_wf1 (kt_wp_X7_init__X7_init_r2 kt_wm6) (kt_wf1 (kt_wp_X7_init__X7_init_r2 kt_wm7) (kt_wf1 (kt_wp_X7_init__X7_init_r2 kt_wm8) (kt_wf1 (kt_wp_X7_init__X7_init_r2 kt_wm9) (kt_wf1 (kt_wp_X7_init__X7_init_r2 kt_wm10) (kt_wf1 (kt_wp_X7_init__X7_init_r2 kt_wm11) kt_wf0)))))))))))))))) (fun _ h => kt_wp_X7_init__X80 h))) kt_wg_X8_init
set_option maxRecDepth 20000 in
theorem gX7_init_X8_init : GoodIn wsX7_init (wsX8_init) := ggX7_init_X8_init
set_option maxRecDepth 20000 in
theorem kt_wg_X2_init : wsX2_init.all goodWord = true := by decide +kernel
set_option maxRecDepth 20000 in
theorem ggX7_init_X2_init : GoodIn wsX7_init wsX2_init := goodIn_sub (kt_wf1 (kt_wp_X7_init__X7_init_r2 kt_wm13) (kt_wfa (kt_wf1 (kt_wp_X7_init__X7_init_r2 kt_wm14) (kt_wf1 (kt_wp_X7_init__X7_init_r1 kt_wm1) (kt_wf1 (kt_wp_X7_init__X7_init_r1 kt_wm2) (kt_wf1 (kt_wp_X7_init__X7_init_r1 kt_wm11) (kt_wf1 (kt_wp_X7_init__X7_init_r2 kt_wm15) (kt_wf1 (kt_wp_X7_init__X7_init_r2 kt_wm16) (kt_wf1 (kt_wp_X7_init__X7_init_r2 kt_wm17) kt_wf0))))))) (fun _ h => kt_wp_X7_init__X20 h))) kt_wg_X2_init
set_option maxRecDepth 20000 in
theorem gX7_init_X2_init_n20 : GoodIn wsX7_init (wsX2_init) := ggX7_init_X2_init
theorem sX7_init_0 : kt_sg cX7_init 0 [42, 183, 0, 3, 42, 187, 0, 9, 89, 183, 0, 11, 181, 0, 12, 42, 187, 0, 18, 89, 183, 0, 20, 181, 0, 21, 42, 16, 40, 188, 10, 181, 0, 25, 42, 16, 40, 188, 10, 181, 0, 29, 42, 16, 6, 188, 10, 181, 0, 32, 42, 5, 188, 10, 181, 0, 35, 42, 3, 188, 10, 181, 0, 38] = true := by decide +kernel
theorem dX7_init_0 : decode cX7_init 0 = .ok (.aload_n 0, 1) := kt_o42 (j := 0) sX7_init_0 rfl
theorem dX7_init_1 : decode cX7_init 1 = .ok (.invokespecial 3, 3) := kt_o183 (j := 1) sX7_init_0 rfl rfl
theorem dX7_init_4 : decode cX7_init 4 = .ok (.aload_n 0, 1) := kt_o42 (j := 4) sX7_init_0 rfl
theorem dX7_init_5 : decode cX7_init 5 = .ok (.new 9, 3) := kt_o187 (j := 5) sX7_init_0 rfl rfl
theorem dX7_init_8 : decode cX7_init 8 = .ok (.dup, 1) := kt_o89 (j := 8) sX7_init_0 rfl
theorem dX7_init_9 : decode cX7_init 9 = .ok (.invokespecial 11, 3) := kt_o183 (j := 9) sX7_init_0 rfl rfl
theorem dX7_init_12 : decode cX7_init 12 = .ok (.putfield 12, 3) := kt_o181 (j := 12) sX7_init_0 rfl rfl
theorem dX7_init_15 : decode cX7_init 15 = .ok (.aload_n 0, 1) := kt_o42 (j := 15) sX7_init_0 rfl
theorem dX7_init_16 : decode cX7_init 16 = .ok (.new 18, 3) := kt_o187 (j := 16) sX7_init_0 rfl rfl
theorem dX7_init_19 : decode cX7_init 19 = .ok (.dup, 1) := kt_o89 (j := 19) sX7_init_0 rfl
theorem dX7_init_20 : decode cX7_init 20 = .ok (.invokespecial 20, 3) := kt_o183 (j := 20) sX7_init_0 rfl rfl
theorem dX7_init_23 : decode cX7_init 23 = .ok (.putfield 21, 3) := kt_o181 (j := 23) sX7_init_0 rfl rfl
theorem dX7_init_26 : decode cX7_init 26 = .ok (.aload_n 0, 1) := kt_o42 (j := 26) sX7_init_0 rfl
theorem dX7_init_27 : decode cX7_init 27 = .ok (.bipush 40, 2) := kt_o16 (j := 27) sX7_init_0 rfl (by decide +kernel)
theorem dX7_init_29 : decode cX7_init 29 = .ok (.newarray .int, 2) := kt_o188_10 (j := 29) sX7_init_0 rfl
theorem dX7_init_31 : decode cX7_init 31 = .ok (.putfield 25, 3) := kt_o181 (j := 31) sX7_init_0 rfl rfl
theorem dX7_init_34 : decode cX7_init 34 = .ok (.aload_n 0, 1) := kt_o42 (j := 34) sX7_init_0 rfl
theorem dX7_init_35 : decode cX7_init 35 = .ok (.bipush 40, 2) := kt_o16 (j := 35) sX7_init_0 rfl (by decide +kernel)
theorem dX7_init_37 : decode cX7_init 37 = .ok (.newarray .int, 2) := kt_o188_10 (j := 37) sX7_init_0 rfl
theorem dX7_init_39 : decode cX7_init 39 = .ok (.putfield 29, 3) := kt_o181 (j := 39) sX7_init_0 rfl rfl
theorem dX7_init_42 : decode cX7_init 42 = .ok (.aload_n 0, 1) := kt_o42 (j := 42) sX7_init_0 rfl
theorem dX7_init_43 : decode cX7_init 43 = .ok (.bipush 6, 2) := kt_o16 (j := 43) sX7_init_0 rfl (by decide +kernel)
theorem dX7_init_45 : decode cX7_init 45 = .ok (.newarray .int, 2) := kt_o188_10 (j := 45) sX7_init_0 rfl
theorem dX7_init_47 : decode cX7_init 47 = .ok (.putfield 32, 3) := kt_o181 (j := 47) sX7_init_0 rfl rfl
theorem dX7_init_50 : decode cX7_init 50 = .ok (.aload_n 0, 1) := kt_o42 (j := 50) sX7_init_0 rfl
theorem dX7_init_51 : decode cX7_init 51 = .ok (.iconst 2, 1) := kt_o5 (j := 51) sX7_init_0 rfl
theorem dX7_init_52 : decode cX7_init 52 = .ok (.newarray .int, 2) := kt_o188_10 (j := 52) sX7_init_0 rfl
theorem dX7_init_54 : decode cX7_init 54 = .ok (.putfield 35, 3) := kt_o181 (j := 54) sX7_init_0 rfl rfl
theorem dX7_init_57 : decode cX7_init 57 = .ok (.aload_n 0, 1) := kt_o42 (j := 57) sX7_init_0 rfl
theorem dX7_init_58 : decode cX7_init 58 = .ok (.iconst 0, 1) := kt_o3 (j := 58) sX7_init_0 rfl
theorem dX7_init_59 : decode cX7_init 59 = .ok (.newarray .int, 2) := kt_o188_10 (j := 59) sX7_init_0 rfl
theorem dX7_init_61 : decode cX7_init 61 = .ok (.putfield 38, 3) := kt_o181 (j := 61) sX7_init_0 rfl rfl
theorem sX7_init_64 : kt_sg cX7_init 64 [42, 3, 188, 10, 181, 0, 41, 42, 3, 188, 10, 181, 0, 44, 42, 3, 188, 10, 181, 0, 47, 42, 43, 181, 0, 50, 177] = true := by decide +kernel
theorem dX7_init_64 : decode cX7_init 64 = .ok (.aload_n 0, 1) := kt_o42 (j := 0) sX7_init_64 rfl
theorem dX7_init_65 : decode cX7_init 65 = .ok (.iconst 0, 1) := kt_o3 (j := 1) sX7_init_64 rfl
theorem dX7_init_66 : decode cX7_init 66 = .ok (.newarray .int, 2) := kt_o188_10 (j := 2) sX7_init_64 rfl
theorem dX7_init_68 : decode cX7_init 68 = .ok (.putfield 41, 3) := kt_o181 (j := 4) sX7_init_64 rfl rfl
theorem dX7_init_71 : decode cX7_init 71 = .ok (.aload_n 0, 1) := kt_o42 (j := 7) sX7_init_64 rfl
theorem dX7_init_72 : decode cX7_init 72 = .ok (.iconst 0, 1) := kt_o3 (j := 8) sX7_init_64 rfl
theorem dX7_init_73 : decode cX7_init 73 = .ok (.newarray .int, 2) := kt_o188_10 (j := 9) sX7_init_64 rfl
theorem dX7_init_75 : decode cX7_init 75 = .ok (.putfield 44, 3) := kt_o181 (j := 11) sX7_init_64 rfl rfl
theorem dX7_init_78 : decode cX7_init 78 = .ok (.aload_n 0, 1) := kt_o42 (j := 14) sX7_init_64 rfl
theorem dX7_init_79 : decode cX7_init 79 = .ok (.iconst 0, 1) := kt_o3 (j := 15) sX7_init_64 rfl
theorem dX7_init_80 : decode cX7_init 80 = .ok (.newarray .int, 2) := kt_o188_10 (j := 16) sX7_init_64 rfl
theorem dX7_init_82 : decode cX7_init 82 = .ok (.putfield 47, 3) := kt_o181 (j := 18) sX7_init_64 rfl rfl
theorem dX7_init_85 : decode cX7_init 85 = .ok (.aload_n 0, 1) := kt_o42 (j := 21) sX7_init_64 rfl
theorem dX7_init_86 : decode cX7_init 86 = .ok (.aload_n 1, 1) := kt_o43 (j := 22) sX7_init_64 rfl
theorem dX7_init_87 : decode cX7_init 87 = .ok (.putfield 50, 3) := kt_o181 (j := 23) sX7_init_64 rfl rfl
theorem dX7_init_90 : decode cX7_init 90 = .ok (.return_, 1) := kt_o177 (j := 26) sX7_init_64 rfl
theorem sX7_forget_0 : kt_sg cX7_forget 0 [42, 3, 181, 0, 54, 177] = true := by decide +kernel
theorem dX7_forget_0 : decode cX7_forget 0 = .ok (.aload_n 0, 1) := kt_o42 (j := 0) sX7_forget_0 rfl
theorem dX7_forget_1 : decode cX7_forget 1 = .ok (.iconst 0, 1) := kt_o3 (j := 1) sX7_forget_0 rfl
theorem dX7_forget_2 : decode cX7_forget 2 = .ok (.putfield 54, 3) := kt_o181 (j := 2) sX7_forget_0 rfl rfl
theorem dX7_forget_5 : decode cX7_forget 5 = .ok (.return_, 1) := kt_o177 (j := 5) sX7_forget_0 rfl
theorem kt_wp_X7_solveAll__X7_solveAll_r1 {w : Cond} (h : w ∈ wsX7_solveAll_r1) : w ∈ wsX7_solveAll := List.mem_cons_of_mem _ (List.mem_append_left _ (List.mem_append_left _ (List.mem_append_left _ (List.mem_append_left _ (List.mem_append_left _ (List.mem_append_left _ (List.mem_append_left _ (h))))))))
theorem kt_wp_X7_solveAll__X7_solveAll_r2 {w : Cond} (h : w ∈ wsX7_solveAll_r2) : w ∈ wsX7_solveAll := List.mem_cons_of_mem _ (List.mem_append_left _ (List.mem_append_left _ (List.mem_append_left _ (List.mem_append_left _ (List.mem_append_left _ (List.mem_append_left _ (List.mem_append_right _ (List.mem_append_left _ (h)))))))))
theorem kt_wp_X7_solveAll__X7_solveAll_r3 {w : Cond} (h : w ∈ wsX7_solveAll_r3) : w ∈ wsX7_solveAll := List.mem_cons_of_mem _ (List.mem_append_left _ (List.mem_append_left _ (List.mem_append_left _ (List.mem_append_left _ (List.mem_append_left _ (List.mem_append_left _ (List.mem_append_right _ (List.mem_append_right _ (List.mem_append_left _ (h))))))))))
theorem kt_wp_X7_solveAll__X7_solveAll_r4 {w : Cond} (h : w ∈ wsX7_solveAll_r4) : w ∈ wsX7_solveAll := List.mem_cons_of_mem _ (List.mem_append_left _ (List.mem_append_left _ (List.mem_append_left _ (List.mem_append_left _ (List.mem_append_left _ (List.mem_append_left _ (List.mem_append_right _ (List.mem_append_right _ (List.mem_append_right _ (List.mem_append_left _ (h)))))))))))
theorem kt_wp_X7_solveAll__X7_solveAll_r5 {w : Cond} (h : w ∈ wsX7_solveAll_r5) : w ∈ wsX7_solveAll := List.mem_cons_of_mem _ (List.mem_append_left _ (List.mem_append_left _ (List.mem_append_left _ (List.mem_append_left _ (List.mem_append_left _ (List.mem_append_left _ (List.mem_append_right _ (List.mem_append_right _ (List.mem_append_right _ (List.mem_append_right _ (List.mem_append_left _ (h))))))))))))
theorem kt_wp_X7_solveAll__X7_solveAll_r6 {w : Cond} (h : w ∈ wsX7_solveAll_r6) : w ∈ wsX7_solveAll := List.mem_cons_of_mem _ (List.mem_append_left _ (List.mem_append_left _ (List.mem_append_left _ (List.mem_append_left _ (List.mem_append_left _ (List.mem_append_left _ (List.mem_append_right _ (List.mem_append_right _ (List.mem_append_right _ (List.mem_append_right _ (List.mem_append_right _ (List.mem_append_left _ (h)))))))))))))
theorem kt_wp_X7_solveAll__X7_solveAll_r7 {w : Cond} (h : w ∈ wsX7_solveAll_r7) : w ∈ wsX7_solveAll := List.mem_cons_of_mem _ (List.mem_append_left _ (List.mem_append_left _ (List.mem_append_left _ (List.mem_append_left _ (List.mem_append_left _ (List.mem_append_left _ (List.mem_append_right _ (List.mem_append_right _ (List.mem_append_right _ (List.mem_append_right _ (List.mem_append_right _ (List.mem_append_right _ (List.mem_append_left _ (h))))))))))))))
theorem kt_wp_X7_solveAll__X7_solveAll_r8 {w : Cond} (h : w ∈ wsX7_solveAll_r8) : w ∈ wsX7_solveAll := List.mem_cons_of_mem _ (List.mem_append_left _ (List.mem_append_left _ (List.mem_append_left _ (List.mem_append_left _ (List.mem_append_left _ (List.mem_append_left _ (List.mem_append_right _ (List.mem_append_right _ (List.mem_append_right _ (List.mem_append_right _ (List.mem_append_right _ (List.mem_append_right _ (List.mem_append_right _ (h))))))))))))))
theorem kt_wp_X7_solveAll__X70 {w : Cond} (h : w ∈ wsX70) : w ∈ wsX7_solveAll := List.mem_cons_of_mem _ (List.mem_append_left _ (List.mem_append_left _ (List.mem_append_left _ (List.mem_append_left _ (List.mem_append_left _ (List.mem_append_right _ (h)))))))
theorem kt_wp_X7_solveAll__X60 {w : Cond} (h : w ∈ wsX60) : w ∈ wsX7_solveAll := List.mem_cons_of_mem _ (List.mem_append_left _ (List.mem_append_left _ (List.mem_append_left _ (List.mem_append_left _ (List.mem_append_right _ (h))))))
theorem kt_wp_X7_solveAll__X00 {w : Cond} (h : w ∈ wsX00) : w ∈ wsX7_solveAll := List.mem_cons_of_mem _ (List.mem_append_left _ (List.mem_append_left _ (List.mem_append_left _ (List.mem_append_right _ (h)))))
theorem kt_wp_X7_solveAll__X20 {w : Cond} (h : w ∈ wsX20) : w ∈ wsX7_solveAll := List.mem_cons_of_mem _ (List.mem_append_left _ (List.mem_append_left _ (List.mem_append_right _ (h))))
theorem kt_wp_X7_solveAll__X80 {w : Cond} (h : w ∈ wsX80) : w ∈ wsX7_solveAll := List.mem_cons_of_mem _ (List.mem_append_left _ (List.mem_append_right _ (h)))
theorem kt_wp_X7_solveAll__X10 {w : Cond} (h : w ∈ wsX10) : w ∈ wsX7_solveAll := List.mem_cons_of_mem _ (List.mem_append_right _ (h))
set_option maxRecDepth 20000 in
theorem kt_wg_X7_measure : wsX7_measure.all goodWord = true := by decide +kernel
set_option maxRecDepth 20000 in
theorem ggX7_solveAll_X7_measure : GoodIn wsX7_solveAll wsX7_measure := goodIn_sub (kt_wf1 (kt_wp_X7_solveAll__X7_solveAll_r1 kt_wm12) (kt_wfa (kt_wfa (kt_wfa (kt_wf1 (kt_wp_X7_solveAll__X7_solveAll_r1 kt_wm4) (kt_wf1 (kt_wp_X7_solveAll__X7_solveAll_r1 kt_wm13) (kt_wf1 (kt_wp_X7_solveAll__X7_solveAll_r1 kt_wm2) kt_wf0))) (fun _ h => kt_wp_X7_solveAll__X70 h)) (fun _ h => kt_wp_X7_solveAll__X60 h)) (fun _ h => kt_wp_X7_solveAll__X00 h))) kt_wg_X7_measure
set_option maxRecDepth 20000 in
theorem gX7_solveAll_X7_measure : GoodIn wsX7_solveAll (wsV RX7 62 RX7 yX7_measure wsX7_measure) := goodIn_app (a := [.methodLink RX7 62 yX7_measure, .instanceMethod yX7_measure, .selects RX7 yX7_measure yX7_measure, .initialized RX7]) (goodIn_sub (kt_wf1 (kt_wp_X7_solveAll__X7_solveAll_r1 kt_wm8) (kt_wf1 (kt_wp_X7_solveAll__X7_solveAll_r1 kt_wm9) (kt_wf1 (kt_wp_X7_solveAll__X7_solveAll_r1 kt_wm10) (kt_wf1 (kt_wp_X7_solveAll__X7_solveAll_r1 kt_wm11) kt_wf0)))) (by decide +kernel)) ggX7_solveAll_X7_measure
set_option maxRecDepth 20000 in
theorem kt_wg_X7_makeRoom : wsX7_makeRoom.all goodWord = true := by decide +kernel
set_option maxRecDepth 20000 in
theorem ggX7_solveAll_X7_makeRoom : GoodIn wsX7_solveAll wsX7_makeRoom := goodIn_sub (kt_wf1 (kt_wp_X7_solveAll__X7_solveAll_r1 kt_wm17) (kt_wfa (kt_wf1 (kt_wp_X7_solveAll__X7_solveAll_r1 kt_wm18) (kt_wf1 (kt_wp_X7_solveAll__X7_solveAll_r1 kt_wm19) (kt_wf1 (kt_wp_X7_solveAll__X7_solveAll_r1 kt_wm20) (kt_wf1 (kt_wp_X7_solveAll__X7_solveAll_r1 kt_wm21) (kt_wf1 (kt_wp_X7_solveAll__X7_solveAll_r1 kt_wm22) (kt_wf1 (kt_wp_X7_solveAll__X7_solveAll_r1 kt_wm23) (kt_wf1 (kt_wp_X7_solveAll__X7_solveAll_r2 kt_wm0) (kt_wf1 (kt_wp_X7_solveAll__X7_solveAll_r2 kt_wm1) (kt_wf1 (kt_wp_X7_solveAll__X7_solveAll_r2 kt_wm2) (kt_wf1 (kt_wp_X7_solveAll__X7_solveAll_r2 kt_wm3) (kt_wf1 (kt_wp_X7_solveAll__X7_solveAll_r2 kt_wm4) (kt_wf1 (kt_wp_X7_solveAll__X7_solveAll_r2 kt_wm5) (kt_wf1 (kt_wp_X7_solveAll__X7_solveAll_r2 kt_wm6) (kt_wf1 (kt_wp_X7_solveAll__X7_solveAll_r2 kt_wm7) (kt_wf1 (kt_wp_X7_solveAll__X7_solveAll_r2 kt_wm8) (kt_wf1 (kt_wp_X7_solveAll__X7_solveAll_r2 kt_wm9) kt_wf0)))))))))))))))) (fun _ h => kt_wp_X7_solveAll__X70 h))) kt_wg_X7_makeRoom
set_option maxRecDepth 20000 in
theorem gX7_solveAll_X7_makeRoom : GoodIn wsX7_solveAll (wsV RX7 69 RX7 yX7_makeRoom wsX7_makeRoom) := goodIn_app (a := [.methodLink RX7 69 yX7_makeRoom, .instanceMethod yX7_makeRoom, .selects RX7 yX7_makeRoom yX7_makeRoom, .initialized RX7]) (goodIn_sub (kt_wf1 (kt_wp_X7_solveAll__X7_solveAll_r1 kt_wm14) (kt_wf1 (kt_wp_X7_solveAll__X7_solveAll_r1 kt_wm15) (kt_wf1 (kt_wp_X7_solveAll__X7_solveAll_r1 kt_wm16) (kt_wf1 (kt_wp_X7_solveAll__X7_solveAll_r1 kt_wm11) kt_wf0)))) (by decide +kernel)) ggX7_solveAll_X7_makeRoom
set_option maxRecDepth 20000 in
theorem kt_wg_X2_renew : wsX2_renew.all goodWord = true := by decide +kernel
set_option maxRecDepth 20000 in
theorem ggX7_solveAll_X2_renew : GoodIn wsX7_solveAll wsX2_renew := goodIn_sub (kt_wf1 (kt_wp_X7_solveAll__X7_solveAll_r2 kt_wm13) (kt_wfa (kt_wf1 (kt_wp_X7_solveAll__X7_solveAll_r2 kt_wm14) (kt_wf1 (kt_wp_X7_solveAll__X7_solveAll_r1 kt_wm19) (kt_wf1 (kt_wp_X7_solveAll__X7_solveAll_r2 kt_wm15) (kt_wf1 (kt_wp_X7_solveAll__X7_solveAll_r2 kt_wm16) (kt_wf1 (kt_wp_X7_solveAll__X7_solveAll_r2 kt_wm17) (kt_wf1 (kt_wp_X7_solveAll__X7_solveAll_r2 kt_wm18) (kt_wf1 (kt_wp_X7_solveAll__X7_solveAll_r2 kt_wm19) (kt_wf1 (kt_wp_X7_solveAll__X7_solveAll_r2 kt_wm0) (kt_wf1 (kt_wp_X7_solveAll__X7_solveAll_r2 kt_wm1) (kt_wf1 (kt_wp_X7_solveAll__X7_solveAll_r2 kt_wm2) (kt_wf1 (kt_wp_X7_solveAll__X7_solveAll_r2 kt_wm3) (kt_wf1 (kt_wp_X7_solveAll__X7_solveAll_r2 kt_wm4) (kt_wf1 (kt_wp_X7_solveAll__X7_solveAll_r2 kt_wm5) (kt_wf1 (kt_wp_X7_solveAll__X7_solveAll_r2 kt_wm6) (kt_wf1 (kt_wp_X7_solveAll__X7_solveAll_r2 kt_wm7) (kt_wf1 (kt_wp_X7_solveAll__X7_solveAll_r2 kt_wm8) (kt_wf1 (kt_wp_X7_solveAll__X7_solveAll_r2 kt_wm9) (kt_wf1 (kt_wp_X7_solveAll__X7_solveAll_r2 kt_wm20) (kt_wf1 (kt_wp_X7_solveAll__X7_solveAll_r2 kt_wm21) (kt_wf1 (kt_wp_X7_solveAll__X7_solveAll_r2 kt_wm22) (kt_wf1 (kt_wp_X7_solveAll__X7_solveAll_r2 kt_wm23) kt_wf0))))))))))))))))))))) (fun _ h => kt_wp_X7_solveAll__X20 h))) kt_wg_X2_renew
set_option maxRecDepth 20000 in
theorem gX7_solveAll_X2_renew : GoodIn wsX7_solveAll (wsV RX7 87 RX2 yX2_renew wsX2_renew) := goodIn_app (a := [.methodLink RX7 87 yX2_renew, .instanceMethod yX2_renew, .selects RX2 yX2_renew yX2_renew, .initialized RX2]) (goodIn_sub (kt_wf1 (kt_wp_X7_solveAll__X7_solveAll_r2 kt_wm10) (kt_wf1 (kt_wp_X7_solveAll__X7_solveAll_r2 kt_wm11) (kt_wf1 (kt_wp_X7_solveAll__X7_solveAll_r2 kt_wm12) (kt_wf1 (kt_wp_X7_solveAll__X7_solveAll_r2 kt_wm1) kt_wf0)))) (by decide +kernel)) ggX7_solveAll_X2_renew
set_option maxRecDepth 20000 in
theorem ggX7_solveAll_X8_clear : GoodIn wsX7_solveAll wsX8_clear := goodIn_sub (kt_wf1 (kt_wp_X7_solveAll__X7_solveAll_r3 kt_wm4) (kt_wfa (kt_wf1 (kt_wp_X7_solveAll__X7_solveAll_r3 kt_wm5) (kt_wf1 (kt_wp_X7_solveAll__X7_solveAll_r3 kt_wm6) (kt_wf1 (kt_wp_X7_solveAll__X7_solveAll_r3 kt_wm7) (kt_wf1 (kt_wp_X7_solveAll__X7_solveAll_r3 kt_wm8) (kt_wf1 (kt_wp_X7_solveAll__X7_solveAll_r2 kt_wm21) (kt_wf1 (kt_wp_X7_solveAll__X7_solveAll_r2 kt_wm22) (kt_wf1 (kt_wp_X7_solveAll__X7_solveAll_r2 kt_wm23) kt_wf0))))))) (fun _ h => kt_wp_X7_solveAll__X80 h))) kt_wg_X8_clear
set_option maxRecDepth 20000 in
theorem gX7_solveAll_X8_clear : GoodIn wsX7_solveAll (wsV RX7 91 RX8 yX8_clear wsX8_clear) := goodIn_app (a := [.methodLink RX7 91 yX8_clear, .instanceMethod yX8_clear, .selects RX8 yX8_clear yX8_clear, .initialized RX8]) (goodIn_sub (kt_wf1 (kt_wp_X7_solveAll__X7_solveAll_r3 kt_wm0) (kt_wf1 (kt_wp_X7_solveAll__X7_solveAll_r3 kt_wm1) (kt_wf1 (kt_wp_X7_solveAll__X7_solveAll_r3 kt_wm2) (kt_wf1 (kt_wp_X7_solveAll__X7_solveAll_r3 kt_wm3) kt_wf0)))) (by decide +kernel)) ggX7_solveAll_X8_clear
set_option maxRecDepth 20000 in
theorem ggX7_solveAll_J7_fill_53178 : GoodIn wsX7_solveAll wsJ7_fill_53178 := goodIn_sub (kt_wf1 (kt_wp_X7_solveAll__X7_solveAll_r2 kt_wm23) kt_wf0) kt_wg_J7_fill_53178
set_option maxRecDepth 20000 in
theorem gX7_solveAll_J7_fill_53178 : GoodIn wsX7_solveAll (va_wsS RX7 94 yJ7_fill_53178 wsJ7_fill_53178) := goodIn_app (goodIn_of _ (by decide +kernel)) ggX7_solveAll_J7_fill_53178
set_option maxRecDepth 20000 in
theorem kt_wg_X7_enter : wsX7_enter.all goodWord = true := by decide +kernel
set_option maxRecDepth 20000 in
theorem ggX7_solveAll_X7_enter : GoodIn wsX7_solveAll wsX7_enter := goodIn_sub (kt_wf1 (kt_wp_X7_solveAll__X7_solveAll_r3 kt_wm13) (kt_wfa (kt_wfa (kt_wfa (kt_wfa (kt_wfa (kt_wfa (kt_wfa (kt_wf1 (kt_wp_X7_solveAll__X7_solveAll_r1 kt_wm18) (kt_wf1 (kt_wp_X7_solveAll__X7_solveAll_r1 kt_wm20) (kt_wf1 (kt_wp_X7_solveAll__X7_solveAll_r1 kt_wm21) (kt_wf1 (kt_wp_X7_solveAll__X7_solveAll_r1 kt_wm1) (kt_wf1 (kt_wp_X7_solveAll__X7_solveAll_r1 kt_wm5) (kt_wf1 (kt_wp_X7_solveAll__X7_solveAll_r1 kt_wm4) (kt_wf1 (kt_wp_X7_solveAll__X7_solveAll_r3 kt_wm14) (kt_wf1 (kt_wp_X7_solveAll__X7_solveAll_r3 kt_wm15) (kt_wf1 (kt_wp_X7_solveAll__X7_solveAll_r3 kt_wm16) (kt_wf1 (kt_wp_X7_solveAll__X7_solveAll_r1 kt_wm11) (kt_wf1 (kt_wp_X7_solveAll__X7_solveAll_r3 kt_wm17) (kt_wf1 (kt_wp_X7_solveAll__X7_solveAll_r1 kt_wm6) (kt_wf1 (kt_wp_X7_solveAll__X7_solveAll_r3 kt_wm18) (kt_wf1 (kt_wp_X7_solveAll__X7_solveAll_r3 kt_wm19) (kt_wf1 (kt_wp_X7_solveAll__X7_solveAll_r3 kt_wm20) (kt_wf1 (kt_wp_X7_solveAll__X7_solveAll_r3 kt_wm3) (kt_wf1 (kt_wp_X7_solveAll__X7_solveAll_r3 kt_wm21) (kt_wf1 (kt_wp_X7_solveAll__X7_solveAll_r3 kt_wm5) (kt_wf1 (kt_wp_X7_solveAll__X7_solveAll_r3 kt_wm6) (kt_wf1 (kt_wp_X7_solveAll__X7_solveAll_r3 kt_wm22) (kt_wf1 (kt_wp_X7_solveAll__X7_solveAll_r3 kt_wm23) (kt_wf1 (kt_wp_X7_solveAll__X7_solveAll_r4 kt_wm0) (kt_wf1 (kt_wp_X7_solveAll__X7_solveAll_r4 kt_wm1) (kt_wf1 (kt_wp_X7_solveAll__X7_solveAll_r4 kt_wm2) kt_wf0)))))))))))))))))))))))) (kt_wfa (kt_wf1 (kt_wp_X7_solveAll__X7_solveAll_r4 kt_wm3) (kt_wf1 (kt_wp_X7_solveAll__X7_solveAll_r4 kt_wm4) (kt_wf1 (kt_wp_X7_solveAll__X7_solveAll_r4 kt_wm5) (kt_wf1 (kt_wp_X7_solveAll__X7_solveAll_r4 kt_wm6) (kt_wf1 (kt_wp_X7_solveAll__X7_solveAll_r4 kt_wm7) (kt_wf1 (kt_wp_X7_solveAll__X7_solveAll_r4 kt_wm8) (kt_wf1 (kt_wp_X7_solveAll__X7_solveAll_r4 kt_wm9) (kt_wf1 (kt_wp_X7_solveAll__X7_solveAll_r4 kt_wm10) (kt_wf1 (kt_wp_X7_solveAll__X7_solveAll_r4 kt_wm11) (kt_wf1 (kt_wp_X7_solveAll__X7_solveAll_r4 kt_wm12) (kt_wf1 (kt_wp_X7_solveAll__X7_solveAll_r4 kt_wm13) (kt_wf1 (kt_wp_X7_solveAll__X7_solveAll_r4 kt_wm14) (kt_wf1 (kt_wp_X7_solveAll__X7_solveAll_r4 kt_wm15) (kt_wf1 (kt_wp_X7_solveAll__X7_solveAll_r4 kt_wm16) (kt_wf1 (kt_wp_X7_solveAll__X7_solveAll_r4 kt_wm17) (kt_wf1 (kt_wp_X7_solveAll__X7_solveAll_r4 kt_wm18) (kt_wf1 (kt_wp_X7_solveAll__X7_solveAll_r4 kt_wm19) (kt_wf1 (kt_wp_X7_solveAll__X7_solveAll_r4 kt_wm20) (kt_wf1 (kt_wp_X7_solveAll__X7_solveAll_r4 kt_wm21) (kt_wf1 (kt_wp_X7_solveAll__X7_solveAll_r4 kt_wm22) (kt_wf1 (kt_wp_X7_solveAll__X7_solveAll_r4 kt_wm23) (kt_wf1 (kt_wp_X7_solveAll__X7_solveAll_r5 kt_wm0) (kt_wf1 (kt_wp_X7_solveAll__X7_solveAll_r5 kt_wm1) (kt_wf1 (kt_wp_X7_solveAll__X7_solveAll_r5 kt_wm2) kt_wf0)))))))))))))))))))))))) (kt_wfa (kt_wf1 (kt_wp_X7_solveAll__X7_solveAll_r5 kt_wm3) (kt_wf1 (kt_wp_X7_solveAll__X7_solveAll_r5 kt_wm4) (kt_wf1 (kt_wp_X7_solveAll__X7_solveAll_r5 kt_wm5) (kt_wf1 (kt_wp_X7_solveAll__X7_solveAll_r5 kt_wm6) (kt_wf1 (kt_wp_X7_solveAll__X7_solveAll_r5 kt_wm7) (kt_wf1 (kt_wp_X7_solveAll__X7_solveAll_r5 kt_wm8) (kt_wf1 (kt_wp_X7_solveAll__X7_solveAll_r5 kt_wm9) (kt_wf1 (kt_wp_X7_solveAll__X7_solveAll_r5 kt_wm10) (kt_wf1 (kt_wp_X7_solveAll__X7_solveAll_r5 kt_wm11) (kt_wf1 (kt_wp_X7_solveAll__X7_solveAll_r5 kt_wm12) (kt_wf1 (kt_wp_X7_solveAll__X7_solveAll_r5 kt_wm13) (kt_wf1 (kt_wp_X7_solveAll__X7_solveAll_r5 kt_wm14) (kt_wf1 (kt_wp_X7_solveAll__X7_solveAll_r5 kt_wm15) (kt_wf1 (kt_wp_X7_solveAll__X7_solveAll_r5 kt_wm16) (kt_wf1 (kt_wp_X7_solveAll__X7_solveAll_r5 kt_wm17) (kt_wf1 (kt_wp_X7_solveAll__X7_solveAll_r5 kt_wm18) (kt_wf1 (kt_wp_X7_solveAll__X7_solveAll_r5 kt_wm19) (kt_wf1 (kt_wp_X7_solveAll__X7_solveAll_r5 kt_wm20) (kt_wf1 (kt_wp_X7_solveAll__X7_solveAll_r1 kt_wm7) (kt_wf1 (kt_wp_X7_solveAll__X7_solveAll_r1 kt_wm22) (kt_wf1 (kt_wp_X7_solveAll__X7_solveAll_r5 kt_wm21) (kt_wf1 (kt_wp_X7_solveAll__X7_solveAll_r5 kt_wm22) (kt_wf1 (kt_wp_X7_solveAll__X7_solveAll_r5 kt_wm23) (kt_wf1 (kt_wp_X7_solveAll__X7_solveAll_r6 kt_wm0) kt_wf0)))))))))))))))))))))))) (kt_wfa (kt_wf1 (kt_wp_X7_solveAll__X7_solveAll_r1 kt_wm3) (kt_wf1 (kt_wp_X7_solveAll__X7_solveAll_r6 kt_wm1) (kt_wf1 (kt_wp_X7_solveAll__X7_solveAll_r6 kt_wm2) (kt_wf1 (kt_wp_X7_solveAll__X7_solveAll_r6 kt_wm3) (kt_wf1 (kt_wp_X7_solveAll__X7_solveAll_r6 kt_wm4) (kt_wf1 (kt_wp_X7_solveAll__X7_solveAll_r6 kt_wm5) (kt_wf1 (kt_wp_X7_solveAll__X7_solveAll_r6 kt_wm6) (kt_wf1 (kt_wp_X7_solveAll__X7_solveAll_r6 kt_wm7) (kt_wf1 (kt_wp_X7_solveAll__X7_solveAll_r6 kt_wm8) (kt_wf1 (kt_wp_X7_solveAll__X7_solveAll_r6 kt_wm9) (kt_wf1 (kt_wp_X7_solveAll__X7_solveAll_r6 kt_wm10) (kt_wf1 (kt_wp_X7_solveAll__X7_solveAll_r6 kt_wm11) (kt_wf1 (kt_wp_X7_solveAll__X7_solveAll_r6 kt_wm12) (kt_wf1 (kt_wp_X7_solveAll__X7_solveAll_r6 kt_wm13) (kt_wf1 (kt_wp_X7_solveAll__X7_solveAll_r6 kt_wm14) (kt_wf1 (kt_wp_X7_solveAll__X7_solveAll_r6 kt_wm15) (kt_wf1 (kt_wp_X7_solveAll__X7_solveAll_r6 kt_wm16) (kt_wf1 (kt_wp_X7_solveAll__X7_solveAll_r6 kt_wm17) (kt_wf1 (kt_wp_X7_solveAll__X7_solveAll_r6 kt_wm18) (kt_wf1 (kt_wp_X7_solveAll__X7_solveAll_r6 kt_wm19) (kt_wf1 (kt_wp_X7_solveAll__X7_solveAll_r6 kt_wm20) (kt_wf1 (kt_wp_X7_solveAll__X7_solveAll_r6 kt_wm21) (kt_wf1 (kt_wp_X7_solveAll__X7_solveAll_r6 kt_wm22) (kt_wf1 (kt_wp_X7_solveAll__X7_solveAll_r6 kt_wm23) kt_wf0)))))))))))))))))))))))) (kt_wf1 (kt_wp_X7_solveAll__X7_solveAll_r7 kt_wm0) (kt_wf1 (kt_wp_X7_solveAll__X7_solveAll_r7 kt_wm1) (kt_wf1 (kt_wp_X7_solveAll__X7_solveAll_r7 kt_wm2) (kt_wf1 (kt_wp_X7_solveAll__X7_solveAll_r7 kt_wm3) (kt_wf1 (kt_wp_X7_solveAll__X7_solveAll_r7 kt_wm4) (kt_wf1 (kt_wp_X7_solveAll__X7_solveAll_r7 kt_wm5) (kt_wf1 (kt_wp_X7_solveAll__X7_solveAll_r7 kt_wm6) (kt_wf1 (kt_wp_X7_solveAll__X7_solveAll_r7 kt_wm7) (kt_wf1 (kt_wp_X7_solveAll__X7_solveAll_r7 kt_wm8) (kt_wf1 (kt_wp_X7_solveAll__X7_solveAll_r1 kt_wm13) (kt_wf1 (kt_wp_X7_solveAll__X7_solveAll_r7 kt_wm9) (kt_wf1 (kt_wp_X7_solveAll__X7_solveAll_r7 kt_wm10) (kt_wf1 (kt_wp_X7_solveAll__X7_solveAll_r7 kt_wm11) (kt_wf1 (kt_wp_X7_solveAll__X7_solveAll_r2 kt_wm1) (kt_wf1 (kt_wp_X7_solveAll__X7_solveAll_r7 kt_wm12) (kt_wf1 (kt_wp_X7_solveAll__X7_solveAll_r2 kt_wm18) (kt_wf1 (kt_wp_X7_solveAll__X7_solveAll_r2 kt_wm15) (kt_wf1 (kt_wp_X7_solveAll__X7_solveAll_r2 kt_wm14) (kt_wf1 (kt_wp_X7_solveAll__X7_solveAll_r2 kt_wm17) kt_wf0))))))))))))))))))))))) (fun _ h => kt_wp_X7_solveAll__X70 h)) (fun _ h => kt_wp_X7_solveAll__X80 h)) (fun _ h => kt_wp_X7_solveAll__X60 h)) (fun _ h => kt_wp_X7_solveAll__X00 h)) (fun _ h => kt_wp_X7_solveAll__X10 h)) (fun _ h => kt_wp_X7_solveAll__X20 h))) kt_wg_X7_enter
set_option maxRecDepth 20000 in
theorem gX7_solveAll_X7_enter : GoodIn wsX7_solveAll (wsV RX7 103 RX7 yX7_enter wsX7_enter) := goodIn_app (a := [.methodLink RX7 103 yX7_enter, .instanceMethod yX7_enter, .selects RX7 yX7_enter yX7_enter, .initialized RX7]) (goodIn_sub (kt_wf1 (kt_wp_X7_solveAll__X7_solveAll_r3 kt_wm10) (kt_wf1 (kt_wp_X7_solveAll__X7_solveAll_r3 kt_wm11) (kt_wf1 (kt_wp_X7_solveAll__X7_solveAll_r3 kt_wm12) (kt_wf1 (kt_wp_X7_solveAll__X7_solveAll_r1 kt_wm11) kt_wf0)))) (by decide +kernel)) ggX7_solveAll_X7_enter
set_option maxRecDepth 20000 in
theorem kt_wg_X7_nextDigits : wsX7_nextDigits.all goodWord = true := by decide +kernel
set_option maxRecDepth 20000 in
theorem ggX7_solveAll_X7_nextDigits : GoodIn wsX7_solveAll wsX7_nextDigits := goodIn_sub (kt_wf1 (kt_wp_X7_solveAll__X7_solveAll_r7 kt_wm16) (kt_wfa (kt_wfa (kt_wfa (kt_wf1 (kt_wp_X7_solveAll__X7_solveAll_r1 kt_wm4) (kt_wf1 (kt_wp_X7_solveAll__X7_solveAll_r1 kt_wm6) kt_wf0)) (fun _ h => kt_wp_X7_solveAll__X70 h)) (fun _ h => kt_wp_X7_solveAll__X60 h)) (fun _ h => kt_wp_X7_solveAll__X00 h))) kt_wg_X7_nextDigits
set_option maxRecDepth 20000 in
theorem gX7_solveAll_X7_nextDigits : GoodIn wsX7_solveAll (wsV RX7 106 RX7 yX7_nextDigits wsX7_nextDigits) := goodIn_app (a := [.methodLink RX7 106 yX7_nextDigits, .instanceMethod yX7_nextDigits, .selects RX7 yX7_nextDigits yX7_nextDigits, .initialized RX7]) (goodIn_sub (kt_wf1 (kt_wp_X7_solveAll__X7_solveAll_r7 kt_wm13) (kt_wf1 (kt_wp_X7_solveAll__X7_solveAll_r7 kt_wm14) (kt_wf1 (kt_wp_X7_solveAll__X7_solveAll_r7 kt_wm15) (kt_wf1 (kt_wp_X7_solveAll__X7_solveAll_r1 kt_wm11) kt_wf0)))) (by decide +kernel)) ggX7_solveAll_X7_nextDigits
set_option maxRecDepth 20000 in
theorem kt_wg_X7_spread : wsX7_spread.all goodWord = true := by decide +kernel
set_option maxRecDepth 20000 in
theorem ggX7_solveAll_X7_spread : GoodIn wsX7_solveAll wsX7_spread := goodIn_sub (kt_wf1 (kt_wp_X7_solveAll__X7_solveAll_r7 kt_wm20) (kt_wfa (kt_wfa (kt_wf1 (kt_wp_X7_solveAll__X7_solveAll_r1 kt_wm7) (kt_wf1 (kt_wp_X7_solveAll__X7_solveAll_r1 kt_wm22) (kt_wf1 (kt_wp_X7_solveAll__X7_solveAll_r1 kt_wm3) (kt_wf1 (kt_wp_X7_solveAll__X7_solveAll_r1 kt_wm18) (kt_wf1 (kt_wp_X7_solveAll__X7_solveAll_r1 kt_wm20) (kt_wf1 (kt_wp_X7_solveAll__X7_solveAll_r7 kt_wm21) (kt_wf1 (kt_wp_X7_solveAll__X7_solveAll_r7 kt_wm22) (kt_wf1 (kt_wp_X7_solveAll__X7_solveAll_r7 kt_wm23) (kt_wf1 (kt_wp_X7_solveAll__X7_solveAll_r1 kt_wm11) (kt_wf1 (kt_wp_X7_solveAll__X7_solveAll_r8 kt_wm0) (kt_wf1 (kt_wp_X7_solveAll__X7_solveAll_r1 kt_wm21) (kt_wf1 (kt_wp_X7_solveAll__X7_solveAll_r5 kt_wm17) (kt_wf1 (kt_wp_X7_solveAll__X7_solveAll_r5 kt_wm18) (kt_wf1 (kt_wp_X7_solveAll__X7_solveAll_r5 kt_wm19) (kt_wf1 (kt_wp_X7_solveAll__X7_solveAll_r5 kt_wm20) kt_wf0))))))))))))))) (fun _ h => kt_wp_X7_solveAll__X70 h)) (fun _ h => kt_wp_X7_solveAll__X20 h))) kt_wg_X7_spread
set_option maxRecDepth 20000 in
theorem gX7_solveAll_X7_spread : GoodIn wsX7_solveAll (wsV RX7 109 RX7 yX7_spread wsX7_spread) := goodIn_app (a := [.methodLink RX7 109 yX7_spread, .instanceMethod yX7_spread, .selects RX7 yX7_spread yX7_spread, .initialized RX7]) (goodIn_sub (kt_wf1 (kt_wp_X7_solveAll__X7_solveAll_r7 kt_wm17) (kt_wf1 (kt_wp_X7_solveAll__X7_solveAll_r7 kt_wm18) (kt_wf1 (kt_wp_X7_solveAll__X7_solveAll_r7 kt_wm19) (kt_wf1 (kt_wp_X7_solveAll__X7_solveAll_r1 kt_wm11) kt_wf0)))) (by decide +kernel)) ggX7_solveAll_X7_spread
set_option maxRecDepth 20000 in
theorem kt_wg_X7_tallyUp : wsX7_tallyUp.all goodWord = true := by decide +kernel
set_option maxRecDepth 20000 in
theorem ggX7_solveAll_X7_tallyUp : GoodIn wsX7_solveAll wsX7_tallyUp := goodIn_sub (kt_wf1 (kt_wp_X7_solveAll__X7_solveAll_r8 kt_wm4) (kt_wfa (kt_wf1 (kt_wp_X7_solveAll__X7_solveAll_r8 kt_wm5) (kt_wf1 (kt_wp_X7_solveAll__X7_solveAll_r8 kt_wm6) (kt_wf1 (kt_wp_X7_solveAll__X7_solveAll_r1 kt_wm2) (kt_wf1 (kt_wp_X7_solveAll__X7_solveAll_r1 kt_wm18) (kt_wf1 (kt_wp_X7_solveAll__X7_solveAll_r1 kt_wm20) (kt_wf1 (kt_wp_X7_solveAll__X7_solveAll_r8 kt_wm7) (kt_wf1 (kt_wp_X7_solveAll__X7_solveAll_r2 kt_wm8) (kt_wf1 (kt_wp_X7_solveAll__X7_solveAll_r2 kt_wm5) (kt_wf1 (kt_wp_X7_solveAll__X7_solveAll_r2 kt_wm9) (kt_wf1 (kt_wp_X7_solveAll__X7_solveAll_r3 kt_wm9) (kt_wf1 (kt_wp_X7_solveAll__X7_solveAll_r2 kt_wm21) (kt_wf1 (kt_wp_X7_solveAll__X7_solveAll_r2 kt_wm22) (kt_wf1 (kt_wp_X7_solveAll__X7_solveAll_r2 kt_wm23) kt_wf0))))))))))))) (fun _ h => kt_wp_X7_solveAll__X70 h))) kt_wg_X7_tallyUp
set_option maxRecDepth 20000 in
theorem gX7_solveAll_X7_tallyUp : GoodIn wsX7_solveAll (wsV RX7 112 RX7 yX7_tallyUp wsX7_tallyUp) := goodIn_app (a := [.methodLink RX7 112 yX7_tallyUp, .instanceMethod yX7_tallyUp, .selects RX7 yX7_tallyUp yX7_tallyUp, .initialized RX7]) (goodIn_sub (kt_wf1 (kt_wp_X7_solveAll__X7_solveAll_r8 kt_wm1) (kt_wf1 (kt_wp_X7_solveAll__X7_solveAll_r8 kt_wm2) (kt_wf1 (kt_wp_X7_solveAll__X7_solveAll_r8 kt_wm3) (kt_wf1 (kt_wp_X7_solveAll__X7_solveAll_r1 kt_wm11) kt_wf0)))) (by decide +kernel)) ggX7_solveAll_X7_tallyUp
theorem sX7_solveAll_0 : kt_sg cX7_solveAll 0 [42, 180, 0, 54, 153, 0, 8, 42, 180, 0, 58, 172, 42, 182, 0, 62, 154, 0, 5, 2, 172, 42, 5, 42, 180, 0, 66, 104, 182, 0, 69, 42, 180, 0, 21, 5, 42, 180, 0, 66, 104, 42, 180, 0, 66, 42, 180, 0, 50, 180, 0, 73, 104, 42, 180, 0, 50, 180, 0, 78, 180, 0, 82, 104] = true := by decide +kernel
theorem dX7_solveAll_0 : decode cX7_solveAll 0 = .ok (.aload_n 0, 1) := kt_o42 (j := 0) sX7_solveAll_0 rfl
theorem dX7_solveAll_1 : decode cX7_solveAll 1 = .ok (.getfield 54, 3) := kt_o180 (j := 1) sX7_solveAll_0 rfl rfl
theorem dX7_solveAll_4 : decode cX7_solveAll 4 = .ok (.ifCond .eq 8, 3) := kt_o153 (j := 4) sX7_solveAll_0 rfl (by decide +kernel)
theorem dX7_solveAll_7 : decode cX7_solveAll 7 = .ok (.aload_n 0, 1) := kt_o42 (j := 7) sX7_solveAll_0 rfl
theorem dX7_solveAll_8 : decode cX7_solveAll 8 = .ok (.getfield 58, 3) := kt_o180 (j := 8) sX7_solveAll_0 rfl rfl
theorem dX7_solveAll_11 : decode cX7_solveAll 11 = .ok (.ireturn, 1) := kt_o172 (j := 11) sX7_solveAll_0 rfl
theorem dX7_solveAll_12 : decode cX7_solveAll 12 = .ok (.aload_n 0, 1) := kt_o42 (j := 12) sX7_solveAll_0 rfl
theorem dX7_solveAll_13 : decode cX7_solveAll 13 = .ok (.invokevirtual 62, 3) := kt_o182 (j := 13) sX7_solveAll_0 rfl rfl
theorem dX7_solveAll_16 : decode cX7_solveAll 16 = .ok (.ifCond .ne 5, 3) := kt_o154 (j := 16) sX7_solveAll_0 rfl (by decide +kernel)
theorem dX7_solveAll_19 : decode cX7_solveAll 19 = .ok (.iconst (-1), 1) := kt_o2 (j := 19) sX7_solveAll_0 rfl
theorem dX7_solveAll_20 : decode cX7_solveAll 20 = .ok (.ireturn, 1) := kt_o172 (j := 20) sX7_solveAll_0 rfl
theorem dX7_solveAll_21 : decode cX7_solveAll 21 = .ok (.aload_n 0, 1) := kt_o42 (j := 21) sX7_solveAll_0 rfl
theorem dX7_solveAll_22 : decode cX7_solveAll 22 = .ok (.iconst 2, 1) := kt_o5 (j := 22) sX7_solveAll_0 rfl
theorem dX7_solveAll_23 : decode cX7_solveAll 23 = .ok (.aload_n 0, 1) := kt_o42 (j := 23) sX7_solveAll_0 rfl
theorem dX7_solveAll_24 : decode cX7_solveAll 24 = .ok (.getfield 66, 3) := kt_o180 (j := 24) sX7_solveAll_0 rfl rfl
theorem dX7_solveAll_27 : decode cX7_solveAll 27 = .ok (.imul, 1) := kt_o104 (j := 27) sX7_solveAll_0 rfl
theorem dX7_solveAll_28 : decode cX7_solveAll 28 = .ok (.invokevirtual 69, 3) := kt_o182 (j := 28) sX7_solveAll_0 rfl rfl
theorem dX7_solveAll_31 : decode cX7_solveAll 31 = .ok (.aload_n 0, 1) := kt_o42 (j := 31) sX7_solveAll_0 rfl
theorem dX7_solveAll_32 : decode cX7_solveAll 32 = .ok (.getfield 21, 3) := kt_o180 (j := 32) sX7_solveAll_0 rfl rfl
theorem dX7_solveAll_35 : decode cX7_solveAll 35 = .ok (.iconst 2, 1) := kt_o5 (j := 35) sX7_solveAll_0 rfl
theorem dX7_solveAll_36 : decode cX7_solveAll 36 = .ok (.aload_n 0, 1) := kt_o42 (j := 36) sX7_solveAll_0 rfl
theorem dX7_solveAll_37 : decode cX7_solveAll 37 = .ok (.getfield 66, 3) := kt_o180 (j := 37) sX7_solveAll_0 rfl rfl
theorem dX7_solveAll_40 : decode cX7_solveAll 40 = .ok (.imul, 1) := kt_o104 (j := 40) sX7_solveAll_0 rfl
theorem dX7_solveAll_41 : decode cX7_solveAll 41 = .ok (.aload_n 0, 1) := kt_o42 (j := 41) sX7_solveAll_0 rfl
theorem dX7_solveAll_42 : decode cX7_solveAll 42 = .ok (.getfield 66, 3) := kt_o180 (j := 42) sX7_solveAll_0 rfl rfl
theorem dX7_solveAll_45 : decode cX7_solveAll 45 = .ok (.aload_n 0, 1) := kt_o42 (j := 45) sX7_solveAll_0 rfl
theorem dX7_solveAll_46 : decode cX7_solveAll 46 = .ok (.getfield 50, 3) := kt_o180 (j := 46) sX7_solveAll_0 rfl rfl
theorem dX7_solveAll_49 : decode cX7_solveAll 49 = .ok (.getfield 73, 3) := kt_o180 (j := 49) sX7_solveAll_0 rfl rfl
theorem dX7_solveAll_52 : decode cX7_solveAll 52 = .ok (.imul, 1) := kt_o104 (j := 52) sX7_solveAll_0 rfl
theorem dX7_solveAll_53 : decode cX7_solveAll 53 = .ok (.aload_n 0, 1) := kt_o42 (j := 53) sX7_solveAll_0 rfl
theorem dX7_solveAll_54 : decode cX7_solveAll 54 = .ok (.getfield 50, 3) := kt_o180 (j := 54) sX7_solveAll_0 rfl rfl
theorem dX7_solveAll_57 : decode cX7_solveAll 57 = .ok (.getfield 78, 3) := kt_o180 (j := 57) sX7_solveAll_0 rfl rfl
theorem dX7_solveAll_60 : decode cX7_solveAll 60 = .ok (.getfield 82, 3) := kt_o180 (j := 60) sX7_solveAll_0 rfl rfl
theorem dX7_solveAll_63 : decode cX7_solveAll 63 = .ok (.imul, 1) := kt_o104 (j := 63) sX7_solveAll_0 rfl
theorem sX7_solveAll_64 : kt_sg cX7_solveAll 64 [182, 0, 87, 42, 180, 0, 12, 182, 0, 91, 42, 180, 0, 29, 3, 184, 0, 94, 42, 3, 181, 0, 100, 42, 3, 181, 0, 58, 3, 60, 27, 42, 180, 0, 66, 162, 0, 20, 42, 5, 27, 104, 182, 0, 103, 42, 182, 0, 106, 132, 1, 1, 167, 255, 234, 42, 182, 0, 109, 42, 182, 0, 112, 42] = true := by decide +kernel
theorem dX7_solveAll_64 : decode cX7_solveAll 64 = .ok (.invokevirtual 87, 3) := kt_o182 (j := 0) sX7_solveAll_64 rfl rfl
theorem dX7_solveAll_67 : decode cX7_solveAll 67 = .ok (.aload_n 0, 1) := kt_o42 (j := 3) sX7_solveAll_64 rfl
theorem dX7_solveAll_68 : decode cX7_solveAll 68 = .ok (.getfield 12, 3) := kt_o180 (j := 4) sX7_solveAll_64 rfl rfl
theorem dX7_solveAll_71 : decode cX7_solveAll 71 = .ok (.invokevirtual 91, 3) := kt_o182 (j := 7) sX7_solveAll_64 rfl rfl
theorem dX7_solveAll_74 : decode cX7_solveAll 74 = .ok (.aload_n 0, 1) := kt_o42 (j := 10) sX7_solveAll_64 rfl
theorem dX7_solveAll_75 : decode cX7_solveAll 75 = .ok (.getfield 29, 3) := kt_o180 (j := 11) sX7_solveAll_64 rfl rfl
theorem dX7_solveAll_78 : decode cX7_solveAll 78 = .ok (.iconst 0, 1) := kt_o3 (j := 14) sX7_solveAll_64 rfl
theorem dX7_solveAll_79 : decode cX7_solveAll 79 = .ok (.invokestatic 94, 3) := kt_o184 (j := 15) sX7_solveAll_64 rfl rfl
theorem dX7_solveAll_82 : decode cX7_solveAll 82 = .ok (.aload_n 0, 1) := kt_o42 (j := 18) sX7_solveAll_64 rfl
theorem dX7_solveAll_83 : decode cX7_solveAll 83 = .ok (.iconst 0, 1) := kt_o3 (j := 19) sX7_solveAll_64 rfl
theorem dX7_solveAll_84 : decode cX7_solveAll 84 = .ok (.putfield 100, 3) := kt_o181 (j := 20) sX7_solveAll_64 rfl rfl
theorem dX7_solveAll_87 : decode cX7_solveAll 87 = .ok (.aload_n 0, 1) := kt_o42 (j := 23) sX7_solveAll_64 rfl
theorem dX7_solveAll_88 : decode cX7_solveAll 88 = .ok (.iconst 0, 1) := kt_o3 (j := 24) sX7_solveAll_64 rfl
theorem dX7_solveAll_89 : decode cX7_solveAll 89 = .ok (.putfield 58, 3) := kt_o181 (j := 25) sX7_solveAll_64 rfl rfl
theorem dX7_solveAll_92 : decode cX7_solveAll 92 = .ok (.iconst 0, 1) := kt_o3 (j := 28) sX7_solveAll_64 rfl
