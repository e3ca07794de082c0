theorem dX11_best_30 : decode cX11_best 30 = .ok (.iconst 0, 1) := kt_o3 (j := 30) sX11_best_0 rfl
theorem dX11_best_31 : decode cX11_best 31 = .ok (.istore 4, 2) := kt_o54 (j := 31) sX11_best_0 rfl
theorem dX11_best_33 : decode cX11_best 33 = .ok (.iload_n 1, 1) := kt_o27 (j := 33) sX11_best_0 rfl
theorem dX11_best_34 : decode cX11_best 34 = .ok (.iconst 2, 1) := kt_o5 (j := 34) sX11_best_0 rfl
theorem dX11_best_35 : decode cX11_best 35 = .ok (.irem, 1) := kt_o112 (j := 35) sX11_best_0 rfl
theorem dX11_best_36 : decode cX11_best 36 = .ok (.istore 5, 2) := kt_o54 (j := 36) sX11_best_0 rfl
theorem dX11_best_38 : decode cX11_best 38 = .ok (.iconst 0, 1) := kt_o3 (j := 38) sX11_best_0 rfl
theorem dX11_best_39 : decode cX11_best 39 = .ok (.istore 6, 2) := kt_o54 (j := 39) sX11_best_0 rfl
theorem dX11_best_41 : decode cX11_best 41 = .ok (.iload 6, 2) := kt_o21 (j := 41) sX11_best_0 rfl
theorem dX11_best_43 : decode cX11_best 43 = .ok (.bipush 32, 2) := kt_o16 (j := 43) sX11_best_0 rfl (by decide +kernel)
theorem dX11_best_45 : decode cX11_best 45 = .ok (.aload_n 0, 1) := kt_o42 (j := 45) sX11_best_0 rfl
theorem dX11_best_46 : decode cX11_best 46 = .ok (.getfield 103, 3) := kt_o180 (j := 46) sX11_best_0 rfl rfl
theorem dX11_best_49 : decode cX11_best 49 = .ok (.imul, 1) := kt_o104 (j := 49) sX11_best_0 rfl
theorem dX11_best_50 : decode cX11_best 50 = .ok (.if_icmp .ge 127, 3) := kt_o162 (j := 50) sX11_best_0 rfl (by decide +kernel)
theorem dX11_best_53 : decode cX11_best 53 = .ok (.iload_n 2, 1) := kt_o28 (j := 53) sX11_best_0 rfl
theorem dX11_best_54 : decode cX11_best 54 = .ok (.ifCond .ne 123, 3) := kt_o154 (j := 54) sX11_best_0 rfl (by decide +kernel)
theorem dX11_best_57 : decode cX11_best 57 = .ok (.aload_n 0, 1) := kt_o42 (j := 57) sX11_best_0 rfl
theorem dX11_best_58 : decode cX11_best 58 = .ok (.iload_n 1, 1) := kt_o27 (j := 58) sX11_best_0 rfl
theorem dX11_best_59 : decode cX11_best 59 = .ok (.iload 6, 2) := kt_o21 (j := 59) sX11_best_0 rfl
theorem dX11_best_61 : decode cX11_best 61 = .ok (.invokevirtual 200, 3) := kt_o182 (j := 61) sX11_best_0 rfl rfl
theorem sX11_best_64 : kt_sg cX11_best 64 [54, 7, 21, 7, 2, 159, 0, 102, 42, 180, 0, 57, 21, 7, 46, 42, 180, 0, 57, 27, 46, 159, 0, 6, 167, 0, 83, 29, 2, 159, 0, 51, 42, 180, 0, 57, 27, 46, 21, 5, 160, 0, 15, 42, 180, 0, 60, 21, 7, 46, 21, 4, 161, 0, 28, 42, 180, 0, 57, 27, 46, 4, 21, 5] = true := by decide +kernel
theorem dX11_best_64 : decode cX11_best 64 = .ok (.istore 7, 2) := kt_o54 (j := 0) sX11_best_64 rfl
theorem dX11_best_66 : decode cX11_best 66 = .ok (.iload 7, 2) := kt_o21 (j := 2) sX11_best_64 rfl
theorem dX11_best_68 : decode cX11_best 68 = .ok (.iconst (-1), 1) := kt_o2 (j := 4) sX11_best_64 rfl
theorem dX11_best_69 : decode cX11_best 69 = .ok (.if_icmp .eq 102, 3) := kt_o159 (j := 5) sX11_best_64 rfl (by decide +kernel)
theorem dX11_best_72 : decode cX11_best 72 = .ok (.aload_n 0, 1) := kt_o42 (j := 8) sX11_best_64 rfl
theorem dX11_best_73 : decode cX11_best 73 = .ok (.getfield 57, 3) := kt_o180 (j := 9) sX11_best_64 rfl rfl
theorem dX11_best_76 : decode cX11_best 76 = .ok (.iload 7, 2) := kt_o21 (j := 12) sX11_best_64 rfl
theorem dX11_best_78 : decode cX11_best 78 = .ok (.iaload, 1) := kt_o46 (j := 14) sX11_best_64 rfl
theorem dX11_best_79 : decode cX11_best 79 = .ok (.aload_n 0, 1) := kt_o42 (j := 15) sX11_best_64 rfl
theorem dX11_best_80 : decode cX11_best 80 = .ok (.getfield 57, 3) := kt_o180 (j := 16) sX11_best_64 rfl rfl
theorem dX11_best_83 : decode cX11_best 83 = .ok (.iload_n 1, 1) := kt_o27 (j := 19) sX11_best_64 rfl
theorem dX11_best_84 : decode cX11_best 84 = .ok (.iaload, 1) := kt_o46 (j := 20) sX11_best_64 rfl
theorem dX11_best_85 : decode cX11_best 85 = .ok (.if_icmp .eq 6, 3) := kt_o159 (j := 21) sX11_best_64 rfl (by decide +kernel)
theorem dX11_best_88 : decode cX11_best 88 = .ok (.goto 83, 3) := kt_o167 (j := 24) sX11_best_64 rfl (by decide +kernel)
theorem dX11_best_91 : decode cX11_best 91 = .ok (.iload_n 3, 1) := kt_o29 (j := 27) sX11_best_64 rfl
theorem dX11_best_92 : decode cX11_best 92 = .ok (.iconst (-1), 1) := kt_o2 (j := 28) sX11_best_64 rfl
theorem dX11_best_93 : decode cX11_best 93 = .ok (.if_icmp .eq 51, 3) := kt_o159 (j := 29) sX11_best_64 rfl (by decide +kernel)
theorem dX11_best_96 : decode cX11_best 96 = .ok (.aload_n 0, 1) := kt_o42 (j := 32) sX11_best_64 rfl
theorem dX11_best_97 : decode cX11_best 97 = .ok (.getfield 57, 3) := kt_o180 (j := 33) sX11_best_64 rfl rfl
theorem dX11_best_100 : decode cX11_best 100 = .ok (.iload_n 1, 1) := kt_o27 (j := 36) sX11_best_64 rfl
theorem dX11_best_101 : decode cX11_best 101 = .ok (.iaload, 1) := kt_o46 (j := 37) sX11_best_64 rfl
theorem dX11_best_102 : decode cX11_best 102 = .ok (.iload 5, 2) := kt_o21 (j := 38) sX11_best_64 rfl
theorem dX11_best_104 : decode cX11_best 104 = .ok (.if_icmp .ne 15, 3) := kt_o160 (j := 40) sX11_best_64 rfl (by decide +kernel)
theorem dX11_best_107 : decode cX11_best 107 = .ok (.aload_n 0, 1) := kt_o42 (j := 43) sX11_best_64 rfl
theorem dX11_best_108 : decode cX11_best 108 = .ok (.getfield 60, 3) := kt_o180 (j := 44) sX11_best_64 rfl rfl
theorem dX11_best_111 : decode cX11_best 111 = .ok (.iload 7, 2) := kt_o21 (j := 47) sX11_best_64 rfl
theorem dX11_best_113 : decode cX11_best 113 = .ok (.iaload, 1) := kt_o46 (j := 49) sX11_best_64 rfl
theorem dX11_best_114 : decode cX11_best 114 = .ok (.iload 4, 2) := kt_o21 (j := 50) sX11_best_64 rfl
theorem dX11_best_116 : decode cX11_best 116 = .ok (.if_icmp .lt 28, 3) := kt_o161 (j := 52) sX11_best_64 rfl (by decide +kernel)
theorem dX11_best_119 : decode cX11_best 119 = .ok (.aload_n 0, 1) := kt_o42 (j := 55) sX11_best_64 rfl
theorem dX11_best_120 : decode cX11_best 120 = .ok (.getfield 57, 3) := kt_o180 (j := 56) sX11_best_64 rfl rfl
theorem dX11_best_123 : decode cX11_best 123 = .ok (.iload_n 1, 1) := kt_o27 (j := 59) sX11_best_64 rfl
theorem dX11_best_124 : decode cX11_best 124 = .ok (.iaload, 1) := kt_o46 (j := 60) sX11_best_64 rfl
theorem dX11_best_125 : decode cX11_best 125 = .ok (.iconst 1, 1) := kt_o4 (j := 61) sX11_best_64 rfl
theorem dX11_best_126 : decode cX11_best 126 = .ok (.iload 5, 2) := kt_o21 (j := 62) sX11_best_64 rfl
theorem sX11_best_128 : kt_sg cX11_best 128 [100, 160, 0, 19, 42, 180, 0, 60, 21, 7, 46, 21, 4, 164, 0, 7, 4, 167, 0, 4, 3, 54, 8, 21, 8, 154, 0, 6, 167, 0, 15, 21, 6, 62, 42, 180, 0, 60, 21, 7, 46, 54, 4, 132, 6, 1, 167, 255, 123, 42, 42, 180, 0, 138, 182, 0, 161, 42, 182, 0, 164, 29, 172] = true := by decide +kernel
theorem dX11_best_128 : decode cX11_best 128 = .ok (.isub, 1) := kt_o100 (j := 0) sX11_best_128 rfl
theorem dX11_best_129 : decode cX11_best 129 = .ok (.if_icmp .ne 19, 3) := kt_o160 (j := 1) sX11_best_128 rfl (by decide +kernel)
theorem dX11_best_132 : decode cX11_best 132 = .ok (.aload_n 0, 1) := kt_o42 (j := 4) sX11_best_128 rfl
theorem dX11_best_133 : decode cX11_best 133 = .ok (.getfield 60, 3) := kt_o180 (j := 5) sX11_best_128 rfl rfl
theorem dX11_best_136 : decode cX11_best 136 = .ok (.iload 7, 2) := kt_o21 (j := 8) sX11_best_128 rfl
theorem dX11_best_138 : decode cX11_best 138 = .ok (.iaload, 1) := kt_o46 (j := 10) sX11_best_128 rfl
theorem dX11_best_139 : decode cX11_best 139 = .ok (.iload 4, 2) := kt_o21 (j := 11) sX11_best_128 rfl
theorem dX11_best_141 : decode cX11_best 141 = .ok (.if_icmp .le 7, 3) := kt_o164 (j := 13) sX11_best_128 rfl (by decide +kernel)
theorem dX11_best_144 : decode cX11_best 144 = .ok (.iconst 1, 1) := kt_o4 (j := 16) sX11_best_128 rfl
theorem dX11_best_145 : decode cX11_best 145 = .ok (.goto 4, 3) := kt_o167 (j := 17) sX11_best_128 rfl (by decide +kernel)
theorem dX11_best_148 : decode cX11_best 148 = .ok (.iconst 0, 1) := kt_o3 (j := 20) sX11_best_128 rfl
theorem dX11_best_149 : decode cX11_best 149 = .ok (.istore 8, 2) := kt_o54 (j := 21) sX11_best_128 rfl
theorem dX11_best_151 : decode cX11_best 151 = .ok (.iload 8, 2) := kt_o21 (j := 23) sX11_best_128 rfl
theorem dX11_best_153 : decode cX11_best 153 = .ok (.ifCond .ne 6, 3) := kt_o154 (j := 25) sX11_best_128 rfl (by decide +kernel)
theorem dX11_best_156 : decode cX11_best 156 = .ok (.goto 15, 3) := kt_o167 (j := 28) sX11_best_128 rfl (by decide +kernel)
theorem dX11_best_159 : decode cX11_best 159 = .ok (.iload 6, 2) := kt_o21 (j := 31) sX11_best_128 rfl
theorem dX11_best_161 : decode cX11_best 161 = .ok (.istore_n 3, 1) := kt_o62 (j := 33) sX11_best_128 rfl
theorem dX11_best_162 : decode cX11_best 162 = .ok (.aload_n 0, 1) := kt_o42 (j := 34) sX11_best_128 rfl
theorem dX11_best_163 : decode cX11_best 163 = .ok (.getfield 60, 3) := kt_o180 (j := 35) sX11_best_128 rfl rfl
theorem dX11_best_166 : decode cX11_best 166 = .ok (.iload 7, 2) := kt_o21 (j := 38) sX11_best_128 rfl
theorem dX11_best_168 : decode cX11_best 168 = .ok (.iaload, 1) := kt_o46 (j := 40) sX11_best_128 rfl
theorem dX11_best_169 : decode cX11_best 169 = .ok (.istore 4, 2) := kt_o54 (j := 41) sX11_best_128 rfl
theorem dX11_best_171 : decode cX11_best 171 = .ok (.iinc 6 1, 3) := kt_o132 (j := 43) sX11_best_128 rfl (by decide +kernel)
theorem dX11_best_174 : decode cX11_best 174 = .ok (.goto (-133), 3) := kt_o167 (j := 46) sX11_best_128 rfl (by decide +kernel)
theorem dX11_best_177 : decode cX11_best 177 = .ok (.aload_n 0, 1) := kt_o42 (j := 49) sX11_best_128 rfl
theorem dX11_best_178 : decode cX11_best 178 = .ok (.aload_n 0, 1) := kt_o42 (j := 50) sX11_best_128 rfl
theorem dX11_best_179 : decode cX11_best 179 = .ok (.getfield 138, 3) := kt_o180 (j := 51) sX11_best_128 rfl rfl
theorem dX11_best_182 : decode cX11_best 182 = .ok (.invokevirtual 161, 3) := kt_o182 (j := 54) sX11_best_128 rfl rfl
theorem dX11_best_185 : decode cX11_best 185 = .ok (.aload_n 0, 1) := kt_o42 (j := 57) sX11_best_128 rfl
theorem dX11_best_186 : decode cX11_best 186 = .ok (.invokevirtual 164, 3) := kt_o182 (j := 58) sX11_best_128 rfl rfl
theorem dX11_best_189 : decode cX11_best 189 = .ok (.iload_n 3, 1) := kt_o29 (j := 61) sX11_best_128 rfl
theorem dX11_best_190 : decode cX11_best 190 = .ok (.ireturn, 1) := kt_o172 (j := 62) sX11_best_128 rfl
theorem kt_wp_X11_count__X110 {w : Cond} (h : w ∈ wsX110) : w ∈ wsX11_count := List.mem_cons_of_mem _ (List.mem_append_right _ (h))
set_option maxRecDepth 20000 in
theorem ggX11_count_X11_isIn : GoodIn wsX11_count wsX11_isIn := goodIn_sub (kt_wf1 (List.mem_cons_of_mem _ (List.mem_append_left _ (List.mem_cons_of_mem _ (List.mem_cons_of_mem _ (List.mem_cons_of_mem _ (List.mem_cons_of_mem _ (List.mem_cons_of_mem _ (List.Mem.head _)))))))) kt_wf0) kt_wg_X11_isIn
set_option maxRecDepth 20000 in
theorem gX11_count_X11_isIn : GoodIn wsX11_count (va_wsS RX11 69 yX11_isIn wsX11_isIn) := goodIn_app (goodIn_of _ (by decide +kernel)) ggX11_count_X11_isIn
set_option maxRecDepth 20000 in
theorem ggX11_count_X11_stands : GoodIn wsX11_count wsX11_stands := goodIn_sub (kt_wf1 (List.mem_cons_of_mem _ (List.mem_append_left _ (List.mem_cons_of_mem _ (List.mem_cons_of_mem _ (List.mem_cons_of_mem _ (List.mem_cons_of_mem _ (List.mem_cons_of_mem _ (List.mem_cons_of_mem _ (List.mem_cons_of_mem _ (List.mem_cons_of_mem _ (List.mem_cons_of_mem _ (List.Mem.head _)))))))))))) (kt_wfa (kt_wf1 (List.mem_cons_of_mem _ (List.mem_append_left _ (List.mem_cons_of_mem _ (List.mem_cons_of_mem _ (List.mem_cons_of_mem _ (List.mem_cons_of_mem _ (List.mem_cons_of_mem _ (List.mem_cons_of_mem _ (List.mem_cons_of_mem _ (List.mem_cons_of_mem _ (List.mem_cons_of_mem _ (List.mem_cons_of_mem _ (List.Mem.head _))))))))))))) (kt_wf1 (List.mem_cons_of_mem _ (List.mem_append_left _ (List.mem_cons_of_mem _ (List.mem_cons_of_mem _ (List.mem_cons_of_mem _ (List.mem_cons_of_mem _ (List.mem_cons_of_mem _ (List.mem_cons_of_mem _ (List.mem_cons_of_mem _ (List.mem_cons_of_mem _ (List.mem_cons_of_mem _ (List.mem_cons_of_mem _ (List.mem_cons_of_mem _ (List.Mem.head _)))))))))))))) (kt_wf1 (List.mem_cons_of_mem _ (List.mem_append_left _ (List.mem_cons_of_mem _ (List.mem_cons_of_mem _ (List.mem_cons_of_mem _ (List.mem_cons_of_mem _ (List.mem_cons_of_mem _ (List.mem_cons_of_mem _ (List.mem_cons_of_mem _ (List.mem_cons_of_mem _ (List.mem_cons_of_mem _ (List.mem_cons_of_mem _ (List.mem_cons_of_mem _ (List.mem_cons_of_mem _ (List.Mem.head _))))))))))))))) (kt_wf1 (List.mem_cons_of_mem _ (List.mem_append_left _ (List.mem_cons_of_mem _ (List.mem_cons_of_mem _ (List.mem_cons_of_mem _ (List.mem_cons_of_mem _ (List.mem_cons_of_mem _ (List.mem_cons_of_mem _ (List.mem_cons_of_mem _ (List.mem_cons_of_mem _ (List.mem_cons_of_mem _ (List.mem_cons_of_mem _ (List.mem_cons_of_mem _ (List.mem_cons_of_mem _ (List.mem_cons_of_mem _ (List.Mem.head _)))))))))))))))) (kt_wf1 (List.mem_cons_of_mem _ (List.mem_append_left _ (List.mem_cons_of_mem _ (List.mem_cons_of_mem _ (List.mem_cons_of_mem _ (List.mem_cons_of_mem _ (List.mem_cons_of_mem _ (List.mem_cons_of_mem _ (List.mem_cons_of_mem _ (List.mem_cons_of_mem _ (List.mem_cons_of_mem _ (List.mem_cons_of_mem _ (List.mem_cons_of_mem _ (List.mem_cons_of_mem _ (List.mem_cons_of_mem _ (List.mem_cons_of_mem _ (List.Mem.head _))))))))))))))))) (kt_wf1 (List.mem_cons_of_mem _ (List.mem_append_left _ (List.mem_cons_of_mem _ (List.mem_cons_of_mem _ (List.mem_cons_of_mem _ (List.mem_cons_of_mem _ (List.mem_cons_of_mem _ (List.mem_cons_of_mem _ (List.mem_cons_of_mem _ (List.mem_cons_of_mem _ (List.mem_cons_of_mem _ (List.mem_cons_of_mem _ (List.mem_cons_of_mem _ (List.mem_cons_of_mem _ (List.mem_cons_of_mem _ (List.mem_cons_of_mem _ (List.mem_cons_of_mem _ (List.Mem.head _)))))))))))))))))) (kt_wf1 (List.mem_cons_of_mem _ (List.mem_append_left _ (List.mem_cons_of_mem _ (List.mem_cons_of_mem _ (List.mem_cons_of_mem _ (List.mem_cons_of_mem _ (List.Mem.head _))))))) (kt_wf1 (List.mem_cons_of_mem _ (List.mem_append_left _ (List.mem_cons_of_mem _ (List.mem_cons_of_mem _ (List.mem_cons_of_mem _ (List.mem_cons_of_mem _ (List.mem_cons_of_mem _ (List.mem_cons_of_mem _ (List.mem_cons_of_mem _ (List.mem_cons_of_mem _ (List.mem_cons_of_mem _ (List.mem_cons_of_mem _ (List.mem_cons_of_mem _ (List.mem_cons_of_mem _ (List.mem_cons_of_mem _ (List.mem_cons_of_mem _ (List.mem_cons_of_mem _ (List.mem_cons_of_mem _ (List.Mem.head _))))))))))))))))))) (kt_wf1 (List.mem_cons_of_mem _ (List.mem_append_left _ (List.mem_cons_of_mem _ (List.mem_cons_of_mem _ (List.mem_cons_of_mem _ (List.mem_cons_of_mem _ (List.mem_cons_of_mem _ (List.mem_cons_of_mem _ (List.mem_cons_of_mem _ (List.mem_cons_of_mem _ (List.mem_cons_of_mem _ (List.mem_cons_of_mem _ (List.mem_cons_of_mem _ (List.mem_cons_of_mem _ (List.mem_cons_of_mem _ (List.mem_cons_of_mem _ (List.mem_cons_of_mem _ (List.mem_cons_of_mem _ (List.mem_cons_of_mem _ (List.Mem.head _)))))))))))))))))))) (kt_wf1 (List.mem_cons_of_mem _ (List.mem_append_left _ (List.mem_cons_of_mem _ (List.mem_cons_of_mem _ (List.mem_cons_of_mem _ (List.mem_cons_of_mem _ (List.mem_cons_of_mem _ (List.mem_cons_of_mem _ (List.mem_cons_of_mem _ (List.mem_cons_of_mem _ (List.mem_cons_of_mem _ (List.mem_cons_of_mem _ (List.mem_cons_of_mem _ (List.mem_cons_of_mem _ (List.mem_cons_of_mem _ (List.mem_cons_of_mem _ (List.mem_cons_of_mem _ (List.mem_cons_of_mem _ (List.mem_cons_of_mem _ (List.mem_cons_of_mem _ (List.Mem.head _))))))))))))))))))))) kt_wf0)))))))))) (fun _ h => kt_wp_X11_count__X110 h))) kt_wg_X11_stands
set_option maxRecDepth 20000 in
theorem gX11_count_X11_stands : GoodIn wsX11_count (wsV RX11 184 RX11 yX11_stands wsX11_stands) := goodIn_app (a := [.methodLink RX11 184 yX11_stands, .instanceMethod yX11_stands, .selects RX11 yX11_stands yX11_stands, .initialized RX11]) (goodIn_sub (kt_wf1 (List.mem_cons_of_mem _ (List.mem_append_left _ (List.mem_cons_of_mem _ (List.mem_cons_of_mem _ (List.mem_cons_of_mem _ (List.mem_cons_of_mem _ (List.mem_cons_of_mem _ (List.mem_cons_of_mem _ (List.Mem.head _))))))))) (kt_wf1 (List.mem_cons_of_mem _ (List.mem_append_left _ (List.mem_cons_of_mem _ (List.mem_cons_of_mem _ (List.mem_cons_of_mem _ (List.mem_cons_of_mem _ (List.mem_cons_of_mem _ (List.mem_cons_of_mem _ (List.mem_cons_of_mem _ (List.Mem.head _)))))))))) (kt_wf1 (List.mem_cons_of_mem _ (List.mem_append_left _ (List.mem_cons_of_mem _ (List.mem_cons_of_mem _ (List.mem_cons_of_mem _ (List.mem_cons_of_mem _ (List.mem_cons_of_mem _ (List.mem_cons_of_mem _ (List.mem_cons_of_mem _ (List.mem_cons_of_mem _ (List.Mem.head _))))))))))) (kt_wf1 (List.mem_cons_of_mem _ (List.mem_append_left _ (List.mem_cons_of_mem _ (List.mem_cons_of_mem _ (List.mem_cons_of_mem _ (List.mem_cons_of_mem _ (List.Mem.head _))))))) kt_wf0)))) (by decide +kernel)) ggX11_count_X11_stands
theorem sX11_count_0 : kt_sg cX11_count 0 [42, 180, 0, 76, 153, 0, 21, 27, 3, 5, 184, 0, 69, 153, 0, 12, 28, 3, 4, 184, 0, 69, 154, 0, 5, 2, 172, 3, 62, 28, 54, 4, 21, 4, 133, 42, 182, 0, 184, 148, 156, 0, 28, 29, 42, 180, 0, 57, 21, 4, 46, 27, 160, 0, 7, 4, 167, 0, 4, 3, 96, 62, 132, 4, 2] = true := by decide +kernel
theorem dX11_count_0 : decode cX11_count 0 = .ok (.aload_n 0, 1) := kt_o42 (j := 0) sX11_count_0 rfl
theorem dX11_count_1 : decode cX11_count 1 = .ok (.getfield 76, 3) := kt_o180 (j := 1) sX11_count_0 rfl rfl
theorem dX11_count_4 : decode cX11_count 4 = .ok (.ifCond .eq 21, 3) := kt_o153 (j := 4) sX11_count_0 rfl (by decide +kernel)
theorem dX11_count_7 : decode cX11_count 7 = .ok (.iload_n 1, 1) := kt_o27 (j := 7) sX11_count_0 rfl
theorem dX11_count_8 : decode cX11_count 8 = .ok (.iconst 0, 1) := kt_o3 (j := 8) sX11_count_0 rfl
theorem dX11_count_9 : decode cX11_count 9 = .ok (.iconst 2, 1) := kt_o5 (j := 9) sX11_count_0 rfl
theorem dX11_count_10 : decode cX11_count 10 = .ok (.invokestatic 69, 3) := kt_o184 (j := 10) sX11_count_0 rfl rfl
theorem dX11_count_13 : decode cX11_count 13 = .ok (.ifCond .eq 12, 3) := kt_o153 (j := 13) sX11_count_0 rfl (by decide +kernel)
theorem dX11_count_16 : decode cX11_count 16 = .ok (.iload_n 2, 1) := kt_o28 (j := 16) sX11_count_0 rfl
theorem dX11_count_17 : decode cX11_count 17 = .ok (.iconst 0, 1) := kt_o3 (j := 17) sX11_count_0 rfl
theorem dX11_count_18 : decode cX11_count 18 = .ok (.iconst 1, 1) := kt_o4 (j := 18) sX11_count_0 rfl
theorem dX11_count_19 : decode cX11_count 19 = .ok (.invokestatic 69, 3) := kt_o184 (j := 19) sX11_count_0 rfl rfl
theorem dX11_count_22 : decode cX11_count 22 = .ok (.ifCond .ne 5, 3) := kt_o154 (j := 22) sX11_count_0 rfl (by decide +kernel)
theorem dX11_count_25 : decode cX11_count 25 = .ok (.iconst (-1), 1) := kt_o2 (j := 25) sX11_count_0 rfl
theorem dX11_count_26 : decode cX11_count 26 = .ok (.ireturn, 1) := kt_o172 (j := 26) sX11_count_0 rfl
theorem dX11_count_27 : decode cX11_count 27 = .ok (.iconst 0, 1) := kt_o3 (j := 27) sX11_count_0 rfl
theorem dX11_count_28 : decode cX11_count 28 = .ok (.istore_n 3, 1) := kt_o62 (j := 28) sX11_count_0 rfl
theorem dX11_count_29 : decode cX11_count 29 = .ok (.iload_n 2, 1) := kt_o28 (j := 29) sX11_count_0 rfl
theorem dX11_count_30 : decode cX11_count 30 = .ok (.istore 4, 2) := kt_o54 (j := 30) sX11_count_0 rfl
theorem dX11_count_32 : decode cX11_count 32 = .ok (.iload 4, 2) := kt_o21 (j := 32) sX11_count_0 rfl
theorem dX11_count_34 : decode cX11_count 34 = .ok (.i2l, 1) := kt_o133 (j := 34) sX11_count_0 rfl
theorem dX11_count_35 : decode cX11_count 35 = .ok (.aload_n 0, 1) := kt_o42 (j := 35) sX11_count_0 rfl
theorem dX11_count_36 : decode cX11_count 36 = .ok (.invokevirtual 184, 3) := kt_o182 (j := 36) sX11_count_0 rfl rfl
theorem dX11_count_39 : decode cX11_count 39 = .ok (.lcmp, 1) := kt_o148 (j := 39) sX11_count_0 rfl
theorem dX11_count_40 : decode cX11_count 40 = .ok (.ifCond .ge 28, 3) := kt_o156 (j := 40) sX11_count_0 rfl (by decide +kernel)
theorem dX11_count_43 : decode cX11_count 43 = .ok (.iload_n 3, 1) := kt_o29 (j := 43) sX11_count_0 rfl
theorem dX11_count_44 : decode cX11_count 44 = .ok (.aload_n 0, 1) := kt_o42 (j := 44) sX11_count_0 rfl
theorem dX11_count_45 : decode cX11_count 45 = .ok (.getfield 57, 3) := kt_o180 (j := 45) sX11_count_0 rfl rfl
theorem dX11_count_48 : decode cX11_count 48 = .ok (.iload 4, 2) := kt_o21 (j := 48) sX11_count_0 rfl
theorem dX11_count_50 : decode cX11_count 50 = .ok (.iaload, 1) := kt_o46 (j := 50) sX11_count_0 rfl
theorem dX11_count_51 : decode cX11_count 51 = .ok (.iload_n 1, 1) := kt_o27 (j := 51) sX11_count_0 rfl
theorem dX11_count_52 : decode cX11_count 52 = .ok (.if_icmp .ne 7, 3) := kt_o160 (j := 52) sX11_count_0 rfl (by decide +kernel)
theorem dX11_count_55 : decode cX11_count 55 = .ok (.iconst 1, 1) := kt_o4 (j := 55) sX11_count_0 rfl
theorem dX11_count_56 : decode cX11_count 56 = .ok (.goto 4, 3) := kt_o167 (j := 56) sX11_count_0 rfl (by decide +kernel)
theorem dX11_count_59 : decode cX11_count 59 = .ok (.iconst 0, 1) := kt_o3 (j := 59) sX11_count_0 rfl
theorem dX11_count_60 : decode cX11_count 60 = .ok (.iadd, 1) := kt_o96 (j := 60) sX11_count_0 rfl
theorem dX11_count_61 : decode cX11_count 61 = .ok (.istore_n 3, 1) := kt_o62 (j := 61) sX11_count_0 rfl
theorem dX11_count_62 : decode cX11_count 62 = .ok (.iinc 4 2, 3) := kt_o132 (j := 62) sX11_count_0 rfl (by decide +kernel)
theorem sX11_count_65 : kt_sg cX11_count 65 [167, 255, 223, 29, 172] = true := by decide +kernel
theorem dX11_count_65 : decode cX11_count 65 = .ok (.goto (-33), 3) := kt_o167 (j := 0) sX11_count_65 rfl (by decide +kernel)
theorem dX11_count_68 : decode cX11_count 68 = .ok (.iload_n 3, 1) := kt_o29 (j := 3) sX11_count_65 rfl
theorem dX11_count_69 : decode cX11_count 69 = .ok (.ireturn, 1) := kt_o172 (j := 4) sX11_count_65 rfl
theorem kt_wp_X11_most__X110 {w : Cond} (h : w ∈ wsX110) : w ∈ wsX11_most := List.mem_cons_of_mem _ (List.mem_append_right _ (h))
set_option maxRecDepth 20000 in
theorem ggX11_most_X11_isIn : GoodIn wsX11_most wsX11_isIn := goodIn_sub (kt_wf1 (List.mem_cons_of_mem _ (List.mem_append_left _ (List.mem_cons_of_mem _ (List.mem_cons_of_mem _ (List.mem_cons_of_mem _ (List.mem_cons_of_mem _ (List.mem_cons_of_mem _ (List.mem_cons_of_mem _ (List.mem_cons_of_mem _ (List.mem_cons_of_mem _ (List.mem_cons_of_mem _ (List.mem_cons_of_mem _ (List.Mem.head _))))))))))))) kt_wf0) kt_wg_X11_isIn
set_option maxRecDepth 20000 in
theorem gX11_most_X11_isIn : GoodIn wsX11_most (va_wsS RX11 69 yX11_isIn wsX11_isIn) := goodIn_app (goodIn_of _ (by decide +kernel)) ggX11_most_X11_isIn
set_option maxRecDepth 20000 in
theorem ggX11_most_X11_stands : GoodIn wsX11_most wsX11_stands := goodIn_sub (kt_wf1 (List.mem_cons_of_mem _ (List.mem_append_left _ (List.mem_cons_of_mem _ (List.mem_cons_of_mem _ (List.mem_cons_of_mem _ (List.mem_cons_of_mem _ (List.mem_cons_of_mem _ (List.mem_cons_of_mem _ (List.mem_cons_of_mem _ (List.mem_cons_of_mem _ (List.mem_cons_of_mem _ (List.mem_cons_of_mem _ (List.mem_cons_of_mem _ (List.mem_cons_of_mem _ (List.mem_cons_of_mem _ (List.mem_cons_of_mem _ (List.Mem.head _))))))))))))))))) (kt_wfa (kt_wf1 (List.mem_cons_of_mem _ (List.mem_append_left _ (List.mem_cons_of_mem _ (List.mem_cons_of_mem _ (List.mem_cons_of_mem _ (List.mem_cons_of_mem _ (List.mem_cons_of_mem _ (List.mem_cons_of_mem _ (List.mem_cons_of_mem _ (List.mem_cons_of_mem _ (List.mem_cons_of_mem _ (List.mem_cons_of_mem _ (List.mem_cons_of_mem _ (List.mem_cons_of_mem _ (List.mem_cons_of_mem _ (List.mem_cons_of_mem _ (List.mem_cons_of_mem _ (List.Mem.head _)))))))))))))))))) (kt_wf1 (List.mem_cons_of_mem _ (List.mem_append_left _ (List.mem_cons_of_mem _ (List.mem_cons_of_mem _ (List.mem_cons_of_mem _ (List.mem_cons_of_mem _ (List.mem_cons_of_mem _ (List.mem_cons_of_mem _ (List.mem_cons_of_mem _ (List.mem_cons_of_mem _ (List.mem_cons_of_mem _ (List.mem_cons_of_mem _ (List.mem_cons_of_mem _ (List.mem_cons_of_mem _ (List.mem_cons_of_mem _ (List.mem_cons_of_mem _ (List.mem_cons_of_mem _ (List.mem_cons_of_mem _ (List.Mem.head _))))))))))))))))))) (kt_wf1 (List.mem_cons_of_mem _ (List.mem_append_left _ (List.mem_cons_of_mem _ (List.mem_cons_of_mem _ (List.mem_cons_of_mem _ (List.mem_cons_of_mem _ (List.mem_cons_of_mem _ (List.mem_cons_of_mem _ (List.mem_cons_of_mem _ (List.mem_cons_of_mem _ (List.mem_cons_of_mem _ (List.mem_cons_of_mem _ (List.mem_cons_of_mem _ (List.mem_cons_of_mem _ (List.mem_cons_of_mem _ (List.mem_cons_of_mem _ (List.mem_cons_of_mem _ (List.mem_cons_of_mem _ (List.mem_cons_of_mem _ (List.Mem.head _)))))))))))))))))))) (kt_wf1 (List.mem_cons_of_mem _ (List.mem_append_left _ (List.mem_cons_of_mem _ (List.mem_cons_of_mem _ (List.mem_cons_of_mem _ (List.mem_cons_of_mem _ (List.mem_cons_of_mem _ (List.mem_cons_of_mem _ (List.mem_cons_of_mem _ (List.mem_cons_of_mem _ (List.mem_cons_of_mem _ (List.mem_cons_of_mem _ (List.mem_cons_of_mem _ (List.mem_cons_of_mem _ (List.mem_cons_of_mem _ (List.mem_cons_of_mem _ (List.mem_cons_of_mem _ (List.mem_cons_of_mem _ (List.mem_cons_of_mem _ (List.mem_cons_of_mem _ (List.Mem.head _))))))))))))))))))))) (kt_wf1 (List.mem_cons_of_mem _ (List.mem_append_left _ (List.mem_cons_of_mem _ (List.mem_cons_of_mem _ (List.mem_cons_of_mem _ (List.mem_cons_of_mem _ (List.mem_cons_of_mem _ (List.mem_cons_of_mem _ (List.mem_cons_of_mem _ (List.mem_cons_of_mem _ (List.mem_cons_of_mem _ (List.mem_cons_of_mem _ (List.mem_cons_of_mem _ (List.mem_cons_of_mem _ (List.mem_cons_of_mem _ (List.mem_cons_of_mem _ (List.mem_cons_of_mem _ (List.mem_cons_of_mem _ (List.mem_cons_of_mem _ (List.mem_cons_of_mem _ (List.mem_cons_of_mem _ (List.Mem.head _)))))))))))))))))))))) (kt_wf1 (List.mem_cons_of_mem _ (List.mem_append_left _ (List.mem_cons_of_mem _ (List.mem_cons_of_mem _ (List.mem_cons_of_mem _ (List.mem_cons_of_mem _ (List.mem_cons_of_mem _ (List.mem_cons_of_mem _ (List.mem_cons_of_mem _ (List.mem_cons_of_mem _ (List.mem_cons_of_mem _ (List.mem_cons_of_mem _ (List.mem_cons_of_mem _ (List.mem_cons_of_mem _ (List.mem_cons_of_mem _ (List.mem_cons_of_mem _ (List.mem_cons_of_mem _ (List.mem_cons_of_mem _ (List.mem_cons_of_mem _ (List.mem_cons_of_mem _ (List.mem_cons_of_mem _ (List.mem_cons_of_mem _ (List.Mem.head _))))))))))))))))))))))) (kt_wf1 (List.mem_cons_of_mem _ (List.mem_append_left _ (List.mem_cons_of_mem _ (List.mem_cons_of_mem _ (List.mem_cons_of_mem _ (List.mem_cons_of_mem _ (List.mem_cons_of_mem _ (List.mem_cons_of_mem _ (List.mem_cons_of_mem _ (List.mem_cons_of_mem _ (List.mem_cons_of_mem _ (List.Mem.head _)))))))))))) (kt_wf1 (List.mem_cons_of_mem _ (List.mem_append_left _ (List.mem_cons_of_mem _ (List.mem_cons_of_mem _ (List.mem_cons_of_mem _ (List.mem_cons_of_mem _ (List.mem_cons_of_mem _ (List.mem_cons_of_mem _ (List.mem_cons_of_mem _ (List.mem_cons_of_mem _ (List.mem_cons_of_mem _ (List.mem_cons_of_mem _ (List.mem_cons_of_mem _ (List.mem_cons_of_mem _ (List.mem_cons_of_mem _ (List.mem_cons_of_mem _ (List.mem_cons_of_mem _ (List.mem_cons_of_mem _ (List.mem_cons_of_mem _ (List.mem_cons_of_mem _ (List.mem_cons_of_mem _ (List.mem_cons_of_mem _ (List.mem_cons_of_mem _ (List.Mem.head _)))))))))))))))))))))))) (kt_wf1 (List.mem_cons_of_mem _ (List.mem_append_left _ (List.mem_cons_of_mem _ (List.mem_cons_of_mem _ (List.mem_cons_of_mem _ (List.mem_cons_of_mem _ (List.mem_cons_of_mem _ (List.mem_cons_of_mem _ (List.mem_cons_of_mem _ (List.mem_cons_of_mem _ (List.mem_cons_of_mem _ (List.mem_cons_of_mem _ (List.mem_cons_of_mem _ (List.mem_cons_of_mem _ (List.mem_cons_of_mem _ (List.mem_cons_of_mem _ (List.mem_cons_of_mem _ (List.mem_cons_of_mem _ (List.mem_cons_of_mem _ (List.mem_cons_of_mem _ (List.mem_cons_of_mem _ (List.mem_cons_of_mem _ (List.mem_cons_of_mem _ (List.mem_cons_of_mem _ (List.Mem.head _))))))))))))))))))))))))) (kt_wf1 (List.mem_cons_of_mem _ (List.mem_append_left _ (List.mem_cons_of_mem _ (List.mem_cons_of_mem _ (List.mem_cons_of_mem _ (List.mem_cons_of_mem _ (List.mem_cons_of_mem _ (List.mem_cons_of_mem _ (List.mem_cons_of_mem _ (List.mem_cons_of_mem _ (List.mem_cons_of_mem _ (List.mem_cons_of_mem _ (List.mem_cons_of_mem _ (List.mem_cons_of_mem _ (List.mem_cons_of_mem _ (List.mem_cons_of_mem _ (List.mem_cons_of_mem _ (List.mem_cons_of_mem _ (List.mem_cons_of_mem _ (List.mem_cons_of_mem _ (List.mem_cons_of_mem _ (List.mem_cons_of_mem _ (List.mem_cons_of_mem _ (List.mem_cons_of_mem _ (List.mem_cons_of_mem _ (List.Mem.head _)))))))))))))))))))))))))) kt_wf0)))))))))) (fun _ h => kt_wp_X11_most__X110 h))) kt_wg_X11_stands
set_option maxRecDepth 20000 in
theorem gX11_most_X11_stands : GoodIn wsX11_most (wsV RX11 184 RX11 yX11_stands wsX11_stands) := goodIn_app (a := [.methodLink RX11 184 yX11_stands, .instanceMethod yX11_stands, .selects RX11 yX11_stands yX11_stands, .initialized RX11]) (goodIn_sub (kt_wf1 (List.mem_cons_of_mem _ (List.mem_append_left _ (List.mem_cons_of_mem _ (List.mem_cons_of_mem _ (List.mem_cons_of_mem _ (List.mem_cons_of_mem _ (List.mem_cons_of_mem _ (List.mem_cons_of_mem _ (List.mem_cons_of_mem _ (List.mem_cons_of_mem _ (List.mem_cons_of_mem _ (List.mem_cons_of_mem _ (List.mem_cons_of_mem _ (List.Mem.head _)))))))))))))) (kt_wf1 (List.mem_cons_of_mem _ (List.mem_append_left _ (List.mem_cons_of_mem _ (List.mem_cons_of_mem _ (List.mem_cons_of_mem _ (List.mem_cons_of_mem _ (List.mem_cons_of_mem _ (List.mem_cons_of_mem _ (List.mem_cons_of_mem _ (List.mem_cons_of_mem _ (List.mem_cons_of_mem _ (List.mem_cons_of_mem _ (List.mem_cons_of_mem _ (List.mem_cons_of_mem _ (List.Mem.head _))))))))))))))) (kt_wf1 (List.mem_cons_of_mem _ (List.mem_append_left _ (List.mem_cons_of_mem _ (List.mem_cons_of_mem _ (List.mem_cons_of_mem _ (List.mem_cons_of_mem _ (List.mem_cons_of_mem _ (List.mem_cons_of_mem _ (List.mem_cons_of_mem _ (List.mem_cons_of_mem _ (List.mem_cons_of_mem _ (List.mem_cons_of_mem _ (List.mem_cons_of_mem _ (List.mem_cons_of_mem _ (List.mem_cons_of_mem _ (List.Mem.head _)))))))))))))))) (kt_wf1 (List.mem_cons_of_mem _ (List.mem_append_left _ (List.mem_cons_of_mem _ (List.mem_cons_of_mem _ (List.mem_cons_of_mem _ (List.mem_cons_of_mem _ (List.mem_cons_of_mem _ (List.mem_cons_of_mem _ (List.mem_cons_of_mem _ (List.mem_cons_of_mem _ (List.mem_cons_of_mem _ (List.Mem.head _)))))))))))) kt_wf0)))) (by decide +kernel)) ggX11_most_X11_stands
theorem sX11_most_0 : kt_sg cX11_most 0 [42, 180, 0, 76, 153, 0, 12, 27, 3, 4, 184, 0, 69, 154, 0, 5, 2, 172, 2, 61, 3, 62, 29, 133, 42, 182, 0, 184, 148, 156, 0, 30, 42, 180, 0, 57, 29, 46, 27, 160, 0, 14, 28, 42, 180, 0, 60, 29, 46, 184, 0, 204, 61, 132, 3, 1, 167, 255, 222, 28, 172] = true := by decide +kernel
theorem dX11_most_0 : decode cX11_most 0 = .ok (.aload_n 0, 1) := kt_o42 (j := 0) sX11_most_0 rfl
theorem dX11_most_1 : decode cX11_most 1 = .ok (.getfield 76, 3) := kt_o180 (j := 1) sX11_most_0 rfl rfl
theorem dX11_most_4 : decode cX11_most 4 = .ok (.ifCond .eq 12, 3) := kt_o153 (j := 4) sX11_most_0 rfl (by decide +kernel)
theorem dX11_most_7 : decode cX11_most 7 = .ok (.iload_n 1, 1) := kt_o27 (j := 7) sX11_most_0 rfl
theorem dX11_most_8 : decode cX11_most 8 = .ok (.iconst 0, 1) := kt_o3 (j := 8) sX11_most_0 rfl
theorem dX11_most_9 : decode cX11_most 9 = .ok (.iconst 1, 1) := kt_o4 (j := 9) sX11_most_0 rfl
theorem dX11_most_10 : decode cX11_most 10 = .ok (.invokestatic 69, 3) := kt_o184 (j := 10) sX11_most_0 rfl rfl
theorem dX11_most_13 : decode cX11_most 13 = .ok (.ifCond .ne 5, 3) := kt_o154 (j := 13) sX11_most_0 rfl (by decide +kernel)
theorem dX11_most_16 : decode cX11_most 16 = .ok (.iconst (-1), 1) := kt_o2 (j := 16) sX11_most_0 rfl
theorem dX11_most_17 : decode cX11_most 17 = .ok (.ireturn, 1) := kt_o172 (j := 17) sX11_most_0 rfl
theorem dX11_most_18 : decode cX11_most 18 = .ok (.iconst (-1), 1) := kt_o2 (j := 18) sX11_most_0 rfl
theorem dX11_most_19 : decode cX11_most 19 = .ok (.istore_n 2, 1) := kt_o61 (j := 19) sX11_most_0 rfl
theorem dX11_most_20 : decode cX11_most 20 = .ok (.iconst 0, 1) := kt_o3 (j := 20) sX11_most_0 rfl
theorem dX11_most_21 : decode cX11_most 21 = .ok (.istore_n 3, 1) := kt_o62 (j := 21) sX11_most_0 rfl
theorem dX11_most_22 : decode cX11_most 22 = .ok (.iload_n 3, 1) := kt_o29 (j := 22) sX11_most_0 rfl
theorem dX11_most_23 : decode cX11_most 23 = .ok (.i2l, 1) := kt_o133 (j := 23) sX11_most_0 rfl
theorem dX11_most_24 : decode cX11_most 24 = .ok (.aload_n 0, 1) := kt_o42 (j := 24) sX11_most_0 rfl
theorem dX11_most_25 : decode cX11_most 25 = .ok (.invokevirtual 184, 3) := kt_o182 (j := 25) sX11_most_0 rfl rfl
theorem dX11_most_28 : decode cX11_most 28 = .ok (.lcmp, 1) := kt_o148 (j := 28) sX11_most_0 rfl
theorem dX11_most_29 : decode cX11_most 29 = .ok (.ifCond .ge 30, 3) := kt_o156 (j := 29) sX11_most_0 rfl (by decide +kernel)
theorem dX11_most_32 : decode cX11_most 32 = .ok (.aload_n 0, 1) := kt_o42 (j := 32) sX11_most_0 rfl
theorem dX11_most_33 : decode cX11_most 33 = .ok (.getfield 57, 3) := kt_o180 (j := 33) sX11_most_0 rfl rfl
theorem dX11_most_36 : decode cX11_most 36 = .ok (.iload_n 3, 1) := kt_o29 (j := 36) sX11_most_0 rfl
theorem dX11_most_37 : decode cX11_most 37 = .ok (.iaload, 1) := kt_o46 (j := 37) sX11_most_0 rfl
theorem dX11_most_38 : decode cX11_most 38 = .ok (.iload_n 1, 1) := kt_o27 (j := 38) sX11_most_0 rfl
theorem dX11_most_39 : decode cX11_most 39 = .ok (.if_icmp .ne 14, 3) := kt_o160 (j := 39) sX11_most_0 rfl (by decide +kernel)
theorem dX11_most_42 : decode cX11_most 42 = .ok (.iload_n 2, 1) := kt_o28 (j := 42) sX11_most_0 rfl
theorem dX11_most_43 : decode cX11_most 43 = .ok (.aload_n 0, 1) := kt_o42 (j := 43) sX11_most_0 rfl
theorem dX11_most_44 : decode cX11_most 44 = .ok (.getfield 60, 3) := kt_o180 (j := 44) sX11_most_0 rfl rfl
theorem dX11_most_47 : decode cX11_most 47 = .ok (.iload_n 3, 1) := kt_o29 (j := 47) sX11_most_0 rfl
theorem dX11_most_48 : decode cX11_most 48 = .ok (.iaload, 1) := kt_o46 (j := 48) sX11_most_0 rfl
theorem dX11_most_49 : decode cX11_most 49 = .ok (.invokestatic 204, 3) := kt_o184 (j := 49) sX11_most_0 rfl rfl
theorem dX11_most_52 : decode cX11_most 52 = .ok (.istore_n 2, 1) := kt_o61 (j := 52) sX11_most_0 rfl
theorem dX11_most_53 : decode cX11_most 53 = .ok (.iinc 3 1, 3) := kt_o132 (j := 53) sX11_most_0 rfl (by decide +kernel)
theorem dX11_most_56 : decode cX11_most 56 = .ok (.goto (-34), 3) := kt_o167 (j := 56) sX11_most_0 rfl (by decide +kernel)
theorem dX11_most_59 : decode cX11_most 59 = .ok (.iload_n 2, 1) := kt_o28 (j := 59) sX11_most_0 rfl
theorem dX11_most_60 : decode cX11_most 60 = .ok (.ireturn, 1) := kt_o172 (j := 60) sX11_most_0 rfl
theorem kt_wp_X11_stand__X110 {w : Cond} (h : w ∈ wsX110) : w ∈ wsX11_stand := List.mem_cons_of_mem _ (List.mem_append_right _ (h))
set_option maxRecDepth 20000 in
theorem ggX11_stand_X11_isIn : GoodIn wsX11_stand wsX11_isIn := goodIn_sub (kt_wf1 (List.mem_cons_of_mem _ (List.mem_append_left _ (List.mem_cons_of_mem _ (List.mem_cons_of_mem _ (List.mem_cons_of_mem _ (List.mem_cons_of_mem _ (List.mem_cons_of_mem _ (List.mem_cons_of_mem _ (List.Mem.head _))))))))) kt_wf0) kt_wg_X11_isIn
set_option maxRecDepth 20000 in
theorem gX11_stand_X11_isIn : GoodIn wsX11_stand (va_wsS RX11 69 yX11_isIn wsX11_isIn) := goodIn_app (goodIn_of _ (by decide +kernel)) ggX11_stand_X11_isIn
set_option maxRecDepth 20000 in
theorem ggX11_stand_X11_stands : GoodIn wsX11_stand wsX11_stands := goodIn_sub (kt_wf1 (List.mem_cons_of_mem _ (List.mem_append_left _ (List.mem_cons_of_mem _ (List.mem_cons_of_mem _ (List.mem_cons_of_mem _ (List.mem_cons_of_mem _ (List.mem_cons_of_mem _ (List.mem_cons_of_mem _ (List.mem_cons_of_mem _ (List.mem_cons_of_mem _ (List.mem_cons_of_mem _ (List.mem_cons_of_mem _ (List.Mem.head _))))))))))))) (kt_wfa (kt_wf1 (List.mem_cons_of_mem _ (List.mem_append_left _ (List.mem_cons_of_mem _ (List.Mem.head _)))) (kt_wf1 (List.mem_cons_of_mem _ (List.mem_append_left _ (List.mem_cons_of_mem _ (List.mem_cons_of_mem _ (List.mem_cons_of_mem _ (List.mem_cons_of_mem _ (List.mem_cons_of_mem _ (List.mem_cons_of_mem _ (List.mem_cons_of_mem _ (List.mem_cons_of_mem _ (List.mem_cons_of_mem _ (List.mem_cons_of_mem _ (List.mem_cons_of_mem _ (List.Mem.head _)))))))))))))) (kt_wf1 (List.mem_cons_of_mem _ (List.mem_append_left _ (List.mem_cons_of_mem _ (List.mem_cons_of_mem _ (List.mem_cons_of_mem _ (List.mem_cons_of_mem _ (List.mem_cons_of_mem _ (List.mem_cons_of_mem _ (List.mem_cons_of_mem _ (List.mem_cons_of_mem _ (List.mem_cons_of_mem _ (List.mem_cons_of_mem _ (List.mem_cons_of_mem _ (List.mem_cons_of_mem _ (List.Mem.head _))))))))))))))) (kt_wf1 (List.mem_cons_of_mem _ (List.mem_append_left _ (List.mem_cons_of_mem _ (List.mem_cons_of_mem _ (List.mem_cons_of_mem _ (List.mem_cons_of_mem _ (List.mem_cons_of_mem _ (List.mem_cons_of_mem _ (List.mem_cons_of_mem _ (List.mem_cons_of_mem _ (List.mem_cons_of_mem _ (List.mem_cons_of_mem _ (List.mem_cons_of_mem _ (List.mem_cons_of_mem _ (List.mem_cons_of_mem _ (List.Mem.head _)))))))))))))))) (kt_wf1 (List.mem_cons_of_mem _ (List.mem_append_left _ (List.mem_cons_of_mem _ (List.mem_cons_of_mem _ (List.mem_cons_of_mem _ (List.mem_cons_of_mem _ (List.mem_cons_of_mem _ (List.mem_cons_of_mem _ (List.mem_cons_of_mem _ (List.mem_cons_of_mem _ (List.mem_cons_of_mem _ (List.mem_cons_of_mem _ (List.mem_cons_of_mem _ (List.mem_cons_of_mem _ (List.mem_cons_of_mem _ (List.mem_cons_of_mem _ (List.Mem.head _))))))))))))))))) (kt_wf1 (List.mem_cons_of_mem _ (List.mem_append_left _ (List.mem_cons_of_mem _ (List.mem_cons_of_mem _ (List.mem_cons_of_mem _ (List.mem_cons_of_mem _ (List.mem_cons_of_mem _ (List.mem_cons_of_mem _ (List.mem_cons_of_mem _ (List.mem_cons_of_mem _ (List.mem_cons_of_mem _ (List.mem_cons_of_mem _ (List.mem_cons_of_mem _ (List.mem_cons_of_mem _ (List.mem_cons_of_mem _ (List.mem_cons_of_mem _ (List.mem_cons_of_mem _ (List.Mem.head _)))))))))))))))))) (kt_wf1 (List.mem_cons_of_mem _ (List.mem_append_left _ (List.mem_cons_of_mem _ (List.mem_cons_of_mem _ (List.mem_cons_of_mem _ (List.mem_cons_of_mem _ (List.mem_cons_of_mem _ (List.Mem.head _)))))))) (kt_wf1 (List.mem_cons_of_mem _ (List.mem_append_left _ (List.mem_cons_of_mem _ (List.mem_cons_of_mem _ (List.mem_cons_of_mem _ (List.mem_cons_of_mem _ (List.mem_cons_of_mem _ (List.mem_cons_of_mem _ (List.mem_cons_of_mem _ (List.mem_cons_of_mem _ (List.mem_cons_of_mem _ (List.mem_cons_of_mem _ (List.mem_cons_of_mem _ (List.mem_cons_of_mem _ (List.mem_cons_of_mem _ (List.mem_cons_of_mem _ (List.mem_cons_of_mem _ (List.mem_cons_of_mem _ (List.Mem.head _))))))))))))))))))) (kt_wf1 (List.mem_cons_of_mem _ (List.mem_append_left _ (List.mem_cons_of_mem _ (List.mem_cons_of_mem _ (List.mem_cons_of_mem _ (List.mem_cons_of_mem _ (List.mem_cons_of_mem _ (List.mem_cons_of_mem _ (List.mem_cons_of_mem _ (List.mem_cons_of_mem _ (List.mem_cons_of_mem _ (List.mem_cons_of_mem _ (List.mem_cons_of_mem _ (List.mem_cons_of_mem _ (List.mem_cons_of_mem _ (List.mem_cons_of_mem _ (List.mem_cons_of_mem _ (List.mem_cons_of_mem _ (List.mem_cons_of_mem _ (List.Mem.head _)))))))))))))))))))) (kt_wf1 (List.mem_cons_of_mem _ (List.mem_append_left _ (List.mem_cons_of_mem _ (List.mem_cons_of_mem _ (List.mem_cons_of_mem _ (List.mem_cons_of_mem _ (List.mem_cons_of_mem _ (List.mem_cons_of_mem _ (List.mem_cons_of_mem _ (List.mem_cons_of_mem _ (List.mem_cons_of_mem _ (List.mem_cons_of_mem _ (List.mem_cons_of_mem _ (List.mem_cons_of_mem _ (List.mem_cons_of_mem _ (List.mem_cons_of_mem _ (List.mem_cons_of_mem _ (List.mem_cons_of_mem _ (List.mem_cons_of_mem _ (List.mem_cons_of_mem _ (List.Mem.head _))))))))))))))))))))) kt_wf0)))))))))) (fun _ h => kt_wp_X11_stand__X110 h))) kt_wg_X11_stands
set_option maxRecDepth 20000 in
theorem gX11_stand_X11_stands : GoodIn wsX11_stand (wsV RX11 184 RX11 yX11_stands wsX11_stands) := goodIn_app (a := [.methodLink RX11 184 yX11_stands, .instanceMethod yX11_stands, .selects RX11 yX11_stands yX11_stands, .initialized RX11]) (goodIn_sub (kt_wf1 (List.mem_cons_of_mem _ (List.mem_append_left _ (List.mem_cons_of_mem _ (List.mem_cons_of_mem _ (List.mem_cons_of_mem _ (List.mem_cons_of_mem _ (List.mem_cons_of_mem _ (List.mem_cons_of_mem _ (List.mem_cons_of_mem _ (List.Mem.head _)))))))))) (kt_wf1 (List.mem_cons_of_mem _ (List.mem_append_left _ (List.mem_cons_of_mem _ (List.mem_cons_of_mem _ (List.mem_cons_of_mem _ (List.mem_cons_of_mem _ (List.mem_cons_of_mem _ (List.mem_cons_of_mem _ (List.mem_cons_of_mem _ (List.mem_cons_of_mem _ (List.Mem.head _))))))))))) (kt_wf1 (List.mem_cons_of_mem _ (List.mem_append_left _ (List.mem_cons_of_mem _ (List.mem_cons_of_mem _ (List.mem_cons_of_mem _ (List.mem_cons_of_mem _ (List.mem_cons_of_mem _ (List.mem_cons_of_mem _ (List.mem_cons_of_mem _ (List.mem_cons_of_mem _ (List.mem_cons_of_mem _ (List.Mem.head _)))))))))))) (kt_wf1 (List.mem_cons_of_mem _ (List.mem_append_left _ (List.mem_cons_of_mem _ (List.mem_cons_of_mem _ (List.mem_cons_of_mem _ (List.mem_cons_of_mem _ (List.mem_cons_of_mem _ (List.Mem.head _)))))))) kt_wf0)))) (by decide +kernel)) ggX11_stand_X11_stands
theorem sX11_stand_0 : kt_sg cX11_stand 0 [42, 180, 0, 76, 153, 0, 30, 28, 3, 4, 184, 0, 69, 153, 0, 21, 27, 155, 0, 17, 27, 133, 42, 182, 0, 184, 20, 0, 180, 109, 148, 155, 0, 5, 2, 172, 42, 180, 0, 57, 5, 27, 104, 28, 96, 46, 62, 29, 5, 164, 0, 7, 2, 167, 0, 4, 29, 172] = true := by decide +kernel
theorem dX11_stand_0 : decode cX11_stand 0 = .ok (.aload_n 0, 1) := kt_o42 (j := 0) sX11_stand_0 rfl
theorem dX11_stand_1 : decode cX11_stand 1 = .ok (.getfield 76, 3) := kt_o180 (j := 1) sX11_stand_0 rfl rfl
theorem dX11_stand_4 : decode cX11_stand 4 = .ok (.ifCond .eq 30, 3) := kt_o153 (j := 4) sX11_stand_0 rfl (by decide +kernel)
theorem dX11_stand_7 : decode cX11_stand 7 = .ok (.iload_n 2, 1) := kt_o28 (j := 7) sX11_stand_0 rfl
theorem dX11_stand_8 : decode cX11_stand 8 = .ok (.iconst 0, 1) := kt_o3 (j := 8) sX11_stand_0 rfl
theorem dX11_stand_9 : decode cX11_stand 9 = .ok (.iconst 1, 1) := kt_o4 (j := 9) sX11_stand_0 rfl
theorem dX11_stand_10 : decode cX11_stand 10 = .ok (.invokestatic 69, 3) := kt_o184 (j := 10) sX11_stand_0 rfl rfl
theorem dX11_stand_13 : decode cX11_stand 13 = .ok (.ifCond .eq 21, 3) := kt_o153 (j := 13) sX11_stand_0 rfl (by decide +kernel)
theorem dX11_stand_16 : decode cX11_stand 16 = .ok (.iload_n 1, 1) := kt_o27 (j := 16) sX11_stand_0 rfl
theorem dX11_stand_17 : decode cX11_stand 17 = .ok (.ifCond .lt 17, 3) := kt_o155 (j := 17) sX11_stand_0 rfl (by decide +kernel)
theorem dX11_stand_20 : decode cX11_stand 20 = .ok (.iload_n 1, 1) := kt_o27 (j := 20) sX11_stand_0 rfl
theorem dX11_stand_21 : decode cX11_stand 21 = .ok (.i2l, 1) := kt_o133 (j := 21) sX11_stand_0 rfl
theorem dX11_stand_22 : decode cX11_stand 22 = .ok (.aload_n 0, 1) := kt_o42 (j := 22) sX11_stand_0 rfl
theorem dX11_stand_23 : decode cX11_stand 23 = .ok (.invokevirtual 184, 3) := kt_o182 (j := 23) sX11_stand_0 rfl rfl
theorem dX11_stand_26 : decode cX11_stand 26 = .ok (.ldc2_w 180, 3) := kt_o20 (j := 26) sX11_stand_0 rfl rfl
theorem dX11_stand_29 : decode cX11_stand 29 = .ok (.ldiv, 1) := kt_o109 (j := 29) sX11_stand_0 rfl
theorem dX11_stand_30 : decode cX11_stand 30 = .ok (.lcmp, 1) := kt_o148 (j := 30) sX11_stand_0 rfl
theorem dX11_stand_31 : decode cX11_stand 31 = .ok (.ifCond .lt 5, 3) := kt_o155 (j := 31) sX11_stand_0 rfl (by decide +kernel)
theorem dX11_stand_34 : decode cX11_stand 34 = .ok (.iconst (-1), 1) := kt_o2 (j := 34) sX11_stand_0 rfl
theorem dX11_stand_35 : decode cX11_stand 35 = .ok (.ireturn, 1) := kt_o172 (j := 35) sX11_stand_0 rfl
theorem dX11_stand_36 : decode cX11_stand 36 = .ok (.aload_n 0, 1) := kt_o42 (j := 36) sX11_stand_0 rfl
theorem dX11_stand_37 : decode cX11_stand 37 = .ok (.getfield 57, 3) := kt_o180 (j := 37) sX11_stand_0 rfl rfl
theorem dX11_stand_40 : decode cX11_stand 40 = .ok (.iconst 2, 1) := kt_o5 (j := 40) sX11_stand_0 rfl
theorem dX11_stand_41 : decode cX11_stand 41 = .ok (.iload_n 1, 1) := kt_o27 (j := 41) sX11_stand_0 rfl
theorem dX11_stand_42 : decode cX11_stand 42 = .ok (.imul, 1) := kt_o104 (j := 42) sX11_stand_0 rfl
theorem dX11_stand_43 : decode cX11_stand 43 = .ok (.iload_n 2, 1) := kt_o28 (j := 43) sX11_stand_0 rfl
theorem dX11_stand_44 : decode cX11_stand 44 = .ok (.iadd, 1) := kt_o96 (j := 44) sX11_stand_0 rfl
theorem dX11_stand_45 : decode cX11_stand 45 = .ok (.iaload, 1) := kt_o46 (j := 45) sX11_stand_0 rfl
theorem dX11_stand_46 : decode cX11_stand 46 = .ok (.istore_n 3, 1) := kt_o62 (j := 46) sX11_stand_0 rfl
theorem dX11_stand_47 : decode cX11_stand 47 = .ok (.iload_n 3, 1) := kt_o29 (j := 47) sX11_stand_0 rfl
theorem dX11_stand_48 : decode cX11_stand 48 = .ok (.iconst 2, 1) := kt_o5 (j := 48) sX11_stand_0 rfl
theorem dX11_stand_49 : decode cX11_stand 49 = .ok (.if_icmp .le 7, 3) := kt_o164 (j := 49) sX11_stand_0 rfl (by decide +kernel)
theorem dX11_stand_52 : decode cX11_stand 52 = .ok (.iconst (-1), 1) := kt_o2 (j := 52) sX11_stand_0 rfl
theorem dX11_stand_53 : decode cX11_stand 53 = .ok (.goto 4, 3) := kt_o167 (j := 53) sX11_stand_0 rfl (by decide +kernel)
theorem dX11_stand_56 : decode cX11_stand 56 = .ok (.iload_n 3, 1) := kt_o29 (j := 56) sX11_stand_0 rfl
theorem dX11_stand_57 : decode cX11_stand 57 = .ok (.ireturn, 1) := kt_o172 (j := 57) sX11_stand_0 rfl
theorem sJ9_max_7cf53_0 : kt_sg cJ9_max_7cf53 0 [26, 27, 161, 0, 7, 26, 167, 0, 4, 27, 172] = true := by decide +kernel
theorem dJ9_max_7cf53_0 : decode cJ9_max_7cf53 0 = .ok (.iload_n 0, 1) := kt_o26 (j := 0) sJ9_max_7cf53_0 rfl
theorem dJ9_max_7cf53_1 : decode cJ9_max_7cf53 1 = .ok (.iload_n 1, 1) := kt_o27 (j := 1) sJ9_max_7cf53_0 rfl
theorem dJ9_max_7cf53_2 : decode cJ9_max_7cf53 2 = .ok (.if_icmp .lt 7, 3) := kt_o161 (j := 2) sJ9_max_7cf53_0 rfl (by decide +kernel)
theorem dJ9_max_7cf53_5 : decode cJ9_max_7cf53 5 = .ok (.iload_n 0, 1) := kt_o26 (j := 5) sJ9_max_7cf53_0 rfl
theorem dJ9_max_7cf53_6 : decode cJ9_max_7cf53 6 = .ok (.goto 4, 3) := kt_o167 (j := 6) sJ9_max_7cf53_0 rfl (by decide +kernel)
theorem dJ9_max_7cf53_9 : decode cJ9_max_7cf53 9 = .ok (.iload_n 1, 1) := kt_o27 (j := 9) sJ9_max_7cf53_0 rfl
theorem dJ9_max_7cf53_10 : decode cJ9_max_7cf53 10 = .ok (.ireturn, 1) := kt_o172 (j := 10) sJ9_max_7cf53_0 rfl
theorem sJ9_min_7cf53_0 : kt_sg cJ9_min_7cf53 0 [26, 27, 163, 0, 7, 26, 167, 0, 4, 27, 172] = true := by decide +kernel
theorem dJ9_min_7cf53_0 : decode cJ9_min_7cf53 0 = .ok (.iload_n 0, 1) := kt_o26 (j := 0) sJ9_min_7cf53_0 rfl
theorem dJ9_min_7cf53_1 : decode cJ9_min_7cf53 1 = .ok (.iload_n 1, 1) := kt_o27 (j := 1) sJ9_min_7cf53_0 rfl
theorem dJ9_min_7cf53_2 : decode cJ9_min_7cf53 2 = .ok (.if_icmp .gt 7, 3) := kt_o163 (j := 2) sJ9_min_7cf53_0 rfl (by decide +kernel)
theorem dJ9_min_7cf53_5 : decode cJ9_min_7cf53 5 = .ok (.iload_n 0, 1) := kt_o26 (j := 5) sJ9_min_7cf53_0 rfl
theorem dJ9_min_7cf53_6 : decode cJ9_min_7cf53 6 = .ok (.goto 4, 3) := kt_o167 (j := 6) sJ9_min_7cf53_0 rfl (by decide +kernel)
theorem dJ9_min_7cf53_9 : decode cJ9_min_7cf53 9 = .ok (.iload_n 1, 1) := kt_o27 (j := 9) sJ9_min_7cf53_0 rfl
theorem dJ9_min_7cf53_10 : decode cJ9_min_7cf53 10 = .ok (.ireturn, 1) := kt_o172 (j := 10) sJ9_min_7cf53_0 rfl
theorem sJ7_fill_53178_0 : kt_sg cJ7_fill_53178 0 [3, 61, 42, 190, 62, 28, 29, 162, 0, 13, 42, 28, 27, 79, 132, 2, 1, 167, 255, 244, 177] = true := by decide +kernel
theorem dJ7_fill_53178_0 : decode cJ7_fill_53178 0 = .ok (.iconst 0, 1) := kt_o3 (j := 0) sJ7_fill_53178_0 rfl
theorem dJ7_fill_53178_1 : decode cJ7_fill_53178 1 = .ok (.istore_n 2, 1) := kt_o61 (j := 1) sJ7_fill_53178_0 rfl
theorem dJ7_fill_53178_2 : decode cJ7_fill_53178 2 = .ok (.aload_n 0, 1) := kt_o42 (j := 2) sJ7_fill_53178_0 rfl
theorem dJ7_fill_53178_3 : decode cJ7_fill_53178 3 = .ok (.arraylength, 1) := kt_o190 (j := 3) sJ7_fill_53178_0 rfl
theorem dJ7_fill_53178_4 : decode cJ7_fill_53178 4 = .ok (.istore_n 3, 1) := kt_o62 (j := 4) sJ7_fill_53178_0 rfl
theorem dJ7_fill_53178_5 : decode cJ7_fill_53178 5 = .ok (.iload_n 2, 1) := kt_o28 (j := 5) sJ7_fill_53178_0 rfl
theorem dJ7_fill_53178_6 : decode cJ7_fill_53178 6 = .ok (.iload_n 3, 1) := kt_o29 (j := 6) sJ7_fill_53178_0 rfl
theorem dJ7_fill_53178_7 : decode cJ7_fill_53178 7 = .ok (.if_icmp .ge 13, 3) := kt_o162 (j := 7) sJ7_fill_53178_0 rfl (by decide +kernel)
theorem dJ7_fill_53178_10 : decode cJ7_fill_53178 10 = .ok (.aload_n 0, 1) := kt_o42 (j := 10) sJ7_fill_53178_0 rfl
theorem dJ7_fill_53178_11 : decode cJ7_fill_53178 11 = .ok (.iload_n 2, 1) := kt_o28 (j := 11) sJ7_fill_53178_0 rfl
theorem dJ7_fill_53178_12 : decode cJ7_fill_53178 12 = .ok (.iload_n 1, 1) := kt_o27 (j := 12) sJ7_fill_53178_0 rfl
theorem dJ7_fill_53178_13 : decode cJ7_fill_53178 13 = .ok (.iastore, 1) := kt_o79 (j := 13) sJ7_fill_53178_0 rfl
theorem dJ7_fill_53178_14 : decode cJ7_fill_53178 14 = .ok (.iinc 2 1, 3) := kt_o132 (j := 14) sJ7_fill_53178_0 rfl (by decide +kernel)
theorem dJ7_fill_53178_17 : decode cJ7_fill_53178 17 = .ok (.goto (-12), 3) := kt_o167 (j := 17) sJ7_fill_53178_0 rfl (by decide +kernel)
theorem dJ7_fill_53178_20 : decode cJ7_fill_53178 20 = .ok (.return_, 1) := kt_o177 (j := 20) sJ7_fill_53178_0 rfl
abbrev vwCl : List vw_C := [(RX0, TX0, 5), (RX1, TX1, 5), (RX2, TX2, 4), (RX3, TX3, 9), (RX4, TX4, 5), (RX5, TX5, 3), (RX6, TX6, 9), (RX7, TX7, 15), (RX8, TX8, 3), (RX9, TX9, 3), (RX10, TX10, 6), (RX11, TX11, 29)]
