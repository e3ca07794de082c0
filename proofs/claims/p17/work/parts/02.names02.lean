theorem dX7_solveAll_93 : decode cX7_solveAll 93 = .ok (.istore_n 1, 1) := kt_o60 (j := 29) sX7_solveAll_64 rfl
theorem dX7_solveAll_94 : decode cX7_solveAll 94 = .ok (.iload_n 1, 1) := kt_o27 (j := 30) sX7_solveAll_64 rfl
theorem dX7_solveAll_95 : decode cX7_solveAll 95 = .ok (.aload_n 0, 1) := kt_o42 (j := 31) sX7_solveAll_64 rfl
theorem dX7_solveAll_96 : decode cX7_solveAll 96 = .ok (.getfield 66, 3) := kt_o180 (j := 32) sX7_solveAll_64 rfl rfl
theorem dX7_solveAll_99 : decode cX7_solveAll 99 = .ok (.if_icmp .ge 20, 3) := kt_o162 (j := 35) sX7_solveAll_64 rfl (by decide +kernel)
theorem dX7_solveAll_102 : decode cX7_solveAll 102 = .ok (.aload_n 0, 1) := kt_o42 (j := 38) sX7_solveAll_64 rfl
theorem dX7_solveAll_103 : decode cX7_solveAll 103 = .ok (.iconst 2, 1) := kt_o5 (j := 39) sX7_solveAll_64 rfl
theorem dX7_solveAll_104 : decode cX7_solveAll 104 = .ok (.iload_n 1, 1) := kt_o27 (j := 40) sX7_solveAll_64 rfl
theorem dX7_solveAll_105 : decode cX7_solveAll 105 = .ok (.imul, 1) := kt_o104 (j := 41) sX7_solveAll_64 rfl
theorem dX7_solveAll_106 : decode cX7_solveAll 106 = .ok (.invokevirtual 103, 3) := kt_o182 (j := 42) sX7_solveAll_64 rfl rfl
theorem dX7_solveAll_109 : decode cX7_solveAll 109 = .ok (.aload_n 0, 1) := kt_o42 (j := 45) sX7_solveAll_64 rfl
theorem dX7_solveAll_110 : decode cX7_solveAll 110 = .ok (.invokevirtual 106, 3) := kt_o182 (j := 46) sX7_solveAll_64 rfl rfl
theorem dX7_solveAll_113 : decode cX7_solveAll 113 = .ok (.iinc 1 1, 3) := kt_o132 (j := 49) sX7_solveAll_64 rfl (by decide +kernel)
theorem dX7_solveAll_116 : decode cX7_solveAll 116 = .ok (.goto (-22), 3) := kt_o167 (j := 52) sX7_solveAll_64 rfl (by decide +kernel)
theorem dX7_solveAll_119 : decode cX7_solveAll 119 = .ok (.aload_n 0, 1) := kt_o42 (j := 55) sX7_solveAll_64 rfl
theorem dX7_solveAll_120 : decode cX7_solveAll 120 = .ok (.invokevirtual 109, 3) := kt_o182 (j := 56) sX7_solveAll_64 rfl rfl
theorem dX7_solveAll_123 : decode cX7_solveAll 123 = .ok (.aload_n 0, 1) := kt_o42 (j := 59) sX7_solveAll_64 rfl
theorem dX7_solveAll_124 : decode cX7_solveAll 124 = .ok (.invokevirtual 112, 3) := kt_o182 (j := 60) sX7_solveAll_64 rfl rfl
theorem dX7_solveAll_127 : decode cX7_solveAll 127 = .ok (.aload_n 0, 1) := kt_o42 (j := 63) sX7_solveAll_64 rfl
theorem sX7_solveAll_128 : kt_sg cX7_solveAll 128 [4, 181, 0, 54, 42, 180, 0, 58, 172] = true := by decide +kernel
theorem dX7_solveAll_128 : decode cX7_solveAll 128 = .ok (.iconst 1, 1) := kt_o4 (j := 0) sX7_solveAll_128 rfl
theorem dX7_solveAll_129 : decode cX7_solveAll 129 = .ok (.putfield 54, 3) := kt_o181 (j := 1) sX7_solveAll_128 rfl rfl
theorem dX7_solveAll_132 : decode cX7_solveAll 132 = .ok (.aload_n 0, 1) := kt_o42 (j := 4) sX7_solveAll_128 rfl
theorem dX7_solveAll_133 : decode cX7_solveAll 133 = .ok (.getfield 58, 3) := kt_o180 (j := 5) sX7_solveAll_128 rfl rfl
theorem dX7_solveAll_136 : decode cX7_solveAll 136 = .ok (.ireturn, 1) := kt_o172 (j := 8) sX7_solveAll_128 rfl
theorem sX7_measure_0 : kt_sg cX7_measure 0 [4, 60, 3, 61, 28, 42, 180, 0, 50, 180, 0, 73, 162, 0, 42, 42, 180, 0, 25, 28, 27, 79, 27, 42, 180, 0, 50, 180, 0, 78, 180, 0, 115, 4, 96, 104, 60, 5, 27, 104, 17, 39, 16, 164, 0, 5, 3, 172, 132, 2, 1, 167, 255, 209, 42, 27, 181, 0, 66, 4, 172] = true := by decide +kernel
theorem dX7_measure_0 : decode cX7_measure 0 = .ok (.iconst 1, 1) := kt_o4 (j := 0) sX7_measure_0 rfl
theorem dX7_measure_1 : decode cX7_measure 1 = .ok (.istore_n 1, 1) := kt_o60 (j := 1) sX7_measure_0 rfl
theorem dX7_measure_2 : decode cX7_measure 2 = .ok (.iconst 0, 1) := kt_o3 (j := 2) sX7_measure_0 rfl
theorem dX7_measure_3 : decode cX7_measure 3 = .ok (.istore_n 2, 1) := kt_o61 (j := 3) sX7_measure_0 rfl
theorem dX7_measure_4 : decode cX7_measure 4 = .ok (.iload_n 2, 1) := kt_o28 (j := 4) sX7_measure_0 rfl
theorem dX7_measure_5 : decode cX7_measure 5 = .ok (.aload_n 0, 1) := kt_o42 (j := 5) sX7_measure_0 rfl
theorem dX7_measure_6 : decode cX7_measure 6 = .ok (.getfield 50, 3) := kt_o180 (j := 6) sX7_measure_0 rfl rfl
theorem dX7_measure_9 : decode cX7_measure 9 = .ok (.getfield 73, 3) := kt_o180 (j := 9) sX7_measure_0 rfl rfl
theorem dX7_measure_12 : decode cX7_measure 12 = .ok (.if_icmp .ge 42, 3) := kt_o162 (j := 12) sX7_measure_0 rfl (by decide +kernel)
theorem dX7_measure_15 : decode cX7_measure 15 = .ok (.aload_n 0, 1) := kt_o42 (j := 15) sX7_measure_0 rfl
theorem dX7_measure_16 : decode cX7_measure 16 = .ok (.getfield 25, 3) := kt_o180 (j := 16) sX7_measure_0 rfl rfl
theorem dX7_measure_19 : decode cX7_measure 19 = .ok (.iload_n 2, 1) := kt_o28 (j := 19) sX7_measure_0 rfl
theorem dX7_measure_20 : decode cX7_measure 20 = .ok (.iload_n 1, 1) := kt_o27 (j := 20) sX7_measure_0 rfl
theorem dX7_measure_21 : decode cX7_measure 21 = .ok (.iastore, 1) := kt_o79 (j := 21) sX7_measure_0 rfl
theorem dX7_measure_22 : decode cX7_measure 22 = .ok (.iload_n 1, 1) := kt_o27 (j := 22) sX7_measure_0 rfl
theorem dX7_measure_23 : decode cX7_measure 23 = .ok (.aload_n 0, 1) := kt_o42 (j := 23) sX7_measure_0 rfl
theorem dX7_measure_24 : decode cX7_measure 24 = .ok (.getfield 50, 3) := kt_o180 (j := 24) sX7_measure_0 rfl rfl
theorem dX7_measure_27 : decode cX7_measure 27 = .ok (.getfield 78, 3) := kt_o180 (j := 27) sX7_measure_0 rfl rfl
theorem dX7_measure_30 : decode cX7_measure 30 = .ok (.getfield 115, 3) := kt_o180 (j := 30) sX7_measure_0 rfl rfl
theorem dX7_measure_33 : decode cX7_measure 33 = .ok (.iconst 1, 1) := kt_o4 (j := 33) sX7_measure_0 rfl
theorem dX7_measure_34 : decode cX7_measure 34 = .ok (.iadd, 1) := kt_o96 (j := 34) sX7_measure_0 rfl
theorem dX7_measure_35 : decode cX7_measure 35 = .ok (.imul, 1) := kt_o104 (j := 35) sX7_measure_0 rfl
theorem dX7_measure_36 : decode cX7_measure 36 = .ok (.istore_n 1, 1) := kt_o60 (j := 36) sX7_measure_0 rfl
theorem dX7_measure_37 : decode cX7_measure 37 = .ok (.iconst 2, 1) := kt_o5 (j := 37) sX7_measure_0 rfl
theorem dX7_measure_38 : decode cX7_measure 38 = .ok (.iload_n 1, 1) := kt_o27 (j := 38) sX7_measure_0 rfl
theorem dX7_measure_39 : decode cX7_measure 39 = .ok (.imul, 1) := kt_o104 (j := 39) sX7_measure_0 rfl
theorem dX7_measure_40 : decode cX7_measure 40 = .ok (.sipush 10000, 3) := kt_o17 (j := 40) sX7_measure_0 rfl (by decide +kernel)
theorem dX7_measure_43 : decode cX7_measure 43 = .ok (.if_icmp .le 5, 3) := kt_o164 (j := 43) sX7_measure_0 rfl (by decide +kernel)
theorem dX7_measure_46 : decode cX7_measure 46 = .ok (.iconst 0, 1) := kt_o3 (j := 46) sX7_measure_0 rfl
theorem dX7_measure_47 : decode cX7_measure 47 = .ok (.ireturn, 1) := kt_o172 (j := 47) sX7_measure_0 rfl
theorem dX7_measure_48 : decode cX7_measure 48 = .ok (.iinc 2 1, 3) := kt_o132 (j := 48) sX7_measure_0 rfl (by decide +kernel)
theorem dX7_measure_51 : decode cX7_measure 51 = .ok (.goto (-47), 3) := kt_o167 (j := 51) sX7_measure_0 rfl (by decide +kernel)
theorem dX7_measure_54 : decode cX7_measure 54 = .ok (.aload_n 0, 1) := kt_o42 (j := 54) sX7_measure_0 rfl
theorem dX7_measure_55 : decode cX7_measure 55 = .ok (.iload_n 1, 1) := kt_o27 (j := 55) sX7_measure_0 rfl
theorem dX7_measure_56 : decode cX7_measure 56 = .ok (.putfield 66, 3) := kt_o181 (j := 56) sX7_measure_0 rfl rfl
theorem dX7_measure_59 : decode cX7_measure 59 = .ok (.iconst 1, 1) := kt_o4 (j := 59) sX7_measure_0 rfl
theorem dX7_measure_60 : decode cX7_measure 60 = .ok (.ireturn, 1) := kt_o172 (j := 60) sX7_measure_0 rfl
theorem kt_wp_X7_makeRoom__X70 {w : Cond} (h : w ∈ wsX70) : w ∈ wsX7_makeRoom := List.mem_cons_of_mem _ (List.mem_append_right _ (h))
set_option maxRecDepth 20000 in
theorem ggX7_makeRoom_X2_roomFor : GoodIn wsX7_makeRoom wsX2_roomFor := goodIn_sub (kt_wf1 (List.mem_cons_of_mem _ (List.mem_append_left _ (List.mem_cons_of_mem _ (List.mem_cons_of_mem _ (List.mem_cons_of_mem _ (List.mem_cons_of_mem _ (List.mem_cons_of_mem _ (List.mem_cons_of_mem _ (List.mem_cons_of_mem _ (List.mem_cons_of_mem _ (List.Mem.head _))))))))))) (kt_wf1 (List.mem_cons_of_mem _ (List.mem_append_left _ (List.mem_cons_of_mem _ (List.mem_cons_of_mem _ (List.mem_cons_of_mem _ (List.mem_cons_of_mem _ (List.mem_cons_of_mem _ (List.mem_cons_of_mem _ (List.mem_cons_of_mem _ (List.mem_cons_of_mem _ (List.mem_cons_of_mem _ (List.Mem.head _)))))))))))) (kt_wf1 (List.mem_cons_of_mem _ (List.mem_append_left _ (List.mem_cons_of_mem _ (List.mem_cons_of_mem _ (List.mem_cons_of_mem _ (List.mem_cons_of_mem _ (List.mem_cons_of_mem _ (List.mem_cons_of_mem _ (List.mem_cons_of_mem _ (List.mem_cons_of_mem _ (List.mem_cons_of_mem _ (List.mem_cons_of_mem _ (List.Mem.head _))))))))))))) (kt_wf1 (List.mem_cons_of_mem _ (List.mem_append_left _ (List.mem_cons_of_mem _ (List.mem_cons_of_mem _ (List.mem_cons_of_mem _ (List.mem_cons_of_mem _ (List.mem_cons_of_mem _ (List.mem_cons_of_mem _ (List.mem_cons_of_mem _ (List.mem_cons_of_mem _ (List.mem_cons_of_mem _ (List.mem_cons_of_mem _ (List.mem_cons_of_mem _ (List.Mem.head _)))))))))))))) (kt_wf1 (List.mem_cons_of_mem _ (List.mem_append_left _ (List.mem_cons_of_mem _ (List.mem_cons_of_mem _ (List.mem_cons_of_mem _ (List.mem_cons_of_mem _ (List.mem_cons_of_mem _ (List.mem_cons_of_mem _ (List.mem_cons_of_mem _ (List.mem_cons_of_mem _ (List.mem_cons_of_mem _ (List.mem_cons_of_mem _ (List.mem_cons_of_mem _ (List.mem_cons_of_mem _ (List.Mem.head _))))))))))))))) (kt_wf1 (List.mem_cons_of_mem _ (List.mem_append_left _ (List.mem_cons_of_mem _ (List.mem_cons_of_mem _ (List.mem_cons_of_mem _ (List.mem_cons_of_mem _ (List.mem_cons_of_mem _ (List.mem_cons_of_mem _ (List.mem_cons_of_mem _ (List.mem_cons_of_mem _ (List.mem_cons_of_mem _ (List.mem_cons_of_mem _ (List.mem_cons_of_mem _ (List.mem_cons_of_mem _ (List.mem_cons_of_mem _ (List.Mem.head _)))))))))))))))) (kt_wf1 (List.mem_cons_of_mem _ (List.mem_append_left _ (List.mem_cons_of_mem _ (List.mem_cons_of_mem _ (List.mem_cons_of_mem _ (List.mem_cons_of_mem _ (List.mem_cons_of_mem _ (List.mem_cons_of_mem _ (List.mem_cons_of_mem _ (List.mem_cons_of_mem _ (List.mem_cons_of_mem _ (List.mem_cons_of_mem _ (List.mem_cons_of_mem _ (List.mem_cons_of_mem _ (List.mem_cons_of_mem _ (List.mem_cons_of_mem _ (List.Mem.head _))))))))))))))))) (kt_wf1 (List.mem_cons_of_mem _ (List.mem_append_left _ (List.mem_cons_of_mem _ (List.mem_cons_of_mem _ (List.mem_cons_of_mem _ (List.mem_cons_of_mem _ (List.mem_cons_of_mem _ (List.mem_cons_of_mem _ (List.mem_cons_of_mem _ (List.mem_cons_of_mem _ (List.mem_cons_of_mem _ (List.mem_cons_of_mem _ (List.mem_cons_of_mem _ (List.mem_cons_of_mem _ (List.mem_cons_of_mem _ (List.mem_cons_of_mem _ (List.mem_cons_of_mem _ (List.Mem.head _)))))))))))))))))) kt_wf0)))))))) kt_wg_X2_roomFor
set_option maxRecDepth 20000 in
theorem gX7_makeRoom_X2_roomFor : GoodIn wsX7_makeRoom (va_wsS RX7 118 yX2_roomFor wsX2_roomFor) := goodIn_app (goodIn_of _ (by decide +kernel)) ggX7_makeRoom_X2_roomFor
theorem sX7_makeRoom_0 : kt_sg cX7_makeRoom 0 [42, 180, 0, 38, 190, 27, 162, 0, 44, 27, 42, 180, 0, 38, 190, 17, 39, 16, 184, 0, 118, 61, 42, 28, 188, 10, 181, 0, 38, 42, 28, 188, 10, 181, 0, 41, 42, 28, 188, 10, 181, 0, 44, 42, 28, 188, 10, 181, 0, 47, 177] = true := by decide +kernel
theorem dX7_makeRoom_0 : decode cX7_makeRoom 0 = .ok (.aload_n 0, 1) := kt_o42 (j := 0) sX7_makeRoom_0 rfl
theorem dX7_makeRoom_1 : decode cX7_makeRoom 1 = .ok (.getfield 38, 3) := kt_o180 (j := 1) sX7_makeRoom_0 rfl rfl
theorem dX7_makeRoom_4 : decode cX7_makeRoom 4 = .ok (.arraylength, 1) := kt_o190 (j := 4) sX7_makeRoom_0 rfl
theorem dX7_makeRoom_5 : decode cX7_makeRoom 5 = .ok (.iload_n 1, 1) := kt_o27 (j := 5) sX7_makeRoom_0 rfl
theorem dX7_makeRoom_6 : decode cX7_makeRoom 6 = .ok (.if_icmp .ge 44, 3) := kt_o162 (j := 6) sX7_makeRoom_0 rfl (by decide +kernel)
theorem dX7_makeRoom_9 : decode cX7_makeRoom 9 = .ok (.iload_n 1, 1) := kt_o27 (j := 9) sX7_makeRoom_0 rfl
theorem dX7_makeRoom_10 : decode cX7_makeRoom 10 = .ok (.aload_n 0, 1) := kt_o42 (j := 10) sX7_makeRoom_0 rfl
theorem dX7_makeRoom_11 : decode cX7_makeRoom 11 = .ok (.getfield 38, 3) := kt_o180 (j := 11) sX7_makeRoom_0 rfl rfl
theorem dX7_makeRoom_14 : decode cX7_makeRoom 14 = .ok (.arraylength, 1) := kt_o190 (j := 14) sX7_makeRoom_0 rfl
theorem dX7_makeRoom_15 : decode cX7_makeRoom 15 = .ok (.sipush 10000, 3) := kt_o17 (j := 15) sX7_makeRoom_0 rfl (by decide +kernel)
theorem dX7_makeRoom_18 : decode cX7_makeRoom 18 = .ok (.invokestatic 118, 3) := kt_o184 (j := 18) sX7_makeRoom_0 rfl rfl
theorem dX7_makeRoom_21 : decode cX7_makeRoom 21 = .ok (.istore_n 2, 1) := kt_o61 (j := 21) sX7_makeRoom_0 rfl
theorem dX7_makeRoom_22 : decode cX7_makeRoom 22 = .ok (.aload_n 0, 1) := kt_o42 (j := 22) sX7_makeRoom_0 rfl
theorem dX7_makeRoom_23 : decode cX7_makeRoom 23 = .ok (.iload_n 2, 1) := kt_o28 (j := 23) sX7_makeRoom_0 rfl
theorem dX7_makeRoom_24 : decode cX7_makeRoom 24 = .ok (.newarray .int, 2) := kt_o188_10 (j := 24) sX7_makeRoom_0 rfl
theorem dX7_makeRoom_26 : decode cX7_makeRoom 26 = .ok (.putfield 38, 3) := kt_o181 (j := 26) sX7_makeRoom_0 rfl rfl
theorem dX7_makeRoom_29 : decode cX7_makeRoom 29 = .ok (.aload_n 0, 1) := kt_o42 (j := 29) sX7_makeRoom_0 rfl
theorem dX7_makeRoom_30 : decode cX7_makeRoom 30 = .ok (.iload_n 2, 1) := kt_o28 (j := 30) sX7_makeRoom_0 rfl
theorem dX7_makeRoom_31 : decode cX7_makeRoom 31 = .ok (.newarray .int, 2) := kt_o188_10 (j := 31) sX7_makeRoom_0 rfl
theorem dX7_makeRoom_33 : decode cX7_makeRoom 33 = .ok (.putfield 41, 3) := kt_o181 (j := 33) sX7_makeRoom_0 rfl rfl
theorem dX7_makeRoom_36 : decode cX7_makeRoom 36 = .ok (.aload_n 0, 1) := kt_o42 (j := 36) sX7_makeRoom_0 rfl
theorem dX7_makeRoom_37 : decode cX7_makeRoom 37 = .ok (.iload_n 2, 1) := kt_o28 (j := 37) sX7_makeRoom_0 rfl
theorem dX7_makeRoom_38 : decode cX7_makeRoom 38 = .ok (.newarray .int, 2) := kt_o188_10 (j := 38) sX7_makeRoom_0 rfl
theorem dX7_makeRoom_40 : decode cX7_makeRoom 40 = .ok (.putfield 44, 3) := kt_o181 (j := 40) sX7_makeRoom_0 rfl rfl
theorem dX7_makeRoom_43 : decode cX7_makeRoom 43 = .ok (.aload_n 0, 1) := kt_o42 (j := 43) sX7_makeRoom_0 rfl
theorem dX7_makeRoom_44 : decode cX7_makeRoom 44 = .ok (.iload_n 2, 1) := kt_o28 (j := 44) sX7_makeRoom_0 rfl
theorem dX7_makeRoom_45 : decode cX7_makeRoom 45 = .ok (.newarray .int, 2) := kt_o188_10 (j := 45) sX7_makeRoom_0 rfl
theorem dX7_makeRoom_47 : decode cX7_makeRoom 47 = .ok (.putfield 47, 3) := kt_o181 (j := 47) sX7_makeRoom_0 rfl rfl
theorem dX7_makeRoom_50 : decode cX7_makeRoom 50 = .ok (.return_, 1) := kt_o177 (j := 50) sX7_makeRoom_0 rfl
theorem sX7_nextDigits_0 : kt_sg cX7_nextDigits 0 [3, 60, 27, 42, 180, 0, 50, 180, 0, 73, 162, 0, 46, 42, 180, 0, 29, 27, 92, 46, 4, 96, 79, 42, 180, 0, 29, 27, 46, 42, 180, 0, 50, 180, 0, 78, 180, 0, 115, 163, 0, 4, 177, 42, 180, 0, 29, 27, 3, 79, 132, 1, 1, 167, 255, 205, 177] = true := by decide +kernel
theorem dX7_nextDigits_0 : decode cX7_nextDigits 0 = .ok (.iconst 0, 1) := kt_o3 (j := 0) sX7_nextDigits_0 rfl
theorem dX7_nextDigits_1 : decode cX7_nextDigits 1 = .ok (.istore_n 1, 1) := kt_o60 (j := 1) sX7_nextDigits_0 rfl
theorem dX7_nextDigits_2 : decode cX7_nextDigits 2 = .ok (.iload_n 1, 1) := kt_o27 (j := 2) sX7_nextDigits_0 rfl
theorem dX7_nextDigits_3 : decode cX7_nextDigits 3 = .ok (.aload_n 0, 1) := kt_o42 (j := 3) sX7_nextDigits_0 rfl
theorem dX7_nextDigits_4 : decode cX7_nextDigits 4 = .ok (.getfield 50, 3) := kt_o180 (j := 4) sX7_nextDigits_0 rfl rfl
theorem dX7_nextDigits_7 : decode cX7_nextDigits 7 = .ok (.getfield 73, 3) := kt_o180 (j := 7) sX7_nextDigits_0 rfl rfl
theorem dX7_nextDigits_10 : decode cX7_nextDigits 10 = .ok (.if_icmp .ge 46, 3) := kt_o162 (j := 10) sX7_nextDigits_0 rfl (by decide +kernel)
theorem dX7_nextDigits_13 : decode cX7_nextDigits 13 = .ok (.aload_n 0, 1) := kt_o42 (j := 13) sX7_nextDigits_0 rfl
theorem dX7_nextDigits_14 : decode cX7_nextDigits 14 = .ok (.getfield 29, 3) := kt_o180 (j := 14) sX7_nextDigits_0 rfl rfl
theorem dX7_nextDigits_17 : decode cX7_nextDigits 17 = .ok (.iload_n 1, 1) := kt_o27 (j := 17) sX7_nextDigits_0 rfl
theorem dX7_nextDigits_18 : decode cX7_nextDigits 18 = .ok (.dup2, 1) := kt_o92 (j := 18) sX7_nextDigits_0 rfl
theorem dX7_nextDigits_19 : decode cX7_nextDigits 19 = .ok (.iaload, 1) := kt_o46 (j := 19) sX7_nextDigits_0 rfl
theorem dX7_nextDigits_20 : decode cX7_nextDigits 20 = .ok (.iconst 1, 1) := kt_o4 (j := 20) sX7_nextDigits_0 rfl
theorem dX7_nextDigits_21 : decode cX7_nextDigits 21 = .ok (.iadd, 1) := kt_o96 (j := 21) sX7_nextDigits_0 rfl
theorem dX7_nextDigits_22 : decode cX7_nextDigits 22 = .ok (.iastore, 1) := kt_o79 (j := 22) sX7_nextDigits_0 rfl
theorem dX7_nextDigits_23 : decode cX7_nextDigits 23 = .ok (.aload_n 0, 1) := kt_o42 (j := 23) sX7_nextDigits_0 rfl
theorem dX7_nextDigits_24 : decode cX7_nextDigits 24 = .ok (.getfield 29, 3) := kt_o180 (j := 24) sX7_nextDigits_0 rfl rfl
theorem dX7_nextDigits_27 : decode cX7_nextDigits 27 = .ok (.iload_n 1, 1) := kt_o27 (j := 27) sX7_nextDigits_0 rfl
theorem dX7_nextDigits_28 : decode cX7_nextDigits 28 = .ok (.iaload, 1) := kt_o46 (j := 28) sX7_nextDigits_0 rfl
theorem dX7_nextDigits_29 : decode cX7_nextDigits 29 = .ok (.aload_n 0, 1) := kt_o42 (j := 29) sX7_nextDigits_0 rfl
theorem dX7_nextDigits_30 : decode cX7_nextDigits 30 = .ok (.getfield 50, 3) := kt_o180 (j := 30) sX7_nextDigits_0 rfl rfl
theorem dX7_nextDigits_33 : decode cX7_nextDigits 33 = .ok (.getfield 78, 3) := kt_o180 (j := 33) sX7_nextDigits_0 rfl rfl
theorem dX7_nextDigits_36 : decode cX7_nextDigits 36 = .ok (.getfield 115, 3) := kt_o180 (j := 36) sX7_nextDigits_0 rfl rfl
theorem dX7_nextDigits_39 : decode cX7_nextDigits 39 = .ok (.if_icmp .gt 4, 3) := kt_o163 (j := 39) sX7_nextDigits_0 rfl (by decide +kernel)
theorem dX7_nextDigits_42 : decode cX7_nextDigits 42 = .ok (.return_, 1) := kt_o177 (j := 42) sX7_nextDigits_0 rfl
theorem dX7_nextDigits_43 : decode cX7_nextDigits 43 = .ok (.aload_n 0, 1) := kt_o42 (j := 43) sX7_nextDigits_0 rfl
theorem dX7_nextDigits_44 : decode cX7_nextDigits 44 = .ok (.getfield 29, 3) := kt_o180 (j := 44) sX7_nextDigits_0 rfl rfl
theorem dX7_nextDigits_47 : decode cX7_nextDigits 47 = .ok (.iload_n 1, 1) := kt_o27 (j := 47) sX7_nextDigits_0 rfl
theorem dX7_nextDigits_48 : decode cX7_nextDigits 48 = .ok (.iconst 0, 1) := kt_o3 (j := 48) sX7_nextDigits_0 rfl
theorem dX7_nextDigits_49 : decode cX7_nextDigits 49 = .ok (.iastore, 1) := kt_o79 (j := 49) sX7_nextDigits_0 rfl
theorem dX7_nextDigits_50 : decode cX7_nextDigits 50 = .ok (.iinc 1 1, 3) := kt_o132 (j := 50) sX7_nextDigits_0 rfl (by decide +kernel)
theorem dX7_nextDigits_53 : decode cX7_nextDigits 53 = .ok (.goto (-51), 3) := kt_o167 (j := 53) sX7_nextDigits_0 rfl (by decide +kernel)
theorem dX7_nextDigits_56 : decode cX7_nextDigits 56 = .ok (.return_, 1) := kt_o177 (j := 56) sX7_nextDigits_0 rfl
theorem kt_wp_X7_enter__X7_enter_r1 {w : Cond} (h : w ∈ wsX7_enter_r1) : w ∈ wsX7_enter := List.mem_cons_of_mem _ (List.mem_append_left _ (List.mem_append_left _ (List.mem_append_left _ (List.mem_append_left _ (List.mem_append_left _ (List.mem_append_left _ (List.mem_append_left _ (h))))))))
theorem kt_wp_X7_enter__X7_enter_r2 {w : Cond} (h : w ∈ wsX7_enter_r2) : w ∈ wsX7_enter := List.mem_cons_of_mem _ (List.mem_append_left _ (List.mem_append_left _ (List.mem_append_left _ (List.mem_append_left _ (List.mem_append_left _ (List.mem_append_left _ (List.mem_append_right _ (List.mem_append_left _ (h)))))))))
theorem kt_wp_X7_enter__X7_enter_r3 {w : Cond} (h : w ∈ wsX7_enter_r3) : w ∈ wsX7_enter := List.mem_cons_of_mem _ (List.mem_append_left _ (List.mem_append_left _ (List.mem_append_left _ (List.mem_append_left _ (List.mem_append_left _ (List.mem_append_left _ (List.mem_append_right _ (List.mem_append_right _ (List.mem_append_left _ (h))))))))))
theorem kt_wp_X7_enter__X7_enter_r4 {w : Cond} (h : w ∈ wsX7_enter_r4) : w ∈ wsX7_enter := List.mem_cons_of_mem _ (List.mem_append_left _ (List.mem_append_left _ (List.mem_append_left _ (List.mem_append_left _ (List.mem_append_left _ (List.mem_append_left _ (List.mem_append_right _ (List.mem_append_right _ (List.mem_append_right _ (List.mem_append_left _ (h)))))))))))
theorem kt_wp_X7_enter__X7_enter_r5 {w : Cond} (h : w ∈ wsX7_enter_r5) : w ∈ wsX7_enter := List.mem_cons_of_mem _ (List.mem_append_left _ (List.mem_append_left _ (List.mem_append_left _ (List.mem_append_left _ (List.mem_append_left _ (List.mem_append_left _ (List.mem_append_right _ (List.mem_append_right _ (List.mem_append_right _ (List.mem_append_right _ (h)))))))))))
theorem kt_wp_X7_enter__X70 {w : Cond} (h : w ∈ wsX70) : w ∈ wsX7_enter := List.mem_cons_of_mem _ (List.mem_append_left _ (List.mem_append_left _ (List.mem_append_left _ (List.mem_append_left _ (List.mem_append_left _ (List.mem_append_right _ (h)))))))
theorem kt_wp_X7_enter__X80 {w : Cond} (h : w ∈ wsX80) : w ∈ wsX7_enter := List.mem_cons_of_mem _ (List.mem_append_left _ (List.mem_append_left _ (List.mem_append_left _ (List.mem_append_left _ (List.mem_append_right _ (h))))))
theorem kt_wp_X7_enter__X60 {w : Cond} (h : w ∈ wsX60) : w ∈ wsX7_enter := List.mem_cons_of_mem _ (List.mem_append_left _ (List.mem_append_left _ (List.mem_append_left _ (List.mem_append_right _ (h)))))
theorem kt_wp_X7_enter__X00 {w : Cond} (h : w ∈ wsX00) : w ∈ wsX7_enter := List.mem_cons_of_mem _ (List.mem_append_left _ (List.mem_append_left _ (List.mem_append_right _ (h))))
theorem kt_wp_X7_enter__X10 {w : Cond} (h : w ∈ wsX10) : w ∈ wsX7_enter := List.mem_cons_of_mem _ (List.mem_append_left _ (List.mem_append_right _ (h)))
theorem kt_wp_X7_enter__X20 {w : Cond} (h : w ∈ wsX20) : w ∈ wsX7_enter := List.mem_cons_of_mem _ (List.mem_append_right _ (h))
set_option maxRecDepth 20000 in
theorem kt_wg_X7_setUp : wsX7_setUp.all goodWord = true := by decide +kernel
set_option maxRecDepth 20000 in
theorem ggX7_enter_X7_setUp : GoodIn wsX7_enter wsX7_setUp := goodIn_sub (kt_wf1 (kt_wp_X7_enter__X7_enter_r1 kt_wm10) (kt_wfa (kt_wfa (kt_wfa (kt_wfa (kt_wf1 (kt_wp_X7_enter__X7_enter_r1 kt_wm5) (kt_wf1 (kt_wp_X7_enter__X7_enter_r1 kt_wm4) (kt_wf1 (kt_wp_X7_enter__X7_enter_r1 kt_wm11) (kt_wf1 (kt_wp_X7_enter__X7_enter_r1 kt_wm12) (kt_wf1 (kt_wp_X7_enter__X7_enter_r1 kt_wm13) (kt_wf1 (kt_wp_X7_enter__X7_enter_r1 kt_wm14) (kt_wf1 (kt_wp_X7_enter__X7_enter_r1 kt_wm15) (kt_wf1 (kt_wp_X7_enter__X7_enter_r1 kt_wm16) (kt_wf1 (kt_wp_X7_enter__X7_enter_r1 kt_wm17) (kt_wf1 (kt_wp_X7_enter__X7_enter_r1 kt_wm18) (kt_wf1 (kt_wp_X7_enter__X7_enter_r1 kt_wm19) (kt_wf1 (kt_wp_X7_enter__X7_enter_r1 kt_wm20) (kt_wf1 (kt_wp_X7_enter__X7_enter_r1 kt_wm21) (kt_wf1 (kt_wp_X7_enter__X7_enter_r1 kt_wm22) (kt_wf1 (kt_wp_X7_enter__X7_enter_r1 kt_wm23) (kt_wf1 (kt_wp_X7_enter__X7_enter_r2 kt_wm0) (kt_wf1 (kt_wp_X7_enter__X7_enter_r2 kt_wm1) (kt_wf1 (kt_wp_X7_enter__X7_enter_r2 kt_wm2) (kt_wf1 (kt_wp_X7_enter__X7_enter_r2 kt_wm3) (kt_wf1 (kt_wp_X7_enter__X7_enter_r2 kt_wm4) (kt_wf1 (kt_wp_X7_enter__X7_enter_r2 kt_wm5) kt_wf0))))))))))))))))))))) (fun _ h => kt_wp_X7_enter__X70 h)) (fun _ h => kt_wp_X7_enter__X60 h)) (fun _ h => kt_wp_X7_enter__X00 h)) (fun _ h => kt_wp_X7_enter__X80 h))) kt_wg_X7_setUp
set_option maxRecDepth 20000 in
theorem gX7_enter_X7_setUp : GoodIn wsX7_enter (wsV RX7 122 RX7 yX7_setUp wsX7_setUp) := goodIn_app (a := [.methodLink RX7 122 yX7_setUp, .instanceMethod yX7_setUp, .selects RX7 yX7_setUp yX7_setUp, .initialized RX7]) (goodIn_sub (kt_wf1 (kt_wp_X7_enter__X7_enter_r1 kt_wm6) (kt_wf1 (kt_wp_X7_enter__X7_enter_r1 kt_wm7) (kt_wf1 (kt_wp_X7_enter__X7_enter_r1 kt_wm8) (kt_wf1 (kt_wp_X7_enter__X7_enter_r1 kt_wm9) kt_wf0)))) (by decide +kernel)) ggX7_enter_X7_setUp
set_option maxRecDepth 20000 in
theorem ggX7_enter_X6_winner : GoodIn wsX7_enter wsX6_winner := goodIn_sub (kt_wf1 (kt_wp_X7_enter__X7_enter_r2 kt_wm9) (kt_wfa (kt_wfa (kt_wfa (kt_wfa (kt_wfa (kt_wf1 (kt_wp_X7_enter__X7_enter_r2 kt_wm4) (kt_wf1 (kt_wp_X7_enter__X7_enter_r2 kt_wm10) (kt_wf1 (kt_wp_X7_enter__X7_enter_r2 kt_wm11) (kt_wf1 (kt_wp_X7_enter__X7_enter_r2 kt_wm12) (kt_wf1 (kt_wp_X7_enter__X7_enter_r1 kt_wm15) (kt_wf1 (kt_wp_X7_enter__X7_enter_r2 kt_wm13) (kt_wf1 (kt_wp_X7_enter__X7_enter_r1 kt_wm17) (kt_wf1 (kt_wp_X7_enter__X7_enter_r2 kt_wm14) (kt_wf1 (kt_wp_X7_enter__X7_enter_r2 kt_wm15) (kt_wf1 (kt_wp_X7_enter__X7_enter_r2 kt_wm16) (kt_wf1 (kt_wp_X7_enter__X7_enter_r2 kt_wm2) (kt_wf1 (kt_wp_X7_enter__X7_enter_r2 kt_wm17) (kt_wf1 (kt_wp_X7_enter__X7_enter_r2 kt_wm5) (kt_wf1 (kt_wp_X7_enter__X7_enter_r2 kt_wm18) (kt_wf1 (kt_wp_X7_enter__X7_enter_r2 kt_wm19) (kt_wf1 (kt_wp_X7_enter__X7_enter_r2 kt_wm20) (kt_wf1 (kt_wp_X7_enter__X7_enter_r2 kt_wm21) (kt_wf1 (kt_wp_X7_enter__X7_enter_r2 kt_wm22) (kt_wf1 (kt_wp_X7_enter__X7_enter_r2 kt_wm23) (kt_wf1 (kt_wp_X7_enter__X7_enter_r3 kt_wm0) (kt_wf1 (kt_wp_X7_enter__X7_enter_r3 kt_wm1) (kt_wf1 (kt_wp_X7_enter__X7_enter_r3 kt_wm2) (kt_wf1 (kt_wp_X7_enter__X7_enter_r3 kt_wm3) (kt_wf1 (kt_wp_X7_enter__X7_enter_r3 kt_wm4) kt_wf0)))))))))))))))))))))))) (kt_wf1 (kt_wp_X7_enter__X7_enter_r3 kt_wm5) (kt_wf1 (kt_wp_X7_enter__X7_enter_r3 kt_wm6) (kt_wf1 (kt_wp_X7_enter__X7_enter_r3 kt_wm7) (kt_wf1 (kt_wp_X7_enter__X7_enter_r3 kt_wm8) (kt_wf1 (kt_wp_X7_enter__X7_enter_r3 kt_wm9) (kt_wf1 (kt_wp_X7_enter__X7_enter_r3 kt_wm10) (kt_wf1 (kt_wp_X7_enter__X7_enter_r3 kt_wm11) (kt_wf1 (kt_wp_X7_enter__X7_enter_r3 kt_wm12) (kt_wf1 (kt_wp_X7_enter__X7_enter_r1 kt_wm20) (kt_wf1 (kt_wp_X7_enter__X7_enter_r1 kt_wm21) (kt_wf1 (kt_wp_X7_enter__X7_enter_r1 kt_wm22) (kt_wf1 (kt_wp_X7_enter__X7_enter_r1 kt_wm18) (kt_wf1 (kt_wp_X7_enter__X7_enter_r3 kt_wm13) (kt_wf1 (kt_wp_X7_enter__X7_enter_r2 kt_wm0) (kt_wf1 (kt_wp_X7_enter__X7_enter_r2 kt_wm1) (kt_wf1 (kt_wp_X7_enter__X7_enter_r2 kt_wm3) kt_wf0))))))))))))))))) (fun _ h => kt_wp_X7_enter__X60 h)) (fun _ h => kt_wp_X7_enter__X80 h)) (fun _ h => kt_wp_X7_enter__X00 h)) (fun _ h => kt_wp_X7_enter__X10 h))) kt_wg_X6_winner
set_option maxRecDepth 20000 in
theorem gX7_enter_X6_winner : GoodIn wsX7_enter (wsV RX7 128 RX6 yX6_winner wsX6_winner) := goodIn_app (a := [.methodLink RX7 128 yX6_winner, .instanceMethod yX6_winner, .selects RX6 yX6_winner yX6_winner, .initialized RX6]) (goodIn_sub (kt_wf1 (kt_wp_X7_enter__X7_enter_r2 kt_wm6) (kt_wf1 (kt_wp_X7_enter__X7_enter_r2 kt_wm7) (kt_wf1 (kt_wp_X7_enter__X7_enter_r2 kt_wm8) (kt_wf1 (kt_wp_X7_enter__X7_enter_r2 kt_wm2) kt_wf0)))) (by decide +kernel)) ggX7_enter_X6_winner
set_option maxRecDepth 20000 in
theorem kt_wg_X7_decide : wsX7_decide.all goodWord = true := by decide +kernel
set_option maxRecDepth 20000 in
theorem ggX7_enter_X7_decide : GoodIn wsX7_enter wsX7_decide := goodIn_sub (kt_wf1 (kt_wp_X7_enter__X7_enter_r3 kt_wm17) (kt_wfa (kt_wf1 (kt_wp_X7_enter__X7_enter_r3 kt_wm18) (kt_wf1 (kt_wp_X7_enter__X7_enter_r3 kt_wm19) (kt_wf1 (kt_wp_X7_enter__X7_enter_r1 kt_wm0) (kt_wf1 (kt_wp_X7_enter__X7_enter_r1 kt_wm1) kt_wf0)))) (fun _ h => kt_wp_X7_enter__X70 h))) kt_wg_X7_decide
set_option maxRecDepth 20000 in
theorem gX7_enter_X7_decide : GoodIn wsX7_enter (wsV RX7 132 RX7 yX7_decide wsX7_decide) := goodIn_app (a := [.methodLink RX7 132 yX7_decide, .instanceMethod yX7_decide, .selects RX7 yX7_decide yX7_decide, .initialized RX7]) (goodIn_sub (kt_wf1 (kt_wp_X7_enter__X7_enter_r3 kt_wm14) (kt_wf1 (kt_wp_X7_enter__X7_enter_r3 kt_wm15) (kt_wf1 (kt_wp_X7_enter__X7_enter_r3 kt_wm16) (kt_wf1 (kt_wp_X7_enter__X7_enter_r1 kt_wm9) kt_wf0)))) (by decide +kernel)) ggX7_enter_X7_decide
set_option maxRecDepth 20000 in
theorem kt_wg_X7_linkMoves : wsX7_linkMoves.all goodWord = true := by decide +kernel
set_option maxRecDepth 20000 in
theorem ggX7_enter_X7_linkMoves : GoodIn wsX7_enter wsX7_linkMoves := goodIn_sub (kt_wf1 (kt_wp_X7_enter__X7_enter_r3 kt_wm23) (kt_wfa (kt_wfa (kt_wfa (kt_wfa (kt_wfa (kt_wfa (kt_wfa (kt_wf1 (kt_wp_X7_enter__X7_enter_r1 kt_wm5) (kt_wf1 (kt_wp_X7_enter__X7_enter_r1 kt_wm4) (kt_wf1 (kt_wp_X7_enter__X7_enter_r4 kt_wm0) (kt_wf1 (kt_wp_X7_enter__X7_enter_r1 kt_wm2) (kt_wf1 (kt_wp_X7_enter__X7_enter_r4 kt_wm1) (kt_wf1 (kt_wp_X7_enter__X7_enter_r3 kt_wm1) (kt_wf1 (kt_wp_X7_enter__X7_enter_r3 kt_wm2) (kt_wf1 (kt_wp_X7_enter__X7_enter_r2 kt_wm2) (kt_wf1 (kt_wp_X7_enter__X7_enter_r3 kt_wm3) (kt_wf1 (kt_wp_X7_enter__X7_enter_r2 kt_wm4) (kt_wf1 (kt_wp_X7_enter__X7_enter_r3 kt_wm4) (kt_wf1 (kt_wp_X7_enter__X7_enter_r2 kt_wm5) (kt_wf1 (kt_wp_X7_enter__X7_enter_r2 kt_wm10) (kt_wf1 (kt_wp_X7_enter__X7_enter_r2 kt_wm11) (kt_wf1 (kt_wp_X7_enter__X7_enter_r2 kt_wm12) (kt_wf1 (kt_wp_X7_enter__X7_enter_r1 kt_wm15) (kt_wf1 (kt_wp_X7_enter__X7_enter_r2 kt_wm13) (kt_wf1 (kt_wp_X7_enter__X7_enter_r1 kt_wm17) (kt_wf1 (kt_wp_X7_enter__X7_enter_r3 kt_wm5) (kt_wf1 (kt_wp_X7_enter__X7_enter_r3 kt_wm6) (kt_wf1 (kt_wp_X7_enter__X7_enter_r3 kt_wm7) (kt_wf1 (kt_wp_X7_enter__X7_enter_r3 kt_wm8) (kt_wf1 (kt_wp_X7_enter__X7_enter_r3 kt_wm9) (kt_wf1 (kt_wp_X7_enter__X7_enter_r3 kt_wm10) kt_wf0)))))))))))))))))))))))) (kt_wfa (kt_wf1 (kt_wp_X7_enter__X7_enter_r3 kt_wm11) (kt_wf1 (kt_wp_X7_enter__X7_enter_r3 kt_wm12) (kt_wf1 (kt_wp_X7_enter__X7_enter_r1 kt_wm20) (kt_wf1 (kt_wp_X7_enter__X7_enter_r1 kt_wm21) (kt_wf1 (kt_wp_X7_enter__X7_enter_r1 kt_wm22) (kt_wf1 (kt_wp_X7_enter__X7_enter_r1 kt_wm18) (kt_wf1 (kt_wp_X7_enter__X7_enter_r3 kt_wm13) (kt_wf1 (kt_wp_X7_enter__X7_enter_r2 kt_wm0) (kt_wf1 (kt_wp_X7_enter__X7_enter_r2 kt_wm1) (kt_wf1 (kt_wp_X7_enter__X7_enter_r2 kt_wm3) (kt_wf1 (kt_wp_X7_enter__X7_enter_r4 kt_wm2) (kt_wf1 (kt_wp_X7_enter__X7_enter_r4 kt_wm3) (kt_wf1 (kt_wp_X7_enter__X7_enter_r4 kt_wm4) (kt_wf1 (kt_wp_X7_enter__X7_enter_r4 kt_wm5) (kt_wf1 (kt_wp_X7_enter__X7_enter_r4 kt_wm6) (kt_wf1 (kt_wp_X7_enter__X7_enter_r4 kt_wm7) (kt_wf1 (kt_wp_X7_enter__X7_enter_r4 kt_wm8) (kt_wf1 (kt_wp_X7_enter__X7_enter_r4 kt_wm9) (kt_wf1 (kt_wp_X7_enter__X7_enter_r2 kt_wm23) (kt_wf1 (kt_wp_X7_enter__X7_enter_r4 kt_wm10) (kt_wf1 (kt_wp_X7_enter__X7_enter_r4 kt_wm11) (kt_wf1 (kt_wp_X7_enter__X7_enter_r4 kt_wm12) (kt_wf1 (kt_wp_X7_enter__X7_enter_r4 kt_wm13) (kt_wf1 (kt_wp_X7_enter__X7_enter_r2 kt_wm22) kt_wf0)))))))))))))))))))))))) (kt_wfa (kt_wf1 (kt_wp_X7_enter__X7_enter_r4 kt_wm14) (kt_wf1 (kt_wp_X7_enter__X7_enter_r1 kt_wm13) (kt_wf1 (kt_wp_X7_enter__X7_enter_r1 kt_wm14) (kt_wf1 (kt_wp_X7_enter__X7_enter_r1 kt_wm16) (kt_wf1 (kt_wp_X7_enter__X7_enter_r4 kt_wm15) (kt_wf1 (kt_wp_X7_enter__X7_enter_r4 kt_wm16) (kt_wf1 (kt_wp_X7_enter__X7_enter_r4 kt_wm17) (kt_wf1 (kt_wp_X7_enter__X7_enter_r4 kt_wm18) (kt_wf1 (kt_wp_X7_enter__X7_enter_r4 kt_wm19) (kt_wf1 (kt_wp_X7_enter__X7_enter_r4 kt_wm20) (kt_wf1 (kt_wp_X7_enter__X7_enter_r4 kt_wm21) (kt_wf1 (kt_wp_X7_enter__X7_enter_r4 kt_wm22) (kt_wf1 (kt_wp_X7_enter__X7_enter_r4 kt_wm23) (kt_wf1 (kt_wp_X7_enter__X7_enter_r5 kt_wm0) (kt_wf1 (kt_wp_X7_enter__X7_enter_r5 kt_wm1) (kt_wf1 (kt_wp_X7_enter__X7_enter_r5 kt_wm2) (kt_wf1 (kt_wp_X7_enter__X7_enter_r5 kt_wm3) (kt_wf1 (kt_wp_X7_enter__X7_enter_r5 kt_wm4) (kt_wf1 (kt_wp_X7_enter__X7_enter_r5 kt_wm5) (kt_wf1 (kt_wp_X7_enter__X7_enter_r5 kt_wm6) (kt_wf1 (kt_wp_X7_enter__X7_enter_r5 kt_wm7) (kt_wf1 (kt_wp_X7_enter__X7_enter_r1 kt_wm9) (kt_wf1 (kt_wp_X7_enter__X7_enter_r5 kt_wm8) (kt_wf1 (kt_wp_X7_enter__X7_enter_r5 kt_wm9) kt_wf0)))))))))))))))))))))))) (kt_wf1 (kt_wp_X7_enter__X7_enter_r5 kt_wm10) (kt_wf1 (kt_wp_X7_enter__X7_enter_r5 kt_wm11) (kt_wf1 (kt_wp_X7_enter__X7_enter_r5 kt_wm12) (kt_wf1 (kt_wp_X7_enter__X7_enter_r5 kt_wm13) (kt_wf1 (kt_wp_X7_enter__X7_enter_r5 kt_wm14) (kt_wf1 (kt_wp_X7_enter__X7_enter_r5 kt_wm15) (kt_wf1 (kt_wp_X7_enter__X7_enter_r5 kt_wm16) (kt_wf1 (kt_wp_X7_enter__X7_enter_r5 kt_wm17) (kt_wf1 (kt_wp_X7_enter__X7_enter_r5 kt_wm18) kt_wf0)))))))))))) (fun _ h => kt_wp_X7_enter__X70 h)) (fun _ h => kt_wp_X7_enter__X60 h)) (fun _ h => kt_wp_X7_enter__X80 h)) (fun _ h => kt_wp_X7_enter__X10 h)) (fun _ h => kt_wp_X7_enter__X00 h)) (fun _ h => kt_wp_X7_enter__X20 h))) kt_wg_X7_linkMoves
set_option maxRecDepth 20000 in
theorem gX7_enter_X7_linkMoves : GoodIn wsX7_enter (wsV RX7 136 RX7 yX7_linkMoves wsX7_linkMoves) := goodIn_app (a := [.methodLink RX7 136 yX7_linkMoves, .instanceMethod yX7_linkMoves, .selects RX7 yX7_linkMoves yX7_linkMoves, .initialized RX7]) (goodIn_sub (kt_wf1 (kt_wp_X7_enter__X7_enter_r3 kt_wm20) (kt_wf1 (kt_wp_X7_enter__X7_enter_r3 kt_wm21) (kt_wf1 (kt_wp_X7_enter__X7_enter_r3 kt_wm22) (kt_wf1 (kt_wp_X7_enter__X7_enter_r1 kt_wm9) kt_wf0)))) (by decide +kernel)) ggX7_enter_X7_linkMoves
theorem sX7_enter_0 : kt_sg cX7_enter 0 [42, 182, 0, 122, 61, 3, 62, 29, 5, 162, 0, 108, 27, 29, 96, 54, 4, 42, 180, 0, 38, 21, 4, 28, 153, 0, 7, 5, 167, 0, 4, 2, 79, 42, 180, 0, 41, 21, 4, 3, 79, 42, 180, 0, 44, 21, 4, 3, 79, 28, 154, 0, 6, 167, 0, 58, 42, 89, 180, 0, 58, 4, 96, 181, 0, 58] = true := by decide +kernel
theorem dX7_enter_0 : decode cX7_enter 0 = .ok (.aload_n 0, 1) := kt_o42 (j := 0) sX7_enter_0 rfl
theorem dX7_enter_1 : decode cX7_enter 1 = .ok (.invokevirtual 122, 3) := kt_o182 (j := 1) sX7_enter_0 rfl rfl
theorem dX7_enter_4 : decode cX7_enter 4 = .ok (.istore_n 2, 1) := kt_o61 (j := 4) sX7_enter_0 rfl
theorem dX7_enter_5 : decode cX7_enter 5 = .ok (.iconst 0, 1) := kt_o3 (j := 5) sX7_enter_0 rfl
theorem dX7_enter_6 : decode cX7_enter 6 = .ok (.istore_n 3, 1) := kt_o62 (j := 6) sX7_enter_0 rfl
theorem dX7_enter_7 : decode cX7_enter 7 = .ok (.iload_n 3, 1) := kt_o29 (j := 7) sX7_enter_0 rfl
theorem dX7_enter_8 : decode cX7_enter 8 = .ok (.iconst 2, 1) := kt_o5 (j := 8) sX7_enter_0 rfl
theorem dX7_enter_9 : decode cX7_enter 9 = .ok (.if_icmp .ge 108, 3) := kt_o162 (j := 9) sX7_enter_0 rfl (by decide +kernel)
theorem dX7_enter_12 : decode cX7_enter 12 = .ok (.iload_n 1, 1) := kt_o27 (j := 12) sX7_enter_0 rfl
theorem dX7_enter_13 : decode cX7_enter 13 = .ok (.iload_n 3, 1) := kt_o29 (j := 13) sX7_enter_0 rfl
theorem dX7_enter_14 : decode cX7_enter 14 = .ok (.iadd, 1) := kt_o96 (j := 14) sX7_enter_0 rfl
theorem dX7_enter_15 : decode cX7_enter 15 = .ok (.istore 4, 2) := kt_o54 (j := 15) sX7_enter_0 rfl
theorem dX7_enter_17 : decode cX7_enter 17 = .ok (.aload_n 0, 1) := kt_o42 (j := 17) sX7_enter_0 rfl
theorem dX7_enter_18 : decode cX7_enter 18 = .ok (.getfield 38, 3) := kt_o180 (j := 18) sX7_enter_0 rfl rfl
theorem dX7_enter_21 : decode cX7_enter 21 = .ok (.iload 4, 2) := kt_o21 (j := 21) sX7_enter_0 rfl
theorem dX7_enter_23 : decode cX7_enter 23 = .ok (.iload_n 2, 1) := kt_o28 (j := 23) sX7_enter_0 rfl
theorem dX7_enter_24 : decode cX7_enter 24 = .ok (.ifCond .eq 7, 3) := kt_o153 (j := 24) sX7_enter_0 rfl (by decide +kernel)
theorem dX7_enter_27 : decode cX7_enter 27 = .ok (.iconst 2, 1) := kt_o5 (j := 27) sX7_enter_0 rfl
theorem dX7_enter_28 : decode cX7_enter 28 = .ok (.goto 4, 3) := kt_o167 (j := 28) sX7_enter_0 rfl (by decide +kernel)
theorem dX7_enter_31 : decode cX7_enter 31 = .ok (.iconst (-1), 1) := kt_o2 (j := 31) sX7_enter_0 rfl
theorem dX7_enter_32 : decode cX7_enter 32 = .ok (.iastore, 1) := kt_o79 (j := 32) sX7_enter_0 rfl
theorem dX7_enter_33 : decode cX7_enter 33 = .ok (.aload_n 0, 1) := kt_o42 (j := 33) sX7_enter_0 rfl
theorem dX7_enter_34 : decode cX7_enter 34 = .ok (.getfield 41, 3) := kt_o180 (j := 34) sX7_enter_0 rfl rfl
theorem dX7_enter_37 : decode cX7_enter 37 = .ok (.iload 4, 2) := kt_o21 (j := 37) sX7_enter_0 rfl
theorem dX7_enter_39 : decode cX7_enter 39 = .ok (.iconst 0, 1) := kt_o3 (j := 39) sX7_enter_0 rfl
theorem dX7_enter_40 : decode cX7_enter 40 = .ok (.iastore, 1) := kt_o79 (j := 40) sX7_enter_0 rfl
theorem dX7_enter_41 : decode cX7_enter 41 = .ok (.aload_n 0, 1) := kt_o42 (j := 41) sX7_enter_0 rfl
theorem dX7_enter_42 : decode cX7_enter 42 = .ok (.getfield 44, 3) := kt_o180 (j := 42) sX7_enter_0 rfl rfl
theorem dX7_enter_45 : decode cX7_enter 45 = .ok (.iload 4, 2) := kt_o21 (j := 45) sX7_enter_0 rfl
theorem dX7_enter_47 : decode cX7_enter 47 = .ok (.iconst 0, 1) := kt_o3 (j := 47) sX7_enter_0 rfl
theorem dX7_enter_48 : decode cX7_enter 48 = .ok (.iastore, 1) := kt_o79 (j := 48) sX7_enter_0 rfl
theorem dX7_enter_49 : decode cX7_enter 49 = .ok (.iload_n 2, 1) := kt_o28 (j := 49) sX7_enter_0 rfl
theorem dX7_enter_50 : decode cX7_enter 50 = .ok (.ifCond .ne 6, 3) := kt_o154 (j := 50) sX7_enter_0 rfl (by decide +kernel)
theorem dX7_enter_53 : decode cX7_enter 53 = .ok (.goto 58, 3) := kt_o167 (j := 53) sX7_enter_0 rfl (by decide +kernel)
theorem dX7_enter_56 : decode cX7_enter 56 = .ok (.aload_n 0, 1) := kt_o42 (j := 56) sX7_enter_0 rfl
theorem dX7_enter_57 : decode cX7_enter 57 = .ok (.dup, 1) := kt_o89 (j := 57) sX7_enter_0 rfl
theorem dX7_enter_58 : decode cX7_enter 58 = .ok (.getfield 58, 3) := kt_o180 (j := 58) sX7_enter_0 rfl rfl
theorem dX7_enter_61 : decode cX7_enter 61 = .ok (.iconst 1, 1) := kt_o4 (j := 61) sX7_enter_0 rfl
theorem dX7_enter_62 : decode cX7_enter 62 = .ok (.iadd, 1) := kt_o96 (j := 62) sX7_enter_0 rfl
theorem dX7_enter_63 : decode cX7_enter 63 = .ok (.putfield 58, 3) := kt_o181 (j := 63) sX7_enter_0 rfl rfl
theorem sX7_enter_66 : kt_sg cX7_enter 66 [42, 180, 0, 12, 29, 181, 0, 125, 42, 180, 0, 50, 42, 180, 0, 12, 182, 0, 128, 54, 5, 21, 5, 2, 159, 0, 15, 42, 21, 4, 21, 5, 3, 182, 0, 132, 167, 0, 9, 42, 21, 4, 182, 0, 136, 132, 3, 1, 167, 255, 149, 177] = true := by decide +kernel
theorem dX7_enter_66 : decode cX7_enter 66 = .ok (.aload_n 0, 1) := kt_o42 (j := 0) sX7_enter_66 rfl
theorem dX7_enter_67 : decode cX7_enter 67 = .ok (.getfield 12, 3) := kt_o180 (j := 1) sX7_enter_66 rfl rfl
theorem dX7_enter_70 : decode cX7_enter 70 = .ok (.iload_n 3, 1) := kt_o29 (j := 4) sX7_enter_66 rfl
theorem dX7_enter_71 : decode cX7_enter 71 = .ok (.putfield 125, 3) := kt_o181 (j := 5) sX7_enter_66 rfl rfl
theorem dX7_enter_74 : decode cX7_enter 74 = .ok (.aload_n 0, 1) := kt_o42 (j := 8) sX7_enter_66 rfl
theorem dX7_enter_75 : decode cX7_enter 75 = .ok (.getfield 50, 3) := kt_o180 (j := 9) sX7_enter_66 rfl rfl
theorem dX7_enter_78 : decode cX7_enter 78 = .ok (.aload_n 0, 1) := kt_o42 (j := 12) sX7_enter_66 rfl
theorem dX7_enter_79 : decode cX7_enter 79 = .ok (.getfield 12, 3) := kt_o180 (j := 13) sX7_enter_66 rfl rfl
theorem dX7_enter_82 : decode cX7_enter 82 = .ok (.invokevirtual 128, 3) := kt_o182 (j := 16) sX7_enter_66 rfl rfl
theorem dX7_enter_85 : decode cX7_enter 85 = .ok (.istore 5, 2) := kt_o54 (j := 19) sX7_enter_66 rfl
theorem dX7_enter_87 : decode cX7_enter 87 = .ok (.iload 5, 2) := kt_o21 (j := 21) sX7_enter_66 rfl
theorem dX7_enter_89 : decode cX7_enter 89 = .ok (.iconst (-1), 1) := kt_o2 (j := 23) sX7_enter_66 rfl
theorem dX7_enter_90 : decode cX7_enter 90 = .ok (.if_icmp .eq 15, 3) := kt_o159 (j := 24) sX7_enter_66 rfl (by decide +kernel)
theorem dX7_enter_93 : decode cX7_enter 93 = .ok (.aload_n 0, 1) := kt_o42 (j := 27) sX7_enter_66 rfl
theorem dX7_enter_94 : decode cX7_enter 94 = .ok (.iload 4, 2) := kt_o21 (j := 28) sX7_enter_66 rfl
theorem dX7_enter_96 : decode cX7_enter 96 = .ok (.iload 5, 2) := kt_o21 (j := 30) sX7_enter_66 rfl
theorem dX7_enter_98 : decode cX7_enter 98 = .ok (.iconst 0, 1) := kt_o3 (j := 32) sX7_enter_66 rfl
theorem dX7_enter_99 : decode cX7_enter 99 = .ok (.invokevirtual 132, 3) := kt_o182 (j := 33) sX7_enter_66 rfl rfl
theorem dX7_enter_102 : decode cX7_enter 102 = .ok (.goto 9, 3) := kt_o167 (j := 36) sX7_enter_66 rfl (by decide +kernel)
theorem dX7_enter_105 : decode cX7_enter 105 = .ok (.aload_n 0, 1) := kt_o42 (j := 39) sX7_enter_66 rfl
theorem dX7_enter_106 : decode cX7_enter 106 = .ok (.iload 4, 2) := kt_o21 (j := 40) sX7_enter_66 rfl
theorem dX7_enter_108 : decode cX7_enter 108 = .ok (.invokevirtual 136, 3) := kt_o182 (j := 42) sX7_enter_66 rfl rfl
theorem dX7_enter_111 : decode cX7_enter 111 = .ok (.iinc 3 1, 3) := kt_o132 (j := 45) sX7_enter_66 rfl (by decide +kernel)
theorem dX7_enter_114 : decode cX7_enter 114 = .ok (.goto (-107), 3) := kt_o167 (j := 48) sX7_enter_66 rfl (by decide +kernel)
theorem dX7_enter_117 : decode cX7_enter 117 = .ok (.return_, 1) := kt_o177 (j := 51) sX7_enter_66 rfl
theorem kt_wp_X7_setUp__X70 {w : Cond} (h : w ∈ wsX70) : w ∈ wsX7_setUp := List.mem_cons_of_mem _ (List.mem_append_left _ (List.mem_append_left _ (List.mem_append_left _ (List.mem_append_right _ (h)))))
theorem kt_wp_X7_setUp__X60 {w : Cond} (h : w ∈ wsX60) : w ∈ wsX7_setUp := List.mem_cons_of_mem _ (List.mem_append_left _ (List.mem_append_left _ (List.mem_append_right _ (h))))
theorem kt_wp_X7_setUp__X00 {w : Cond} (h : w ∈ wsX00) : w ∈ wsX7_setUp := List.mem_cons_of_mem _ (List.mem_append_left _ (List.mem_append_right _ (h)))
theorem kt_wp_X7_setUp__X80 {w : Cond} (h : w ∈ wsX80) : w ∈ wsX7_setUp := List.mem_cons_of_mem _ (List.mem_append_right _ (h))
set_option maxRecDepth 20000 in
theorem ggX7_setUp_X8_place : GoodIn wsX7_setUp wsX8_place := goodIn_sub (kt_wf1 (List.mem_cons_of_mem _ (List.mem_append_left _ (List.mem_append_left _ (List.mem_append_left _ (List.mem_append_left _ (List.mem_cons_of_mem _ (List.mem_cons_of_mem _ (List.mem_cons_of_mem _ (List.mem_cons_of_mem _ (List.mem_cons_of_mem _ (List.mem_cons_of_mem _ (List.mem_cons_of_mem _ (List.Mem.head _))))))))))))) (kt_wfa (kt_wf1 (List.mem_cons_of_mem _ (List.mem_append_left _ (List.mem_append_left _ (List.mem_append_left _ (List.mem_append_left _ (List.mem_cons_of_mem _ (List.mem_cons_of_mem _ (List.mem_cons_of_mem _ (List.mem_cons_of_mem _ (List.mem_cons_of_mem _ (List.mem_cons_of_mem _ (List.mem_cons_of_mem _ (List.mem_cons_of_mem _ (List.Mem.head _)))))))))))))) (kt_wf1 (List.mem_cons_of_mem _ (List.mem_append_left _ (List.mem_append_left _ (List.mem_append_left _ (List.mem_append_left _ (List.mem_cons_of_mem _ (List.mem_cons_of_mem _ (List.mem_cons_of_mem _ (List.mem_cons_of_mem _ (List.mem_cons_of_mem _ (List.mem_cons_of_mem _ (List.mem_cons_of_mem _ (List.mem_cons_of_mem _ (List.mem_cons_of_mem _ (List.Mem.head _))))))))))))))) kt_wf0)) (fun _ h => kt_wp_X7_setUp__X80 h))) kt_wg_X8_place
set_option maxRecDepth 20000 in
theorem gX7_setUp_X8_place : GoodIn wsX7_setUp (wsV RX7 139 RX8 yX8_place wsX8_place) := goodIn_app (a := [.methodLink RX7 139 yX8_place, .instanceMethod yX8_place, .selects RX8 yX8_place yX8_place, .initialized RX8]) (goodIn_sub (kt_wf1 (List.mem_cons_of_mem _ (List.mem_append_left _ (List.mem_append_left _ (List.mem_append_left _ (List.mem_append_left _ (List.mem_cons_of_mem _ (List.mem_cons_of_mem _ (List.mem_cons_of_mem _ (List.Mem.head _))))))))) (kt_wf1 (List.mem_cons_of_mem _ (List.mem_append_left _ (List.mem_append_left _ (List.mem_append_left _ (List.mem_append_left _ (List.mem_cons_of_mem _ (List.mem_cons_of_mem _ (List.mem_cons_of_mem _ (List.mem_cons_of_mem _ (List.Mem.head _)))))))))) (kt_wf1 (List.mem_cons_of_mem _ (List.mem_append_left _ (List.mem_append_left _ (List.mem_append_left _ (List.mem_append_left _ (List.mem_cons_of_mem _ (List.mem_cons_of_mem _ (List.mem_cons_of_mem _ (List.mem_cons_of_mem _ (List.mem_cons_of_mem _ (List.Mem.head _))))))))))) (kt_wf1 (List.mem_cons_of_mem _ (List.mem_append_left _ (List.mem_append_left _ (List.mem_append_left _ (List.mem_append_left _ (List.mem_cons_of_mem _ (List.mem_cons_of_mem _ (List.mem_cons_of_mem _ (List.mem_cons_of_mem _ (List.mem_cons_of_mem _ (List.mem_cons_of_mem _ (List.Mem.head _)))))))))))) kt_wf0)))) (by decide +kernel)) ggX7_setUp_X8_place
set_option maxRecDepth 20000 in
theorem ggX7_setUp_X8_holderOf : GoodIn wsX7_setUp wsX8_holderOf := goodIn_sub (kt_wf1 (List.mem_cons_of_mem _ (List.mem_append_left _ (List.mem_append_left _ (List.mem_append_left _ (List.mem_append_left _ (List.mem_cons_of_mem _ (List.mem_cons_of_mem _ (List.mem_cons_of_mem _ (List.mem_cons_of_mem _ (List.mem_cons_of_mem _ (List.mem_cons_of_mem _ (List.mem_cons_of_mem _ (List.mem_cons_of_mem _ (List.mem_cons_of_mem _ (List.mem_cons_of_mem _ (List.mem_cons_of_mem _ (List.mem_cons_of_mem _ (List.mem_cons_of_mem _ (List.Mem.head _))))))))))))))))))) (kt_wfa (kt_wf1 (List.mem_cons_of_mem _ (List.mem_append_left _ (List.mem_append_left _ (List.mem_append_left _ (List.mem_append_left _ (List.mem_cons_of_mem _ (List.mem_cons_of_mem _ (List.mem_cons_of_mem _ (List.mem_cons_of_mem _ (List.mem_cons_of_mem _ (List.mem_cons_of_mem _ (List.mem_cons_of_mem _ (List.mem_cons_of_mem _ (List.mem_cons_of_mem _ (List.Mem.head _))))))))))))))) kt_wf0) (fun _ h => kt_wp_X7_setUp__X80 h))) kt_wg_X8_holderOf
set_option maxRecDepth 20000 in
theorem gX7_setUp_X8_holderOf : GoodIn wsX7_setUp (wsV RX7 142 RX8 yX8_holderOf wsX8_holderOf) := goodIn_app (a := [.methodLink RX7 142 yX8_holderOf, .instanceMethod yX8_holderOf, .selects RX8 yX8_holderOf yX8_holderOf, .initialized RX8]) (goodIn_sub (kt_wf1 (List.mem_cons_of_mem _ (List.mem_append_left _ (List.mem_append_left _ (List.mem_append_left _ (List.mem_append_left _ (List.mem_cons_of_mem _ (List.mem_cons_of_mem _ (List.mem_cons_of_mem _ (List.mem_cons_of_mem _ (List.mem_cons_of_mem _ (List.mem_cons_of_mem _ (List.mem_cons_of_mem _ (List.mem_cons_of_mem _ (List.mem_cons_of_mem _ (List.mem_cons_of_mem _ (List.Mem.head _)))))))))))))))) (kt_wf1 (List.mem_cons_of_mem _ (List.mem_append_left _ (List.mem_append_left _ (List.mem_append_left _ (List.mem_append_left _ (List.mem_cons_of_mem _ (List.mem_cons_of_mem _ (List.mem_cons_of_mem _ (List.mem_cons_of_mem _ (List.mem_cons_of_mem _ (List.mem_cons_of_mem _ (List.mem_cons_of_mem _ (List.mem_cons_of_mem _ (List.mem_cons_of_mem _ (List.mem_cons_of_mem _ (List.mem_cons_of_mem _ (List.Mem.head _))))))))))))))))) (kt_wf1 (List.mem_cons_of_mem _ (List.mem_append_left _ (List.mem_append_left _ (List.mem_append_left _ (List.mem_append_left _ (List.mem_cons_of_mem _ (List.mem_cons_of_mem _ (List.mem_cons_of_mem _ (List.mem_cons_of_mem _ (List.mem_cons_of_mem _ (List.mem_cons_of_mem _ (List.mem_cons_of_mem _ (List.mem_cons_of_mem _ (List.mem_cons_of_mem _ (List.mem_cons_of_mem _ (List.mem_cons_of_mem _ (List.mem_cons_of_mem _ (List.Mem.head _)))))))))))))))))) (kt_wf1 (List.mem_cons_of_mem _ (List.mem_append_left _ (List.mem_append_left _ (List.mem_append_left _ (List.mem_append_left _ (List.mem_cons_of_mem _ (List.mem_cons_of_mem _ (List.mem_cons_of_mem _ (List.mem_cons_of_mem _ (List.mem_cons_of_mem _ (List.mem_cons_of_mem _ (List.Mem.head _)))))))))))) kt_wf0)))) (by decide +kernel)) ggX7_setUp_X8_holderOf
set_option maxRecDepth 20000 in
theorem ggX7_setUp_X6_bears : GoodIn wsX7_setUp wsX6_bears := goodIn_sub (kt_wf1 (List.mem_cons_of_mem _ (List.mem_append_left _ (List.mem_append_left _ (List.mem_append_left _ (List.mem_append_left _ (List.mem_cons_of_mem _ (List.mem_cons_of_mem _ (List.mem_cons_of_mem _ (List.mem_cons_of_mem _ (List.mem_cons_of_mem _ (List.mem_cons_of_mem _ (List.mem_cons_of_mem _ (List.mem_cons_of_mem _ (List.mem_cons_of_mem _ (List.mem_cons_of_mem _ (List.mem_cons_of_mem _ (List.mem_cons_of_mem _ (List.mem_cons_of_mem _ (List.mem_cons_of_mem _ (List.mem_cons_of_mem _ (List.mem_cons_of_mem _ (List.mem_cons_of_mem _ (List.mem_cons_of_mem _ (List.Mem.head _)))))))))))))))))))))))) (kt_wfa (kt_wfa (kt_wf1 (List.mem_cons_of_mem _ (List.mem_append_left _ (List.mem_append_left _ (List.mem_append_left _ (List.mem_append_left _ (List.mem_cons_of_mem _ (List.mem_cons_of_mem _ (List.mem_cons_of_mem _ (List.mem_cons_of_mem _ (List.mem_cons_of_mem _ (List.mem_cons_of_mem _ (List.mem_cons_of_mem _ (List.mem_cons_of_mem _ (List.mem_cons_of_mem _ (List.mem_cons_of_mem _ (List.mem_cons_of_mem _ (List.mem_cons_of_mem _ (List.mem_cons_of_mem _ (List.mem_cons_of_mem _ (List.mem_cons_of_mem _ (List.mem_cons_of_mem _ (List.mem_cons_of_mem _ (List.mem_cons_of_mem _ (List.mem_cons_of_mem _ (List.Mem.head _))))))))))))))))))))))))) (kt_wf1 (List.mem_cons_of_mem _ (List.mem_append_left _ (List.mem_append_left _ (List.mem_append_left _ (List.mem_append_left _ (List.mem_cons_of_mem _ (List.mem_cons_of_mem _ (List.mem_cons_of_mem _ (List.mem_cons_of_mem _ (List.mem_cons_of_mem _ (List.mem_cons_of_mem _ (List.mem_cons_of_mem _ (List.mem_cons_of_mem _ (List.mem_cons_of_mem _ (List.mem_cons_of_mem _ (List.mem_cons_of_mem _ (List.mem_cons_of_mem _ (List.mem_cons_of_mem _ (List.mem_cons_of_mem _ (List.mem_cons_of_mem _ (List.mem_cons_of_mem _ (List.mem_cons_of_mem _ (List.mem_cons_of_mem _ (List.mem_cons_of_mem _ (List.mem_cons_of_mem _ (List.Mem.head _)))))))))))))))))))))))))) kt_wf0)) (fun _ h => kt_wp_X7_setUp__X60 h)) (fun _ h => kt_wp_X7_setUp__X00 h))) kt_wg_X6_bears
set_option maxRecDepth 20000 in
theorem gX7_setUp_X6_bears : GoodIn wsX7_setUp (wsV RX7 146 RX6 yX6_bears wsX6_bears) := goodIn_app (a := [.methodLink RX7 146 yX6_bears, .instanceMethod yX6_bears, .selects RX6 yX6_bears yX6_bears, .initialized RX6]) (goodIn_sub (kt_wf1 (List.mem_cons_of_mem _ (List.mem_append_left _ (List.mem_append_left _ (List.mem_append_left _ (List.mem_append_left _ (List.mem_cons_of_mem _ (List.mem_cons_of_mem _ (List.mem_cons_of_mem _ (List.mem_cons_of_mem _ (List.mem_cons_of_mem _ (List.mem_cons_of_mem _ (List.mem_cons_of_mem _ (List.mem_cons_of_mem _ (List.mem_cons_of_mem _ (List.mem_cons_of_mem _ (List.mem_cons_of_mem _ (List.mem_cons_of_mem _ (List.mem_cons_of_mem _ (List.mem_cons_of_mem _ (List.Mem.head _)))))))))))))))))))) (kt_wf1 (List.mem_cons_of_mem _ (List.mem_append_left _ (List.mem_append_left _ (List.mem_append_left _ (List.mem_append_left _ (List.mem_cons_of_mem _ (List.mem_cons_of_mem _ (List.mem_cons_of_mem _ (List.mem_cons_of_mem _ (List.mem_cons_of_mem _ (List.mem_cons_of_mem _ (List.mem_cons_of_mem _ (List.mem_cons_of_mem _ (List.mem_cons_of_mem _ (List.mem_cons_of_mem _ (List.mem_cons_of_mem _ (List.mem_cons_of_mem _ (List.mem_cons_of_mem _ (List.mem_cons_of_mem _ (List.mem_cons_of_mem _ (List.Mem.head _))))))))))))))))))))) (kt_wf1 (List.mem_cons_of_mem _ (List.mem_append_left _ (List.mem_append_left _ (List.mem_append_left _ (List.mem_append_left _ (List.mem_cons_of_mem _ (List.mem_cons_of_mem _ (List.mem_cons_of_mem _ (List.mem_cons_of_mem _ (List.mem_cons_of_mem _ (List.mem_cons_of_mem _ (List.mem_cons_of_mem _ (List.mem_cons_of_mem _ (List.mem_cons_of_mem _ (List.mem_cons_of_mem _ (List.mem_cons_of_mem _ (List.mem_cons_of_mem _ (List.mem_cons_of_mem _ (List.mem_cons_of_mem _ (List.mem_cons_of_mem _ (List.mem_cons_of_mem _ (List.Mem.head _)))))))))))))))))))))) (kt_wf1 (List.mem_cons_of_mem _ (List.mem_append_left _ (List.mem_append_left _ (List.mem_append_left _ (List.mem_append_left _ (List.mem_cons_of_mem _ (List.mem_cons_of_mem _ (List.mem_cons_of_mem _ (List.mem_cons_of_mem _ (List.mem_cons_of_mem _ (List.mem_cons_of_mem _ (List.mem_cons_of_mem _ (List.mem_cons_of_mem _ (List.mem_cons_of_mem _ (List.mem_cons_of_mem _ (List.mem_cons_of_mem _ (List.mem_cons_of_mem _ (List.mem_cons_of_mem _ (List.mem_cons_of_mem _ (List.mem_cons_of_mem _ (List.mem_cons_of_mem _ (List.mem_cons_of_mem _ (List.Mem.head _))))))))))))))))))))))) kt_wf0)))) (by decide +kernel)) ggX7_setUp_X6_bears
theorem sX7_setUp_0 : kt_sg cX7_setUp 0 [3, 60, 27, 42, 180, 0, 50, 180, 0, 73, 162, 0, 18, 42, 180, 0, 12, 27, 2, 182, 0, 139, 132, 1, 1, 167, 255, 233, 3, 60, 27, 42, 180, 0, 50, 180, 0, 73, 162, 0, 68, 42, 180, 0, 29, 27, 46, 61, 28, 42, 180, 0, 50, 180, 0, 78, 180, 0, 115, 161, 0, 6, 167, 0, 38] = true := by decide +kernel
theorem dX7_setUp_0 : decode cX7_setUp 0 = .ok (.iconst 0, 1) := kt_o3 (j := 0) sX7_setUp_0 rfl
theorem dX7_setUp_1 : decode cX7_setUp 1 = .ok (.istore_n 1, 1) := kt_o60 (j := 1) sX7_setUp_0 rfl
theorem dX7_setUp_2 : decode cX7_setUp 2 = .ok (.iload_n 1, 1) := kt_o27 (j := 2) sX7_setUp_0 rfl
theorem dX7_setUp_3 : decode cX7_setUp 3 = .ok (.aload_n 0, 1) := kt_o42 (j := 3) sX7_setUp_0 rfl
theorem dX7_setUp_4 : decode cX7_setUp 4 = .ok (.getfield 50, 3) := kt_o180 (j := 4) sX7_setUp_0 rfl rfl
theorem dX7_setUp_7 : decode cX7_setUp 7 = .ok (.getfield 73, 3) := kt_o180 (j := 7) sX7_setUp_0 rfl rfl
theorem dX7_setUp_10 : decode cX7_setUp 10 = .ok (.if_icmp .ge 18, 3) := kt_o162 (j := 10) sX7_setUp_0 rfl (by decide +kernel)
theorem dX7_setUp_13 : decode cX7_setUp 13 = .ok (.aload_n 0, 1) := kt_o42 (j := 13) sX7_setUp_0 rfl
theorem dX7_setUp_14 : decode cX7_setUp 14 = .ok (.getfield 12, 3) := kt_o180 (j := 14) sX7_setUp_0 rfl rfl
theorem dX7_setUp_17 : decode cX7_setUp 17 = .ok (.iload_n 1, 1) := kt_o27 (j := 17) sX7_setUp_0 rfl
theorem dX7_setUp_18 : decode cX7_setUp 18 = .ok (.iconst (-1), 1) := kt_o2 (j := 18) sX7_setUp_0 rfl
theorem dX7_setUp_19 : decode cX7_setUp 19 = .ok (.invokevirtual 139, 3) := kt_o182 (j := 19) sX7_setUp_0 rfl rfl
theorem dX7_setUp_22 : decode cX7_setUp 22 = .ok (.iinc 1 1, 3) := kt_o132 (j := 22) sX7_setUp_0 rfl (by decide +kernel)
theorem dX7_setUp_25 : decode cX7_setUp 25 = .ok (.goto (-23), 3) := kt_o167 (j := 25) sX7_setUp_0 rfl (by decide +kernel)
theorem dX7_setUp_28 : decode cX7_setUp 28 = .ok (.iconst 0, 1) := kt_o3 (j := 28) sX7_setUp_0 rfl
theorem dX7_setUp_29 : decode cX7_setUp 29 = .ok (.istore_n 1, 1) := kt_o60 (j := 29) sX7_setUp_0 rfl
theorem dX7_setUp_30 : decode cX7_setUp 30 = .ok (.iload_n 1, 1) := kt_o27 (j := 30) sX7_setUp_0 rfl
theorem dX7_setUp_31 : decode cX7_setUp 31 = .ok (.aload_n 0, 1) := kt_o42 (j := 31) sX7_setUp_0 rfl
theorem dX7_setUp_32 : decode cX7_setUp 32 = .ok (.getfield 50, 3) := kt_o180 (j := 32) sX7_setUp_0 rfl rfl
theorem dX7_setUp_35 : decode cX7_setUp 35 = .ok (.getfield 73, 3) := kt_o180 (j := 35) sX7_setUp_0 rfl rfl
theorem dX7_setUp_38 : decode cX7_setUp 38 = .ok (.if_icmp .ge 68, 3) := kt_o162 (j := 38) sX7_setUp_0 rfl (by decide +kernel)
theorem dX7_setUp_41 : decode cX7_setUp 41 = .ok (.aload_n 0, 1) := kt_o42 (j := 41) sX7_setUp_0 rfl
theorem dX7_setUp_42 : decode cX7_setUp 42 = .ok (.getfield 29, 3) := kt_o180 (j := 42) sX7_setUp_0 rfl rfl
theorem dX7_setUp_45 : decode cX7_setUp 45 = .ok (.iload_n 1, 1) := kt_o27 (j := 45) sX7_setUp_0 rfl
theorem dX7_setUp_46 : decode cX7_setUp 46 = .ok (.iaload, 1) := kt_o46 (j := 46) sX7_setUp_0 rfl
theorem dX7_setUp_47 : decode cX7_setUp 47 = .ok (.istore_n 2, 1) := kt_o61 (j := 47) sX7_setUp_0 rfl
theorem dX7_setUp_48 : decode cX7_setUp 48 = .ok (.iload_n 2, 1) := kt_o28 (j := 48) sX7_setUp_0 rfl
theorem dX7_setUp_49 : decode cX7_setUp 49 = .ok (.aload_n 0, 1) := kt_o42 (j := 49) sX7_setUp_0 rfl
theorem dX7_setUp_50 : decode cX7_setUp 50 = .ok (.getfield 50, 3) := kt_o180 (j := 50) sX7_setUp_0 rfl rfl
theorem dX7_setUp_53 : decode cX7_setUp 53 = .ok (.getfield 78, 3) := kt_o180 (j := 53) sX7_setUp_0 rfl rfl
theorem dX7_setUp_56 : decode cX7_setUp 56 = .ok (.getfield 115, 3) := kt_o180 (j := 56) sX7_setUp_0 rfl rfl
theorem dX7_setUp_59 : decode cX7_setUp 59 = .ok (.if_icmp .lt 6, 3) := kt_o161 (j := 59) sX7_setUp_0 rfl (by decide +kernel)
theorem dX7_setUp_62 : decode cX7_setUp 62 = .ok (.goto 38, 3) := kt_o167 (j := 62) sX7_setUp_0 rfl (by decide +kernel)
theorem sX7_setUp_65 : kt_sg cX7_setUp 65 [42, 180, 0, 12, 28, 182, 0, 142, 2, 160, 0, 15, 42, 180, 0, 50, 28, 27, 182, 0, 146, 154, 0, 5, 3, 172, 42, 180, 0, 12, 27, 28, 182, 0, 139, 132, 1, 1, 167, 255, 183, 4, 172] = true := by decide +kernel
theorem dX7_setUp_65 : decode cX7_setUp 65 = .ok (.aload_n 0, 1) := kt_o42 (j := 0) sX7_setUp_65 rfl
theorem dX7_setUp_66 : decode cX7_setUp 66 = .ok (.getfield 12, 3) := kt_o180 (j := 1) sX7_setUp_65 rfl rfl
theorem dX7_setUp_69 : decode cX7_setUp 69 = .ok (.iload_n 2, 1) := kt_o28 (j := 4) sX7_setUp_65 rfl
theorem dX7_setUp_70 : decode cX7_setUp 70 = .ok (.invokevirtual 142, 3) := kt_o182 (j := 5) sX7_setUp_65 rfl rfl
theorem dX7_setUp_73 : decode cX7_setUp 73 = .ok (.iconst (-1), 1) := kt_o2 (j := 8) sX7_setUp_65 rfl
theorem dX7_setUp_74 : decode cX7_setUp 74 = .ok (.if_icmp .ne 15, 3) := kt_o160 (j := 9) sX7_setUp_65 rfl (by decide +kernel)
theorem dX7_setUp_77 : decode cX7_setUp 77 = .ok (.aload_n 0, 1) := kt_o42 (j := 12) sX7_setUp_65 rfl
theorem dX7_setUp_78 : decode cX7_setUp 78 = .ok (.getfield 50, 3) := kt_o180 (j := 13) sX7_setUp_65 rfl rfl
theorem dX7_setUp_81 : decode cX7_setUp 81 = .ok (.iload_n 2, 1) := kt_o28 (j := 16) sX7_setUp_65 rfl
theorem dX7_setUp_82 : decode cX7_setUp 82 = .ok (.iload_n 1, 1) := kt_o27 (j := 17) sX7_setUp_65 rfl
theorem dX7_setUp_83 : decode cX7_setUp 83 = .ok (.invokevirtual 146, 3) := kt_o182 (j := 18) sX7_setUp_65 rfl rfl
theorem dX7_setUp_86 : decode cX7_setUp 86 = .ok (.ifCond .ne 5, 3) := kt_o154 (j := 21) sX7_setUp_65 rfl (by decide +kernel)
theorem dX7_setUp_89 : decode cX7_setUp 89 = .ok (.iconst 0, 1) := kt_o3 (j := 24) sX7_setUp_65 rfl
theorem dX7_setUp_90 : decode cX7_setUp 90 = .ok (.ireturn, 1) := kt_o172 (j := 25) sX7_setUp_65 rfl
theorem dX7_setUp_91 : decode cX7_setUp 91 = .ok (.aload_n 0, 1) := kt_o42 (j := 26) sX7_setUp_65 rfl
theorem dX7_setUp_92 : decode cX7_setUp 92 = .ok (.getfield 12, 3) := kt_o180 (j := 27) sX7_setUp_65 rfl rfl
theorem dX7_setUp_95 : decode cX7_setUp 95 = .ok (.iload_n 1, 1) := kt_o27 (j := 30) sX7_setUp_65 rfl
theorem dX7_setUp_96 : decode cX7_setUp 96 = .ok (.iload_n 2, 1) := kt_o28 (j := 31) sX7_setUp_65 rfl
theorem dX7_setUp_97 : decode cX7_setUp 97 = .ok (.invokevirtual 139, 3) := kt_o182 (j := 32) sX7_setUp_65 rfl rfl
theorem dX7_setUp_100 : decode cX7_setUp 100 = .ok (.iinc 1 1, 3) := kt_o132 (j := 35) sX7_setUp_65 rfl (by decide +kernel)
theorem dX7_setUp_103 : decode cX7_setUp 103 = .ok (.goto (-73), 3) := kt_o167 (j := 38) sX7_setUp_65 rfl (by decide +kernel)
theorem dX7_setUp_106 : decode cX7_setUp 106 = .ok (.iconst 1, 1) := kt_o4 (j := 41) sX7_setUp_65 rfl
theorem dX7_setUp_107 : decode cX7_setUp 107 = .ok (.ireturn, 1) := kt_o172 (j := 42) sX7_setUp_65 rfl
theorem kt_wp_X7_linkMoves__X7_linkMoves_r1 {w : Cond} (h : w ∈ wsX7_linkMoves_r1) : w ∈ wsX7_linkMoves := List.mem_cons_of_mem _ (List.mem_append_left _ (List.mem_append_left _ (List.mem_append_left _ (List.mem_append_left _ (List.mem_append_left _ (List.mem_append_left _ (List.mem_append_left _ (h))))))))
theorem kt_wp_X7_linkMoves__X7_linkMoves_r2 {w : Cond} (h : w ∈ wsX7_linkMoves_r2) : w ∈ wsX7_linkMoves := List.mem_cons_of_mem _ (List.mem_append_left _ (List.mem_append_left _ (List.mem_append_left _ (List.mem_append_left _ (List.mem_append_left _ (List.mem_append_left _ (List.mem_append_right _ (List.mem_append_left _ (h)))))))))
theorem kt_wp_X7_linkMoves__X7_linkMoves_r3 {w : Cond} (h : w ∈ wsX7_linkMoves_r3) : w ∈ wsX7_linkMoves := List.mem_cons_of_mem _ (List.mem_append_left _ (List.mem_append_left _ (List.mem_append_left _ (List.mem_append_left _ (List.mem_append_left _ (List.mem_append_left _ (List.mem_append_right _ (List.mem_append_right _ (List.mem_append_left _ (h))))))))))
theorem kt_wp_X7_linkMoves__X7_linkMoves_r4 {w : Cond} (h : w ∈ wsX7_linkMoves_r4) : w ∈ wsX7_linkMoves := List.mem_cons_of_mem _ (List.mem_append_left _ (List.mem_append_left _ (List.mem_append_left _ (List.mem_append_left _ (List.mem_append_left _ (List.mem_append_left _ (List.mem_append_right _ (List.mem_append_right _ (List.mem_append_right _ (h))))))))))
theorem kt_wp_X7_linkMoves__X70 {w : Cond} (h : w ∈ wsX70) : w ∈ wsX7_linkMoves := List.mem_cons_of_mem _ (List.mem_append_left _ (List.mem_append_left _ (List.mem_append_left _ (List.mem_append_left _ (List.mem_append_left _ (List.mem_append_right _ (h)))))))
theorem kt_wp_X7_linkMoves__X60 {w : Cond} (h : w ∈ wsX60) : w ∈ wsX7_linkMoves := List.mem_cons_of_mem _ (List.mem_append_left _ (List.mem_append_left _ (List.mem_append_left _ (List.mem_append_left _ (List.mem_append_right _ (h))))))
theorem kt_wp_X7_linkMoves__X80 {w : Cond} (h : w ∈ wsX80) : w ∈ wsX7_linkMoves := List.mem_cons_of_mem _ (List.mem_append_left _ (List.mem_append_left _ (List.mem_append_left _ (List.mem_append_right _ (h)))))
theorem kt_wp_X7_linkMoves__X10 {w : Cond} (h : w ∈ wsX10) : w ∈ wsX7_linkMoves := List.mem_cons_of_mem _ (List.mem_append_left _ (List.mem_append_left _ (List.mem_append_right _ (h))))
theorem kt_wp_X7_linkMoves__X00 {w : Cond} (h : w ∈ wsX00) : w ∈ wsX7_linkMoves := List.mem_cons_of_mem _ (List.mem_append_left _ (List.mem_append_right _ (h)))
theorem kt_wp_X7_linkMoves__X20 {w : Cond} (h : w ∈ wsX20) : w ∈ wsX7_linkMoves := List.mem_cons_of_mem _ (List.mem_append_right _ (h))
set_option maxRecDepth 20000 in
theorem ggX7_linkMoves_X6_room : GoodIn wsX7_linkMoves wsX6_room := goodIn_sub (kt_wf1 (kt_wp_X7_linkMoves__X7_linkMoves_r1 kt_wm8) (kt_wfa (kt_wfa (kt_wfa (kt_wfa (kt_wfa (kt_wf1 (kt_wp_X7_linkMoves__X7_linkMoves_r1 kt_wm9) (kt_wf1 (kt_wp_X7_linkMoves__X7_linkMoves_r1 kt_wm10) (kt_wf1 (kt_wp_X7_linkMoves__X7_linkMoves_r1 kt_wm11) (kt_wf1 (kt_wp_X7_linkMoves__X7_linkMoves_r1 kt_wm12) (kt_wf1 (kt_wp_X7_linkMoves__X7_linkMoves_r1 kt_wm13) (kt_wf1 (kt_wp_X7_linkMoves__X7_linkMoves_r1 kt_wm14) (kt_wf1 (kt_wp_X7_linkMoves__X7_linkMoves_r1 kt_wm15) (kt_wf1 (kt_wp_X7_linkMoves__X7_linkMoves_r1 kt_wm16) (kt_wf1 (kt_wp_X7_linkMoves__X7_linkMoves_r1 kt_wm17) (kt_wf1 (kt_wp_X7_linkMoves__X7_linkMoves_r1 kt_wm18) (kt_wf1 (kt_wp_X7_linkMoves__X7_linkMoves_r1 kt_wm19) (kt_wf1 (kt_wp_X7_linkMoves__X7_linkMoves_r1 kt_wm20) (kt_wf1 (kt_wp_X7_linkMoves__X7_linkMoves_r1 kt_wm21) (kt_wf1 (kt_wp_X7_linkMoves__X7_linkMoves_r1 kt_wm22) (kt_wf1 (kt_wp_X7_linkMoves__X7_linkMoves_r1 kt_wm23) (kt_wf1 (kt_wp_X7_linkMoves__X7_linkMoves_r2 kt_wm0) (kt_wf1 (kt_wp_X7_linkMoves__X7_linkMoves_r2 kt_wm1) (kt_wf1 (kt_wp_X7_linkMoves__X7_linkMoves_r2 kt_wm2) (kt_wf1 (kt_wp_X7_linkMoves__X7_linkMoves_r2 kt_wm3) (kt_wf1 (kt_wp_X7_linkMoves__X7_linkMoves_r2 kt_wm4) (kt_wf1 (kt_wp_X7_linkMoves__X7_linkMoves_r2 kt_wm5) (kt_wf1 (kt_wp_X7_linkMoves__X7_linkMoves_r2 kt_wm6) (kt_wf1 (kt_wp_X7_linkMoves__X7_linkMoves_r2 kt_wm7) (kt_wf1 (kt_wp_X7_linkMoves__X7_linkMoves_r2 kt_wm8) kt_wf0)))))))))))))))))))))))) (kt_wf1 (kt_wp_X7_linkMoves__X7_linkMoves_r1 kt_wm7) (kt_wf1 (kt_wp_X7_linkMoves__X7_linkMoves_r2 kt_wm9) kt_wf0))) (fun _ h => kt_wp_X7_linkMoves__X60 h)) (fun _ h => kt_wp_X7_linkMoves__X10 h)) (fun _ h => kt_wp_X7_linkMoves__X80 h)) (fun _ h => kt_wp_X7_linkMoves__X00 h))) kt_wg_X6_room
set_option maxRecDepth 20000 in
theorem gX7_linkMoves_X6_room : GoodIn wsX7_linkMoves (wsV RX7 153 RX6 yX6_room wsX6_room) := goodIn_app (a := [.methodLink RX7 153 yX6_room, .instanceMethod yX6_room, .selects RX6 yX6_room yX6_room, .initialized RX6]) (goodIn_sub (kt_wf1 (kt_wp_X7_linkMoves__X7_linkMoves_r1 kt_wm4) (kt_wf1 (kt_wp_X7_linkMoves__X7_linkMoves_r1 kt_wm5) (kt_wf1 (kt_wp_X7_linkMoves__X7_linkMoves_r1 kt_wm6) (kt_wf1 (kt_wp_X7_linkMoves__X7_linkMoves_r1 kt_wm7) kt_wf0)))) (by decide +kernel)) ggX7_linkMoves_X6_room
set_option maxRecDepth 20000 in
theorem ggX7_linkMoves_X8_fieldOf : GoodIn wsX7_linkMoves wsX8_fieldOf := goodIn_sub (kt_wf1 (kt_wp_X7_linkMoves__X7_linkMoves_r1 kt_wm16) (kt_wfa (kt_wf1 (kt_wp_X7_linkMoves__X7_linkMoves_r1 kt_wm17) kt_wf0) (fun _ h => kt_wp_X7_linkMoves__X80 h))) kt_wg_X8_fieldOf
set_option maxRecDepth 20000 in
theorem gX7_linkMoves_X8_fieldOf : GoodIn wsX7_linkMoves (wsV RX7 157 RX8 yX8_fieldOf wsX8_fieldOf) := goodIn_app (a := [.methodLink RX7 157 yX8_fieldOf, .instanceMethod yX8_fieldOf, .selects RX8 yX8_fieldOf yX8_fieldOf, .initialized RX8]) (goodIn_sub (kt_wf1 (kt_wp_X7_linkMoves__X7_linkMoves_r2 kt_wm10) (kt_wf1 (kt_wp_X7_linkMoves__X7_linkMoves_r1 kt_wm13) (kt_wf1 (kt_wp_X7_linkMoves__X7_linkMoves_r1 kt_wm14) (kt_wf1 (kt_wp_X7_linkMoves__X7_linkMoves_r1 kt_wm15) kt_wf0)))) (by decide +kernel)) ggX7_linkMoves_X8_fieldOf
set_option maxRecDepth 20000 in
theorem ggX7_linkMoves_X0_beside : GoodIn wsX7_linkMoves wsX0_beside := goodIn_sub (kt_wf1 (kt_wp_X7_linkMoves__X7_linkMoves_r1 kt_wm22) (kt_wfa (kt_wf1 (kt_wp_X7_linkMoves__X7_linkMoves_r1 kt_wm23) (kt_wf1 (kt_wp_X7_linkMoves__X7_linkMoves_r2 kt_wm0) kt_wf0)) (fun _ h => kt_wp_X7_linkMoves__X00 h))) kt_wg_X0_beside
set_option maxRecDepth 20000 in
theorem gX7_linkMoves_X0_beside : GoodIn wsX7_linkMoves (wsV RX7 160 RX0 yX0_beside wsX0_beside) := goodIn_app (a := [.methodLink RX7 160 yX0_beside, .instanceMethod yX0_beside, .selects RX0 yX0_beside yX0_beside, .initialized RX0]) (goodIn_sub (kt_wf1 (kt_wp_X7_linkMoves__X7_linkMoves_r2 kt_wm11) (kt_wf1 (kt_wp_X7_linkMoves__X7_linkMoves_r1 kt_wm19) (kt_wf1 (kt_wp_X7_linkMoves__X7_linkMoves_r1 kt_wm20) (kt_wf1 (kt_wp_X7_linkMoves__X7_linkMoves_r1 kt_wm21) kt_wf0)))) (by decide +kernel)) ggX7_linkMoves_X0_beside
set_option maxRecDepth 20000 in
theorem ggX7_linkMoves_X6_findVictims : GoodIn wsX7_linkMoves wsX6_findVictims := goodIn_sub (kt_wf1 (kt_wp_X7_linkMoves__X7_linkMoves_r2 kt_wm15) (kt_wfa (kt_wfa (kt_wfa (kt_wfa (kt_wfa (kt_wf1 (kt_wp_X7_linkMoves__X7_linkMoves_r2 kt_wm16) (kt_wf1 (kt_wp_X7_linkMoves__X7_linkMoves_r2 kt_wm17) (kt_wf1 (kt_wp_X7_linkMoves__X7_linkMoves_r1 kt_wm11) (kt_wf1 (kt_wp_X7_linkMoves__X7_linkMoves_r2 kt_wm18) (kt_wf1 (kt_wp_X7_linkMoves__X7_linkMoves_r2 kt_wm19) (kt_wf1 (kt_wp_X7_linkMoves__X7_linkMoves_r2 kt_wm20) (kt_wf1 (kt_wp_X7_linkMoves__X7_linkMoves_r2 kt_wm21) (kt_wf1 (kt_wp_X7_linkMoves__X7_linkMoves_r1 kt_wm7) (kt_wf1 (kt_wp_X7_linkMoves__X7_linkMoves_r2 kt_wm22) (kt_wf1 (kt_wp_X7_linkMoves__X7_linkMoves_r2 kt_wm23) (kt_wf1 (kt_wp_X7_linkMoves__X7_linkMoves_r1 kt_wm12) (kt_wf1 (kt_wp_X7_linkMoves__X7_linkMoves_r1 kt_wm13) (kt_wf1 (kt_wp_X7_linkMoves__X7_linkMoves_r1 kt_wm14) (kt_wf1 (kt_wp_X7_linkMoves__X7_linkMoves_r1 kt_wm15) (kt_wf1 (kt_wp_X7_linkMoves__X7_linkMoves_r1 kt_wm16) (kt_wf1 (kt_wp_X7_linkMoves__X7_linkMoves_r1 kt_wm17) (kt_wf1 (kt_wp_X7_linkMoves__X7_linkMoves_r3 kt_wm0) (kt_wf1 (kt_wp_X7_linkMoves__X7_linkMoves_r3 kt_wm1) (kt_wf1 (kt_wp_X7_linkMoves__X7_linkMoves_r3 kt_wm2) (kt_wf1 (kt_wp_X7_linkMoves__X7_linkMoves_r3 kt_wm3) (kt_wf1 (kt_wp_X7_linkMoves__X7_linkMoves_r2 kt_wm5) (kt_wf1 (kt_wp_X7_linkMoves__X7_linkMoves_r1 kt_wm18) (kt_wf1 (kt_wp_X7_linkMoves__X7_linkMoves_r1 kt_wm19) (kt_wf1 (kt_wp_X7_linkMoves__X7_linkMoves_r1 kt_wm20) kt_wf0)))))))))))))))))))))))) (kt_wf1 (kt_wp_X7_linkMoves__X7_linkMoves_r1 kt_wm21) (kt_wf1 (kt_wp_X7_linkMoves__X7_linkMoves_r1 kt_wm22) (kt_wf1 (kt_wp_X7_linkMoves__X7_linkMoves_r1 kt_wm23) (kt_wf1 (kt_wp_X7_linkMoves__X7_linkMoves_r2 kt_wm0) (kt_wf1 (kt_wp_X7_linkMoves__X7_linkMoves_r2 kt_wm1) (kt_wf1 (kt_wp_X7_linkMoves__X7_linkMoves_r2 kt_wm2) (kt_wf1 (kt_wp_X7_linkMoves__X7_linkMoves_r2 kt_wm3) (kt_wf1 (kt_wp_X7_linkMoves__X7_linkMoves_r2 kt_wm4) (kt_wf1 (kt_wp_X7_linkMoves__X7_linkMoves_r3 kt_wm4) (kt_wf1 (kt_wp_X7_linkMoves__X7_linkMoves_r3 kt_wm5) (kt_wf1 (kt_wp_X7_linkMoves__X7_linkMoves_r3 kt_wm6) (kt_wf1 (kt_wp_X7_linkMoves__X7_linkMoves_r3 kt_wm7) (kt_wf1 (kt_wp_X7_linkMoves__X7_linkMoves_r3 kt_wm8) (kt_wf1 (kt_wp_X7_linkMoves__X7_linkMoves_r1 kt_wm9) (kt_wf1 (kt_wp_X7_linkMoves__X7_linkMoves_r1 kt_wm10) (kt_wf1 (kt_wp_X7_linkMoves__X7_linkMoves_r3 kt_wm9) (kt_wf1 (kt_wp_X7_linkMoves__X7_linkMoves_r3 kt_wm10) (kt_wf1 (kt_wp_X7_linkMoves__X7_linkMoves_r3 kt_wm11) (kt_wf1 (kt_wp_X7_linkMoves__X7_linkMoves_r3 kt_wm12) (kt_wf1 (kt_wp_X7_linkMoves__X7_linkMoves_r3 kt_wm13) (kt_wf1 (kt_wp_X7_linkMoves__X7_linkMoves_r3 kt_wm14) (kt_wf1 (kt_wp_X7_linkMoves__X7_linkMoves_r3 kt_wm15) (kt_wf1 (kt_wp_X7_linkMoves__X7_linkMoves_r3 kt_wm16) (kt_wf1 (kt_wp_X7_linkMoves__X7_linkMoves_r3 kt_wm17) kt_wf0))))))))))))))))))))))))) (fun _ h => kt_wp_X7_linkMoves__X60 h)) (fun _ h => kt_wp_X7_linkMoves__X80 h)) (fun _ h => kt_wp_X7_linkMoves__X00 h)) (fun _ h => kt_wp_X7_linkMoves__X10 h))) kt_wg_X6_findVictims
set_option maxRecDepth 20000 in
theorem gX7_linkMoves_X6_findVictims : GoodIn wsX7_linkMoves (wsV RX7 164 RX6 yX6_findVictims wsX6_findVictims) := goodIn_app (a := [.methodLink RX7 164 yX6_findVictims, .instanceMethod yX6_findVictims, .selects RX6 yX6_findVictims yX6_findVictims, .initialized RX6]) (goodIn_sub (kt_wf1 (kt_wp_X7_linkMoves__X7_linkMoves_r2 kt_wm12) (kt_wf1 (kt_wp_X7_linkMoves__X7_linkMoves_r2 kt_wm13) (kt_wf1 (kt_wp_X7_linkMoves__X7_linkMoves_r2 kt_wm14) (kt_wf1 (kt_wp_X7_linkMoves__X7_linkMoves_r1 kt_wm7) kt_wf0)))) (by decide +kernel)) ggX7_linkMoves_X6_findVictims
set_option maxRecDepth 20000 in
theorem kt_wg_X7_behindMove : wsX7_behindMove.all goodWord = true := by decide +kernel
set_option maxRecDepth 20000 in
theorem ggX7_linkMoves_X7_behindMove : GoodIn wsX7_linkMoves wsX7_behindMove := goodIn_sub (kt_wf1 (kt_wp_X7_linkMoves__X7_linkMoves_r3 kt_wm22) (kt_wfa (kt_wfa (kt_wfa (kt_wfa (kt_wf1 (kt_wp_X7_linkMoves__X7_linkMoves_r3 kt_wm23) (kt_wf1 (kt_wp_X7_linkMoves__X7_linkMoves_r1 kt_wm0) (kt_wf1 (kt_wp_X7_linkMoves__X7_linkMoves_r2 kt_wm10) (kt_wf1 (kt_wp_X7_linkMoves__X7_linkMoves_r1 kt_wm13) (kt_wf1 (kt_wp_X7_linkMoves__X7_linkMoves_r1 kt_wm14) (kt_wf1 (kt_wp_X7_linkMoves__X7_linkMoves_r1 kt_wm15) (kt_wf1 (kt_wp_X7_linkMoves__X7_linkMoves_r1 kt_wm16) (kt_wf1 (kt_wp_X7_linkMoves__X7_linkMoves_r1 kt_wm17) kt_wf0)))))))) (fun _ h => kt_wp_X7_linkMoves__X70 h)) (fun _ h => kt_wp_X7_linkMoves__X60 h)) (fun _ h => kt_wp_X7_linkMoves__X00 h)) (fun _ h => kt_wp_X7_linkMoves__X80 h))) kt_wg_X7_behindMove
set_option maxRecDepth 20000 in
theorem gX7_linkMoves_X7_behindMove : GoodIn wsX7_linkMoves (wsV RX7 167 RX7 yX7_behindMove wsX7_behindMove) := goodIn_app (a := [.methodLink RX7 167 yX7_behindMove, .instanceMethod yX7_behindMove, .selects RX7 yX7_behindMove yX7_behindMove, .initialized RX7]) (goodIn_sub (kt_wf1 (kt_wp_X7_linkMoves__X7_linkMoves_r3 kt_wm18) (kt_wf1 (kt_wp_X7_linkMoves__X7_linkMoves_r3 kt_wm19) (kt_wf1 (kt_wp_X7_linkMoves__X7_linkMoves_r3 kt_wm20) (kt_wf1 (kt_wp_X7_linkMoves__X7_linkMoves_r3 kt_wm21) kt_wf0)))) (by decide +kernel)) ggX7_linkMoves_X7_behindMove
set_option maxRecDepth 20000 in
theorem kt_wg_X2_add : wsX2_add.all goodWord = true := by decide +kernel
set_option maxRecDepth 20000 in
theorem ggX7_linkMoves_X2_add : GoodIn wsX7_linkMoves wsX2_add := goodIn_sub (kt_wf1 (kt_wp_X7_linkMoves__X7_linkMoves_r4 kt_wm4) (kt_wfa (kt_wf1 (kt_wp_X7_linkMoves__X7_linkMoves_r4 kt_wm5) (kt_wf1 (kt_wp_X7_linkMoves__X7_linkMoves_r4 kt_wm6) (kt_wf1 (kt_wp_X7_linkMoves__X7_linkMoves_r4 kt_wm7) (kt_wf1 (kt_wp_X7_linkMoves__X7_linkMoves_r4 kt_wm8) kt_wf0)))) (fun _ h => kt_wp_X7_linkMoves__X20 h))) kt_wg_X2_add
set_option maxRecDepth 20000 in
theorem gX7_linkMoves_X2_add : GoodIn wsX7_linkMoves (wsV RX7 171 RX2 yX2_add wsX2_add) := goodIn_app (a := [.methodLink RX7 171 yX2_add, .instanceMethod yX2_add, .selects RX2 yX2_add yX2_add, .initialized RX2]) (goodIn_sub (kt_wf1 (kt_wp_X7_linkMoves__X7_linkMoves_r4 kt_wm0) (kt_wf1 (kt_wp_X7_linkMoves__X7_linkMoves_r4 kt_wm1) (kt_wf1 (kt_wp_X7_linkMoves__X7_linkMoves_r4 kt_wm2) (kt_wf1 (kt_wp_X7_linkMoves__X7_linkMoves_r4 kt_wm3) kt_wf0)))) (by decide +kernel)) ggX7_linkMoves_X2_add
theorem sX7_linkMoves_0 : kt_sg cX7_linkMoves 0 [3, 61, 28, 42, 180, 0, 50, 180, 0, 73, 162, 0, 145, 42, 180, 0, 50, 180, 0, 150, 28, 46, 42, 180, 0, 12, 180, 0, 125, 159, 0, 6, 167, 0, 117, 3, 62, 29, 7, 162, 0, 110, 42, 180, 0, 50, 42, 180, 0, 12, 28, 29, 182, 0, 153, 54, 4, 42, 180, 0, 12, 28, 182, 0, 157] = true := by decide +kernel
theorem dX7_linkMoves_0 : decode cX7_linkMoves 0 = .ok (.iconst 0, 1) := kt_o3 (j := 0) sX7_linkMoves_0 rfl
theorem dX7_linkMoves_1 : decode cX7_linkMoves 1 = .ok (.istore_n 2, 1) := kt_o61 (j := 1) sX7_linkMoves_0 rfl
theorem dX7_linkMoves_2 : decode cX7_linkMoves 2 = .ok (.iload_n 2, 1) := kt_o28 (j := 2) sX7_linkMoves_0 rfl
theorem dX7_linkMoves_3 : decode cX7_linkMoves 3 = .ok (.aload_n 0, 1) := kt_o42 (j := 3) sX7_linkMoves_0 rfl
theorem dX7_linkMoves_4 : decode cX7_linkMoves 4 = .ok (.getfield 50, 3) := kt_o180 (j := 4) sX7_linkMoves_0 rfl rfl
theorem dX7_linkMoves_7 : decode cX7_linkMoves 7 = .ok (.getfield 73, 3) := kt_o180 (j := 7) sX7_linkMoves_0 rfl rfl
theorem dX7_linkMoves_10 : decode cX7_linkMoves 10 = .ok (.if_icmp .ge 145, 3) := kt_o162 (j := 10) sX7_linkMoves_0 rfl (by decide +kernel)
theorem dX7_linkMoves_13 : decode cX7_linkMoves 13 = .ok (.aload_n 0, 1) := kt_o42 (j := 13) sX7_linkMoves_0 rfl
theorem dX7_linkMoves_14 : decode cX7_linkMoves 14 = .ok (.getfield 50, 3) := kt_o180 (j := 14) sX7_linkMoves_0 rfl rfl
theorem dX7_linkMoves_17 : decode cX7_linkMoves 17 = .ok (.getfield 150, 3) := kt_o180 (j := 17) sX7_linkMoves_0 rfl rfl
theorem dX7_linkMoves_20 : decode cX7_linkMoves 20 = .ok (.iload_n 2, 1) := kt_o28 (j := 20) sX7_linkMoves_0 rfl
theorem dX7_linkMoves_21 : decode cX7_linkMoves 21 = .ok (.iaload, 1) := kt_o46 (j := 21) sX7_linkMoves_0 rfl
theorem dX7_linkMoves_22 : decode cX7_linkMoves 22 = .ok (.aload_n 0, 1) := kt_o42 (j := 22) sX7_linkMoves_0 rfl
theorem dX7_linkMoves_23 : decode cX7_linkMoves 23 = .ok (.getfield 12, 3) := kt_o180 (j := 23) sX7_linkMoves_0 rfl rfl
theorem dX7_linkMoves_26 : decode cX7_linkMoves 26 = .ok (.getfield 125, 3) := kt_o180 (j := 26) sX7_linkMoves_0 rfl rfl
theorem dX7_linkMoves_29 : decode cX7_linkMoves 29 = .ok (.if_icmp .eq 6, 3) := kt_o159 (j := 29) sX7_linkMoves_0 rfl (by decide +kernel)
theorem dX7_linkMoves_32 : decode cX7_linkMoves 32 = .ok (.goto 117, 3) := kt_o167 (j := 32) sX7_linkMoves_0 rfl (by decide +kernel)
theorem dX7_linkMoves_35 : decode cX7_linkMoves 35 = .ok (.iconst 0, 1) := kt_o3 (j := 35) sX7_linkMoves_0 rfl
theorem dX7_linkMoves_36 : decode cX7_linkMoves 36 = .ok (.istore_n 3, 1) := kt_o62 (j := 36) sX7_linkMoves_0 rfl
theorem dX7_linkMoves_37 : decode cX7_linkMoves 37 = .ok (.iload_n 3, 1) := kt_o29 (j := 37) sX7_linkMoves_0 rfl
theorem dX7_linkMoves_38 : decode cX7_linkMoves 38 = .ok (.iconst 4, 1) := kt_o7 (j := 38) sX7_linkMoves_0 rfl
theorem dX7_linkMoves_39 : decode cX7_linkMoves 39 = .ok (.if_icmp .ge 110, 3) := kt_o162 (j := 39) sX7_linkMoves_0 rfl (by decide +kernel)
theorem dX7_linkMoves_42 : decode cX7_linkMoves 42 = .ok (.aload_n 0, 1) := kt_o42 (j := 42) sX7_linkMoves_0 rfl
theorem dX7_linkMoves_43 : decode cX7_linkMoves 43 = .ok (.getfield 50, 3) := kt_o180 (j := 43) sX7_linkMoves_0 rfl rfl
theorem dX7_linkMoves_46 : decode cX7_linkMoves 46 = .ok (.aload_n 0, 1) := kt_o42 (j := 46) sX7_linkMoves_0 rfl
theorem dX7_linkMoves_47 : decode cX7_linkMoves 47 = .ok (.getfield 12, 3) := kt_o180 (j := 47) sX7_linkMoves_0 rfl rfl
theorem dX7_linkMoves_50 : decode cX7_linkMoves 50 = .ok (.iload_n 2, 1) := kt_o28 (j := 50) sX7_linkMoves_0 rfl
theorem dX7_linkMoves_51 : decode cX7_linkMoves 51 = .ok (.iload_n 3, 1) := kt_o29 (j := 51) sX7_linkMoves_0 rfl
theorem dX7_linkMoves_52 : decode cX7_linkMoves 52 = .ok (.invokevirtual 153, 3) := kt_o182 (j := 52) sX7_linkMoves_0 rfl rfl
theorem dX7_linkMoves_55 : decode cX7_linkMoves 55 = .ok (.istore 4, 2) := kt_o54 (j := 55) sX7_linkMoves_0 rfl
theorem dX7_linkMoves_57 : decode cX7_linkMoves 57 = .ok (.aload_n 0, 1) := kt_o42 (j := 57) sX7_linkMoves_0 rfl
theorem dX7_linkMoves_58 : decode cX7_linkMoves 58 = .ok (.getfield 12, 3) := kt_o180 (j := 58) sX7_linkMoves_0 rfl rfl
theorem dX7_linkMoves_61 : decode cX7_linkMoves 61 = .ok (.iload_n 2, 1) := kt_o28 (j := 61) sX7_linkMoves_0 rfl
theorem dX7_linkMoves_62 : decode cX7_linkMoves 62 = .ok (.invokevirtual 157, 3) := kt_o182 (j := 62) sX7_linkMoves_0 rfl rfl
theorem sX7_linkMoves_65 : kt_sg cX7_linkMoves 65 [54, 5, 4, 54, 6, 21, 6, 21, 4, 163, 0, 69, 42, 180, 0, 50, 180, 0, 78, 21, 5, 29, 182, 0, 160, 54, 5, 42, 180, 0, 50, 42, 180, 0, 12, 28, 21, 5, 182, 0, 164, 87, 42, 180, 0, 21, 27, 42, 42, 180, 0, 12, 27, 28, 21, 5, 182, 0, 167, 182, 0, 171, 42, 180, 0, 44] = true := by decide +kernel
theorem dX7_linkMoves_65 : decode cX7_linkMoves 65 = .ok (.istore 5, 2) := kt_o54 (j := 0) sX7_linkMoves_65 rfl
theorem dX7_linkMoves_67 : decode cX7_linkMoves 67 = .ok (.iconst 1, 1) := kt_o4 (j := 2) sX7_linkMoves_65 rfl
theorem dX7_linkMoves_68 : decode cX7_linkMoves 68 = .ok (.istore 6, 2) := kt_o54 (j := 3) sX7_linkMoves_65 rfl
theorem dX7_linkMoves_70 : decode cX7_linkMoves 70 = .ok (.iload 6, 2) := kt_o21 (j := 5) sX7_linkMoves_65 rfl
theorem dX7_linkMoves_72 : decode cX7_linkMoves 72 = .ok (.iload 4, 2) := kt_o21 (j := 7) sX7_linkMoves_65 rfl
theorem dX7_linkMoves_74 : decode cX7_linkMoves 74 = .ok (.if_icmp .gt 69, 3) := kt_o163 (j := 9) sX7_linkMoves_65 rfl (by decide +kernel)
theorem dX7_linkMoves_77 : decode cX7_linkMoves 77 = .ok (.aload_n 0, 1) := kt_o42 (j := 12) sX7_linkMoves_65 rfl
theorem dX7_linkMoves_78 : decode cX7_linkMoves 78 = .ok (.getfield 50, 3) := kt_o180 (j := 13) sX7_linkMoves_65 rfl rfl
theorem dX7_linkMoves_81 : decode cX7_linkMoves 81 = .ok (.getfield 78, 3) := kt_o180 (j := 16) sX7_linkMoves_65 rfl rfl
theorem dX7_linkMoves_84 : decode cX7_linkMoves 84 = .ok (.iload 5, 2) := kt_o21 (j := 19) sX7_linkMoves_65 rfl
theorem dX7_linkMoves_86 : decode cX7_linkMoves 86 = .ok (.iload_n 3, 1) := kt_o29 (j := 21) sX7_linkMoves_65 rfl
theorem dX7_linkMoves_87 : decode cX7_linkMoves 87 = .ok (.invokevirtual 160, 3) := kt_o182 (j := 22) sX7_linkMoves_65 rfl rfl
theorem dX7_linkMoves_90 : decode cX7_linkMoves 90 = .ok (.istore 5, 2) := kt_o54 (j := 25) sX7_linkMoves_65 rfl
theorem dX7_linkMoves_92 : decode cX7_linkMoves 92 = .ok (.aload_n 0, 1) := kt_o42 (j := 27) sX7_linkMoves_65 rfl
theorem dX7_linkMoves_93 : decode cX7_linkMoves 93 = .ok (.getfield 50, 3) := kt_o180 (j := 28) sX7_linkMoves_65 rfl rfl
theorem dX7_linkMoves_96 : decode cX7_linkMoves 96 = .ok (.aload_n 0, 1) := kt_o42 (j := 31) sX7_linkMoves_65 rfl
theorem dX7_linkMoves_97 : decode cX7_linkMoves 97 = .ok (.getfield 12, 3) := kt_o180 (j := 32) sX7_linkMoves_65 rfl rfl
theorem dX7_linkMoves_100 : decode cX7_linkMoves 100 = .ok (.iload_n 2, 1) := kt_o28 (j := 35) sX7_linkMoves_65 rfl
theorem dX7_linkMoves_101 : decode cX7_linkMoves 101 = .ok (.iload 5, 2) := kt_o21 (j := 36) sX7_linkMoves_65 rfl
theorem dX7_linkMoves_103 : decode cX7_linkMoves 103 = .ok (.invokevirtual 164, 3) := kt_o182 (j := 38) sX7_linkMoves_65 rfl rfl
theorem dX7_linkMoves_106 : decode cX7_linkMoves 106 = .ok (.pop, 1) := kt_o87 (j := 41) sX7_linkMoves_65 rfl
theorem dX7_linkMoves_107 : decode cX7_linkMoves 107 = .ok (.aload_n 0, 1) := kt_o42 (j := 42) sX7_linkMoves_65 rfl
theorem dX7_linkMoves_108 : decode cX7_linkMoves 108 = .ok (.getfield 21, 3) := kt_o180 (j := 43) sX7_linkMoves_65 rfl rfl
theorem dX7_linkMoves_111 : decode cX7_linkMoves 111 = .ok (.iload_n 1, 1) := kt_o27 (j := 46) sX7_linkMoves_65 rfl
theorem dX7_linkMoves_112 : decode cX7_linkMoves 112 = .ok (.aload_n 0, 1) := kt_o42 (j := 47) sX7_linkMoves_65 rfl
theorem dX7_linkMoves_113 : decode cX7_linkMoves 113 = .ok (.aload_n 0, 1) := kt_o42 (j := 48) sX7_linkMoves_65 rfl
theorem dX7_linkMoves_114 : decode cX7_linkMoves 114 = .ok (.getfield 12, 3) := kt_o180 (j := 49) sX7_linkMoves_65 rfl rfl
theorem dX7_linkMoves_117 : decode cX7_linkMoves 117 = .ok (.iload_n 1, 1) := kt_o27 (j := 52) sX7_linkMoves_65 rfl
theorem dX7_linkMoves_118 : decode cX7_linkMoves 118 = .ok (.iload_n 2, 1) := kt_o28 (j := 53) sX7_linkMoves_65 rfl
theorem dX7_linkMoves_119 : decode cX7_linkMoves 119 = .ok (.iload 5, 2) := kt_o21 (j := 54) sX7_linkMoves_65 rfl
theorem dX7_linkMoves_121 : decode cX7_linkMoves 121 = .ok (.invokevirtual 167, 3) := kt_o182 (j := 56) sX7_linkMoves_65 rfl rfl
theorem dX7_linkMoves_124 : decode cX7_linkMoves 124 = .ok (.invokevirtual 171, 3) := kt_o182 (j := 59) sX7_linkMoves_65 rfl rfl
theorem dX7_linkMoves_127 : decode cX7_linkMoves 127 = .ok (.aload_n 0, 1) := kt_o42 (j := 62) sX7_linkMoves_65 rfl
theorem dX7_linkMoves_128 : decode cX7_linkMoves 128 = .ok (.getfield 44, 3) := kt_o180 (j := 63) sX7_linkMoves_65 rfl rfl
theorem sX7_linkMoves_131 : kt_sg cX7_linkMoves 131 [27, 92, 46, 4, 96, 79, 132, 6, 1, 167, 255, 186, 132, 3, 1, 167, 255, 147, 132, 2, 1, 167, 255, 106, 177] = true := by decide +kernel
theorem dX7_linkMoves_131 : decode cX7_linkMoves 131 = .ok (.iload_n 1, 1) := kt_o27 (j := 0) sX7_linkMoves_131 rfl
theorem dX7_linkMoves_132 : decode cX7_linkMoves 132 = .ok (.dup2, 1) := kt_o92 (j := 1) sX7_linkMoves_131 rfl
theorem dX7_linkMoves_133 : decode cX7_linkMoves 133 = .ok (.iaload, 1) := kt_o46 (j := 2) sX7_linkMoves_131 rfl
theorem dX7_linkMoves_134 : decode cX7_linkMoves 134 = .ok (.iconst 1, 1) := kt_o4 (j := 3) sX7_linkMoves_131 rfl
theorem dX7_linkMoves_135 : decode cX7_linkMoves 135 = .ok (.iadd, 1) := kt_o96 (j := 4) sX7_linkMoves_131 rfl
theorem dX7_linkMoves_136 : decode cX7_linkMoves 136 = .ok (.iastore, 1) := kt_o79 (j := 5) sX7_linkMoves_131 rfl
theorem dX7_linkMoves_137 : decode cX7_linkMoves 137 = .ok (.iinc 6 1, 3) := kt_o132 (j := 6) sX7_linkMoves_131 rfl (by decide +kernel)
theorem dX7_linkMoves_140 : decode cX7_linkMoves 140 = .ok (.goto (-70), 3) := kt_o167 (j := 9) sX7_linkMoves_131 rfl (by decide +kernel)
theorem dX7_linkMoves_143 : decode cX7_linkMoves 143 = .ok (.iinc 3 1, 3) := kt_o132 (j := 12) sX7_linkMoves_131 rfl (by decide +kernel)
theorem dX7_linkMoves_146 : decode cX7_linkMoves 146 = .ok (.goto (-109), 3) := kt_o167 (j := 15) sX7_linkMoves_131 rfl (by decide +kernel)
theorem dX7_linkMoves_149 : decode cX7_linkMoves 149 = .ok (.iinc 2 1, 3) := kt_o132 (j := 18) sX7_linkMoves_131 rfl (by decide +kernel)
theorem dX7_linkMoves_152 : decode cX7_linkMoves 152 = .ok (.goto (-150), 3) := kt_o167 (j := 21) sX7_linkMoves_131 rfl (by decide +kernel)
theorem dX7_linkMoves_155 : decode cX7_linkMoves 155 = .ok (.return_, 1) := kt_o177 (j := 24) sX7_linkMoves_131 rfl
theorem kt_wp_X7_behindMove__X70 {w : Cond} (h : w ∈ wsX70) : w ∈ wsX7_behindMove := List.mem_cons_of_mem _ (List.mem_append_left _ (List.mem_append_left _ (List.mem_append_left _ (List.mem_append_right _ (h)))))
theorem kt_wp_X7_behindMove__X60 {w : Cond} (h : w ∈ wsX60) : w ∈ wsX7_behindMove := List.mem_cons_of_mem _ (List.mem_append_left _ (List.mem_append_left _ (List.mem_append_right _ (h))))
theorem kt_wp_X7_behindMove__X00 {w : Cond} (h : w ∈ wsX00) : w ∈ wsX7_behindMove := List.mem_cons_of_mem _ (List.mem_append_left _ (List.mem_append_right _ (h)))
theorem kt_wp_X7_behindMove__X80 {w : Cond} (h : w ∈ wsX80) : w ∈ wsX7_behindMove := List.mem_cons_of_mem _ (List.mem_append_right _ (h))
set_option maxRecDepth 20000 in
theorem ggX7_behindMove_X8_fieldOf : GoodIn wsX7_behindMove wsX8_fieldOf := goodIn_sub (kt_wf1 (List.mem_cons_of_mem _ (List.mem_append_left _ (List.mem_append_left _ (List.mem_append_left _ (List.mem_append_left _ (List.mem_cons_of_mem _ (List.mem_cons_of_mem _ (List.mem_cons_of_mem _ (List.mem_cons_of_mem _ (List.mem_cons_of_mem _ (List.mem_cons_of_mem _ (List.Mem.head _)))))))))))) (kt_wfa (kt_wf1 (List.mem_cons_of_mem _ (List.mem_append_left _ (List.mem_append_left _ (List.mem_append_left _ (List.mem_append_left _ (List.mem_cons_of_mem _ (List.mem_cons_of_mem _ (List.mem_cons_of_mem _ (List.mem_cons_of_mem _ (List.mem_cons_of_mem _ (List.mem_cons_of_mem _ (List.mem_cons_of_mem _ (List.Mem.head _))))))))))))) kt_wf0) (fun _ h => kt_wp_X7_behindMove__X80 h))) kt_wg_X8_fieldOf
set_option maxRecDepth 20000 in
theorem gX7_behindMove_X8_fieldOf : GoodIn wsX7_behindMove (wsV RX7 157 RX8 yX8_fieldOf wsX8_fieldOf) := goodIn_app (a := [.methodLink RX7 157 yX8_fieldOf, .instanceMethod yX8_fieldOf, .selects RX8 yX8_fieldOf yX8_fieldOf, .initialized RX8]) (goodIn_sub (kt_wf1 (List.mem_cons_of_mem _ (List.mem_append_left _ (List.mem_append_left _ (List.mem_append_left _ (List.mem_append_left _ (List.mem_cons_of_mem _ (List.mem_cons_of_mem _ (List.Mem.head _)))))))) (kt_wf1 (List.mem_cons_of_mem _ (List.mem_append_left _ (List.mem_append_left _ (List.mem_append_left _ (List.mem_append_left _ (List.mem_cons_of_mem _ (List.mem_cons_of_mem _ (List.mem_cons_of_mem _ (List.Mem.head _))))))))) (kt_wf1 (List.mem_cons_of_mem _ (List.mem_append_left _ (List.mem_append_left _ (List.mem_append_left _ (List.mem_append_left _ (List.mem_cons_of_mem _ (List.mem_cons_of_mem _ (List.mem_cons_of_mem _ (List.mem_cons_of_mem _ (List.Mem.head _)))))))))) (kt_wf1 (List.mem_cons_of_mem _ (List.mem_append_left _ (List.mem_append_left _ (List.mem_append_left _ (List.mem_append_left _ (List.mem_cons_of_mem _ (List.mem_cons_of_mem _ (List.mem_cons_of_mem _ (List.mem_cons_of_mem _ (List.mem_cons_of_mem _ (List.Mem.head _))))))))))) kt_wf0)))) (by decide +kernel)) ggX7_behindMove_X8_fieldOf
theorem sX7_behindMove_0 : kt_sg cX7_behindMove 0 [21, 4, 43, 29, 182, 0, 157, 100, 42, 180, 0, 25, 29, 46, 104, 54, 5, 3, 54, 6, 21, 6, 42, 180, 0, 50, 180, 0, 174, 162, 0, 51, 42, 180, 0, 50, 180, 0, 177, 21, 6, 46, 54, 7, 21, 5, 42, 180, 0, 50, 180, 0, 78, 180, 0, 115, 43, 21, 7, 182, 0, 157, 100, 42] = true := by decide +kernel
theorem dX7_behindMove_0 : decode cX7_behindMove 0 = .ok (.iload 4, 2) := kt_o21 (j := 0) sX7_behindMove_0 rfl
theorem dX7_behindMove_2 : decode cX7_behindMove 2 = .ok (.aload_n 1, 1) := kt_o43 (j := 2) sX7_behindMove_0 rfl
theorem dX7_behindMove_3 : decode cX7_behindMove 3 = .ok (.iload_n 3, 1) := kt_o29 (j := 3) sX7_behindMove_0 rfl
theorem dX7_behindMove_4 : decode cX7_behindMove 4 = .ok (.invokevirtual 157, 3) := kt_o182 (j := 4) sX7_behindMove_0 rfl rfl
theorem dX7_behindMove_7 : decode cX7_behindMove 7 = .ok (.isub, 1) := kt_o100 (j := 7) sX7_behindMove_0 rfl
theorem dX7_behindMove_8 : decode cX7_behindMove 8 = .ok (.aload_n 0, 1) := kt_o42 (j := 8) sX7_behindMove_0 rfl
theorem dX7_behindMove_9 : decode cX7_behindMove 9 = .ok (.getfield 25, 3) := kt_o180 (j := 9) sX7_behindMove_0 rfl rfl
theorem dX7_behindMove_12 : decode cX7_behindMove 12 = .ok (.iload_n 3, 1) := kt_o29 (j := 12) sX7_behindMove_0 rfl
theorem dX7_behindMove_13 : decode cX7_behindMove 13 = .ok (.iaload, 1) := kt_o46 (j := 13) sX7_behindMove_0 rfl
theorem dX7_behindMove_14 : decode cX7_behindMove 14 = .ok (.imul, 1) := kt_o104 (j := 14) sX7_behindMove_0 rfl
theorem dX7_behindMove_15 : decode cX7_behindMove 15 = .ok (.istore 5, 2) := kt_o54 (j := 15) sX7_behindMove_0 rfl
theorem dX7_behindMove_17 : decode cX7_behindMove 17 = .ok (.iconst 0, 1) := kt_o3 (j := 17) sX7_behindMove_0 rfl
theorem dX7_behindMove_18 : decode cX7_behindMove 18 = .ok (.istore 6, 2) := kt_o54 (j := 18) sX7_behindMove_0 rfl
theorem dX7_behindMove_20 : decode cX7_behindMove 20 = .ok (.iload 6, 2) := kt_o21 (j := 20) sX7_behindMove_0 rfl
theorem dX7_behindMove_22 : decode cX7_behindMove 22 = .ok (.aload_n 0, 1) := kt_o42 (j := 22) sX7_behindMove_0 rfl
theorem dX7_behindMove_23 : decode cX7_behindMove 23 = .ok (.getfield 50, 3) := kt_o180 (j := 23) sX7_behindMove_0 rfl rfl
theorem dX7_behindMove_26 : decode cX7_behindMove 26 = .ok (.getfield 174, 3) := kt_o180 (j := 26) sX7_behindMove_0 rfl rfl
theorem dX7_behindMove_29 : decode cX7_behindMove 29 = .ok (.if_icmp .ge 51, 3) := kt_o162 (j := 29) sX7_behindMove_0 rfl (by decide +kernel)
theorem dX7_behindMove_32 : decode cX7_behindMove 32 = .ok (.aload_n 0, 1) := kt_o42 (j := 32) sX7_behindMove_0 rfl
theorem dX7_behindMove_33 : decode cX7_behindMove 33 = .ok (.getfield 50, 3) := kt_o180 (j := 33) sX7_behindMove_0 rfl rfl
theorem dX7_behindMove_36 : decode cX7_behindMove 36 = .ok (.getfield 177, 3) := kt_o180 (j := 36) sX7_behindMove_0 rfl rfl
theorem dX7_behindMove_39 : decode cX7_behindMove 39 = .ok (.iload 6, 2) := kt_o21 (j := 39) sX7_behindMove_0 rfl
theorem dX7_behindMove_41 : decode cX7_behindMove 41 = .ok (.iaload, 1) := kt_o46 (j := 41) sX7_behindMove_0 rfl
theorem dX7_behindMove_42 : decode cX7_behindMove 42 = .ok (.istore 7, 2) := kt_o54 (j := 42) sX7_behindMove_0 rfl
theorem dX7_behindMove_44 : decode cX7_behindMove 44 = .ok (.iload 5, 2) := kt_o21 (j := 44) sX7_behindMove_0 rfl
theorem dX7_behindMove_46 : decode cX7_behindMove 46 = .ok (.aload_n 0, 1) := kt_o42 (j := 46) sX7_behindMove_0 rfl
theorem dX7_behindMove_47 : decode cX7_behindMove 47 = .ok (.getfield 50, 3) := kt_o180 (j := 47) sX7_behindMove_0 rfl rfl
theorem dX7_behindMove_50 : decode cX7_behindMove 50 = .ok (.getfield 78, 3) := kt_o180 (j := 50) sX7_behindMove_0 rfl rfl
theorem dX7_behindMove_53 : decode cX7_behindMove 53 = .ok (.getfield 115, 3) := kt_o180 (j := 53) sX7_behindMove_0 rfl rfl
theorem dX7_behindMove_56 : decode cX7_behindMove 56 = .ok (.aload_n 1, 1) := kt_o43 (j := 56) sX7_behindMove_0 rfl
theorem dX7_behindMove_57 : decode cX7_behindMove 57 = .ok (.iload 7, 2) := kt_o21 (j := 57) sX7_behindMove_0 rfl
theorem dX7_behindMove_59 : decode cX7_behindMove 59 = .ok (.invokevirtual 157, 3) := kt_o182 (j := 59) sX7_behindMove_0 rfl rfl
theorem dX7_behindMove_62 : decode cX7_behindMove 62 = .ok (.isub, 1) := kt_o100 (j := 62) sX7_behindMove_0 rfl
theorem dX7_behindMove_63 : decode cX7_behindMove 63 = .ok (.aload_n 0, 1) := kt_o42 (j := 63) sX7_behindMove_0 rfl
theorem sX7_behindMove_64 : kt_sg cX7_behindMove 64 [180, 0, 25, 21, 7, 46, 104, 96, 54, 5, 132, 6, 1, 167, 255, 199, 28, 5, 21, 5, 104, 96, 4, 96, 5, 43, 180, 0, 125, 104, 100, 172] = true := by decide +kernel
theorem dX7_behindMove_64 : decode cX7_behindMove 64 = .ok (.getfield 25, 3) := kt_o180 (j := 0) sX7_behindMove_64 rfl rfl
theorem dX7_behindMove_67 : decode cX7_behindMove 67 = .ok (.iload 7, 2) := kt_o21 (j := 3) sX7_behindMove_64 rfl
theorem dX7_behindMove_69 : decode cX7_behindMove 69 = .ok (.iaload, 1) := kt_o46 (j := 5) sX7_behindMove_64 rfl
theorem dX7_behindMove_70 : decode cX7_behindMove 70 = .ok (.imul, 1) := kt_o104 (j := 6) sX7_behindMove_64 rfl
theorem dX7_behindMove_71 : decode cX7_behindMove 71 = .ok (.iadd, 1) := kt_o96 (j := 7) sX7_behindMove_64 rfl
theorem dX7_behindMove_72 : decode cX7_behindMove 72 = .ok (.istore 5, 2) := kt_o54 (j := 8) sX7_behindMove_64 rfl
theorem dX7_behindMove_74 : decode cX7_behindMove 74 = .ok (.iinc 6 1, 3) := kt_o132 (j := 10) sX7_behindMove_64 rfl (by decide +kernel)
theorem dX7_behindMove_77 : decode cX7_behindMove 77 = .ok (.goto (-57), 3) := kt_o167 (j := 13) sX7_behindMove_64 rfl (by decide +kernel)
theorem dX7_behindMove_80 : decode cX7_behindMove 80 = .ok (.iload_n 2, 1) := kt_o28 (j := 16) sX7_behindMove_64 rfl
theorem dX7_behindMove_81 : decode cX7_behindMove 81 = .ok (.iconst 2, 1) := kt_o5 (j := 17) sX7_behindMove_64 rfl
theorem dX7_behindMove_82 : decode cX7_behindMove 82 = .ok (.iload 5, 2) := kt_o21 (j := 18) sX7_behindMove_64 rfl
theorem dX7_behindMove_84 : decode cX7_behindMove 84 = .ok (.imul, 1) := kt_o104 (j := 20) sX7_behindMove_64 rfl
theorem dX7_behindMove_85 : decode cX7_behindMove 85 = .ok (.iadd, 1) := kt_o96 (j := 21) sX7_behindMove_64 rfl
theorem dX7_behindMove_86 : decode cX7_behindMove 86 = .ok (.iconst 1, 1) := kt_o4 (j := 22) sX7_behindMove_64 rfl
theorem dX7_behindMove_87 : decode cX7_behindMove 87 = .ok (.iadd, 1) := kt_o96 (j := 23) sX7_behindMove_64 rfl
theorem dX7_behindMove_88 : decode cX7_behindMove 88 = .ok (.iconst 2, 1) := kt_o5 (j := 24) sX7_behindMove_64 rfl
theorem dX7_behindMove_89 : decode cX7_behindMove 89 = .ok (.aload_n 1, 1) := kt_o43 (j := 25) sX7_behindMove_64 rfl
theorem dX7_behindMove_90 : decode cX7_behindMove 90 = .ok (.getfield 125, 3) := kt_o180 (j := 26) sX7_behindMove_64 rfl rfl
theorem dX7_behindMove_93 : decode cX7_behindMove 93 = .ok (.imul, 1) := kt_o104 (j := 29) sX7_behindMove_64 rfl
theorem dX7_behindMove_94 : decode cX7_behindMove 94 = .ok (.isub, 1) := kt_o100 (j := 30) sX7_behindMove_64 rfl
theorem dX7_behindMove_95 : decode cX7_behindMove 95 = .ok (.ireturn, 1) := kt_o172 (j := 31) sX7_behindMove_64 rfl
theorem sX7_decide_0 : kt_sg cX7_decide 0 [42, 180, 0, 100, 42, 180, 0, 47, 190, 161, 0, 4, 177, 42, 180, 0, 38, 27, 28, 79, 42, 180, 0, 41, 27, 29, 79, 42, 180, 0, 47, 42, 180, 0, 100, 27, 79, 42, 89, 180, 0, 100, 4, 96, 181, 0, 100, 177] = true := by decide +kernel
theorem dX7_decide_0 : decode cX7_decide 0 = .ok (.aload_n 0, 1) := kt_o42 (j := 0) sX7_decide_0 rfl
theorem dX7_decide_1 : decode cX7_decide 1 = .ok (.getfield 100, 3) := kt_o180 (j := 1) sX7_decide_0 rfl rfl
theorem dX7_decide_4 : decode cX7_decide 4 = .ok (.aload_n 0, 1) := kt_o42 (j := 4) sX7_decide_0 rfl
theorem dX7_decide_5 : decode cX7_decide 5 = .ok (.getfield 47, 3) := kt_o180 (j := 5) sX7_decide_0 rfl rfl
theorem dX7_decide_8 : decode cX7_decide 8 = .ok (.arraylength, 1) := kt_o190 (j := 8) sX7_decide_0 rfl
theorem dX7_decide_9 : decode cX7_decide 9 = .ok (.if_icmp .lt 4, 3) := kt_o161 (j := 9) sX7_decide_0 rfl (by decide +kernel)
theorem dX7_decide_12 : decode cX7_decide 12 = .ok (.return_, 1) := kt_o177 (j := 12) sX7_decide_0 rfl
theorem dX7_decide_13 : decode cX7_decide 13 = .ok (.aload_n 0, 1) := kt_o42 (j := 13) sX7_decide_0 rfl
theorem dX7_decide_14 : decode cX7_decide 14 = .ok (.getfield 38, 3) := kt_o180 (j := 14) sX7_decide_0 rfl rfl
theorem dX7_decide_17 : decode cX7_decide 17 = .ok (.iload_n 1, 1) := kt_o27 (j := 17) sX7_decide_0 rfl
theorem dX7_decide_18 : decode cX7_decide 18 = .ok (.iload_n 2, 1) := kt_o28 (j := 18) sX7_decide_0 rfl
theorem dX7_decide_19 : decode cX7_decide 19 = .ok (.iastore, 1) := kt_o79 (j := 19) sX7_decide_0 rfl
theorem dX7_decide_20 : decode cX7_decide 20 = .ok (.aload_n 0, 1) := kt_o42 (j := 20) sX7_decide_0 rfl
theorem dX7_decide_21 : decode cX7_decide 21 = .ok (.getfield 41, 3) := kt_o180 (j := 21) sX7_decide_0 rfl rfl
theorem dX7_decide_24 : decode cX7_decide 24 = .ok (.iload_n 1, 1) := kt_o27 (j := 24) sX7_decide_0 rfl
theorem dX7_decide_25 : decode cX7_decide 25 = .ok (.iload_n 3, 1) := kt_o29 (j := 25) sX7_decide_0 rfl
theorem dX7_decide_26 : decode cX7_decide 26 = .ok (.iastore, 1) := kt_o79 (j := 26) sX7_decide_0 rfl
theorem dX7_decide_27 : decode cX7_decide 27 = .ok (.aload_n 0, 1) := kt_o42 (j := 27) sX7_decide_0 rfl
theorem dX7_decide_28 : decode cX7_decide 28 = .ok (.getfield 47, 3) := kt_o180 (j := 28) sX7_decide_0 rfl rfl
theorem dX7_decide_31 : decode cX7_decide 31 = .ok (.aload_n 0, 1) := kt_o42 (j := 31) sX7_decide_0 rfl
theorem dX7_decide_32 : decode cX7_decide 32 = .ok (.getfield 100, 3) := kt_o180 (j := 32) sX7_decide_0 rfl rfl
theorem dX7_decide_35 : decode cX7_decide 35 = .ok (.iload_n 1, 1) := kt_o27 (j := 35) sX7_decide_0 rfl
theorem dX7_decide_36 : decode cX7_decide 36 = .ok (.iastore, 1) := kt_o79 (j := 36) sX7_decide_0 rfl
theorem dX7_decide_37 : decode cX7_decide 37 = .ok (.aload_n 0, 1) := kt_o42 (j := 37) sX7_decide_0 rfl
theorem dX7_decide_38 : decode cX7_decide 38 = .ok (.dup, 1) := kt_o89 (j := 38) sX7_decide_0 rfl
theorem dX7_decide_39 : decode cX7_decide 39 = .ok (.getfield 100, 3) := kt_o180 (j := 39) sX7_decide_0 rfl rfl
theorem dX7_decide_42 : decode cX7_decide 42 = .ok (.iconst 1, 1) := kt_o4 (j := 42) sX7_decide_0 rfl
theorem dX7_decide_43 : decode cX7_decide 43 = .ok (.iadd, 1) := kt_o96 (j := 43) sX7_decide_0 rfl
theorem dX7_decide_44 : decode cX7_decide 44 = .ok (.putfield 100, 3) := kt_o181 (j := 44) sX7_decide_0 rfl rfl
theorem dX7_decide_47 : decode cX7_decide 47 = .ok (.return_, 1) := kt_o177 (j := 47) sX7_decide_0 rfl
theorem kt_wp_X7_spread__X70 {w : Cond} (h : w ∈ wsX70) : w ∈ wsX7_spread := List.mem_cons_of_mem _ (List.mem_append_left _ (List.mem_append_right _ (h)))
theorem kt_wp_X7_spread__X20 {w : Cond} (h : w ∈ wsX20) : w ∈ wsX7_spread := List.mem_cons_of_mem _ (List.mem_append_right _ (h))
set_option maxRecDepth 20000 in
theorem kt_wg_X7_inform : wsX7_inform.all goodWord = true := by decide +kernel
set_option maxRecDepth 20000 in
theorem ggX7_spread_X7_inform : GoodIn wsX7_spread wsX7_inform := goodIn_sub (kt_wf1 (List.mem_cons_of_mem _ (List.mem_append_left _ (List.mem_append_left _ (List.mem_cons_of_mem _ (List.mem_cons_of_mem _ (List.mem_cons_of_mem _ (List.mem_cons_of_mem _ (List.mem_cons_of_mem _ (List.mem_cons_of_mem _ (List.mem_cons_of_mem _ (List.mem_cons_of_mem _ (List.mem_cons_of_mem _ (List.Mem.head _))))))))))))) (kt_wfa (kt_wf1 (List.mem_cons_of_mem _ (List.mem_append_left _ (List.mem_append_left _ (List.mem_cons_of_mem _ (List.mem_cons_of_mem _ (List.mem_cons_of_mem _ (List.Mem.head _))))))) (kt_wf1 (List.mem_cons_of_mem _ (List.mem_append_left _ (List.mem_append_left _ (List.mem_cons_of_mem _ (List.mem_cons_of_mem _ (List.mem_cons_of_mem _ (List.mem_cons_of_mem _ (List.mem_cons_of_mem _ (List.mem_cons_of_mem _ (List.mem_cons_of_mem _ (List.mem_cons_of_mem _ (List.mem_cons_of_mem _ (List.mem_cons_of_mem _ (List.Mem.head _)))))))))))))) (kt_wf1 (List.mem_cons_of_mem _ (List.mem_append_left _ (List.mem_append_left _ (List.mem_cons_of_mem _ (List.mem_cons_of_mem _ (List.mem_cons_of_mem _ (List.mem_cons_of_mem _ (List.mem_cons_of_mem _ (List.mem_cons_of_mem _ (List.mem_cons_of_mem _ (List.mem_cons_of_mem _ (List.mem_cons_of_mem _ (List.mem_cons_of_mem _ (List.mem_cons_of_mem _ (List.Mem.head _))))))))))))))) (kt_wf1 (List.mem_cons_of_mem _ (List.mem_append_left _ (List.mem_append_left _ (List.mem_cons_of_mem _ (List.mem_cons_of_mem _ (List.mem_cons_of_mem _ (List.mem_cons_of_mem _ (List.mem_cons_of_mem _ (List.mem_cons_of_mem _ (List.mem_cons_of_mem _ (List.mem_cons_of_mem _ (List.mem_cons_of_mem _ (List.mem_cons_of_mem _ (List.mem_cons_of_mem _ (List.mem_cons_of_mem _ (List.Mem.head _)))))))))))))))) (kt_wf1 (List.mem_cons_of_mem _ (List.mem_append_left _ (List.mem_append_left _ (List.mem_cons_of_mem _ (List.mem_cons_of_mem _ (List.mem_cons_of_mem _ (List.mem_cons_of_mem _ (List.mem_cons_of_mem _ (List.mem_cons_of_mem _ (List.mem_cons_of_mem _ (List.mem_cons_of_mem _ (List.mem_cons_of_mem _ (List.mem_cons_of_mem _ (List.mem_cons_of_mem _ (List.mem_cons_of_mem _ (List.mem_cons_of_mem _ (List.Mem.head _))))))))))))))))) (kt_wf1 (List.mem_cons_of_mem _ (List.mem_append_left _ (List.mem_append_left _ (List.mem_cons_of_mem _ (List.mem_cons_of_mem _ (List.mem_cons_of_mem _ (List.mem_cons_of_mem _ (List.mem_cons_of_mem _ (List.mem_cons_of_mem _ (List.mem_cons_of_mem _ (List.mem_cons_of_mem _ (List.Mem.head _)))))))))))) (kt_wf1 (List.mem_cons_of_mem _ (List.mem_append_left _ (List.mem_append_left _ (List.mem_cons_of_mem _ (List.mem_cons_of_mem _ (List.mem_cons_of_mem _ (List.mem_cons_of_mem _ (List.mem_cons_of_mem _ (List.mem_cons_of_mem _ (List.mem_cons_of_mem _ (List.mem_cons_of_mem _ (List.mem_cons_of_mem _ (List.mem_cons_of_mem _ (List.mem_cons_of_mem _ (List.mem_cons_of_mem _ (List.mem_cons_of_mem _ (List.mem_cons_of_mem _ (List.Mem.head _)))))))))))))))))) (kt_wf1 (List.mem_cons_of_mem _ (List.mem_append_left _ (List.mem_append_left _ (List.Mem.head _)))) (kt_wf1 (List.mem_cons_of_mem _ (List.mem_append_left _ (List.mem_append_left _ (List.mem_cons_of_mem _ (List.Mem.head _))))) (kt_wf1 (List.mem_cons_of_mem _ (List.mem_append_left _ (List.mem_append_left _ (List.mem_cons_of_mem _ (List.mem_cons_of_mem _ (List.mem_cons_of_mem _ (List.mem_cons_of_mem _ (List.Mem.head _)))))))) kt_wf0)))))))))) (fun _ h => kt_wp_X7_spread__X70 h))) kt_wg_X7_inform
set_option maxRecDepth 20000 in
theorem gX7_spread_X7_inform : GoodIn wsX7_spread (wsV RX7 189 RX7 yX7_inform wsX7_inform) := goodIn_app (a := [.methodLink RX7 189 yX7_inform, .instanceMethod yX7_inform, .selects RX7 yX7_inform yX7_inform, .initialized RX7]) (goodIn_sub (kt_wf1 (List.mem_cons_of_mem _ (List.mem_append_left _ (List.mem_append_left _ (List.mem_cons_of_mem _ (List.mem_cons_of_mem _ (List.mem_cons_of_mem _ (List.mem_cons_of_mem _ (List.mem_cons_of_mem _ (List.Mem.head _))))))))) (kt_wf1 (List.mem_cons_of_mem _ (List.mem_append_left _ (List.mem_append_left _ (List.mem_cons_of_mem _ (List.mem_cons_of_mem _ (List.mem_cons_of_mem _ (List.mem_cons_of_mem _ (List.mem_cons_of_mem _ (List.mem_cons_of_mem _ (List.Mem.head _)))))))))) (kt_wf1 (List.mem_cons_of_mem _ (List.mem_append_left _ (List.mem_append_left _ (List.mem_cons_of_mem _ (List.mem_cons_of_mem _ (List.mem_cons_of_mem _ (List.mem_cons_of_mem _ (List.mem_cons_of_mem _ (List.mem_cons_of_mem _ (List.mem_cons_of_mem _ (List.Mem.head _))))))))))) (kt_wf1 (List.mem_cons_of_mem _ (List.mem_append_left _ (List.mem_append_left _ (List.mem_cons_of_mem _ (List.mem_cons_of_mem _ (List.mem_cons_of_mem _ (List.mem_cons_of_mem _ (List.mem_cons_of_mem _ (List.mem_cons_of_mem _ (List.mem_cons_of_mem _ (List.mem_cons_of_mem _ (List.Mem.head _)))))))))))) kt_wf0)))) (by decide +kernel)) ggX7_spread_X7_inform
theorem sX7_spread_0 : kt_sg cX7_spread 0 [3, 60, 27, 42, 180, 0, 100, 162, 0, 98, 27, 42, 180, 0, 47, 190, 162, 0, 89, 42, 180, 0, 47, 27, 46, 61, 42, 180, 0, 21, 180, 0, 180, 28, 46, 62, 3, 54, 4, 21, 4, 42, 180, 0, 21, 180, 0, 183, 162, 0, 51, 29, 2, 159, 0, 46, 42, 42, 180, 0, 21, 180, 0, 186] = true := by decide +kernel
theorem dX7_spread_0 : decode cX7_spread 0 = .ok (.iconst 0, 1) := kt_o3 (j := 0) sX7_spread_0 rfl
theorem dX7_spread_1 : decode cX7_spread 1 = .ok (.istore_n 1, 1) := kt_o60 (j := 1) sX7_spread_0 rfl
theorem dX7_spread_2 : decode cX7_spread 2 = .ok (.iload_n 1, 1) := kt_o27 (j := 2) sX7_spread_0 rfl
theorem dX7_spread_3 : decode cX7_spread 3 = .ok (.aload_n 0, 1) := kt_o42 (j := 3) sX7_spread_0 rfl
theorem dX7_spread_4 : decode cX7_spread 4 = .ok (.getfield 100, 3) := kt_o180 (j := 4) sX7_spread_0 rfl rfl
theorem dX7_spread_7 : decode cX7_spread 7 = .ok (.if_icmp .ge 98, 3) := kt_o162 (j := 7) sX7_spread_0 rfl (by decide +kernel)
theorem dX7_spread_10 : decode cX7_spread 10 = .ok (.iload_n 1, 1) := kt_o27 (j := 10) sX7_spread_0 rfl
theorem dX7_spread_11 : decode cX7_spread 11 = .ok (.aload_n 0, 1) := kt_o42 (j := 11) sX7_spread_0 rfl
theorem dX7_spread_12 : decode cX7_spread 12 = .ok (.getfield 47, 3) := kt_o180 (j := 12) sX7_spread_0 rfl rfl
theorem dX7_spread_15 : decode cX7_spread 15 = .ok (.arraylength, 1) := kt_o190 (j := 15) sX7_spread_0 rfl
theorem dX7_spread_16 : decode cX7_spread 16 = .ok (.if_icmp .ge 89, 3) := kt_o162 (j := 16) sX7_spread_0 rfl (by decide +kernel)
theorem dX7_spread_19 : decode cX7_spread 19 = .ok (.aload_n 0, 1) := kt_o42 (j := 19) sX7_spread_0 rfl
theorem dX7_spread_20 : decode cX7_spread 20 = .ok (.getfield 47, 3) := kt_o180 (j := 20) sX7_spread_0 rfl rfl
theorem dX7_spread_23 : decode cX7_spread 23 = .ok (.iload_n 1, 1) := kt_o27 (j := 23) sX7_spread_0 rfl
theorem dX7_spread_24 : decode cX7_spread 24 = .ok (.iaload, 1) := kt_o46 (j := 24) sX7_spread_0 rfl
theorem dX7_spread_25 : decode cX7_spread 25 = .ok (.istore_n 2, 1) := kt_o61 (j := 25) sX7_spread_0 rfl
theorem dX7_spread_26 : decode cX7_spread 26 = .ok (.aload_n 0, 1) := kt_o42 (j := 26) sX7_spread_0 rfl
theorem dX7_spread_27 : decode cX7_spread 27 = .ok (.getfield 21, 3) := kt_o180 (j := 27) sX7_spread_0 rfl rfl
theorem dX7_spread_30 : decode cX7_spread 30 = .ok (.getfield 180, 3) := kt_o180 (j := 30) sX7_spread_0 rfl rfl
theorem dX7_spread_33 : decode cX7_spread 33 = .ok (.iload_n 2, 1) := kt_o28 (j := 33) sX7_spread_0 rfl
theorem dX7_spread_34 : decode cX7_spread 34 = .ok (.iaload, 1) := kt_o46 (j := 34) sX7_spread_0 rfl
theorem dX7_spread_35 : decode cX7_spread 35 = .ok (.istore_n 3, 1) := kt_o62 (j := 35) sX7_spread_0 rfl
theorem dX7_spread_36 : decode cX7_spread 36 = .ok (.iconst 0, 1) := kt_o3 (j := 36) sX7_spread_0 rfl
theorem dX7_spread_37 : decode cX7_spread 37 = .ok (.istore 4, 2) := kt_o54 (j := 37) sX7_spread_0 rfl
theorem dX7_spread_39 : decode cX7_spread 39 = .ok (.iload 4, 2) := kt_o21 (j := 39) sX7_spread_0 rfl
theorem dX7_spread_41 : decode cX7_spread 41 = .ok (.aload_n 0, 1) := kt_o42 (j := 41) sX7_spread_0 rfl
theorem dX7_spread_42 : decode cX7_spread 42 = .ok (.getfield 21, 3) := kt_o180 (j := 42) sX7_spread_0 rfl rfl
theorem dX7_spread_45 : decode cX7_spread 45 = .ok (.getfield 183, 3) := kt_o180 (j := 45) sX7_spread_0 rfl rfl
theorem dX7_spread_48 : decode cX7_spread 48 = .ok (.if_icmp .ge 51, 3) := kt_o162 (j := 48) sX7_spread_0 rfl (by decide +kernel)
theorem dX7_spread_51 : decode cX7_spread 51 = .ok (.iload_n 3, 1) := kt_o29 (j := 51) sX7_spread_0 rfl
theorem dX7_spread_52 : decode cX7_spread 52 = .ok (.iconst (-1), 1) := kt_o2 (j := 52) sX7_spread_0 rfl
theorem dX7_spread_53 : decode cX7_spread 53 = .ok (.if_icmp .eq 46, 3) := kt_o159 (j := 53) sX7_spread_0 rfl (by decide +kernel)
theorem dX7_spread_56 : decode cX7_spread 56 = .ok (.aload_n 0, 1) := kt_o42 (j := 56) sX7_spread_0 rfl
theorem dX7_spread_57 : decode cX7_spread 57 = .ok (.aload_n 0, 1) := kt_o42 (j := 57) sX7_spread_0 rfl
theorem dX7_spread_58 : decode cX7_spread 58 = .ok (.getfield 21, 3) := kt_o180 (j := 58) sX7_spread_0 rfl rfl
theorem dX7_spread_61 : decode cX7_spread 61 = .ok (.getfield 186, 3) := kt_o180 (j := 61) sX7_spread_0 rfl rfl
theorem sX7_spread_64 : kt_sg cX7_spread 64 [29, 46, 42, 180, 0, 38, 28, 46, 42, 180, 0, 41, 28, 46, 4, 96, 182, 0, 189, 42, 180, 0, 21, 180, 0, 192, 29, 46, 62, 132, 4, 1, 167, 255, 199, 132, 1, 1, 167, 255, 156, 177] = true := by decide +kernel
theorem dX7_spread_64 : decode cX7_spread 64 = .ok (.iload_n 3, 1) := kt_o29 (j := 0) sX7_spread_64 rfl
theorem dX7_spread_65 : decode cX7_spread 65 = .ok (.iaload, 1) := kt_o46 (j := 1) sX7_spread_64 rfl
theorem dX7_spread_66 : decode cX7_spread 66 = .ok (.aload_n 0, 1) := kt_o42 (j := 2) sX7_spread_64 rfl
theorem dX7_spread_67 : decode cX7_spread 67 = .ok (.getfield 38, 3) := kt_o180 (j := 3) sX7_spread_64 rfl rfl
theorem dX7_spread_70 : decode cX7_spread 70 = .ok (.iload_n 2, 1) := kt_o28 (j := 6) sX7_spread_64 rfl
theorem dX7_spread_71 : decode cX7_spread 71 = .ok (.iaload, 1) := kt_o46 (j := 7) sX7_spread_64 rfl
theorem dX7_spread_72 : decode cX7_spread 72 = .ok (.aload_n 0, 1) := kt_o42 (j := 8) sX7_spread_64 rfl
theorem dX7_spread_73 : decode cX7_spread 73 = .ok (.getfield 41, 3) := kt_o180 (j := 9) sX7_spread_64 rfl rfl
theorem dX7_spread_76 : decode cX7_spread 76 = .ok (.iload_n 2, 1) := kt_o28 (j := 12) sX7_spread_64 rfl
theorem dX7_spread_77 : decode cX7_spread 77 = .ok (.iaload, 1) := kt_o46 (j := 13) sX7_spread_64 rfl
theorem dX7_spread_78 : decode cX7_spread 78 = .ok (.iconst 1, 1) := kt_o4 (j := 14) sX7_spread_64 rfl
theorem dX7_spread_79 : decode cX7_spread 79 = .ok (.iadd, 1) := kt_o96 (j := 15) sX7_spread_64 rfl
theorem dX7_spread_80 : decode cX7_spread 80 = .ok (.invokevirtual 189, 3) := kt_o182 (j := 16) sX7_spread_64 rfl rfl
theorem dX7_spread_83 : decode cX7_spread 83 = .ok (.aload_n 0, 1) := kt_o42 (j := 19) sX7_spread_64 rfl
theorem dX7_spread_84 : decode cX7_spread 84 = .ok (.getfield 21, 3) := kt_o180 (j := 20) sX7_spread_64 rfl rfl
theorem dX7_spread_87 : decode cX7_spread 87 = .ok (.getfield 192, 3) := kt_o180 (j := 23) sX7_spread_64 rfl rfl
theorem dX7_spread_90 : decode cX7_spread 90 = .ok (.iload_n 3, 1) := kt_o29 (j := 26) sX7_spread_64 rfl
theorem dX7_spread_91 : decode cX7_spread 91 = .ok (.iaload, 1) := kt_o46 (j := 27) sX7_spread_64 rfl
theorem dX7_spread_92 : decode cX7_spread 92 = .ok (.istore_n 3, 1) := kt_o62 (j := 28) sX7_spread_64 rfl
theorem dX7_spread_93 : decode cX7_spread 93 = .ok (.iinc 4 1, 3) := kt_o132 (j := 29) sX7_spread_64 rfl (by decide +kernel)
theorem dX7_spread_96 : decode cX7_spread 96 = .ok (.goto (-57), 3) := kt_o167 (j := 32) sX7_spread_64 rfl (by decide +kernel)
theorem dX7_spread_99 : decode cX7_spread 99 = .ok (.iinc 1 1, 3) := kt_o132 (j := 35) sX7_spread_64 rfl (by decide +kernel)
theorem dX7_spread_102 : decode cX7_spread 102 = .ok (.goto (-100), 3) := kt_o167 (j := 38) sX7_spread_64 rfl (by decide +kernel)
theorem dX7_spread_105 : decode cX7_spread 105 = .ok (.return_, 1) := kt_o177 (j := 41) sX7_spread_64 rfl
theorem kt_wp_X7_inform__X70 {w : Cond} (h : w ∈ wsX70) : w ∈ wsX7_inform := List.mem_cons_of_mem _ (List.mem_append_right _ (h))
set_option maxRecDepth 20000 in
theorem ggX7_inform_X7_decide : GoodIn wsX7_inform wsX7_decide := goodIn_sub (kt_wf1 (List.mem_cons_of_mem _ (List.mem_append_left _ (List.mem_cons_of_mem _ (List.mem_cons_of_mem _ (List.mem_cons_of_mem _ (List.mem_cons_of_mem _ (List.mem_cons_of_mem _ (List.mem_cons_of_mem _ (List.Mem.head _))))))))) (kt_wfa (kt_wf1 (List.mem_cons_of_mem _ (List.mem_append_left _ (List.mem_cons_of_mem _ (List.mem_cons_of_mem _ (List.mem_cons_of_mem _ (List.mem_cons_of_mem _ (List.mem_cons_of_mem _ (List.mem_cons_of_mem _ (List.mem_cons_of_mem _ (List.Mem.head _)))))))))) (kt_wf1 (List.mem_cons_of_mem _ (List.mem_append_left _ (List.mem_cons_of_mem _ (List.mem_cons_of_mem _ (List.mem_cons_of_mem _ (List.mem_cons_of_mem _ (List.mem_cons_of_mem _ (List.mem_cons_of_mem _ (List.mem_cons_of_mem _ (List.mem_cons_of_mem _ (List.Mem.head _))))))))))) (kt_wf1 (List.mem_cons_of_mem _ (List.mem_append_left _ (List.Mem.head _))) (kt_wf1 (List.mem_cons_of_mem _ (List.mem_append_left _ (List.mem_cons_of_mem _ (List.mem_cons_of_mem _ (List.mem_cons_of_mem _ (List.mem_cons_of_mem _ (List.mem_cons_of_mem _ (List.mem_cons_of_mem _ (List.mem_cons_of_mem _ (List.mem_cons_of_mem _ (List.mem_cons_of_mem _ (List.Mem.head _)))))))))))) kt_wf0)))) (fun _ h => kt_wp_X7_inform__X70 h))) kt_wg_X7_decide
set_option maxRecDepth 20000 in
theorem gX7_inform_X7_decide : GoodIn wsX7_inform (wsV RX7 132 RX7 yX7_decide wsX7_decide) := goodIn_app (a := [.methodLink RX7 132 yX7_decide, .instanceMethod yX7_decide, .selects RX7 yX7_decide yX7_decide, .initialized RX7]) (goodIn_sub (kt_wf1 (List.mem_cons_of_mem _ (List.mem_append_left _ (List.mem_cons_of_mem _ (List.mem_cons_of_mem _ (List.Mem.head _))))) (kt_wf1 (List.mem_cons_of_mem _ (List.mem_append_left _ (List.mem_cons_of_mem _ (List.mem_cons_of_mem _ (List.mem_cons_of_mem _ (List.Mem.head _)))))) (kt_wf1 (List.mem_cons_of_mem _ (List.mem_append_left _ (List.mem_cons_of_mem _ (List.mem_cons_of_mem _ (List.mem_cons_of_mem _ (List.mem_cons_of_mem _ (List.Mem.head _))))))) (kt_wf1 (List.mem_cons_of_mem _ (List.mem_append_left _ (List.mem_cons_of_mem _ (List.mem_cons_of_mem _ (List.mem_cons_of_mem _ (List.mem_cons_of_mem _ (List.mem_cons_of_mem _ (List.Mem.head _)))))))) kt_wf0)))) (by decide +kernel)) ggX7_inform_X7_decide
theorem sX7_inform_0 : kt_sg cX7_inform 0 [42, 180, 0, 38, 27, 46, 5, 159, 0, 4, 177, 42, 180, 0, 44, 27, 92, 46, 4, 100, 79, 28, 27, 4, 126, 159, 0, 12, 42, 180, 0, 44, 27, 46, 154, 0, 10, 42, 27, 28, 29, 182, 0, 132, 177] = true := by decide +kernel
theorem dX7_inform_0 : decode cX7_inform 0 = .ok (.aload_n 0, 1) := kt_o42 (j := 0) sX7_inform_0 rfl
theorem dX7_inform_1 : decode cX7_inform 1 = .ok (.getfield 38, 3) := kt_o180 (j := 1) sX7_inform_0 rfl rfl
theorem dX7_inform_4 : decode cX7_inform 4 = .ok (.iload_n 1, 1) := kt_o27 (j := 4) sX7_inform_0 rfl
theorem dX7_inform_5 : decode cX7_inform 5 = .ok (.iaload, 1) := kt_o46 (j := 5) sX7_inform_0 rfl
theorem dX7_inform_6 : decode cX7_inform 6 = .ok (.iconst 2, 1) := kt_o5 (j := 6) sX7_inform_0 rfl
theorem dX7_inform_7 : decode cX7_inform 7 = .ok (.if_icmp .eq 4, 3) := kt_o159 (j := 7) sX7_inform_0 rfl (by decide +kernel)
theorem dX7_inform_10 : decode cX7_inform 10 = .ok (.return_, 1) := kt_o177 (j := 10) sX7_inform_0 rfl
theorem dX7_inform_11 : decode cX7_inform 11 = .ok (.aload_n 0, 1) := kt_o42 (j := 11) sX7_inform_0 rfl
theorem dX7_inform_12 : decode cX7_inform 12 = .ok (.getfield 44, 3) := kt_o180 (j := 12) sX7_inform_0 rfl rfl
theorem dX7_inform_15 : decode cX7_inform 15 = .ok (.iload_n 1, 1) := kt_o27 (j := 15) sX7_inform_0 rfl
theorem dX7_inform_16 : decode cX7_inform 16 = .ok (.dup2, 1) := kt_o92 (j := 16) sX7_inform_0 rfl
theorem dX7_inform_17 : decode cX7_inform 17 = .ok (.iaload, 1) := kt_o46 (j := 17) sX7_inform_0 rfl
theorem dX7_inform_18 : decode cX7_inform 18 = .ok (.iconst 1, 1) := kt_o4 (j := 18) sX7_inform_0 rfl
theorem dX7_inform_19 : decode cX7_inform 19 = .ok (.isub, 1) := kt_o100 (j := 19) sX7_inform_0 rfl
theorem dX7_inform_20 : decode cX7_inform 20 = .ok (.iastore, 1) := kt_o79 (j := 20) sX7_inform_0 rfl
theorem dX7_inform_21 : decode cX7_inform 21 = .ok (.iload_n 2, 1) := kt_o28 (j := 21) sX7_inform_0 rfl
theorem dX7_inform_22 : decode cX7_inform 22 = .ok (.iload_n 1, 1) := kt_o27 (j := 22) sX7_inform_0 rfl
theorem dX7_inform_23 : decode cX7_inform 23 = .ok (.iconst 1, 1) := kt_o4 (j := 23) sX7_inform_0 rfl
theorem dX7_inform_24 : decode cX7_inform 24 = .ok (.iand, 1) := kt_o126 (j := 24) sX7_inform_0 rfl
theorem dX7_inform_25 : decode cX7_inform 25 = .ok (.if_icmp .eq 12, 3) := kt_o159 (j := 25) sX7_inform_0 rfl (by decide +kernel)
theorem dX7_inform_28 : decode cX7_inform 28 = .ok (.aload_n 0, 1) := kt_o42 (j := 28) sX7_inform_0 rfl
theorem dX7_inform_29 : decode cX7_inform 29 = .ok (.getfield 44, 3) := kt_o180 (j := 29) sX7_inform_0 rfl rfl
theorem dX7_inform_32 : decode cX7_inform 32 = .ok (.iload_n 1, 1) := kt_o27 (j := 32) sX7_inform_0 rfl
theorem dX7_inform_33 : decode cX7_inform 33 = .ok (.iaload, 1) := kt_o46 (j := 33) sX7_inform_0 rfl
theorem dX7_inform_34 : decode cX7_inform 34 = .ok (.ifCond .ne 10, 3) := kt_o154 (j := 34) sX7_inform_0 rfl (by decide +kernel)
theorem dX7_inform_37 : decode cX7_inform 37 = .ok (.aload_n 0, 1) := kt_o42 (j := 37) sX7_inform_0 rfl
theorem dX7_inform_38 : decode cX7_inform 38 = .ok (.iload_n 1, 1) := kt_o27 (j := 38) sX7_inform_0 rfl
theorem dX7_inform_39 : decode cX7_inform 39 = .ok (.iload_n 2, 1) := kt_o28 (j := 39) sX7_inform_0 rfl
theorem dX7_inform_40 : decode cX7_inform 40 = .ok (.iload_n 3, 1) := kt_o29 (j := 40) sX7_inform_0 rfl
theorem dX7_inform_41 : decode cX7_inform 41 = .ok (.invokevirtual 132, 3) := kt_o182 (j := 41) sX7_inform_0 rfl rfl
theorem dX7_inform_44 : decode cX7_inform 44 = .ok (.return_, 1) := kt_o177 (j := 44) sX7_inform_0 rfl
theorem kt_wp_X7_tallyUp__X70 {w : Cond} (h : w ∈ wsX70) : w ∈ wsX7_tallyUp := List.mem_cons_of_mem _ (List.mem_append_right _ (h))
set_option maxRecDepth 20000 in
theorem ggX7_tallyUp_J7_fill_53178 : GoodIn wsX7_tallyUp wsJ7_fill_53178 := goodIn_sub (kt_wf1 (List.mem_cons_of_mem _ (List.mem_append_left _ (List.mem_cons_of_mem _ (List.mem_cons_of_mem _ (List.mem_cons_of_mem _ (List.mem_cons_of_mem _ (List.mem_cons_of_mem _ (List.mem_cons_of_mem _ (List.mem_cons_of_mem _ (List.mem_cons_of_mem _ (List.mem_cons_of_mem _ (List.mem_cons_of_mem _ (List.mem_cons_of_mem _ (List.mem_cons_of_mem _ (List.Mem.head _))))))))))))))) kt_wf0) kt_wg_J7_fill_53178
set_option maxRecDepth 20000 in
theorem gX7_tallyUp_J7_fill_53178 : GoodIn wsX7_tallyUp (va_wsS RX7 94 yJ7_fill_53178 wsJ7_fill_53178) := goodIn_app (goodIn_of _ (by decide +kernel)) ggX7_tallyUp_J7_fill_53178
theorem sX7_tallyUp_0 : kt_sg cX7_tallyUp 0 [42, 180, 0, 32, 3, 184, 0, 94, 42, 180, 0, 35, 2, 184, 0, 94, 3, 60, 27, 5, 42, 180, 0, 66, 104, 162, 0, 66, 42, 180, 0, 38, 27, 46, 61, 28, 2, 160, 0, 6, 167, 0, 45, 42, 180, 0, 32, 28, 5, 104, 27, 4, 126, 96, 92, 46, 4, 96, 79, 28, 5, 159, 0, 24] = true := by decide +kernel
theorem dX7_tallyUp_0 : decode cX7_tallyUp 0 = .ok (.aload_n 0, 1) := kt_o42 (j := 0) sX7_tallyUp_0 rfl
theorem dX7_tallyUp_1 : decode cX7_tallyUp 1 = .ok (.getfield 32, 3) := kt_o180 (j := 1) sX7_tallyUp_0 rfl rfl
theorem dX7_tallyUp_4 : decode cX7_tallyUp 4 = .ok (.iconst 0, 1) := kt_o3 (j := 4) sX7_tallyUp_0 rfl
theorem dX7_tallyUp_5 : decode cX7_tallyUp 5 = .ok (.invokestatic 94, 3) := kt_o184 (j := 5) sX7_tallyUp_0 rfl rfl
theorem dX7_tallyUp_8 : decode cX7_tallyUp 8 = .ok (.aload_n 0, 1) := kt_o42 (j := 8) sX7_tallyUp_0 rfl
theorem dX7_tallyUp_9 : decode cX7_tallyUp 9 = .ok (.getfield 35, 3) := kt_o180 (j := 9) sX7_tallyUp_0 rfl rfl
theorem dX7_tallyUp_12 : decode cX7_tallyUp 12 = .ok (.iconst (-1), 1) := kt_o2 (j := 12) sX7_tallyUp_0 rfl
theorem dX7_tallyUp_13 : decode cX7_tallyUp 13 = .ok (.invokestatic 94, 3) := kt_o184 (j := 13) sX7_tallyUp_0 rfl rfl
theorem dX7_tallyUp_16 : decode cX7_tallyUp 16 = .ok (.iconst 0, 1) := kt_o3 (j := 16) sX7_tallyUp_0 rfl
theorem dX7_tallyUp_17 : decode cX7_tallyUp 17 = .ok (.istore_n 1, 1) := kt_o60 (j := 17) sX7_tallyUp_0 rfl
theorem dX7_tallyUp_18 : decode cX7_tallyUp 18 = .ok (.iload_n 1, 1) := kt_o27 (j := 18) sX7_tallyUp_0 rfl
theorem dX7_tallyUp_19 : decode cX7_tallyUp 19 = .ok (.iconst 2, 1) := kt_o5 (j := 19) sX7_tallyUp_0 rfl
theorem dX7_tallyUp_20 : decode cX7_tallyUp 20 = .ok (.aload_n 0, 1) := kt_o42 (j := 20) sX7_tallyUp_0 rfl
theorem dX7_tallyUp_21 : decode cX7_tallyUp 21 = .ok (.getfield 66, 3) := kt_o180 (j := 21) sX7_tallyUp_0 rfl rfl
theorem dX7_tallyUp_24 : decode cX7_tallyUp 24 = .ok (.imul, 1) := kt_o104 (j := 24) sX7_tallyUp_0 rfl
theorem dX7_tallyUp_25 : decode cX7_tallyUp 25 = .ok (.if_icmp .ge 66, 3) := kt_o162 (j := 25) sX7_tallyUp_0 rfl (by decide +kernel)
theorem dX7_tallyUp_28 : decode cX7_tallyUp 28 = .ok (.aload_n 0, 1) := kt_o42 (j := 28) sX7_tallyUp_0 rfl
theorem dX7_tallyUp_29 : decode cX7_tallyUp 29 = .ok (.getfield 38, 3) := kt_o180 (j := 29) sX7_tallyUp_0 rfl rfl
theorem dX7_tallyUp_32 : decode cX7_tallyUp 32 = .ok (.iload_n 1, 1) := kt_o27 (j := 32) sX7_tallyUp_0 rfl
theorem dX7_tallyUp_33 : decode cX7_tallyUp 33 = .ok (.iaload, 1) := kt_o46 (j := 33) sX7_tallyUp_0 rfl
theorem dX7_tallyUp_34 : decode cX7_tallyUp 34 = .ok (.istore_n 2, 1) := kt_o61 (j := 34) sX7_tallyUp_0 rfl
theorem dX7_tallyUp_35 : decode cX7_tallyUp 35 = .ok (.iload_n 2, 1) := kt_o28 (j := 35) sX7_tallyUp_0 rfl
theorem dX7_tallyUp_36 : decode cX7_tallyUp 36 = .ok (.iconst (-1), 1) := kt_o2 (j := 36) sX7_tallyUp_0 rfl
theorem dX7_tallyUp_37 : decode cX7_tallyUp 37 = .ok (.if_icmp .ne 6, 3) := kt_o160 (j := 37) sX7_tallyUp_0 rfl (by decide +kernel)
theorem dX7_tallyUp_40 : decode cX7_tallyUp 40 = .ok (.goto 45, 3) := kt_o167 (j := 40) sX7_tallyUp_0 rfl (by decide +kernel)
theorem dX7_tallyUp_43 : decode cX7_tallyUp 43 = .ok (.aload_n 0, 1) := kt_o42 (j := 43) sX7_tallyUp_0 rfl
theorem dX7_tallyUp_44 : decode cX7_tallyUp 44 = .ok (.getfield 32, 3) := kt_o180 (j := 44) sX7_tallyUp_0 rfl rfl
theorem dX7_tallyUp_47 : decode cX7_tallyUp 47 = .ok (.iload_n 2, 1) := kt_o28 (j := 47) sX7_tallyUp_0 rfl
theorem dX7_tallyUp_48 : decode cX7_tallyUp 48 = .ok (.iconst 2, 1) := kt_o5 (j := 48) sX7_tallyUp_0 rfl
theorem dX7_tallyUp_49 : decode cX7_tallyUp 49 = .ok (.imul, 1) := kt_o104 (j := 49) sX7_tallyUp_0 rfl
theorem dX7_tallyUp_50 : decode cX7_tallyUp 50 = .ok (.iload_n 1, 1) := kt_o27 (j := 50) sX7_tallyUp_0 rfl
theorem dX7_tallyUp_51 : decode cX7_tallyUp 51 = .ok (.iconst 1, 1) := kt_o4 (j := 51) sX7_tallyUp_0 rfl
theorem dX7_tallyUp_52 : decode cX7_tallyUp 52 = .ok (.iand, 1) := kt_o126 (j := 52) sX7_tallyUp_0 rfl
theorem dX7_tallyUp_53 : decode cX7_tallyUp 53 = .ok (.iadd, 1) := kt_o96 (j := 53) sX7_tallyUp_0 rfl
theorem dX7_tallyUp_54 : decode cX7_tallyUp 54 = .ok (.dup2, 1) := kt_o92 (j := 54) sX7_tallyUp_0 rfl
theorem dX7_tallyUp_55 : decode cX7_tallyUp 55 = .ok (.iaload, 1) := kt_o46 (j := 55) sX7_tallyUp_0 rfl
theorem dX7_tallyUp_56 : decode cX7_tallyUp 56 = .ok (.iconst 1, 1) := kt_o4 (j := 56) sX7_tallyUp_0 rfl
theorem dX7_tallyUp_57 : decode cX7_tallyUp 57 = .ok (.iadd, 1) := kt_o96 (j := 57) sX7_tallyUp_0 rfl
theorem dX7_tallyUp_58 : decode cX7_tallyUp 58 = .ok (.iastore, 1) := kt_o79 (j := 58) sX7_tallyUp_0 rfl
theorem dX7_tallyUp_59 : decode cX7_tallyUp 59 = .ok (.iload_n 2, 1) := kt_o28 (j := 59) sX7_tallyUp_0 rfl
theorem dX7_tallyUp_60 : decode cX7_tallyUp 60 = .ok (.iconst 2, 1) := kt_o5 (j := 60) sX7_tallyUp_0 rfl
theorem dX7_tallyUp_61 : decode cX7_tallyUp 61 = .ok (.if_icmp .eq 24, 3) := kt_o159 (j := 61) sX7_tallyUp_0 rfl (by decide +kernel)
theorem sX7_tallyUp_64 : kt_sg cX7_tallyUp 64 [42, 180, 0, 35, 28, 42, 180, 0, 35, 28, 46, 42, 180, 0, 41, 27, 46, 184, 0, 195, 79, 132, 1, 1, 167, 255, 186, 177] = true := by decide +kernel
theorem dX7_tallyUp_64 : decode cX7_tallyUp 64 = .ok (.aload_n 0, 1) := kt_o42 (j := 0) sX7_tallyUp_64 rfl
theorem dX7_tallyUp_65 : decode cX7_tallyUp 65 = .ok (.getfield 35, 3) := kt_o180 (j := 1) sX7_tallyUp_64 rfl rfl
theorem dX7_tallyUp_68 : decode cX7_tallyUp 68 = .ok (.iload_n 2, 1) := kt_o28 (j := 4) sX7_tallyUp_64 rfl
theorem dX7_tallyUp_69 : decode cX7_tallyUp 69 = .ok (.aload_n 0, 1) := kt_o42 (j := 5) sX7_tallyUp_64 rfl
theorem dX7_tallyUp_70 : decode cX7_tallyUp 70 = .ok (.getfield 35, 3) := kt_o180 (j := 6) sX7_tallyUp_64 rfl rfl
theorem dX7_tallyUp_73 : decode cX7_tallyUp 73 = .ok (.iload_n 2, 1) := kt_o28 (j := 9) sX7_tallyUp_64 rfl
theorem dX7_tallyUp_74 : decode cX7_tallyUp 74 = .ok (.iaload, 1) := kt_o46 (j := 10) sX7_tallyUp_64 rfl
theorem dX7_tallyUp_75 : decode cX7_tallyUp 75 = .ok (.aload_n 0, 1) := kt_o42 (j := 11) sX7_tallyUp_64 rfl
theorem dX7_tallyUp_76 : decode cX7_tallyUp 76 = .ok (.getfield 41, 3) := kt_o180 (j := 12) sX7_tallyUp_64 rfl rfl
theorem dX7_tallyUp_79 : decode cX7_tallyUp 79 = .ok (.iload_n 1, 1) := kt_o27 (j := 15) sX7_tallyUp_64 rfl
theorem dX7_tallyUp_80 : decode cX7_tallyUp 80 = .ok (.iaload, 1) := kt_o46 (j := 16) sX7_tallyUp_64 rfl
theorem dX7_tallyUp_81 : decode cX7_tallyUp 81 = .ok (.invokestatic 195, 3) := kt_o184 (j := 17) sX7_tallyUp_64 rfl rfl
theorem dX7_tallyUp_84 : decode cX7_tallyUp 84 = .ok (.iastore, 1) := kt_o79 (j := 20) sX7_tallyUp_64 rfl
theorem dX7_tallyUp_85 : decode cX7_tallyUp 85 = .ok (.iinc 1 1, 3) := kt_o132 (j := 21) sX7_tallyUp_64 rfl (by decide +kernel)
theorem dX7_tallyUp_88 : decode cX7_tallyUp 88 = .ok (.goto (-70), 3) := kt_o167 (j := 24) sX7_tallyUp_64 rfl (by decide +kernel)
theorem dX7_tallyUp_91 : decode cX7_tallyUp 91 = .ok (.return_, 1) := kt_o177 (j := 27) sX7_tallyUp_64 rfl
theorem kt_wp_X7_indexOf__X70 {w : Cond} (h : w ∈ wsX70) : w ∈ wsX7_indexOf := List.mem_cons_of_mem _ (List.mem_append_left _ (List.mem_append_left _ (List.mem_append_left _ (List.mem_append_right _ (h)))))
theorem kt_wp_X7_indexOf__X60 {w : Cond} (h : w ∈ wsX60) : w ∈ wsX7_indexOf := List.mem_cons_of_mem _ (List.mem_append_left _ (List.mem_append_left _ (List.mem_append_right _ (h))))
theorem kt_wp_X7_indexOf__X00 {w : Cond} (h : w ∈ wsX00) : w ∈ wsX7_indexOf := List.mem_cons_of_mem _ (List.mem_append_left _ (List.mem_append_right _ (h)))
theorem kt_wp_X7_indexOf__X80 {w : Cond} (h : w ∈ wsX80) : w ∈ wsX7_indexOf := List.mem_cons_of_mem _ (List.mem_append_right _ (h))
set_option maxRecDepth 20000 in
theorem ggX7_indexOf_X8_fieldOf : GoodIn wsX7_indexOf wsX8_fieldOf := goodIn_sub (kt_wf1 (List.mem_cons_of_mem _ (List.mem_append_left _ (List.mem_append_left _ (List.mem_append_left _ (List.mem_append_left _ (List.mem_cons_of_mem _ (List.mem_cons_of_mem _ (List.mem_cons_of_mem _ (List.mem_cons_of_mem _ (List.mem_cons_of_mem _ (List.mem_cons_of_mem _ (List.mem_cons_of_mem _ (List.mem_cons_of_mem _ (List.Mem.head _)))))))))))))) (kt_wfa (kt_wf1 (List.mem_cons_of_mem _ (List.mem_append_left _ (List.mem_append_left _ (List.mem_append_left _ (List.mem_append_left _ (List.mem_cons_of_mem _ (List.mem_cons_of_mem _ (List.mem_cons_of_mem _ (List.mem_cons_of_mem _ (List.mem_cons_of_mem _ (List.mem_cons_of_mem _ (List.mem_cons_of_mem _ (List.mem_cons_of_mem _ (List.mem_cons_of_mem _ (List.Mem.head _))))))))))))))) kt_wf0) (fun _ h => kt_wp_X7_indexOf__X80 h))) kt_wg_X8_fieldOf
set_option maxRecDepth 20000 in
theorem gX7_indexOf_X8_fieldOf : GoodIn wsX7_indexOf (wsV RX7 157 RX8 yX8_fieldOf wsX8_fieldOf) := goodIn_app (a := [.methodLink RX7 157 yX8_fieldOf, .instanceMethod yX8_fieldOf, .selects RX8 yX8_fieldOf yX8_fieldOf, .initialized RX8]) (goodIn_sub (kt_wf1 (List.mem_cons_of_mem _ (List.mem_append_left _ (List.mem_append_left _ (List.mem_append_left _ (List.mem_append_left _ (List.mem_cons_of_mem _ (List.mem_cons_of_mem _ (List.mem_cons_of_mem _ (List.mem_cons_of_mem _ (List.Mem.head _)))))))))) (kt_wf1 (List.mem_cons_of_mem _ (List.mem_append_left _ (List.mem_append_left _ (List.mem_append_left _ (List.mem_append_left _ (List.mem_cons_of_mem _ (List.mem_cons_of_mem _ (List.mem_cons_of_mem _ (List.mem_cons_of_mem _ (List.mem_cons_of_mem _ (List.Mem.head _))))))))))) (kt_wf1 (List.mem_cons_of_mem _ (List.mem_append_left _ (List.mem_append_left _ (List.mem_append_left _ (List.mem_append_left _ (List.mem_cons_of_mem _ (List.mem_cons_of_mem _ (List.mem_cons_of_mem _ (List.mem_cons_of_mem _ (List.mem_cons_of_mem _ (List.mem_cons_of_mem _ (List.Mem.head _)))))))))))) (kt_wf1 (List.mem_cons_of_mem _ (List.mem_append_left _ (List.mem_append_left _ (List.mem_append_left _ (List.mem_append_left _ (List.mem_cons_of_mem _ (List.mem_cons_of_mem _ (List.mem_cons_of_mem _ (List.mem_cons_of_mem _ (List.mem_cons_of_mem _ (List.mem_cons_of_mem _ (List.mem_cons_of_mem _ (List.Mem.head _))))))))))))) kt_wf0)))) (by decide +kernel)) ggX7_indexOf_X8_fieldOf
theorem sX7_indexOf_0 : kt_sg cX7_indexOf 0 [42, 180, 0, 54, 154, 0, 5, 2, 172, 3, 61, 3, 62, 29, 42, 180, 0, 50, 180, 0, 73, 162, 0, 47, 43, 29, 182, 0, 157, 54, 4, 28, 21, 4, 2, 160, 0, 16, 42, 180, 0, 50, 180, 0, 78, 180, 0, 115, 167, 0, 5, 21, 4, 42, 180, 0, 25, 29, 46, 104, 96, 61, 132, 3, 1] = true := by decide +kernel
theorem dX7_indexOf_0 : decode cX7_indexOf 0 = .ok (.aload_n 0, 1) := kt_o42 (j := 0) sX7_indexOf_0 rfl
theorem dX7_indexOf_1 : decode cX7_indexOf 1 = .ok (.getfield 54, 3) := kt_o180 (j := 1) sX7_indexOf_0 rfl rfl
theorem dX7_indexOf_4 : decode cX7_indexOf 4 = .ok (.ifCond .ne 5, 3) := kt_o154 (j := 4) sX7_indexOf_0 rfl (by decide +kernel)
theorem dX7_indexOf_7 : decode cX7_indexOf 7 = .ok (.iconst (-1), 1) := kt_o2 (j := 7) sX7_indexOf_0 rfl
theorem dX7_indexOf_8 : decode cX7_indexOf 8 = .ok (.ireturn, 1) := kt_o172 (j := 8) sX7_indexOf_0 rfl
theorem dX7_indexOf_9 : decode cX7_indexOf 9 = .ok (.iconst 0, 1) := kt_o3 (j := 9) sX7_indexOf_0 rfl
theorem dX7_indexOf_10 : decode cX7_indexOf 10 = .ok (.istore_n 2, 1) := kt_o61 (j := 10) sX7_indexOf_0 rfl
theorem dX7_indexOf_11 : decode cX7_indexOf 11 = .ok (.iconst 0, 1) := kt_o3 (j := 11) sX7_indexOf_0 rfl
theorem dX7_indexOf_12 : decode cX7_indexOf 12 = .ok (.istore_n 3, 1) := kt_o62 (j := 12) sX7_indexOf_0 rfl
theorem dX7_indexOf_13 : decode cX7_indexOf 13 = .ok (.iload_n 3, 1) := kt_o29 (j := 13) sX7_indexOf_0 rfl
theorem dX7_indexOf_14 : decode cX7_indexOf 14 = .ok (.aload_n 0, 1) := kt_o42 (j := 14) sX7_indexOf_0 rfl
theorem dX7_indexOf_15 : decode cX7_indexOf 15 = .ok (.getfield 50, 3) := kt_o180 (j := 15) sX7_indexOf_0 rfl rfl
theorem dX7_indexOf_18 : decode cX7_indexOf 18 = .ok (.getfield 73, 3) := kt_o180 (j := 18) sX7_indexOf_0 rfl rfl
theorem dX7_indexOf_21 : decode cX7_indexOf 21 = .ok (.if_icmp .ge 47, 3) := kt_o162 (j := 21) sX7_indexOf_0 rfl (by decide +kernel)
theorem dX7_indexOf_24 : decode cX7_indexOf 24 = .ok (.aload_n 1, 1) := kt_o43 (j := 24) sX7_indexOf_0 rfl
theorem dX7_indexOf_25 : decode cX7_indexOf 25 = .ok (.iload_n 3, 1) := kt_o29 (j := 25) sX7_indexOf_0 rfl
theorem dX7_indexOf_26 : decode cX7_indexOf 26 = .ok (.invokevirtual 157, 3) := kt_o182 (j := 26) sX7_indexOf_0 rfl rfl
theorem dX7_indexOf_29 : decode cX7_indexOf 29 = .ok (.istore 4, 2) := kt_o54 (j := 29) sX7_indexOf_0 rfl
theorem dX7_indexOf_31 : decode cX7_indexOf 31 = .ok (.iload_n 2, 1) := kt_o28 (j := 31) sX7_indexOf_0 rfl
theorem dX7_indexOf_32 : decode cX7_indexOf 32 = .ok (.iload 4, 2) := kt_o21 (j := 32) sX7_indexOf_0 rfl
theorem dX7_indexOf_34 : decode cX7_indexOf 34 = .ok (.iconst (-1), 1) := kt_o2 (j := 34) sX7_indexOf_0 rfl
theorem dX7_indexOf_35 : decode cX7_indexOf 35 = .ok (.if_icmp .ne 16, 3) := kt_o160 (j := 35) sX7_indexOf_0 rfl (by decide +kernel)
theorem dX7_indexOf_38 : decode cX7_indexOf 38 = .ok (.aload_n 0, 1) := kt_o42 (j := 38) sX7_indexOf_0 rfl
theorem dX7_indexOf_39 : decode cX7_indexOf 39 = .ok (.getfield 50, 3) := kt_o180 (j := 39) sX7_indexOf_0 rfl rfl
theorem dX7_indexOf_42 : decode cX7_indexOf 42 = .ok (.getfield 78, 3) := kt_o180 (j := 42) sX7_indexOf_0 rfl rfl
theorem dX7_indexOf_45 : decode cX7_indexOf 45 = .ok (.getfield 115, 3) := kt_o180 (j := 45) sX7_indexOf_0 rfl rfl
theorem dX7_indexOf_48 : decode cX7_indexOf 48 = .ok (.goto 5, 3) := kt_o167 (j := 48) sX7_indexOf_0 rfl (by decide +kernel)
theorem dX7_indexOf_51 : decode cX7_indexOf 51 = .ok (.iload 4, 2) := kt_o21 (j := 51) sX7_indexOf_0 rfl
theorem dX7_indexOf_53 : decode cX7_indexOf 53 = .ok (.aload_n 0, 1) := kt_o42 (j := 53) sX7_indexOf_0 rfl
theorem dX7_indexOf_54 : decode cX7_indexOf 54 = .ok (.getfield 25, 3) := kt_o180 (j := 54) sX7_indexOf_0 rfl rfl
theorem dX7_indexOf_57 : decode cX7_indexOf 57 = .ok (.iload_n 3, 1) := kt_o29 (j := 57) sX7_indexOf_0 rfl
theorem dX7_indexOf_58 : decode cX7_indexOf 58 = .ok (.iaload, 1) := kt_o46 (j := 58) sX7_indexOf_0 rfl
theorem dX7_indexOf_59 : decode cX7_indexOf 59 = .ok (.imul, 1) := kt_o104 (j := 59) sX7_indexOf_0 rfl
theorem dX7_indexOf_60 : decode cX7_indexOf 60 = .ok (.iadd, 1) := kt_o96 (j := 60) sX7_indexOf_0 rfl
theorem dX7_indexOf_61 : decode cX7_indexOf 61 = .ok (.istore_n 2, 1) := kt_o61 (j := 61) sX7_indexOf_0 rfl
theorem dX7_indexOf_62 : decode cX7_indexOf 62 = .ok (.iinc 3 1, 3) := kt_o132 (j := 62) sX7_indexOf_0 rfl (by decide +kernel)
theorem sX7_indexOf_65 : kt_sg cX7_indexOf 65 [167, 255, 204, 5, 28, 104, 43, 180, 0, 125, 96, 62, 29, 155, 0, 17, 29, 5, 42, 180, 0, 66, 104, 162, 0, 7, 29, 167, 0, 4, 2, 172] = true := by decide +kernel
theorem dX7_indexOf_65 : decode cX7_indexOf 65 = .ok (.goto (-52), 3) := kt_o167 (j := 0) sX7_indexOf_65 rfl (by decide +kernel)
theorem dX7_indexOf_68 : decode cX7_indexOf 68 = .ok (.iconst 2, 1) := kt_o5 (j := 3) sX7_indexOf_65 rfl
theorem dX7_indexOf_69 : decode cX7_indexOf 69 = .ok (.iload_n 2, 1) := kt_o28 (j := 4) sX7_indexOf_65 rfl
theorem dX7_indexOf_70 : decode cX7_indexOf 70 = .ok (.imul, 1) := kt_o104 (j := 5) sX7_indexOf_65 rfl
theorem dX7_indexOf_71 : decode cX7_indexOf 71 = .ok (.aload_n 1, 1) := kt_o43 (j := 6) sX7_indexOf_65 rfl
theorem dX7_indexOf_72 : decode cX7_indexOf 72 = .ok (.getfield 125, 3) := kt_o180 (j := 7) sX7_indexOf_65 rfl rfl
theorem dX7_indexOf_75 : decode cX7_indexOf 75 = .ok (.iadd, 1) := kt_o96 (j := 10) sX7_indexOf_65 rfl
theorem dX7_indexOf_76 : decode cX7_indexOf 76 = .ok (.istore_n 3, 1) := kt_o62 (j := 11) sX7_indexOf_65 rfl
theorem dX7_indexOf_77 : decode cX7_indexOf 77 = .ok (.iload_n 3, 1) := kt_o29 (j := 12) sX7_indexOf_65 rfl
theorem dX7_indexOf_78 : decode cX7_indexOf 78 = .ok (.ifCond .lt 17, 3) := kt_o155 (j := 13) sX7_indexOf_65 rfl (by decide +kernel)
theorem dX7_indexOf_81 : decode cX7_indexOf 81 = .ok (.iload_n 3, 1) := kt_o29 (j := 16) sX7_indexOf_65 rfl
theorem dX7_indexOf_82 : decode cX7_indexOf 82 = .ok (.iconst 2, 1) := kt_o5 (j := 17) sX7_indexOf_65 rfl
theorem dX7_indexOf_83 : decode cX7_indexOf 83 = .ok (.aload_n 0, 1) := kt_o42 (j := 18) sX7_indexOf_65 rfl
theorem dX7_indexOf_84 : decode cX7_indexOf 84 = .ok (.getfield 66, 3) := kt_o180 (j := 19) sX7_indexOf_65 rfl rfl
theorem dX7_indexOf_87 : decode cX7_indexOf 87 = .ok (.imul, 1) := kt_o104 (j := 22) sX7_indexOf_65 rfl
theorem dX7_indexOf_88 : decode cX7_indexOf 88 = .ok (.if_icmp .ge 7, 3) := kt_o162 (j := 23) sX7_indexOf_65 rfl (by decide +kernel)
theorem dX7_indexOf_91 : decode cX7_indexOf 91 = .ok (.iload_n 3, 1) := kt_o29 (j := 26) sX7_indexOf_65 rfl
theorem dX7_indexOf_92 : decode cX7_indexOf 92 = .ok (.goto 4, 3) := kt_o167 (j := 27) sX7_indexOf_65 rfl (by decide +kernel)
theorem dX7_indexOf_95 : decode cX7_indexOf 95 = .ok (.iconst (-1), 1) := kt_o2 (j := 30) sX7_indexOf_65 rfl
theorem dX7_indexOf_96 : decode cX7_indexOf 96 = .ok (.ireturn, 1) := kt_o172 (j := 31) sX7_indexOf_65 rfl
theorem kt_wp_X7_worthOf__X70 {w : Cond} (h : w ∈ wsX70) : w ∈ wsX7_worthOf := List.mem_cons_of_mem _ (List.mem_append_left _ (List.mem_append_left _ (List.mem_append_left _ (List.mem_append_right _ (h)))))
theorem kt_wp_X7_worthOf__X60 {w : Cond} (h : w ∈ wsX60) : w ∈ wsX7_worthOf := List.mem_cons_of_mem _ (List.mem_append_left _ (List.mem_append_left _ (List.mem_append_right _ (h))))
theorem kt_wp_X7_worthOf__X00 {w : Cond} (h : w ∈ wsX00) : w ∈ wsX7_worthOf := List.mem_cons_of_mem _ (List.mem_append_left _ (List.mem_append_right _ (h)))
theorem kt_wp_X7_worthOf__X80 {w : Cond} (h : w ∈ wsX80) : w ∈ wsX7_worthOf := List.mem_cons_of_mem _ (List.mem_append_right _ (h))
set_option maxRecDepth 20000 in
theorem kt_wg_X7_indexOf : wsX7_indexOf.all goodWord = true := by decide +kernel
set_option maxRecDepth 20000 in
theorem ggX7_worthOf_X7_indexOf : GoodIn wsX7_worthOf wsX7_indexOf := goodIn_sub (kt_wf1 (List.mem_cons_of_mem _ (List.mem_append_left _ (List.mem_append_left _ (List.mem_append_left _ (List.mem_append_left _ (List.mem_cons_of_mem _ (List.mem_cons_of_mem _ (List.mem_cons_of_mem _ (List.mem_cons_of_mem _ (List.mem_cons_of_mem _ (List.Mem.head _))))))))))) (kt_wfa (kt_wfa (kt_wfa (kt_wfa (kt_wf1 (List.mem_cons_of_mem _ (List.mem_append_left _ (List.mem_append_left _ (List.mem_append_left _ (List.mem_append_left _ (List.mem_cons_of_mem _ (List.mem_cons_of_mem _ (List.mem_cons_of_mem _ (List.mem_cons_of_mem _ (List.mem_cons_of_mem _ (List.mem_cons_of_mem _ (List.Mem.head _)))))))))))) (kt_wf1 (List.mem_cons_of_mem _ (List.mem_append_left _ (List.mem_append_left _ (List.mem_append_left _ (List.mem_append_left _ (List.mem_cons_of_mem _ (List.mem_cons_of_mem _ (List.mem_cons_of_mem _ (List.mem_cons_of_mem _ (List.mem_cons_of_mem _ (List.mem_cons_of_mem _ (List.mem_cons_of_mem _ (List.Mem.head _))))))))))))) (kt_wf1 (List.mem_cons_of_mem _ (List.mem_append_left _ (List.mem_append_left _ (List.mem_append_left _ (List.mem_append_left _ (List.mem_cons_of_mem _ (List.mem_cons_of_mem _ (List.mem_cons_of_mem _ (List.mem_cons_of_mem _ (List.mem_cons_of_mem _ (List.mem_cons_of_mem _ (List.mem_cons_of_mem _ (List.mem_cons_of_mem _ (List.Mem.head _)))))))))))))) (kt_wf1 (List.mem_cons_of_mem _ (List.mem_append_left _ (List.mem_append_left _ (List.mem_append_left _ (List.mem_append_left _ (List.mem_cons_of_mem _ (List.mem_cons_of_mem _ (List.mem_cons_of_mem _ (List.mem_cons_of_mem _ (List.mem_cons_of_mem _ (List.mem_cons_of_mem _ (List.mem_cons_of_mem _ (List.mem_cons_of_mem _ (List.mem_cons_of_mem _ (List.Mem.head _))))))))))))))) (kt_wf1 (List.mem_cons_of_mem _ (List.mem_append_left _ (List.mem_append_left _ (List.mem_append_left _ (List.mem_append_left _ (List.mem_cons_of_mem _ (List.mem_cons_of_mem _ (List.mem_cons_of_mem _ (List.mem_cons_of_mem _ (List.mem_cons_of_mem _ (List.mem_cons_of_mem _ (List.mem_cons_of_mem _ (List.mem_cons_of_mem _ (List.mem_cons_of_mem _ (List.mem_cons_of_mem _ (List.Mem.head _)))))))))))))))) (kt_wf1 (List.mem_cons_of_mem _ (List.mem_append_left _ (List.mem_append_left _ (List.mem_append_left _ (List.mem_append_left _ (List.mem_cons_of_mem _ (List.mem_cons_of_mem _ (List.mem_cons_of_mem _ (List.mem_cons_of_mem _ (List.mem_cons_of_mem _ (List.mem_cons_of_mem _ (List.mem_cons_of_mem _ (List.mem_cons_of_mem _ (List.mem_cons_of_mem _ (List.mem_cons_of_mem _ (List.mem_cons_of_mem _ (List.Mem.head _))))))))))))))))) (kt_wf1 (List.mem_cons_of_mem _ (List.mem_append_left _ (List.mem_append_left _ (List.mem_append_left _ (List.mem_append_left _ (List.mem_cons_of_mem _ (List.mem_cons_of_mem _ (List.mem_cons_of_mem _ (List.mem_cons_of_mem _ (List.mem_cons_of_mem _ (List.mem_cons_of_mem _ (List.mem_cons_of_mem _ (List.mem_cons_of_mem _ (List.mem_cons_of_mem _ (List.mem_cons_of_mem _ (List.mem_cons_of_mem _ (List.mem_cons_of_mem _ (List.Mem.head _)))))))))))))))))) (kt_wf1 (List.mem_cons_of_mem _ (List.mem_append_left _ (List.mem_append_left _ (List.mem_append_left _ (List.mem_append_left _ (List.mem_cons_of_mem _ (List.mem_cons_of_mem _ (List.mem_cons_of_mem _ (List.mem_cons_of_mem _ (List.mem_cons_of_mem _ (List.mem_cons_of_mem _ (List.mem_cons_of_mem _ (List.mem_cons_of_mem _ (List.mem_cons_of_mem _ (List.mem_cons_of_mem _ (List.mem_cons_of_mem _ (List.mem_cons_of_mem _ (List.mem_cons_of_mem _ (List.Mem.head _))))))))))))))))))) (kt_wf1 (List.mem_cons_of_mem _ (List.mem_append_left _ (List.mem_append_left _ (List.mem_append_left _ (List.mem_append_left _ (List.mem_cons_of_mem _ (List.mem_cons_of_mem _ (List.mem_cons_of_mem _ (List.mem_cons_of_mem _ (List.mem_cons_of_mem _ (List.mem_cons_of_mem _ (List.mem_cons_of_mem _ (List.mem_cons_of_mem _ (List.mem_cons_of_mem _ (List.mem_cons_of_mem _ (List.mem_cons_of_mem _ (List.mem_cons_of_mem _ (List.mem_cons_of_mem _ (List.mem_cons_of_mem _ (List.Mem.head _)))))))))))))))))))) (kt_wf1 (List.mem_cons_of_mem _ (List.mem_append_left _ (List.mem_append_left _ (List.mem_append_left _ (List.mem_append_left _ (List.mem_cons_of_mem _ (List.mem_cons_of_mem _ (List.mem_cons_of_mem _ (List.mem_cons_of_mem _ (List.mem_cons_of_mem _ (List.mem_cons_of_mem _ (List.mem_cons_of_mem _ (List.mem_cons_of_mem _ (List.mem_cons_of_mem _ (List.mem_cons_of_mem _ (List.mem_cons_of_mem _ (List.mem_cons_of_mem _ (List.mem_cons_of_mem _ (List.mem_cons_of_mem _ (List.mem_cons_of_mem _ (List.Mem.head _))))))))))))))))))))) kt_wf0)))))))))) (fun _ h => kt_wp_X7_worthOf__X70 h)) (fun _ h => kt_wp_X7_worthOf__X60 h)) (fun _ h => kt_wp_X7_worthOf__X00 h)) (fun _ h => kt_wp_X7_worthOf__X80 h))) kt_wg_X7_indexOf
set_option maxRecDepth 20000 in
theorem gX7_worthOf_X7_indexOf : GoodIn wsX7_worthOf (wsV RX7 200 RX7 yX7_indexOf wsX7_indexOf) := goodIn_app (a := [.methodLink RX7 200 yX7_indexOf, .instanceMethod yX7_indexOf, .selects RX7 yX7_indexOf yX7_indexOf, .initialized RX7]) (goodIn_sub (kt_wf1 (List.mem_cons_of_mem _ (List.mem_append_left _ (List.mem_append_left _ (List.mem_append_left _ (List.mem_append_left _ (List.mem_cons_of_mem _ (List.Mem.head _))))))) (kt_wf1 (List.mem_cons_of_mem _ (List.mem_append_left _ (List.mem_append_left _ (List.mem_append_left _ (List.mem_append_left _ (List.mem_cons_of_mem _ (List.mem_cons_of_mem _ (List.Mem.head _)))))))) (kt_wf1 (List.mem_cons_of_mem _ (List.mem_append_left _ (List.mem_append_left _ (List.mem_append_left _ (List.mem_append_left _ (List.mem_cons_of_mem _ (List.mem_cons_of_mem _ (List.mem_cons_of_mem _ (List.Mem.head _))))))))) (kt_wf1 (List.mem_cons_of_mem _ (List.mem_append_left _ (List.mem_append_left _ (List.mem_append_left _ (List.mem_append_left _ (List.mem_cons_of_mem _ (List.mem_cons_of_mem _ (List.mem_cons_of_mem _ (List.mem_cons_of_mem _ (List.Mem.head _)))))))))) kt_wf0)))) (by decide +kernel)) ggX7_worthOf_X7_indexOf
theorem sX7_worthOf_0 : kt_sg cX7_worthOf 0 [42, 43, 182, 0, 200, 61, 28, 2, 160, 0, 7, 2, 167, 0, 9, 42, 180, 0, 38, 28, 46, 172] = true := by decide +kernel
theorem dX7_worthOf_0 : decode cX7_worthOf 0 = .ok (.aload_n 0, 1) := kt_o42 (j := 0) sX7_worthOf_0 rfl
theorem dX7_worthOf_1 : decode cX7_worthOf 1 = .ok (.aload_n 1, 1) := kt_o43 (j := 1) sX7_worthOf_0 rfl
theorem dX7_worthOf_2 : decode cX7_worthOf 2 = .ok (.invokevirtual 200, 3) := kt_o182 (j := 2) sX7_worthOf_0 rfl rfl
theorem dX7_worthOf_5 : decode cX7_worthOf 5 = .ok (.istore_n 2, 1) := kt_o61 (j := 5) sX7_worthOf_0 rfl
theorem dX7_worthOf_6 : decode cX7_worthOf 6 = .ok (.iload_n 2, 1) := kt_o28 (j := 6) sX7_worthOf_0 rfl
theorem dX7_worthOf_7 : decode cX7_worthOf 7 = .ok (.iconst (-1), 1) := kt_o2 (j := 7) sX7_worthOf_0 rfl
theorem dX7_worthOf_8 : decode cX7_worthOf 8 = .ok (.if_icmp .ne 7, 3) := kt_o160 (j := 8) sX7_worthOf_0 rfl (by decide +kernel)
theorem dX7_worthOf_11 : decode cX7_worthOf 11 = .ok (.iconst (-1), 1) := kt_o2 (j := 11) sX7_worthOf_0 rfl
theorem dX7_worthOf_12 : decode cX7_worthOf 12 = .ok (.goto 9, 3) := kt_o167 (j := 12) sX7_worthOf_0 rfl (by decide +kernel)
theorem dX7_worthOf_15 : decode cX7_worthOf 15 = .ok (.aload_n 0, 1) := kt_o42 (j := 15) sX7_worthOf_0 rfl
theorem dX7_worthOf_16 : decode cX7_worthOf 16 = .ok (.getfield 38, 3) := kt_o180 (j := 16) sX7_worthOf_0 rfl rfl
theorem dX7_worthOf_19 : decode cX7_worthOf 19 = .ok (.iload_n 2, 1) := kt_o28 (j := 19) sX7_worthOf_0 rfl
theorem dX7_worthOf_20 : decode cX7_worthOf 20 = .ok (.iaload, 1) := kt_o46 (j := 20) sX7_worthOf_0 rfl
theorem dX7_worthOf_21 : decode cX7_worthOf 21 = .ok (.ireturn, 1) := kt_o172 (j := 21) sX7_worthOf_0 rfl
theorem kt_wp_X7_deepOf__X70 {w : Cond} (h : w ∈ wsX70) : w ∈ wsX7_deepOf := List.mem_cons_of_mem _ (List.mem_append_left _ (List.mem_append_left _ (List.mem_append_left _ (List.mem_append_right _ (h)))))
theorem kt_wp_X7_deepOf__X60 {w : Cond} (h : w ∈ wsX60) : w ∈ wsX7_deepOf := List.mem_cons_of_mem _ (List.mem_append_left _ (List.mem_append_left _ (List.mem_append_right _ (h))))
theorem kt_wp_X7_deepOf__X00 {w : Cond} (h : w ∈ wsX00) : w ∈ wsX7_deepOf := List.mem_cons_of_mem _ (List.mem_append_left _ (List.mem_append_right _ (h)))
theorem kt_wp_X7_deepOf__X80 {w : Cond} (h : w ∈ wsX80) : w ∈ wsX7_deepOf := List.mem_cons_of_mem _ (List.mem_append_right _ (h))
set_option maxRecDepth 20000 in
theorem ggX7_deepOf_X7_indexOf : GoodIn wsX7_deepOf wsX7_indexOf := goodIn_sub (kt_wf1 (List.mem_cons_of_mem _ (List.mem_append_left _ (List.mem_append_left _ (List.mem_append_left _ (List.mem_append_left _ (List.mem_cons_of_mem _ (List.mem_cons_of_mem _ (List.mem_cons_of_mem _ (List.mem_cons_of_mem _ (List.mem_cons_of_mem _ (List.Mem.head _))))))))))) (kt_wfa (kt_wfa (kt_wfa (kt_wfa (kt_wf1 (List.mem_cons_of_mem _ (List.mem_append_left _ (List.mem_append_left _ (List.mem_append_left _ (List.mem_append_left _ (List.mem_cons_of_mem _ (List.mem_cons_of_mem _ (List.mem_cons_of_mem _ (List.mem_cons_of_mem _ (List.mem_cons_of_mem _ (List.mem_cons_of_mem _ (List.Mem.head _)))))))))))) (kt_wf1 (List.mem_cons_of_mem _ (List.mem_append_left _ (List.mem_append_left _ (List.mem_append_left _ (List.mem_append_left _ (List.mem_cons_of_mem _ (List.mem_cons_of_mem _ (List.mem_cons_of_mem _ (List.mem_cons_of_mem _ (List.mem_cons_of_mem _ (List.mem_cons_of_mem _ (List.mem_cons_of_mem _ (List.Mem.head _))))))))))))) (kt_wf1 (List.mem_cons_of_mem _ (List.mem_append_left _ (List.mem_append_left _ (List.mem_append_left _ (List.mem_append_left _ (List.mem_cons_of_mem _ (List.mem_cons_of_mem _ (List.mem_cons_of_mem _ (List.mem_cons_of_mem _ (List.mem_cons_of_mem _ (List.mem_cons_of_mem _ (List.mem_cons_of_mem _ (List.mem_cons_of_mem _ (List.Mem.head _)))))))))))))) (kt_wf1 (List.mem_cons_of_mem _ (List.mem_append_left _ (List.mem_append_left _ (List.mem_append_left _ (List.mem_append_left _ (List.mem_cons_of_mem _ (List.mem_cons_of_mem _ (List.mem_cons_of_mem _ (List.mem_cons_of_mem _ (List.mem_cons_of_mem _ (List.mem_cons_of_mem _ (List.mem_cons_of_mem _ (List.mem_cons_of_mem _ (List.mem_cons_of_mem _ (List.Mem.head _))))))))))))))) (kt_wf1 (List.mem_cons_of_mem _ (List.mem_append_left _ (List.mem_append_left _ (List.mem_append_left _ (List.mem_append_left _ (List.mem_cons_of_mem _ (List.mem_cons_of_mem _ (List.mem_cons_of_mem _ (List.mem_cons_of_mem _ (List.mem_cons_of_mem _ (List.mem_cons_of_mem _ (List.mem_cons_of_mem _ (List.mem_cons_of_mem _ (List.mem_cons_of_mem _ (List.mem_cons_of_mem _ (List.Mem.head _)))))))))))))))) (kt_wf1 (List.mem_cons_of_mem _ (List.mem_append_left _ (List.mem_append_left _ (List.mem_append_left _ (List.mem_append_left _ (List.mem_cons_of_mem _ (List.mem_cons_of_mem _ (List.mem_cons_of_mem _ (List.mem_cons_of_mem _ (List.mem_cons_of_mem _ (List.mem_cons_of_mem _ (List.mem_cons_of_mem _ (List.mem_cons_of_mem _ (List.mem_cons_of_mem _ (List.mem_cons_of_mem _ (List.mem_cons_of_mem _ (List.Mem.head _))))))))))))))))) (kt_wf1 (List.mem_cons_of_mem _ (List.mem_append_left _ (List.mem_append_left _ (List.mem_append_left _ (List.mem_append_left _ (List.mem_cons_of_mem _ (List.mem_cons_of_mem _ (List.mem_cons_of_mem _ (List.mem_cons_of_mem _ (List.mem_cons_of_mem _ (List.mem_cons_of_mem _ (List.mem_cons_of_mem _ (List.mem_cons_of_mem _ (List.mem_cons_of_mem _ (List.mem_cons_of_mem _ (List.mem_cons_of_mem _ (List.mem_cons_of_mem _ (List.Mem.head _)))))))))))))))))) (kt_wf1 (List.mem_cons_of_mem _ (List.mem_append_left _ (List.mem_append_left _ (List.mem_append_left _ (List.mem_append_left _ (List.mem_cons_of_mem _ (List.mem_cons_of_mem _ (List.mem_cons_of_mem _ (List.mem_cons_of_mem _ (List.mem_cons_of_mem _ (List.mem_cons_of_mem _ (List.mem_cons_of_mem _ (List.mem_cons_of_mem _ (List.mem_cons_of_mem _ (List.mem_cons_of_mem _ (List.mem_cons_of_mem _ (List.mem_cons_of_mem _ (List.mem_cons_of_mem _ (List.Mem.head _))))))))))))))))))) (kt_wf1 (List.mem_cons_of_mem _ (List.mem_append_left _ (List.mem_append_left _ (List.mem_append_left _ (List.mem_append_left _ (List.mem_cons_of_mem _ (List.mem_cons_of_mem _ (List.mem_cons_of_mem _ (List.mem_cons_of_mem _ (List.mem_cons_of_mem _ (List.mem_cons_of_mem _ (List.mem_cons_of_mem _ (List.mem_cons_of_mem _ (List.mem_cons_of_mem _ (List.mem_cons_of_mem _ (List.mem_cons_of_mem _ (List.mem_cons_of_mem _ (List.mem_cons_of_mem _ (List.mem_cons_of_mem _ (List.Mem.head _)))))))))))))))))))) (kt_wf1 (List.mem_cons_of_mem _ (List.mem_append_left _ (List.mem_append_left _ (List.mem_append_left _ (List.mem_append_left _ (List.mem_cons_of_mem _ (List.mem_cons_of_mem _ (List.mem_cons_of_mem _ (List.mem_cons_of_mem _ (List.mem_cons_of_mem _ (List.mem_cons_of_mem _ (List.mem_cons_of_mem _ (List.mem_cons_of_mem _ (List.mem_cons_of_mem _ (List.mem_cons_of_mem _ (List.mem_cons_of_mem _ (List.mem_cons_of_mem _ (List.mem_cons_of_mem _ (List.mem_cons_of_mem _ (List.mem_cons_of_mem _ (List.Mem.head _))))))))))))))))))))) kt_wf0)))))))))) (fun _ h => kt_wp_X7_deepOf__X70 h)) (fun _ h => kt_wp_X7_deepOf__X60 h)) (fun _ h => kt_wp_X7_deepOf__X00 h)) (fun _ h => kt_wp_X7_deepOf__X80 h))) kt_wg_X7_indexOf
set_option maxRecDepth 20000 in
theorem gX7_deepOf_X7_indexOf : GoodIn wsX7_deepOf (wsV RX7 200 RX7 yX7_indexOf wsX7_indexOf) := goodIn_app (a := [.methodLink RX7 200 yX7_indexOf, .instanceMethod yX7_indexOf, .selects RX7 yX7_indexOf yX7_indexOf, .initialized RX7]) (goodIn_sub (kt_wf1 (List.mem_cons_of_mem _ (List.mem_append_left _ (List.mem_append_left _ (List.mem_append_left _ (List.mem_append_left _ (List.mem_cons_of_mem _ (List.Mem.head _))))))) (kt_wf1 (List.mem_cons_of_mem _ (List.mem_append_left _ (List.mem_append_left _ (List.mem_append_left _ (List.mem_append_left _ (List.mem_cons_of_mem _ (List.mem_cons_of_mem _ (List.Mem.head _)))))))) (kt_wf1 (List.mem_cons_of_mem _ (List.mem_append_left _ (List.mem_append_left _ (List.mem_append_left _ (List.mem_append_left _ (List.mem_cons_of_mem _ (List.mem_cons_of_mem _ (List.mem_cons_of_mem _ (List.Mem.head _))))))))) (kt_wf1 (List.mem_cons_of_mem _ (List.mem_append_left _ (List.mem_append_left _ (List.mem_append_left _ (List.mem_append_left _ (List.mem_cons_of_mem _ (List.mem_cons_of_mem _ (List.mem_cons_of_mem _ (List.mem_cons_of_mem _ (List.Mem.head _)))))))))) kt_wf0)))) (by decide +kernel)) ggX7_deepOf_X7_indexOf
theorem sX7_deepOf_0 : kt_sg cX7_deepOf 0 [42, 43, 182, 0, 200, 61, 28, 2, 160, 0, 7, 2, 167, 0, 9, 42, 180, 0, 41, 28, 46, 172] = true := by decide +kernel
theorem dX7_deepOf_0 : decode cX7_deepOf 0 = .ok (.aload_n 0, 1) := kt_o42 (j := 0) sX7_deepOf_0 rfl
theorem dX7_deepOf_1 : decode cX7_deepOf 1 = .ok (.aload_n 1, 1) := kt_o43 (j := 1) sX7_deepOf_0 rfl
theorem dX7_deepOf_2 : decode cX7_deepOf 2 = .ok (.invokevirtual 200, 3) := kt_o182 (j := 2) sX7_deepOf_0 rfl rfl
theorem dX7_deepOf_5 : decode cX7_deepOf 5 = .ok (.istore_n 2, 1) := kt_o61 (j := 5) sX7_deepOf_0 rfl
theorem dX7_deepOf_6 : decode cX7_deepOf 6 = .ok (.iload_n 2, 1) := kt_o28 (j := 6) sX7_deepOf_0 rfl
theorem dX7_deepOf_7 : decode cX7_deepOf 7 = .ok (.iconst (-1), 1) := kt_o2 (j := 7) sX7_deepOf_0 rfl
theorem dX7_deepOf_8 : decode cX7_deepOf 8 = .ok (.if_icmp .ne 7, 3) := kt_o160 (j := 8) sX7_deepOf_0 rfl (by decide +kernel)
theorem dX7_deepOf_11 : decode cX7_deepOf 11 = .ok (.iconst (-1), 1) := kt_o2 (j := 11) sX7_deepOf_0 rfl
theorem dX7_deepOf_12 : decode cX7_deepOf 12 = .ok (.goto 9, 3) := kt_o167 (j := 12) sX7_deepOf_0 rfl (by decide +kernel)
theorem dX7_deepOf_15 : decode cX7_deepOf 15 = .ok (.aload_n 0, 1) := kt_o42 (j := 15) sX7_deepOf_0 rfl
theorem dX7_deepOf_16 : decode cX7_deepOf 16 = .ok (.getfield 41, 3) := kt_o180 (j := 16) sX7_deepOf_0 rfl rfl
theorem dX7_deepOf_19 : decode cX7_deepOf 19 = .ok (.iload_n 2, 1) := kt_o28 (j := 19) sX7_deepOf_0 rfl
theorem dX7_deepOf_20 : decode cX7_deepOf 20 = .ok (.iaload, 1) := kt_o46 (j := 20) sX7_deepOf_0 rfl
theorem dX7_deepOf_21 : decode cX7_deepOf 21 = .ok (.ireturn, 1) := kt_o172 (j := 21) sX7_deepOf_0 rfl
theorem kt_wp_X7_bestMove__X7_bestMove_r1 {w : Cond} (h : w ∈ wsX7_bestMove_r1) : w ∈ wsX7_bestMove := List.mem_cons_of_mem _ (List.mem_append_left _ (List.mem_append_left _ (List.mem_append_left _ (List.mem_append_left _ (List.mem_append_left _ (List.mem_append_left _ (h)))))))
theorem kt_wp_X7_bestMove__X7_bestMove_r2 {w : Cond} (h : w ∈ wsX7_bestMove_r2) : w ∈ wsX7_bestMove := List.mem_cons_of_mem _ (List.mem_append_left _ (List.mem_append_left _ (List.mem_append_left _ (List.mem_append_left _ (List.mem_append_left _ (List.mem_append_right _ (List.mem_append_left _ (h))))))))
theorem kt_wp_X7_bestMove__X7_bestMove_r3 {w : Cond} (h : w ∈ wsX7_bestMove_r3) : w ∈ wsX7_bestMove := List.mem_cons_of_mem _ (List.mem_append_left _ (List.mem_append_left _ (List.mem_append_left _ (List.mem_append_left _ (List.mem_append_left _ (List.mem_append_right _ (List.mem_append_right _ (List.mem_append_left _ (h)))))))))
theorem kt_wp_X7_bestMove__X7_bestMove_r4 {w : Cond} (h : w ∈ wsX7_bestMove_r4) : w ∈ wsX7_bestMove := List.mem_cons_of_mem _ (List.mem_append_left _ (List.mem_append_left _ (List.mem_append_left _ (List.mem_append_left _ (List.mem_append_left _ (List.mem_append_right _ (List.mem_append_right _ (List.mem_append_right _ (h)))))))))
theorem kt_wp_X7_bestMove__X70 {w : Cond} (h : w ∈ wsX70) : w ∈ wsX7_bestMove := List.mem_cons_of_mem _ (List.mem_append_left _ (List.mem_append_left _ (List.mem_append_left _ (List.mem_append_left _ (List.mem_append_right _ (h))))))
theorem kt_wp_X7_bestMove__X60 {w : Cond} (h : w ∈ wsX60) : w ∈ wsX7_bestMove := List.mem_cons_of_mem _ (List.mem_append_left _ (List.mem_append_left _ (List.mem_append_left _ (List.mem_append_right _ (h)))))
theorem kt_wp_X7_bestMove__X80 {w : Cond} (h : w ∈ wsX80) : w ∈ wsX7_bestMove := List.mem_cons_of_mem _ (List.mem_append_left _ (List.mem_append_left _ (List.mem_append_right _ (h))))
theorem kt_wp_X7_bestMove__X00 {w : Cond} (h : w ∈ wsX00) : w ∈ wsX7_bestMove := List.mem_cons_of_mem _ (List.mem_append_left _ (List.mem_append_right _ (h)))
theorem kt_wp_X7_bestMove__X10 {w : Cond} (h : w ∈ wsX10) : w ∈ wsX7_bestMove := List.mem_cons_of_mem _ (List.mem_append_right _ (h))
set_option maxRecDepth 20000 in
theorem ggX7_bestMove_X7_indexOf : GoodIn wsX7_bestMove wsX7_indexOf := goodIn_sub (kt_wf1 (kt_wp_X7_bestMove__X7_bestMove_r1 kt_wm7) (kt_wfa (kt_wfa (kt_wfa (kt_wfa (kt_wf1 (kt_wp_X7_bestMove__X7_bestMove_r1 kt_wm8) (kt_wf1 (kt_wp_X7_bestMove__X7_bestMove_r1 kt_wm2) (kt_wf1 (kt_wp_X7_bestMove__X7_bestMove_r1 kt_wm9) (kt_wf1 (kt_wp_X7_bestMove__X7_bestMove_r1 kt_wm10) (kt_wf1 (kt_wp_X7_bestMove__X7_bestMove_r1 kt_wm11) (kt_wf1 (kt_wp_X7_bestMove__X7_bestMove_r1 kt_wm12) (kt_wf1 (kt_wp_X7_bestMove__X7_bestMove_r1 kt_wm13) (kt_wf1 (kt_wp_X7_bestMove__X7_bestMove_r1 kt_wm14) (kt_wf1 (kt_wp_X7_bestMove__X7_bestMove_r1 kt_wm15) (kt_wf1 (kt_wp_X7_bestMove__X7_bestMove_r1 kt_wm16) kt_wf0)))))))))) (fun _ h => kt_wp_X7_bestMove__X70 h)) (fun _ h => kt_wp_X7_bestMove__X60 h)) (fun _ h => kt_wp_X7_bestMove__X00 h)) (fun _ h => kt_wp_X7_bestMove__X80 h))) kt_wg_X7_indexOf
set_option maxRecDepth 20000 in
theorem gX7_bestMove_X7_indexOf : GoodIn wsX7_bestMove (wsV RX7 200 RX7 yX7_indexOf wsX7_indexOf) := goodIn_app (a := [.methodLink RX7 200 yX7_indexOf, .instanceMethod yX7_indexOf, .selects RX7 yX7_indexOf yX7_indexOf, .initialized RX7]) (goodIn_sub (kt_wf1 (kt_wp_X7_bestMove__X7_bestMove_r1 kt_wm3) (kt_wf1 (kt_wp_X7_bestMove__X7_bestMove_r1 kt_wm4) (kt_wf1 (kt_wp_X7_bestMove__X7_bestMove_r1 kt_wm5) (kt_wf1 (kt_wp_X7_bestMove__X7_bestMove_r1 kt_wm6) kt_wf0)))) (by decide +kernel)) ggX7_bestMove_X7_indexOf
set_option maxRecDepth 20000 in
theorem kt_wg_X7_deepKept : wsX7_deepKept.all goodWord = true := by decide +kernel
set_option maxRecDepth 20000 in
theorem ggX7_bestMove_X7_deepKept : GoodIn wsX7_bestMove wsX7_deepKept := goodIn_sub (kt_wf1 (kt_wp_X7_bestMove__X7_bestMove_r1 kt_wm20) (kt_wfa (kt_wfa (kt_wfa (kt_wfa (kt_wfa (kt_wfa (kt_wf1 (kt_wp_X7_bestMove__X7_bestMove_r1 kt_wm2) (kt_wf1 (kt_wp_X7_bestMove__X7_bestMove_r1 kt_wm10) (kt_wf1 (kt_wp_X7_bestMove__X7_bestMove_r1 kt_wm0) (kt_wf1 (kt_wp_X7_bestMove__X7_bestMove_r1 kt_wm1) (kt_wf1 (kt_wp_X7_bestMove__X7_bestMove_r1 kt_wm21) (kt_wf1 (kt_wp_X7_bestMove__X7_bestMove_r1 kt_wm22) (kt_wf1 (kt_wp_X7_bestMove__X7_bestMove_r1 kt_wm23) (kt_wf1 (kt_wp_X7_bestMove__X7_bestMove_r2 kt_wm0) (kt_wf1 (kt_wp_X7_bestMove__X7_bestMove_r2 kt_wm1) (kt_wf1 (kt_wp_X7_bestMove__X7_bestMove_r2 kt_wm2) (kt_wf1 (kt_wp_X7_bestMove__X7_bestMove_r2 kt_wm3) (kt_wf1 (kt_wp_X7_bestMove__X7_bestMove_r2 kt_wm4) (kt_wf1 (kt_wp_X7_bestMove__X7_bestMove_r2 kt_wm5) (kt_wf1 (kt_wp_X7_bestMove__X7_bestMove_r2 kt_wm6) (kt_wf1 (kt_wp_X7_bestMove__X7_bestMove_r2 kt_wm7) (kt_wf1 (kt_wp_X7_bestMove__X7_bestMove_r2 kt_wm8) (kt_wf1 (kt_wp_X7_bestMove__X7_bestMove_r2 kt_wm9) (kt_wf1 (kt_wp_X7_bestMove__X7_bestMove_r2 kt_wm10) (kt_wf1 (kt_wp_X7_bestMove__X7_bestMove_r1 kt_wm12) (kt_wf1 (kt_wp_X7_bestMove__X7_bestMove_r1 kt_wm13) (kt_wf1 (kt_wp_X7_bestMove__X7_bestMove_r1 kt_wm14) (kt_wf1 (kt_wp_X7_bestMove__X7_bestMove_r1 kt_wm15) (kt_wf1 (kt_wp_X7_bestMove__X7_bestMove_r1 kt_wm16) (kt_wf1 (kt_wp_X7_bestMove__X7_bestMove_r2 kt_wm11) kt_wf0)))))))))))))))))))))))) (kt_wfa (kt_wf1 (kt_wp_X7_bestMove__X7_bestMove_r2 kt_wm12) (kt_wf1 (kt_wp_X7_bestMove__X7_bestMove_r2 kt_wm13) (kt_wf1 (kt_wp_X7_bestMove__X7_bestMove_r2 kt_wm14) (kt_wf1 (kt_wp_X7_bestMove__X7_bestMove_r2 kt_wm15) (kt_wf1 (kt_wp_X7_bestMove__X7_bestMove_r2 kt_wm16) (kt_wf1 (kt_wp_X7_bestMove__X7_bestMove_r2 kt_wm17) (kt_wf1 (kt_wp_X7_bestMove__X7_bestMove_r2 kt_wm18) (kt_wf1 (kt_wp_X7_bestMove__X7_bestMove_r2 kt_wm19) (kt_wf1 (kt_wp_X7_bestMove__X7_bestMove_r2 kt_wm20) (kt_wf1 (kt_wp_X7_bestMove__X7_bestMove_r2 kt_wm21) (kt_wf1 (kt_wp_X7_bestMove__X7_bestMove_r2 kt_wm22) (kt_wf1 (kt_wp_X7_bestMove__X7_bestMove_r2 kt_wm23) (kt_wf1 (kt_wp_X7_bestMove__X7_bestMove_r3 kt_wm0) (kt_wf1 (kt_wp_X7_bestMove__X7_bestMove_r3 kt_wm1) (kt_wf1 (kt_wp_X7_bestMove__X7_bestMove_r3 kt_wm2) (kt_wf1 (kt_wp_X7_bestMove__X7_bestMove_r1 kt_wm11) (kt_wf1 (kt_wp_X7_bestMove__X7_bestMove_r3 kt_wm3) (kt_wf1 (kt_wp_X7_bestMove__X7_bestMove_r3 kt_wm4) (kt_wf1 (kt_wp_X7_bestMove__X7_bestMove_r3 kt_wm5) (kt_wf1 (kt_wp_X7_bestMove__X7_bestMove_r3 kt_wm6) (kt_wf1 (kt_wp_X7_bestMove__X7_bestMove_r3 kt_wm7) (kt_wf1 (kt_wp_X7_bestMove__X7_bestMove_r3 kt_wm8) (kt_wf1 (kt_wp_X7_bestMove__X7_bestMove_r3 kt_wm9) (kt_wf1 (kt_wp_X7_bestMove__X7_bestMove_r3 kt_wm10) kt_wf0)))))))))))))))))))))))) (kt_wfa (kt_wf1 (kt_wp_X7_bestMove__X7_bestMove_r3 kt_wm11) (kt_wf1 (kt_wp_X7_bestMove__X7_bestMove_r3 kt_wm12) (kt_wf1 (kt_wp_X7_bestMove__X7_bestMove_r3 kt_wm13) (kt_wf1 (kt_wp_X7_bestMove__X7_bestMove_r3 kt_wm14) (kt_wf1 (kt_wp_X7_bestMove__X7_bestMove_r3 kt_wm15) (kt_wf1 (kt_wp_X7_bestMove__X7_bestMove_r3 kt_wm16) (kt_wf1 (kt_wp_X7_bestMove__X7_bestMove_r3 kt_wm17) (kt_wf1 (kt_wp_X7_bestMove__X7_bestMove_r3 kt_wm18) (kt_wf1 (kt_wp_X7_bestMove__X7_bestMove_r3 kt_wm19) (kt_wf1 (kt_wp_X7_bestMove__X7_bestMove_r3 kt_wm20) (kt_wf1 (kt_wp_X7_bestMove__X7_bestMove_r3 kt_wm21) (kt_wf1 (kt_wp_X7_bestMove__X7_bestMove_r3 kt_wm22) (kt_wf1 (kt_wp_X7_bestMove__X7_bestMove_r3 kt_wm23) (kt_wf1 (kt_wp_X7_bestMove__X7_bestMove_r4 kt_wm0) (kt_wf1 (kt_wp_X7_bestMove__X7_bestMove_r4 kt_wm1) (kt_wf1 (kt_wp_X7_bestMove__X7_bestMove_r4 kt_wm2) (kt_wf1 (kt_wp_X7_bestMove__X7_bestMove_r4 kt_wm3) (kt_wf1 (kt_wp_X7_bestMove__X7_bestMove_r4 kt_wm4) (kt_wf1 (kt_wp_X7_bestMove__X7_bestMove_r4 kt_wm5) (kt_wf1 (kt_wp_X7_bestMove__X7_bestMove_r4 kt_wm6) (kt_wf1 (kt_wp_X7_bestMove__X7_bestMove_r4 kt_wm7) (kt_wf1 (kt_wp_X7_bestMove__X7_bestMove_r4 kt_wm8) (kt_wf1 (kt_wp_X7_bestMove__X7_bestMove_r4 kt_wm9) (kt_wf1 (kt_wp_X7_bestMove__X7_bestMove_r4 kt_wm10) kt_wf0)))))))))))))))))))))))) (kt_wf1 (kt_wp_X7_bestMove__X7_bestMove_r4 kt_wm11) (kt_wf1 (kt_wp_X7_bestMove__X7_bestMove_r4 kt_wm12) (kt_wf1 (kt_wp_X7_bestMove__X7_bestMove_r1 kt_wm6) (kt_wf1 (kt_wp_X7_bestMove__X7_bestMove_r4 kt_wm13) (kt_wf1 (kt_wp_X7_bestMove__X7_bestMove_r1 kt_wm9) kt_wf0)))))))) (fun _ h => kt_wp_X7_bestMove__X70 h)) (fun _ h => kt_wp_X7_bestMove__X60 h)) (fun _ h => kt_wp_X7_bestMove__X80 h)) (fun _ h => kt_wp_X7_bestMove__X10 h)) (fun _ h => kt_wp_X7_bestMove__X00 h))) kt_wg_X7_deepKept
set_option maxRecDepth 20000 in
theorem gX7_bestMove_X7_deepKept : GoodIn wsX7_bestMove (wsV RX7 203 RX7 yX7_deepKept wsX7_deepKept) := goodIn_app (a := [.methodLink RX7 203 yX7_deepKept, .instanceMethod yX7_deepKept, .selects RX7 yX7_deepKept yX7_deepKept, .initialized RX7]) (goodIn_sub (kt_wf1 (kt_wp_X7_bestMove__X7_bestMove_r1 kt_wm17) (kt_wf1 (kt_wp_X7_bestMove__X7_bestMove_r1 kt_wm18) (kt_wf1 (kt_wp_X7_bestMove__X7_bestMove_r1 kt_wm19) (kt_wf1 (kt_wp_X7_bestMove__X7_bestMove_r1 kt_wm6) kt_wf0)))) (by decide +kernel)) ggX7_bestMove_X7_deepKept
theorem sX7_bestMove_0 : kt_sg cX7_bestMove 0 [42, 43, 182, 0, 200, 61, 28, 2, 159, 0, 22, 42, 180, 0, 38, 28, 46, 5, 159, 0, 14, 42, 180, 0, 41, 28, 46, 154, 0, 5, 2, 172, 2, 62, 2, 54, 4, 3, 54, 5, 21, 5, 16, 32, 42, 180, 0, 50, 180, 0, 73, 104, 162, 0, 84, 42, 43, 28, 21, 5, 182, 0, 203, 54, 6] = true := by decide +kernel
theorem dX7_bestMove_0 : decode cX7_bestMove 0 = .ok (.aload_n 0, 1) := kt_o42 (j := 0) sX7_bestMove_0 rfl
theorem dX7_bestMove_1 : decode cX7_bestMove 1 = .ok (.aload_n 1, 1) := kt_o43 (j := 1) sX7_bestMove_0 rfl
theorem dX7_bestMove_2 : decode cX7_bestMove 2 = .ok (.invokevirtual 200, 3) := kt_o182 (j := 2) sX7_bestMove_0 rfl rfl
theorem dX7_bestMove_5 : decode cX7_bestMove 5 = .ok (.istore_n 2, 1) := kt_o61 (j := 5) sX7_bestMove_0 rfl
theorem dX7_bestMove_6 : decode cX7_bestMove 6 = .ok (.iload_n 2, 1) := kt_o28 (j := 6) sX7_bestMove_0 rfl
theorem dX7_bestMove_7 : decode cX7_bestMove 7 = .ok (.iconst (-1), 1) := kt_o2 (j := 7) sX7_bestMove_0 rfl
theorem dX7_bestMove_8 : decode cX7_bestMove 8 = .ok (.if_icmp .eq 22, 3) := kt_o159 (j := 8) sX7_bestMove_0 rfl (by decide +kernel)
theorem dX7_bestMove_11 : decode cX7_bestMove 11 = .ok (.aload_n 0, 1) := kt_o42 (j := 11) sX7_bestMove_0 rfl
theorem dX7_bestMove_12 : decode cX7_bestMove 12 = .ok (.getfield 38, 3) := kt_o180 (j := 12) sX7_bestMove_0 rfl rfl
theorem dX7_bestMove_15 : decode cX7_bestMove 15 = .ok (.iload_n 2, 1) := kt_o28 (j := 15) sX7_bestMove_0 rfl
theorem dX7_bestMove_16 : decode cX7_bestMove 16 = .ok (.iaload, 1) := kt_o46 (j := 16) sX7_bestMove_0 rfl
theorem dX7_bestMove_17 : decode cX7_bestMove 17 = .ok (.iconst 2, 1) := kt_o5 (j := 17) sX7_bestMove_0 rfl
theorem dX7_bestMove_18 : decode cX7_bestMove 18 = .ok (.if_icmp .eq 14, 3) := kt_o159 (j := 18) sX7_bestMove_0 rfl (by decide +kernel)
theorem dX7_bestMove_21 : decode cX7_bestMove 21 = .ok (.aload_n 0, 1) := kt_o42 (j := 21) sX7_bestMove_0 rfl
theorem dX7_bestMove_22 : decode cX7_bestMove 22 = .ok (.getfield 41, 3) := kt_o180 (j := 22) sX7_bestMove_0 rfl rfl
theorem dX7_bestMove_25 : decode cX7_bestMove 25 = .ok (.iload_n 2, 1) := kt_o28 (j := 25) sX7_bestMove_0 rfl
theorem dX7_bestMove_26 : decode cX7_bestMove 26 = .ok (.iaload, 1) := kt_o46 (j := 26) sX7_bestMove_0 rfl
theorem dX7_bestMove_27 : decode cX7_bestMove 27 = .ok (.ifCond .ne 5, 3) := kt_o154 (j := 27) sX7_bestMove_0 rfl (by decide +kernel)
theorem dX7_bestMove_30 : decode cX7_bestMove 30 = .ok (.iconst (-1), 1) := kt_o2 (j := 30) sX7_bestMove_0 rfl
theorem dX7_bestMove_31 : decode cX7_bestMove 31 = .ok (.ireturn, 1) := kt_o172 (j := 31) sX7_bestMove_0 rfl
theorem dX7_bestMove_32 : decode cX7_bestMove 32 = .ok (.iconst (-1), 1) := kt_o2 (j := 32) sX7_bestMove_0 rfl
theorem dX7_bestMove_33 : decode cX7_bestMove 33 = .ok (.istore_n 3, 1) := kt_o62 (j := 33) sX7_bestMove_0 rfl
theorem dX7_bestMove_34 : decode cX7_bestMove 34 = .ok (.iconst (-1), 1) := kt_o2 (j := 34) sX7_bestMove_0 rfl
theorem dX7_bestMove_35 : decode cX7_bestMove 35 = .ok (.istore 4, 2) := kt_o54 (j := 35) sX7_bestMove_0 rfl
theorem dX7_bestMove_37 : decode cX7_bestMove 37 = .ok (.iconst 0, 1) := kt_o3 (j := 37) sX7_bestMove_0 rfl
theorem dX7_bestMove_38 : decode cX7_bestMove 38 = .ok (.istore 5, 2) := kt_o54 (j := 38) sX7_bestMove_0 rfl
theorem dX7_bestMove_40 : decode cX7_bestMove 40 = .ok (.iload 5, 2) := kt_o21 (j := 40) sX7_bestMove_0 rfl
theorem dX7_bestMove_42 : decode cX7_bestMove 42 = .ok (.bipush 32, 2) := kt_o16 (j := 42) sX7_bestMove_0 rfl (by decide +kernel)
theorem dX7_bestMove_44 : decode cX7_bestMove 44 = .ok (.aload_n 0, 1) := kt_o42 (j := 44) sX7_bestMove_0 rfl
theorem dX7_bestMove_45 : decode cX7_bestMove 45 = .ok (.getfield 50, 3) := kt_o180 (j := 45) sX7_bestMove_0 rfl rfl
theorem dX7_bestMove_48 : decode cX7_bestMove 48 = .ok (.getfield 73, 3) := kt_o180 (j := 48) sX7_bestMove_0 rfl rfl
theorem dX7_bestMove_51 : decode cX7_bestMove 51 = .ok (.imul, 1) := kt_o104 (j := 51) sX7_bestMove_0 rfl
theorem dX7_bestMove_52 : decode cX7_bestMove 52 = .ok (.if_icmp .ge 84, 3) := kt_o162 (j := 52) sX7_bestMove_0 rfl (by decide +kernel)
theorem dX7_bestMove_55 : decode cX7_bestMove 55 = .ok (.aload_n 0, 1) := kt_o42 (j := 55) sX7_bestMove_0 rfl
theorem dX7_bestMove_56 : decode cX7_bestMove 56 = .ok (.aload_n 1, 1) := kt_o43 (j := 56) sX7_bestMove_0 rfl
theorem dX7_bestMove_57 : decode cX7_bestMove 57 = .ok (.iload_n 2, 1) := kt_o28 (j := 57) sX7_bestMove_0 rfl
theorem dX7_bestMove_58 : decode cX7_bestMove 58 = .ok (.iload 5, 2) := kt_o21 (j := 58) sX7_bestMove_0 rfl
theorem dX7_bestMove_60 : decode cX7_bestMove 60 = .ok (.invokevirtual 203, 3) := kt_o182 (j := 60) sX7_bestMove_0 rfl rfl
theorem dX7_bestMove_63 : decode cX7_bestMove 63 = .ok (.istore 6, 2) := kt_o54 (j := 63) sX7_bestMove_0 rfl
theorem sX7_bestMove_65 : kt_sg cX7_bestMove 65 [42, 180, 0, 38, 28, 46, 43, 180, 0, 125, 160, 0, 18, 21, 6, 21, 4, 162, 0, 7, 4, 167, 0, 19, 3, 167, 0, 15, 21, 6, 21, 4, 164, 0, 7, 4, 167, 0, 4, 3, 54, 7, 21, 6, 2, 159, 0, 20, 29, 2, 159, 0, 8, 21, 7, 153, 0, 10, 21, 5, 62, 21, 6, 54, 4] = true := by decide +kernel
theorem dX7_bestMove_65 : decode cX7_bestMove 65 = .ok (.aload_n 0, 1) := kt_o42 (j := 0) sX7_bestMove_65 rfl
theorem dX7_bestMove_66 : decode cX7_bestMove 66 = .ok (.getfield 38, 3) := kt_o180 (j := 1) sX7_bestMove_65 rfl rfl
theorem dX7_bestMove_69 : decode cX7_bestMove 69 = .ok (.iload_n 2, 1) := kt_o28 (j := 4) sX7_bestMove_65 rfl
theorem dX7_bestMove_70 : decode cX7_bestMove 70 = .ok (.iaload, 1) := kt_o46 (j := 5) sX7_bestMove_65 rfl
theorem dX7_bestMove_71 : decode cX7_bestMove 71 = .ok (.aload_n 1, 1) := kt_o43 (j := 6) sX7_bestMove_65 rfl
theorem dX7_bestMove_72 : decode cX7_bestMove 72 = .ok (.getfield 125, 3) := kt_o180 (j := 7) sX7_bestMove_65 rfl rfl
theorem dX7_bestMove_75 : decode cX7_bestMove 75 = .ok (.if_icmp .ne 18, 3) := kt_o160 (j := 10) sX7_bestMove_65 rfl (by decide +kernel)
theorem dX7_bestMove_78 : decode cX7_bestMove 78 = .ok (.iload 6, 2) := kt_o21 (j := 13) sX7_bestMove_65 rfl
theorem dX7_bestMove_80 : decode cX7_bestMove 80 = .ok (.iload 4, 2) := kt_o21 (j := 15) sX7_bestMove_65 rfl
theorem dX7_bestMove_82 : decode cX7_bestMove 82 = .ok (.if_icmp .ge 7, 3) := kt_o162 (j := 17) sX7_bestMove_65 rfl (by decide +kernel)
theorem dX7_bestMove_85 : decode cX7_bestMove 85 = .ok (.iconst 1, 1) := kt_o4 (j := 20) sX7_bestMove_65 rfl
theorem dX7_bestMove_86 : decode cX7_bestMove 86 = .ok (.goto 19, 3) := kt_o167 (j := 21) sX7_bestMove_65 rfl (by decide +kernel)
theorem dX7_bestMove_89 : decode cX7_bestMove 89 = .ok (.iconst 0, 1) := kt_o3 (j := 24) sX7_bestMove_65 rfl
theorem dX7_bestMove_90 : decode cX7_bestMove 90 = .ok (.goto 15, 3) := kt_o167 (j := 25) sX7_bestMove_65 rfl (by decide +kernel)
theorem dX7_bestMove_93 : decode cX7_bestMove 93 = .ok (.iload 6, 2) := kt_o21 (j := 28) sX7_bestMove_65 rfl
theorem dX7_bestMove_95 : decode cX7_bestMove 95 = .ok (.iload 4, 2) := kt_o21 (j := 30) sX7_bestMove_65 rfl
theorem dX7_bestMove_97 : decode cX7_bestMove 97 = .ok (.if_icmp .le 7, 3) := kt_o164 (j := 32) sX7_bestMove_65 rfl (by decide +kernel)
theorem dX7_bestMove_100 : decode cX7_bestMove 100 = .ok (.iconst 1, 1) := kt_o4 (j := 35) sX7_bestMove_65 rfl
theorem dX7_bestMove_101 : decode cX7_bestMove 101 = .ok (.goto 4, 3) := kt_o167 (j := 36) sX7_bestMove_65 rfl (by decide +kernel)
theorem dX7_bestMove_104 : decode cX7_bestMove 104 = .ok (.iconst 0, 1) := kt_o3 (j := 39) sX7_bestMove_65 rfl
theorem dX7_bestMove_105 : decode cX7_bestMove 105 = .ok (.istore 7, 2) := kt_o54 (j := 40) sX7_bestMove_65 rfl
theorem dX7_bestMove_107 : decode cX7_bestMove 107 = .ok (.iload 6, 2) := kt_o21 (j := 42) sX7_bestMove_65 rfl
theorem dX7_bestMove_109 : decode cX7_bestMove 109 = .ok (.iconst (-1), 1) := kt_o2 (j := 44) sX7_bestMove_65 rfl
theorem dX7_bestMove_110 : decode cX7_bestMove 110 = .ok (.if_icmp .eq 20, 3) := kt_o159 (j := 45) sX7_bestMove_65 rfl (by decide +kernel)
theorem dX7_bestMove_113 : decode cX7_bestMove 113 = .ok (.iload_n 3, 1) := kt_o29 (j := 48) sX7_bestMove_65 rfl
theorem dX7_bestMove_114 : decode cX7_bestMove 114 = .ok (.iconst (-1), 1) := kt_o2 (j := 49) sX7_bestMove_65 rfl
theorem dX7_bestMove_115 : decode cX7_bestMove 115 = .ok (.if_icmp .eq 8, 3) := kt_o159 (j := 50) sX7_bestMove_65 rfl (by decide +kernel)
theorem dX7_bestMove_118 : decode cX7_bestMove 118 = .ok (.iload 7, 2) := kt_o21 (j := 53) sX7_bestMove_65 rfl
theorem dX7_bestMove_120 : decode cX7_bestMove 120 = .ok (.ifCond .eq 10, 3) := kt_o153 (j := 55) sX7_bestMove_65 rfl (by decide +kernel)
theorem dX7_bestMove_123 : decode cX7_bestMove 123 = .ok (.iload 5, 2) := kt_o21 (j := 58) sX7_bestMove_65 rfl
theorem dX7_bestMove_125 : decode cX7_bestMove 125 = .ok (.istore_n 3, 1) := kt_o62 (j := 60) sX7_bestMove_65 rfl
theorem dX7_bestMove_126 : decode cX7_bestMove 126 = .ok (.iload 6, 2) := kt_o21 (j := 61) sX7_bestMove_65 rfl
theorem dX7_bestMove_128 : decode cX7_bestMove 128 = .ok (.istore 4, 2) := kt_o54 (j := 63) sX7_bestMove_65 rfl
theorem sX7_bestMove_130 : kt_sg cX7_bestMove 130 [132, 5, 1, 167, 255, 163, 29, 172] = true := by decide +kernel
theorem dX7_bestMove_130 : decode cX7_bestMove 130 = .ok (.iinc 5 1, 3) := kt_o132 (j := 0) sX7_bestMove_130 rfl (by decide +kernel)
theorem dX7_bestMove_133 : decode cX7_bestMove 133 = .ok (.goto (-93), 3) := kt_o167 (j := 3) sX7_bestMove_130 rfl (by decide +kernel)
theorem dX7_bestMove_136 : decode cX7_bestMove 136 = .ok (.iload_n 3, 1) := kt_o29 (j := 6) sX7_bestMove_130 rfl
theorem dX7_bestMove_137 : decode cX7_bestMove 137 = .ok (.ireturn, 1) := kt_o172 (j := 7) sX7_bestMove_130 rfl
theorem kt_wp_X7_deepKept__X7_deepKept_r1 {w : Cond} (h : w ∈ wsX7_deepKept_r1) : w ∈ wsX7_deepKept := List.mem_cons_of_mem _ (List.mem_append_left _ (List.mem_append_left _ (List.mem_append_left _ (List.mem_append_left _ (List.mem_append_left _ (List.mem_append_left _ (h)))))))
theorem kt_wp_X7_deepKept__X7_deepKept_r2 {w : Cond} (h : w ∈ wsX7_deepKept_r2) : w ∈ wsX7_deepKept := List.mem_cons_of_mem _ (List.mem_append_left _ (List.mem_append_left _ (List.mem_append_left _ (List.mem_append_left _ (List.mem_append_left _ (List.mem_append_right _ (List.mem_append_left _ (h))))))))
theorem kt_wp_X7_deepKept__X7_deepKept_r3 {w : Cond} (h : w ∈ wsX7_deepKept_r3) : w ∈ wsX7_deepKept := List.mem_cons_of_mem _ (List.mem_append_left _ (List.mem_append_left _ (List.mem_append_left _ (List.mem_append_left _ (List.mem_append_left _ (List.mem_append_right _ (List.mem_append_right _ (List.mem_append_left _ (h)))))))))
theorem kt_wp_X7_deepKept__X7_deepKept_r4 {w : Cond} (h : w ∈ wsX7_deepKept_r4) : w ∈ wsX7_deepKept := List.mem_cons_of_mem _ (List.mem_append_left _ (List.mem_append_left _ (List.mem_append_left _ (List.mem_append_left _ (List.mem_append_left _ (List.mem_append_right _ (List.mem_append_right _ (List.mem_append_right _ (h)))))))))
theorem kt_wp_X7_deepKept__X70 {w : Cond} (h : w ∈ wsX70) : w ∈ wsX7_deepKept := List.mem_cons_of_mem _ (List.mem_append_left _ (List.mem_append_left _ (List.mem_append_left _ (List.mem_append_left _ (List.mem_append_right _ (h))))))
theorem kt_wp_X7_deepKept__X60 {w : Cond} (h : w ∈ wsX60) : w ∈ wsX7_deepKept := List.mem_cons_of_mem _ (List.mem_append_left _ (List.mem_append_left _ (List.mem_append_left _ (List.mem_append_right _ (h)))))
theorem kt_wp_X7_deepKept__X80 {w : Cond} (h : w ∈ wsX80) : w ∈ wsX7_deepKept := List.mem_cons_of_mem _ (List.mem_append_left _ (List.mem_append_left _ (List.mem_append_right _ (h))))
theorem kt_wp_X7_deepKept__X10 {w : Cond} (h : w ∈ wsX10) : w ∈ wsX7_deepKept := List.mem_cons_of_mem _ (List.mem_append_left _ (List.mem_append_right _ (h)))
theorem kt_wp_X7_deepKept__X00 {w : Cond} (h : w ∈ wsX00) : w ∈ wsX7_deepKept := List.mem_cons_of_mem _ (List.mem_append_right _ (h))
set_option maxRecDepth 20000 in
theorem ggX7_deepKept_X6_isPiece : GoodIn wsX7_deepKept wsX6_isPiece := goodIn_sub (kt_wf1 (kt_wp_X7_deepKept__X7_deepKept_r1 kt_wm8) (kt_wfa (kt_wf1 (kt_wp_X7_deepKept__X7_deepKept_r1 kt_wm9) kt_wf0) (fun _ h => kt_wp_X7_deepKept__X60 h))) kt_wg_X6_isPiece
set_option maxRecDepth 20000 in
theorem gX7_deepKept_X6_isPiece : GoodIn wsX7_deepKept (wsV RX7 206 RX6 yX6_isPiece wsX6_isPiece) := goodIn_app (a := [.methodLink RX7 206 yX6_isPiece, .instanceMethod yX6_isPiece, .selects RX6 yX6_isPiece yX6_isPiece, .initialized RX6]) (goodIn_sub (kt_wf1 (kt_wp_X7_deepKept__X7_deepKept_r1 kt_wm4) (kt_wf1 (kt_wp_X7_deepKept__X7_deepKept_r1 kt_wm5) (kt_wf1 (kt_wp_X7_deepKept__X7_deepKept_r1 kt_wm6) (kt_wf1 (kt_wp_X7_deepKept__X7_deepKept_r1 kt_wm7) kt_wf0)))) (by decide +kernel)) ggX7_deepKept_X6_isPiece
set_option maxRecDepth 20000 in
theorem ggX7_deepKept_X6_room : GoodIn wsX7_deepKept wsX6_room := goodIn_sub (kt_wf1 (kt_wp_X7_deepKept__X7_deepKept_r1 kt_wm13) (kt_wfa (kt_wfa (kt_wfa (kt_wfa (kt_wfa (kt_wf1 (kt_wp_X7_deepKept__X7_deepKept_r1 kt_wm14) (kt_wf1 (kt_wp_X7_deepKept__X7_deepKept_r1 kt_wm15) (kt_wf1 (kt_wp_X7_deepKept__X7_deepKept_r1 kt_wm16) (kt_wf1 (kt_wp_X7_deepKept__X7_deepKept_r1 kt_wm17) (kt_wf1 (kt_wp_X7_deepKept__X7_deepKept_r1 kt_wm18) (kt_wf1 (kt_wp_X7_deepKept__X7_deepKept_r1 kt_wm19) (kt_wf1 (kt_wp_X7_deepKept__X7_deepKept_r1 kt_wm20) (kt_wf1 (kt_wp_X7_deepKept__X7_deepKept_r1 kt_wm21) (kt_wf1 (kt_wp_X7_deepKept__X7_deepKept_r1 kt_wm22) (kt_wf1 (kt_wp_X7_deepKept__X7_deepKept_r1 kt_wm23) (kt_wf1 (kt_wp_X7_deepKept__X7_deepKept_r2 kt_wm0) (kt_wf1 (kt_wp_X7_deepKept__X7_deepKept_r2 kt_wm1) (kt_wf1 (kt_wp_X7_deepKept__X7_deepKept_r2 kt_wm2) (kt_wf1 (kt_wp_X7_deepKept__X7_deepKept_r2 kt_wm3) (kt_wf1 (kt_wp_X7_deepKept__X7_deepKept_r2 kt_wm4) (kt_wf1 (kt_wp_X7_deepKept__X7_deepKept_r2 kt_wm5) (kt_wf1 (kt_wp_X7_deepKept__X7_deepKept_r2 kt_wm6) (kt_wf1 (kt_wp_X7_deepKept__X7_deepKept_r2 kt_wm7) (kt_wf1 (kt_wp_X7_deepKept__X7_deepKept_r2 kt_wm8) (kt_wf1 (kt_wp_X7_deepKept__X7_deepKept_r2 kt_wm9) (kt_wf1 (kt_wp_X7_deepKept__X7_deepKept_r2 kt_wm10) (kt_wf1 (kt_wp_X7_deepKept__X7_deepKept_r2 kt_wm11) (kt_wf1 (kt_wp_X7_deepKept__X7_deepKept_r2 kt_wm12) (kt_wf1 (kt_wp_X7_deepKept__X7_deepKept_r2 kt_wm13) kt_wf0)))))))))))))))))))))))) (kt_wf1 (kt_wp_X7_deepKept__X7_deepKept_r1 kt_wm7) (kt_wf1 (kt_wp_X7_deepKept__X7_deepKept_r2 kt_wm14) kt_wf0))) (fun _ h => kt_wp_X7_deepKept__X60 h)) (fun _ h => kt_wp_X7_deepKept__X10 h)) (fun _ h => kt_wp_X7_deepKept__X80 h)) (fun _ h => kt_wp_X7_deepKept__X00 h))) kt_wg_X6_room
set_option maxRecDepth 20000 in
theorem gX7_deepKept_X6_room : GoodIn wsX7_deepKept (wsV RX7 153 RX6 yX6_room wsX6_room) := goodIn_app (a := [.methodLink RX7 153 yX6_room, .instanceMethod yX6_room, .selects RX6 yX6_room yX6_room, .initialized RX6]) (goodIn_sub (kt_wf1 (kt_wp_X7_deepKept__X7_deepKept_r1 kt_wm10) (kt_wf1 (kt_wp_X7_deepKept__X7_deepKept_r1 kt_wm11) (kt_wf1 (kt_wp_X7_deepKept__X7_deepKept_r1 kt_wm12) (kt_wf1 (kt_wp_X7_deepKept__X7_deepKept_r1 kt_wm7) kt_wf0)))) (by decide +kernel)) ggX7_deepKept_X6_room
set_option maxRecDepth 20000 in
theorem ggX7_deepKept_X8_fieldOf : GoodIn wsX7_deepKept wsX8_fieldOf := goodIn_sub (kt_wf1 (kt_wp_X7_deepKept__X7_deepKept_r1 kt_wm21) (kt_wfa (kt_wf1 (kt_wp_X7_deepKept__X7_deepKept_r1 kt_wm22) kt_wf0) (fun _ h => kt_wp_X7_deepKept__X80 h))) kt_wg_X8_fieldOf
set_option maxRecDepth 20000 in
theorem gX7_deepKept_X8_fieldOf : GoodIn wsX7_deepKept (wsV RX7 157 RX8 yX8_fieldOf wsX8_fieldOf) := goodIn_app (a := [.methodLink RX7 157 yX8_fieldOf, .instanceMethod yX8_fieldOf, .selects RX8 yX8_fieldOf yX8_fieldOf, .initialized RX8]) (goodIn_sub (kt_wf1 (kt_wp_X7_deepKept__X7_deepKept_r2 kt_wm15) (kt_wf1 (kt_wp_X7_deepKept__X7_deepKept_r1 kt_wm18) (kt_wf1 (kt_wp_X7_deepKept__X7_deepKept_r1 kt_wm19) (kt_wf1 (kt_wp_X7_deepKept__X7_deepKept_r1 kt_wm20) kt_wf0)))) (by decide +kernel)) ggX7_deepKept_X8_fieldOf
set_option maxRecDepth 20000 in
theorem ggX7_deepKept_X0_away : GoodIn wsX7_deepKept wsX0_away := goodIn_sub (kt_wf1 (kt_wp_X7_deepKept__X7_deepKept_r2 kt_wm19) (kt_wfa (kt_wf1 (kt_wp_X7_deepKept__X7_deepKept_r2 kt_wm20) (kt_wf1 (kt_wp_X7_deepKept__X7_deepKept_r2 kt_wm0) (kt_wf1 (kt_wp_X7_deepKept__X7_deepKept_r2 kt_wm1) (kt_wf1 (kt_wp_X7_deepKept__X7_deepKept_r2 kt_wm2) (kt_wf1 (kt_wp_X7_deepKept__X7_deepKept_r2 kt_wm3) (kt_wf1 (kt_wp_X7_deepKept__X7_deepKept_r2 kt_wm4) (kt_wf1 (kt_wp_X7_deepKept__X7_deepKept_r2 kt_wm5) kt_wf0))))))) (fun _ h => kt_wp_X7_deepKept__X00 h))) kt_wg_X0_away
set_option maxRecDepth 20000 in
theorem gX7_deepKept_X0_away : GoodIn wsX7_deepKept (wsV RX7 210 RX0 yX0_away wsX0_away) := goodIn_app (a := [.methodLink RX7 210 yX0_away, .instanceMethod yX0_away, .selects RX0 yX0_away yX0_away, .initialized RX0]) (goodIn_sub (kt_wf1 (kt_wp_X7_deepKept__X7_deepKept_r2 kt_wm16) (kt_wf1 (kt_wp_X7_deepKept__X7_deepKept_r2 kt_wm17) (kt_wf1 (kt_wp_X7_deepKept__X7_deepKept_r2 kt_wm18) (kt_wf1 (kt_wp_X7_deepKept__X7_deepKept_r2 kt_wm2) kt_wf0)))) (by decide +kernel)) ggX7_deepKept_X0_away
set_option maxRecDepth 20000 in
theorem ggX7_deepKept_X6_findVictims : GoodIn wsX7_deepKept wsX6_findVictims := goodIn_sub (kt_wf1 (kt_wp_X7_deepKept__X7_deepKept_r3 kt_wm0) (kt_wfa (kt_wfa (kt_wfa (kt_wfa (kt_wfa (kt_wf1 (kt_wp_X7_deepKept__X7_deepKept_r3 kt_wm1) (kt_wf1 (kt_wp_X7_deepKept__X7_deepKept_r3 kt_wm2) (kt_wf1 (kt_wp_X7_deepKept__X7_deepKept_r1 kt_wm16) (kt_wf1 (kt_wp_X7_deepKept__X7_deepKept_r3 kt_wm3) (kt_wf1 (kt_wp_X7_deepKept__X7_deepKept_r3 kt_wm4) (kt_wf1 (kt_wp_X7_deepKept__X7_deepKept_r1 kt_wm5) (kt_wf1 (kt_wp_X7_deepKept__X7_deepKept_r1 kt_wm6) (kt_wf1 (kt_wp_X7_deepKept__X7_deepKept_r1 kt_wm7) (kt_wf1 (kt_wp_X7_deepKept__X7_deepKept_r1 kt_wm8) (kt_wf1 (kt_wp_X7_deepKept__X7_deepKept_r1 kt_wm9) (kt_wf1 (kt_wp_X7_deepKept__X7_deepKept_r1 kt_wm17) (kt_wf1 (kt_wp_X7_deepKept__X7_deepKept_r1 kt_wm18) (kt_wf1 (kt_wp_X7_deepKept__X7_deepKept_r1 kt_wm19) (kt_wf1 (kt_wp_X7_deepKept__X7_deepKept_r1 kt_wm20) (kt_wf1 (kt_wp_X7_deepKept__X7_deepKept_r1 kt_wm21) (kt_wf1 (kt_wp_X7_deepKept__X7_deepKept_r1 kt_wm22) (kt_wf1 (kt_wp_X7_deepKept__X7_deepKept_r3 kt_wm5) (kt_wf1 (kt_wp_X7_deepKept__X7_deepKept_r3 kt_wm6) (kt_wf1 (kt_wp_X7_deepKept__X7_deepKept_r3 kt_wm7) (kt_wf1 (kt_wp_X7_deepKept__X7_deepKept_r3 kt_wm8) (kt_wf1 (kt_wp_X7_deepKept__X7_deepKept_r2 kt_wm10) (kt_wf1 (kt_wp_X7_deepKept__X7_deepKept_r1 kt_wm23) (kt_wf1 (kt_wp_X7_deepKept__X7_deepKept_r2 kt_wm0) (kt_wf1 (kt_wp_X7_deepKept__X7_deepKept_r2 kt_wm1) kt_wf0)))))))))))))))))))))))) (kt_wf1 (kt_wp_X7_deepKept__X7_deepKept_r2 kt_wm2) (kt_wf1 (kt_wp_X7_deepKept__X7_deepKept_r2 kt_wm3) (kt_wf1 (kt_wp_X7_deepKept__X7_deepKept_r2 kt_wm4) (kt_wf1 (kt_wp_X7_deepKept__X7_deepKept_r2 kt_wm5) (kt_wf1 (kt_wp_X7_deepKept__X7_deepKept_r2 kt_wm6) (kt_wf1 (kt_wp_X7_deepKept__X7_deepKept_r2 kt_wm7) (kt_wf1 (kt_wp_X7_deepKept__X7_deepKept_r2 kt_wm8) (kt_wf1 (kt_wp_X7_deepKept__X7_deepKept_r2 kt_wm9) (kt_wf1 (kt_wp_X7_deepKept__X7_deepKept_r3 kt_wm9) (kt_wf1 (kt_wp_X7_deepKept__X7_deepKept_r3 kt_wm10) (kt_wf1 (kt_wp_X7_deepKept__X7_deepKept_r3 kt_wm11) (kt_wf1 (kt_wp_X7_deepKept__X7_deepKept_r3 kt_wm12) (kt_wf1 (kt_wp_X7_deepKept__X7_deepKept_r3 kt_wm13) (kt_wf1 (kt_wp_X7_deepKept__X7_deepKept_r1 kt_wm14) (kt_wf1 (kt_wp_X7_deepKept__X7_deepKept_r1 kt_wm15) (kt_wf1 (kt_wp_X7_deepKept__X7_deepKept_r3 kt_wm14) (kt_wf1 (kt_wp_X7_deepKept__X7_deepKept_r3 kt_wm15) (kt_wf1 (kt_wp_X7_deepKept__X7_deepKept_r3 kt_wm16) (kt_wf1 (kt_wp_X7_deepKept__X7_deepKept_r3 kt_wm17) (kt_wf1 (kt_wp_X7_deepKept__X7_deepKept_r3 kt_wm18) (kt_wf1 (kt_wp_X7_deepKept__X7_deepKept_r3 kt_wm19) (kt_wf1 (kt_wp_X7_deepKept__X7_deepKept_r3 kt_wm20) (kt_wf1 (kt_wp_X7_deepKept__X7_deepKept_r3 kt_wm21) (kt_wf1 (kt_wp_X7_deepKept__X7_deepKept_r3 kt_wm22) kt_wf0))))))))))))))))))))))))) (fun _ h => kt_wp_X7_deepKept__X60 h)) (fun _ h => kt_wp_X7_deepKept__X80 h)) (fun _ h => kt_wp_X7_deepKept__X00 h)) (fun _ h => kt_wp_X7_deepKept__X10 h))) kt_wg_X6_findVictims
set_option maxRecDepth 20000 in
theorem gX7_deepKept_X6_findVictims : GoodIn wsX7_deepKept (wsV RX7 164 RX6 yX6_findVictims wsX6_findVictims) := goodIn_app (a := [.methodLink RX7 164 yX6_findVictims, .instanceMethod yX6_findVictims, .selects RX6 yX6_findVictims yX6_findVictims, .initialized RX6]) (goodIn_sub (kt_wf1 (kt_wp_X7_deepKept__X7_deepKept_r2 kt_wm21) (kt_wf1 (kt_wp_X7_deepKept__X7_deepKept_r2 kt_wm22) (kt_wf1 (kt_wp_X7_deepKept__X7_deepKept_r2 kt_wm23) (kt_wf1 (kt_wp_X7_deepKept__X7_deepKept_r1 kt_wm7) kt_wf0)))) (by decide +kernel)) ggX7_deepKept_X6_findVictims
set_option maxRecDepth 20000 in
theorem ggX7_deepKept_X7_behindMove : GoodIn wsX7_deepKept wsX7_behindMove := goodIn_sub (kt_wf1 (kt_wp_X7_deepKept__X7_deepKept_r4 kt_wm3) (kt_wfa (kt_wfa (kt_wfa (kt_wfa (kt_wf1 (kt_wp_X7_deepKept__X7_deepKept_r4 kt_wm4) (kt_wf1 (kt_wp_X7_deepKept__X7_deepKept_r1 kt_wm0) (kt_wf1 (kt_wp_X7_deepKept__X7_deepKept_r2 kt_wm15) (kt_wf1 (kt_wp_X7_deepKept__X7_deepKept_r1 kt_wm18) (kt_wf1 (kt_wp_X7_deepKept__X7_deepKept_r1 kt_wm19) (kt_wf1 (kt_wp_X7_deepKept__X7_deepKept_r1 kt_wm20) (kt_wf1 (kt_wp_X7_deepKept__X7_deepKept_r1 kt_wm21) (kt_wf1 (kt_wp_X7_deepKept__X7_deepKept_r1 kt_wm22) kt_wf0)))))))) (fun _ h => kt_wp_X7_deepKept__X70 h)) (fun _ h => kt_wp_X7_deepKept__X60 h)) (fun _ h => kt_wp_X7_deepKept__X00 h)) (fun _ h => kt_wp_X7_deepKept__X80 h))) kt_wg_X7_behindMove
set_option maxRecDepth 20000 in
theorem gX7_deepKept_X7_behindMove : GoodIn wsX7_deepKept (wsV RX7 167 RX7 yX7_behindMove wsX7_behindMove) := goodIn_app (a := [.methodLink RX7 167 yX7_behindMove, .instanceMethod yX7_behindMove, .selects RX7 yX7_behindMove yX7_behindMove, .initialized RX7]) (goodIn_sub (kt_wf1 (kt_wp_X7_deepKept__X7_deepKept_r3 kt_wm23) (kt_wf1 (kt_wp_X7_deepKept__X7_deepKept_r4 kt_wm0) (kt_wf1 (kt_wp_X7_deepKept__X7_deepKept_r4 kt_wm1) (kt_wf1 (kt_wp_X7_deepKept__X7_deepKept_r4 kt_wm2) kt_wf0)))) (by decide +kernel)) ggX7_deepKept_X7_behindMove
theorem sX7_deepKept_0 : kt_sg cX7_deepKept 0 [29, 16, 32, 108, 54, 4, 29, 16, 32, 112, 16, 8, 108, 54, 5, 29, 16, 8, 112, 4, 96, 54, 6, 42, 180, 0, 50, 21, 4, 182, 0, 206, 153, 0, 37, 42, 180, 0, 50, 180, 0, 150, 21, 4, 46, 43, 180, 0, 125, 160, 0, 20, 21, 6, 42, 180, 0, 50, 43, 21, 4, 21, 5, 182, 0, 153] = true := by decide +kernel
theorem dX7_deepKept_0 : decode cX7_deepKept 0 = .ok (.iload_n 3, 1) := kt_o29 (j := 0) sX7_deepKept_0 rfl
theorem dX7_deepKept_1 : decode cX7_deepKept 1 = .ok (.bipush 32, 2) := kt_o16 (j := 1) sX7_deepKept_0 rfl (by decide +kernel)
theorem dX7_deepKept_3 : decode cX7_deepKept 3 = .ok (.idiv, 1) := kt_o108 (j := 3) sX7_deepKept_0 rfl
theorem dX7_deepKept_4 : decode cX7_deepKept 4 = .ok (.istore 4, 2) := kt_o54 (j := 4) sX7_deepKept_0 rfl
theorem dX7_deepKept_6 : decode cX7_deepKept 6 = .ok (.iload_n 3, 1) := kt_o29 (j := 6) sX7_deepKept_0 rfl
theorem dX7_deepKept_7 : decode cX7_deepKept 7 = .ok (.bipush 32, 2) := kt_o16 (j := 7) sX7_deepKept_0 rfl (by decide +kernel)
theorem dX7_deepKept_9 : decode cX7_deepKept 9 = .ok (.irem, 1) := kt_o112 (j := 9) sX7_deepKept_0 rfl
theorem dX7_deepKept_10 : decode cX7_deepKept 10 = .ok (.bipush 8, 2) := kt_o16 (j := 10) sX7_deepKept_0 rfl (by decide +kernel)
theorem dX7_deepKept_12 : decode cX7_deepKept 12 = .ok (.idiv, 1) := kt_o108 (j := 12) sX7_deepKept_0 rfl
theorem dX7_deepKept_13 : decode cX7_deepKept 13 = .ok (.istore 5, 2) := kt_o54 (j := 13) sX7_deepKept_0 rfl
theorem dX7_deepKept_15 : decode cX7_deepKept 15 = .ok (.iload_n 3, 1) := kt_o29 (j := 15) sX7_deepKept_0 rfl
theorem dX7_deepKept_16 : decode cX7_deepKept 16 = .ok (.bipush 8, 2) := kt_o16 (j := 16) sX7_deepKept_0 rfl (by decide +kernel)
theorem dX7_deepKept_18 : decode cX7_deepKept 18 = .ok (.irem, 1) := kt_o112 (j := 18) sX7_deepKept_0 rfl
theorem dX7_deepKept_19 : decode cX7_deepKept 19 = .ok (.iconst 1, 1) := kt_o4 (j := 19) sX7_deepKept_0 rfl
theorem dX7_deepKept_20 : decode cX7_deepKept 20 = .ok (.iadd, 1) := kt_o96 (j := 20) sX7_deepKept_0 rfl
theorem dX7_deepKept_21 : decode cX7_deepKept 21 = .ok (.istore 6, 2) := kt_o54 (j := 21) sX7_deepKept_0 rfl
theorem dX7_deepKept_23 : decode cX7_deepKept 23 = .ok (.aload_n 0, 1) := kt_o42 (j := 23) sX7_deepKept_0 rfl
theorem dX7_deepKept_24 : decode cX7_deepKept 24 = .ok (.getfield 50, 3) := kt_o180 (j := 24) sX7_deepKept_0 rfl rfl
theorem dX7_deepKept_27 : decode cX7_deepKept 27 = .ok (.iload 4, 2) := kt_o21 (j := 27) sX7_deepKept_0 rfl
theorem dX7_deepKept_29 : decode cX7_deepKept 29 = .ok (.invokevirtual 206, 3) := kt_o182 (j := 29) sX7_deepKept_0 rfl rfl
theorem dX7_deepKept_32 : decode cX7_deepKept 32 = .ok (.ifCond .eq 37, 3) := kt_o153 (j := 32) sX7_deepKept_0 rfl (by decide +kernel)
theorem dX7_deepKept_35 : decode cX7_deepKept 35 = .ok (.aload_n 0, 1) := kt_o42 (j := 35) sX7_deepKept_0 rfl
theorem dX7_deepKept_36 : decode cX7_deepKept 36 = .ok (.getfield 50, 3) := kt_o180 (j := 36) sX7_deepKept_0 rfl rfl
theorem dX7_deepKept_39 : decode cX7_deepKept 39 = .ok (.getfield 150, 3) := kt_o180 (j := 39) sX7_deepKept_0 rfl rfl
theorem dX7_deepKept_42 : decode cX7_deepKept 42 = .ok (.iload 4, 2) := kt_o21 (j := 42) sX7_deepKept_0 rfl
theorem dX7_deepKept_44 : decode cX7_deepKept 44 = .ok (.iaload, 1) := kt_o46 (j := 44) sX7_deepKept_0 rfl
theorem dX7_deepKept_45 : decode cX7_deepKept 45 = .ok (.aload_n 1, 1) := kt_o43 (j := 45) sX7_deepKept_0 rfl
theorem dX7_deepKept_46 : decode cX7_deepKept 46 = .ok (.getfield 125, 3) := kt_o180 (j := 46) sX7_deepKept_0 rfl rfl
theorem dX7_deepKept_49 : decode cX7_deepKept 49 = .ok (.if_icmp .ne 20, 3) := kt_o160 (j := 49) sX7_deepKept_0 rfl (by decide +kernel)
theorem dX7_deepKept_52 : decode cX7_deepKept 52 = .ok (.iload 6, 2) := kt_o21 (j := 52) sX7_deepKept_0 rfl
theorem dX7_deepKept_54 : decode cX7_deepKept 54 = .ok (.aload_n 0, 1) := kt_o42 (j := 54) sX7_deepKept_0 rfl
theorem dX7_deepKept_55 : decode cX7_deepKept 55 = .ok (.getfield 50, 3) := kt_o180 (j := 55) sX7_deepKept_0 rfl rfl
theorem dX7_deepKept_58 : decode cX7_deepKept 58 = .ok (.aload_n 1, 1) := kt_o43 (j := 58) sX7_deepKept_0 rfl
theorem dX7_deepKept_59 : decode cX7_deepKept 59 = .ok (.iload 4, 2) := kt_o21 (j := 59) sX7_deepKept_0 rfl
theorem dX7_deepKept_61 : decode cX7_deepKept 61 = .ok (.iload 5, 2) := kt_o21 (j := 61) sX7_deepKept_0 rfl
theorem dX7_deepKept_63 : decode cX7_deepKept 63 = .ok (.invokevirtual 153, 3) := kt_o182 (j := 63) sX7_deepKept_0 rfl rfl
theorem sX7_deepKept_66 : kt_sg cX7_deepKept 66 [164, 0, 5, 2, 172, 42, 180, 0, 50, 180, 0, 78, 43, 21, 4, 182, 0, 157, 21, 5, 21, 6, 182, 0, 210, 54, 7, 42, 180, 0, 50, 43, 21, 4, 21, 7, 182, 0, 164, 87, 42, 43, 28, 21, 4, 21, 7, 182, 0, 167, 54, 8, 21, 8, 155, 0, 34, 21, 8, 5, 42, 180, 0, 66] = true := by decide +kernel
theorem dX7_deepKept_66 : decode cX7_deepKept 66 = .ok (.if_icmp .le 5, 3) := kt_o164 (j := 0) sX7_deepKept_66 rfl (by decide +kernel)
theorem dX7_deepKept_69 : decode cX7_deepKept 69 = .ok (.iconst (-1), 1) := kt_o2 (j := 3) sX7_deepKept_66 rfl
theorem dX7_deepKept_70 : decode cX7_deepKept 70 = .ok (.ireturn, 1) := kt_o172 (j := 4) sX7_deepKept_66 rfl
theorem dX7_deepKept_71 : decode cX7_deepKept 71 = .ok (.aload_n 0, 1) := kt_o42 (j := 5) sX7_deepKept_66 rfl
theorem dX7_deepKept_72 : decode cX7_deepKept 72 = .ok (.getfield 50, 3) := kt_o180 (j := 6) sX7_deepKept_66 rfl rfl
theorem dX7_deepKept_75 : decode cX7_deepKept 75 = .ok (.getfield 78, 3) := kt_o180 (j := 9) sX7_deepKept_66 rfl rfl
theorem dX7_deepKept_78 : decode cX7_deepKept 78 = .ok (.aload_n 1, 1) := kt_o43 (j := 12) sX7_deepKept_66 rfl
theorem dX7_deepKept_79 : decode cX7_deepKept 79 = .ok (.iload 4, 2) := kt_o21 (j := 13) sX7_deepKept_66 rfl
theorem dX7_deepKept_81 : decode cX7_deepKept 81 = .ok (.invokevirtual 157, 3) := kt_o182 (j := 15) sX7_deepKept_66 rfl rfl
theorem dX7_deepKept_84 : decode cX7_deepKept 84 = .ok (.iload 5, 2) := kt_o21 (j := 18) sX7_deepKept_66 rfl
theorem dX7_deepKept_86 : decode cX7_deepKept 86 = .ok (.iload 6, 2) := kt_o21 (j := 20) sX7_deepKept_66 rfl
theorem dX7_deepKept_88 : decode cX7_deepKept 88 = .ok (.invokevirtual 210, 3) := kt_o182 (j := 22) sX7_deepKept_66 rfl rfl
theorem dX7_deepKept_91 : decode cX7_deepKept 91 = .ok (.istore 7, 2) := kt_o54 (j := 25) sX7_deepKept_66 rfl
theorem dX7_deepKept_93 : decode cX7_deepKept 93 = .ok (.aload_n 0, 1) := kt_o42 (j := 27) sX7_deepKept_66 rfl
theorem dX7_deepKept_94 : decode cX7_deepKept 94 = .ok (.getfield 50, 3) := kt_o180 (j := 28) sX7_deepKept_66 rfl rfl
theorem dX7_deepKept_97 : decode cX7_deepKept 97 = .ok (.aload_n 1, 1) := kt_o43 (j := 31) sX7_deepKept_66 rfl
theorem dX7_deepKept_98 : decode cX7_deepKept 98 = .ok (.iload 4, 2) := kt_o21 (j := 32) sX7_deepKept_66 rfl
theorem dX7_deepKept_100 : decode cX7_deepKept 100 = .ok (.iload 7, 2) := kt_o21 (j := 34) sX7_deepKept_66 rfl
theorem dX7_deepKept_102 : decode cX7_deepKept 102 = .ok (.invokevirtual 164, 3) := kt_o182 (j := 36) sX7_deepKept_66 rfl rfl
theorem dX7_deepKept_105 : decode cX7_deepKept 105 = .ok (.pop, 1) := kt_o87 (j := 39) sX7_deepKept_66 rfl
theorem dX7_deepKept_106 : decode cX7_deepKept 106 = .ok (.aload_n 0, 1) := kt_o42 (j := 40) sX7_deepKept_66 rfl
theorem dX7_deepKept_107 : decode cX7_deepKept 107 = .ok (.aload_n 1, 1) := kt_o43 (j := 41) sX7_deepKept_66 rfl
theorem dX7_deepKept_108 : decode cX7_deepKept 108 = .ok (.iload_n 2, 1) := kt_o28 (j := 42) sX7_deepKept_66 rfl
theorem dX7_deepKept_109 : decode cX7_deepKept 109 = .ok (.iload 4, 2) := kt_o21 (j := 43) sX7_deepKept_66 rfl
theorem dX7_deepKept_111 : decode cX7_deepKept 111 = .ok (.iload 7, 2) := kt_o21 (j := 45) sX7_deepKept_66 rfl
theorem dX7_deepKept_113 : decode cX7_deepKept 113 = .ok (.invokevirtual 167, 3) := kt_o182 (j := 47) sX7_deepKept_66 rfl rfl
theorem dX7_deepKept_116 : decode cX7_deepKept 116 = .ok (.istore 8, 2) := kt_o54 (j := 50) sX7_deepKept_66 rfl
theorem dX7_deepKept_118 : decode cX7_deepKept 118 = .ok (.iload 8, 2) := kt_o21 (j := 52) sX7_deepKept_66 rfl
theorem dX7_deepKept_120 : decode cX7_deepKept 120 = .ok (.ifCond .lt 34, 3) := kt_o155 (j := 54) sX7_deepKept_66 rfl (by decide +kernel)
theorem dX7_deepKept_123 : decode cX7_deepKept 123 = .ok (.iload 8, 2) := kt_o21 (j := 57) sX7_deepKept_66 rfl
theorem dX7_deepKept_125 : decode cX7_deepKept 125 = .ok (.iconst 2, 1) := kt_o5 (j := 59) sX7_deepKept_66 rfl
theorem dX7_deepKept_126 : decode cX7_deepKept 126 = .ok (.aload_n 0, 1) := kt_o42 (j := 60) sX7_deepKept_66 rfl
theorem dX7_deepKept_127 : decode cX7_deepKept 127 = .ok (.getfield 66, 3) := kt_o180 (j := 61) sX7_deepKept_66 rfl rfl
theorem sX7_deepKept_130 : kt_sg cX7_deepKept 130 [104, 162, 0, 23, 42, 180, 0, 38, 21, 8, 46, 42, 180, 0, 38, 28, 46, 160, 0, 7, 4, 167, 0, 4, 3, 54, 9, 21, 9, 153, 0, 13, 42, 180, 0, 41, 21, 8, 46, 167, 0, 4, 2, 172] = true := by decide +kernel
theorem dX7_deepKept_130 : decode cX7_deepKept 130 = .ok (.imul, 1) := kt_o104 (j := 0) sX7_deepKept_130 rfl
theorem dX7_deepKept_131 : decode cX7_deepKept 131 = .ok (.if_icmp .ge 23, 3) := kt_o162 (j := 1) sX7_deepKept_130 rfl (by decide +kernel)
theorem dX7_deepKept_134 : decode cX7_deepKept 134 = .ok (.aload_n 0, 1) := kt_o42 (j := 4) sX7_deepKept_130 rfl
theorem dX7_deepKept_135 : decode cX7_deepKept 135 = .ok (.getfield 38, 3) := kt_o180 (j := 5) sX7_deepKept_130 rfl rfl
theorem dX7_deepKept_138 : decode cX7_deepKept 138 = .ok (.iload 8, 2) := kt_o21 (j := 8) sX7_deepKept_130 rfl
theorem dX7_deepKept_140 : decode cX7_deepKept 140 = .ok (.iaload, 1) := kt_o46 (j := 10) sX7_deepKept_130 rfl
theorem dX7_deepKept_141 : decode cX7_deepKept 141 = .ok (.aload_n 0, 1) := kt_o42 (j := 11) sX7_deepKept_130 rfl
theorem dX7_deepKept_142 : decode cX7_deepKept 142 = .ok (.getfield 38, 3) := kt_o180 (j := 12) sX7_deepKept_130 rfl rfl
theorem dX7_deepKept_145 : decode cX7_deepKept 145 = .ok (.iload_n 2, 1) := kt_o28 (j := 15) sX7_deepKept_130 rfl
theorem dX7_deepKept_146 : decode cX7_deepKept 146 = .ok (.iaload, 1) := kt_o46 (j := 16) sX7_deepKept_130 rfl
theorem dX7_deepKept_147 : decode cX7_deepKept 147 = .ok (.if_icmp .ne 7, 3) := kt_o160 (j := 17) sX7_deepKept_130 rfl (by decide +kernel)
theorem dX7_deepKept_150 : decode cX7_deepKept 150 = .ok (.iconst 1, 1) := kt_o4 (j := 20) sX7_deepKept_130 rfl
theorem dX7_deepKept_151 : decode cX7_deepKept 151 = .ok (.goto 4, 3) := kt_o167 (j := 21) sX7_deepKept_130 rfl (by decide +kernel)
theorem dX7_deepKept_154 : decode cX7_deepKept 154 = .ok (.iconst 0, 1) := kt_o3 (j := 24) sX7_deepKept_130 rfl
theorem dX7_deepKept_155 : decode cX7_deepKept 155 = .ok (.istore 9, 2) := kt_o54 (j := 25) sX7_deepKept_130 rfl
theorem dX7_deepKept_157 : decode cX7_deepKept 157 = .ok (.iload 9, 2) := kt_o21 (j := 27) sX7_deepKept_130 rfl
theorem dX7_deepKept_159 : decode cX7_deepKept 159 = .ok (.ifCond .eq 13, 3) := kt_o153 (j := 29) sX7_deepKept_130 rfl (by decide +kernel)
theorem dX7_deepKept_162 : decode cX7_deepKept 162 = .ok (.aload_n 0, 1) := kt_o42 (j := 32) sX7_deepKept_130 rfl
theorem dX7_deepKept_163 : decode cX7_deepKept 163 = .ok (.getfield 41, 3) := kt_o180 (j := 33) sX7_deepKept_130 rfl rfl
theorem dX7_deepKept_166 : decode cX7_deepKept 166 = .ok (.iload 8, 2) := kt_o21 (j := 36) sX7_deepKept_130 rfl
theorem dX7_deepKept_168 : decode cX7_deepKept 168 = .ok (.iaload, 1) := kt_o46 (j := 38) sX7_deepKept_130 rfl
theorem dX7_deepKept_169 : decode cX7_deepKept 169 = .ok (.goto 4, 3) := kt_o167 (j := 39) sX7_deepKept_130 rfl (by decide +kernel)
theorem dX7_deepKept_172 : decode cX7_deepKept 172 = .ok (.iconst (-1), 1) := kt_o2 (j := 42) sX7_deepKept_130 rfl
theorem dX7_deepKept_173 : decode cX7_deepKept 173 = .ok (.ireturn, 1) := kt_o172 (j := 43) sX7_deepKept_130 rfl
theorem kt_wp_X7_tally__X70 {w : Cond} (h : w ∈ wsX70) : w ∈ wsX7_tally := List.mem_cons_of_mem _ (List.mem_append_right _ (h))
set_option maxRecDepth 20000 in
theorem kt_wg_X10_isSide : wsX10_isSide.all goodWord = true := by decide +kernel
set_option maxRecDepth 20000 in
theorem ggX7_tally_X10_isSide : GoodIn wsX7_tally wsX10_isSide := goodIn_sub (kt_wf1 (List.mem_cons_of_mem _ (List.mem_append_left _ (List.mem_cons_of_mem _ (List.mem_cons_of_mem _ (List.mem_cons_of_mem _ (List.mem_cons_of_mem _ (List.Mem.head _))))))) kt_wf0) kt_wg_X10_isSide
set_option maxRecDepth 20000 in
theorem gX7_tally_X10_isSide_n213 : GoodIn wsX7_tally (wsX10_isSide) := ggX7_tally_X10_isSide
theorem sX7_tally_0 : kt_sg cX7_tally 0 [42, 180, 0, 54, 153, 0, 19, 27, 155, 0, 15, 27, 6, 162, 0, 10, 28, 184, 0, 213, 154, 0, 5, 2, 172, 42, 180, 0, 32, 27, 5, 104, 28, 96, 46, 172] = true := by decide +kernel
theorem dX7_tally_0 : decode cX7_tally 0 = .ok (.aload_n 0, 1) := kt_o42 (j := 0) sX7_tally_0 rfl
theorem dX7_tally_1 : decode cX7_tally 1 = .ok (.getfield 54, 3) := kt_o180 (j := 1) sX7_tally_0 rfl rfl
theorem dX7_tally_4 : decode cX7_tally 4 = .ok (.ifCond .eq 19, 3) := kt_o153 (j := 4) sX7_tally_0 rfl (by decide +kernel)
theorem dX7_tally_7 : decode cX7_tally 7 = .ok (.iload_n 1, 1) := kt_o27 (j := 7) sX7_tally_0 rfl
theorem dX7_tally_8 : decode cX7_tally 8 = .ok (.ifCond .lt 15, 3) := kt_o155 (j := 8) sX7_tally_0 rfl (by decide +kernel)
theorem dX7_tally_11 : decode cX7_tally 11 = .ok (.iload_n 1, 1) := kt_o27 (j := 11) sX7_tally_0 rfl
theorem dX7_tally_12 : decode cX7_tally 12 = .ok (.iconst 3, 1) := kt_o6 (j := 12) sX7_tally_0 rfl
theorem dX7_tally_13 : decode cX7_tally 13 = .ok (.if_icmp .ge 10, 3) := kt_o162 (j := 13) sX7_tally_0 rfl (by decide +kernel)
theorem dX7_tally_16 : decode cX7_tally 16 = .ok (.iload_n 2, 1) := kt_o28 (j := 16) sX7_tally_0 rfl
theorem dX7_tally_17 : decode cX7_tally 17 = .ok (.invokestatic 213, 3) := kt_o184 (j := 17) sX7_tally_0 rfl rfl
theorem dX7_tally_20 : decode cX7_tally 20 = .ok (.ifCond .ne 5, 3) := kt_o154 (j := 20) sX7_tally_0 rfl (by decide +kernel)
theorem dX7_tally_23 : decode cX7_tally 23 = .ok (.iconst (-1), 1) := kt_o2 (j := 23) sX7_tally_0 rfl
theorem dX7_tally_24 : decode cX7_tally 24 = .ok (.ireturn, 1) := kt_o172 (j := 24) sX7_tally_0 rfl
theorem dX7_tally_25 : decode cX7_tally 25 = .ok (.aload_n 0, 1) := kt_o42 (j := 25) sX7_tally_0 rfl
theorem dX7_tally_26 : decode cX7_tally 26 = .ok (.getfield 32, 3) := kt_o180 (j := 26) sX7_tally_0 rfl rfl
theorem dX7_tally_29 : decode cX7_tally 29 = .ok (.iload_n 1, 1) := kt_o27 (j := 29) sX7_tally_0 rfl
theorem dX7_tally_30 : decode cX7_tally 30 = .ok (.iconst 2, 1) := kt_o5 (j := 30) sX7_tally_0 rfl
theorem dX7_tally_31 : decode cX7_tally 31 = .ok (.imul, 1) := kt_o104 (j := 31) sX7_tally_0 rfl
theorem dX7_tally_32 : decode cX7_tally 32 = .ok (.iload_n 2, 1) := kt_o28 (j := 32) sX7_tally_0 rfl
theorem dX7_tally_33 : decode cX7_tally 33 = .ok (.iadd, 1) := kt_o96 (j := 33) sX7_tally_0 rfl
theorem dX7_tally_34 : decode cX7_tally 34 = .ok (.iaload, 1) := kt_o46 (j := 34) sX7_tally_0 rfl
theorem dX7_tally_35 : decode cX7_tally 35 = .ok (.ireturn, 1) := kt_o172 (j := 35) sX7_tally_0 rfl
theorem kt_wp_X7_greatestDeep__X70 {w : Cond} (h : w ∈ wsX70) : w ∈ wsX7_greatestDeep := List.mem_cons_of_mem _ (List.mem_append_right _ (h))
set_option maxRecDepth 20000 in
theorem ggX7_greatestDeep_X10_isSide : GoodIn wsX7_greatestDeep wsX10_isSide := goodIn_sub (kt_wf1 (List.mem_cons_of_mem _ (List.mem_append_left _ (List.mem_cons_of_mem _ (List.mem_cons_of_mem _ (List.mem_cons_of_mem _ (List.mem_cons_of_mem _ (List.Mem.head _))))))) kt_wf0) kt_wg_X10_isSide
set_option maxRecDepth 20000 in
theorem gX7_greatestDeep_X10_isSide_n213 : GoodIn wsX7_greatestDeep (wsX10_isSide) := ggX7_greatestDeep_X10_isSide
theorem sX7_greatestDeep_0 : kt_sg cX7_greatestDeep 0 [42, 180, 0, 54, 153, 0, 19, 27, 184, 0, 213, 153, 0, 12, 42, 180, 0, 35, 27, 46, 167, 0, 4, 2, 172] = true := by decide +kernel
theorem dX7_greatestDeep_0 : decode cX7_greatestDeep 0 = .ok (.aload_n 0, 1) := kt_o42 (j := 0) sX7_greatestDeep_0 rfl
theorem dX7_greatestDeep_1 : decode cX7_greatestDeep 1 = .ok (.getfield 54, 3) := kt_o180 (j := 1) sX7_greatestDeep_0 rfl rfl
theorem dX7_greatestDeep_4 : decode cX7_greatestDeep 4 = .ok (.ifCond .eq 19, 3) := kt_o153 (j := 4) sX7_greatestDeep_0 rfl (by decide +kernel)
theorem dX7_greatestDeep_7 : decode cX7_greatestDeep 7 = .ok (.iload_n 1, 1) := kt_o27 (j := 7) sX7_greatestDeep_0 rfl
theorem dX7_greatestDeep_8 : decode cX7_greatestDeep 8 = .ok (.invokestatic 213, 3) := kt_o184 (j := 8) sX7_greatestDeep_0 rfl rfl
theorem dX7_greatestDeep_11 : decode cX7_greatestDeep 11 = .ok (.ifCond .eq 12, 3) := kt_o153 (j := 11) sX7_greatestDeep_0 rfl (by decide +kernel)
theorem dX7_greatestDeep_14 : decode cX7_greatestDeep 14 = .ok (.aload_n 0, 1) := kt_o42 (j := 14) sX7_greatestDeep_0 rfl
theorem dX7_greatestDeep_15 : decode cX7_greatestDeep 15 = .ok (.getfield 35, 3) := kt_o180 (j := 15) sX7_greatestDeep_0 rfl rfl
theorem dX7_greatestDeep_18 : decode cX7_greatestDeep 18 = .ok (.iload_n 1, 1) := kt_o27 (j := 18) sX7_greatestDeep_0 rfl
theorem dX7_greatestDeep_19 : decode cX7_greatestDeep 19 = .ok (.iaload, 1) := kt_o46 (j := 19) sX7_greatestDeep_0 rfl
theorem dX7_greatestDeep_20 : decode cX7_greatestDeep 20 = .ok (.goto 4, 3) := kt_o167 (j := 20) sX7_greatestDeep_0 rfl (by decide +kernel)
theorem dX7_greatestDeep_23 : decode cX7_greatestDeep 23 = .ok (.iconst (-1), 1) := kt_o2 (j := 23) sX7_greatestDeep_0 rfl
theorem dX7_greatestDeep_24 : decode cX7_greatestDeep 24 = .ok (.ireturn, 1) := kt_o172 (j := 24) sX7_greatestDeep_0 rfl
theorem kt_wp_X7_worthAt__X70 {w : Cond} (h : w ∈ wsX70) : w ∈ wsX7_worthAt := List.mem_cons_of_mem _ (List.mem_append_right _ (h))
set_option maxRecDepth 20000 in
theorem ggX7_worthAt_X10_isSide : GoodIn wsX7_worthAt wsX10_isSide := goodIn_sub (kt_wf1 (List.mem_cons_of_mem _ (List.mem_append_left _ (List.mem_cons_of_mem _ (List.mem_cons_of_mem _ (List.mem_cons_of_mem _ (List.mem_cons_of_mem _ (List.mem_cons_of_mem _ (List.Mem.head _)))))))) kt_wf0) kt_wg_X10_isSide
set_option maxRecDepth 20000 in
theorem gX7_worthAt_X10_isSide_n213 : GoodIn wsX7_worthAt (wsX10_isSide) := ggX7_worthAt_X10_isSide
theorem sX7_worthAt_0 : kt_sg cX7_worthAt 0 [42, 180, 0, 54, 153, 0, 26, 28, 184, 0, 213, 153, 0, 19, 27, 155, 0, 15, 27, 42, 180, 0, 66, 162, 0, 7, 4, 167, 0, 4, 3, 62, 29, 153, 0, 16, 42, 180, 0, 38, 5, 27, 104, 28, 96, 46, 167, 0, 4, 2, 172] = true := by decide +kernel
theorem dX7_worthAt_0 : decode cX7_worthAt 0 = .ok (.aload_n 0, 1) := kt_o42 (j := 0) sX7_worthAt_0 rfl
theorem dX7_worthAt_1 : decode cX7_worthAt 1 = .ok (.getfield 54, 3) := kt_o180 (j := 1) sX7_worthAt_0 rfl rfl
theorem dX7_worthAt_4 : decode cX7_worthAt 4 = .ok (.ifCond .eq 26, 3) := kt_o153 (j := 4) sX7_worthAt_0 rfl (by decide +kernel)
theorem dX7_worthAt_7 : decode cX7_worthAt 7 = .ok (.iload_n 2, 1) := kt_o28 (j := 7) sX7_worthAt_0 rfl
theorem dX7_worthAt_8 : decode cX7_worthAt 8 = .ok (.invokestatic 213, 3) := kt_o184 (j := 8) sX7_worthAt_0 rfl rfl
theorem dX7_worthAt_11 : decode cX7_worthAt 11 = .ok (.ifCond .eq 19, 3) := kt_o153 (j := 11) sX7_worthAt_0 rfl (by decide +kernel)
theorem dX7_worthAt_14 : decode cX7_worthAt 14 = .ok (.iload_n 1, 1) := kt_o27 (j := 14) sX7_worthAt_0 rfl
theorem dX7_worthAt_15 : decode cX7_worthAt 15 = .ok (.ifCond .lt 15, 3) := kt_o155 (j := 15) sX7_worthAt_0 rfl (by decide +kernel)
theorem dX7_worthAt_18 : decode cX7_worthAt 18 = .ok (.iload_n 1, 1) := kt_o27 (j := 18) sX7_worthAt_0 rfl
theorem dX7_worthAt_19 : decode cX7_worthAt 19 = .ok (.aload_n 0, 1) := kt_o42 (j := 19) sX7_worthAt_0 rfl
theorem dX7_worthAt_20 : decode cX7_worthAt 20 = .ok (.getfield 66, 3) := kt_o180 (j := 20) sX7_worthAt_0 rfl rfl
theorem dX7_worthAt_23 : decode cX7_worthAt 23 = .ok (.if_icmp .ge 7, 3) := kt_o162 (j := 23) sX7_worthAt_0 rfl (by decide +kernel)
theorem dX7_worthAt_26 : decode cX7_worthAt 26 = .ok (.iconst 1, 1) := kt_o4 (j := 26) sX7_worthAt_0 rfl
theorem dX7_worthAt_27 : decode cX7_worthAt 27 = .ok (.goto 4, 3) := kt_o167 (j := 27) sX7_worthAt_0 rfl (by decide +kernel)
theorem dX7_worthAt_30 : decode cX7_worthAt 30 = .ok (.iconst 0, 1) := kt_o3 (j := 30) sX7_worthAt_0 rfl
theorem dX7_worthAt_31 : decode cX7_worthAt 31 = .ok (.istore_n 3, 1) := kt_o62 (j := 31) sX7_worthAt_0 rfl
theorem dX7_worthAt_32 : decode cX7_worthAt 32 = .ok (.iload_n 3, 1) := kt_o29 (j := 32) sX7_worthAt_0 rfl
theorem dX7_worthAt_33 : decode cX7_worthAt 33 = .ok (.ifCond .eq 16, 3) := kt_o153 (j := 33) sX7_worthAt_0 rfl (by decide +kernel)
theorem dX7_worthAt_36 : decode cX7_worthAt 36 = .ok (.aload_n 0, 1) := kt_o42 (j := 36) sX7_worthAt_0 rfl
theorem dX7_worthAt_37 : decode cX7_worthAt 37 = .ok (.getfield 38, 3) := kt_o180 (j := 37) sX7_worthAt_0 rfl rfl
theorem dX7_worthAt_40 : decode cX7_worthAt 40 = .ok (.iconst 2, 1) := kt_o5 (j := 40) sX7_worthAt_0 rfl
theorem dX7_worthAt_41 : decode cX7_worthAt 41 = .ok (.iload_n 1, 1) := kt_o27 (j := 41) sX7_worthAt_0 rfl
theorem dX7_worthAt_42 : decode cX7_worthAt 42 = .ok (.imul, 1) := kt_o104 (j := 42) sX7_worthAt_0 rfl
theorem dX7_worthAt_43 : decode cX7_worthAt 43 = .ok (.iload_n 2, 1) := kt_o28 (j := 43) sX7_worthAt_0 rfl
theorem dX7_worthAt_44 : decode cX7_worthAt 44 = .ok (.iadd, 1) := kt_o96 (j := 44) sX7_worthAt_0 rfl
theorem dX7_worthAt_45 : decode cX7_worthAt 45 = .ok (.iaload, 1) := kt_o46 (j := 45) sX7_worthAt_0 rfl
theorem dX7_worthAt_46 : decode cX7_worthAt 46 = .ok (.goto 4, 3) := kt_o167 (j := 46) sX7_worthAt_0 rfl (by decide +kernel)
theorem dX7_worthAt_49 : decode cX7_worthAt 49 = .ok (.iconst (-1), 1) := kt_o2 (j := 49) sX7_worthAt_0 rfl
theorem dX7_worthAt_50 : decode cX7_worthAt 50 = .ok (.ireturn, 1) := kt_o172 (j := 50) sX7_worthAt_0 rfl
theorem kt_wp_X8_init__X80 {w : Cond} (h : w ∈ wsX80) : w ∈ wsX8_init := List.mem_cons_of_mem _ (List.mem_append_right _ (h))
set_option maxRecDepth 20000 in
theorem ggX8_init_X8_clear : GoodIn wsX8_init wsX8_clear := goodIn_sub (kt_wf1 (List.mem_cons_of_mem _ (List.mem_append_left _ (List.mem_cons_of_mem _ (List.mem_cons_of_mem _ (List.mem_cons_of_mem _ (List.mem_cons_of_mem _ (List.mem_cons_of_mem _ (List.mem_cons_of_mem _ (List.mem_cons_of_mem _ (List.mem_cons_of_mem _ (List.mem_cons_of_mem _ (List.mem_cons_of_mem _ (List.Mem.head _))))))))))))) (kt_wfa (kt_wf1 (List.mem_cons_of_mem _ (List.mem_append_left _ (List.mem_cons_of_mem _ (List.mem_cons_of_mem _ (List.mem_cons_of_mem _ (List.mem_cons_of_mem _ (List.Mem.head _))))))) (kt_wf1 (List.mem_cons_of_mem _ (List.mem_append_left _ (List.mem_cons_of_mem _ (List.mem_cons_of_mem _ (List.mem_cons_of_mem _ (List.mem_cons_of_mem _ (List.mem_cons_of_mem _ (List.Mem.head _)))))))) (kt_wf1 (List.mem_cons_of_mem _ (List.mem_append_left _ (List.mem_cons_of_mem _ (List.mem_cons_of_mem _ (List.mem_cons_of_mem _ (List.mem_cons_of_mem _ (List.mem_cons_of_mem _ (List.mem_cons_of_mem _ (List.mem_cons_of_mem _ (List.mem_cons_of_mem _ (List.mem_cons_of_mem _ (List.mem_cons_of_mem _ (List.mem_cons_of_mem _ (List.Mem.head _)))))))))))))) (kt_wf1 (List.mem_cons_of_mem _ (List.mem_append_left _ (List.mem_cons_of_mem _ (List.mem_cons_of_mem _ (List.mem_cons_of_mem _ (List.mem_cons_of_mem _ (List.mem_cons_of_mem _ (List.mem_cons_of_mem _ (List.mem_cons_of_mem _ (List.mem_cons_of_mem _ (List.mem_cons_of_mem _ (List.mem_cons_of_mem _ (List.mem_cons_of_mem _ (List.mem_cons_of_mem _ (List.Mem.head _))))))))))))))) (kt_wf1 (List.mem_cons_of_mem _ (List.mem_append_left _ (List.mem_cons_of_mem _ (List.mem_cons_of_mem _ (List.mem_cons_of_mem _ (List.mem_cons_of_mem _ (List.mem_cons_of_mem _ (List.mem_cons_of_mem _ (List.mem_cons_of_mem _ (List.mem_cons_of_mem _ (List.mem_cons_of_mem _ (List.mem_cons_of_mem _ (List.mem_cons_of_mem _ (List.mem_cons_of_mem _ (List.mem_cons_of_mem _ (List.Mem.head _)))))))))))))))) (kt_wf1 (List.mem_cons_of_mem _ (List.mem_append_left _ (List.mem_cons_of_mem _ (List.mem_cons_of_mem _ (List.mem_cons_of_mem _ (List.mem_cons_of_mem _ (List.mem_cons_of_mem _ (List.mem_cons_of_mem _ (List.mem_cons_of_mem _ (List.mem_cons_of_mem _ (List.mem_cons_of_mem _ (List.mem_cons_of_mem _ (List.mem_cons_of_mem _ (List.mem_cons_of_mem _ (List.mem_cons_of_mem _ (List.mem_cons_of_mem _ (List.Mem.head _))))))))))))))))) (kt_wf1 (List.mem_cons_of_mem _ (List.mem_append_left _ (List.mem_cons_of_mem _ (List.mem_cons_of_mem _ (List.mem_cons_of_mem _ (List.mem_cons_of_mem _ (List.mem_cons_of_mem _ (List.mem_cons_of_mem _ (List.mem_cons_of_mem _ (List.mem_cons_of_mem _ (List.mem_cons_of_mem _ (List.mem_cons_of_mem _ (List.mem_cons_of_mem _ (List.mem_cons_of_mem _ (List.mem_cons_of_mem _ (List.mem_cons_of_mem _ (List.mem_cons_of_mem _ (List.Mem.head _)))))))))))))))))) kt_wf0))))))) (fun _ h => kt_wp_X8_init__X80 h))) kt_wg_X8_clear
set_option maxRecDepth 20000 in
theorem gX8_init_X8_clear : GoodIn wsX8_init (wsV RX8 18 RX8 yX8_clear wsX8_clear) := goodIn_app (a := [.methodLink RX8 18 yX8_clear, .instanceMethod yX8_clear, .selects RX8 yX8_clear yX8_clear, .initialized RX8]) (goodIn_sub (kt_wf1 (List.mem_cons_of_mem _ (List.mem_append_left _ (List.mem_cons_of_mem _ (List.mem_cons_of_mem _ (List.mem_cons_of_mem _ (List.mem_cons_of_mem _ (List.mem_cons_of_mem _ (List.mem_cons_of_mem _ (List.Mem.head _))))))))) (kt_wf1 (List.mem_cons_of_mem _ (List.mem_append_left _ (List.mem_cons_of_mem _ (List.mem_cons_of_mem _ (List.mem_cons_of_mem _ (List.mem_cons_of_mem _ (List.mem_cons_of_mem _ (List.mem_cons_of_mem _ (List.mem_cons_of_mem _ (List.Mem.head _)))))))))) (kt_wf1 (List.mem_cons_of_mem _ (List.mem_append_left _ (List.mem_cons_of_mem _ (List.mem_cons_of_mem _ (List.mem_cons_of_mem _ (List.mem_cons_of_mem _ (List.mem_cons_of_mem _ (List.mem_cons_of_mem _ (List.mem_cons_of_mem _ (List.mem_cons_of_mem _ (List.Mem.head _))))))))))) (kt_wf1 (List.mem_cons_of_mem _ (List.mem_append_left _ (List.mem_cons_of_mem _ (List.mem_cons_of_mem _ (List.mem_cons_of_mem _ (List.mem_cons_of_mem _ (List.mem_cons_of_mem _ (List.mem_cons_of_mem _ (List.mem_cons_of_mem _ (List.mem_cons_of_mem _ (List.mem_cons_of_mem _ (List.Mem.head _)))))))))))) kt_wf0)))) (by decide +kernel)) ggX8_init_X8_clear
theorem sX8_init_0 : kt_sg cX8_init 0 [42, 183, 0, 3, 42, 16, 40, 188, 10, 181, 0, 9, 42, 16, 81, 188, 10, 181, 0, 15, 42, 182, 0, 18, 177] = true := by decide +kernel
theorem dX8_init_0 : decode cX8_init 0 = .ok (.aload_n 0, 1) := kt_o42 (j := 0) sX8_init_0 rfl
theorem dX8_init_1 : decode cX8_init 1 = .ok (.invokespecial 3, 3) := kt_o183 (j := 1) sX8_init_0 rfl rfl
theorem dX8_init_4 : decode cX8_init 4 = .ok (.aload_n 0, 1) := kt_o42 (j := 4) sX8_init_0 rfl
theorem dX8_init_5 : decode cX8_init 5 = .ok (.bipush 40, 2) := kt_o16 (j := 5) sX8_init_0 rfl (by decide +kernel)
theorem dX8_init_7 : decode cX8_init 7 = .ok (.newarray .int, 2) := kt_o188_10 (j := 7) sX8_init_0 rfl
theorem dX8_init_9 : decode cX8_init 9 = .ok (.putfield 9, 3) := kt_o181 (j := 9) sX8_init_0 rfl rfl
theorem dX8_init_12 : decode cX8_init 12 = .ok (.aload_n 0, 1) := kt_o42 (j := 12) sX8_init_0 rfl
theorem dX8_init_13 : decode cX8_init 13 = .ok (.bipush 81, 2) := kt_o16 (j := 13) sX8_init_0 rfl (by decide +kernel)
theorem dX8_init_15 : decode cX8_init 15 = .ok (.newarray .int, 2) := kt_o188_10 (j := 15) sX8_init_0 rfl
theorem dX8_init_17 : decode cX8_init 17 = .ok (.putfield 15, 3) := kt_o181 (j := 17) sX8_init_0 rfl rfl
theorem dX8_init_20 : decode cX8_init 20 = .ok (.aload_n 0, 1) := kt_o42 (j := 20) sX8_init_0 rfl
theorem dX8_init_21 : decode cX8_init 21 = .ok (.invokevirtual 18, 3) := kt_o182 (j := 21) sX8_init_0 rfl rfl
theorem dX8_init_24 : decode cX8_init 24 = .ok (.return_, 1) := kt_o177 (j := 24) sX8_init_0 rfl
theorem kt_wp_X8_clear__X80 {w : Cond} (h : w ∈ wsX80) : w ∈ wsX8_clear := List.mem_cons_of_mem _ (List.mem_append_right _ (h))
set_option maxRecDepth 20000 in
theorem ggX8_clear_J7_fill_53178 : GoodIn wsX8_clear wsJ7_fill_53178 := goodIn_sub (kt_wf1 (List.mem_cons_of_mem _ (List.mem_append_left _ (List.mem_cons_of_mem _ (List.mem_cons_of_mem _ (List.mem_cons_of_mem _ (List.mem_cons_of_mem _ (List.mem_cons_of_mem _ (List.mem_cons_of_mem _ (List.Mem.head _))))))))) kt_wf0) kt_wg_J7_fill_53178
set_option maxRecDepth 20000 in
theorem gX8_clear_J7_fill_53178 : GoodIn wsX8_clear (va_wsS RX8 21 yJ7_fill_53178 wsJ7_fill_53178) := goodIn_app (goodIn_of _ (by decide +kernel)) ggX8_clear_J7_fill_53178
theorem sX8_clear_0 : kt_sg cX8_clear 0 [42, 180, 0, 9, 2, 184, 0, 21, 42, 180, 0, 15, 2, 184, 0, 21, 42, 3, 181, 0, 27, 177] = true := by decide +kernel
theorem dX8_clear_0 : decode cX8_clear 0 = .ok (.aload_n 0, 1) := kt_o42 (j := 0) sX8_clear_0 rfl
theorem dX8_clear_1 : decode cX8_clear 1 = .ok (.getfield 9, 3) := kt_o180 (j := 1) sX8_clear_0 rfl rfl
theorem dX8_clear_4 : decode cX8_clear 4 = .ok (.iconst (-1), 1) := kt_o2 (j := 4) sX8_clear_0 rfl
theorem dX8_clear_5 : decode cX8_clear 5 = .ok (.invokestatic 21, 3) := kt_o184 (j := 5) sX8_clear_0 rfl rfl
theorem dX8_clear_8 : decode cX8_clear 8 = .ok (.aload_n 0, 1) := kt_o42 (j := 8) sX8_clear_0 rfl
theorem dX8_clear_9 : decode cX8_clear 9 = .ok (.getfield 15, 3) := kt_o180 (j := 9) sX8_clear_0 rfl rfl
theorem dX8_clear_12 : decode cX8_clear 12 = .ok (.iconst (-1), 1) := kt_o2 (j := 12) sX8_clear_0 rfl
theorem dX8_clear_13 : decode cX8_clear 13 = .ok (.invokestatic 21, 3) := kt_o184 (j := 13) sX8_clear_0 rfl rfl
theorem dX8_clear_16 : decode cX8_clear 16 = .ok (.aload_n 0, 1) := kt_o42 (j := 16) sX8_clear_0 rfl
theorem dX8_clear_17 : decode cX8_clear 17 = .ok (.iconst 0, 1) := kt_o3 (j := 17) sX8_clear_0 rfl
theorem dX8_clear_18 : decode cX8_clear 18 = .ok (.putfield 27, 3) := kt_o181 (j := 18) sX8_clear_0 rfl rfl
theorem dX8_clear_21 : decode cX8_clear 21 = .ok (.return_, 1) := kt_o177 (j := 21) sX8_clear_0 rfl
theorem sX8_fieldOf_0 : kt_sg cX8_fieldOf 0 [27, 155, 0, 18, 27, 16, 40, 162, 0, 12, 42, 180, 0, 9, 27, 46, 167, 0, 4, 2, 172] = true := by decide +kernel
theorem dX8_fieldOf_0 : decode cX8_fieldOf 0 = .ok (.iload_n 1, 1) := kt_o27 (j := 0) sX8_fieldOf_0 rfl
theorem dX8_fieldOf_1 : decode cX8_fieldOf 1 = .ok (.ifCond .lt 18, 3) := kt_o155 (j := 1) sX8_fieldOf_0 rfl (by decide +kernel)
theorem dX8_fieldOf_4 : decode cX8_fieldOf 4 = .ok (.iload_n 1, 1) := kt_o27 (j := 4) sX8_fieldOf_0 rfl
theorem dX8_fieldOf_5 : decode cX8_fieldOf 5 = .ok (.bipush 40, 2) := kt_o16 (j := 5) sX8_fieldOf_0 rfl (by decide +kernel)
theorem dX8_fieldOf_7 : decode cX8_fieldOf 7 = .ok (.if_icmp .ge 12, 3) := kt_o162 (j := 7) sX8_fieldOf_0 rfl (by decide +kernel)
theorem dX8_fieldOf_10 : decode cX8_fieldOf 10 = .ok (.aload_n 0, 1) := kt_o42 (j := 10) sX8_fieldOf_0 rfl
theorem dX8_fieldOf_11 : decode cX8_fieldOf 11 = .ok (.getfield 9, 3) := kt_o180 (j := 11) sX8_fieldOf_0 rfl rfl
theorem dX8_fieldOf_14 : decode cX8_fieldOf 14 = .ok (.iload_n 1, 1) := kt_o27 (j := 14) sX8_fieldOf_0 rfl
theorem dX8_fieldOf_15 : decode cX8_fieldOf 15 = .ok (.iaload, 1) := kt_o46 (j := 15) sX8_fieldOf_0 rfl
theorem dX8_fieldOf_16 : decode cX8_fieldOf 16 = .ok (.goto 4, 3) := kt_o167 (j := 16) sX8_fieldOf_0 rfl (by decide +kernel)
theorem dX8_fieldOf_19 : decode cX8_fieldOf 19 = .ok (.iconst (-1), 1) := kt_o2 (j := 19) sX8_fieldOf_0 rfl
theorem dX8_fieldOf_20 : decode cX8_fieldOf 20 = .ok (.ireturn, 1) := kt_o172 (j := 20) sX8_fieldOf_0 rfl
theorem sX8_holderOf_0 : kt_sg cX8_holderOf 0 [27, 155, 0, 18, 27, 16, 81, 162, 0, 12, 42, 180, 0, 15, 27, 46, 167, 0, 4, 2, 172] = true := by decide +kernel
theorem dX8_holderOf_0 : decode cX8_holderOf 0 = .ok (.iload_n 1, 1) := kt_o27 (j := 0) sX8_holderOf_0 rfl
theorem dX8_holderOf_1 : decode cX8_holderOf 1 = .ok (.ifCond .lt 18, 3) := kt_o155 (j := 1) sX8_holderOf_0 rfl (by decide +kernel)
theorem dX8_holderOf_4 : decode cX8_holderOf 4 = .ok (.iload_n 1, 1) := kt_o27 (j := 4) sX8_holderOf_0 rfl
theorem dX8_holderOf_5 : decode cX8_holderOf 5 = .ok (.bipush 81, 2) := kt_o16 (j := 5) sX8_holderOf_0 rfl (by decide +kernel)
theorem dX8_holderOf_7 : decode cX8_holderOf 7 = .ok (.if_icmp .ge 12, 3) := kt_o162 (j := 7) sX8_holderOf_0 rfl (by decide +kernel)
theorem dX8_holderOf_10 : decode cX8_holderOf 10 = .ok (.aload_n 0, 1) := kt_o42 (j := 10) sX8_holderOf_0 rfl
theorem dX8_holderOf_11 : decode cX8_holderOf 11 = .ok (.getfield 15, 3) := kt_o180 (j := 11) sX8_holderOf_0 rfl rfl
theorem dX8_holderOf_14 : decode cX8_holderOf 14 = .ok (.iload_n 1, 1) := kt_o27 (j := 14) sX8_holderOf_0 rfl
theorem dX8_holderOf_15 : decode cX8_holderOf 15 = .ok (.iaload, 1) := kt_o46 (j := 15) sX8_holderOf_0 rfl
theorem dX8_holderOf_16 : decode cX8_holderOf 16 = .ok (.goto 4, 3) := kt_o167 (j := 16) sX8_holderOf_0 rfl (by decide +kernel)
theorem dX8_holderOf_19 : decode cX8_holderOf 19 = .ok (.iconst (-1), 1) := kt_o2 (j := 19) sX8_holderOf_0 rfl
theorem dX8_holderOf_20 : decode cX8_holderOf 20 = .ok (.ireturn, 1) := kt_o172 (j := 20) sX8_holderOf_0 rfl
theorem sX8_place_0 : kt_sg cX8_place 0 [27, 155, 0, 9, 27, 16, 40, 161, 0, 4, 177, 42, 180, 0, 9, 27, 46, 62, 29, 155, 0, 16, 29, 16, 81, 162, 0, 10, 42, 180, 0, 15, 29, 2, 79, 42, 180, 0, 9, 27, 28, 79, 28, 155, 0, 16, 28, 16, 81, 162, 0, 10, 42, 180, 0, 15, 28, 27, 79, 177] = true := by decide +kernel
theorem dX8_place_0 : decode cX8_place 0 = .ok (.iload_n 1, 1) := kt_o27 (j := 0) sX8_place_0 rfl
theorem dX8_place_1 : decode cX8_place 1 = .ok (.ifCond .lt 9, 3) := kt_o155 (j := 1) sX8_place_0 rfl (by decide +kernel)
theorem dX8_place_4 : decode cX8_place 4 = .ok (.iload_n 1, 1) := kt_o27 (j := 4) sX8_place_0 rfl
theorem dX8_place_5 : decode cX8_place 5 = .ok (.bipush 40, 2) := kt_o16 (j := 5) sX8_place_0 rfl (by decide +kernel)
theorem dX8_place_7 : decode cX8_place 7 = .ok (.if_icmp .lt 4, 3) := kt_o161 (j := 7) sX8_place_0 rfl (by decide +kernel)
theorem dX8_place_10 : decode cX8_place 10 = .ok (.return_, 1) := kt_o177 (j := 10) sX8_place_0 rfl
theorem dX8_place_11 : decode cX8_place 11 = .ok (.aload_n 0, 1) := kt_o42 (j := 11) sX8_place_0 rfl
theorem dX8_place_12 : decode cX8_place 12 = .ok (.getfield 9, 3) := kt_o180 (j := 12) sX8_place_0 rfl rfl
theorem dX8_place_15 : decode cX8_place 15 = .ok (.iload_n 1, 1) := kt_o27 (j := 15) sX8_place_0 rfl
theorem dX8_place_16 : decode cX8_place 16 = .ok (.iaload, 1) := kt_o46 (j := 16) sX8_place_0 rfl
theorem dX8_place_17 : decode cX8_place 17 = .ok (.istore_n 3, 1) := kt_o62 (j := 17) sX8_place_0 rfl
theorem dX8_place_18 : decode cX8_place 18 = .ok (.iload_n 3, 1) := kt_o29 (j := 18) sX8_place_0 rfl
theorem dX8_place_19 : decode cX8_place 19 = .ok (.ifCond .lt 16, 3) := kt_o155 (j := 19) sX8_place_0 rfl (by decide +kernel)
theorem dX8_place_22 : decode cX8_place 22 = .ok (.iload_n 3, 1) := kt_o29 (j := 22) sX8_place_0 rfl
theorem dX8_place_23 : decode cX8_place 23 = .ok (.bipush 81, 2) := kt_o16 (j := 23) sX8_place_0 rfl (by decide +kernel)
theorem dX8_place_25 : decode cX8_place 25 = .ok (.if_icmp .ge 10, 3) := kt_o162 (j := 25) sX8_place_0 rfl (by decide +kernel)
theorem dX8_place_28 : decode cX8_place 28 = .ok (.aload_n 0, 1) := kt_o42 (j := 28) sX8_place_0 rfl
theorem dX8_place_29 : decode cX8_place 29 = .ok (.getfield 15, 3) := kt_o180 (j := 29) sX8_place_0 rfl rfl
theorem dX8_place_32 : decode cX8_place 32 = .ok (.iload_n 3, 1) := kt_o29 (j := 32) sX8_place_0 rfl
theorem dX8_place_33 : decode cX8_place 33 = .ok (.iconst (-1), 1) := kt_o2 (j := 33) sX8_place_0 rfl
theorem dX8_place_34 : decode cX8_place 34 = .ok (.iastore, 1) := kt_o79 (j := 34) sX8_place_0 rfl
theorem dX8_place_35 : decode cX8_place 35 = .ok (.aload_n 0, 1) := kt_o42 (j := 35) sX8_place_0 rfl
theorem dX8_place_36 : decode cX8_place 36 = .ok (.getfield 9, 3) := kt_o180 (j := 36) sX8_place_0 rfl rfl
theorem dX8_place_39 : decode cX8_place 39 = .ok (.iload_n 1, 1) := kt_o27 (j := 39) sX8_place_0 rfl
theorem dX8_place_40 : decode cX8_place 40 = .ok (.iload_n 2, 1) := kt_o28 (j := 40) sX8_place_0 rfl
theorem dX8_place_41 : decode cX8_place 41 = .ok (.iastore, 1) := kt_o79 (j := 41) sX8_place_0 rfl
theorem dX8_place_42 : decode cX8_place 42 = .ok (.iload_n 2, 1) := kt_o28 (j := 42) sX8_place_0 rfl
theorem dX8_place_43 : decode cX8_place 43 = .ok (.ifCond .lt 16, 3) := kt_o155 (j := 43) sX8_place_0 rfl (by decide +kernel)
theorem dX8_place_46 : decode cX8_place 46 = .ok (.iload_n 2, 1) := kt_o28 (j := 46) sX8_place_0 rfl
theorem dX8_place_47 : decode cX8_place 47 = .ok (.bipush 81, 2) := kt_o16 (j := 47) sX8_place_0 rfl (by decide +kernel)
theorem dX8_place_49 : decode cX8_place 49 = .ok (.if_icmp .ge 10, 3) := kt_o162 (j := 49) sX8_place_0 rfl (by decide +kernel)
theorem dX8_place_52 : decode cX8_place 52 = .ok (.aload_n 0, 1) := kt_o42 (j := 52) sX8_place_0 rfl
theorem dX8_place_53 : decode cX8_place 53 = .ok (.getfield 15, 3) := kt_o180 (j := 53) sX8_place_0 rfl rfl
theorem dX8_place_56 : decode cX8_place 56 = .ok (.iload_n 2, 1) := kt_o28 (j := 56) sX8_place_0 rfl
theorem dX8_place_57 : decode cX8_place 57 = .ok (.iload_n 1, 1) := kt_o27 (j := 57) sX8_place_0 rfl
theorem dX8_place_58 : decode cX8_place 58 = .ok (.iastore, 1) := kt_o79 (j := 58) sX8_place_0 rfl
theorem dX8_place_59 : decode cX8_place 59 = .ok (.return_, 1) := kt_o177 (j := 59) sX8_place_0 rfl
theorem sX9_init_0 : kt_sg cX9_init 0 [42, 183, 0, 3, 42, 16, 81, 188, 10, 181, 0, 9, 42, 6, 181, 0, 15, 42, 6, 181, 0, 19, 177] = true := by decide +kernel
theorem dX9_init_0 : decode cX9_init 0 = .ok (.aload_n 0, 1) := kt_o42 (j := 0) sX9_init_0 rfl
theorem dX9_init_1 : decode cX9_init 1 = .ok (.invokespecial 3, 3) := kt_o183 (j := 1) sX9_init_0 rfl rfl
theorem dX9_init_4 : decode cX9_init 4 = .ok (.aload_n 0, 1) := kt_o42 (j := 4) sX9_init_0 rfl
theorem dX9_init_5 : decode cX9_init 5 = .ok (.bipush 81, 2) := kt_o16 (j := 5) sX9_init_0 rfl (by decide +kernel)
theorem dX9_init_7 : decode cX9_init 7 = .ok (.newarray .int, 2) := kt_o188_10 (j := 7) sX9_init_0 rfl
theorem dX9_init_9 : decode cX9_init 9 = .ok (.putfield 9, 3) := kt_o181 (j := 9) sX9_init_0 rfl rfl
theorem dX9_init_12 : decode cX9_init 12 = .ok (.aload_n 0, 1) := kt_o42 (j := 12) sX9_init_0 rfl
theorem dX9_init_13 : decode cX9_init 13 = .ok (.iconst 3, 1) := kt_o6 (j := 13) sX9_init_0 rfl
theorem dX9_init_14 : decode cX9_init 14 = .ok (.putfield 15, 3) := kt_o181 (j := 14) sX9_init_0 rfl rfl
theorem dX9_init_17 : decode cX9_init 17 = .ok (.aload_n 0, 1) := kt_o42 (j := 17) sX9_init_0 rfl
theorem dX9_init_18 : decode cX9_init 18 = .ok (.iconst 3, 1) := kt_o6 (j := 18) sX9_init_0 rfl
theorem dX9_init_19 : decode cX9_init 19 = .ok (.putfield 19, 3) := kt_o181 (j := 19) sX9_init_0 rfl rfl
theorem dX9_init_22 : decode cX9_init 22 = .ok (.return_, 1) := kt_o177 (j := 22) sX9_init_0 rfl
theorem sX9_size_0 : kt_sg cX9_size 0 [42, 180, 0, 15, 42, 180, 0, 19, 104, 172] = true := by decide +kernel
theorem dX9_size_0 : decode cX9_size 0 = .ok (.aload_n 0, 1) := kt_o42 (j := 0) sX9_size_0 rfl
theorem dX9_size_1 : decode cX9_size 1 = .ok (.getfield 15, 3) := kt_o180 (j := 1) sX9_size_0 rfl rfl
theorem dX9_size_4 : decode cX9_size 4 = .ok (.aload_n 0, 1) := kt_o42 (j := 4) sX9_size_0 rfl
theorem dX9_size_5 : decode cX9_size 5 = .ok (.getfield 19, 3) := kt_o180 (j := 5) sX9_size_0 rfl rfl
theorem dX9_size_8 : decode cX9_size 8 = .ok (.imul, 1) := kt_o104 (j := 8) sX9_size_0 rfl
theorem dX9_size_9 : decode cX9_size 9 = .ok (.ireturn, 1) := kt_o172 (j := 9) sX9_size_0 rfl
theorem kt_wp_X9_renew__X90 {w : Cond} (h : w ∈ wsX90) : w ∈ wsX9_renew := List.mem_cons_of_mem _ (List.mem_append_right _ (h))
set_option maxRecDepth 20000 in
theorem kt_wg_X9_isSpan : wsX9_isSpan.all goodWord = true := by decide +kernel
set_option maxRecDepth 20000 in
theorem ggX9_renew_X9_isSpan : GoodIn wsX9_renew wsX9_isSpan := goodIn_sub (kt_wf1 (List.mem_cons_of_mem _ (List.mem_append_left _ (List.mem_cons_of_mem _ (List.mem_cons_of_mem _ (List.mem_cons_of_mem _ (List.mem_cons_of_mem _ (List.mem_cons_of_mem _ (List.mem_cons_of_mem _ (List.Mem.head _))))))))) kt_wf0) kt_wg_X9_isSpan
set_option maxRecDepth 20000 in
theorem gX9_renew_X9_isSpan : GoodIn wsX9_renew (va_wsS RX9 22 yX9_isSpan wsX9_isSpan) := goodIn_app (goodIn_of _ (by decide +kernel)) ggX9_renew_X9_isSpan
set_option maxRecDepth 20000 in
theorem ggX9_renew_J7_fill_53178 : GoodIn wsX9_renew wsJ7_fill_53178 := goodIn_sub (kt_wf1 (List.mem_cons_of_mem _ (List.mem_append_left _ (List.mem_cons_of_mem _ (List.mem_cons_of_mem _ (List.mem_cons_of_mem _ (List.mem_cons_of_mem _ (List.mem_cons_of_mem _ (List.mem_cons_of_mem _ (List.mem_cons_of_mem _ (List.mem_cons_of_mem _ (List.mem_cons_of_mem _ (List.mem_cons_of_mem _ (List.Mem.head _))))))))))))) kt_wf0) kt_wg_J7_fill_53178
set_option maxRecDepth 20000 in
theorem gX9_renew_J7_fill_53178 : GoodIn wsX9_renew (va_wsS RX9 26 yJ7_fill_53178 wsJ7_fill_53178) := goodIn_app (goodIn_of _ (by decide +kernel)) ggX9_renew_J7_fill_53178
theorem sX9_renew_0 : kt_sg cX9_renew 0 [27, 184, 0, 22, 153, 0, 10, 28, 184, 0, 22, 154, 0, 5, 3, 172, 42, 27, 181, 0, 15, 42, 28, 181, 0, 19, 42, 180, 0, 9, 3, 184, 0, 26, 4, 172] = true := by decide +kernel
theorem dX9_renew_0 : decode cX9_renew 0 = .ok (.iload_n 1, 1) := kt_o27 (j := 0) sX9_renew_0 rfl
theorem dX9_renew_1 : decode cX9_renew 1 = .ok (.invokestatic 22, 3) := kt_o184 (j := 1) sX9_renew_0 rfl rfl
theorem dX9_renew_4 : decode cX9_renew 4 = .ok (.ifCond .eq 10, 3) := kt_o153 (j := 4) sX9_renew_0 rfl (by decide +kernel)
theorem dX9_renew_7 : decode cX9_renew 7 = .ok (.iload_n 2, 1) := kt_o28 (j := 7) sX9_renew_0 rfl
theorem dX9_renew_8 : decode cX9_renew 8 = .ok (.invokestatic 22, 3) := kt_o184 (j := 8) sX9_renew_0 rfl rfl
theorem dX9_renew_11 : decode cX9_renew 11 = .ok (.ifCond .ne 5, 3) := kt_o154 (j := 11) sX9_renew_0 rfl (by decide +kernel)
theorem dX9_renew_14 : decode cX9_renew 14 = .ok (.iconst 0, 1) := kt_o3 (j := 14) sX9_renew_0 rfl
theorem dX9_renew_15 : decode cX9_renew 15 = .ok (.ireturn, 1) := kt_o172 (j := 15) sX9_renew_0 rfl
theorem dX9_renew_16 : decode cX9_renew 16 = .ok (.aload_n 0, 1) := kt_o42 (j := 16) sX9_renew_0 rfl
theorem dX9_renew_17 : decode cX9_renew 17 = .ok (.iload_n 1, 1) := kt_o27 (j := 17) sX9_renew_0 rfl
theorem dX9_renew_18 : decode cX9_renew 18 = .ok (.putfield 15, 3) := kt_o181 (j := 18) sX9_renew_0 rfl rfl
theorem dX9_renew_21 : decode cX9_renew 21 = .ok (.aload_n 0, 1) := kt_o42 (j := 21) sX9_renew_0 rfl
theorem dX9_renew_22 : decode cX9_renew 22 = .ok (.iload_n 2, 1) := kt_o28 (j := 22) sX9_renew_0 rfl
theorem dX9_renew_23 : decode cX9_renew 23 = .ok (.putfield 19, 3) := kt_o181 (j := 23) sX9_renew_0 rfl rfl
theorem dX9_renew_26 : decode cX9_renew 26 = .ok (.aload_n 0, 1) := kt_o42 (j := 26) sX9_renew_0 rfl
theorem dX9_renew_27 : decode cX9_renew 27 = .ok (.getfield 9, 3) := kt_o180 (j := 27) sX9_renew_0 rfl rfl
theorem dX9_renew_30 : decode cX9_renew 30 = .ok (.iconst 0, 1) := kt_o3 (j := 30) sX9_renew_0 rfl
theorem dX9_renew_31 : decode cX9_renew 31 = .ok (.invokestatic 26, 3) := kt_o184 (j := 31) sX9_renew_0 rfl rfl
theorem dX9_renew_34 : decode cX9_renew 34 = .ok (.iconst 1, 1) := kt_o4 (j := 34) sX9_renew_0 rfl
theorem dX9_renew_35 : decode cX9_renew 35 = .ok (.ireturn, 1) := kt_o172 (j := 35) sX9_renew_0 rfl
theorem sX9_isSpan_0 : kt_sg cX9_isSpan 0 [26, 5, 161, 0, 13, 26, 16, 9, 163, 0, 7, 4, 167, 0, 4, 3, 172] = true := by decide +kernel
theorem dX9_isSpan_0 : decode cX9_isSpan 0 = .ok (.iload_n 0, 1) := kt_o26 (j := 0) sX9_isSpan_0 rfl
theorem dX9_isSpan_1 : decode cX9_isSpan 1 = .ok (.iconst 2, 1) := kt_o5 (j := 1) sX9_isSpan_0 rfl
theorem dX9_isSpan_2 : decode cX9_isSpan 2 = .ok (.if_icmp .lt 13, 3) := kt_o161 (j := 2) sX9_isSpan_0 rfl (by decide +kernel)
theorem dX9_isSpan_5 : decode cX9_isSpan 5 = .ok (.iload_n 0, 1) := kt_o26 (j := 5) sX9_isSpan_0 rfl
theorem dX9_isSpan_6 : decode cX9_isSpan 6 = .ok (.bipush 9, 2) := kt_o16 (j := 6) sX9_isSpan_0 rfl (by decide +kernel)
theorem dX9_isSpan_8 : decode cX9_isSpan 8 = .ok (.if_icmp .gt 7, 3) := kt_o163 (j := 8) sX9_isSpan_0 rfl (by decide +kernel)
theorem dX9_isSpan_11 : decode cX9_isSpan 11 = .ok (.iconst 1, 1) := kt_o4 (j := 11) sX9_isSpan_0 rfl
theorem dX9_isSpan_12 : decode cX9_isSpan 12 = .ok (.goto 4, 3) := kt_o167 (j := 12) sX9_isSpan_0 rfl (by decide +kernel)
theorem dX9_isSpan_15 : decode cX9_isSpan 15 = .ok (.iconst 0, 1) := kt_o3 (j := 15) sX9_isSpan_0 rfl
theorem dX9_isSpan_16 : decode cX9_isSpan 16 = .ok (.ireturn, 1) := kt_o172 (j := 16) sX9_isSpan_0 rfl
theorem sX9_tell_0 : kt_sg cX9_tell 0 [27, 155, 0, 23, 27, 42, 180, 0, 15, 162, 0, 15, 28, 155, 0, 11, 28, 42, 180, 0, 19, 164, 0, 5, 3, 172, 3, 54, 4, 21, 4, 42, 180, 0, 19, 162, 0, 42, 42, 180, 0, 9, 27, 42, 180, 0, 19, 104, 21, 4, 96, 21, 4, 28, 162, 0, 15, 29, 6, 21, 4, 104, 122, 16, 7] = true := by decide +kernel
theorem dX9_tell_0 : decode cX9_tell 0 = .ok (.iload_n 1, 1) := kt_o27 (j := 0) sX9_tell_0 rfl
theorem dX9_tell_1 : decode cX9_tell 1 = .ok (.ifCond .lt 23, 3) := kt_o155 (j := 1) sX9_tell_0 rfl (by decide +kernel)
theorem dX9_tell_4 : decode cX9_tell 4 = .ok (.iload_n 1, 1) := kt_o27 (j := 4) sX9_tell_0 rfl
theorem dX9_tell_5 : decode cX9_tell 5 = .ok (.aload_n 0, 1) := kt_o42 (j := 5) sX9_tell_0 rfl
theorem dX9_tell_6 : decode cX9_tell 6 = .ok (.getfield 15, 3) := kt_o180 (j := 6) sX9_tell_0 rfl rfl
theorem dX9_tell_9 : decode cX9_tell 9 = .ok (.if_icmp .ge 15, 3) := kt_o162 (j := 9) sX9_tell_0 rfl (by decide +kernel)
theorem dX9_tell_12 : decode cX9_tell 12 = .ok (.iload_n 2, 1) := kt_o28 (j := 12) sX9_tell_0 rfl
theorem dX9_tell_13 : decode cX9_tell 13 = .ok (.ifCond .lt 11, 3) := kt_o155 (j := 13) sX9_tell_0 rfl (by decide +kernel)
theorem dX9_tell_16 : decode cX9_tell 16 = .ok (.iload_n 2, 1) := kt_o28 (j := 16) sX9_tell_0 rfl
theorem dX9_tell_17 : decode cX9_tell 17 = .ok (.aload_n 0, 1) := kt_o42 (j := 17) sX9_tell_0 rfl
theorem dX9_tell_18 : decode cX9_tell 18 = .ok (.getfield 19, 3) := kt_o180 (j := 18) sX9_tell_0 rfl rfl
theorem dX9_tell_21 : decode cX9_tell 21 = .ok (.if_icmp .le 5, 3) := kt_o164 (j := 21) sX9_tell_0 rfl (by decide +kernel)
theorem dX9_tell_24 : decode cX9_tell 24 = .ok (.iconst 0, 1) := kt_o3 (j := 24) sX9_tell_0 rfl
theorem dX9_tell_25 : decode cX9_tell 25 = .ok (.ireturn, 1) := kt_o172 (j := 25) sX9_tell_0 rfl
theorem dX9_tell_26 : decode cX9_tell 26 = .ok (.iconst 0, 1) := kt_o3 (j := 26) sX9_tell_0 rfl
theorem dX9_tell_27 : decode cX9_tell 27 = .ok (.istore 4, 2) := kt_o54 (j := 27) sX9_tell_0 rfl
theorem dX9_tell_29 : decode cX9_tell 29 = .ok (.iload 4, 2) := kt_o21 (j := 29) sX9_tell_0 rfl
theorem dX9_tell_31 : decode cX9_tell 31 = .ok (.aload_n 0, 1) := kt_o42 (j := 31) sX9_tell_0 rfl
theorem dX9_tell_32 : decode cX9_tell 32 = .ok (.getfield 19, 3) := kt_o180 (j := 32) sX9_tell_0 rfl rfl
theorem dX9_tell_35 : decode cX9_tell 35 = .ok (.if_icmp .ge 42, 3) := kt_o162 (j := 35) sX9_tell_0 rfl (by decide +kernel)
theorem dX9_tell_38 : decode cX9_tell 38 = .ok (.aload_n 0, 1) := kt_o42 (j := 38) sX9_tell_0 rfl
theorem dX9_tell_39 : decode cX9_tell 39 = .ok (.getfield 9, 3) := kt_o180 (j := 39) sX9_tell_0 rfl rfl
theorem dX9_tell_42 : decode cX9_tell 42 = .ok (.iload_n 1, 1) := kt_o27 (j := 42) sX9_tell_0 rfl
theorem dX9_tell_43 : decode cX9_tell 43 = .ok (.aload_n 0, 1) := kt_o42 (j := 43) sX9_tell_0 rfl
theorem dX9_tell_44 : decode cX9_tell 44 = .ok (.getfield 19, 3) := kt_o180 (j := 44) sX9_tell_0 rfl rfl
theorem dX9_tell_47 : decode cX9_tell 47 = .ok (.imul, 1) := kt_o104 (j := 47) sX9_tell_0 rfl
theorem dX9_tell_48 : decode cX9_tell 48 = .ok (.iload 4, 2) := kt_o21 (j := 48) sX9_tell_0 rfl
theorem dX9_tell_50 : decode cX9_tell 50 = .ok (.iadd, 1) := kt_o96 (j := 50) sX9_tell_0 rfl
theorem dX9_tell_51 : decode cX9_tell 51 = .ok (.iload 4, 2) := kt_o21 (j := 51) sX9_tell_0 rfl
theorem dX9_tell_53 : decode cX9_tell 53 = .ok (.iload_n 2, 1) := kt_o28 (j := 53) sX9_tell_0 rfl
theorem dX9_tell_54 : decode cX9_tell 54 = .ok (.if_icmp .ge 15, 3) := kt_o162 (j := 54) sX9_tell_0 rfl (by decide +kernel)
theorem dX9_tell_57 : decode cX9_tell 57 = .ok (.iload_n 3, 1) := kt_o29 (j := 57) sX9_tell_0 rfl
theorem dX9_tell_58 : decode cX9_tell 58 = .ok (.iconst 3, 1) := kt_o6 (j := 58) sX9_tell_0 rfl
theorem dX9_tell_59 : decode cX9_tell 59 = .ok (.iload 4, 2) := kt_o21 (j := 59) sX9_tell_0 rfl
theorem dX9_tell_61 : decode cX9_tell 61 = .ok (.imul, 1) := kt_o104 (j := 61) sX9_tell_0 rfl
theorem dX9_tell_62 : decode cX9_tell 62 = .ok (.ishr, 1) := kt_o122 (j := 62) sX9_tell_0 rfl
theorem dX9_tell_63 : decode cX9_tell 63 = .ok (.bipush 7, 2) := kt_o16 (j := 63) sX9_tell_0 rfl (by decide +kernel)
theorem sX9_tell_65 : kt_sg cX9_tell 65 [126, 167, 0, 4, 3, 79, 132, 4, 1, 167, 255, 211, 4, 172] = true := by decide +kernel
theorem dX9_tell_65 : decode cX9_tell 65 = .ok (.iand, 1) := kt_o126 (j := 0) sX9_tell_65 rfl
theorem dX9_tell_66 : decode cX9_tell 66 = .ok (.goto 4, 3) := kt_o167 (j := 1) sX9_tell_65 rfl (by decide +kernel)
theorem dX9_tell_69 : decode cX9_tell 69 = .ok (.iconst 0, 1) := kt_o3 (j := 4) sX9_tell_65 rfl
theorem dX9_tell_70 : decode cX9_tell 70 = .ok (.iastore, 1) := kt_o79 (j := 5) sX9_tell_65 rfl
theorem dX9_tell_71 : decode cX9_tell 71 = .ok (.iinc 4 1, 3) := kt_o132 (j := 6) sX9_tell_65 rfl (by decide +kernel)
theorem dX9_tell_74 : decode cX9_tell 74 = .ok (.goto (-45), 3) := kt_o167 (j := 9) sX9_tell_65 rfl (by decide +kernel)
theorem dX9_tell_77 : decode cX9_tell 77 = .ok (.iconst 1, 1) := kt_o4 (j := 12) sX9_tell_65 rfl
theorem dX9_tell_78 : decode cX9_tell 78 = .ok (.ireturn, 1) := kt_o172 (j := 13) sX9_tell_65 rfl
theorem kt_wp_X9_canBegin__X90 {w : Cond} (h : w ∈ wsX90) : w ∈ wsX9_canBegin := List.mem_cons_of_mem _ (List.mem_append_right _ (h))
set_option maxRecDepth 20000 in
theorem ggX9_canBegin_X9_size : GoodIn wsX9_canBegin wsX9_size := goodIn_sub (kt_wf1 (List.mem_cons_of_mem _ (List.mem_append_left _ (List.mem_cons_of_mem _ (List.mem_cons_of_mem _ (List.mem_cons_of_mem _ (List.mem_cons_of_mem _ (List.mem_cons_of_mem _ (List.Mem.head _)))))))) (kt_wfa (kt_wf1 (List.mem_cons_of_mem _ (List.mem_append_left _ (List.mem_cons_of_mem _ (List.mem_cons_of_mem _ (List.mem_cons_of_mem _ (List.mem_cons_of_mem _ (List.mem_cons_of_mem _ (List.mem_cons_of_mem _ (List.Mem.head _))))))))) (kt_wf1 (List.mem_cons_of_mem _ (List.mem_append_left _ (List.mem_cons_of_mem _ (List.mem_cons_of_mem _ (List.mem_cons_of_mem _ (List.mem_cons_of_mem _ (List.mem_cons_of_mem _ (List.mem_cons_of_mem _ (List.mem_cons_of_mem _ (List.Mem.head _)))))))))) kt_wf0)) (fun _ h => kt_wp_X9_canBegin__X90 h))) kt_wg_X9_size
set_option maxRecDepth 20000 in
theorem gX9_canBegin_X9_size : GoodIn wsX9_canBegin (wsV RX9 32 RX9 yX9_size wsX9_size) := goodIn_app (a := [.methodLink RX9 32 yX9_size, .instanceMethod yX9_size, .selects RX9 yX9_size yX9_size, .initialized RX9]) (goodIn_sub (kt_wf1 (List.mem_cons_of_mem _ (List.mem_append_left _ (List.mem_cons_of_mem _ (List.Mem.head _)))) (kt_wf1 (List.mem_cons_of_mem _ (List.mem_append_left _ (List.mem_cons_of_mem _ (List.mem_cons_of_mem _ (List.Mem.head _))))) (kt_wf1 (List.mem_cons_of_mem _ (List.mem_append_left _ (List.mem_cons_of_mem _ (List.mem_cons_of_mem _ (List.mem_cons_of_mem _ (List.Mem.head _)))))) (kt_wf1 (List.mem_cons_of_mem _ (List.mem_append_left _ (List.mem_cons_of_mem _ (List.mem_cons_of_mem _ (List.mem_cons_of_mem _ (List.mem_cons_of_mem _ (List.Mem.head _))))))) kt_wf0)))) (by decide +kernel)) ggX9_canBegin_X9_size
set_option maxRecDepth 20000 in
theorem ggX9_canBegin_X10_kindOfSign : GoodIn wsX9_canBegin wsX10_kindOfSign := goodIn_sub (kt_wf1 (List.mem_cons_of_mem _ (List.mem_append_left _ (List.mem_cons_of_mem _ (List.mem_cons_of_mem _ (List.mem_cons_of_mem _ (List.mem_cons_of_mem _ (List.mem_cons_of_mem _ (List.mem_cons_of_mem _ (List.mem_cons_of_mem _ (List.mem_cons_of_mem _ (List.mem_cons_of_mem _ (List.mem_cons_of_mem _ (List.Mem.head _))))))))))))) kt_wf0) kt_wg_X10_kindOfSign
set_option maxRecDepth 20000 in
theorem gX9_canBegin_X10_kindOfSign_n36 : GoodIn wsX9_canBegin (wsX10_kindOfSign) := ggX9_canBegin_X10_kindOfSign
set_option maxRecDepth 20000 in
theorem ggX9_canBegin_X10_typeOfSign : GoodIn wsX9_canBegin wsX10_typeOfSign := goodIn_sub (kt_wf1 (List.mem_cons_of_mem _ (List.mem_append_left _ (List.mem_cons_of_mem _ (List.mem_cons_of_mem _ (List.mem_cons_of_mem _ (List.mem_cons_of_mem _ (List.mem_cons_of_mem _ (List.mem_cons_of_mem _ (List.mem_cons_of_mem _ (List.mem_cons_of_mem _ (List.mem_cons_of_mem _ (List.mem_cons_of_mem _ (List.mem_cons_of_mem _ (List.mem_cons_of_mem _ (List.Mem.head _))))))))))))))) kt_wf0) kt_wg_X10_typeOfSign
set_option maxRecDepth 20000 in
theorem gX9_canBegin_X10_typeOfSign_n40 : GoodIn wsX9_canBegin (wsX10_typeOfSign) := ggX9_canBegin_X10_typeOfSign
theorem sX9_canBegin_0 : kt_sg cX9_canBegin 0 [3, 60, 3, 61, 3, 62, 3, 54, 4, 42, 182, 0, 32, 54, 5, 3, 54, 6, 21, 6, 21, 5, 162, 0, 92, 42, 180, 0, 9, 21, 6, 46, 184, 0, 36, 54, 7, 27, 21, 7, 5, 160, 0, 7, 4, 167, 0, 4, 3, 96, 60, 28, 21, 7, 6, 159, 0, 9, 21, 7, 7, 160, 0, 7] = true := by decide +kernel
theorem dX9_canBegin_0 : decode cX9_canBegin 0 = .ok (.iconst 0, 1) := kt_o3 (j := 0) sX9_canBegin_0 rfl
theorem dX9_canBegin_1 : decode cX9_canBegin 1 = .ok (.istore_n 1, 1) := kt_o60 (j := 1) sX9_canBegin_0 rfl
theorem dX9_canBegin_2 : decode cX9_canBegin 2 = .ok (.iconst 0, 1) := kt_o3 (j := 2) sX9_canBegin_0 rfl
theorem dX9_canBegin_3 : decode cX9_canBegin 3 = .ok (.istore_n 2, 1) := kt_o61 (j := 3) sX9_canBegin_0 rfl
theorem dX9_canBegin_4 : decode cX9_canBegin 4 = .ok (.iconst 0, 1) := kt_o3 (j := 4) sX9_canBegin_0 rfl
theorem dX9_canBegin_5 : decode cX9_canBegin 5 = .ok (.istore_n 3, 1) := kt_o62 (j := 5) sX9_canBegin_0 rfl
theorem dX9_canBegin_6 : decode cX9_canBegin 6 = .ok (.iconst 0, 1) := kt_o3 (j := 6) sX9_canBegin_0 rfl
theorem dX9_canBegin_7 : decode cX9_canBegin 7 = .ok (.istore 4, 2) := kt_o54 (j := 7) sX9_canBegin_0 rfl
theorem dX9_canBegin_9 : decode cX9_canBegin 9 = .ok (.aload_n 0, 1) := kt_o42 (j := 9) sX9_canBegin_0 rfl
theorem dX9_canBegin_10 : decode cX9_canBegin 10 = .ok (.invokevirtual 32, 3) := kt_o182 (j := 10) sX9_canBegin_0 rfl rfl
theorem dX9_canBegin_13 : decode cX9_canBegin 13 = .ok (.istore 5, 2) := kt_o54 (j := 13) sX9_canBegin_0 rfl
theorem dX9_canBegin_15 : decode cX9_canBegin 15 = .ok (.iconst 0, 1) := kt_o3 (j := 15) sX9_canBegin_0 rfl
theorem dX9_canBegin_16 : decode cX9_canBegin 16 = .ok (.istore 6, 2) := kt_o54 (j := 16) sX9_canBegin_0 rfl
theorem dX9_canBegin_18 : decode cX9_canBegin 18 = .ok (.iload 6, 2) := kt_o21 (j := 18) sX9_canBegin_0 rfl
theorem dX9_canBegin_20 : decode cX9_canBegin 20 = .ok (.iload 5, 2) := kt_o21 (j := 20) sX9_canBegin_0 rfl
theorem dX9_canBegin_22 : decode cX9_canBegin 22 = .ok (.if_icmp .ge 92, 3) := kt_o162 (j := 22) sX9_canBegin_0 rfl (by decide +kernel)
theorem dX9_canBegin_25 : decode cX9_canBegin 25 = .ok (.aload_n 0, 1) := kt_o42 (j := 25) sX9_canBegin_0 rfl
theorem dX9_canBegin_26 : decode cX9_canBegin 26 = .ok (.getfield 9, 3) := kt_o180 (j := 26) sX9_canBegin_0 rfl rfl
theorem dX9_canBegin_29 : decode cX9_canBegin 29 = .ok (.iload 6, 2) := kt_o21 (j := 29) sX9_canBegin_0 rfl
theorem dX9_canBegin_31 : decode cX9_canBegin 31 = .ok (.iaload, 1) := kt_o46 (j := 31) sX9_canBegin_0 rfl
theorem dX9_canBegin_32 : decode cX9_canBegin 32 = .ok (.invokestatic 36, 3) := kt_o184 (j := 32) sX9_canBegin_0 rfl rfl
theorem dX9_canBegin_35 : decode cX9_canBegin 35 = .ok (.istore 7, 2) := kt_o54 (j := 35) sX9_canBegin_0 rfl
theorem dX9_canBegin_37 : decode cX9_canBegin 37 = .ok (.iload_n 1, 1) := kt_o27 (j := 37) sX9_canBegin_0 rfl
theorem dX9_canBegin_38 : decode cX9_canBegin 38 = .ok (.iload 7, 2) := kt_o21 (j := 38) sX9_canBegin_0 rfl
theorem dX9_canBegin_40 : decode cX9_canBegin 40 = .ok (.iconst 2, 1) := kt_o5 (j := 40) sX9_canBegin_0 rfl
theorem dX9_canBegin_41 : decode cX9_canBegin 41 = .ok (.if_icmp .ne 7, 3) := kt_o160 (j := 41) sX9_canBegin_0 rfl (by decide +kernel)
theorem dX9_canBegin_44 : decode cX9_canBegin 44 = .ok (.iconst 1, 1) := kt_o4 (j := 44) sX9_canBegin_0 rfl
theorem dX9_canBegin_45 : decode cX9_canBegin 45 = .ok (.goto 4, 3) := kt_o167 (j := 45) sX9_canBegin_0 rfl (by decide +kernel)
theorem dX9_canBegin_48 : decode cX9_canBegin 48 = .ok (.iconst 0, 1) := kt_o3 (j := 48) sX9_canBegin_0 rfl
theorem dX9_canBegin_49 : decode cX9_canBegin 49 = .ok (.iadd, 1) := kt_o96 (j := 49) sX9_canBegin_0 rfl
theorem dX9_canBegin_50 : decode cX9_canBegin 50 = .ok (.istore_n 1, 1) := kt_o60 (j := 50) sX9_canBegin_0 rfl
theorem dX9_canBegin_51 : decode cX9_canBegin 51 = .ok (.iload_n 2, 1) := kt_o28 (j := 51) sX9_canBegin_0 rfl
theorem dX9_canBegin_52 : decode cX9_canBegin 52 = .ok (.iload 7, 2) := kt_o21 (j := 52) sX9_canBegin_0 rfl
theorem dX9_canBegin_54 : decode cX9_canBegin 54 = .ok (.iconst 3, 1) := kt_o6 (j := 54) sX9_canBegin_0 rfl
theorem dX9_canBegin_55 : decode cX9_canBegin 55 = .ok (.if_icmp .eq 9, 3) := kt_o159 (j := 55) sX9_canBegin_0 rfl (by decide +kernel)
theorem dX9_canBegin_58 : decode cX9_canBegin 58 = .ok (.iload 7, 2) := kt_o21 (j := 58) sX9_canBegin_0 rfl
theorem dX9_canBegin_60 : decode cX9_canBegin 60 = .ok (.iconst 4, 1) := kt_o7 (j := 60) sX9_canBegin_0 rfl
theorem dX9_canBegin_61 : decode cX9_canBegin 61 = .ok (.if_icmp .ne 7, 3) := kt_o160 (j := 61) sX9_canBegin_0 rfl (by decide +kernel)
theorem sX9_canBegin_64 : kt_sg cX9_canBegin 64 [4, 167, 0, 4, 3, 96, 61, 29, 21, 7, 154, 0, 7, 3, 167, 0, 4, 4, 96, 62, 21, 4, 42, 180, 0, 9, 21, 6, 46, 184, 0, 40, 4, 160, 0, 7, 4, 167, 0, 4, 3, 96, 54, 4, 132, 6, 1, 167, 255, 163, 27, 4, 160, 0, 24, 28, 4, 161, 0, 19, 29, 16, 40, 163, 0, 13] = true := by decide +kernel
theorem dX9_canBegin_64 : decode cX9_canBegin 64 = .ok (.iconst 1, 1) := kt_o4 (j := 0) sX9_canBegin_64 rfl
theorem dX9_canBegin_65 : decode cX9_canBegin 65 = .ok (.goto 4, 3) := kt_o167 (j := 1) sX9_canBegin_64 rfl (by decide +kernel)
theorem dX9_canBegin_68 : decode cX9_canBegin 68 = .ok (.iconst 0, 1) := kt_o3 (j := 4) sX9_canBegin_64 rfl
theorem dX9_canBegin_69 : decode cX9_canBegin 69 = .ok (.iadd, 1) := kt_o96 (j := 5) sX9_canBegin_64 rfl
theorem dX9_canBegin_70 : decode cX9_canBegin 70 = .ok (.istore_n 2, 1) := kt_o61 (j := 6) sX9_canBegin_64 rfl
theorem dX9_canBegin_71 : decode cX9_canBegin 71 = .ok (.iload_n 3, 1) := kt_o29 (j := 7) sX9_canBegin_64 rfl
theorem dX9_canBegin_72 : decode cX9_canBegin 72 = .ok (.iload 7, 2) := kt_o21 (j := 8) sX9_canBegin_64 rfl
theorem dX9_canBegin_74 : decode cX9_canBegin 74 = .ok (.ifCond .ne 7, 3) := kt_o154 (j := 10) sX9_canBegin_64 rfl (by decide +kernel)
theorem dX9_canBegin_77 : decode cX9_canBegin 77 = .ok (.iconst 0, 1) := kt_o3 (j := 13) sX9_canBegin_64 rfl
theorem dX9_canBegin_78 : decode cX9_canBegin 78 = .ok (.goto 4, 3) := kt_o167 (j := 14) sX9_canBegin_64 rfl (by decide +kernel)
theorem dX9_canBegin_81 : decode cX9_canBegin 81 = .ok (.iconst 1, 1) := kt_o4 (j := 17) sX9_canBegin_64 rfl
theorem dX9_canBegin_82 : decode cX9_canBegin 82 = .ok (.iadd, 1) := kt_o96 (j := 18) sX9_canBegin_64 rfl
theorem dX9_canBegin_83 : decode cX9_canBegin 83 = .ok (.istore_n 3, 1) := kt_o62 (j := 19) sX9_canBegin_64 rfl
theorem dX9_canBegin_84 : decode cX9_canBegin 84 = .ok (.iload 4, 2) := kt_o21 (j := 20) sX9_canBegin_64 rfl
theorem dX9_canBegin_86 : decode cX9_canBegin 86 = .ok (.aload_n 0, 1) := kt_o42 (j := 22) sX9_canBegin_64 rfl
theorem dX9_canBegin_87 : decode cX9_canBegin 87 = .ok (.getfield 9, 3) := kt_o180 (j := 23) sX9_canBegin_64 rfl rfl
theorem dX9_canBegin_90 : decode cX9_canBegin 90 = .ok (.iload 6, 2) := kt_o21 (j := 26) sX9_canBegin_64 rfl
theorem dX9_canBegin_92 : decode cX9_canBegin 92 = .ok (.iaload, 1) := kt_o46 (j := 28) sX9_canBegin_64 rfl
theorem dX9_canBegin_93 : decode cX9_canBegin 93 = .ok (.invokestatic 40, 3) := kt_o184 (j := 29) sX9_canBegin_64 rfl rfl
theorem dX9_canBegin_96 : decode cX9_canBegin 96 = .ok (.iconst 1, 1) := kt_o4 (j := 32) sX9_canBegin_64 rfl
theorem dX9_canBegin_97 : decode cX9_canBegin 97 = .ok (.if_icmp .ne 7, 3) := kt_o160 (j := 33) sX9_canBegin_64 rfl (by decide +kernel)
theorem dX9_canBegin_100 : decode cX9_canBegin 100 = .ok (.iconst 1, 1) := kt_o4 (j := 36) sX9_canBegin_64 rfl
theorem dX9_canBegin_101 : decode cX9_canBegin 101 = .ok (.goto 4, 3) := kt_o167 (j := 37) sX9_canBegin_64 rfl (by decide +kernel)
theorem dX9_canBegin_104 : decode cX9_canBegin 104 = .ok (.iconst 0, 1) := kt_o3 (j := 40) sX9_canBegin_64 rfl
theorem dX9_canBegin_105 : decode cX9_canBegin 105 = .ok (.iadd, 1) := kt_o96 (j := 41) sX9_canBegin_64 rfl
theorem dX9_canBegin_106 : decode cX9_canBegin 106 = .ok (.istore 4, 2) := kt_o54 (j := 42) sX9_canBegin_64 rfl
theorem dX9_canBegin_108 : decode cX9_canBegin 108 = .ok (.iinc 6 1, 3) := kt_o132 (j := 44) sX9_canBegin_64 rfl (by decide +kernel)
theorem dX9_canBegin_111 : decode cX9_canBegin 111 = .ok (.goto (-93), 3) := kt_o167 (j := 47) sX9_canBegin_64 rfl (by decide +kernel)
theorem dX9_canBegin_114 : decode cX9_canBegin 114 = .ok (.iload_n 1, 1) := kt_o27 (j := 50) sX9_canBegin_64 rfl
theorem dX9_canBegin_115 : decode cX9_canBegin 115 = .ok (.iconst 1, 1) := kt_o4 (j := 51) sX9_canBegin_64 rfl
theorem dX9_canBegin_116 : decode cX9_canBegin 116 = .ok (.if_icmp .ne 24, 3) := kt_o160 (j := 52) sX9_canBegin_64 rfl (by decide +kernel)
theorem dX9_canBegin_119 : decode cX9_canBegin 119 = .ok (.iload_n 2, 1) := kt_o28 (j := 55) sX9_canBegin_64 rfl
theorem dX9_canBegin_120 : decode cX9_canBegin 120 = .ok (.iconst 1, 1) := kt_o4 (j := 56) sX9_canBegin_64 rfl
theorem dX9_canBegin_121 : decode cX9_canBegin 121 = .ok (.if_icmp .lt 19, 3) := kt_o161 (j := 57) sX9_canBegin_64 rfl (by decide +kernel)
theorem dX9_canBegin_124 : decode cX9_canBegin 124 = .ok (.iload_n 3, 1) := kt_o29 (j := 60) sX9_canBegin_64 rfl
theorem dX9_canBegin_125 : decode cX9_canBegin 125 = .ok (.bipush 40, 2) := kt_o16 (j := 61) sX9_canBegin_64 rfl (by decide +kernel)
theorem dX9_canBegin_127 : decode cX9_canBegin 127 = .ok (.if_icmp .gt 13, 3) := kt_o163 (j := 63) sX9_canBegin_64 rfl (by decide +kernel)
theorem sX9_canBegin_130 : kt_sg cX9_canBegin 130 [21, 4, 4, 163, 0, 7, 4, 167, 0, 4, 3, 172] = true := by decide +kernel
theorem dX9_canBegin_130 : decode cX9_canBegin 130 = .ok (.iload 4, 2) := kt_o21 (j := 0) sX9_canBegin_130 rfl
theorem dX9_canBegin_132 : decode cX9_canBegin 132 = .ok (.iconst 1, 1) := kt_o4 (j := 2) sX9_canBegin_130 rfl
theorem dX9_canBegin_133 : decode cX9_canBegin 133 = .ok (.if_icmp .gt 7, 3) := kt_o163 (j := 3) sX9_canBegin_130 rfl (by decide +kernel)
theorem dX9_canBegin_136 : decode cX9_canBegin 136 = .ok (.iconst 1, 1) := kt_o4 (j := 6) sX9_canBegin_130 rfl
theorem dX9_canBegin_137 : decode cX9_canBegin 137 = .ok (.goto 4, 3) := kt_o167 (j := 7) sX9_canBegin_130 rfl (by decide +kernel)
theorem dX9_canBegin_140 : decode cX9_canBegin 140 = .ok (.iconst 0, 1) := kt_o3 (j := 10) sX9_canBegin_130 rfl
theorem dX9_canBegin_141 : decode cX9_canBegin 141 = .ok (.ireturn, 1) := kt_o172 (j := 11) sX9_canBegin_130 rfl
theorem kt_wp_X10_init__X10_init_r1 {w : Cond} (h : w ∈ wsX10_init_r1) : w ∈ wsX10_init := List.mem_cons_of_mem _ (List.mem_append_left _ (List.mem_append_left _ (List.mem_append_left _ (List.mem_append_left _ (List.mem_append_left _ (List.mem_append_left _ (List.mem_append_left _ (List.mem_append_left _ (List.mem_append_left _ (List.mem_append_left _ (List.mem_append_left _ (List.mem_append_left _ (h)))))))))))))
theorem kt_wp_X10_init__X10_init_r2 {w : Cond} (h : w ∈ wsX10_init_r2) : w ∈ wsX10_init := List.mem_cons_of_mem _ (List.mem_append_left _ (List.mem_append_left _ (List.mem_append_left _ (List.mem_append_left _ (List.mem_append_left _ (List.mem_append_left _ (List.mem_append_left _ (List.mem_append_left _ (List.mem_append_left _ (List.mem_append_left _ (List.mem_append_left _ (List.mem_append_right _ (List.mem_append_left _ (h))))))))))))))
theorem kt_wp_X10_init__X10_init_r3 {w : Cond} (h : w ∈ wsX10_init_r3) : w ∈ wsX10_init := List.mem_cons_of_mem _ (List.mem_append_left _ (List.mem_append_left _ (List.mem_append_left _ (List.mem_append_left _ (List.mem_append_left _ (List.mem_append_left _ (List.mem_append_left _ (List.mem_append_left _ (List.mem_append_left _ (List.mem_append_left _ (List.mem_append_left _ (List.mem_append_right _ (List.mem_append_right _ (List.mem_append_left _ (h)))))))))))))))
theorem kt_wp_X10_init__X10_init_r4 {w : Cond} (h : w ∈ wsX10_init_r4) : w ∈ wsX10_init := List.mem_cons_of_mem _ (List.mem_append_left _ (List.mem_append_left _ (List.mem_append_left _ (List.mem_append_left _ (List.mem_append_left _ (List.mem_append_left _ (List.mem_append_left _ (List.mem_append_left _ (List.mem_append_left _ (List.mem_append_left _ (List.mem_append_left _ (List.mem_append_right _ (List.mem_append_right _ (List.mem_append_right _ (List.mem_append_left _ (h))))))))))))))))
theorem kt_wp_X10_init__X10_init_r5 {w : Cond} (h : w ∈ wsX10_init_r5) : w ∈ wsX10_init := List.mem_cons_of_mem _ (List.mem_append_left _ (List.mem_append_left _ (List.mem_append_left _ (List.mem_append_left _ (List.mem_append_left _ (List.mem_append_left _ (List.mem_append_left _ (List.mem_append_left _ (List.mem_append_left _ (List.mem_append_left _ (List.mem_append_left _ (List.mem_append_right _ (List.mem_append_right _ (List.mem_append_right _ (List.mem_append_right _ (List.mem_append_left _ (h)))))))))))))))))
theorem kt_wp_X10_init__X10_init_r6 {w : Cond} (h : w ∈ wsX10_init_r6) : w ∈ wsX10_init := List.mem_cons_of_mem _ (List.mem_append_left _ (List.mem_append_left _ (List.mem_append_left _ (List.mem_append_left _ (List.mem_append_left _ (List.mem_append_left _ (List.mem_append_left _ (List.mem_append_left _ (List.mem_append_left _ (List.mem_append_left _ (List.mem_append_left _ (List.mem_append_right _ (List.mem_append_right _ (List.mem_append_right _ (List.mem_append_right _ (List.mem_append_right _ (h)))))))))))))))))
theorem kt_wp_X10_init__X90 {w : Cond} (h : w ∈ wsX90) : w ∈ wsX10_init := List.mem_cons_of_mem _ (List.mem_append_left _ (List.mem_append_left _ (List.mem_append_left _ (List.mem_append_left _ (List.mem_append_left _ (List.mem_append_left _ (List.mem_append_left _ (List.mem_append_left _ (List.mem_append_left _ (List.mem_append_left _ (List.mem_append_right _ (h))))))))))))
theorem kt_wp_X10_init__X100 {w : Cond} (h : w ∈ wsX100) : w ∈ wsX10_init := List.mem_cons_of_mem _ (List.mem_append_left _ (List.mem_append_left _ (List.mem_append_left _ (List.mem_append_left _ (List.mem_append_left _ (List.mem_append_left _ (List.mem_append_left _ (List.mem_append_left _ (List.mem_append_left _ (List.mem_append_right _ (h)))))))))))
theorem kt_wp_X10_init__X10 {w : Cond} (h : w ∈ wsX10) : w ∈ wsX10_init := List.mem_cons_of_mem _ (List.mem_append_left _ (List.mem_append_left _ (List.mem_append_left _ (List.mem_append_left _ (List.mem_append_left _ (List.mem_append_left _ (List.mem_append_left _ (List.mem_append_left _ (List.mem_append_right _ (h))))))))))
theorem kt_wp_X10_init__X60 {w : Cond} (h : w ∈ wsX60) : w ∈ wsX10_init := List.mem_cons_of_mem _ (List.mem_append_left _ (List.mem_append_left _ (List.mem_append_left _ (List.mem_append_left _ (List.mem_append_left _ (List.mem_append_left _ (List.mem_append_left _ (List.mem_append_right _ (h)))))))))
theorem kt_wp_X10_init__X40 {w : Cond} (h : w ∈ wsX40) : w ∈ wsX10_init := List.mem_cons_of_mem _ (List.mem_append_left _ (List.mem_append_left _ (List.mem_append_left _ (List.mem_append_left _ (List.mem_append_left _ (List.mem_append_left _ (List.mem_append_right _ (h))))))))
theorem kt_wp_X10_init__X50 {w : Cond} (h : w ∈ wsX50) : w ∈ wsX10_init := List.mem_cons_of_mem _ (List.mem_append_left _ (List.mem_append_left _ (List.mem_append_left _ (List.mem_append_left _ (List.mem_append_left _ (List.mem_append_right _ (h)))))))
theorem kt_wp_X10_init__X70 {w : Cond} (h : w ∈ wsX70) : w ∈ wsX10_init := List.mem_cons_of_mem _ (List.mem_append_left _ (List.mem_append_left _ (List.mem_append_left _ (List.mem_append_left _ (List.mem_append_right _ (h))))))
theorem kt_wp_X10_init__X00 {w : Cond} (h : w ∈ wsX00) : w ∈ wsX10_init := List.mem_cons_of_mem _ (List.mem_append_left _ (List.mem_append_left _ (List.mem_append_left _ (List.mem_append_right _ (h)))))
theorem kt_wp_X10_init__X80 {w : Cond} (h : w ∈ wsX80) : w ∈ wsX10_init := List.mem_cons_of_mem _ (List.mem_append_left _ (List.mem_append_left _ (List.mem_append_right _ (h))))
theorem kt_wp_X10_init__X30 {w : Cond} (h : w ∈ wsX30) : w ∈ wsX10_init := List.mem_cons_of_mem _ (List.mem_append_left _ (List.mem_append_right _ (h)))
theorem kt_wp_X10_init__X20 {w : Cond} (h : w ∈ wsX20) : w ∈ wsX10_init := List.mem_cons_of_mem _ (List.mem_append_right _ (h))
set_option maxRecDepth 20000 in
theorem kt_wg_X9_init : wsX9_init.all goodWord = true := by decide +kernel
set_option maxRecDepth 20000 in
theorem ggX10_init_X9_init : GoodIn wsX10_init wsX9_init := goodIn_sub (kt_wf1 (kt_wp_X10_init__X10_init_r2 kt_wm4) (kt_wfa (kt_wf1 (kt_wp_X10_init__X10_init_r2 kt_wm5) (kt_wf1 (kt_wp_X10_init__X10_init_r1 kt_wm1) (kt_wf1 (kt_wp_X10_init__X10_init_r1 kt_wm2) (kt_wf1 (kt_wp_X10_init__X10_init_r2 kt_wm6) (kt_wf1 (kt_wp_X10_init__X10_init_r2 kt_wm7) (kt_wf1 (kt_wp_X10_init__X10_init_r2 kt_wm8) (kt_wf1 (kt_wp_X10_init__X10_init_r2 kt_wm9) kt_wf0))))))) (fun _ h => kt_wp_X10_init__X90 h))) kt_wg_X9_init
set_option maxRecDepth 20000 in
theorem gX10_init_X9_init_n9 : GoodIn wsX10_init (wsX9_init) := ggX10_init_X9_init
set_option maxRecDepth 20000 in
theorem kt_wg_X1_init : wsX1_init.all goodWord = true := by decide +kernel
set_option maxRecDepth 20000 in
theorem ggX10_init_X1_init : GoodIn wsX10_init wsX1_init := goodIn_sub (kt_wf1 (kt_wp_X10_init__X10_init_r2 kt_wm11) (kt_wfa (kt_wf1 (kt_wp_X10_init__X10_init_r2 kt_wm12) (kt_wf1 (kt_wp_X10_init__X10_init_r1 kt_wm1) (kt_wf1 (kt_wp_X10_init__X10_init_r1 kt_wm2) (kt_wf1 (kt_wp_X10_init__X10_init_r2 kt_wm13) (kt_wf1 (kt_wp_X10_init__X10_init_r2 kt_wm14) (kt_wf1 (kt_wp_X10_init__X10_init_r2 kt_wm15) (kt_wf1 (kt_wp_X10_init__X10_init_r2 kt_wm16) (kt_wf1 (kt_wp_X10_init__X10_init_r2 kt_wm17) kt_wf0)))))))) (fun _ h => kt_wp_X10_init__X10 h))) kt_wg_X1_init
set_option maxRecDepth 20000 in
theorem gX10_init_X1_init_n18 : GoodIn wsX10_init (wsX1_init) := ggX10_init_X1_init
set_option maxRecDepth 20000 in
theorem kt_wg_X6_init : wsX6_init.all goodWord = true := by decide +kernel
set_option maxRecDepth 20000 in
theorem ggX10_init_X6_init : GoodIn wsX10_init wsX6_init := goodIn_sub (kt_wf1 (kt_wp_X10_init__X10_init_r2 kt_wm20) (kt_wfa (kt_wfa (kt_wf1 (kt_wp_X10_init__X10_init_r2 kt_wm21) (kt_wf1 (kt_wp_X10_init__X10_init_r1 kt_wm1) (kt_wf1 (kt_wp_X10_init__X10_init_r1 kt_wm2) (kt_wf1 (kt_wp_X10_init__X10_init_r2 kt_wm22) (kt_wf1 (kt_wp_X10_init__X10_init_r2 kt_wm23) (kt_wf1 (kt_wp_X10_init__X10_init_r3 kt_wm0) (kt_wf1 (kt_wp_X10_init__X10_init_r3 kt_wm1) (kt_wf1 (kt_wp_X10_init__X10_init_r2 kt_wm6) (kt_wf1 (kt_wp_X10_init__X10_init_r3 kt_wm2) (kt_wf1 (kt_wp_X10_init__X10_init_r3 kt_wm3) (kt_wf1 (kt_wp_X10_init__X10_init_r3 kt_wm4) (kt_wf1 (kt_wp_X10_init__X10_init_r3 kt_wm5) (kt_wf1 (kt_wp_X10_init__X10_init_r3 kt_wm6) (kt_wf1 (kt_wp_X10_init__X10_init_r3 kt_wm7) (kt_wf1 (kt_wp_X10_init__X10_init_r3 kt_wm8) (kt_wf1 (kt_wp_X10_init__X10_init_r3 kt_wm9) (kt_wf1 (kt_wp_X10_init__X10_init_r3 kt_wm10) (kt_wf1 (kt_wp_X10_init__X10_init_r3 kt_wm11) (kt_wf1 (kt_wp_X10_init__X10_init_r3 kt_wm12) (kt_wf1 (kt_wp_X10_init__X10_init_r3 kt_wm13) (kt_wf1 (kt_wp_X10_init__X10_init_r3 kt_wm14) kt_wf0))))))))))))))))))))) (fun _ h => kt_wp_X10_init__X00 h)) (fun _ h => kt_wp_X10_init__X60 h))) kt_wg_X6_init
set_option maxRecDepth 20000 in
theorem gX10_init_X6_init : GoodIn wsX10_init (wsX6_init) := ggX10_init_X6_init
set_option maxRecDepth 20000 in
theorem kt_wg_X4_init : wsX4_init.all goodWord = true := by decide +kernel
set_option maxRecDepth 20000 in
theorem ggX10_init_X4_init : GoodIn wsX10_init wsX4_init := goodIn_sub (kt_wf1 (kt_wp_X10_init__X10_init_r3 kt_wm17) (kt_wfa (kt_wfa (kt_wfa (kt_wfa (kt_wf1 (kt_wp_X10_init__X10_init_r3 kt_wm18) (kt_wf1 (kt_wp_X10_init__X10_init_r1 kt_wm1) (kt_wf1 (kt_wp_X10_init__X10_init_r1 kt_wm2) (kt_wf1 (kt_wp_X10_init__X10_init_r3 kt_wm19) (kt_wf1 (kt_wp_X10_init__X10_init_r3 kt_wm20) (kt_wf1 (kt_wp_X10_init__X10_init_r3 kt_wm21) (kt_wf1 (kt_wp_X10_init__X10_init_r3 kt_wm22) (kt_wf1 (kt_wp_X10_init__X10_init_r3 kt_wm23) (kt_wf1 (kt_wp_X10_init__X10_init_r4 kt_wm0) (kt_wf1 (kt_wp_X10_init__X10_init_r4 kt_wm1) (kt_wf1 (kt_wp_X10_init__X10_init_r4 kt_wm2) (kt_wf1 (kt_wp_X10_init__X10_init_r4 kt_wm3) (kt_wf1 (kt_wp_X10_init__X10_init_r4 kt_wm4) (kt_wf1 (kt_wp_X10_init__X10_init_r4 kt_wm5) (kt_wf1 (kt_wp_X10_init__X10_init_r4 kt_wm6) (kt_wf1 (kt_wp_X10_init__X10_init_r4 kt_wm7) (kt_wf1 (kt_wp_X10_init__X10_init_r4 kt_wm8) (kt_wf1 (kt_wp_X10_init__X10_init_r4 kt_wm9) (kt_wf1 (kt_wp_X10_init__X10_init_r2 kt_wm6) (kt_wf1 (kt_wp_X10_init__X10_init_r4 kt_wm10) (kt_wf1 (kt_wp_X10_init__X10_init_r4 kt_wm11) (kt_wf1 (kt_wp_X10_init__X10_init_r4 kt_wm12) (kt_wf1 (kt_wp_X10_init__X10_init_r4 kt_wm13) (kt_wf1 (kt_wp_X10_init__X10_init_r4 kt_wm14) kt_wf0)))))))))))))))))))))))) (kt_wf1 (kt_wp_X10_init__X10_init_r4 kt_wm15) (kt_wf1 (kt_wp_X10_init__X10_init_r4 kt_wm16) (kt_wf1 (kt_wp_X10_init__X10_init_r4 kt_wm17) (kt_wf1 (kt_wp_X10_init__X10_init_r4 kt_wm18) (kt_wf1 (kt_wp_X10_init__X10_init_r4 kt_wm19) (kt_wf1 (kt_wp_X10_init__X10_init_r4 kt_wm20) (kt_wf1 (kt_wp_X10_init__X10_init_r4 kt_wm21) (kt_wf1 (kt_wp_X10_init__X10_init_r4 kt_wm22) (kt_wf1 (kt_wp_X10_init__X10_init_r4 kt_wm23) (kt_wf1 (kt_wp_X10_init__X10_init_r5 kt_wm0) (kt_wf1 (kt_wp_X10_init__X10_init_r5 kt_wm1) (kt_wf1 (kt_wp_X10_init__X10_init_r5 kt_wm2) (kt_wf1 (kt_wp_X10_init__X10_init_r5 kt_wm3) (kt_wf1 (kt_wp_X10_init__X10_init_r5 kt_wm4) (kt_wf1 (kt_wp_X10_init__X10_init_r5 kt_wm5) (kt_wf1 (kt_wp_X10_init__X10_init_r5 kt_wm6) kt_wf0))))))))))))))))) (fun _ h => kt_wp_X10_init__X80 h)) (fun _ h => kt_wp_X10_init__X40 h)) (fun _ h => kt_wp_X10_init__X30 h))) kt_wg_X4_init
set_option maxRecDepth 20000 in
theorem gX10_init_X4_init : GoodIn wsX10_init (wsX4_init) := ggX10_init_X4_init
set_option maxRecDepth 20000 in
theorem kt_wg_X5_init : wsX5_init.all goodWord = true := by decide +kernel
set_option maxRecDepth 20000 in
theorem ggX10_init_X5_init : GoodIn wsX10_init wsX5_init := goodIn_sub (kt_wf1 (kt_wp_X10_init__X10_init_r5 kt_wm9) (kt_wfa (kt_wf1 (kt_wp_X10_init__X10_init_r5 kt_wm10) (kt_wf1 (kt_wp_X10_init__X10_init_r1 kt_wm1) (kt_wf1 (kt_wp_X10_init__X10_init_r1 kt_wm2) (kt_wf1 (kt_wp_X10_init__X10_init_r2 kt_wm6) (kt_wf1 (kt_wp_X10_init__X10_init_r5 kt_wm11) (kt_wf1 (kt_wp_X10_init__X10_init_r3 kt_wm4) (kt_wf1 (kt_wp_X10_init__X10_init_r5 kt_wm12) (kt_wf1 (kt_wp_X10_init__X10_init_r5 kt_wm13) kt_wf0)))))))) (fun _ h => kt_wp_X10_init__X50 h))) kt_wg_X5_init
set_option maxRecDepth 20000 in
theorem gX10_init_X5_init : GoodIn wsX10_init (wsX5_init) := ggX10_init_X5_init
set_option maxRecDepth 20000 in
theorem kt_wg_X7_init : wsX7_init.all goodWord = true := by decide +kernel
set_option maxRecDepth 20000 in
theorem ggX10_init_X7_init : GoodIn wsX10_init wsX7_init := goodIn_sub (kt_wf1 (kt_wp_X10_init__X10_init_r5 kt_wm16) (kt_wfa (kt_wfa (kt_wfa (kt_wfa (kt_wf1 (kt_wp_X10_init__X10_init_r5 kt_wm17) (kt_wf1 (kt_wp_X10_init__X10_init_r1 kt_wm1) (kt_wf1 (kt_wp_X10_init__X10_init_r1 kt_wm2) (kt_wf1 (kt_wp_X10_init__X10_init_r5 kt_wm18) (kt_wf1 (kt_wp_X10_init__X10_init_r3 kt_wm20) (kt_wf1 (kt_wp_X10_init__X10_init_r3 kt_wm21) (kt_wf1 (kt_wp_X10_init__X10_init_r5 kt_wm19) (kt_wf1 (kt_wp_X10_init__X10_init_r5 kt_wm20) (kt_wf1 (kt_wp_X10_init__X10_init_r5 kt_wm21) (kt_wf1 (kt_wp_X10_init__X10_init_r5 kt_wm22) (kt_wf1 (kt_wp_X10_init__X10_init_r5 kt_wm23) (kt_wf1 (kt_wp_X10_init__X10_init_r2 kt_wm6) (kt_wf1 (kt_wp_X10_init__X10_init_r6 kt_wm0) (kt_wf1 (kt_wp_X10_init__X10_init_r6 kt_wm1) (kt_wf1 (kt_wp_X10_init__X10_init_r6 kt_wm2) (kt_wf1 (kt_wp_X10_init__X10_init_r6 kt_wm3) (kt_wf1 (kt_wp_X10_init__X10_init_r6 kt_wm4) (kt_wf1 (kt_wp_X10_init__X10_init_r6 kt_wm5) (kt_wf1 (kt_wp_X10_init__X10_init_r6 kt_wm6) (kt_wf1 (kt_wp_X10_init__X10_init_r6 kt_wm7) (kt_wf1 (kt_wp_X10_init__X10_init_r6 kt_wm8) (kt_wf1 (kt_wp_X10_init__X10_init_r6 kt_wm9) (kt_wf1 (kt_wp_X10_init__X10_init_r4 kt_wm7) (kt_wf1 (kt_wp_X10_init__X10_init_r4 kt_wm8) kt_wf0)))))))))))))))))))))))) (kt_wf1 (kt_wp_X10_init__X10_init_r4 kt_wm9) (kt_wf1 (kt_wp_X10_init__X10_init_r4 kt_wm10) (kt_wf1 (kt_wp_X10_init__X10_init_r4 kt_wm11) (kt_wf1 (kt_wp_X10_init__X10_init_r4 kt_wm12) (kt_wf1 (kt_wp_X10_init__X10_init_r4 kt_wm13) (kt_wf1 (kt_wp_X10_init__X10_init_r4 kt_wm14) (kt_wf1 (kt_wp_X10_init__X10_init_r4 kt_wm15) (kt_wf1 (kt_wp_X10_init__X10_init_r4 kt_wm16) (kt_wf1 (kt_wp_X10_init__X10_init_r4 kt_wm17) (kt_wf1 (kt_wp_X10_init__X10_init_r4 kt_wm18) (kt_wf1 (kt_wp_X10_init__X10_init_r4 kt_wm19) (kt_wf1 (kt_wp_X10_init__X10_init_r4 kt_wm20) (kt_wf1 (kt_wp_X10_init__X10_init_r6 kt_wm10) (kt_wf1 (kt_wp_X10_init__X10_init_r6 kt_wm11) (kt_wf1 (kt_wp_X10_init__X10_init_r6 kt_wm12) (kt_wf1 (kt_wp_X10_init__X10_init_r6 kt_wm13) (kt_wf1 (kt_wp_X10_init__X10_init_r6 kt_wm14) (kt_wf1 (kt_wp_X10_init__X10_init_r6 kt_wm15) kt_wf0))))))))))))))))))) (fun _ h => kt_wp_X10_init__X80 h)) (fun _ h => kt_wp_X10_init__X70 h)) (fun _ h => kt_wp_X10_init__X20 h))) kt_wg_X7_init
set_option maxRecDepth 20000 in
theorem gX10_init_X7_init : GoodIn wsX10_init (wsX7_init) := ggX10_init_X7_init
theorem sX10_init_0 : kt_sg cX10_init 0 [42, 183, 0, 1, 42, 187, 0, 7, 89, 183, 0, 9, 181, 0, 10, 42, 187, 0, 16, 89, 183, 0, 18, 181, 0, 19, 42, 187, 0, 23, 89, 42, 180, 0, 19, 183, 0, 25, 181, 0, 28, 42, 187, 0, 32, 89, 42, 180, 0, 19, 42, 180, 0, 28, 183, 0, 34, 181, 0, 37, 42, 187, 0, 41] = true := by decide +kernel
theorem dX10_init_0 : decode cX10_init 0 = .ok (.aload_n 0, 1) := kt_o42 (j := 0) sX10_init_0 rfl
theorem dX10_init_1 : decode cX10_init 1 = .ok (.invokespecial 1, 3) := kt_o183 (j := 1) sX10_init_0 rfl rfl
theorem dX10_init_4 : decode cX10_init 4 = .ok (.aload_n 0, 1) := kt_o42 (j := 4) sX10_init_0 rfl
theorem dX10_init_5 : decode cX10_init 5 = .ok (.new 7, 3) := kt_o187 (j := 5) sX10_init_0 rfl rfl
theorem dX10_init_8 : decode cX10_init 8 = .ok (.dup, 1) := kt_o89 (j := 8) sX10_init_0 rfl
theorem dX10_init_9 : decode cX10_init 9 = .ok (.invokespecial 9, 3) := kt_o183 (j := 9) sX10_init_0 rfl rfl
theorem dX10_init_12 : decode cX10_init 12 = .ok (.putfield 10, 3) := kt_o181 (j := 12) sX10_init_0 rfl rfl
theorem dX10_init_15 : decode cX10_init 15 = .ok (.aload_n 0, 1) := kt_o42 (j := 15) sX10_init_0 rfl
theorem dX10_init_16 : decode cX10_init 16 = .ok (.new 16, 3) := kt_o187 (j := 16) sX10_init_0 rfl rfl
theorem dX10_init_19 : decode cX10_init 19 = .ok (.dup, 1) := kt_o89 (j := 19) sX10_init_0 rfl
theorem dX10_init_20 : decode cX10_init 20 = .ok (.invokespecial 18, 3) := kt_o183 (j := 20) sX10_init_0 rfl rfl
theorem dX10_init_23 : decode cX10_init 23 = .ok (.putfield 19, 3) := kt_o181 (j := 23) sX10_init_0 rfl rfl
theorem dX10_init_26 : decode cX10_init 26 = .ok (.aload_n 0, 1) := kt_o42 (j := 26) sX10_init_0 rfl
theorem dX10_init_27 : decode cX10_init 27 = .ok (.new 23, 3) := kt_o187 (j := 27) sX10_init_0 rfl rfl
theorem dX10_init_30 : decode cX10_init 30 = .ok (.dup, 1) := kt_o89 (j := 30) sX10_init_0 rfl
theorem dX10_init_31 : decode cX10_init 31 = .ok (.aload_n 0, 1) := kt_o42 (j := 31) sX10_init_0 rfl
theorem dX10_init_32 : decode cX10_init 32 = .ok (.getfield 19, 3) := kt_o180 (j := 32) sX10_init_0 rfl rfl
theorem dX10_init_35 : decode cX10_init 35 = .ok (.invokespecial 25, 3) := kt_o183 (j := 35) sX10_init_0 rfl rfl
theorem dX10_init_38 : decode cX10_init 38 = .ok (.putfield 28, 3) := kt_o181 (j := 38) sX10_init_0 rfl rfl
theorem dX10_init_41 : decode cX10_init 41 = .ok (.aload_n 0, 1) := kt_o42 (j := 41) sX10_init_0 rfl
theorem dX10_init_42 : decode cX10_init 42 = .ok (.new 32, 3) := kt_o187 (j := 42) sX10_init_0 rfl rfl
theorem dX10_init_45 : decode cX10_init 45 = .ok (.dup, 1) := kt_o89 (j := 45) sX10_init_0 rfl
theorem dX10_init_46 : decode cX10_init 46 = .ok (.aload_n 0, 1) := kt_o42 (j := 46) sX10_init_0 rfl
theorem dX10_init_47 : decode cX10_init 47 = .ok (.getfield 19, 3) := kt_o180 (j := 47) sX10_init_0 rfl rfl
theorem dX10_init_50 : decode cX10_init 50 = .ok (.aload_n 0, 1) := kt_o42 (j := 50) sX10_init_0 rfl
theorem dX10_init_51 : decode cX10_init 51 = .ok (.getfield 28, 3) := kt_o180 (j := 51) sX10_init_0 rfl rfl
theorem dX10_init_54 : decode cX10_init 54 = .ok (.invokespecial 34, 3) := kt_o183 (j := 54) sX10_init_0 rfl rfl
theorem dX10_init_57 : decode cX10_init 57 = .ok (.putfield 37, 3) := kt_o181 (j := 57) sX10_init_0 rfl rfl
theorem dX10_init_60 : decode cX10_init 60 = .ok (.aload_n 0, 1) := kt_o42 (j := 60) sX10_init_0 rfl
theorem dX10_init_61 : decode cX10_init 61 = .ok (.new 41, 3) := kt_o187 (j := 61) sX10_init_0 rfl rfl
theorem sX10_init_64 : kt_sg cX10_init 64 [89, 42, 180, 0, 28, 183, 0, 43, 181, 0, 46, 42, 187, 0, 50, 89, 42, 180, 0, 28, 183, 0, 52, 181, 0, 53, 177] = true := by decide +kernel
theorem dX10_init_64 : decode cX10_init 64 = .ok (.dup, 1) := kt_o89 (j := 0) sX10_init_64 rfl
theorem dX10_init_65 : decode cX10_init 65 = .ok (.aload_n 0, 1) := kt_o42 (j := 1) sX10_init_64 rfl
theorem dX10_init_66 : decode cX10_init 66 = .ok (.getfield 28, 3) := kt_o180 (j := 2) sX10_init_64 rfl rfl
theorem dX10_init_69 : decode cX10_init 69 = .ok (.invokespecial 43, 3) := kt_o183 (j := 5) sX10_init_64 rfl rfl
theorem dX10_init_72 : decode cX10_init 72 = .ok (.putfield 46, 3) := kt_o181 (j := 8) sX10_init_64 rfl rfl
theorem dX10_init_75 : decode cX10_init 75 = .ok (.aload_n 0, 1) := kt_o42 (j := 11) sX10_init_64 rfl
theorem dX10_init_76 : decode cX10_init 76 = .ok (.new 50, 3) := kt_o187 (j := 12) sX10_init_64 rfl rfl
theorem dX10_init_79 : decode cX10_init 79 = .ok (.dup, 1) := kt_o89 (j := 15) sX10_init_64 rfl
theorem dX10_init_80 : decode cX10_init 80 = .ok (.aload_n 0, 1) := kt_o42 (j := 16) sX10_init_64 rfl
theorem dX10_init_81 : decode cX10_init 81 = .ok (.getfield 28, 3) := kt_o180 (j := 17) sX10_init_64 rfl rfl
theorem dX10_init_84 : decode cX10_init 84 = .ok (.invokespecial 52, 3) := kt_o183 (j := 20) sX10_init_64 rfl rfl
theorem dX10_init_87 : decode cX10_init 87 = .ok (.putfield 53, 3) := kt_o181 (j := 23) sX10_init_64 rfl rfl
theorem dX10_init_90 : decode cX10_init 90 = .ok (.return_, 1) := kt_o177 (j := 26) sX10_init_64 rfl
theorem kt_wp_X10_board__X10_board_r1 {w : Cond} (h : w ∈ wsX10_board_r1) : w ∈ wsX10_board := List.mem_cons_of_mem _ (List.mem_append_left _ (List.mem_append_left _ (List.mem_append_left _ (List.mem_append_left _ (List.mem_append_left _ (List.mem_append_left _ (List.mem_append_left _ (List.mem_append_left _ (h)))))))))
theorem kt_wp_X10_board__X10_board_r2 {w : Cond} (h : w ∈ wsX10_board_r2) : w ∈ wsX10_board := List.mem_cons_of_mem _ (List.mem_append_left _ (List.mem_append_left _ (List.mem_append_left _ (List.mem_append_left _ (List.mem_append_left _ (List.mem_append_left _ (List.mem_append_left _ (List.mem_append_right _ (List.mem_append_left _ (h))))))))))
theorem kt_wp_X10_board__X10_board_r3 {w : Cond} (h : w ∈ wsX10_board_r3) : w ∈ wsX10_board := List.mem_cons_of_mem _ (List.mem_append_left _ (List.mem_append_left _ (List.mem_append_left _ (List.mem_append_left _ (List.mem_append_left _ (List.mem_append_left _ (List.mem_append_left _ (List.mem_append_right _ (List.mem_append_right _ (h))))))))))
theorem kt_wp_X10_board__X100 {w : Cond} (h : w ∈ wsX100) : w ∈ wsX10_board := List.mem_cons_of_mem _ (List.mem_append_left _ (List.mem_append_left _ (List.mem_append_left _ (List.mem_append_left _ (List.mem_append_left _ (List.mem_append_left _ (List.mem_append_right _ (h))))))))
theorem kt_wp_X10_board__X90 {w : Cond} (h : w ∈ wsX90) : w ∈ wsX10_board := List.mem_cons_of_mem _ (List.mem_append_left _ (List.mem_append_left _ (List.mem_append_left _ (List.mem_append_left _ (List.mem_append_left _ (List.mem_append_right _ (h)))))))
theorem kt_wp_X10_board__X40 {w : Cond} (h : w ∈ wsX40) : w ∈ wsX10_board := List.mem_cons_of_mem _ (List.mem_append_left _ (List.mem_append_left _ (List.mem_append_left _ (List.mem_append_left _ (List.mem_append_right _ (h))))))
theorem kt_wp_X10_board__X60 {w : Cond} (h : w ∈ wsX60) : w ∈ wsX10_board := List.mem_cons_of_mem _ (List.mem_append_left _ (List.mem_append_left _ (List.mem_append_left _ (List.mem_append_right _ (h)))))
theorem kt_wp_X10_board__X80 {w : Cond} (h : w ∈ wsX80) : w ∈ wsX10_board := List.mem_cons_of_mem _ (List.mem_append_left _ (List.mem_append_left _ (List.mem_append_right _ (h))))
theorem kt_wp_X10_board__X30 {w : Cond} (h : w ∈ wsX30) : w ∈ wsX10_board := List.mem_cons_of_mem _ (List.mem_append_left _ (List.mem_append_right _ (h)))
theorem kt_wp_X10_board__X70 {w : Cond} (h : w ∈ wsX70) : w ∈ wsX10_board := List.mem_cons_of_mem _ (List.mem_append_right _ (h))
set_option maxRecDepth 20000 in
theorem kt_wg_X9_renew : wsX9_renew.all goodWord = true := by decide +kernel
set_option maxRecDepth 20000 in
theorem ggX10_board_X9_renew : GoodIn wsX10_board wsX9_renew := goodIn_sub (kt_wf1 (kt_wp_X10_board__X10_board_r1 kt_wm5) (kt_wfa (kt_wf1 (kt_wp_X10_board__X10_board_r1 kt_wm6) (kt_wf1 (kt_wp_X10_board__X10_board_r1 kt_wm7) (kt_wf1 (kt_wp_X10_board__X10_board_r1 kt_wm8) (kt_wf1 (kt_wp_X10_board__X10_board_r1 kt_wm9) (kt_wf1 (kt_wp_X10_board__X10_board_r1 kt_wm10) (kt_wf1 (kt_wp_X10_board__X10_board_r1 kt_wm4) (kt_wf1 (kt_wp_X10_board__X10_board_r1 kt_wm11) (kt_wf1 (kt_wp_X10_board__X10_board_r1 kt_wm12) (kt_wf1 (kt_wp_X10_board__X10_board_r1 kt_wm13) (kt_wf1 (kt_wp_X10_board__X10_board_r1 kt_wm14) (kt_wf1 (kt_wp_X10_board__X10_board_r1 kt_wm15) kt_wf0))))))))))) (fun _ h => kt_wp_X10_board__X90 h))) kt_wg_X9_renew
set_option maxRecDepth 20000 in
theorem gX10_board_X9_renew : GoodIn wsX10_board (wsV RX10 57 RX9 yX9_renew wsX9_renew) := goodIn_app (a := [.methodLink RX10 57 yX9_renew, .instanceMethod yX9_renew, .selects RX9 yX9_renew yX9_renew, .initialized RX9]) (goodIn_sub (kt_wf1 (kt_wp_X10_board__X10_board_r1 kt_wm1) (kt_wf1 (kt_wp_X10_board__X10_board_r1 kt_wm2) (kt_wf1 (kt_wp_X10_board__X10_board_r1 kt_wm3) (kt_wf1 (kt_wp_X10_board__X10_board_r1 kt_wm4) kt_wf0)))) (by decide +kernel)) ggX10_board_X9_renew
set_option maxRecDepth 20000 in
theorem kt_wg_X10_endPlay : wsX10_endPlay.all goodWord = true := by decide +kernel
set_option maxRecDepth 20000 in
theorem ggX10_board_X10_endPlay : GoodIn wsX10_board wsX10_endPlay := goodIn_sub (kt_wf1 (kt_wp_X10_board__X10_board_r1 kt_wm20) (kt_wfa (kt_wfa (kt_wfa (kt_wfa (kt_wfa (kt_wfa (kt_wfa (kt_wf1 (kt_wp_X10_board__X10_board_r1 kt_wm21) (kt_wf1 (kt_wp_X10_board__X10_board_r1 kt_wm22) (kt_wf1 (kt_wp_X10_board__X10_board_r1 kt_wm23) (kt_wf1 (kt_wp_X10_board__X10_board_r2 kt_wm0) (kt_wf1 (kt_wp_X10_board__X10_board_r2 kt_wm1) (kt_wf1 (kt_wp_X10_board__X10_board_r2 kt_wm2) (kt_wf1 (kt_wp_X10_board__X10_board_r2 kt_wm3) (kt_wf1 (kt_wp_X10_board__X10_board_r2 kt_wm4) (kt_wf1 (kt_wp_X10_board__X10_board_r2 kt_wm5) (kt_wf1 (kt_wp_X10_board__X10_board_r2 kt_wm6) (kt_wf1 (kt_wp_X10_board__X10_board_r2 kt_wm7) (kt_wf1 (kt_wp_X10_board__X10_board_r2 kt_wm8) (kt_wf1 (kt_wp_X10_board__X10_board_r2 kt_wm9) (kt_wf1 (kt_wp_X10_board__X10_board_r2 kt_wm10) (kt_wf1 (kt_wp_X10_board__X10_board_r2 kt_wm11) (kt_wf1 (kt_wp_X10_board__X10_board_r2 kt_wm12) (kt_wf1 (kt_wp_X10_board__X10_board_r2 kt_wm13) (kt_wf1 (kt_wp_X10_board__X10_board_r2 kt_wm14) (kt_wf1 (kt_wp_X10_board__X10_board_r2 kt_wm15) (kt_wf1 (kt_wp_X10_board__X10_board_r2 kt_wm16) (kt_wf1 (kt_wp_X10_board__X10_board_r2 kt_wm17) (kt_wf1 (kt_wp_X10_board__X10_board_r2 kt_wm18) (kt_wf1 (kt_wp_X10_board__X10_board_r2 kt_wm19) (kt_wf1 (kt_wp_X10_board__X10_board_r2 kt_wm20) kt_wf0)))))))))))))))))))))))) (kt_wf1 (kt_wp_X10_board__X10_board_r2 kt_wm21) (kt_wf1 (kt_wp_X10_board__X10_board_r2 kt_wm22) (kt_wf1 (kt_wp_X10_board__X10_board_r2 kt_wm23) (kt_wf1 (kt_wp_X10_board__X10_board_r1 kt_wm13) (kt_wf1 (kt_wp_X10_board__X10_board_r1 kt_wm14) (kt_wf1 (kt_wp_X10_board__X10_board_r1 kt_wm15) (kt_wf1 (kt_wp_X10_board__X10_board_r3 kt_wm0) (kt_wf1 (kt_wp_X10_board__X10_board_r3 kt_wm1) (kt_wf1 (kt_wp_X10_board__X10_board_r3 kt_wm2) (kt_wf1 (kt_wp_X10_board__X10_board_r3 kt_wm3) (kt_wf1 (kt_wp_X10_board__X10_board_r3 kt_wm4) (kt_wf1 (kt_wp_X10_board__X10_board_r3 kt_wm5) (kt_wf1 (kt_wp_X10_board__X10_board_r3 kt_wm6) (kt_wf1 (kt_wp_X10_board__X10_board_r3 kt_wm7) (kt_wf1 (kt_wp_X10_board__X10_board_r3 kt_wm8) (kt_wf1 (kt_wp_X10_board__X10_board_r3 kt_wm9) (kt_wf1 (kt_wp_X10_board__X10_board_r3 kt_wm10) (kt_wf1 (kt_wp_X10_board__X10_board_r3 kt_wm11) (kt_wf1 (kt_wp_X10_board__X10_board_r3 kt_wm12) kt_wf0)))))))))))))))))))) (fun _ h => kt_wp_X10_board__X100 h)) (fun _ h => kt_wp_X10_board__X40 h)) (fun _ h => kt_wp_X10_board__X60 h)) (fun _ h => kt_wp_X10_board__X80 h)) (fun _ h => kt_wp_X10_board__X30 h)) (fun _ h => kt_wp_X10_board__X70 h))) kt_wg_X10_endPlay
set_option maxRecDepth 20000 in
theorem gX10_board_X10_endPlay : GoodIn wsX10_board (wsV RX10 61 RX10 yX10_endPlay wsX10_endPlay) := goodIn_app (a := [.methodLink RX10 61 yX10_endPlay, .instanceMethod yX10_endPlay, .selects RX10 yX10_endPlay yX10_endPlay, .initialized RX10]) (goodIn_sub (kt_wf1 (kt_wp_X10_board__X10_board_r1 kt_wm16) (kt_wf1 (kt_wp_X10_board__X10_board_r1 kt_wm17) (kt_wf1 (kt_wp_X10_board__X10_board_r1 kt_wm18) (kt_wf1 (kt_wp_X10_board__X10_board_r1 kt_wm19) kt_wf0)))) (by decide +kernel)) ggX10_board_X10_endPlay
theorem sX10_board_0 : kt_sg cX10_board 0 [42, 180, 0, 10, 27, 28, 182, 0, 57, 154, 0, 5, 3, 172, 42, 182, 0, 61, 4, 172] = true := by decide +kernel
theorem dX10_board_0 : decode cX10_board 0 = .ok (.aload_n 0, 1) := kt_o42 (j := 0) sX10_board_0 rfl
theorem dX10_board_1 : decode cX10_board 1 = .ok (.getfield 10, 3) := kt_o180 (j := 1) sX10_board_0 rfl rfl
theorem dX10_board_4 : decode cX10_board 4 = .ok (.iload_n 1, 1) := kt_o27 (j := 4) sX10_board_0 rfl
theorem dX10_board_5 : decode cX10_board 5 = .ok (.iload_n 2, 1) := kt_o28 (j := 5) sX10_board_0 rfl
theorem dX10_board_6 : decode cX10_board 6 = .ok (.invokevirtual 57, 3) := kt_o182 (j := 6) sX10_board_0 rfl rfl
theorem dX10_board_9 : decode cX10_board 9 = .ok (.ifCond .ne 5, 3) := kt_o154 (j := 9) sX10_board_0 rfl (by decide +kernel)
theorem dX10_board_12 : decode cX10_board 12 = .ok (.iconst 0, 1) := kt_o3 (j := 12) sX10_board_0 rfl
theorem dX10_board_13 : decode cX10_board 13 = .ok (.ireturn, 1) := kt_o172 (j := 13) sX10_board_0 rfl
theorem dX10_board_14 : decode cX10_board 14 = .ok (.aload_n 0, 1) := kt_o42 (j := 14) sX10_board_0 rfl
theorem dX10_board_15 : decode cX10_board 15 = .ok (.invokevirtual 61, 3) := kt_o182 (j := 15) sX10_board_0 rfl rfl
theorem dX10_board_18 : decode cX10_board 18 = .ok (.iconst 1, 1) := kt_o4 (j := 18) sX10_board_0 rfl
theorem dX10_board_19 : decode cX10_board 19 = .ok (.ireturn, 1) := kt_o172 (j := 19) sX10_board_0 rfl
theorem kt_wp_X10_line__X100 {w : Cond} (h : w ∈ wsX100) : w ∈ wsX10_line := List.mem_cons_of_mem _ (List.mem_append_left _ (List.mem_append_left _ (List.mem_append_right _ (h))))
theorem kt_wp_X10_line__X40 {w : Cond} (h : w ∈ wsX40) : w ∈ wsX10_line := List.mem_cons_of_mem _ (List.mem_append_left _ (List.mem_append_right _ (h)))
theorem kt_wp_X10_line__X90 {w : Cond} (h : w ∈ wsX90) : w ∈ wsX10_line := List.mem_cons_of_mem _ (List.mem_append_right _ (h))
set_option maxRecDepth 20000 in
theorem kt_wg_X4_isThere : wsX4_isThere.all goodWord = true := by decide +kernel
set_option maxRecDepth 20000 in
theorem ggX10_line_X4_isThere : GoodIn wsX10_line wsX4_isThere := goodIn_sub (kt_wf1 (List.mem_cons_of_mem _ (List.mem_append_left _ (List.mem_append_left _ (List.mem_append_left _ (List.mem_cons_of_mem _ (List.mem_cons_of_mem _ (List.mem_cons_of_mem _ (List.mem_cons_of_mem _ (List.mem_cons_of_mem _ (List.mem_cons_of_mem _ (List.Mem.head _))))))))))) (kt_wfa (kt_wf1 (List.mem_cons_of_mem _ (List.mem_append_left _ (List.mem_append_left _ (List.mem_append_left _ (List.mem_cons_of_mem _ (List.mem_cons_of_mem _ (List.mem_cons_of_mem _ (List.mem_cons_of_mem _ (List.mem_cons_of_mem _ (List.mem_cons_of_mem _ (List.mem_cons_of_mem _ (List.Mem.head _)))))))))))) kt_wf0) (fun _ h => kt_wp_X10_line__X40 h))) kt_wg_X4_isThere
set_option maxRecDepth 20000 in
theorem gX10_line_X4_isThere : GoodIn wsX10_line (wsV RX10 64 RX4 yX4_isThere wsX4_isThere) := goodIn_app (a := [.methodLink RX10 64 yX4_isThere, .instanceMethod yX4_isThere, .selects RX4 yX4_isThere yX4_isThere, .initialized RX4]) (goodIn_sub (kt_wf1 (List.mem_cons_of_mem _ (List.mem_append_left _ (List.mem_append_left _ (List.mem_append_left _ (List.mem_cons_of_mem _ (List.mem_cons_of_mem _ (List.Mem.head _))))))) (kt_wf1 (List.mem_cons_of_mem _ (List.mem_append_left _ (List.mem_append_left _ (List.mem_append_left _ (List.mem_cons_of_mem _ (List.mem_cons_of_mem _ (List.mem_cons_of_mem _ (List.Mem.head _)))))))) (kt_wf1 (List.mem_cons_of_mem _ (List.mem_append_left _ (List.mem_append_left _ (List.mem_append_left _ (List.mem_cons_of_mem _ (List.mem_cons_of_mem _ (List.mem_cons_of_mem _ (List.mem_cons_of_mem _ (List.Mem.head _))))))))) (kt_wf1 (List.mem_cons_of_mem _ (List.mem_append_left _ (List.mem_append_left _ (List.mem_append_left _ (List.mem_cons_of_mem _ (List.mem_cons_of_mem _ (List.mem_cons_of_mem _ (List.mem_cons_of_mem _ (List.mem_cons_of_mem _ (List.Mem.head _)))))))))) kt_wf0)))) (by decide +kernel)) ggX10_line_X4_isThere
set_option maxRecDepth 20000 in
theorem kt_wg_X9_tell : wsX9_tell.all goodWord = true := by decide +kernel
set_option maxRecDepth 20000 in
theorem ggX10_line_X9_tell : GoodIn wsX10_line wsX9_tell := goodIn_sub (kt_wf1 (List.mem_cons_of_mem _ (List.mem_append_left _ (List.mem_append_left _ (List.mem_append_left _ (List.mem_cons_of_mem _ (List.mem_cons_of_mem _ (List.mem_cons_of_mem _ (List.mem_cons_of_mem _ (List.mem_cons_of_mem _ (List.mem_cons_of_mem _ (List.mem_cons_of_mem _ (List.mem_cons_of_mem _ (List.mem_cons_of_mem _ (List.mem_cons_of_mem _ (List.mem_cons_of_mem _ (List.mem_cons_of_mem _ (List.Mem.head _))))))))))))))))) (kt_wfa (kt_wf1 (List.mem_cons_of_mem _ (List.mem_append_left _ (List.mem_append_left _ (List.mem_append_left _ (List.mem_cons_of_mem _ (List.mem_cons_of_mem _ (List.mem_cons_of_mem _ (List.mem_cons_of_mem _ (List.mem_cons_of_mem _ (List.mem_cons_of_mem _ (List.mem_cons_of_mem _ (List.mem_cons_of_mem _ (List.mem_cons_of_mem _ (List.mem_cons_of_mem _ (List.mem_cons_of_mem _ (List.mem_cons_of_mem _ (List.mem_cons_of_mem _ (List.Mem.head _)))))))))))))))))) (kt_wf1 (List.mem_cons_of_mem _ (List.mem_append_left _ (List.mem_append_left _ (List.mem_append_left _ (List.mem_cons_of_mem _ (List.mem_cons_of_mem _ (List.mem_cons_of_mem _ (List.mem_cons_of_mem _ (List.mem_cons_of_mem _ (List.mem_cons_of_mem _ (List.mem_cons_of_mem _ (List.mem_cons_of_mem _ (List.mem_cons_of_mem _ (List.mem_cons_of_mem _ (List.mem_cons_of_mem _ (List.mem_cons_of_mem _ (List.mem_cons_of_mem _ (List.mem_cons_of_mem _ (List.Mem.head _))))))))))))))))))) (kt_wf1 (List.mem_cons_of_mem _ (List.mem_append_left _ (List.mem_append_left _ (List.mem_append_left _ (List.mem_cons_of_mem _ (List.mem_cons_of_mem _ (List.mem_cons_of_mem _ (List.mem_cons_of_mem _ (List.mem_cons_of_mem _ (List.mem_cons_of_mem _ (List.mem_cons_of_mem _ (List.mem_cons_of_mem _ (List.mem_cons_of_mem _ (List.mem_cons_of_mem _ (List.mem_cons_of_mem _ (List.mem_cons_of_mem _ (List.mem_cons_of_mem _ (List.mem_cons_of_mem _ (List.mem_cons_of_mem _ (List.Mem.head _)))))))))))))))))))) kt_wf0))) (fun _ h => kt_wp_X10_line__X90 h))) kt_wg_X9_tell
set_option maxRecDepth 20000 in
theorem gX10_line_X9_tell : GoodIn wsX10_line (wsV RX10 68 RX9 yX9_tell wsX9_tell) := goodIn_app (a := [.methodLink RX10 68 yX9_tell, .instanceMethod yX9_tell, .selects RX9 yX9_tell yX9_tell, .initialized RX9]) (goodIn_sub (kt_wf1 (List.mem_cons_of_mem _ (List.mem_append_left _ (List.mem_append_left _ (List.mem_append_left _ (List.mem_cons_of_mem _ (List.mem_cons_of_mem _ (List.mem_cons_of_mem _ (List.mem_cons_of_mem _ (List.mem_cons_of_mem _ (List.mem_cons_of_mem _ (List.mem_cons_of_mem _ (List.mem_cons_of_mem _ (List.Mem.head _))))))))))))) (kt_wf1 (List.mem_cons_of_mem _ (List.mem_append_left _ (List.mem_append_left _ (List.mem_append_left _ (List.mem_cons_of_mem _ (List.mem_cons_of_mem _ (List.mem_cons_of_mem _ (List.mem_cons_of_mem _ (List.mem_cons_of_mem _ (List.mem_cons_of_mem _ (List.mem_cons_of_mem _ (List.mem_cons_of_mem _ (List.mem_cons_of_mem _ (List.Mem.head _)))))))))))))) (kt_wf1 (List.mem_cons_of_mem _ (List.mem_append_left _ (List.mem_append_left _ (List.mem_append_left _ (List.mem_cons_of_mem _ (List.mem_cons_of_mem _ (List.mem_cons_of_mem _ (List.mem_cons_of_mem _ (List.mem_cons_of_mem _ (List.mem_cons_of_mem _ (List.mem_cons_of_mem _ (List.mem_cons_of_mem _ (List.mem_cons_of_mem _ (List.mem_cons_of_mem _ (List.Mem.head _))))))))))))))) (kt_wf1 (List.mem_cons_of_mem _ (List.mem_append_left _ (List.mem_append_left _ (List.mem_append_left _ (List.mem_cons_of_mem _ (List.mem_cons_of_mem _ (List.mem_cons_of_mem _ (List.mem_cons_of_mem _ (List.mem_cons_of_mem _ (List.mem_cons_of_mem _ (List.mem_cons_of_mem _ (List.mem_cons_of_mem _ (List.mem_cons_of_mem _ (List.mem_cons_of_mem _ (List.mem_cons_of_mem _ (List.Mem.head _)))))))))))))))) kt_wf0)))) (by decide +kernel)) ggX10_line_X9_tell
theorem sX10_line_0 : kt_sg cX10_line 0 [42, 180, 0, 37, 182, 0, 64, 154, 0, 20, 42, 180, 0, 10, 27, 28, 29, 182, 0, 68, 153, 0, 7, 4, 167, 0, 4, 3, 172] = true := by decide +kernel
theorem dX10_line_0 : decode cX10_line 0 = .ok (.aload_n 0, 1) := kt_o42 (j := 0) sX10_line_0 rfl
theorem dX10_line_1 : decode cX10_line 1 = .ok (.getfield 37, 3) := kt_o180 (j := 1) sX10_line_0 rfl rfl
theorem dX10_line_4 : decode cX10_line 4 = .ok (.invokevirtual 64, 3) := kt_o182 (j := 4) sX10_line_0 rfl rfl
theorem dX10_line_7 : decode cX10_line 7 = .ok (.ifCond .ne 20, 3) := kt_o154 (j := 7) sX10_line_0 rfl (by decide +kernel)
theorem dX10_line_10 : decode cX10_line 10 = .ok (.aload_n 0, 1) := kt_o42 (j := 10) sX10_line_0 rfl
theorem dX10_line_11 : decode cX10_line 11 = .ok (.getfield 10, 3) := kt_o180 (j := 11) sX10_line_0 rfl rfl
theorem dX10_line_14 : decode cX10_line 14 = .ok (.iload_n 1, 1) := kt_o27 (j := 14) sX10_line_0 rfl
theorem dX10_line_15 : decode cX10_line 15 = .ok (.iload_n 2, 1) := kt_o28 (j := 15) sX10_line_0 rfl
theorem dX10_line_16 : decode cX10_line 16 = .ok (.iload_n 3, 1) := kt_o29 (j := 16) sX10_line_0 rfl
theorem dX10_line_17 : decode cX10_line 17 = .ok (.invokevirtual 68, 3) := kt_o182 (j := 17) sX10_line_0 rfl rfl
theorem dX10_line_20 : decode cX10_line 20 = .ok (.ifCond .eq 7, 3) := kt_o153 (j := 20) sX10_line_0 rfl (by decide +kernel)
theorem dX10_line_23 : decode cX10_line 23 = .ok (.iconst 1, 1) := kt_o4 (j := 23) sX10_line_0 rfl
theorem dX10_line_24 : decode cX10_line 24 = .ok (.goto 4, 3) := kt_o167 (j := 24) sX10_line_0 rfl (by decide +kernel)
theorem dX10_line_27 : decode cX10_line 27 = .ok (.iconst 0, 1) := kt_o3 (j := 27) sX10_line_0 rfl
theorem dX10_line_28 : decode cX10_line 28 = .ok (.ireturn, 1) := kt_o172 (j := 28) sX10_line_0 rfl
theorem kt_wp_X10_law__X100 {w : Cond} (h : w ∈ wsX100) : w ∈ wsX10_law := List.mem_cons_of_mem _ (List.mem_append_left _ (List.mem_append_left _ (List.mem_append_right _ (h))))
theorem kt_wp_X10_law__X40 {w : Cond} (h : w ∈ wsX40) : w ∈ wsX10_law := List.mem_cons_of_mem _ (List.mem_append_left _ (List.mem_append_right _ (h)))
theorem kt_wp_X10_law__X10 {w : Cond} (h : w ∈ wsX10) : w ∈ wsX10_law := List.mem_cons_of_mem _ (List.mem_append_right _ (h))
set_option maxRecDepth 20000 in
theorem ggX10_law_X4_isThere : GoodIn wsX10_law wsX4_isThere := goodIn_sub (kt_wf1 (List.mem_cons_of_mem _ (List.mem_append_left _ (List.mem_append_left _ (List.mem_append_left _ (List.mem_cons_of_mem _ (List.mem_cons_of_mem _ (List.mem_cons_of_mem _ (List.mem_cons_of_mem _ (List.mem_cons_of_mem _ (List.mem_cons_of_mem _ (List.Mem.head _))))))))))) (kt_wfa (kt_wf1 (List.mem_cons_of_mem _ (List.mem_append_left _ (List.mem_append_left _ (List.mem_append_left _ (List.mem_cons_of_mem _ (List.mem_cons_of_mem _ (List.mem_cons_of_mem _ (List.mem_cons_of_mem _ (List.mem_cons_of_mem _ (List.mem_cons_of_mem _ (List.mem_cons_of_mem _ (List.Mem.head _)))))))))))) kt_wf0) (fun _ h => kt_wp_X10_law__X40 h))) kt_wg_X4_isThere
set_option maxRecDepth 20000 in
theorem gX10_law_X4_isThere : GoodIn wsX10_law (wsV RX10 64 RX4 yX4_isThere wsX4_isThere) := goodIn_app (a := [.methodLink RX10 64 yX4_isThere, .instanceMethod yX4_isThere, .selects RX4 yX4_isThere yX4_isThere, .initialized RX4]) (goodIn_sub (kt_wf1 (List.mem_cons_of_mem _ (List.mem_append_left _ (List.mem_append_left _ (List.mem_append_left _ (List.mem_cons_of_mem _ (List.mem_cons_of_mem _ (List.Mem.head _))))))) (kt_wf1 (List.mem_cons_of_mem _ (List.mem_append_left _ (List.mem_append_left _ (List.mem_append_left _ (List.mem_cons_of_mem _ (List.mem_cons_of_mem _ (List.mem_cons_of_mem _ (List.Mem.head _)))))))) (kt_wf1 (List.mem_cons_of_mem _ (List.mem_append_left _ (List.mem_append_left _ (List.mem_append_left _ (List.mem_cons_of_mem _ (List.mem_cons_of_mem _ (List.mem_cons_of_mem _ (List.mem_cons_of_mem _ (List.Mem.head _))))))))) (kt_wf1 (List.mem_cons_of_mem _ (List.mem_append_left _ (List.mem_append_left _ (List.mem_append_left _ (List.mem_cons_of_mem _ (List.mem_cons_of_mem _ (List.mem_cons_of_mem _ (List.mem_cons_of_mem _ (List.mem_cons_of_mem _ (List.Mem.head _)))))))))) kt_wf0)))) (by decide +kernel)) ggX10_law_X4_isThere
set_option maxRecDepth 20000 in
theorem kt_wg_X1_change : wsX1_change.all goodWord = true := by decide +kernel
set_option maxRecDepth 20000 in
theorem ggX10_law_X1_change : GoodIn wsX10_law wsX1_change := goodIn_sub (kt_wf1 (List.mem_cons_of_mem _ (List.mem_append_left _ (List.mem_append_left _ (List.mem_append_left _ (List.mem_cons_of_mem _ (List.mem_cons_of_mem _ (List.mem_cons_of_mem _ (List.mem_cons_of_mem _ (List.mem_cons_of_mem _ (List.mem_cons_of_mem _ (List.mem_cons_of_mem _ (List.mem_cons_of_mem _ (List.mem_cons_of_mem _ (List.mem_cons_of_mem _ (List.mem_cons_of_mem _ (List.mem_cons_of_mem _ (List.Mem.head _))))))))))))))))) (kt_wfa (kt_wf1 (List.mem_cons_of_mem _ (List.mem_append_left _ (List.mem_append_left _ (List.mem_append_left _ (List.mem_cons_of_mem _ (List.mem_cons_of_mem _ (List.mem_cons_of_mem _ (List.mem_cons_of_mem _ (List.mem_cons_of_mem _ (List.mem_cons_of_mem _ (List.mem_cons_of_mem _ (List.mem_cons_of_mem _ (List.mem_cons_of_mem _ (List.mem_cons_of_mem _ (List.mem_cons_of_mem _ (List.mem_cons_of_mem _ (List.mem_cons_of_mem _ (List.Mem.head _)))))))))))))))))) (kt_wf1 (List.mem_cons_of_mem _ (List.mem_append_left _ (List.mem_append_left _ (List.mem_append_left _ (List.mem_cons_of_mem _ (List.mem_cons_of_mem _ (List.mem_cons_of_mem _ (List.mem_cons_of_mem _ (List.mem_cons_of_mem _ (List.mem_cons_of_mem _ (List.mem_cons_of_mem _ (List.mem_cons_of_mem _ (List.mem_cons_of_mem _ (List.mem_cons_of_mem _ (List.mem_cons_of_mem _ (List.mem_cons_of_mem _ (List.mem_cons_of_mem _ (List.mem_cons_of_mem _ (List.Mem.head _))))))))))))))))))) (kt_wf1 (List.mem_cons_of_mem _ (List.mem_append_left _ (List.mem_append_left _ (List.mem_append_left _ (List.mem_cons_of_mem _ (List.mem_cons_of_mem _ (List.mem_cons_of_mem _ (List.mem_cons_of_mem _ (List.mem_cons_of_mem _ (List.mem_cons_of_mem _ (List.mem_cons_of_mem _ (List.mem_cons_of_mem _ (List.mem_cons_of_mem _ (List.mem_cons_of_mem _ (List.mem_cons_of_mem _ (List.mem_cons_of_mem _ (List.mem_cons_of_mem _ (List.mem_cons_of_mem _ (List.mem_cons_of_mem _ (List.Mem.head _)))))))))))))))))))) (kt_wf1 (List.mem_cons_of_mem _ (List.mem_append_left _ (List.mem_append_left _ (List.mem_append_left _ (List.mem_cons_of_mem _ (List.mem_cons_of_mem _ (List.mem_cons_of_mem _ (List.mem_cons_of_mem _ (List.mem_cons_of_mem _ (List.mem_cons_of_mem _ (List.mem_cons_of_mem _ (List.mem_cons_of_mem _ (List.mem_cons_of_mem _ (List.mem_cons_of_mem _ (List.mem_cons_of_mem _ (List.mem_cons_of_mem _ (List.mem_cons_of_mem _ (List.mem_cons_of_mem _ (List.mem_cons_of_mem _ (List.mem_cons_of_mem _ (List.Mem.head _))))))))))))))))))))) (kt_wf1 (List.mem_cons_of_mem _ (List.mem_append_left _ (List.mem_append_left _ (List.mem_append_left _ (List.mem_cons_of_mem _ (List.mem_cons_of_mem _ (List.mem_cons_of_mem _ (List.mem_cons_of_mem _ (List.mem_cons_of_mem _ (List.mem_cons_of_mem _ (List.mem_cons_of_mem _ (List.mem_cons_of_mem _ (List.mem_cons_of_mem _ (List.mem_cons_of_mem _ (List.mem_cons_of_mem _ (List.mem_cons_of_mem _ (List.mem_cons_of_mem _ (List.mem_cons_of_mem _ (List.mem_cons_of_mem _ (List.mem_cons_of_mem _ (List.mem_cons_of_mem _ (List.Mem.head _)))))))))))))))))))))) kt_wf0))))) (fun _ h => kt_wp_X10_law__X10 h))) kt_wg_X1_change
set_option maxRecDepth 20000 in
theorem gX10_law_X1_change : GoodIn wsX10_law (wsV RX10 72 RX1 yX1_change wsX1_change) := goodIn_app (a := [.methodLink RX10 72 yX1_change, .instanceMethod yX1_change, .selects RX1 yX1_change yX1_change, .initialized RX1]) (goodIn_sub (kt_wf1 (List.mem_cons_of_mem _ (List.mem_append_left _ (List.mem_append_left _ (List.mem_append_left _ (List.mem_cons_of_mem _ (List.mem_cons_of_mem _ (List.mem_cons_of_mem _ (List.mem_cons_of_mem _ (List.mem_cons_of_mem _ (List.mem_cons_of_mem _ (List.mem_cons_of_mem _ (List.mem_cons_of_mem _ (List.Mem.head _))))))))))))) (kt_wf1 (List.mem_cons_of_mem _ (List.mem_append_left _ (List.mem_append_left _ (List.mem_append_left _ (List.mem_cons_of_mem _ (List.mem_cons_of_mem _ (List.mem_cons_of_mem _ (List.mem_cons_of_mem _ (List.mem_cons_of_mem _ (List.mem_cons_of_mem _ (List.mem_cons_of_mem _ (List.mem_cons_of_mem _ (List.mem_cons_of_mem _ (List.Mem.head _)))))))))))))) (kt_wf1 (List.mem_cons_of_mem _ (List.mem_append_left _ (List.mem_append_left _ (List.mem_append_left _ (List.mem_cons_of_mem _ (List.mem_cons_of_mem _ (List.mem_cons_of_mem _ (List.mem_cons_of_mem _ (List.mem_cons_of_mem _ (List.mem_cons_of_mem _ (List.mem_cons_of_mem _ (List.mem_cons_of_mem _ (List.mem_cons_of_mem _ (List.mem_cons_of_mem _ (List.Mem.head _))))))))))))))) (kt_wf1 (List.mem_cons_of_mem _ (List.mem_append_left _ (List.mem_append_left _ (List.mem_append_left _ (List.mem_cons_of_mem _ (List.mem_cons_of_mem _ (List.mem_cons_of_mem _ (List.mem_cons_of_mem _ (List.mem_cons_of_mem _ (List.mem_cons_of_mem _ (List.mem_cons_of_mem _ (List.mem_cons_of_mem _ (List.mem_cons_of_mem _ (List.mem_cons_of_mem _ (List.mem_cons_of_mem _ (List.Mem.head _)))))))))))))))) kt_wf0)))) (by decide +kernel)) ggX10_law_X1_change
theorem sX10_law_0 : kt_sg cX10_law 0 [42, 180, 0, 37, 182, 0, 64, 154, 0, 24, 42, 180, 0, 19, 27, 28, 29, 21, 4, 21, 5, 182, 0, 72, 153, 0, 7, 4, 167, 0, 4, 3, 172] = true := by decide +kernel
theorem dX10_law_0 : decode cX10_law 0 = .ok (.aload_n 0, 1) := kt_o42 (j := 0) sX10_law_0 rfl
theorem dX10_law_1 : decode cX10_law 1 = .ok (.getfield 37, 3) := kt_o180 (j := 1) sX10_law_0 rfl rfl
theorem dX10_law_4 : decode cX10_law 4 = .ok (.invokevirtual 64, 3) := kt_o182 (j := 4) sX10_law_0 rfl rfl
theorem dX10_law_7 : decode cX10_law 7 = .ok (.ifCond .ne 24, 3) := kt_o154 (j := 7) sX10_law_0 rfl (by decide +kernel)
theorem dX10_law_10 : decode cX10_law 10 = .ok (.aload_n 0, 1) := kt_o42 (j := 10) sX10_law_0 rfl
theorem dX10_law_11 : decode cX10_law 11 = .ok (.getfield 19, 3) := kt_o180 (j := 11) sX10_law_0 rfl rfl
theorem dX10_law_14 : decode cX10_law 14 = .ok (.iload_n 1, 1) := kt_o27 (j := 14) sX10_law_0 rfl
theorem dX10_law_15 : decode cX10_law 15 = .ok (.iload_n 2, 1) := kt_o28 (j := 15) sX10_law_0 rfl
theorem dX10_law_16 : decode cX10_law 16 = .ok (.iload_n 3, 1) := kt_o29 (j := 16) sX10_law_0 rfl
theorem dX10_law_17 : decode cX10_law 17 = .ok (.iload 4, 2) := kt_o21 (j := 17) sX10_law_0 rfl
theorem dX10_law_19 : decode cX10_law 19 = .ok (.iload 5, 2) := kt_o21 (j := 19) sX10_law_0 rfl
theorem dX10_law_21 : decode cX10_law 21 = .ok (.invokevirtual 72, 3) := kt_o182 (j := 21) sX10_law_0 rfl rfl
theorem dX10_law_24 : decode cX10_law 24 = .ok (.ifCond .eq 7, 3) := kt_o153 (j := 24) sX10_law_0 rfl (by decide +kernel)
theorem dX10_law_27 : decode cX10_law 27 = .ok (.iconst 1, 1) := kt_o4 (j := 27) sX10_law_0 rfl
theorem dX10_law_28 : decode cX10_law 28 = .ok (.goto 4, 3) := kt_o167 (j := 28) sX10_law_0 rfl (by decide +kernel)
theorem dX10_law_31 : decode cX10_law 31 = .ok (.iconst 0, 1) := kt_o3 (j := 31) sX10_law_0 rfl
theorem dX10_law_32 : decode cX10_law 32 = .ok (.ireturn, 1) := kt_o172 (j := 32) sX10_law_0 rfl
theorem kt_wp_X10_begin__X10_begin_r1 {w : Cond} (h : w ∈ wsX10_begin_r1) : w ∈ wsX10_begin := List.mem_cons_of_mem _ (List.mem_append_left _ (List.mem_append_left _ (List.mem_append_left _ (List.mem_append_left _ (List.mem_append_left _ (List.mem_append_left _ (List.mem_append_left _ (List.mem_append_left _ (List.mem_append_left _ (List.mem_append_left _ (h)))))))))))
theorem kt_wp_X10_begin__X10_begin_r2 {w : Cond} (h : w ∈ wsX10_begin_r2) : w ∈ wsX10_begin := List.mem_cons_of_mem _ (List.mem_append_left _ (List.mem_append_left _ (List.mem_append_left _ (List.mem_append_left _ (List.mem_append_left _ (List.mem_append_left _ (List.mem_append_left _ (List.mem_append_left _ (List.mem_append_left _ (List.mem_append_right _ (List.mem_append_left _ (h))))))))))))
theorem kt_wp_X10_begin__X10_begin_r3 {w : Cond} (h : w ∈ wsX10_begin_r3) : w ∈ wsX10_begin := List.mem_cons_of_mem _ (List.mem_append_left _ (List.mem_append_left _ (List.mem_append_left _ (List.mem_append_left _ (List.mem_append_left _ (List.mem_append_left _ (List.mem_append_left _ (List.mem_append_left _ (List.mem_append_left _ (List.mem_append_right _ (List.mem_append_right _ (List.mem_append_left _ (h)))))))))))))
theorem kt_wp_X10_begin__X10_begin_r4 {w : Cond} (h : w ∈ wsX10_begin_r4) : w ∈ wsX10_begin := List.mem_cons_of_mem _ (List.mem_append_left _ (List.mem_append_left _ (List.mem_append_left _ (List.mem_append_left _ (List.mem_append_left _ (List.mem_append_left _ (List.mem_append_left _ (List.mem_append_left _ (List.mem_append_left _ (List.mem_append_right _ (List.mem_append_right _ (List.mem_append_right _ (List.mem_append_left _ (h))))))))))))))
theorem kt_wp_X10_begin__X10_begin_r5 {w : Cond} (h : w ∈ wsX10_begin_r5) : w ∈ wsX10_begin := List.mem_cons_of_mem _ (List.mem_append_left _ (List.mem_append_left _ (List.mem_append_left _ (List.mem_append_left _ (List.mem_append_left _ (List.mem_append_left _ (List.mem_append_left _ (List.mem_append_left _ (List.mem_append_left _ (List.mem_append_right _ (List.mem_append_right _ (List.mem_append_right _ (List.mem_append_right _ (List.mem_append_left _ (h)))))))))))))))
theorem kt_wp_X10_begin__X10_begin_r6 {w : Cond} (h : w ∈ wsX10_begin_r6) : w ∈ wsX10_begin := List.mem_cons_of_mem _ (List.mem_append_left _ (List.mem_append_left _ (List.mem_append_left _ (List.mem_append_left _ (List.mem_append_left _ (List.mem_append_left _ (List.mem_append_left _ (List.mem_append_left _ (List.mem_append_left _ (List.mem_append_right _ (List.mem_append_right _ (List.mem_append_right _ (List.mem_append_right _ (List.mem_append_right _ (h)))))))))))))))
theorem kt_wp_X10_begin__X100 {w : Cond} (h : w ∈ wsX100) : w ∈ wsX10_begin := List.mem_cons_of_mem _ (List.mem_append_left _ (List.mem_append_left _ (List.mem_append_left _ (List.mem_append_left _ (List.mem_append_left _ (List.mem_append_left _ (List.mem_append_left _ (List.mem_append_left _ (List.mem_append_right _ (h))))))))))
theorem kt_wp_X10_begin__X60 {w : Cond} (h : w ∈ wsX60) : w ∈ wsX10_begin := List.mem_cons_of_mem _ (List.mem_append_left _ (List.mem_append_left _ (List.mem_append_left _ (List.mem_append_left _ (List.mem_append_left _ (List.mem_append_left _ (List.mem_append_left _ (List.mem_append_right _ (h)))))))))
theorem kt_wp_X10_begin__X40 {w : Cond} (h : w ∈ wsX40) : w ∈ wsX10_begin := List.mem_cons_of_mem _ (List.mem_append_left _ (List.mem_append_left _ (List.mem_append_left _ (List.mem_append_left _ (List.mem_append_left _ (List.mem_append_left _ (List.mem_append_right _ (h))))))))
theorem kt_wp_X10_begin__X90 {w : Cond} (h : w ∈ wsX90) : w ∈ wsX10_begin := List.mem_cons_of_mem _ (List.mem_append_left _ (List.mem_append_left _ (List.mem_append_left _ (List.mem_append_left _ (List.mem_append_left _ (List.mem_append_right _ (h)))))))
theorem kt_wp_X10_begin__X70 {w : Cond} (h : w ∈ wsX70) : w ∈ wsX10_begin := List.mem_cons_of_mem _ (List.mem_append_left _ (List.mem_append_left _ (List.mem_append_left _ (List.mem_append_left _ (List.mem_append_right _ (h))))))
theorem kt_wp_X10_begin__X10 {w : Cond} (h : w ∈ wsX10) : w ∈ wsX10_begin := List.mem_cons_of_mem _ (List.mem_append_left _ (List.mem_append_left _ (List.mem_append_left _ (List.mem_append_right _ (h)))))
theorem kt_wp_X10_begin__X80 {w : Cond} (h : w ∈ wsX80) : w ∈ wsX10_begin := List.mem_cons_of_mem _ (List.mem_append_left _ (List.mem_append_left _ (List.mem_append_right _ (h))))
theorem kt_wp_X10_begin__X30 {w : Cond} (h : w ∈ wsX30) : w ∈ wsX10_begin := List.mem_cons_of_mem _ (List.mem_append_left _ (List.mem_append_right _ (h)))
theorem kt_wp_X10_begin__X00 {w : Cond} (h : w ∈ wsX00) : w ∈ wsX10_begin := List.mem_cons_of_mem _ (List.mem_append_right _ (h))
set_option maxRecDepth 20000 in
theorem ggX10_begin_X4_isThere : GoodIn wsX10_begin wsX4_isThere := goodIn_sub (kt_wf1 (kt_wp_X10_begin__X10_begin_r1 kt_wm8) (kt_wfa (kt_wf1 (kt_wp_X10_begin__X10_begin_r1 kt_wm9) kt_wf0) (fun _ h => kt_wp_X10_begin__X40 h))) kt_wg_X4_isThere
set_option maxRecDepth 20000 in
theorem gX10_begin_X4_isThere : GoodIn wsX10_begin (wsV RX10 64 RX4 yX4_isThere wsX4_isThere) := goodIn_app (a := [.methodLink RX10 64 yX4_isThere, .instanceMethod yX4_isThere, .selects RX4 yX4_isThere yX4_isThere, .initialized RX4]) (goodIn_sub (kt_wf1 (kt_wp_X10_begin__X10_begin_r1 kt_wm4) (kt_wf1 (kt_wp_X10_begin__X10_begin_r1 kt_wm5) (kt_wf1 (kt_wp_X10_begin__X10_begin_r1 kt_wm6) (kt_wf1 (kt_wp_X10_begin__X10_begin_r1 kt_wm7) kt_wf0)))) (by decide +kernel)) ggX10_begin_X4_isThere
set_option maxRecDepth 20000 in
theorem ggX10_begin_X10_isSide : GoodIn wsX10_begin wsX10_isSide := goodIn_sub (kt_wf1 (kt_wp_X10_begin__X10_begin_r1 kt_wm13) kt_wf0) kt_wg_X10_isSide
set_option maxRecDepth 20000 in
theorem gX10_begin_X10_isSide : GoodIn wsX10_begin (va_wsS RX10 76 yX10_isSide wsX10_isSide) := goodIn_app (goodIn_of _ (by decide +kernel)) ggX10_begin_X10_isSide
set_option maxRecDepth 20000 in
theorem kt_wg_X9_canBegin : wsX9_canBegin.all goodWord = true := by decide +kernel
set_option maxRecDepth 20000 in
theorem ggX10_begin_X9_canBegin : GoodIn wsX10_begin wsX9_canBegin := goodIn_sub (kt_wf1 (kt_wp_X10_begin__X10_begin_r1 kt_wm18) (kt_wfa (kt_wf1 (kt_wp_X10_begin__X10_begin_r1 kt_wm19) (kt_wf1 (kt_wp_X10_begin__X10_begin_r1 kt_wm20) (kt_wf1 (kt_wp_X10_begin__X10_begin_r1 kt_wm21) (kt_wf1 (kt_wp_X10_begin__X10_begin_r1 kt_wm22) (kt_wf1 (kt_wp_X10_begin__X10_begin_r1 kt_wm17) (kt_wf1 (kt_wp_X10_begin__X10_begin_r1 kt_wm23) (kt_wf1 (kt_wp_X10_begin__X10_begin_r2 kt_wm0) (kt_wf1 (kt_wp_X10_begin__X10_begin_r2 kt_wm1) (kt_wf1 (kt_wp_X10_begin__X10_begin_r2 kt_wm2) (kt_wf1 (kt_wp_X10_begin__X10_begin_r1 kt_wm12) (kt_wf1 (kt_wp_X10_begin__X10_begin_r2 kt_wm3) (kt_wf1 (kt_wp_X10_begin__X10_begin_r2 kt_wm4) (kt_wf1 (kt_wp_X10_begin__X10_begin_r2 kt_wm5) kt_wf0))))))))))))) (fun _ h => kt_wp_X10_begin__X90 h))) kt_wg_X9_canBegin
set_option maxRecDepth 20000 in
theorem gX10_begin_X9_canBegin : GoodIn wsX10_begin (wsV RX10 80 RX9 yX9_canBegin wsX9_canBegin) := goodIn_app (a := [.methodLink RX10 80 yX9_canBegin, .instanceMethod yX9_canBegin, .selects RX9 yX9_canBegin yX9_canBegin, .initialized RX9]) (goodIn_sub (kt_wf1 (kt_wp_X10_begin__X10_begin_r1 kt_wm14) (kt_wf1 (kt_wp_X10_begin__X10_begin_r1 kt_wm15) (kt_wf1 (kt_wp_X10_begin__X10_begin_r1 kt_wm16) (kt_wf1 (kt_wp_X10_begin__X10_begin_r1 kt_wm17) kt_wf0)))) (by decide +kernel)) ggX10_begin_X9_canBegin
set_option maxRecDepth 20000 in
theorem kt_wg_X7_forget : wsX7_forget.all goodWord = true := by decide +kernel
set_option maxRecDepth 20000 in
theorem ggX10_begin_X7_forget : GoodIn wsX10_begin wsX7_forget := goodIn_sub (kt_wf1 (kt_wp_X10_begin__X10_begin_r2 kt_wm10) (kt_wfa (kt_wf1 (kt_wp_X10_begin__X10_begin_r2 kt_wm11) kt_wf0) (fun _ h => kt_wp_X10_begin__X70 h))) kt_wg_X7_forget
set_option maxRecDepth 20000 in
theorem gX10_begin_X7_forget : GoodIn wsX10_begin (wsV RX10 83 RX7 yX7_forget wsX7_forget) := goodIn_app (a := [.methodLink RX10 83 yX7_forget, .instanceMethod yX7_forget, .selects RX7 yX7_forget yX7_forget, .initialized RX7]) (goodIn_sub (kt_wf1 (kt_wp_X10_begin__X10_begin_r2 kt_wm6) (kt_wf1 (kt_wp_X10_begin__X10_begin_r2 kt_wm7) (kt_wf1 (kt_wp_X10_begin__X10_begin_r2 kt_wm8) (kt_wf1 (kt_wp_X10_begin__X10_begin_r2 kt_wm9) kt_wf0)))) (by decide +kernel)) ggX10_begin_X7_forget
set_option maxRecDepth 20000 in
theorem kt_wg_X4_start : wsX4_start.all goodWord = true := by decide +kernel
set_option maxRecDepth 20000 in
theorem ggX10_begin_X4_start : GoodIn wsX10_begin wsX4_start := goodIn_sub (kt_wf1 (kt_wp_X10_begin__X10_begin_r2 kt_wm15) (kt_wfa (kt_wfa (kt_wfa (kt_wfa (kt_wfa (kt_wfa (kt_wfa (kt_wfa (kt_wf1 (kt_wp_X10_begin__X10_begin_r2 kt_wm16) (kt_wf1 (kt_wp_X10_begin__X10_begin_r2 kt_wm17) (kt_wf1 (kt_wp_X10_begin__X10_begin_r2 kt_wm18) (kt_wf1 (kt_wp_X10_begin__X10_begin_r2 kt_wm19) (kt_wf1 (kt_wp_X10_begin__X10_begin_r2 kt_wm20) (kt_wf1 (kt_wp_X10_begin__X10_begin_r2 kt_wm21) (kt_wf1 (kt_wp_X10_begin__X10_begin_r1 kt_wm7) (kt_wf1 (kt_wp_X10_begin__X10_begin_r2 kt_wm22) (kt_wf1 (kt_wp_X10_begin__X10_begin_r1 kt_wm9) (kt_wf1 (kt_wp_X10_begin__X10_begin_r2 kt_wm23) (kt_wf1 (kt_wp_X10_begin__X10_begin_r3 kt_wm0) (kt_wf1 (kt_wp_X10_begin__X10_begin_r3 kt_wm1) (kt_wf1 (kt_wp_X10_begin__X10_begin_r3 kt_wm2) (kt_wf1 (kt_wp_X10_begin__X10_begin_r3 kt_wm3) (kt_wf1 (kt_wp_X10_begin__X10_begin_r3 kt_wm4) (kt_wf1 (kt_wp_X10_begin__X10_begin_r3 kt_wm5) (kt_wf1 (kt_wp_X10_begin__X10_begin_r3 kt_wm6) (kt_wf1 (kt_wp_X10_begin__X10_begin_r3 kt_wm7) (kt_wf1 (kt_wp_X10_begin__X10_begin_r3 kt_wm8) (kt_wf1 (kt_wp_X10_begin__X10_begin_r3 kt_wm9) (kt_wf1 (kt_wp_X10_begin__X10_begin_r3 kt_wm10) (kt_wf1 (kt_wp_X10_begin__X10_begin_r3 kt_wm11) (kt_wf1 (kt_wp_X10_begin__X10_begin_r3 kt_wm12) (kt_wf1 (kt_wp_X10_begin__X10_begin_r3 kt_wm13) kt_wf0)))))))))))))))))))))))) (kt_wfa (kt_wf1 (kt_wp_X10_begin__X10_begin_r3 kt_wm14) (kt_wf1 (kt_wp_X10_begin__X10_begin_r3 kt_wm15) (kt_wf1 (kt_wp_X10_begin__X10_begin_r3 kt_wm16) (kt_wf1 (kt_wp_X10_begin__X10_begin_r3 kt_wm17) (kt_wf1 (kt_wp_X10_begin__X10_begin_r3 kt_wm18) (kt_wf1 (kt_wp_X10_begin__X10_begin_r3 kt_wm19) (kt_wf1 (kt_wp_X10_begin__X10_begin_r3 kt_wm20) (kt_wf1 (kt_wp_X10_begin__X10_begin_r3 kt_wm21) (kt_wf1 (kt_wp_X10_begin__X10_begin_r3 kt_wm22) (kt_wf1 (kt_wp_X10_begin__X10_begin_r3 kt_wm23) (kt_wf1 (kt_wp_X10_begin__X10_begin_r4 kt_wm0) (kt_wf1 (kt_wp_X10_begin__X10_begin_r4 kt_wm1) (kt_wf1 (kt_wp_X10_begin__X10_begin_r4 kt_wm2) (kt_wf1 (kt_wp_X10_begin__X10_begin_r4 kt_wm3) (kt_wf1 (kt_wp_X10_begin__X10_begin_r4 kt_wm4) (kt_wf1 (kt_wp_X10_begin__X10_begin_r4 kt_wm5) (kt_wf1 (kt_wp_X10_begin__X10_begin_r4 kt_wm6) (kt_wf1 (kt_wp_X10_begin__X10_begin_r4 kt_wm7) (kt_wf1 (kt_wp_X10_begin__X10_begin_r4 kt_wm8) (kt_wf1 (kt_wp_X10_begin__X10_begin_r4 kt_wm9) (kt_wf1 (kt_wp_X10_begin__X10_begin_r4 kt_wm10) (kt_wf1 (kt_wp_X10_begin__X10_begin_r4 kt_wm11) (kt_wf1 (kt_wp_X10_begin__X10_begin_r4 kt_wm12) (kt_wf1 (kt_wp_X10_begin__X10_begin_r1 kt_wm21) kt_wf0)))))))))))))))))))))))) (kt_wfa (kt_wf1 (kt_wp_X10_begin__X10_begin_r1 kt_wm22) (kt_wf1 (kt_wp_X10_begin__X10_begin_r1 kt_wm17) (kt_wf1 (kt_wp_X10_begin__X10_begin_r1 kt_wm23) (kt_wf1 (kt_wp_X10_begin__X10_begin_r2 kt_wm0) (kt_wf1 (kt_wp_X10_begin__X10_begin_r2 kt_wm1) (kt_wf1 (kt_wp_X10_begin__X10_begin_r2 kt_wm4) (kt_wf1 (kt_wp_X10_begin__X10_begin_r1 kt_wm12) (kt_wf1 (kt_wp_X10_begin__X10_begin_r2 kt_wm5) (kt_wf1 (kt_wp_X10_begin__X10_begin_r4 kt_wm13) (kt_wf1 (kt_wp_X10_begin__X10_begin_r2 kt_wm2) (kt_wf1 (kt_wp_X10_begin__X10_begin_r2 kt_wm3) (kt_wf1 (kt_wp_X10_begin__X10_begin_r4 kt_wm14) (kt_wf1 (kt_wp_X10_begin__X10_begin_r4 kt_wm15) (kt_wf1 (kt_wp_X10_begin__X10_begin_r4 kt_wm16) (kt_wf1 (kt_wp_X10_begin__X10_begin_r4 kt_wm17) (kt_wf1 (kt_wp_X10_begin__X10_begin_r4 kt_wm18) (kt_wf1 (kt_wp_X10_begin__X10_begin_r4 kt_wm19) (kt_wf1 (kt_wp_X10_begin__X10_begin_r4 kt_wm20) (kt_wf1 (kt_wp_X10_begin__X10_begin_r4 kt_wm21) (kt_wf1 (kt_wp_X10_begin__X10_begin_r4 kt_wm22) (kt_wf1 (kt_wp_X10_begin__X10_begin_r4 kt_wm23) (kt_wf1 (kt_wp_X10_begin__X10_begin_r5 kt_wm0) (kt_wf1 (kt_wp_X10_begin__X10_begin_r5 kt_wm1) (kt_wf1 (kt_wp_X10_begin__X10_begin_r5 kt_wm2) kt_wf0)))))))))))))))))))))))) (kt_wfa (kt_wf1 (kt_wp_X10_begin__X10_begin_r5 kt_wm3) (kt_wf1 (kt_wp_X10_begin__X10_begin_r5 kt_wm4) (kt_wf1 (kt_wp_X10_begin__X10_begin_r5 kt_wm5) (kt_wf1 (kt_wp_X10_begin__X10_begin_r5 kt_wm6) (kt_wf1 (kt_wp_X10_begin__X10_begin_r5 kt_wm7) (kt_wf1 (kt_wp_X10_begin__X10_begin_r5 kt_wm8) (kt_wf1 (kt_wp_X10_begin__X10_begin_r5 kt_wm9) (kt_wf1 (kt_wp_X10_begin__X10_begin_r5 kt_wm10) (kt_wf1 (kt_wp_X10_begin__X10_begin_r5 kt_wm11) (kt_wf1 (kt_wp_X10_begin__X10_begin_r5 kt_wm12) (kt_wf1 (kt_wp_X10_begin__X10_begin_r5 kt_wm13) (kt_wf1 (kt_wp_X10_begin__X10_begin_r5 kt_wm14) (kt_wf1 (kt_wp_X10_begin__X10_begin_r5 kt_wm15) (kt_wf1 (kt_wp_X10_begin__X10_begin_r5 kt_wm16) (kt_wf1 (kt_wp_X10_begin__X10_begin_r5 kt_wm17) (kt_wf1 (kt_wp_X10_begin__X10_begin_r5 kt_wm18) (kt_wf1 (kt_wp_X10_begin__X10_begin_r5 kt_wm19) (kt_wf1 (kt_wp_X10_begin__X10_begin_r5 kt_wm20) (kt_wf1 (kt_wp_X10_begin__X10_begin_r5 kt_wm21) (kt_wf1 (kt_wp_X10_begin__X10_begin_r5 kt_wm22) (kt_wf1 (kt_wp_X10_begin__X10_begin_r5 kt_wm23) (kt_wf1 (kt_wp_X10_begin__X10_begin_r6 kt_wm0) (kt_wf1 (kt_wp_X10_begin__X10_begin_r6 kt_wm1) (kt_wf1 (kt_wp_X10_begin__X10_begin_r6 kt_wm2) kt_wf0)))))))))))))))))))))))) (kt_wf1 (kt_wp_X10_begin__X10_begin_r6 kt_wm3) (kt_wf1 (kt_wp_X10_begin__X10_begin_r6 kt_wm4) (kt_wf1 (kt_wp_X10_begin__X10_begin_r6 kt_wm5) (kt_wf1 (kt_wp_X10_begin__X10_begin_r6 kt_wm6) (kt_wf1 (kt_wp_X10_begin__X10_begin_r6 kt_wm7) (kt_wf1 (kt_wp_X10_begin__X10_begin_r6 kt_wm8) (kt_wf1 (kt_wp_X10_begin__X10_begin_r6 kt_wm9) (kt_wf1 (kt_wp_X10_begin__X10_begin_r6 kt_wm10) (kt_wf1 (kt_wp_X10_begin__X10_begin_r6 kt_wm11) (kt_wf1 (kt_wp_X10_begin__X10_begin_r6 kt_wm12) (kt_wf1 (kt_wp_X10_begin__X10_begin_r6 kt_wm13) (kt_wf1 (kt_wp_X10_begin__X10_begin_r6 kt_wm14) kt_wf0)))))))))))))))) (fun _ h => kt_wp_X10_begin__X40 h)) (fun _ h => kt_wp_X10_begin__X60 h)) (fun _ h => kt_wp_X10_begin__X10 h)) (fun _ h => kt_wp_X10_begin__X90 h)) (fun _ h => kt_wp_X10_begin__X80 h)) (fun _ h => kt_wp_X10_begin__X30 h)) (fun _ h => kt_wp_X10_begin__X00 h))) kt_wg_X4_start
set_option maxRecDepth 20000 in
theorem gX10_begin_X4_start : GoodIn wsX10_begin (wsV RX10 86 RX4 yX4_start wsX4_start) := goodIn_app (a := [.methodLink RX10 86 yX4_start, .instanceMethod yX4_start, .selects RX4 yX4_start yX4_start, .initialized RX4]) (goodIn_sub (kt_wf1 (kt_wp_X10_begin__X10_begin_r2 kt_wm12) (kt_wf1 (kt_wp_X10_begin__X10_begin_r2 kt_wm13) (kt_wf1 (kt_wp_X10_begin__X10_begin_r2 kt_wm14) (kt_wf1 (kt_wp_X10_begin__X10_begin_r1 kt_wm7) kt_wf0)))) (by decide +kernel)) ggX10_begin_X4_start
theorem sX10_begin_0 : kt_sg cX10_begin 0 [42, 180, 0, 37, 182, 0, 64, 154, 0, 20, 27, 184, 0, 76, 153, 0, 13, 42, 180, 0, 10, 182, 0, 80, 154, 0, 5, 2, 172, 42, 180, 0, 53, 182, 0, 83, 42, 180, 0, 37, 42, 180, 0, 10, 27, 182, 0, 86, 42, 180, 0, 28, 180, 0, 90, 172] = true := by decide +kernel
theorem dX10_begin_0 : decode cX10_begin 0 = .ok (.aload_n 0, 1) := kt_o42 (j := 0) sX10_begin_0 rfl
theorem dX10_begin_1 : decode cX10_begin 1 = .ok (.getfield 37, 3) := kt_o180 (j := 1) sX10_begin_0 rfl rfl
theorem dX10_begin_4 : decode cX10_begin 4 = .ok (.invokevirtual 64, 3) := kt_o182 (j := 4) sX10_begin_0 rfl rfl
theorem dX10_begin_7 : decode cX10_begin 7 = .ok (.ifCond .ne 20, 3) := kt_o154 (j := 7) sX10_begin_0 rfl (by decide +kernel)
theorem dX10_begin_10 : decode cX10_begin 10 = .ok (.iload_n 1, 1) := kt_o27 (j := 10) sX10_begin_0 rfl
theorem dX10_begin_11 : decode cX10_begin 11 = .ok (.invokestatic 76, 3) := kt_o184 (j := 11) sX10_begin_0 rfl rfl
theorem dX10_begin_14 : decode cX10_begin 14 = .ok (.ifCond .eq 13, 3) := kt_o153 (j := 14) sX10_begin_0 rfl (by decide +kernel)
theorem dX10_begin_17 : decode cX10_begin 17 = .ok (.aload_n 0, 1) := kt_o42 (j := 17) sX10_begin_0 rfl
theorem dX10_begin_18 : decode cX10_begin 18 = .ok (.getfield 10, 3) := kt_o180 (j := 18) sX10_begin_0 rfl rfl
theorem dX10_begin_21 : decode cX10_begin 21 = .ok (.invokevirtual 80, 3) := kt_o182 (j := 21) sX10_begin_0 rfl rfl
theorem dX10_begin_24 : decode cX10_begin 24 = .ok (.ifCond .ne 5, 3) := kt_o154 (j := 24) sX10_begin_0 rfl (by decide +kernel)
theorem dX10_begin_27 : decode cX10_begin 27 = .ok (.iconst (-1), 1) := kt_o2 (j := 27) sX10_begin_0 rfl
theorem dX10_begin_28 : decode cX10_begin 28 = .ok (.ireturn, 1) := kt_o172 (j := 28) sX10_begin_0 rfl
theorem dX10_begin_29 : decode cX10_begin 29 = .ok (.aload_n 0, 1) := kt_o42 (j := 29) sX10_begin_0 rfl
theorem dX10_begin_30 : decode cX10_begin 30 = .ok (.getfield 53, 3) := kt_o180 (j := 30) sX10_begin_0 rfl rfl
theorem dX10_begin_33 : decode cX10_begin 33 = .ok (.invokevirtual 83, 3) := kt_o182 (j := 33) sX10_begin_0 rfl rfl
theorem dX10_begin_36 : decode cX10_begin 36 = .ok (.aload_n 0, 1) := kt_o42 (j := 36) sX10_begin_0 rfl
theorem dX10_begin_37 : decode cX10_begin 37 = .ok (.getfield 37, 3) := kt_o180 (j := 37) sX10_begin_0 rfl rfl
theorem dX10_begin_40 : decode cX10_begin 40 = .ok (.aload_n 0, 1) := kt_o42 (j := 40) sX10_begin_0 rfl
theorem dX10_begin_41 : decode cX10_begin 41 = .ok (.getfield 10, 3) := kt_o180 (j := 41) sX10_begin_0 rfl rfl
theorem dX10_begin_44 : decode cX10_begin 44 = .ok (.iload_n 1, 1) := kt_o27 (j := 44) sX10_begin_0 rfl
theorem dX10_begin_45 : decode cX10_begin 45 = .ok (.invokevirtual 86, 3) := kt_o182 (j := 45) sX10_begin_0 rfl rfl
theorem dX10_begin_48 : decode cX10_begin 48 = .ok (.aload_n 0, 1) := kt_o42 (j := 48) sX10_begin_0 rfl
theorem dX10_begin_49 : decode cX10_begin 49 = .ok (.getfield 28, 3) := kt_o180 (j := 49) sX10_begin_0 rfl rfl
theorem dX10_begin_52 : decode cX10_begin 52 = .ok (.getfield 90, 3) := kt_o180 (j := 52) sX10_begin_0 rfl rfl
theorem dX10_begin_55 : decode cX10_begin 55 = .ok (.ireturn, 1) := kt_o172 (j := 55) sX10_begin_0 rfl
theorem kt_wp_X10_stop__X10_stop_r1 {w : Cond} (h : w ∈ wsX10_stop_r1) : w ∈ wsX10_stop := List.mem_cons_of_mem _ (List.mem_append_left _ (List.mem_append_left _ (List.mem_append_left _ (List.mem_append_left _ (List.mem_append_left _ (List.mem_append_left _ (List.mem_append_left _ (h))))))))
theorem kt_wp_X10_stop__X10_stop_r2 {w : Cond} (h : w ∈ wsX10_stop_r2) : w ∈ wsX10_stop := List.mem_cons_of_mem _ (List.mem_append_left _ (List.mem_append_left _ (List.mem_append_left _ (List.mem_append_left _ (List.mem_append_left _ (List.mem_append_left _ (List.mem_append_right _ (List.mem_append_left _ (h)))))))))
theorem kt_wp_X10_stop__X10_stop_r3 {w : Cond} (h : w ∈ wsX10_stop_r3) : w ∈ wsX10_stop := List.mem_cons_of_mem _ (List.mem_append_left _ (List.mem_append_left _ (List.mem_append_left _ (List.mem_append_left _ (List.mem_append_left _ (List.mem_append_left _ (List.mem_append_right _ (List.mem_append_right _ (h)))))))))
theorem kt_wp_X10_stop__X100 {w : Cond} (h : w ∈ wsX100) : w ∈ wsX10_stop := List.mem_cons_of_mem _ (List.mem_append_left _ (List.mem_append_left _ (List.mem_append_left _ (List.mem_append_left _ (List.mem_append_left _ (List.mem_append_right _ (h)))))))
theorem kt_wp_X10_stop__X40 {w : Cond} (h : w ∈ wsX40) : w ∈ wsX10_stop := List.mem_cons_of_mem _ (List.mem_append_left _ (List.mem_append_left _ (List.mem_append_left _ (List.mem_append_left _ (List.mem_append_right _ (h))))))
theorem kt_wp_X10_stop__X60 {w : Cond} (h : w ∈ wsX60) : w ∈ wsX10_stop := List.mem_cons_of_mem _ (List.mem_append_left _ (List.mem_append_left _ (List.mem_append_left _ (List.mem_append_right _ (h)))))
theorem kt_wp_X10_stop__X80 {w : Cond} (h : w ∈ wsX80) : w ∈ wsX10_stop := List.mem_cons_of_mem _ (List.mem_append_left _ (List.mem_append_left _ (List.mem_append_right _ (h))))
theorem kt_wp_X10_stop__X30 {w : Cond} (h : w ∈ wsX30) : w ∈ wsX10_stop := List.mem_cons_of_mem _ (List.mem_append_left _ (List.mem_append_right _ (h)))
theorem kt_wp_X10_stop__X70 {w : Cond} (h : w ∈ wsX70) : w ∈ wsX10_stop := List.mem_cons_of_mem _ (List.mem_append_right _ (h))
set_option maxRecDepth 20000 in
theorem ggX10_stop_X4_isThere : GoodIn wsX10_stop wsX4_isThere := goodIn_sub (kt_wf1 (kt_wp_X10_stop__X10_stop_r1 kt_wm5) (kt_wfa (kt_wf1 (kt_wp_X10_stop__X10_stop_r1 kt_wm6) kt_wf0) (fun _ h => kt_wp_X10_stop__X40 h))) kt_wg_X4_isThere
set_option maxRecDepth 20000 in
theorem gX10_stop_X4_isThere : GoodIn wsX10_stop (wsV RX10 64 RX4 yX4_isThere wsX4_isThere) := goodIn_app (a := [.methodLink RX10 64 yX4_isThere, .instanceMethod yX4_isThere, .selects RX4 yX4_isThere yX4_isThere, .initialized RX4]) (goodIn_sub (kt_wf1 (kt_wp_X10_stop__X10_stop_r1 kt_wm1) (kt_wf1 (kt_wp_X10_stop__X10_stop_r1 kt_wm2) (kt_wf1 (kt_wp_X10_stop__X10_stop_r1 kt_wm3) (kt_wf1 (kt_wp_X10_stop__X10_stop_r1 kt_wm4) kt_wf0)))) (by decide +kernel)) ggX10_stop_X4_isThere
set_option maxRecDepth 20000 in
theorem ggX10_stop_X10_endPlay : GoodIn wsX10_stop wsX10_endPlay := goodIn_sub (kt_wf1 (kt_wp_X10_stop__X10_stop_r1 kt_wm11) (kt_wfa (kt_wfa (kt_wfa (kt_wfa (kt_wfa (kt_wfa (kt_wfa (kt_wf1 (kt_wp_X10_stop__X10_stop_r1 kt_wm0) (kt_wf1 (kt_wp_X10_stop__X10_stop_r1 kt_wm12) (kt_wf1 (kt_wp_X10_stop__X10_stop_r1 kt_wm13) (kt_wf1 (kt_wp_X10_stop__X10_stop_r1 kt_wm14) (kt_wf1 (kt_wp_X10_stop__X10_stop_r1 kt_wm15) (kt_wf1 (kt_wp_X10_stop__X10_stop_r1 kt_wm4) (kt_wf1 (kt_wp_X10_stop__X10_stop_r1 kt_wm16) (kt_wf1 (kt_wp_X10_stop__X10_stop_r1 kt_wm6) (kt_wf1 (kt_wp_X10_stop__X10_stop_r1 kt_wm17) (kt_wf1 (kt_wp_X10_stop__X10_stop_r1 kt_wm18) (kt_wf1 (kt_wp_X10_stop__X10_stop_r1 kt_wm19) (kt_wf1 (kt_wp_X10_stop__X10_stop_r1 kt_wm20) (kt_wf1 (kt_wp_X10_stop__X10_stop_r1 kt_wm21) (kt_wf1 (kt_wp_X10_stop__X10_stop_r1 kt_wm22) (kt_wf1 (kt_wp_X10_stop__X10_stop_r1 kt_wm23) (kt_wf1 (kt_wp_X10_stop__X10_stop_r2 kt_wm0) (kt_wf1 (kt_wp_X10_stop__X10_stop_r2 kt_wm1) (kt_wf1 (kt_wp_X10_stop__X10_stop_r2 kt_wm2) (kt_wf1 (kt_wp_X10_stop__X10_stop_r2 kt_wm3) (kt_wf1 (kt_wp_X10_stop__X10_stop_r2 kt_wm4) (kt_wf1 (kt_wp_X10_stop__X10_stop_r2 kt_wm5) (kt_wf1 (kt_wp_X10_stop__X10_stop_r2 kt_wm6) (kt_wf1 (kt_wp_X10_stop__X10_stop_r2 kt_wm7) (kt_wf1 (kt_wp_X10_stop__X10_stop_r2 kt_wm8) kt_wf0)))))))))))))))))))))))) (kt_wf1 (kt_wp_X10_stop__X10_stop_r2 kt_wm9) (kt_wf1 (kt_wp_X10_stop__X10_stop_r2 kt_wm10) (kt_wf1 (kt_wp_X10_stop__X10_stop_r2 kt_wm11) (kt_wf1 (kt_wp_X10_stop__X10_stop_r2 kt_wm12) (kt_wf1 (kt_wp_X10_stop__X10_stop_r2 kt_wm13) (kt_wf1 (kt_wp_X10_stop__X10_stop_r2 kt_wm14) (kt_wf1 (kt_wp_X10_stop__X10_stop_r2 kt_wm15) (kt_wf1 (kt_wp_X10_stop__X10_stop_r2 kt_wm16) (kt_wf1 (kt_wp_X10_stop__X10_stop_r2 kt_wm17) (kt_wf1 (kt_wp_X10_stop__X10_stop_r2 kt_wm18) (kt_wf1 (kt_wp_X10_stop__X10_stop_r2 kt_wm19) (kt_wf1 (kt_wp_X10_stop__X10_stop_r2 kt_wm20) (kt_wf1 (kt_wp_X10_stop__X10_stop_r2 kt_wm21) (kt_wf1 (kt_wp_X10_stop__X10_stop_r2 kt_wm22) (kt_wf1 (kt_wp_X10_stop__X10_stop_r2 kt_wm23) (kt_wf1 (kt_wp_X10_stop__X10_stop_r3 kt_wm0) (kt_wf1 (kt_wp_X10_stop__X10_stop_r3 kt_wm1) (kt_wf1 (kt_wp_X10_stop__X10_stop_r3 kt_wm2) (kt_wf1 (kt_wp_X10_stop__X10_stop_r3 kt_wm3) kt_wf0)))))))))))))))))))) (fun _ h => kt_wp_X10_stop__X100 h)) (fun _ h => kt_wp_X10_stop__X40 h)) (fun _ h => kt_wp_X10_stop__X60 h)) (fun _ h => kt_wp_X10_stop__X80 h)) (fun _ h => kt_wp_X10_stop__X30 h)) (fun _ h => kt_wp_X10_stop__X70 h))) kt_wg_X10_endPlay
set_option maxRecDepth 20000 in
theorem gX10_stop_X10_endPlay : GoodIn wsX10_stop (wsV RX10 61 RX10 yX10_endPlay wsX10_endPlay) := goodIn_app (a := [.methodLink RX10 61 yX10_endPlay, .instanceMethod yX10_endPlay, .selects RX10 yX10_endPlay yX10_endPlay, .initialized RX10]) (goodIn_sub (kt_wf1 (kt_wp_X10_stop__X10_stop_r1 kt_wm7) (kt_wf1 (kt_wp_X10_stop__X10_stop_r1 kt_wm8) (kt_wf1 (kt_wp_X10_stop__X10_stop_r1 kt_wm9) (kt_wf1 (kt_wp_X10_stop__X10_stop_r1 kt_wm10) kt_wf0)))) (by decide +kernel)) ggX10_stop_X10_endPlay
theorem sX10_stop_0 : kt_sg cX10_stop 0 [42, 180, 0, 37, 182, 0, 64, 154, 0, 5, 3, 172, 42, 182, 0, 61, 4, 172] = true := by decide +kernel
theorem dX10_stop_0 : decode cX10_stop 0 = .ok (.aload_n 0, 1) := kt_o42 (j := 0) sX10_stop_0 rfl
theorem dX10_stop_1 : decode cX10_stop 1 = .ok (.getfield 37, 3) := kt_o180 (j := 1) sX10_stop_0 rfl rfl
theorem dX10_stop_4 : decode cX10_stop 4 = .ok (.invokevirtual 64, 3) := kt_o182 (j := 4) sX10_stop_0 rfl rfl
theorem dX10_stop_7 : decode cX10_stop 7 = .ok (.ifCond .ne 5, 3) := kt_o154 (j := 7) sX10_stop_0 rfl (by decide +kernel)
theorem dX10_stop_10 : decode cX10_stop 10 = .ok (.iconst 0, 1) := kt_o3 (j := 10) sX10_stop_0 rfl
theorem dX10_stop_11 : decode cX10_stop 11 = .ok (.ireturn, 1) := kt_o172 (j := 11) sX10_stop_0 rfl
theorem dX10_stop_12 : decode cX10_stop 12 = .ok (.aload_n 0, 1) := kt_o42 (j := 12) sX10_stop_0 rfl
theorem dX10_stop_13 : decode cX10_stop 13 = .ok (.invokevirtual 61, 3) := kt_o182 (j := 13) sX10_stop_0 rfl rfl
theorem dX10_stop_16 : decode cX10_stop 16 = .ok (.iconst 1, 1) := kt_o4 (j := 16) sX10_stop_0 rfl
theorem dX10_stop_17 : decode cX10_stop 17 = .ok (.ireturn, 1) := kt_o172 (j := 17) sX10_stop_0 rfl
theorem kt_wp_X10_go__X10_go_r1 {w : Cond} (h : w ∈ wsX10_go_r1) : w ∈ wsX10_go := List.mem_cons_of_mem _ (List.mem_append_left _ (List.mem_append_left _ (List.mem_append_left _ (List.mem_append_left _ (List.mem_append_left _ (List.mem_append_left _ (List.mem_append_left _ (List.mem_append_left _ (h)))))))))
theorem kt_wp_X10_go__X10_go_r2 {w : Cond} (h : w ∈ wsX10_go_r2) : w ∈ wsX10_go := List.mem_cons_of_mem _ (List.mem_append_left _ (List.mem_append_left _ (List.mem_append_left _ (List.mem_append_left _ (List.mem_append_left _ (List.mem_append_left _ (List.mem_append_left _ (List.mem_append_right _ (List.mem_append_left _ (h))))))))))
theorem kt_wp_X10_go__X10_go_r3 {w : Cond} (h : w ∈ wsX10_go_r3) : w ∈ wsX10_go := List.mem_cons_of_mem _ (List.mem_append_left _ (List.mem_append_left _ (List.mem_append_left _ (List.mem_append_left _ (List.mem_append_left _ (List.mem_append_left _ (List.mem_append_left _ (List.mem_append_right _ (List.mem_append_right _ (List.mem_append_left _ (h)))))))))))
theorem kt_wp_X10_go__X10_go_r4 {w : Cond} (h : w ∈ wsX10_go_r4) : w ∈ wsX10_go := List.mem_cons_of_mem _ (List.mem_append_left _ (List.mem_append_left _ (List.mem_append_left _ (List.mem_append_left _ (List.mem_append_left _ (List.mem_append_left _ (List.mem_append_left _ (List.mem_append_right _ (List.mem_append_right _ (List.mem_append_right _ (List.mem_append_left _ (h))))))))))))
theorem kt_wp_X10_go__X10_go_r5 {w : Cond} (h : w ∈ wsX10_go_r5) : w ∈ wsX10_go := List.mem_cons_of_mem _ (List.mem_append_left _ (List.mem_append_left _ (List.mem_append_left _ (List.mem_append_left _ (List.mem_append_left _ (List.mem_append_left _ (List.mem_append_left _ (List.mem_append_right _ (List.mem_append_right _ (List.mem_append_right _ (List.mem_append_right _ (List.mem_append_left _ (h)))))))))))))
theorem kt_wp_X10_go__X10_go_r6 {w : Cond} (h : w ∈ wsX10_go_r6) : w ∈ wsX10_go := List.mem_cons_of_mem _ (List.mem_append_left _ (List.mem_append_left _ (List.mem_append_left _ (List.mem_append_left _ (List.mem_append_left _ (List.mem_append_left _ (List.mem_append_left _ (List.mem_append_right _ (List.mem_append_right _ (List.mem_append_right _ (List.mem_append_right _ (List.mem_append_right _ (List.mem_append_left _ (h))))))))))))))
theorem kt_wp_X10_go__X10_go_r7 {w : Cond} (h : w ∈ wsX10_go_r7) : w ∈ wsX10_go := List.mem_cons_of_mem _ (List.mem_append_left _ (List.mem_append_left _ (List.mem_append_left _ (List.mem_append_left _ (List.mem_append_left _ (List.mem_append_left _ (List.mem_append_left _ (List.mem_append_right _ (List.mem_append_right _ (List.mem_append_right _ (List.mem_append_right _ (List.mem_append_right _ (List.mem_append_right _ (h))))))))))))))
theorem kt_wp_X10_go__X100 {w : Cond} (h : w ∈ wsX100) : w ∈ wsX10_go := List.mem_cons_of_mem _ (List.mem_append_left _ (List.mem_append_left _ (List.mem_append_left _ (List.mem_append_left _ (List.mem_append_left _ (List.mem_append_left _ (List.mem_append_right _ (h))))))))
theorem kt_wp_X10_go__X40 {w : Cond} (h : w ∈ wsX40) : w ∈ wsX10_go := List.mem_cons_of_mem _ (List.mem_append_left _ (List.mem_append_left _ (List.mem_append_left _ (List.mem_append_left _ (List.mem_append_left _ (List.mem_append_right _ (h)))))))
theorem kt_wp_X10_go__X30 {w : Cond} (h : w ∈ wsX30) : w ∈ wsX10_go := List.mem_cons_of_mem _ (List.mem_append_left _ (List.mem_append_left _ (List.mem_append_left _ (List.mem_append_left _ (List.mem_append_right _ (h))))))
theorem kt_wp_X10_go__X60 {w : Cond} (h : w ∈ wsX60) : w ∈ wsX10_go := List.mem_cons_of_mem _ (List.mem_append_left _ (List.mem_append_left _ (List.mem_append_left _ (List.mem_append_right _ (h)))))
theorem kt_wp_X10_go__X80 {w : Cond} (h : w ∈ wsX80) : w ∈ wsX10_go := List.mem_cons_of_mem _ (List.mem_append_left _ (List.mem_append_left _ (List.mem_append_right _ (h))))
theorem kt_wp_X10_go__X10 {w : Cond} (h : w ∈ wsX10) : w ∈ wsX10_go := List.mem_cons_of_mem _ (List.mem_append_left _ (List.mem_append_right _ (h)))
theorem kt_wp_X10_go__X00 {w : Cond} (h : w ∈ wsX00) : w ∈ wsX10_go := List.mem_cons_of_mem _ (List.mem_append_right _ (h))
set_option maxRecDepth 20000 in
theorem kt_wg_X4_tryMove : wsX4_tryMove.all goodWord = true := by decide +kernel
set_option maxRecDepth 20000 in
theorem ggX10_go_X4_tryMove : GoodIn wsX10_go wsX4_tryMove := goodIn_sub (kt_wf1 (kt_wp_X10_go__X10_go_r1 kt_wm5) (kt_wfa (kt_wfa (kt_wfa (kt_wfa (kt_wfa (kt_wfa (kt_wfa (kt_wf1 (kt_wp_X10_go__X10_go_r1 kt_wm6) (kt_wf1 (kt_wp_X10_go__X10_go_r1 kt_wm7) (kt_wf1 (kt_wp_X10_go__X10_go_r1 kt_wm8) (kt_wf1 (kt_wp_X10_go__X10_go_r1 kt_wm9) (kt_wf1 (kt_wp_X10_go__X10_go_r1 kt_wm10) (kt_wf1 (kt_wp_X10_go__X10_go_r1 kt_wm11) (kt_wf1 (kt_wp_X10_go__X10_go_r1 kt_wm4) (kt_wf1 (kt_wp_X10_go__X10_go_r1 kt_wm12) (kt_wf1 (kt_wp_X10_go__X10_go_r1 kt_wm13) (kt_wf1 (kt_wp_X10_go__X10_go_r1 kt_wm14) (kt_wf1 (kt_wp_X10_go__X10_go_r1 kt_wm15) (kt_wf1 (kt_wp_X10_go__X10_go_r1 kt_wm16) (kt_wf1 (kt_wp_X10_go__X10_go_r1 kt_wm17) (kt_wf1 (kt_wp_X10_go__X10_go_r1 kt_wm18) (kt_wf1 (kt_wp_X10_go__X10_go_r1 kt_wm19) (kt_wf1 (kt_wp_X10_go__X10_go_r1 kt_wm20) (kt_wf1 (kt_wp_X10_go__X10_go_r1 kt_wm21) (kt_wf1 (kt_wp_X10_go__X10_go_r1 kt_wm22) (kt_wf1 (kt_wp_X10_go__X10_go_r1 kt_wm23) (kt_wf1 (kt_wp_X10_go__X10_go_r2 kt_wm0) (kt_wf1 (kt_wp_X10_go__X10_go_r2 kt_wm1) (kt_wf1 (kt_wp_X10_go__X10_go_r2 kt_wm2) (kt_wf1 (kt_wp_X10_go__X10_go_r2 kt_wm3) (kt_wf1 (kt_wp_X10_go__X10_go_r2 kt_wm4) kt_wf0)))))))))))))))))))))))) (kt_wfa (kt_wf1 (kt_wp_X10_go__X10_go_r2 kt_wm5) (kt_wf1 (kt_wp_X10_go__X10_go_r2 kt_wm6) (kt_wf1 (kt_wp_X10_go__X10_go_r2 kt_wm7) (kt_wf1 (kt_wp_X10_go__X10_go_r2 kt_wm8) (kt_wf1 (kt_wp_X10_go__X10_go_r2 kt_wm9) (kt_wf1 (kt_wp_X10_go__X10_go_r2 kt_wm10) (kt_wf1 (kt_wp_X10_go__X10_go_r2 kt_wm11) (kt_wf1 (kt_wp_X10_go__X10_go_r2 kt_wm12) (kt_wf1 (kt_wp_X10_go__X10_go_r2 kt_wm13) (kt_wf1 (kt_wp_X10_go__X10_go_r2 kt_wm14) (kt_wf1 (kt_wp_X10_go__X10_go_r2 kt_wm15) (kt_wf1 (kt_wp_X10_go__X10_go_r2 kt_wm16) (kt_wf1 (kt_wp_X10_go__X10_go_r2 kt_wm17) (kt_wf1 (kt_wp_X10_go__X10_go_r2 kt_wm18) (kt_wf1 (kt_wp_X10_go__X10_go_r2 kt_wm19) (kt_wf1 (kt_wp_X10_go__X10_go_r2 kt_wm20) (kt_wf1 (kt_wp_X10_go__X10_go_r2 kt_wm21) (kt_wf1 (kt_wp_X10_go__X10_go_r2 kt_wm22) (kt_wf1 (kt_wp_X10_go__X10_go_r2 kt_wm23) (kt_wf1 (kt_wp_X10_go__X10_go_r3 kt_wm0) (kt_wf1 (kt_wp_X10_go__X10_go_r3 kt_wm1) (kt_wf1 (kt_wp_X10_go__X10_go_r3 kt_wm2) (kt_wf1 (kt_wp_X10_go__X10_go_r3 kt_wm3) (kt_wf1 (kt_wp_X10_go__X10_go_r3 kt_wm4) kt_wf0)))))))))))))))))))))))) (kt_wfa (kt_wf1 (kt_wp_X10_go__X10_go_r3 kt_wm5) (kt_wf1 (kt_wp_X10_go__X10_go_r3 kt_wm6) (kt_wf1 (kt_wp_X10_go__X10_go_r3 kt_wm7) (kt_wf1 (kt_wp_X10_go__X10_go_r3 kt_wm8) (kt_wf1 (kt_wp_X10_go__X10_go_r3 kt_wm9) (kt_wf1 (kt_wp_X10_go__X10_go_r3 kt_wm10) (kt_wf1 (kt_wp_X10_go__X10_go_r3 kt_wm11) (kt_wf1 (kt_wp_X10_go__X10_go_r3 kt_wm12) (kt_wf1 (kt_wp_X10_go__X10_go_r3 kt_wm13) (kt_wf1 (kt_wp_X10_go__X10_go_r3 kt_wm14) (kt_wf1 (kt_wp_X10_go__X10_go_r3 kt_wm15) (kt_wf1 (kt_wp_X10_go__X10_go_r3 kt_wm16) (kt_wf1 (kt_wp_X10_go__X10_go_r3 kt_wm17) (kt_wf1 (kt_wp_X10_go__X10_go_r3 kt_wm18) (kt_wf1 (kt_wp_X10_go__X10_go_r3 kt_wm19) (kt_wf1 (kt_wp_X10_go__X10_go_r3 kt_wm20) (kt_wf1 (kt_wp_X10_go__X10_go_r3 kt_wm21) (kt_wf1 (kt_wp_X10_go__X10_go_r3 kt_wm22) (kt_wf1 (kt_wp_X10_go__X10_go_r3 kt_wm23) (kt_wf1 (kt_wp_X10_go__X10_go_r4 kt_wm0) (kt_wf1 (kt_wp_X10_go__X10_go_r4 kt_wm1) (kt_wf1 (kt_wp_X10_go__X10_go_r4 kt_wm2) (kt_wf1 (kt_wp_X10_go__X10_go_r4 kt_wm3) (kt_wf1 (kt_wp_X10_go__X10_go_r4 kt_wm4) kt_wf0)))))))))))))))))))))))) (kt_wfa (kt_wf1 (kt_wp_X10_go__X10_go_r4 kt_wm5) (kt_wf1 (kt_wp_X10_go__X10_go_r4 kt_wm6) (kt_wf1 (kt_wp_X10_go__X10_go_r4 kt_wm7) (kt_wf1 (kt_wp_X10_go__X10_go_r4 kt_wm8) (kt_wf1 (kt_wp_X10_go__X10_go_r4 kt_wm9) (kt_wf1 (kt_wp_X10_go__X10_go_r4 kt_wm10) (kt_wf1 (kt_wp_X10_go__X10_go_r4 kt_wm11) (kt_wf1 (kt_wp_X10_go__X10_go_r4 kt_wm12) (kt_wf1 (kt_wp_X10_go__X10_go_r4 kt_wm13) (kt_wf1 (kt_wp_X10_go__X10_go_r4 kt_wm14) (kt_wf1 (kt_wp_X10_go__X10_go_r4 kt_wm15) (kt_wf1 (kt_wp_X10_go__X10_go_r4 kt_wm16) (kt_wf1 (kt_wp_X10_go__X10_go_r4 kt_wm17) (kt_wf1 (kt_wp_X10_go__X10_go_r4 kt_wm18) (kt_wf1 (kt_wp_X10_go__X10_go_r4 kt_wm19) (kt_wf1 (kt_wp_X10_go__X10_go_r4 kt_wm20) (kt_wf1 (kt_wp_X10_go__X10_go_r4 kt_wm21) (kt_wf1 (kt_wp_X10_go__X10_go_r4 kt_wm22) (kt_wf1 (kt_wp_X10_go__X10_go_r4 kt_wm23) (kt_wf1 (kt_wp_X10_go__X10_go_r5 kt_wm0) (kt_wf1 (kt_wp_X10_go__X10_go_r5 kt_wm1) (kt_wf1 (kt_wp_X10_go__X10_go_r5 kt_wm2) (kt_wf1 (kt_wp_X10_go__X10_go_r5 kt_wm3) (kt_wf1 (kt_wp_X10_go__X10_go_r5 kt_wm4) kt_wf0)))))))))))))))))))))))) (kt_wfa (kt_wf1 (kt_wp_X10_go__X10_go_r5 kt_wm5) (kt_wf1 (kt_wp_X10_go__X10_go_r5 kt_wm6) (kt_wf1 (kt_wp_X10_go__X10_go_r5 kt_wm7) (kt_wf1 (kt_wp_X10_go__X10_go_r5 kt_wm8) (kt_wf1 (kt_wp_X10_go__X10_go_r5 kt_wm9) (kt_wf1 (kt_wp_X10_go__X10_go_r5 kt_wm10) (kt_wf1 (kt_wp_X10_go__X10_go_r5 kt_wm11) (kt_wf1 (kt_wp_X10_go__X10_go_r5 kt_wm12) (kt_wf1 (kt_wp_X10_go__X10_go_r5 kt_wm13) (kt_wf1 (kt_wp_X10_go__X10_go_r5 kt_wm14) (kt_wf1 (kt_wp_X10_go__X10_go_r5 kt_wm15) (kt_wf1 (kt_wp_X10_go__X10_go_r5 kt_wm16) (kt_wf1 (kt_wp_X10_go__X10_go_r5 kt_wm17) (kt_wf1 (kt_wp_X10_go__X10_go_r5 kt_wm18) (kt_wf1 (kt_wp_X10_go__X10_go_r5 kt_wm19) (kt_wf1 (kt_wp_X10_go__X10_go_r5 kt_wm20) (kt_wf1 (kt_wp_X10_go__X10_go_r5 kt_wm21) (kt_wf1 (kt_wp_X10_go__X10_go_r5 kt_wm22) (kt_wf1 (kt_wp_X10_go__X10_go_r5 kt_wm23) (kt_wf1 (kt_wp_X10_go__X10_go_r6 kt_wm0) (kt_wf1 (kt_wp_X10_go__X10_go_r6 kt_wm1) (kt_wf1 (kt_wp_X10_go__X10_go_r6 kt_wm2) (kt_wf1 (kt_wp_X10_go__X10_go_r6 kt_wm3) (kt_wf1 (kt_wp_X10_go__X10_go_r6 kt_wm4) kt_wf0)))))))))))))))))))))))) (kt_wfa (kt_wf1 (kt_wp_X10_go__X10_go_r6 kt_wm5) (kt_wf1 (kt_wp_X10_go__X10_go_r6 kt_wm6) (kt_wf1 (kt_wp_X10_go__X10_go_r6 kt_wm7) (kt_wf1 (kt_wp_X10_go__X10_go_r6 kt_wm8) (kt_wf1 (kt_wp_X10_go__X10_go_r6 kt_wm9) (kt_wf1 (kt_wp_X10_go__X10_go_r6 kt_wm10) (kt_wf1 (kt_wp_X10_go__X10_go_r6 kt_wm11) (kt_wf1 (kt_wp_X10_go__X10_go_r6 kt_wm12) (kt_wf1 (kt_wp_X10_go__X10_go_r6 kt_wm13) (kt_wf1 (kt_wp_X10_go__X10_go_r6 kt_wm14) (kt_wf1 (kt_wp_X10_go__X10_go_r6 kt_wm15) (kt_wf1 (kt_wp_X10_go__X10_go_r6 kt_wm16) (kt_wf1 (kt_wp_X10_go__X10_go_r6 kt_wm17) (kt_wf1 (kt_wp_X10_go__X10_go_r6 kt_wm18) (kt_wf1 (kt_wp_X10_go__X10_go_r6 kt_wm19) (kt_wf1 (kt_wp_X10_go__X10_go_r6 kt_wm20) (kt_wf1 (kt_wp_X10_go__X10_go_r6 kt_wm21) (kt_wf1 (kt_wp_X10_go__X10_go_r6 kt_wm22) (kt_wf1 (kt_wp_X10_go__X10_go_r6 kt_wm23) (kt_wf1 (kt_wp_X10_go__X10_go_r7 kt_wm0) (kt_wf1 (kt_wp_X10_go__X10_go_r7 kt_wm1) (kt_wf1 (kt_wp_X10_go__X10_go_r7 kt_wm2) (kt_wf1 (kt_wp_X10_go__X10_go_r7 kt_wm3) (kt_wf1 (kt_wp_X10_go__X10_go_r7 kt_wm4) kt_wf0)))))))))))))))))))))))) (kt_wf1 (kt_wp_X10_go__X10_go_r7 kt_wm5) (kt_wf1 (kt_wp_X10_go__X10_go_r7 kt_wm6) (kt_wf1 (kt_wp_X10_go__X10_go_r7 kt_wm7) (kt_wf1 (kt_wp_X10_go__X10_go_r7 kt_wm8) (kt_wf1 (kt_wp_X10_go__X10_go_r7 kt_wm9) kt_wf0))))))))))) (fun _ h => kt_wp_X10_go__X40 h)) (fun _ h => kt_wp_X10_go__X30 h)) (fun _ h => kt_wp_X10_go__X60 h)) (fun _ h => kt_wp_X10_go__X80 h)) (fun _ h => kt_wp_X10_go__X10 h)) (fun _ h => kt_wp_X10_go__X00 h))) kt_wg_X4_tryMove
set_option maxRecDepth 20000 in
theorem gX10_go_X4_tryMove : GoodIn wsX10_go (wsV RX10 94 RX4 yX4_tryMove wsX4_tryMove) := goodIn_app (a := [.methodLink RX10 94 yX4_tryMove, .instanceMethod yX4_tryMove, .selects RX4 yX4_tryMove yX4_tryMove, .initialized RX4]) (goodIn_sub (kt_wf1 (kt_wp_X10_go__X10_go_r1 kt_wm1) (kt_wf1 (kt_wp_X10_go__X10_go_r1 kt_wm2) (kt_wf1 (kt_wp_X10_go__X10_go_r1 kt_wm3) (kt_wf1 (kt_wp_X10_go__X10_go_r1 kt_wm4) kt_wf0)))) (by decide +kernel)) ggX10_go_X4_tryMove
theorem sX10_go_0 : kt_sg cX10_go 0 [42, 180, 0, 37, 27, 28, 29, 182, 0, 94, 172] = true := by decide +kernel
theorem dX10_go_0 : decode cX10_go 0 = .ok (.aload_n 0, 1) := kt_o42 (j := 0) sX10_go_0 rfl
theorem dX10_go_1 : decode cX10_go 1 = .ok (.getfield 37, 3) := kt_o180 (j := 1) sX10_go_0 rfl rfl
theorem dX10_go_4 : decode cX10_go 4 = .ok (.iload_n 1, 1) := kt_o27 (j := 4) sX10_go_0 rfl
theorem dX10_go_5 : decode cX10_go 5 = .ok (.iload_n 2, 1) := kt_o28 (j := 5) sX10_go_0 rfl
theorem dX10_go_6 : decode cX10_go 6 = .ok (.iload_n 3, 1) := kt_o29 (j := 6) sX10_go_0 rfl
theorem dX10_go_7 : decode cX10_go 7 = .ok (.invokevirtual 94, 3) := kt_o182 (j := 7) sX10_go_0 rfl rfl
theorem dX10_go_10 : decode cX10_go 10 = .ok (.ireturn, 1) := kt_o172 (j := 10) sX10_go_0 rfl
theorem kt_wp_X10_why__X10_why_r1 {w : Cond} (h : w ∈ wsX10_why_r1) : w ∈ wsX10_why := List.mem_cons_of_mem _ (List.mem_append_left _ (List.mem_append_left _ (List.mem_append_left _ (List.mem_append_left _ (List.mem_append_left _ (List.mem_append_left _ (List.mem_append_left _ (List.mem_append_left _ (h)))))))))
theorem kt_wp_X10_why__X10_why_r2 {w : Cond} (h : w ∈ wsX10_why_r2) : w ∈ wsX10_why := List.mem_cons_of_mem _ (List.mem_append_left _ (List.mem_append_left _ (List.mem_append_left _ (List.mem_append_left _ (List.mem_append_left _ (List.mem_append_left _ (List.mem_append_left _ (List.mem_append_right _ (List.mem_append_left _ (h))))))))))
theorem kt_wp_X10_why__X10_why_r3 {w : Cond} (h : w ∈ wsX10_why_r3) : w ∈ wsX10_why := List.mem_cons_of_mem _ (List.mem_append_left _ (List.mem_append_left _ (List.mem_append_left _ (List.mem_append_left _ (List.mem_append_left _ (List.mem_append_left _ (List.mem_append_left _ (List.mem_append_right _ (List.mem_append_right _ (List.mem_append_left _ (h)))))))))))
theorem kt_wp_X10_why__X10_why_r4 {w : Cond} (h : w ∈ wsX10_why_r4) : w ∈ wsX10_why := List.mem_cons_of_mem _ (List.mem_append_left _ (List.mem_append_left _ (List.mem_append_left _ (List.mem_append_left _ (List.mem_append_left _ (List.mem_append_left _ (List.mem_append_left _ (List.mem_append_right _ (List.mem_append_right _ (List.mem_append_right _ (List.mem_append_left _ (h))))))))))))
theorem kt_wp_X10_why__X10_why_r5 {w : Cond} (h : w ∈ wsX10_why_r5) : w ∈ wsX10_why := List.mem_cons_of_mem _ (List.mem_append_left _ (List.mem_append_left _ (List.mem_append_left _ (List.mem_append_left _ (List.mem_append_left _ (List.mem_append_left _ (List.mem_append_left _ (List.mem_append_right _ (List.mem_append_right _ (List.mem_append_right _ (List.mem_append_right _ (h))))))))))))
theorem kt_wp_X10_why__X100 {w : Cond} (h : w ∈ wsX100) : w ∈ wsX10_why := List.mem_cons_of_mem _ (List.mem_append_left _ (List.mem_append_left _ (List.mem_append_left _ (List.mem_append_left _ (List.mem_append_left _ (List.mem_append_left _ (List.mem_append_right _ (h))))))))
theorem kt_wp_X10_why__X40 {w : Cond} (h : w ∈ wsX40) : w ∈ wsX10_why := List.mem_cons_of_mem _ (List.mem_append_left _ (List.mem_append_left _ (List.mem_append_left _ (List.mem_append_left _ (List.mem_append_left _ (List.mem_append_right _ (h)))))))
theorem kt_wp_X10_why__X60 {w : Cond} (h : w ∈ wsX60) : w ∈ wsX10_why := List.mem_cons_of_mem _ (List.mem_append_left _ (List.mem_append_left _ (List.mem_append_left _ (List.mem_append_left _ (List.mem_append_right _ (h))))))
theorem kt_wp_X10_why__X80 {w : Cond} (h : w ∈ wsX80) : w ∈ wsX10_why := List.mem_cons_of_mem _ (List.mem_append_left _ (List.mem_append_left _ (List.mem_append_left _ (List.mem_append_right _ (h)))))
theorem kt_wp_X10_why__X10 {w : Cond} (h : w ∈ wsX10) : w ∈ wsX10_why := List.mem_cons_of_mem _ (List.mem_append_left _ (List.mem_append_left _ (List.mem_append_right _ (h))))
theorem kt_wp_X10_why__X00 {w : Cond} (h : w ∈ wsX00) : w ∈ wsX10_why := List.mem_cons_of_mem _ (List.mem_append_left _ (List.mem_append_right _ (h)))
theorem kt_wp_X10_why__X30 {w : Cond} (h : w ∈ wsX30) : w ∈ wsX10_why := List.mem_cons_of_mem _ (List.mem_append_right _ (h))
set_option maxRecDepth 20000 in
theorem ggX10_why_X4_reason : GoodIn wsX10_why wsX4_reason := goodIn_sub (kt_wf1 (kt_wp_X10_why__X10_why_r1 kt_wm5) (kt_wfa (kt_wfa (kt_wfa (kt_wfa (kt_wfa (kt_wfa (kt_wfa (kt_wf1 (kt_wp_X10_why__X10_why_r1 kt_wm6) (kt_wf1 (kt_wp_X10_why__X10_why_r1 kt_wm7) (kt_wf1 (kt_wp_X10_why__X10_why_r1 kt_wm8) (kt_wf1 (kt_wp_X10_why__X10_why_r1 kt_wm9) (kt_wf1 (kt_wp_X10_why__X10_why_r1 kt_wm10) (kt_wf1 (kt_wp_X10_why__X10_why_r1 kt_wm11) (kt_wf1 (kt_wp_X10_why__X10_why_r1 kt_wm12) (kt_wf1 (kt_wp_X10_why__X10_why_r1 kt_wm13) (kt_wf1 (kt_wp_X10_why__X10_why_r1 kt_wm14) (kt_wf1 (kt_wp_X10_why__X10_why_r1 kt_wm15) (kt_wf1 (kt_wp_X10_why__X10_why_r1 kt_wm16) (kt_wf1 (kt_wp_X10_why__X10_why_r1 kt_wm17) (kt_wf1 (kt_wp_X10_why__X10_why_r1 kt_wm18) (kt_wf1 (kt_wp_X10_why__X10_why_r1 kt_wm19) (kt_wf1 (kt_wp_X10_why__X10_why_r1 kt_wm20) (kt_wf1 (kt_wp_X10_why__X10_why_r1 kt_wm21) (kt_wf1 (kt_wp_X10_why__X10_why_r1 kt_wm22) (kt_wf1 (kt_wp_X10_why__X10_why_r1 kt_wm23) (kt_wf1 (kt_wp_X10_why__X10_why_r2 kt_wm0) (kt_wf1 (kt_wp_X10_why__X10_why_r2 kt_wm1) (kt_wf1 (kt_wp_X10_why__X10_why_r2 kt_wm2) (kt_wf1 (kt_wp_X10_why__X10_why_r2 kt_wm3) (kt_wf1 (kt_wp_X10_why__X10_why_r2 kt_wm4) (kt_wf1 (kt_wp_X10_why__X10_why_r2 kt_wm5) kt_wf0)))))))))))))))))))))))) (kt_wfa (kt_wf1 (kt_wp_X10_why__X10_why_r2 kt_wm6) (kt_wf1 (kt_wp_X10_why__X10_why_r2 kt_wm7) (kt_wf1 (kt_wp_X10_why__X10_why_r2 kt_wm8) (kt_wf1 (kt_wp_X10_why__X10_why_r2 kt_wm9) (kt_wf1 (kt_wp_X10_why__X10_why_r2 kt_wm10) (kt_wf1 (kt_wp_X10_why__X10_why_r2 kt_wm11) (kt_wf1 (kt_wp_X10_why__X10_why_r2 kt_wm12) (kt_wf1 (kt_wp_X10_why__X10_why_r2 kt_wm13) (kt_wf1 (kt_wp_X10_why__X10_why_r2 kt_wm14) (kt_wf1 (kt_wp_X10_why__X10_why_r2 kt_wm15) (kt_wf1 (kt_wp_X10_why__X10_why_r2 kt_wm16) (kt_wf1 (kt_wp_X10_why__X10_why_r2 kt_wm17) (kt_wf1 (kt_wp_X10_why__X10_why_r1 kt_wm4) (kt_wf1 (kt_wp_X10_why__X10_why_r2 kt_wm18) (kt_wf1 (kt_wp_X10_why__X10_why_r2 kt_wm19) (kt_wf1 (kt_wp_X10_why__X10_why_r2 kt_wm20) (kt_wf1 (kt_wp_X10_why__X10_why_r2 kt_wm21) (kt_wf1 (kt_wp_X10_why__X10_why_r2 kt_wm22) (kt_wf1 (kt_wp_X10_why__X10_why_r2 kt_wm23) (kt_wf1 (kt_wp_X10_why__X10_why_r3 kt_wm0) (kt_wf1 (kt_wp_X10_why__X10_why_r3 kt_wm1) (kt_wf1 (kt_wp_X10_why__X10_why_r3 kt_wm2) (kt_wf1 (kt_wp_X10_why__X10_why_r3 kt_wm3) (kt_wf1 (kt_wp_X10_why__X10_why_r3 kt_wm4) kt_wf0)))))))))))))))))))))))) (kt_wfa (kt_wf1 (kt_wp_X10_why__X10_why_r3 kt_wm5) (kt_wf1 (kt_wp_X10_why__X10_why_r3 kt_wm6) (kt_wf1 (kt_wp_X10_why__X10_why_r3 kt_wm7) (kt_wf1 (kt_wp_X10_why__X10_why_r3 kt_wm8) (kt_wf1 (kt_wp_X10_why__X10_why_r3 kt_wm9) (kt_wf1 (kt_wp_X10_why__X10_why_r3 kt_wm10) (kt_wf1 (kt_wp_X10_why__X10_why_r3 kt_wm11) (kt_wf1 (kt_wp_X10_why__X10_why_r3 kt_wm12) (kt_wf1 (kt_wp_X10_why__X10_why_r3 kt_wm13) (kt_wf1 (kt_wp_X10_why__X10_why_r3 kt_wm14) (kt_wf1 (kt_wp_X10_why__X10_why_r3 kt_wm15) (kt_wf1 (kt_wp_X10_why__X10_why_r3 kt_wm16) (kt_wf1 (kt_wp_X10_why__X10_why_r3 kt_wm17) (kt_wf1 (kt_wp_X10_why__X10_why_r3 kt_wm18) (kt_wf1 (kt_wp_X10_why__X10_why_r3 kt_wm19) (kt_wf1 (kt_wp_X10_why__X10_why_r3 kt_wm20) (kt_wf1 (kt_wp_X10_why__X10_why_r3 kt_wm21) (kt_wf1 (kt_wp_X10_why__X10_why_r3 kt_wm22) (kt_wf1 (kt_wp_X10_why__X10_why_r3 kt_wm23) (kt_wf1 (kt_wp_X10_why__X10_why_r4 kt_wm0) (kt_wf1 (kt_wp_X10_why__X10_why_r4 kt_wm1) (kt_wf1 (kt_wp_X10_why__X10_why_r4 kt_wm2) (kt_wf1 (kt_wp_X10_why__X10_why_r4 kt_wm3) (kt_wf1 (kt_wp_X10_why__X10_why_r4 kt_wm4) kt_wf0)))))))))))))))))))))))) (kt_wfa (kt_wf1 (kt_wp_X10_why__X10_why_r4 kt_wm5) (kt_wf1 (kt_wp_X10_why__X10_why_r4 kt_wm6) (kt_wf1 (kt_wp_X10_why__X10_why_r4 kt_wm7) (kt_wf1 (kt_wp_X10_why__X10_why_r4 kt_wm8) (kt_wf1 (kt_wp_X10_why__X10_why_r4 kt_wm9) (kt_wf1 (kt_wp_X10_why__X10_why_r4 kt_wm10) (kt_wf1 (kt_wp_X10_why__X10_why_r4 kt_wm11) (kt_wf1 (kt_wp_X10_why__X10_why_r4 kt_wm12) (kt_wf1 (kt_wp_X10_why__X10_why_r4 kt_wm13) (kt_wf1 (kt_wp_X10_why__X10_why_r4 kt_wm14) (kt_wf1 (kt_wp_X10_why__X10_why_r4 kt_wm15) (kt_wf1 (kt_wp_X10_why__X10_why_r4 kt_wm16) (kt_wf1 (kt_wp_X10_why__X10_why_r4 kt_wm17) (kt_wf1 (kt_wp_X10_why__X10_why_r4 kt_wm18) (kt_wf1 (kt_wp_X10_why__X10_why_r4 kt_wm19) (kt_wf1 (kt_wp_X10_why__X10_why_r4 kt_wm20) (kt_wf1 (kt_wp_X10_why__X10_why_r4 kt_wm21) (kt_wf1 (kt_wp_X10_why__X10_why_r4 kt_wm22) (kt_wf1 (kt_wp_X10_why__X10_why_r4 kt_wm23) (kt_wf1 (kt_wp_X10_why__X10_why_r5 kt_wm0) (kt_wf1 (kt_wp_X10_why__X10_why_r5 kt_wm1) (kt_wf1 (kt_wp_X10_why__X10_why_r5 kt_wm2) (kt_wf1 (kt_wp_X10_why__X10_why_r5 kt_wm3) (kt_wf1 (kt_wp_X10_why__X10_why_r5 kt_wm4) kt_wf0)))))))))))))))))))))))) (kt_wf1 (kt_wp_X10_why__X10_why_r5 kt_wm5) (kt_wf1 (kt_wp_X10_why__X10_why_r5 kt_wm6) kt_wf0)))))) (fun _ h => kt_wp_X10_why__X40 h)) (fun _ h => kt_wp_X10_why__X60 h)) (fun _ h => kt_wp_X10_why__X80 h)) (fun _ h => kt_wp_X10_why__X10 h)) (fun _ h => kt_wp_X10_why__X00 h)) (fun _ h => kt_wp_X10_why__X30 h))) kt_wg_X4_reason
set_option maxRecDepth 20000 in
theorem gX10_why_X4_reason : GoodIn wsX10_why (wsV RX10 98 RX4 yX4_reason wsX4_reason) := goodIn_app (a := [.methodLink RX10 98 yX4_reason, .instanceMethod yX4_reason, .selects RX4 yX4_reason yX4_reason, .initialized RX4]) (goodIn_sub (kt_wf1 (kt_wp_X10_why__X10_why_r1 kt_wm1) (kt_wf1 (kt_wp_X10_why__X10_why_r1 kt_wm2) (kt_wf1 (kt_wp_X10_why__X10_why_r1 kt_wm3) (kt_wf1 (kt_wp_X10_why__X10_why_r1 kt_wm4) kt_wf0)))) (by decide +kernel)) ggX10_why_X4_reason
theorem sX10_why_0 : kt_sg cX10_why 0 [42, 180, 0, 37, 27, 28, 29, 182, 0, 98, 172] = true := by decide +kernel
theorem dX10_why_0 : decode cX10_why 0 = .ok (.aload_n 0, 1) := kt_o42 (j := 0) sX10_why_0 rfl
theorem dX10_why_1 : decode cX10_why 1 = .ok (.getfield 37, 3) := kt_o180 (j := 1) sX10_why_0 rfl rfl
theorem dX10_why_4 : decode cX10_why 4 = .ok (.iload_n 1, 1) := kt_o27 (j := 4) sX10_why_0 rfl
theorem dX10_why_5 : decode cX10_why 5 = .ok (.iload_n 2, 1) := kt_o28 (j := 5) sX10_why_0 rfl
theorem dX10_why_6 : decode cX10_why 6 = .ok (.iload_n 3, 1) := kt_o29 (j := 6) sX10_why_0 rfl
theorem dX10_why_7 : decode cX10_why 7 = .ok (.invokevirtual 98, 3) := kt_o182 (j := 7) sX10_why_0 rfl rfl
theorem dX10_why_10 : decode cX10_why 10 = .ok (.ireturn, 1) := kt_o172 (j := 10) sX10_why_0 rfl
theorem kt_wp_X10_about__X10_about_r1 {w : Cond} (h : w ∈ wsX10_about_r1) : w ∈ wsX10_about := List.mem_cons_of_mem _ (List.mem_append_left _ (List.mem_append_left _ (List.mem_append_left _ (List.mem_append_left _ (List.mem_append_left _ (List.mem_append_left _ (List.mem_append_left _ (h))))))))
theorem kt_wp_X10_about__X10_about_r2 {w : Cond} (h : w ∈ wsX10_about_r2) : w ∈ wsX10_about := List.mem_cons_of_mem _ (List.mem_append_left _ (List.mem_append_left _ (List.mem_append_left _ (List.mem_append_left _ (List.mem_append_left _ (List.mem_append_left _ (List.mem_append_right _ (h))))))))
theorem kt_wp_X10_about__X100 {w : Cond} (h : w ∈ wsX100) : w ∈ wsX10_about := List.mem_cons_of_mem _ (List.mem_append_left _ (List.mem_append_left _ (List.mem_append_left _ (List.mem_append_left _ (List.mem_append_left _ (List.mem_append_right _ (h)))))))
theorem kt_wp_X10_about__X40 {w : Cond} (h : w ∈ wsX40) : w ∈ wsX10_about := List.mem_cons_of_mem _ (List.mem_append_left _ (List.mem_append_left _ (List.mem_append_left _ (List.mem_append_left _ (List.mem_append_right _ (h))))))
theorem kt_wp_X10_about__X60 {w : Cond} (h : w ∈ wsX60) : w ∈ wsX10_about := List.mem_cons_of_mem _ (List.mem_append_left _ (List.mem_append_left _ (List.mem_append_left _ (List.mem_append_right _ (h)))))
theorem kt_wp_X10_about__X30 {w : Cond} (h : w ∈ wsX30) : w ∈ wsX10_about := List.mem_cons_of_mem _ (List.mem_append_left _ (List.mem_append_left _ (List.mem_append_right _ (h))))
theorem kt_wp_X10_about__X90 {w : Cond} (h : w ∈ wsX90) : w ∈ wsX10_about := List.mem_cons_of_mem _ (List.mem_append_left _ (List.mem_append_right _ (h)))
theorem kt_wp_X10_about__X80 {w : Cond} (h : w ∈ wsX80) : w ∈ wsX10_about := List.mem_cons_of_mem _ (List.mem_append_right _ (h))
set_option maxRecDepth 20000 in
theorem ggX10_about_X4_sideOnTurn : GoodIn wsX10_about wsX4_sideOnTurn := goodIn_sub (kt_wf1 (kt_wp_X10_about__X10_about_r1 kt_wm7) (kt_wfa (kt_wfa (kt_wf1 (kt_wp_X10_about__X10_about_r1 kt_wm8) (kt_wf1 (kt_wp_X10_about__X10_about_r1 kt_wm9) kt_wf0)) (fun _ h => kt_wp_X10_about__X40 h)) (fun _ h => kt_wp_X10_about__X80 h))) kt_wg_X4_sideOnTurn
set_option maxRecDepth 20000 in
theorem gX10_about_X4_sideOnTurn : GoodIn wsX10_about (wsV RX10 104 RX4 yX4_sideOnTurn wsX4_sideOnTurn) := goodIn_app (a := [.methodLink RX10 104 yX4_sideOnTurn, .instanceMethod yX4_sideOnTurn, .selects RX4 yX4_sideOnTurn yX4_sideOnTurn, .initialized RX4]) (goodIn_sub (kt_wf1 (kt_wp_X10_about__X10_about_r1 kt_wm3) (kt_wf1 (kt_wp_X10_about__X10_about_r1 kt_wm4) (kt_wf1 (kt_wp_X10_about__X10_about_r1 kt_wm5) (kt_wf1 (kt_wp_X10_about__X10_about_r1 kt_wm6) kt_wf0)))) (by decide +kernel)) ggX10_about_X4_sideOnTurn
set_option maxRecDepth 20000 in
theorem kt_wg_X4_lost : wsX4_lost.all goodWord = true := by decide +kernel
set_option maxRecDepth 20000 in
theorem ggX10_about_X4_lost : GoodIn wsX10_about wsX4_lost := goodIn_sub (kt_wf1 (kt_wp_X10_about__X10_about_r1 kt_wm13) (kt_wfa (kt_wfa (kt_wfa (kt_wf1 (kt_wp_X10_about__X10_about_r1 kt_wm14) (kt_wf1 (kt_wp_X10_about__X10_about_r1 kt_wm9) (kt_wf1 (kt_wp_X10_about__X10_about_r1 kt_wm15) (kt_wf1 (kt_wp_X10_about__X10_about_r1 kt_wm16) (kt_wf1 (kt_wp_X10_about__X10_about_r1 kt_wm17) (kt_wf1 (kt_wp_X10_about__X10_about_r1 kt_wm18) (kt_wf1 (kt_wp_X10_about__X10_about_r1 kt_wm19) (kt_wf1 (kt_wp_X10_about__X10_about_r1 kt_wm20) kt_wf0)))))))) (fun _ h => kt_wp_X10_about__X40 h)) (fun _ h => kt_wp_X10_about__X60 h)) (fun _ h => kt_wp_X10_about__X80 h))) kt_wg_X4_lost
set_option maxRecDepth 20000 in
theorem gX10_about_X4_lost : GoodIn wsX10_about (wsV RX10 108 RX4 yX4_lost wsX4_lost) := goodIn_app (a := [.methodLink RX10 108 yX4_lost, .instanceMethod yX4_lost, .selects RX4 yX4_lost yX4_lost, .initialized RX4]) (goodIn_sub (kt_wf1 (kt_wp_X10_about__X10_about_r1 kt_wm10) (kt_wf1 (kt_wp_X10_about__X10_about_r1 kt_wm11) (kt_wf1 (kt_wp_X10_about__X10_about_r1 kt_wm12) (kt_wf1 (kt_wp_X10_about__X10_about_r1 kt_wm6) kt_wf0)))) (by decide +kernel)) ggX10_about_X4_lost
set_option maxRecDepth 20000 in
theorem ggX10_about_X9_size : GoodIn wsX10_about wsX9_size := goodIn_sub (kt_wf1 (kt_wp_X10_about__X10_about_r2 kt_wm1) (kt_wfa (kt_wf1 (kt_wp_X10_about__X10_about_r2 kt_wm2) (kt_wf1 (kt_wp_X10_about__X10_about_r2 kt_wm3) kt_wf0)) (fun _ h => kt_wp_X10_about__X90 h))) kt_wg_X9_size
set_option maxRecDepth 20000 in
theorem gX10_about_X9_size : GoodIn wsX10_about (wsV RX10 120 RX9 yX9_size wsX9_size) := goodIn_app (a := [.methodLink RX10 120 yX9_size, .instanceMethod yX9_size, .selects RX9 yX9_size yX9_size, .initialized RX9]) (goodIn_sub (kt_wf1 (kt_wp_X10_about__X10_about_r1 kt_wm21) (kt_wf1 (kt_wp_X10_about__X10_about_r1 kt_wm22) (kt_wf1 (kt_wp_X10_about__X10_about_r1 kt_wm23) (kt_wf1 (kt_wp_X10_about__X10_about_r2 kt_wm0) kt_wf0)))) (by decide +kernel)) ggX10_about_X9_size
set_option maxRecDepth 20000 in
theorem ggX10_about_X3_latestTakings : GoodIn wsX10_about wsX3_latestTakings := goodIn_sub (kt_wf1 (kt_wp_X10_about__X10_about_r2 kt_wm8) (kt_wfa (kt_wf1 (kt_wp_X10_about__X10_about_r2 kt_wm9) (kt_wf1 (kt_wp_X10_about__X10_about_r2 kt_wm10) kt_wf0)) (fun _ h => kt_wp_X10_about__X30 h))) kt_wg_X3_latestTakings
set_option maxRecDepth 20000 in
theorem gX10_about_X3_latestTakings : GoodIn wsX10_about (wsV RX10 129 RX3 yX3_latestTakings wsX3_latestTakings) := goodIn_app (a := [.methodLink RX10 129 yX3_latestTakings, .instanceMethod yX3_latestTakings, .selects RX3 yX3_latestTakings yX3_latestTakings, .initialized RX3]) (goodIn_sub (kt_wf1 (kt_wp_X10_about__X10_about_r2 kt_wm4) (kt_wf1 (kt_wp_X10_about__X10_about_r2 kt_wm5) (kt_wf1 (kt_wp_X10_about__X10_about_r2 kt_wm6) (kt_wf1 (kt_wp_X10_about__X10_about_r2 kt_wm7) kt_wf0)))) (by decide +kernel)) ggX10_about_X3_latestTakings
theorem sX10_about_0 : kt_sg cX10_about 0 [27] = true := by decide +kernel
theorem dX10_about_0 : decode cX10_about 0 = .ok (.iload_n 1, 1) := kt_o27 (j := 0) sX10_about_0 rfl
theorem dX10_about_1 : decode cX10_about 1 = .ok (.tableswitch 143 0 8 #[51, 59, 67, 75, 83, 94, 102, 124, 132], 51) := by decide +kernel
theorem sX10_about_52 : kt_sg cX10_about 52 [42, 180, 0, 37, 180, 0, 101, 172, 42, 180, 0, 37, 182, 0, 104, 172, 42, 180, 0, 28, 180, 0, 90, 172, 42, 180, 0, 37, 182, 0, 108, 172, 42, 180, 0, 37, 180, 0, 111, 180, 0, 115, 172, 42, 180, 0, 10, 182, 0, 120, 172, 42, 180, 0, 37, 180, 0, 111, 180, 0, 123, 42, 180, 0, 37] = true := by decide +kernel
theorem dX10_about_52 : decode cX10_about 52 = .ok (.aload_n 0, 1) := kt_o42 (j := 0) sX10_about_52 rfl
theorem dX10_about_53 : decode cX10_about 53 = .ok (.getfield 37, 3) := kt_o180 (j := 1) sX10_about_52 rfl rfl
theorem dX10_about_56 : decode cX10_about 56 = .ok (.getfield 101, 3) := kt_o180 (j := 4) sX10_about_52 rfl rfl
theorem dX10_about_59 : decode cX10_about 59 = .ok (.ireturn, 1) := kt_o172 (j := 7) sX10_about_52 rfl
theorem dX10_about_60 : decode cX10_about 60 = .ok (.aload_n 0, 1) := kt_o42 (j := 8) sX10_about_52 rfl
theorem dX10_about_61 : decode cX10_about 61 = .ok (.getfield 37, 3) := kt_o180 (j := 9) sX10_about_52 rfl rfl
theorem dX10_about_64 : decode cX10_about 64 = .ok (.invokevirtual 104, 3) := kt_o182 (j := 12) sX10_about_52 rfl rfl
theorem dX10_about_67 : decode cX10_about 67 = .ok (.ireturn, 1) := kt_o172 (j := 15) sX10_about_52 rfl
theorem dX10_about_68 : decode cX10_about 68 = .ok (.aload_n 0, 1) := kt_o42 (j := 16) sX10_about_52 rfl
theorem dX10_about_69 : decode cX10_about 69 = .ok (.getfield 28, 3) := kt_o180 (j := 17) sX10_about_52 rfl rfl
theorem dX10_about_72 : decode cX10_about 72 = .ok (.getfield 90, 3) := kt_o180 (j := 20) sX10_about_52 rfl rfl
theorem dX10_about_75 : decode cX10_about 75 = .ok (.ireturn, 1) := kt_o172 (j := 23) sX10_about_52 rfl
theorem dX10_about_76 : decode cX10_about 76 = .ok (.aload_n 0, 1) := kt_o42 (j := 24) sX10_about_52 rfl
theorem dX10_about_77 : decode cX10_about 77 = .ok (.getfield 37, 3) := kt_o180 (j := 25) sX10_about_52 rfl rfl
theorem dX10_about_80 : decode cX10_about 80 = .ok (.invokevirtual 108, 3) := kt_o182 (j := 28) sX10_about_52 rfl rfl
theorem dX10_about_83 : decode cX10_about 83 = .ok (.ireturn, 1) := kt_o172 (j := 31) sX10_about_52 rfl
theorem dX10_about_84 : decode cX10_about 84 = .ok (.aload_n 0, 1) := kt_o42 (j := 32) sX10_about_52 rfl
theorem dX10_about_85 : decode cX10_about 85 = .ok (.getfield 37, 3) := kt_o180 (j := 33) sX10_about_52 rfl rfl
theorem dX10_about_88 : decode cX10_about 88 = .ok (.getfield 111, 3) := kt_o180 (j := 36) sX10_about_52 rfl rfl
theorem dX10_about_91 : decode cX10_about 91 = .ok (.getfield 115, 3) := kt_o180 (j := 39) sX10_about_52 rfl rfl
theorem dX10_about_94 : decode cX10_about 94 = .ok (.ireturn, 1) := kt_o172 (j := 42) sX10_about_52 rfl
theorem dX10_about_95 : decode cX10_about 95 = .ok (.aload_n 0, 1) := kt_o42 (j := 43) sX10_about_52 rfl
theorem dX10_about_96 : decode cX10_about 96 = .ok (.getfield 10, 3) := kt_o180 (j := 44) sX10_about_52 rfl rfl
theorem dX10_about_99 : decode cX10_about 99 = .ok (.invokevirtual 120, 3) := kt_o182 (j := 47) sX10_about_52 rfl rfl
theorem dX10_about_102 : decode cX10_about 102 = .ok (.ireturn, 1) := kt_o172 (j := 50) sX10_about_52 rfl
theorem dX10_about_103 : decode cX10_about 103 = .ok (.aload_n 0, 1) := kt_o42 (j := 51) sX10_about_52 rfl
theorem dX10_about_104 : decode cX10_about 104 = .ok (.getfield 37, 3) := kt_o180 (j := 52) sX10_about_52 rfl rfl
theorem dX10_about_107 : decode cX10_about 107 = .ok (.getfield 111, 3) := kt_o180 (j := 55) sX10_about_52 rfl rfl
theorem dX10_about_110 : decode cX10_about 110 = .ok (.getfield 123, 3) := kt_o180 (j := 58) sX10_about_52 rfl rfl
theorem dX10_about_113 : decode cX10_about 113 = .ok (.aload_n 0, 1) := kt_o42 (j := 61) sX10_about_52 rfl
theorem dX10_about_114 : decode cX10_about 114 = .ok (.getfield 37, 3) := kt_o180 (j := 62) sX10_about_52 rfl rfl
theorem sX10_about_117 : kt_sg cX10_about 117 [180, 0, 111, 180, 0, 115, 100, 172, 42, 180, 0, 10, 180, 0, 126, 172, 42, 180, 0, 37, 180, 0, 111, 182, 0, 129, 172, 2, 172] = true := by decide +kernel
theorem dX10_about_117 : decode cX10_about 117 = .ok (.getfield 111, 3) := kt_o180 (j := 0) sX10_about_117 rfl rfl
theorem dX10_about_120 : decode cX10_about 120 = .ok (.getfield 115, 3) := kt_o180 (j := 3) sX10_about_117 rfl rfl
theorem dX10_about_123 : decode cX10_about 123 = .ok (.isub, 1) := kt_o100 (j := 6) sX10_about_117 rfl
theorem dX10_about_124 : decode cX10_about 124 = .ok (.ireturn, 1) := kt_o172 (j := 7) sX10_about_117 rfl
theorem dX10_about_125 : decode cX10_about 125 = .ok (.aload_n 0, 1) := kt_o42 (j := 8) sX10_about_117 rfl
theorem dX10_about_126 : decode cX10_about 126 = .ok (.getfield 10, 3) := kt_o180 (j := 9) sX10_about_117 rfl rfl
theorem dX10_about_129 : decode cX10_about 129 = .ok (.getfield 126, 3) := kt_o180 (j := 12) sX10_about_117 rfl rfl
theorem dX10_about_132 : decode cX10_about 132 = .ok (.ireturn, 1) := kt_o172 (j := 15) sX10_about_117 rfl
theorem dX10_about_133 : decode cX10_about 133 = .ok (.aload_n 0, 1) := kt_o42 (j := 16) sX10_about_117 rfl
theorem dX10_about_134 : decode cX10_about 134 = .ok (.getfield 37, 3) := kt_o180 (j := 17) sX10_about_117 rfl rfl
theorem dX10_about_137 : decode cX10_about 137 = .ok (.getfield 111, 3) := kt_o180 (j := 20) sX10_about_117 rfl rfl
theorem dX10_about_140 : decode cX10_about 140 = .ok (.invokevirtual 129, 3) := kt_o182 (j := 23) sX10_about_117 rfl rfl
theorem dX10_about_143 : decode cX10_about 143 = .ok (.ireturn, 1) := kt_o172 (j := 26) sX10_about_117 rfl
theorem dX10_about_144 : decode cX10_about 144 = .ok (.iconst (-1), 1) := kt_o2 (j := 27) sX10_about_117 rfl
theorem dX10_about_145 : decode cX10_about 145 = .ok (.ireturn, 1) := kt_o172 (j := 28) sX10_about_117 rfl
theorem kt_wp_X10_piece__X10_piece_r1 {w : Cond} (h : w ∈ wsX10_piece_r1) : w ∈ wsX10_piece := List.mem_cons_of_mem _ (List.mem_append_left _ (List.mem_append_left _ (List.mem_append_left _ (List.mem_append_left _ (List.mem_append_left _ (List.mem_append_left _ (List.mem_append_left _ (h))))))))
theorem kt_wp_X10_piece__X10_piece_r2 {w : Cond} (h : w ∈ wsX10_piece_r2) : w ∈ wsX10_piece := List.mem_cons_of_mem _ (List.mem_append_left _ (List.mem_append_left _ (List.mem_append_left _ (List.mem_append_left _ (List.mem_append_left _ (List.mem_append_left _ (List.mem_append_right _ (List.mem_append_left _ (h)))))))))
theorem kt_wp_X10_piece__X10_piece_r3 {w : Cond} (h : w ∈ wsX10_piece_r3) : w ∈ wsX10_piece := List.mem_cons_of_mem _ (List.mem_append_left _ (List.mem_append_left _ (List.mem_append_left _ (List.mem_append_left _ (List.mem_append_left _ (List.mem_append_left _ (List.mem_append_right _ (List.mem_append_right _ (h)))))))))
theorem kt_wp_X10_piece__X100 {w : Cond} (h : w ∈ wsX100) : w ∈ wsX10_piece := List.mem_cons_of_mem _ (List.mem_append_left _ (List.mem_append_left _ (List.mem_append_left _ (List.mem_append_left _ (List.mem_append_left _ (List.mem_append_right _ (h)))))))
theorem kt_wp_X10_piece__X60 {w : Cond} (h : w ∈ wsX60) : w ∈ wsX10_piece := List.mem_cons_of_mem _ (List.mem_append_left _ (List.mem_append_left _ (List.mem_append_left _ (List.mem_append_left _ (List.mem_append_right _ (h))))))
theorem kt_wp_X10_piece__X40 {w : Cond} (h : w ∈ wsX40) : w ∈ wsX10_piece := List.mem_cons_of_mem _ (List.mem_append_left _ (List.mem_append_left _ (List.mem_append_left _ (List.mem_append_right _ (h)))))
theorem kt_wp_X10_piece__X80 {w : Cond} (h : w ∈ wsX80) : w ∈ wsX10_piece := List.mem_cons_of_mem _ (List.mem_append_left _ (List.mem_append_left _ (List.mem_append_right _ (h))))
theorem kt_wp_X10_piece__X10 {w : Cond} (h : w ∈ wsX10) : w ∈ wsX10_piece := List.mem_cons_of_mem _ (List.mem_append_left _ (List.mem_append_right _ (h)))
theorem kt_wp_X10_piece__X00 {w : Cond} (h : w ∈ wsX00) : w ∈ wsX10_piece := List.mem_cons_of_mem _ (List.mem_append_right _ (h))
set_option maxRecDepth 20000 in
theorem ggX10_piece_X6_isPiece : GoodIn wsX10_piece wsX6_isPiece := goodIn_sub (kt_wf1 (kt_wp_X10_piece__X10_piece_r1 kt_wm6) (kt_wfa (kt_wf1 (kt_wp_X10_piece__X10_piece_r1 kt_wm7) kt_wf0) (fun _ h => kt_wp_X10_piece__X60 h))) kt_wg_X6_isPiece
set_option maxRecDepth 20000 in
theorem gX10_piece_X6_isPiece : GoodIn wsX10_piece (wsV RX10 132 RX6 yX6_isPiece wsX6_isPiece) := goodIn_app (a := [.methodLink RX10 132 yX6_isPiece, .instanceMethod yX6_isPiece, .selects RX6 yX6_isPiece yX6_isPiece, .initialized RX6]) (goodIn_sub (kt_wf1 (kt_wp_X10_piece__X10_piece_r1 kt_wm2) (kt_wf1 (kt_wp_X10_piece__X10_piece_r1 kt_wm3) (kt_wf1 (kt_wp_X10_piece__X10_piece_r1 kt_wm4) (kt_wf1 (kt_wp_X10_piece__X10_piece_r1 kt_wm5) kt_wf0)))) (by decide +kernel)) ggX10_piece_X6_isPiece
set_option maxRecDepth 20000 in
theorem ggX10_piece_X8_fieldOf : GoodIn wsX10_piece wsX8_fieldOf := goodIn_sub (kt_wf1 (kt_wp_X10_piece__X10_piece_r1 kt_wm12) (kt_wfa (kt_wf1 (kt_wp_X10_piece__X10_piece_r1 kt_wm13) kt_wf0) (fun _ h => kt_wp_X10_piece__X80 h))) kt_wg_X8_fieldOf
set_option maxRecDepth 20000 in
theorem gX10_piece_X8_fieldOf : GoodIn wsX10_piece (wsV RX10 143 RX8 yX8_fieldOf wsX8_fieldOf) := goodIn_app (a := [.methodLink RX10 143 yX8_fieldOf, .instanceMethod yX8_fieldOf, .selects RX8 yX8_fieldOf yX8_fieldOf, .initialized RX8]) (goodIn_sub (kt_wf1 (kt_wp_X10_piece__X10_piece_r1 kt_wm8) (kt_wf1 (kt_wp_X10_piece__X10_piece_r1 kt_wm9) (kt_wf1 (kt_wp_X10_piece__X10_piece_r1 kt_wm10) (kt_wf1 (kt_wp_X10_piece__X10_piece_r1 kt_wm11) kt_wf0)))) (by decide +kernel)) ggX10_piece_X8_fieldOf
set_option maxRecDepth 20000 in
theorem kt_wg_X4_movesOf : wsX4_movesOf.all goodWord = true := by decide +kernel
set_option maxRecDepth 20000 in
theorem ggX10_piece_X4_movesOf : GoodIn wsX10_piece wsX4_movesOf := goodIn_sub (kt_wf1 (kt_wp_X10_piece__X10_piece_r1 kt_wm18) (kt_wfa (kt_wfa (kt_wfa (kt_wfa (kt_wfa (kt_wfa (kt_wf1 (kt_wp_X10_piece__X10_piece_r1 kt_wm19) (kt_wf1 (kt_wp_X10_piece__X10_piece_r1 kt_wm20) (kt_wf1 (kt_wp_X10_piece__X10_piece_r1 kt_wm21) (kt_wf1 (kt_wp_X10_piece__X10_piece_r1 kt_wm3) (kt_wf1 (kt_wp_X10_piece__X10_piece_r1 kt_wm4) (kt_wf1 (kt_wp_X10_piece__X10_piece_r1 kt_wm5) (kt_wf1 (kt_wp_X10_piece__X10_piece_r1 kt_wm6) (kt_wf1 (kt_wp_X10_piece__X10_piece_r1 kt_wm7) (kt_wf1 (kt_wp_X10_piece__X10_piece_r1 kt_wm22) (kt_wf1 (kt_wp_X10_piece__X10_piece_r1 kt_wm23) (kt_wf1 (kt_wp_X10_piece__X10_piece_r2 kt_wm0) (kt_wf1 (kt_wp_X10_piece__X10_piece_r1 kt_wm17) (kt_wf1 (kt_wp_X10_piece__X10_piece_r2 kt_wm1) (kt_wf1 (kt_wp_X10_piece__X10_piece_r2 kt_wm2) (kt_wf1 (kt_wp_X10_piece__X10_piece_r2 kt_wm3) (kt_wf1 (kt_wp_X10_piece__X10_piece_r2 kt_wm4) (kt_wf1 (kt_wp_X10_piece__X10_piece_r2 kt_wm5) (kt_wf1 (kt_wp_X10_piece__X10_piece_r2 kt_wm6) (kt_wf1 (kt_wp_X10_piece__X10_piece_r2 kt_wm7) (kt_wf1 (kt_wp_X10_piece__X10_piece_r2 kt_wm8) (kt_wf1 (kt_wp_X10_piece__X10_piece_r2 kt_wm9) (kt_wf1 (kt_wp_X10_piece__X10_piece_r2 kt_wm10) (kt_wf1 (kt_wp_X10_piece__X10_piece_r2 kt_wm11) (kt_wf1 (kt_wp_X10_piece__X10_piece_r2 kt_wm12) kt_wf0)))))))))))))))))))))))) (kt_wf1 (kt_wp_X10_piece__X10_piece_r2 kt_wm13) (kt_wf1 (kt_wp_X10_piece__X10_piece_r2 kt_wm14) (kt_wf1 (kt_wp_X10_piece__X10_piece_r1 kt_wm9) (kt_wf1 (kt_wp_X10_piece__X10_piece_r1 kt_wm10) (kt_wf1 (kt_wp_X10_piece__X10_piece_r1 kt_wm11) (kt_wf1 (kt_wp_X10_piece__X10_piece_r1 kt_wm12) (kt_wf1 (kt_wp_X10_piece__X10_piece_r1 kt_wm13) (kt_wf1 (kt_wp_X10_piece__X10_piece_r2 kt_wm15) (kt_wf1 (kt_wp_X10_piece__X10_piece_r2 kt_wm16) (kt_wf1 (kt_wp_X10_piece__X10_piece_r2 kt_wm17) (kt_wf1 (kt_wp_X10_piece__X10_piece_r2 kt_wm18) (kt_wf1 (kt_wp_X10_piece__X10_piece_r2 kt_wm19) (kt_wf1 (kt_wp_X10_piece__X10_piece_r2 kt_wm20) (kt_wf1 (kt_wp_X10_piece__X10_piece_r2 kt_wm21) (kt_wf1 (kt_wp_X10_piece__X10_piece_r2 kt_wm22) (kt_wf1 (kt_wp_X10_piece__X10_piece_r2 kt_wm23) (kt_wf1 (kt_wp_X10_piece__X10_piece_r3 kt_wm0) (kt_wf1 (kt_wp_X10_piece__X10_piece_r3 kt_wm1) (kt_wf1 (kt_wp_X10_piece__X10_piece_r3 kt_wm2) (kt_wf1 (kt_wp_X10_piece__X10_piece_r3 kt_wm3) (kt_wf1 (kt_wp_X10_piece__X10_piece_r3 kt_wm4) (kt_wf1 (kt_wp_X10_piece__X10_piece_r3 kt_wm5) (kt_wf1 (kt_wp_X10_piece__X10_piece_r3 kt_wm6) kt_wf0)))))))))))))))))))))))) (fun _ h => kt_wp_X10_piece__X40 h)) (fun _ h => kt_wp_X10_piece__X60 h)) (fun _ h => kt_wp_X10_piece__X80 h)) (fun _ h => kt_wp_X10_piece__X10 h)) (fun _ h => kt_wp_X10_piece__X00 h))) kt_wg_X4_movesOf
set_option maxRecDepth 20000 in
theorem gX10_piece_X4_movesOf : GoodIn wsX10_piece (wsV RX10 149 RX4 yX4_movesOf wsX4_movesOf) := goodIn_app (a := [.methodLink RX10 149 yX4_movesOf, .instanceMethod yX4_movesOf, .selects RX4 yX4_movesOf yX4_movesOf, .initialized RX4]) (goodIn_sub (kt_wf1 (kt_wp_X10_piece__X10_piece_r1 kt_wm14) (kt_wf1 (kt_wp_X10_piece__X10_piece_r1 kt_wm15) (kt_wf1 (kt_wp_X10_piece__X10_piece_r1 kt_wm16) (kt_wf1 (kt_wp_X10_piece__X10_piece_r1 kt_wm17) kt_wf0)))) (by decide +kernel)) ggX10_piece_X4_movesOf
theorem sX10_piece_0 : kt_sg cX10_piece 0 [42, 180, 0, 28, 27, 182, 0, 132, 154, 0, 5, 2, 172, 28] = true := by decide +kernel
theorem dX10_piece_0 : decode cX10_piece 0 = .ok (.aload_n 0, 1) := kt_o42 (j := 0) sX10_piece_0 rfl
theorem dX10_piece_1 : decode cX10_piece 1 = .ok (.getfield 28, 3) := kt_o180 (j := 1) sX10_piece_0 rfl rfl
theorem dX10_piece_4 : decode cX10_piece 4 = .ok (.iload_n 1, 1) := kt_o27 (j := 4) sX10_piece_0 rfl
theorem dX10_piece_5 : decode cX10_piece 5 = .ok (.invokevirtual 132, 3) := kt_o182 (j := 5) sX10_piece_0 rfl rfl
theorem dX10_piece_8 : decode cX10_piece 8 = .ok (.ifCond .ne 5, 3) := kt_o154 (j := 8) sX10_piece_0 rfl (by decide +kernel)
theorem dX10_piece_11 : decode cX10_piece 11 = .ok (.iconst (-1), 1) := kt_o2 (j := 11) sX10_piece_0 rfl
theorem dX10_piece_12 : decode cX10_piece 12 = .ok (.ireturn, 1) := kt_o172 (j := 12) sX10_piece_0 rfl
theorem dX10_piece_13 : decode cX10_piece 13 = .ok (.iload_n 2, 1) := kt_o28 (j := 13) sX10_piece_0 rfl
theorem dX10_piece_14 : decode cX10_piece 14 = .ok (.tableswitch 79 0 3 #[30, 40, 52, 61], 30) := by decide +kernel
theorem sX10_piece_44 : kt_sg cX10_piece 44 [42, 180, 0, 28, 180, 0, 135, 27, 46, 172, 42, 180, 0, 37, 180, 0, 139, 27, 182, 0, 143, 172, 42, 180, 0, 37, 27, 182, 0, 149, 172, 42, 180, 0, 28, 180, 0, 152, 27, 51, 153, 0, 7, 4, 167, 0, 4, 3, 172, 2, 172] = true := by decide +kernel
theorem dX10_piece_44 : decode cX10_piece 44 = .ok (.aload_n 0, 1) := kt_o42 (j := 0) sX10_piece_44 rfl
theorem dX10_piece_45 : decode cX10_piece 45 = .ok (.getfield 28, 3) := kt_o180 (j := 1) sX10_piece_44 rfl rfl
theorem dX10_piece_48 : decode cX10_piece 48 = .ok (.getfield 135, 3) := kt_o180 (j := 4) sX10_piece_44 rfl rfl
theorem dX10_piece_51 : decode cX10_piece 51 = .ok (.iload_n 1, 1) := kt_o27 (j := 7) sX10_piece_44 rfl
theorem dX10_piece_52 : decode cX10_piece 52 = .ok (.iaload, 1) := kt_o46 (j := 8) sX10_piece_44 rfl
theorem dX10_piece_53 : decode cX10_piece 53 = .ok (.ireturn, 1) := kt_o172 (j := 9) sX10_piece_44 rfl
theorem dX10_piece_54 : decode cX10_piece 54 = .ok (.aload_n 0, 1) := kt_o42 (j := 10) sX10_piece_44 rfl
theorem dX10_piece_55 : decode cX10_piece 55 = .ok (.getfield 37, 3) := kt_o180 (j := 11) sX10_piece_44 rfl rfl
theorem dX10_piece_58 : decode cX10_piece 58 = .ok (.getfield 139, 3) := kt_o180 (j := 14) sX10_piece_44 rfl rfl
theorem dX10_piece_61 : decode cX10_piece 61 = .ok (.iload_n 1, 1) := kt_o27 (j := 17) sX10_piece_44 rfl
theorem dX10_piece_62 : decode cX10_piece 62 = .ok (.invokevirtual 143, 3) := kt_o182 (j := 18) sX10_piece_44 rfl rfl
theorem dX10_piece_65 : decode cX10_piece 65 = .ok (.ireturn, 1) := kt_o172 (j := 21) sX10_piece_44 rfl
theorem dX10_piece_66 : decode cX10_piece 66 = .ok (.aload_n 0, 1) := kt_o42 (j := 22) sX10_piece_44 rfl
theorem dX10_piece_67 : decode cX10_piece 67 = .ok (.getfield 37, 3) := kt_o180 (j := 23) sX10_piece_44 rfl rfl
theorem dX10_piece_70 : decode cX10_piece 70 = .ok (.iload_n 1, 1) := kt_o27 (j := 26) sX10_piece_44 rfl
theorem dX10_piece_71 : decode cX10_piece 71 = .ok (.invokevirtual 149, 3) := kt_o182 (j := 27) sX10_piece_44 rfl rfl
theorem dX10_piece_74 : decode cX10_piece 74 = .ok (.ireturn, 1) := kt_o172 (j := 30) sX10_piece_44 rfl
theorem dX10_piece_75 : decode cX10_piece 75 = .ok (.aload_n 0, 1) := kt_o42 (j := 31) sX10_piece_44 rfl
theorem dX10_piece_76 : decode cX10_piece 76 = .ok (.getfield 28, 3) := kt_o180 (j := 32) sX10_piece_44 rfl rfl
theorem dX10_piece_79 : decode cX10_piece 79 = .ok (.getfield 152, 3) := kt_o180 (j := 35) sX10_piece_44 rfl rfl
theorem dX10_piece_82 : decode cX10_piece 82 = .ok (.iload_n 1, 1) := kt_o27 (j := 38) sX10_piece_44 rfl
theorem dX10_piece_83 : decode cX10_piece 83 = .ok (.baload, 1) := kt_o51 (j := 39) sX10_piece_44 rfl
theorem dX10_piece_84 : decode cX10_piece 84 = .ok (.ifCond .eq 7, 3) := kt_o153 (j := 40) sX10_piece_44 rfl (by decide +kernel)
theorem dX10_piece_87 : decode cX10_piece 87 = .ok (.iconst 1, 1) := kt_o4 (j := 43) sX10_piece_44 rfl
theorem dX10_piece_88 : decode cX10_piece 88 = .ok (.goto 4, 3) := kt_o167 (j := 44) sX10_piece_44 rfl (by decide +kernel)
theorem dX10_piece_91 : decode cX10_piece 91 = .ok (.iconst 0, 1) := kt_o3 (j := 47) sX10_piece_44 rfl
theorem dX10_piece_92 : decode cX10_piece 92 = .ok (.ireturn, 1) := kt_o172 (j := 48) sX10_piece_44 rfl
theorem dX10_piece_93 : decode cX10_piece 93 = .ok (.iconst (-1), 1) := kt_o2 (j := 49) sX10_piece_44 rfl
theorem dX10_piece_94 : decode cX10_piece 94 = .ok (.ireturn, 1) := kt_o172 (j := 50) sX10_piece_44 rfl
theorem kt_wp_X10_on__X100 {w : Cond} (h : w ∈ wsX100) : w ∈ wsX10_on := List.mem_cons_of_mem _ (List.mem_append_left _ (List.mem_append_left _ (List.mem_append_right _ (h))))
theorem kt_wp_X10_on__X40 {w : Cond} (h : w ∈ wsX40) : w ∈ wsX10_on := List.mem_cons_of_mem _ (List.mem_append_left _ (List.mem_append_right _ (h)))
theorem kt_wp_X10_on__X80 {w : Cond} (h : w ∈ wsX80) : w ∈ wsX10_on := List.mem_cons_of_mem _ (List.mem_append_right _ (h))
set_option maxRecDepth 20000 in
theorem ggX10_on_X8_holderOf : GoodIn wsX10_on wsX8_holderOf := goodIn_sub (kt_wf1 (List.mem_cons_of_mem _ (List.mem_append_left _ (List.mem_append_left _ (List.mem_append_left _ (List.mem_cons_of_mem _ (List.mem_cons_of_mem _ (List.mem_cons_of_mem _ (List.mem_cons_of_mem _ (List.mem_cons_of_mem _ (List.Mem.head _)))))))))) (kt_wfa (kt_wf1 (List.mem_cons_of_mem _ (List.mem_append_left _ (List.mem_append_left _ (List.mem_append_left _ (List.mem_cons_of_mem _ (List.mem_cons_of_mem _ (List.mem_cons_of_mem _ (List.mem_cons_of_mem _ (List.mem_cons_of_mem _ (List.mem_cons_of_mem _ (List.Mem.head _))))))))))) kt_wf0) (fun _ h => kt_wp_X10_on__X80 h))) kt_wg_X8_holderOf
set_option maxRecDepth 20000 in
theorem gX10_on_X8_holderOf : GoodIn wsX10_on (wsV RX10 156 RX8 yX8_holderOf wsX8_holderOf) := goodIn_app (a := [.methodLink RX10 156 yX8_holderOf, .instanceMethod yX8_holderOf, .selects RX8 yX8_holderOf yX8_holderOf, .initialized RX8]) (goodIn_sub (kt_wf1 (List.mem_cons_of_mem _ (List.mem_append_left _ (List.mem_append_left _ (List.mem_append_left _ (List.mem_cons_of_mem _ (List.Mem.head _)))))) (kt_wf1 (List.mem_cons_of_mem _ (List.mem_append_left _ (List.mem_append_left _ (List.mem_append_left _ (List.mem_cons_of_mem _ (List.mem_cons_of_mem _ (List.Mem.head _))))))) (kt_wf1 (List.mem_cons_of_mem _ (List.mem_append_left _ (List.mem_append_left _ (List.mem_append_left _ (List.mem_cons_of_mem _ (List.mem_cons_of_mem _ (List.mem_cons_of_mem _ (List.Mem.head _)))))))) (kt_wf1 (List.mem_cons_of_mem _ (List.mem_append_left _ (List.mem_append_left _ (List.mem_append_left _ (List.mem_cons_of_mem _ (List.mem_cons_of_mem _ (List.mem_cons_of_mem _ (List.mem_cons_of_mem _ (List.Mem.head _))))))))) kt_wf0)))) (by decide +kernel)) ggX10_on_X8_holderOf
theorem sX10_on_0 : kt_sg cX10_on 0 [42, 180, 0, 37, 180, 0, 139, 27, 182, 0, 156, 172] = true := by decide +kernel
theorem dX10_on_0 : decode cX10_on 0 = .ok (.aload_n 0, 1) := kt_o42 (j := 0) sX10_on_0 rfl
theorem dX10_on_1 : decode cX10_on 1 = .ok (.getfield 37, 3) := kt_o180 (j := 1) sX10_on_0 rfl rfl
theorem dX10_on_4 : decode cX10_on 4 = .ok (.getfield 139, 3) := kt_o180 (j := 4) sX10_on_0 rfl rfl
theorem dX10_on_7 : decode cX10_on 7 = .ok (.iload_n 1, 1) := kt_o27 (j := 7) sX10_on_0 rfl
theorem dX10_on_8 : decode cX10_on 8 = .ok (.invokevirtual 156, 3) := kt_o182 (j := 8) sX10_on_0 rfl rfl
theorem dX10_on_11 : decode cX10_on 11 = .ok (.ireturn, 1) := kt_o172 (j := 11) sX10_on_0 rfl
theorem kt_wp_X10_field__X100 {w : Cond} (h : w ∈ wsX100) : w ∈ wsX10_field := List.mem_cons_of_mem _ (List.mem_append_left _ (List.mem_append_left _ (List.mem_append_left _ (List.mem_append_left _ (List.mem_append_right _ (h))))))
theorem kt_wp_X10_field__X60 {w : Cond} (h : w ∈ wsX60) : w ∈ wsX10_field := List.mem_cons_of_mem _ (List.mem_append_left _ (List.mem_append_left _ (List.mem_append_left _ (List.mem_append_right _ (h)))))
theorem kt_wp_X10_field__X00 {w : Cond} (h : w ∈ wsX00) : w ∈ wsX10_field := List.mem_cons_of_mem _ (List.mem_append_left _ (List.mem_append_left _ (List.mem_append_right _ (h))))
theorem kt_wp_X10_field__X40 {w : Cond} (h : w ∈ wsX40) : w ∈ wsX10_field := List.mem_cons_of_mem _ (List.mem_append_left _ (List.mem_append_right _ (h)))
theorem kt_wp_X10_field__X90 {w : Cond} (h : w ∈ wsX90) : w ∈ wsX10_field := List.mem_cons_of_mem _ (List.mem_append_right _ (h))
set_option maxRecDepth 20000 in
theorem ggX10_field_X4_isThere : GoodIn wsX10_field wsX4_isThere := goodIn_sub (kt_wf1 (List.mem_cons_of_mem _ (List.mem_append_left _ (List.mem_append_left _ (List.mem_append_left _ (List.mem_append_left _ (List.mem_append_left _ (List.mem_cons_of_mem _ (List.mem_cons_of_mem _ (List.mem_cons_of_mem _ (List.mem_cons_of_mem _ (List.mem_cons_of_mem _ (List.mem_cons_of_mem _ (List.mem_cons_of_mem _ (List.Mem.head _)))))))))))))) (kt_wfa (kt_wf1 (List.mem_cons_of_mem _ (List.mem_append_left _ (List.mem_append_left _ (List.mem_append_left _ (List.mem_append_left _ (List.mem_append_left _ (List.mem_cons_of_mem _ (List.mem_cons_of_mem _ (List.mem_cons_of_mem _ (List.mem_cons_of_mem _ (List.mem_cons_of_mem _ (List.mem_cons_of_mem _ (List.mem_cons_of_mem _ (List.mem_cons_of_mem _ (List.Mem.head _))))))))))))))) kt_wf0) (fun _ h => kt_wp_X10_field__X40 h))) kt_wg_X4_isThere
set_option maxRecDepth 20000 in
theorem gX10_field_X4_isThere : GoodIn wsX10_field (wsV RX10 64 RX4 yX4_isThere wsX4_isThere) := goodIn_app (a := [.methodLink RX10 64 yX4_isThere, .instanceMethod yX4_isThere, .selects RX4 yX4_isThere yX4_isThere, .initialized RX4]) (goodIn_sub (kt_wf1 (List.mem_cons_of_mem _ (List.mem_append_left _ (List.mem_append_left _ (List.mem_append_left _ (List.mem_append_left _ (List.mem_append_left _ (List.mem_cons_of_mem _ (List.mem_cons_of_mem _ (List.mem_cons_of_mem _ (List.Mem.head _)))))))))) (kt_wf1 (List.mem_cons_of_mem _ (List.mem_append_left _ (List.mem_append_left _ (List.mem_append_left _ (List.mem_append_left _ (List.mem_append_left _ (List.mem_cons_of_mem _ (List.mem_cons_of_mem _ (List.mem_cons_of_mem _ (List.mem_cons_of_mem _ (List.Mem.head _))))))))))) (kt_wf1 (List.mem_cons_of_mem _ (List.mem_append_left _ (List.mem_append_left _ (List.mem_append_left _ (List.mem_append_left _ (List.mem_append_left _ (List.mem_cons_of_mem _ (List.mem_cons_of_mem _ (List.mem_cons_of_mem _ (List.mem_cons_of_mem _ (List.mem_cons_of_mem _ (List.Mem.head _)))))))))))) (kt_wf1 (List.mem_cons_of_mem _ (List.mem_append_left _ (List.mem_append_left _ (List.mem_append_left _ (List.mem_append_left _ (List.mem_append_left _ (List.mem_cons_of_mem _ (List.mem_cons_of_mem _ (List.mem_cons_of_mem _ (List.mem_cons_of_mem _ (List.mem_cons_of_mem _ (List.mem_cons_of_mem _ (List.Mem.head _))))))))))))) kt_wf0)))) (by decide +kernel)) ggX10_field_X4_isThere
set_option maxRecDepth 20000 in
theorem ggX10_field_X9_size : GoodIn wsX10_field wsX9_size := goodIn_sub (kt_wf1 (List.mem_cons_of_mem _ (List.mem_append_left _ (List.mem_append_left _ (List.mem_append_left _ (List.mem_append_left _ (List.mem_append_left _ (List.mem_cons_of_mem _ (List.mem_cons_of_mem _ (List.mem_cons_of_mem _ (List.mem_cons_of_mem _ (List.mem_cons_of_mem _ (List.mem_cons_of_mem _ (List.mem_cons_of_mem _ (List.mem_cons_of_mem _ (List.mem_cons_of_mem _ (List.mem_cons_of_mem _ (List.mem_cons_of_mem _ (List.mem_cons_of_mem _ (List.mem_cons_of_mem _ (List.Mem.head _)))))))))))))))))))) (kt_wfa (kt_wf1 (List.mem_cons_of_mem _ (List.mem_append_left _ (List.mem_append_left _ (List.mem_append_left _ (List.mem_append_left _ (List.mem_append_left _ (List.mem_cons_of_mem _ (List.mem_cons_of_mem _ (List.mem_cons_of_mem _ (List.mem_cons_of_mem _ (List.mem_cons_of_mem _ (List.mem_cons_of_mem _ (List.mem_cons_of_mem _ (List.mem_cons_of_mem _ (List.mem_cons_of_mem _ (List.mem_cons_of_mem _ (List.mem_cons_of_mem _ (List.mem_cons_of_mem _ (List.mem_cons_of_mem _ (List.mem_cons_of_mem _ (List.Mem.head _))))))))))))))))))))) (kt_wf1 (List.mem_cons_of_mem _ (List.mem_append_left _ (List.mem_append_left _ (List.mem_append_left _ (List.mem_append_left _ (List.mem_append_left _ (List.mem_cons_of_mem _ (List.mem_cons_of_mem _ (List.mem_cons_of_mem _ (List.mem_cons_of_mem _ (List.mem_cons_of_mem _ (List.mem_cons_of_mem _ (List.mem_cons_of_mem _ (List.mem_cons_of_mem _ (List.mem_cons_of_mem _ (List.mem_cons_of_mem _ (List.mem_cons_of_mem _ (List.mem_cons_of_mem _ (List.mem_cons_of_mem _ (List.mem_cons_of_mem _ (List.mem_cons_of_mem _ (List.Mem.head _)))))))))))))))))))))) kt_wf0)) (fun _ h => kt_wp_X10_field__X90 h))) kt_wg_X9_size
set_option maxRecDepth 20000 in
theorem gX10_field_X9_size : GoodIn wsX10_field (wsV RX10 120 RX9 yX9_size wsX9_size) := goodIn_app (a := [.methodLink RX10 120 yX9_size, .instanceMethod yX9_size, .selects RX9 yX9_size yX9_size, .initialized RX9]) (goodIn_sub (kt_wf1 (List.mem_cons_of_mem _ (List.mem_append_left _ (List.mem_append_left _ (List.mem_append_left _ (List.mem_append_left _ (List.mem_append_left _ (List.mem_cons_of_mem _ (List.mem_cons_of_mem _ (List.mem_cons_of_mem _ (List.mem_cons_of_mem _ (List.mem_cons_of_mem _ (List.mem_cons_of_mem _ (List.mem_cons_of_mem _ (List.mem_cons_of_mem _ (List.mem_cons_of_mem _ (List.Mem.head _)))))))))))))))) (kt_wf1 (List.mem_cons_of_mem _ (List.mem_append_left _ (List.mem_append_left _ (List.mem_append_left _ (List.mem_append_left _ (List.mem_append_left _ (List.mem_cons_of_mem _ (List.mem_cons_of_mem _ (List.mem_cons_of_mem _ (List.mem_cons_of_mem _ (List.mem_cons_of_mem _ (List.mem_cons_of_mem _ (List.mem_cons_of_mem _ (List.mem_cons_of_mem _ (List.mem_cons_of_mem _ (List.mem_cons_of_mem _ (List.Mem.head _))))))))))))))))) (kt_wf1 (List.mem_cons_of_mem _ (List.mem_append_left _ (List.mem_append_left _ (List.mem_append_left _ (List.mem_append_left _ (List.mem_append_left _ (List.mem_cons_of_mem _ (List.mem_cons_of_mem _ (List.mem_cons_of_mem _ (List.mem_cons_of_mem _ (List.mem_cons_of_mem _ (List.mem_cons_of_mem _ (List.mem_cons_of_mem _ (List.mem_cons_of_mem _ (List.mem_cons_of_mem _ (List.mem_cons_of_mem _ (List.mem_cons_of_mem _ (List.Mem.head _)))))))))))))))))) (kt_wf1 (List.mem_cons_of_mem _ (List.mem_append_left _ (List.mem_append_left _ (List.mem_append_left _ (List.mem_append_left _ (List.mem_append_left _ (List.mem_cons_of_mem _ (List.mem_cons_of_mem _ (List.mem_cons_of_mem _ (List.mem_cons_of_mem _ (List.mem_cons_of_mem _ (List.mem_cons_of_mem _ (List.mem_cons_of_mem _ (List.mem_cons_of_mem _ (List.mem_cons_of_mem _ (List.mem_cons_of_mem _ (List.mem_cons_of_mem _ (List.mem_cons_of_mem _ (List.Mem.head _))))))))))))))))))) kt_wf0)))) (by decide +kernel)) ggX10_field_X9_size
theorem sX10_field_0 : kt_sg cX10_field 0 [42, 180, 0, 37, 182, 0, 64, 153, 0, 18, 27, 155, 0, 14, 27, 42, 180, 0, 10, 182, 0, 120, 161, 0, 5, 2, 172, 42, 180, 0, 28, 180, 0, 159, 180, 0, 163, 27, 46, 42, 180, 0, 28, 180, 0, 159, 180, 0, 168, 27, 51, 153, 0, 7, 7, 167, 0, 4, 3, 96, 172] = true := by decide +kernel
theorem dX10_field_0 : decode cX10_field 0 = .ok (.aload_n 0, 1) := kt_o42 (j := 0) sX10_field_0 rfl
theorem dX10_field_1 : decode cX10_field 1 = .ok (.getfield 37, 3) := kt_o180 (j := 1) sX10_field_0 rfl rfl
theorem dX10_field_4 : decode cX10_field 4 = .ok (.invokevirtual 64, 3) := kt_o182 (j := 4) sX10_field_0 rfl rfl
theorem dX10_field_7 : decode cX10_field 7 = .ok (.ifCond .eq 18, 3) := kt_o153 (j := 7) sX10_field_0 rfl (by decide +kernel)
theorem dX10_field_10 : decode cX10_field 10 = .ok (.iload_n 1, 1) := kt_o27 (j := 10) sX10_field_0 rfl
theorem dX10_field_11 : decode cX10_field 11 = .ok (.ifCond .lt 14, 3) := kt_o155 (j := 11) sX10_field_0 rfl (by decide +kernel)
theorem dX10_field_14 : decode cX10_field 14 = .ok (.iload_n 1, 1) := kt_o27 (j := 14) sX10_field_0 rfl
theorem dX10_field_15 : decode cX10_field 15 = .ok (.aload_n 0, 1) := kt_o42 (j := 15) sX10_field_0 rfl
theorem dX10_field_16 : decode cX10_field 16 = .ok (.getfield 10, 3) := kt_o180 (j := 16) sX10_field_0 rfl rfl
theorem dX10_field_19 : decode cX10_field 19 = .ok (.invokevirtual 120, 3) := kt_o182 (j := 19) sX10_field_0 rfl rfl
theorem dX10_field_22 : decode cX10_field 22 = .ok (.if_icmp .lt 5, 3) := kt_o161 (j := 22) sX10_field_0 rfl (by decide +kernel)
theorem dX10_field_25 : decode cX10_field 25 = .ok (.iconst (-1), 1) := kt_o2 (j := 25) sX10_field_0 rfl
theorem dX10_field_26 : decode cX10_field 26 = .ok (.ireturn, 1) := kt_o172 (j := 26) sX10_field_0 rfl
theorem dX10_field_27 : decode cX10_field 27 = .ok (.aload_n 0, 1) := kt_o42 (j := 27) sX10_field_0 rfl
theorem dX10_field_28 : decode cX10_field 28 = .ok (.getfield 28, 3) := kt_o180 (j := 28) sX10_field_0 rfl rfl
theorem dX10_field_31 : decode cX10_field 31 = .ok (.getfield 159, 3) := kt_o180 (j := 31) sX10_field_0 rfl rfl
theorem dX10_field_34 : decode cX10_field 34 = .ok (.getfield 163, 3) := kt_o180 (j := 34) sX10_field_0 rfl rfl
theorem dX10_field_37 : decode cX10_field 37 = .ok (.iload_n 1, 1) := kt_o27 (j := 37) sX10_field_0 rfl
theorem dX10_field_38 : decode cX10_field 38 = .ok (.iaload, 1) := kt_o46 (j := 38) sX10_field_0 rfl
theorem dX10_field_39 : decode cX10_field 39 = .ok (.aload_n 0, 1) := kt_o42 (j := 39) sX10_field_0 rfl
theorem dX10_field_40 : decode cX10_field 40 = .ok (.getfield 28, 3) := kt_o180 (j := 40) sX10_field_0 rfl rfl
theorem dX10_field_43 : decode cX10_field 43 = .ok (.getfield 159, 3) := kt_o180 (j := 43) sX10_field_0 rfl rfl
theorem dX10_field_46 : decode cX10_field 46 = .ok (.getfield 168, 3) := kt_o180 (j := 46) sX10_field_0 rfl rfl
theorem dX10_field_49 : decode cX10_field 49 = .ok (.iload_n 1, 1) := kt_o27 (j := 49) sX10_field_0 rfl
theorem dX10_field_50 : decode cX10_field 50 = .ok (.baload, 1) := kt_o51 (j := 50) sX10_field_0 rfl
theorem dX10_field_51 : decode cX10_field 51 = .ok (.ifCond .eq 7, 3) := kt_o153 (j := 51) sX10_field_0 rfl (by decide +kernel)
theorem dX10_field_54 : decode cX10_field 54 = .ok (.iconst 4, 1) := kt_o7 (j := 54) sX10_field_0 rfl
theorem dX10_field_55 : decode cX10_field 55 = .ok (.goto 4, 3) := kt_o167 (j := 55) sX10_field_0 rfl (by decide +kernel)
theorem dX10_field_58 : decode cX10_field 58 = .ok (.iconst 0, 1) := kt_o3 (j := 58) sX10_field_0 rfl
theorem dX10_field_59 : decode cX10_field 59 = .ok (.iadd, 1) := kt_o96 (j := 59) sX10_field_0 rfl
theorem dX10_field_60 : decode cX10_field 60 = .ok (.ireturn, 1) := kt_o172 (j := 60) sX10_field_0 rfl
theorem kt_wp_X10_took__X100 {w : Cond} (h : w ∈ wsX100) : w ∈ wsX10_took := List.mem_cons_of_mem _ (List.mem_append_left _ (List.mem_append_left _ (List.mem_append_right _ (h))))
theorem kt_wp_X10_took__X40 {w : Cond} (h : w ∈ wsX40) : w ∈ wsX10_took := List.mem_cons_of_mem _ (List.mem_append_left _ (List.mem_append_right _ (h)))
theorem kt_wp_X10_took__X30 {w : Cond} (h : w ∈ wsX30) : w ∈ wsX10_took := List.mem_cons_of_mem _ (List.mem_append_right _ (h))
set_option maxRecDepth 20000 in
theorem kt_wg_X3_latestVictim : wsX3_latestVictim.all goodWord = true := by decide +kernel
set_option maxRecDepth 20000 in
theorem ggX10_took_X3_latestVictim : GoodIn wsX10_took wsX3_latestVictim := goodIn_sub (kt_wf1 (List.mem_cons_of_mem _ (List.mem_append_left _ (List.mem_append_left _ (List.mem_append_left _ (List.mem_cons_of_mem _ (List.mem_cons_of_mem _ (List.mem_cons_of_mem _ (List.mem_cons_of_mem _ (List.mem_cons_of_mem _ (List.Mem.head _)))))))))) (kt_wfa (kt_wf1 (List.mem_cons_of_mem _ (List.mem_append_left _ (List.mem_append_left _ (List.mem_append_left _ (List.mem_cons_of_mem _ (List.mem_cons_of_mem _ (List.mem_cons_of_mem _ (List.mem_cons_of_mem _ (List.mem_cons_of_mem _ (List.mem_cons_of_mem _ (List.Mem.head _))))))))))) (kt_wf1 (List.mem_cons_of_mem _ (List.mem_append_left _ (List.mem_append_left _ (List.mem_append_left _ (List.mem_cons_of_mem _ (List.mem_cons_of_mem _ (List.mem_cons_of_mem _ (List.mem_cons_of_mem _ (List.mem_cons_of_mem _ (List.mem_cons_of_mem _ (List.mem_cons_of_mem _ (List.Mem.head _)))))))))))) (kt_wf1 (List.mem_cons_of_mem _ (List.mem_append_left _ (List.mem_append_left _ (List.mem_append_left _ (List.mem_cons_of_mem _ (List.mem_cons_of_mem _ (List.mem_cons_of_mem _ (List.mem_cons_of_mem _ (List.mem_cons_of_mem _ (List.mem_cons_of_mem _ (List.mem_cons_of_mem _ (List.mem_cons_of_mem _ (List.Mem.head _))))))))))))) kt_wf0))) (fun _ h => kt_wp_X10_took__X30 h))) kt_wg_X3_latestVictim
set_option maxRecDepth 20000 in
theorem gX10_took_X3_latestVictim : GoodIn wsX10_took (wsV RX10 171 RX3 yX3_latestVictim wsX3_latestVictim) := goodIn_app (a := [.methodLink RX10 171 yX3_latestVictim, .instanceMethod yX3_latestVictim, .selects RX3 yX3_latestVictim yX3_latestVictim, .initialized RX3]) (goodIn_sub (kt_wf1 (List.mem_cons_of_mem _ (List.mem_append_left _ (List.mem_append_left _ (List.mem_append_left _ (List.mem_cons_of_mem _ (List.Mem.head _)))))) (kt_wf1 (List.mem_cons_of_mem _ (List.mem_append_left _ (List.mem_append_left _ (List.mem_append_left _ (List.mem_cons_of_mem _ (List.mem_cons_of_mem _ (List.Mem.head _))))))) (kt_wf1 (List.mem_cons_of_mem _ (List.mem_append_left _ (List.mem_append_left _ (List.mem_append_left _ (List.mem_cons_of_mem _ (List.mem_cons_of_mem _ (List.mem_cons_of_mem _ (List.Mem.head _)))))))) (kt_wf1 (List.mem_cons_of_mem _ (List.mem_append_left _ (List.mem_append_left _ (List.mem_append_left _ (List.mem_cons_of_mem _ (List.mem_cons_of_mem _ (List.mem_cons_of_mem _ (List.mem_cons_of_mem _ (List.Mem.head _))))))))) kt_wf0)))) (by decide +kernel)) ggX10_took_X3_latestVictim
theorem sX10_took_0 : kt_sg cX10_took 0 [42, 180, 0, 37, 180, 0, 111, 27, 182, 0, 171, 172] = true := by decide +kernel
theorem dX10_took_0 : decode cX10_took 0 = .ok (.aload_n 0, 1) := kt_o42 (j := 0) sX10_took_0 rfl
theorem dX10_took_1 : decode cX10_took 1 = .ok (.getfield 37, 3) := kt_o180 (j := 1) sX10_took_0 rfl rfl
theorem dX10_took_4 : decode cX10_took 4 = .ok (.getfield 111, 3) := kt_o180 (j := 4) sX10_took_0 rfl rfl
theorem dX10_took_7 : decode cX10_took 7 = .ok (.iload_n 1, 1) := kt_o27 (j := 7) sX10_took_0 rfl
theorem dX10_took_8 : decode cX10_took 8 = .ok (.invokevirtual 171, 3) := kt_o182 (j := 8) sX10_took_0 rfl rfl
theorem dX10_took_11 : decode cX10_took 11 = .ok (.ireturn, 1) := kt_o172 (j := 11) sX10_took_0 rfl
theorem kt_wp_X10_ring__X10_ring_r1 {w : Cond} (h : w ∈ wsX10_ring_r1) : w ∈ wsX10_ring := List.mem_cons_of_mem _ (List.mem_append_left _ (List.mem_append_left _ (List.mem_append_left _ (List.mem_append_left _ (List.mem_append_left _ (List.mem_append_left _ (List.mem_append_left _ (h))))))))
theorem kt_wp_X10_ring__X10_ring_r2 {w : Cond} (h : w ∈ wsX10_ring_r2) : w ∈ wsX10_ring := List.mem_cons_of_mem _ (List.mem_append_left _ (List.mem_append_left _ (List.mem_append_left _ (List.mem_append_left _ (List.mem_append_left _ (List.mem_append_left _ (List.mem_append_right _ (h))))))))
theorem kt_wp_X10_ring__X100 {w : Cond} (h : w ∈ wsX100) : w ∈ wsX10_ring := List.mem_cons_of_mem _ (List.mem_append_left _ (List.mem_append_left _ (List.mem_append_left _ (List.mem_append_left _ (List.mem_append_left _ (List.mem_append_right _ (h)))))))
theorem kt_wp_X10_ring__X40 {w : Cond} (h : w ∈ wsX40) : w ∈ wsX10_ring := List.mem_cons_of_mem _ (List.mem_append_left _ (List.mem_append_left _ (List.mem_append_left _ (List.mem_append_left _ (List.mem_append_right _ (h))))))
theorem kt_wp_X10_ring__X50 {w : Cond} (h : w ∈ wsX50) : w ∈ wsX10_ring := List.mem_cons_of_mem _ (List.mem_append_left _ (List.mem_append_left _ (List.mem_append_left _ (List.mem_append_right _ (h)))))
theorem kt_wp_X10_ring__X60 {w : Cond} (h : w ∈ wsX60) : w ∈ wsX10_ring := List.mem_cons_of_mem _ (List.mem_append_left _ (List.mem_append_left _ (List.mem_append_right _ (h))))
theorem kt_wp_X10_ring__X80 {w : Cond} (h : w ∈ wsX80) : w ∈ wsX10_ring := List.mem_cons_of_mem _ (List.mem_append_left _ (List.mem_append_right _ (h)))
theorem kt_wp_X10_ring__X00 {w : Cond} (h : w ∈ wsX00) : w ∈ wsX10_ring := List.mem_cons_of_mem _ (List.mem_append_right _ (h))
set_option maxRecDepth 20000 in
theorem kt_wg_X5_holds : wsX5_holds.all goodWord = true := by decide +kernel
set_option maxRecDepth 20000 in
theorem ggX10_ring_X5_holds : GoodIn wsX10_ring wsX5_holds := goodIn_sub (kt_wf1 (kt_wp_X10_ring__X10_ring_r1 kt_wm6) (kt_wfa (kt_wfa (kt_wfa (kt_wfa (kt_wfa (kt_wf1 (kt_wp_X10_ring__X10_ring_r1 kt_wm7) (kt_wf1 (kt_wp_X10_ring__X10_ring_r1 kt_wm8) (kt_wf1 (kt_wp_X10_ring__X10_ring_r1 kt_wm9) (kt_wf1 (kt_wp_X10_ring__X10_ring_r1 kt_wm10) (kt_wf1 (kt_wp_X10_ring__X10_ring_r1 kt_wm11) (kt_wf1 (kt_wp_X10_ring__X10_ring_r1 kt_wm12) (kt_wf1 (kt_wp_X10_ring__X10_ring_r1 kt_wm13) (kt_wf1 (kt_wp_X10_ring__X10_ring_r1 kt_wm14) (kt_wf1 (kt_wp_X10_ring__X10_ring_r1 kt_wm15) (kt_wf1 (kt_wp_X10_ring__X10_ring_r1 kt_wm16) (kt_wf1 (kt_wp_X10_ring__X10_ring_r1 kt_wm17) (kt_wf1 (kt_wp_X10_ring__X10_ring_r1 kt_wm18) (kt_wf1 (kt_wp_X10_ring__X10_ring_r1 kt_wm19) (kt_wf1 (kt_wp_X10_ring__X10_ring_r1 kt_wm20) (kt_wf1 (kt_wp_X10_ring__X10_ring_r1 kt_wm21) (kt_wf1 (kt_wp_X10_ring__X10_ring_r1 kt_wm22) (kt_wf1 (kt_wp_X10_ring__X10_ring_r1 kt_wm23) (kt_wf1 (kt_wp_X10_ring__X10_ring_r2 kt_wm0) (kt_wf1 (kt_wp_X10_ring__X10_ring_r2 kt_wm1) (kt_wf1 (kt_wp_X10_ring__X10_ring_r2 kt_wm2) (kt_wf1 (kt_wp_X10_ring__X10_ring_r2 kt_wm3) (kt_wf1 (kt_wp_X10_ring__X10_ring_r2 kt_wm4) (kt_wf1 (kt_wp_X10_ring__X10_ring_r2 kt_wm5) (kt_wf1 (kt_wp_X10_ring__X10_ring_r2 kt_wm6) kt_wf0)))))))))))))))))))))))) (kt_wf1 (kt_wp_X10_ring__X10_ring_r2 kt_wm7) (kt_wf1 (kt_wp_X10_ring__X10_ring_r1 kt_wm5) (kt_wf1 (kt_wp_X10_ring__X10_ring_r2 kt_wm8) (kt_wf1 (kt_wp_X10_ring__X10_ring_r2 kt_wm9) (kt_wf1 (kt_wp_X10_ring__X10_ring_r2 kt_wm10) (kt_wf1 (kt_wp_X10_ring__X10_ring_r2 kt_wm11) (kt_wf1 (kt_wp_X10_ring__X10_ring_r2 kt_wm12) (kt_wf1 (kt_wp_X10_ring__X10_ring_r2 kt_wm13) (kt_wf1 (kt_wp_X10_ring__X10_ring_r2 kt_wm14) (kt_wf1 (kt_wp_X10_ring__X10_ring_r2 kt_wm15) (kt_wf1 (kt_wp_X10_ring__X10_ring_r2 kt_wm16) (kt_wf1 (kt_wp_X10_ring__X10_ring_r2 kt_wm17) (kt_wf1 (kt_wp_X10_ring__X10_ring_r2 kt_wm18) kt_wf0)))))))))))))) (fun _ h => kt_wp_X10_ring__X50 h)) (fun _ h => kt_wp_X10_ring__X60 h)) (fun _ h => kt_wp_X10_ring__X80 h)) (fun _ h => kt_wp_X10_ring__X00 h))) kt_wg_X5_holds
set_option maxRecDepth 20000 in
theorem gX10_ring_X5_holds : GoodIn wsX10_ring (wsV RX10 174 RX5 yX5_holds wsX5_holds) := goodIn_app (a := [.methodLink RX10 174 yX5_holds, .instanceMethod yX5_holds, .selects RX5 yX5_holds yX5_holds, .initialized RX5]) (goodIn_sub (kt_wf1 (kt_wp_X10_ring__X10_ring_r1 kt_wm2) (kt_wf1 (kt_wp_X10_ring__X10_ring_r1 kt_wm3) (kt_wf1 (kt_wp_X10_ring__X10_ring_r1 kt_wm4) (kt_wf1 (kt_wp_X10_ring__X10_ring_r1 kt_wm5) kt_wf0)))) (by decide +kernel)) ggX10_ring_X5_holds
theorem sX10_ring_0 : kt_sg cX10_ring 0 [42, 180, 0, 46, 42, 180, 0, 37, 180, 0, 139, 2, 182, 0, 174, 172] = true := by decide +kernel
theorem dX10_ring_0 : decode cX10_ring 0 = .ok (.aload_n 0, 1) := kt_o42 (j := 0) sX10_ring_0 rfl
theorem dX10_ring_1 : decode cX10_ring 1 = .ok (.getfield 46, 3) := kt_o180 (j := 1) sX10_ring_0 rfl rfl
theorem dX10_ring_4 : decode cX10_ring 4 = .ok (.aload_n 0, 1) := kt_o42 (j := 4) sX10_ring_0 rfl
theorem dX10_ring_5 : decode cX10_ring 5 = .ok (.getfield 37, 3) := kt_o180 (j := 5) sX10_ring_0 rfl rfl
theorem dX10_ring_8 : decode cX10_ring 8 = .ok (.getfield 139, 3) := kt_o180 (j := 8) sX10_ring_0 rfl rfl
theorem dX10_ring_11 : decode cX10_ring 11 = .ok (.iconst (-1), 1) := kt_o2 (j := 11) sX10_ring_0 rfl
theorem dX10_ring_12 : decode cX10_ring 12 = .ok (.invokevirtual 174, 3) := kt_o182 (j := 12) sX10_ring_0 rfl rfl
theorem dX10_ring_15 : decode cX10_ring 15 = .ok (.ireturn, 1) := kt_o172 (j := 15) sX10_ring_0 rfl
theorem kt_wp_X10_needed__X10_needed_r1 {w : Cond} (h : w ∈ wsX10_needed_r1) : w ∈ wsX10_needed := List.mem_cons_of_mem _ (List.mem_append_left _ (List.mem_append_left _ (List.mem_append_left _ (List.mem_append_left _ (List.mem_append_left _ (List.mem_append_left _ (List.mem_append_left _ (h))))))))
theorem kt_wp_X10_needed__X10_needed_r2 {w : Cond} (h : w ∈ wsX10_needed_r2) : w ∈ wsX10_needed := List.mem_cons_of_mem _ (List.mem_append_left _ (List.mem_append_left _ (List.mem_append_left _ (List.mem_append_left _ (List.mem_append_left _ (List.mem_append_left _ (List.mem_append_right _ (h))))))))
theorem kt_wp_X10_needed__X100 {w : Cond} (h : w ∈ wsX100) : w ∈ wsX10_needed := List.mem_cons_of_mem _ (List.mem_append_left _ (List.mem_append_left _ (List.mem_append_left _ (List.mem_append_left _ (List.mem_append_left _ (List.mem_append_right _ (h)))))))
theorem kt_wp_X10_needed__X60 {w : Cond} (h : w ∈ wsX60) : w ∈ wsX10_needed := List.mem_cons_of_mem _ (List.mem_append_left _ (List.mem_append_left _ (List.mem_append_left _ (List.mem_append_left _ (List.mem_append_right _ (h))))))
theorem kt_wp_X10_needed__X40 {w : Cond} (h : w ∈ wsX40) : w ∈ wsX10_needed := List.mem_cons_of_mem _ (List.mem_append_left _ (List.mem_append_left _ (List.mem_append_left _ (List.mem_append_right _ (h)))))
theorem kt_wp_X10_needed__X50 {w : Cond} (h : w ∈ wsX50) : w ∈ wsX10_needed := List.mem_cons_of_mem _ (List.mem_append_left _ (List.mem_append_left _ (List.mem_append_right _ (h))))
theorem kt_wp_X10_needed__X80 {w : Cond} (h : w ∈ wsX80) : w ∈ wsX10_needed := List.mem_cons_of_mem _ (List.mem_append_left _ (List.mem_append_right _ (h)))
theorem kt_wp_X10_needed__X00 {w : Cond} (h : w ∈ wsX00) : w ∈ wsX10_needed := List.mem_cons_of_mem _ (List.mem_append_right _ (h))
set_option maxRecDepth 20000 in
theorem ggX10_needed_X6_isPiece : GoodIn wsX10_needed wsX6_isPiece := goodIn_sub (kt_wf1 (kt_wp_X10_needed__X10_needed_r1 kt_wm7) (kt_wfa (kt_wf1 (kt_wp_X10_needed__X10_needed_r1 kt_wm8) kt_wf0) (fun _ h => kt_wp_X10_needed__X60 h))) kt_wg_X6_isPiece
set_option maxRecDepth 20000 in
theorem gX10_needed_X6_isPiece : GoodIn wsX10_needed (wsV RX10 132 RX6 yX6_isPiece wsX6_isPiece) := goodIn_app (a := [.methodLink RX10 132 yX6_isPiece, .instanceMethod yX6_isPiece, .selects RX6 yX6_isPiece yX6_isPiece, .initialized RX6]) (goodIn_sub (kt_wf1 (kt_wp_X10_needed__X10_needed_r1 kt_wm3) (kt_wf1 (kt_wp_X10_needed__X10_needed_r1 kt_wm4) (kt_wf1 (kt_wp_X10_needed__X10_needed_r1 kt_wm5) (kt_wf1 (kt_wp_X10_needed__X10_needed_r1 kt_wm6) kt_wf0)))) (by decide +kernel)) ggX10_needed_X6_isPiece
set_option maxRecDepth 20000 in
theorem ggX10_needed_X5_holds : GoodIn wsX10_needed wsX5_holds := goodIn_sub (kt_wf1 (kt_wp_X10_needed__X10_needed_r1 kt_wm13) (kt_wfa (kt_wfa (kt_wfa (kt_wfa (kt_wfa (kt_wf1 (kt_wp_X10_needed__X10_needed_r1 kt_wm14) (kt_wf1 (kt_wp_X10_needed__X10_needed_r1 kt_wm15) (kt_wf1 (kt_wp_X10_needed__X10_needed_r1 kt_wm16) (kt_wf1 (kt_wp_X10_needed__X10_needed_r1 kt_wm17) (kt_wf1 (kt_wp_X10_needed__X10_needed_r1 kt_wm18) (kt_wf1 (kt_wp_X10_needed__X10_needed_r1 kt_wm19) (kt_wf1 (kt_wp_X10_needed__X10_needed_r1 kt_wm20) (kt_wf1 (kt_wp_X10_needed__X10_needed_r1 kt_wm21) (kt_wf1 (kt_wp_X10_needed__X10_needed_r1 kt_wm22) (kt_wf1 (kt_wp_X10_needed__X10_needed_r1 kt_wm23) (kt_wf1 (kt_wp_X10_needed__X10_needed_r2 kt_wm0) (kt_wf1 (kt_wp_X10_needed__X10_needed_r2 kt_wm1) (kt_wf1 (kt_wp_X10_needed__X10_needed_r1 kt_wm6) (kt_wf1 (kt_wp_X10_needed__X10_needed_r2 kt_wm2) (kt_wf1 (kt_wp_X10_needed__X10_needed_r2 kt_wm3) (kt_wf1 (kt_wp_X10_needed__X10_needed_r2 kt_wm4) (kt_wf1 (kt_wp_X10_needed__X10_needed_r2 kt_wm5) (kt_wf1 (kt_wp_X10_needed__X10_needed_r2 kt_wm6) (kt_wf1 (kt_wp_X10_needed__X10_needed_r2 kt_wm7) (kt_wf1 (kt_wp_X10_needed__X10_needed_r2 kt_wm8) (kt_wf1 (kt_wp_X10_needed__X10_needed_r2 kt_wm9) (kt_wf1 (kt_wp_X10_needed__X10_needed_r2 kt_wm10) (kt_wf1 (kt_wp_X10_needed__X10_needed_r2 kt_wm11) (kt_wf1 (kt_wp_X10_needed__X10_needed_r2 kt_wm12) kt_wf0)))))))))))))))))))))))) (kt_wf1 (kt_wp_X10_needed__X10_needed_r2 kt_wm13) (kt_wf1 (kt_wp_X10_needed__X10_needed_r1 kt_wm12) (kt_wf1 (kt_wp_X10_needed__X10_needed_r2 kt_wm14) (kt_wf1 (kt_wp_X10_needed__X10_needed_r2 kt_wm15) (kt_wf1 (kt_wp_X10_needed__X10_needed_r2 kt_wm16) (kt_wf1 (kt_wp_X10_needed__X10_needed_r2 kt_wm17) (kt_wf1 (kt_wp_X10_needed__X10_needed_r2 kt_wm18) (kt_wf1 (kt_wp_X10_needed__X10_needed_r2 kt_wm19) (kt_wf1 (kt_wp_X10_needed__X10_needed_r2 kt_wm20) (kt_wf1 (kt_wp_X10_needed__X10_needed_r1 kt_wm4) (kt_wf1 (kt_wp_X10_needed__X10_needed_r1 kt_wm5) (kt_wf1 (kt_wp_X10_needed__X10_needed_r1 kt_wm7) (kt_wf1 (kt_wp_X10_needed__X10_needed_r1 kt_wm8) kt_wf0)))))))))))))) (fun _ h => kt_wp_X10_needed__X50 h)) (fun _ h => kt_wp_X10_needed__X60 h)) (fun _ h => kt_wp_X10_needed__X80 h)) (fun _ h => kt_wp_X10_needed__X00 h))) kt_wg_X5_holds
set_option maxRecDepth 20000 in
theorem gX10_needed_X5_holds : GoodIn wsX10_needed (wsV RX10 174 RX5 yX5_holds wsX5_holds) := goodIn_app (a := [.methodLink RX10 174 yX5_holds, .instanceMethod yX5_holds, .selects RX5 yX5_holds yX5_holds, .initialized RX5]) (goodIn_sub (kt_wf1 (kt_wp_X10_needed__X10_needed_r1 kt_wm9) (kt_wf1 (kt_wp_X10_needed__X10_needed_r1 kt_wm10) (kt_wf1 (kt_wp_X10_needed__X10_needed_r1 kt_wm11) (kt_wf1 (kt_wp_X10_needed__X10_needed_r1 kt_wm12) kt_wf0)))) (by decide +kernel)) ggX10_needed_X5_holds
theorem sX10_needed_0 : kt_sg cX10_needed 0 [42, 180, 0, 28, 27, 182, 0, 132, 153, 0, 56, 42, 180, 0, 28, 180, 0, 178, 27, 46, 4, 160, 0, 43, 42, 180, 0, 46, 42, 180, 0, 37, 180, 0, 139, 2, 182, 0, 174, 153, 0, 25, 42, 180, 0, 46, 42, 180, 0, 37, 180, 0, 139, 27, 182, 0, 174, 154, 0, 7, 4, 167, 0, 4] = true := by decide +kernel
theorem dX10_needed_0 : decode cX10_needed 0 = .ok (.aload_n 0, 1) := kt_o42 (j := 0) sX10_needed_0 rfl
theorem dX10_needed_1 : decode cX10_needed 1 = .ok (.getfield 28, 3) := kt_o180 (j := 1) sX10_needed_0 rfl rfl
theorem dX10_needed_4 : decode cX10_needed 4 = .ok (.iload_n 1, 1) := kt_o27 (j := 4) sX10_needed_0 rfl
theorem dX10_needed_5 : decode cX10_needed 5 = .ok (.invokevirtual 132, 3) := kt_o182 (j := 5) sX10_needed_0 rfl rfl
theorem dX10_needed_8 : decode cX10_needed 8 = .ok (.ifCond .eq 56, 3) := kt_o153 (j := 8) sX10_needed_0 rfl (by decide +kernel)
theorem dX10_needed_11 : decode cX10_needed 11 = .ok (.aload_n 0, 1) := kt_o42 (j := 11) sX10_needed_0 rfl
theorem dX10_needed_12 : decode cX10_needed 12 = .ok (.getfield 28, 3) := kt_o180 (j := 12) sX10_needed_0 rfl rfl
theorem dX10_needed_15 : decode cX10_needed 15 = .ok (.getfield 178, 3) := kt_o180 (j := 15) sX10_needed_0 rfl rfl
theorem dX10_needed_18 : decode cX10_needed 18 = .ok (.iload_n 1, 1) := kt_o27 (j := 18) sX10_needed_0 rfl
theorem dX10_needed_19 : decode cX10_needed 19 = .ok (.iaload, 1) := kt_o46 (j := 19) sX10_needed_0 rfl
theorem dX10_needed_20 : decode cX10_needed 20 = .ok (.iconst 1, 1) := kt_o4 (j := 20) sX10_needed_0 rfl
theorem dX10_needed_21 : decode cX10_needed 21 = .ok (.if_icmp .ne 43, 3) := kt_o160 (j := 21) sX10_needed_0 rfl (by decide +kernel)
theorem dX10_needed_24 : decode cX10_needed 24 = .ok (.aload_n 0, 1) := kt_o42 (j := 24) sX10_needed_0 rfl
theorem dX10_needed_25 : decode cX10_needed 25 = .ok (.getfield 46, 3) := kt_o180 (j := 25) sX10_needed_0 rfl rfl
theorem dX10_needed_28 : decode cX10_needed 28 = .ok (.aload_n 0, 1) := kt_o42 (j := 28) sX10_needed_0 rfl
theorem dX10_needed_29 : decode cX10_needed 29 = .ok (.getfield 37, 3) := kt_o180 (j := 29) sX10_needed_0 rfl rfl
theorem dX10_needed_32 : decode cX10_needed 32 = .ok (.getfield 139, 3) := kt_o180 (j := 32) sX10_needed_0 rfl rfl
theorem dX10_needed_35 : decode cX10_needed 35 = .ok (.iconst (-1), 1) := kt_o2 (j := 35) sX10_needed_0 rfl
theorem dX10_needed_36 : decode cX10_needed 36 = .ok (.invokevirtual 174, 3) := kt_o182 (j := 36) sX10_needed_0 rfl rfl
theorem dX10_needed_39 : decode cX10_needed 39 = .ok (.ifCond .eq 25, 3) := kt_o153 (j := 39) sX10_needed_0 rfl (by decide +kernel)
theorem dX10_needed_42 : decode cX10_needed 42 = .ok (.aload_n 0, 1) := kt_o42 (j := 42) sX10_needed_0 rfl
theorem dX10_needed_43 : decode cX10_needed 43 = .ok (.getfield 46, 3) := kt_o180 (j := 43) sX10_needed_0 rfl rfl
theorem dX10_needed_46 : decode cX10_needed 46 = .ok (.aload_n 0, 1) := kt_o42 (j := 46) sX10_needed_0 rfl
theorem dX10_needed_47 : decode cX10_needed 47 = .ok (.getfield 37, 3) := kt_o180 (j := 47) sX10_needed_0 rfl rfl
theorem dX10_needed_50 : decode cX10_needed 50 = .ok (.getfield 139, 3) := kt_o180 (j := 50) sX10_needed_0 rfl rfl
theorem dX10_needed_53 : decode cX10_needed 53 = .ok (.iload_n 1, 1) := kt_o27 (j := 53) sX10_needed_0 rfl
theorem dX10_needed_54 : decode cX10_needed 54 = .ok (.invokevirtual 174, 3) := kt_o182 (j := 54) sX10_needed_0 rfl rfl
theorem dX10_needed_57 : decode cX10_needed 57 = .ok (.ifCond .ne 7, 3) := kt_o154 (j := 57) sX10_needed_0 rfl (by decide +kernel)
theorem dX10_needed_60 : decode cX10_needed 60 = .ok (.iconst 1, 1) := kt_o4 (j := 60) sX10_needed_0 rfl
theorem dX10_needed_61 : decode cX10_needed 61 = .ok (.goto 4, 3) := kt_o167 (j := 61) sX10_needed_0 rfl (by decide +kernel)
theorem sX10_needed_64 : kt_sg cX10_needed 64 [3, 172] = true := by decide +kernel
theorem dX10_needed_64 : decode cX10_needed 64 = .ok (.iconst 0, 1) := kt_o3 (j := 0) sX10_needed_64 rfl
theorem dX10_needed_65 : decode cX10_needed 65 = .ok (.ireturn, 1) := kt_o172 (j := 1) sX10_needed_64 rfl
theorem kt_wp_X10_back__X10_back_r1 {w : Cond} (h : w ∈ wsX10_back_r1) : w ∈ wsX10_back := List.mem_cons_of_mem _ (List.mem_append_left _ (List.mem_append_left _ (List.mem_append_left _ (List.mem_append_left _ (List.mem_append_left _ (h))))))
theorem kt_wp_X10_back__X10_back_r2 {w : Cond} (h : w ∈ wsX10_back_r2) : w ∈ wsX10_back := List.mem_cons_of_mem _ (List.mem_append_left _ (List.mem_append_left _ (List.mem_append_left _ (List.mem_append_left _ (List.mem_append_right _ (h))))))
theorem kt_wp_X10_back__X100 {w : Cond} (h : w ∈ wsX100) : w ∈ wsX10_back := List.mem_cons_of_mem _ (List.mem_append_left _ (List.mem_append_left _ (List.mem_append_left _ (List.mem_append_right _ (h)))))
theorem kt_wp_X10_back__X40 {w : Cond} (h : w ∈ wsX40) : w ∈ wsX10_back := List.mem_cons_of_mem _ (List.mem_append_left _ (List.mem_append_left _ (List.mem_append_right _ (h))))
theorem kt_wp_X10_back__X30 {w : Cond} (h : w ∈ wsX30) : w ∈ wsX10_back := List.mem_cons_of_mem _ (List.mem_append_left _ (List.mem_append_right _ (h)))
theorem kt_wp_X10_back__X80 {w : Cond} (h : w ∈ wsX80) : w ∈ wsX10_back := List.mem_cons_of_mem _ (List.mem_append_right _ (h))
set_option maxRecDepth 20000 in
theorem kt_wg_X4_takeBack : wsX4_takeBack.all goodWord = true := by decide +kernel
set_option maxRecDepth 20000 in
theorem ggX10_back_X4_takeBack : GoodIn wsX10_back wsX4_takeBack := goodIn_sub (kt_wf1 (kt_wp_X10_back__X10_back_r1 kt_wm5) (kt_wfa (kt_wfa (kt_wfa (kt_wf1 (kt_wp_X10_back__X10_back_r1 kt_wm6) (kt_wf1 (kt_wp_X10_back__X10_back_r1 kt_wm7) (kt_wf1 (kt_wp_X10_back__X10_back_r1 kt_wm8) (kt_wf1 (kt_wp_X10_back__X10_back_r1 kt_wm9) (kt_wf1 (kt_wp_X10_back__X10_back_r1 kt_wm10) (kt_wf1 (kt_wp_X10_back__X10_back_r1 kt_wm11) (kt_wf1 (kt_wp_X10_back__X10_back_r1 kt_wm12) (kt_wf1 (kt_wp_X10_back__X10_back_r1 kt_wm13) (kt_wf1 (kt_wp_X10_back__X10_back_r1 kt_wm14) (kt_wf1 (kt_wp_X10_back__X10_back_r1 kt_wm15) (kt_wf1 (kt_wp_X10_back__X10_back_r1 kt_wm16) (kt_wf1 (kt_wp_X10_back__X10_back_r1 kt_wm17) (kt_wf1 (kt_wp_X10_back__X10_back_r1 kt_wm18) (kt_wf1 (kt_wp_X10_back__X10_back_r1 kt_wm19) (kt_wf1 (kt_wp_X10_back__X10_back_r1 kt_wm20) (kt_wf1 (kt_wp_X10_back__X10_back_r1 kt_wm21) (kt_wf1 (kt_wp_X10_back__X10_back_r1 kt_wm22) (kt_wf1 (kt_wp_X10_back__X10_back_r1 kt_wm23) (kt_wf1 (kt_wp_X10_back__X10_back_r2 kt_wm0) (kt_wf1 (kt_wp_X10_back__X10_back_r2 kt_wm1) (kt_wf1 (kt_wp_X10_back__X10_back_r2 kt_wm2) kt_wf0))))))))))))))))))))) (fun _ h => kt_wp_X10_back__X40 h)) (fun _ h => kt_wp_X10_back__X30 h)) (fun _ h => kt_wp_X10_back__X80 h))) kt_wg_X4_takeBack
set_option maxRecDepth 20000 in
theorem gX10_back_X4_takeBack : GoodIn wsX10_back (wsV RX10 181 RX4 yX4_takeBack wsX4_takeBack) := goodIn_app (a := [.methodLink RX10 181 yX4_takeBack, .instanceMethod yX4_takeBack, .selects RX4 yX4_takeBack yX4_takeBack, .initialized RX4]) (goodIn_sub (kt_wf1 (kt_wp_X10_back__X10_back_r1 kt_wm1) (kt_wf1 (kt_wp_X10_back__X10_back_r1 kt_wm2) (kt_wf1 (kt_wp_X10_back__X10_back_r1 kt_wm3) (kt_wf1 (kt_wp_X10_back__X10_back_r1 kt_wm4) kt_wf0)))) (by decide +kernel)) ggX10_back_X4_takeBack
theorem sX10_back_0 : kt_sg cX10_back 0 [42, 180, 0, 37, 182, 0, 181, 172] = true := by decide +kernel
theorem dX10_back_0 : decode cX10_back 0 = .ok (.aload_n 0, 1) := kt_o42 (j := 0) sX10_back_0 rfl
theorem dX10_back_1 : decode cX10_back 1 = .ok (.getfield 37, 3) := kt_o180 (j := 1) sX10_back_0 rfl rfl
theorem dX10_back_4 : decode cX10_back 4 = .ok (.invokevirtual 181, 3) := kt_o182 (j := 4) sX10_back_0 rfl rfl
theorem dX10_back_7 : decode cX10_back 7 = .ok (.ireturn, 1) := kt_o172 (j := 7) sX10_back_0 rfl
theorem kt_wp_X10_again__X10_again_r1 {w : Cond} (h : w ∈ wsX10_again_r1) : w ∈ wsX10_again := List.mem_cons_of_mem _ (List.mem_append_left _ (List.mem_append_left _ (List.mem_append_left _ (List.mem_append_left _ (List.mem_append_left _ (List.mem_append_left _ (List.mem_append_left _ (List.mem_append_left _ (h)))))))))
theorem kt_wp_X10_again__X10_again_r2 {w : Cond} (h : w ∈ wsX10_again_r2) : w ∈ wsX10_again := List.mem_cons_of_mem _ (List.mem_append_left _ (List.mem_append_left _ (List.mem_append_left _ (List.mem_append_left _ (List.mem_append_left _ (List.mem_append_left _ (List.mem_append_left _ (List.mem_append_right _ (List.mem_append_left _ (h))))))))))
theorem kt_wp_X10_again__X10_again_r3 {w : Cond} (h : w ∈ wsX10_again_r3) : w ∈ wsX10_again := List.mem_cons_of_mem _ (List.mem_append_left _ (List.mem_append_left _ (List.mem_append_left _ (List.mem_append_left _ (List.mem_append_left _ (List.mem_append_left _ (List.mem_append_left _ (List.mem_append_right _ (List.mem_append_right _ (List.mem_append_left _ (h)))))))))))
theorem kt_wp_X10_again__X10_again_r4 {w : Cond} (h : w ∈ wsX10_again_r4) : w ∈ wsX10_again := List.mem_cons_of_mem _ (List.mem_append_left _ (List.mem_append_left _ (List.mem_append_left _ (List.mem_append_left _ (List.mem_append_left _ (List.mem_append_left _ (List.mem_append_left _ (List.mem_append_right _ (List.mem_append_right _ (List.mem_append_right _ (List.mem_append_left _ (h))))))))))))
theorem kt_wp_X10_again__X10_again_r5 {w : Cond} (h : w ∈ wsX10_again_r5) : w ∈ wsX10_again := List.mem_cons_of_mem _ (List.mem_append_left _ (List.mem_append_left _ (List.mem_append_left _ (List.mem_append_left _ (List.mem_append_left _ (List.mem_append_left _ (List.mem_append_left _ (List.mem_append_right _ (List.mem_append_right _ (List.mem_append_right _ (List.mem_append_right _ (List.mem_append_left _ (h)))))))))))))
theorem kt_wp_X10_again__X10_again_r6 {w : Cond} (h : w ∈ wsX10_again_r6) : w ∈ wsX10_again := List.mem_cons_of_mem _ (List.mem_append_left _ (List.mem_append_left _ (List.mem_append_left _ (List.mem_append_left _ (List.mem_append_left _ (List.mem_append_left _ (List.mem_append_left _ (List.mem_append_right _ (List.mem_append_right _ (List.mem_append_right _ (List.mem_append_right _ (List.mem_append_right _ (h)))))))))))))
theorem kt_wp_X10_again__X100 {w : Cond} (h : w ∈ wsX100) : w ∈ wsX10_again := List.mem_cons_of_mem _ (List.mem_append_left _ (List.mem_append_left _ (List.mem_append_left _ (List.mem_append_left _ (List.mem_append_left _ (List.mem_append_left _ (List.mem_append_right _ (h))))))))
theorem kt_wp_X10_again__X40 {w : Cond} (h : w ∈ wsX40) : w ∈ wsX10_again := List.mem_cons_of_mem _ (List.mem_append_left _ (List.mem_append_left _ (List.mem_append_left _ (List.mem_append_left _ (List.mem_append_left _ (List.mem_append_right _ (h)))))))
theorem kt_wp_X10_again__X30 {w : Cond} (h : w ∈ wsX30) : w ∈ wsX10_again := List.mem_cons_of_mem _ (List.mem_append_left _ (List.mem_append_left _ (List.mem_append_left _ (List.mem_append_left _ (List.mem_append_right _ (h))))))
theorem kt_wp_X10_again__X60 {w : Cond} (h : w ∈ wsX60) : w ∈ wsX10_again := List.mem_cons_of_mem _ (List.mem_append_left _ (List.mem_append_left _ (List.mem_append_left _ (List.mem_append_right _ (h)))))
theorem kt_wp_X10_again__X80 {w : Cond} (h : w ∈ wsX80) : w ∈ wsX10_again := List.mem_cons_of_mem _ (List.mem_append_left _ (List.mem_append_left _ (List.mem_append_right _ (h))))
theorem kt_wp_X10_again__X00 {w : Cond} (h : w ∈ wsX00) : w ∈ wsX10_again := List.mem_cons_of_mem _ (List.mem_append_left _ (List.mem_append_right _ (h)))
theorem kt_wp_X10_again__X10 {w : Cond} (h : w ∈ wsX10) : w ∈ wsX10_again := List.mem_cons_of_mem _ (List.mem_append_right _ (h))
set_option maxRecDepth 20000 in
theorem kt_wg_X4_redo : wsX4_redo.all goodWord = true := by decide +kernel
set_option maxRecDepth 20000 in
theorem ggX10_again_X4_redo : GoodIn wsX10_again wsX4_redo := goodIn_sub (kt_wf1 (kt_wp_X10_again__X10_again_r1 kt_wm5) (kt_wfa (kt_wfa (kt_wfa (kt_wfa (kt_wfa (kt_wfa (kt_wfa (kt_wf1 (kt_wp_X10_again__X10_again_r1 kt_wm6) (kt_wf1 (kt_wp_X10_again__X10_again_r1 kt_wm7) (kt_wf1 (kt_wp_X10_again__X10_again_r1 kt_wm8) (kt_wf1 (kt_wp_X10_again__X10_again_r1 kt_wm9) (kt_wf1 (kt_wp_X10_again__X10_again_r1 kt_wm10) (kt_wf1 (kt_wp_X10_again__X10_again_r1 kt_wm11) (kt_wf1 (kt_wp_X10_again__X10_again_r1 kt_wm12) (kt_wf1 (kt_wp_X10_again__X10_again_r1 kt_wm13) (kt_wf1 (kt_wp_X10_again__X10_again_r1 kt_wm14) (kt_wf1 (kt_wp_X10_again__X10_again_r1 kt_wm15) (kt_wf1 (kt_wp_X10_again__X10_again_r1 kt_wm4) (kt_wf1 (kt_wp_X10_again__X10_again_r1 kt_wm16) (kt_wf1 (kt_wp_X10_again__X10_again_r1 kt_wm17) (kt_wf1 (kt_wp_X10_again__X10_again_r1 kt_wm18) (kt_wf1 (kt_wp_X10_again__X10_again_r1 kt_wm19) (kt_wf1 (kt_wp_X10_again__X10_again_r1 kt_wm20) (kt_wf1 (kt_wp_X10_again__X10_again_r1 kt_wm21) (kt_wf1 (kt_wp_X10_again__X10_again_r1 kt_wm22) (kt_wf1 (kt_wp_X10_again__X10_again_r1 kt_wm23) (kt_wf1 (kt_wp_X10_again__X10_again_r2 kt_wm0) (kt_wf1 (kt_wp_X10_again__X10_again_r2 kt_wm1) (kt_wf1 (kt_wp_X10_again__X10_again_r2 kt_wm2) (kt_wf1 (kt_wp_X10_again__X10_again_r2 kt_wm3) (kt_wf1 (kt_wp_X10_again__X10_again_r2 kt_wm4) kt_wf0)))))))))))))))))))))))) (kt_wfa (kt_wf1 (kt_wp_X10_again__X10_again_r2 kt_wm5) (kt_wf1 (kt_wp_X10_again__X10_again_r2 kt_wm6) (kt_wf1 (kt_wp_X10_again__X10_again_r2 kt_wm7) (kt_wf1 (kt_wp_X10_again__X10_again_r2 kt_wm8) (kt_wf1 (kt_wp_X10_again__X10_again_r2 kt_wm9) (kt_wf1 (kt_wp_X10_again__X10_again_r2 kt_wm10) (kt_wf1 (kt_wp_X10_again__X10_again_r2 kt_wm11) (kt_wf1 (kt_wp_X10_again__X10_again_r2 kt_wm12) (kt_wf1 (kt_wp_X10_again__X10_again_r2 kt_wm13) (kt_wf1 (kt_wp_X10_again__X10_again_r2 kt_wm14) (kt_wf1 (kt_wp_X10_again__X10_again_r2 kt_wm15) (kt_wf1 (kt_wp_X10_again__X10_again_r2 kt_wm16) (kt_wf1 (kt_wp_X10_again__X10_again_r2 kt_wm17) (kt_wf1 (kt_wp_X10_again__X10_again_r2 kt_wm18) (kt_wf1 (kt_wp_X10_again__X10_again_r2 kt_wm19) (kt_wf1 (kt_wp_X10_again__X10_again_r2 kt_wm20) (kt_wf1 (kt_wp_X10_again__X10_again_r2 kt_wm21) (kt_wf1 (kt_wp_X10_again__X10_again_r2 kt_wm22) (kt_wf1 (kt_wp_X10_again__X10_again_r2 kt_wm23) (kt_wf1 (kt_wp_X10_again__X10_again_r3 kt_wm0) (kt_wf1 (kt_wp_X10_again__X10_again_r3 kt_wm1) (kt_wf1 (kt_wp_X10_again__X10_again_r3 kt_wm2) (kt_wf1 (kt_wp_X10_again__X10_again_r3 kt_wm3) (kt_wf1 (kt_wp_X10_again__X10_again_r3 kt_wm4) kt_wf0)))))))))))))))))))))))) (kt_wfa (kt_wf1 (kt_wp_X10_again__X10_again_r3 kt_wm5) (kt_wf1 (kt_wp_X10_again__X10_again_r3 kt_wm6) (kt_wf1 (kt_wp_X10_again__X10_again_r3 kt_wm7) (kt_wf1 (kt_wp_X10_again__X10_again_r3 kt_wm8) (kt_wf1 (kt_wp_X10_again__X10_again_r3 kt_wm9) (kt_wf1 (kt_wp_X10_again__X10_again_r3 kt_wm10) (kt_wf1 (kt_wp_X10_again__X10_again_r3 kt_wm11) (kt_wf1 (kt_wp_X10_again__X10_again_r3 kt_wm12) (kt_wf1 (kt_wp_X10_again__X10_again_r3 kt_wm13) (kt_wf1 (kt_wp_X10_again__X10_again_r3 kt_wm14) (kt_wf1 (kt_wp_X10_again__X10_again_r3 kt_wm15) (kt_wf1 (kt_wp_X10_again__X10_again_r3 kt_wm16) (kt_wf1 (kt_wp_X10_again__X10_again_r3 kt_wm17) (kt_wf1 (kt_wp_X10_again__X10_again_r3 kt_wm18) (kt_wf1 (kt_wp_X10_again__X10_again_r3 kt_wm19) (kt_wf1 (kt_wp_X10_again__X10_again_r3 kt_wm20) (kt_wf1 (kt_wp_X10_again__X10_again_r3 kt_wm21) (kt_wf1 (kt_wp_X10_again__X10_again_r3 kt_wm22) (kt_wf1 (kt_wp_X10_again__X10_again_r3 kt_wm23) (kt_wf1 (kt_wp_X10_again__X10_again_r4 kt_wm0) (kt_wf1 (kt_wp_X10_again__X10_again_r4 kt_wm1) (kt_wf1 (kt_wp_X10_again__X10_again_r4 kt_wm2) (kt_wf1 (kt_wp_X10_again__X10_again_r4 kt_wm3) (kt_wf1 (kt_wp_X10_again__X10_again_r4 kt_wm4) kt_wf0)))))))))))))))))))))))) (kt_wfa (kt_wf1 (kt_wp_X10_again__X10_again_r4 kt_wm5) (kt_wf1 (kt_wp_X10_again__X10_again_r4 kt_wm6) (kt_wf1 (kt_wp_X10_again__X10_again_r4 kt_wm7) (kt_wf1 (kt_wp_X10_again__X10_again_r4 kt_wm8) (kt_wf1 (kt_wp_X10_again__X10_again_r4 kt_wm9) (kt_wf1 (kt_wp_X10_again__X10_again_r4 kt_wm10) (kt_wf1 (kt_wp_X10_again__X10_again_r4 kt_wm11) (kt_wf1 (kt_wp_X10_again__X10_again_r4 kt_wm12) (kt_wf1 (kt_wp_X10_again__X10_again_r4 kt_wm13) (kt_wf1 (kt_wp_X10_again__X10_again_r4 kt_wm14) (kt_wf1 (kt_wp_X10_again__X10_again_r4 kt_wm15) (kt_wf1 (kt_wp_X10_again__X10_again_r4 kt_wm16) (kt_wf1 (kt_wp_X10_again__X10_again_r4 kt_wm17) (kt_wf1 (kt_wp_X10_again__X10_again_r4 kt_wm18) (kt_wf1 (kt_wp_X10_again__X10_again_r4 kt_wm19) (kt_wf1 (kt_wp_X10_again__X10_again_r4 kt_wm20) (kt_wf1 (kt_wp_X10_again__X10_again_r4 kt_wm21) (kt_wf1 (kt_wp_X10_again__X10_again_r4 kt_wm22) (kt_wf1 (kt_wp_X10_again__X10_again_r4 kt_wm23) (kt_wf1 (kt_wp_X10_again__X10_again_r5 kt_wm0) (kt_wf1 (kt_wp_X10_again__X10_again_r5 kt_wm1) (kt_wf1 (kt_wp_X10_again__X10_again_r5 kt_wm2) (kt_wf1 (kt_wp_X10_again__X10_again_r5 kt_wm3) (kt_wf1 (kt_wp_X10_again__X10_again_r5 kt_wm4) kt_wf0)))))))))))))))))))))))) (kt_wfa (kt_wf1 (kt_wp_X10_again__X10_again_r5 kt_wm5) (kt_wf1 (kt_wp_X10_again__X10_again_r5 kt_wm6) (kt_wf1 (kt_wp_X10_again__X10_again_r5 kt_wm7) (kt_wf1 (kt_wp_X10_again__X10_again_r5 kt_wm8) (kt_wf1 (kt_wp_X10_again__X10_again_r5 kt_wm9) (kt_wf1 (kt_wp_X10_again__X10_again_r5 kt_wm10) (kt_wf1 (kt_wp_X10_again__X10_again_r5 kt_wm11) (kt_wf1 (kt_wp_X10_again__X10_again_r5 kt_wm12) (kt_wf1 (kt_wp_X10_again__X10_again_r5 kt_wm13) (kt_wf1 (kt_wp_X10_again__X10_again_r5 kt_wm14) (kt_wf1 (kt_wp_X10_again__X10_again_r5 kt_wm15) (kt_wf1 (kt_wp_X10_again__X10_again_r5 kt_wm16) (kt_wf1 (kt_wp_X10_again__X10_again_r5 kt_wm17) (kt_wf1 (kt_wp_X10_again__X10_again_r5 kt_wm18) (kt_wf1 (kt_wp_X10_again__X10_again_r5 kt_wm19) (kt_wf1 (kt_wp_X10_again__X10_again_r5 kt_wm20) (kt_wf1 (kt_wp_X10_again__X10_again_r5 kt_wm21) (kt_wf1 (kt_wp_X10_again__X10_again_r5 kt_wm22) (kt_wf1 (kt_wp_X10_again__X10_again_r5 kt_wm23) (kt_wf1 (kt_wp_X10_again__X10_again_r6 kt_wm0) (kt_wf1 (kt_wp_X10_again__X10_again_r6 kt_wm1) (kt_wf1 (kt_wp_X10_again__X10_again_r6 kt_wm2) (kt_wf1 (kt_wp_X10_again__X10_again_r6 kt_wm3) (kt_wf1 (kt_wp_X10_again__X10_again_r6 kt_wm4) kt_wf0)))))))))))))))))))))))) (kt_wf1 (kt_wp_X10_again__X10_again_r6 kt_wm5) (kt_wf1 (kt_wp_X10_again__X10_again_r6 kt_wm6) (kt_wf1 (kt_wp_X10_again__X10_again_r6 kt_wm7) kt_wf0)))))))) (fun _ h => kt_wp_X10_again__X40 h)) (fun _ h => kt_wp_X10_again__X30 h)) (fun _ h => kt_wp_X10_again__X60 h)) (fun _ h => kt_wp_X10_again__X80 h)) (fun _ h => kt_wp_X10_again__X00 h)) (fun _ h => kt_wp_X10_again__X10 h))) kt_wg_X4_redo
set_option maxRecDepth 20000 in
theorem gX10_again_X4_redo : GoodIn wsX10_again (wsV RX10 184 RX4 yX4_redo wsX4_redo) := goodIn_app (a := [.methodLink RX10 184 yX4_redo, .instanceMethod yX4_redo, .selects RX4 yX4_redo yX4_redo, .initialized RX4]) (goodIn_sub (kt_wf1 (kt_wp_X10_again__X10_again_r1 kt_wm1) (kt_wf1 (kt_wp_X10_again__X10_again_r1 kt_wm2) (kt_wf1 (kt_wp_X10_again__X10_again_r1 kt_wm3) (kt_wf1 (kt_wp_X10_again__X10_again_r1 kt_wm4) kt_wf0)))) (by decide +kernel)) ggX10_again_X4_redo
theorem sX10_again_0 : kt_sg cX10_again 0 [42, 180, 0, 37, 182, 0, 184, 172] = true := by decide +kernel
theorem dX10_again_0 : decode cX10_again 0 = .ok (.aload_n 0, 1) := kt_o42 (j := 0) sX10_again_0 rfl
theorem dX10_again_1 : decode cX10_again 1 = .ok (.getfield 37, 3) := kt_o180 (j := 1) sX10_again_0 rfl rfl
theorem dX10_again_4 : decode cX10_again 4 = .ok (.invokevirtual 184, 3) := kt_o182 (j := 4) sX10_again_0 rfl rfl
theorem dX10_again_7 : decode cX10_again 7 = .ok (.ireturn, 1) := kt_o172 (j := 7) sX10_again_0 rfl
theorem kt_wp_X10_solve__X10_solve_r1 {w : Cond} (h : w ∈ wsX10_solve_r1) : w ∈ wsX10_solve := List.mem_cons_of_mem _ (List.mem_append_left _ (List.mem_append_left _ (List.mem_append_left _ (List.mem_append_left _ (List.mem_append_left _ (List.mem_append_left _ (List.mem_append_left _ (List.mem_append_left _ (List.mem_append_left _ (h))))))))))
theorem kt_wp_X10_solve__X10_solve_r2 {w : Cond} (h : w ∈ wsX10_solve_r2) : w ∈ wsX10_solve := List.mem_cons_of_mem _ (List.mem_append_left _ (List.mem_append_left _ (List.mem_append_left _ (List.mem_append_left _ (List.mem_append_left _ (List.mem_append_left _ (List.mem_append_left _ (List.mem_append_left _ (List.mem_append_right _ (List.mem_append_left _ (h)))))))))))
theorem kt_wp_X10_solve__X10_solve_r3 {w : Cond} (h : w ∈ wsX10_solve_r3) : w ∈ wsX10_solve := List.mem_cons_of_mem _ (List.mem_append_left _ (List.mem_append_left _ (List.mem_append_left _ (List.mem_append_left _ (List.mem_append_left _ (List.mem_append_left _ (List.mem_append_left _ (List.mem_append_left _ (List.mem_append_right _ (List.mem_append_right _ (List.mem_append_left _ (h))))))))))))
theorem kt_wp_X10_solve__X10_solve_r4 {w : Cond} (h : w ∈ wsX10_solve_r4) : w ∈ wsX10_solve := List.mem_cons_of_mem _ (List.mem_append_left _ (List.mem_append_left _ (List.mem_append_left _ (List.mem_append_left _ (List.mem_append_left _ (List.mem_append_left _ (List.mem_append_left _ (List.mem_append_left _ (List.mem_append_right _ (List.mem_append_right _ (List.mem_append_right _ (List.mem_append_left _ (h)))))))))))))
theorem kt_wp_X10_solve__X10_solve_r5 {w : Cond} (h : w ∈ wsX10_solve_r5) : w ∈ wsX10_solve := List.mem_cons_of_mem _ (List.mem_append_left _ (List.mem_append_left _ (List.mem_append_left _ (List.mem_append_left _ (List.mem_append_left _ (List.mem_append_left _ (List.mem_append_left _ (List.mem_append_left _ (List.mem_append_right _ (List.mem_append_right _ (List.mem_append_right _ (List.mem_append_right _ (List.mem_append_left _ (h))))))))))))))
theorem kt_wp_X10_solve__X10_solve_r6 {w : Cond} (h : w ∈ wsX10_solve_r6) : w ∈ wsX10_solve := List.mem_cons_of_mem _ (List.mem_append_left _ (List.mem_append_left _ (List.mem_append_left _ (List.mem_append_left _ (List.mem_append_left _ (List.mem_append_left _ (List.mem_append_left _ (List.mem_append_left _ (List.mem_append_right _ (List.mem_append_right _ (List.mem_append_right _ (List.mem_append_right _ (List.mem_append_right _ (List.mem_append_left _ (h)))))))))))))))
theorem kt_wp_X10_solve__X10_solve_r7 {w : Cond} (h : w ∈ wsX10_solve_r7) : w ∈ wsX10_solve := List.mem_cons_of_mem _ (List.mem_append_left _ (List.mem_append_left _ (List.mem_append_left _ (List.mem_append_left _ (List.mem_append_left _ (List.mem_append_left _ (List.mem_append_left _ (List.mem_append_left _ (List.mem_append_right _ (List.mem_append_right _ (List.mem_append_right _ (List.mem_append_right _ (List.mem_append_right _ (List.mem_append_right _ (List.mem_append_left _ (h))))))))))))))))
theorem kt_wp_X10_solve__X10_solve_r8 {w : Cond} (h : w ∈ wsX10_solve_r8) : w ∈ wsX10_solve := List.mem_cons_of_mem _ (List.mem_append_left _ (List.mem_append_left _ (List.mem_append_left _ (List.mem_append_left _ (List.mem_append_left _ (List.mem_append_left _ (List.mem_append_left _ (List.mem_append_left _ (List.mem_append_right _ (List.mem_append_right _ (List.mem_append_right _ (List.mem_append_right _ (List.mem_append_right _ (List.mem_append_right _ (List.mem_append_right _ (h))))))))))))))))
theorem kt_wp_X10_solve__X100 {w : Cond} (h : w ∈ wsX100) : w ∈ wsX10_solve := List.mem_cons_of_mem _ (List.mem_append_left _ (List.mem_append_left _ (List.mem_append_left _ (List.mem_append_left _ (List.mem_append_left _ (List.mem_append_left _ (List.mem_append_left _ (List.mem_append_right _ (h)))))))))
theorem kt_wp_X10_solve__X40 {w : Cond} (h : w ∈ wsX40) : w ∈ wsX10_solve := List.mem_cons_of_mem _ (List.mem_append_left _ (List.mem_append_left _ (List.mem_append_left _ (List.mem_append_left _ (List.mem_append_left _ (List.mem_append_left _ (List.mem_append_right _ (h))))))))
theorem kt_wp_X10_solve__X70 {w : Cond} (h : w ∈ wsX70) : w ∈ wsX10_solve := List.mem_cons_of_mem _ (List.mem_append_left _ (List.mem_append_left _ (List.mem_append_left _ (List.mem_append_left _ (List.mem_append_left _ (List.mem_append_right _ (h)))))))
theorem kt_wp_X10_solve__X60 {w : Cond} (h : w ∈ wsX60) : w ∈ wsX10_solve := List.mem_cons_of_mem _ (List.mem_append_left _ (List.mem_append_left _ (List.mem_append_left _ (List.mem_append_left _ (List.mem_append_right _ (h))))))
theorem kt_wp_X10_solve__X00 {w : Cond} (h : w ∈ wsX00) : w ∈ wsX10_solve := List.mem_cons_of_mem _ (List.mem_append_left _ (List.mem_append_left _ (List.mem_append_left _ (List.mem_append_right _ (h)))))
theorem kt_wp_X10_solve__X20 {w : Cond} (h : w ∈ wsX20) : w ∈ wsX10_solve := List.mem_cons_of_mem _ (List.mem_append_left _ (List.mem_append_left _ (List.mem_append_right _ (h))))
theorem kt_wp_X10_solve__X80 {w : Cond} (h : w ∈ wsX80) : w ∈ wsX10_solve := List.mem_cons_of_mem _ (List.mem_append_left _ (List.mem_append_right _ (h)))
theorem kt_wp_X10_solve__X10 {w : Cond} (h : w ∈ wsX10) : w ∈ wsX10_solve := List.mem_cons_of_mem _ (List.mem_append_right _ (h))
set_option maxRecDepth 20000 in
theorem ggX10_solve_X4_isThere : GoodIn wsX10_solve wsX4_isThere := goodIn_sub (kt_wf1 (kt_wp_X10_solve__X10_solve_r1 kt_wm6) (kt_wfa (kt_wf1 (kt_wp_X10_solve__X10_solve_r1 kt_wm7) kt_wf0) (fun _ h => kt_wp_X10_solve__X40 h))) kt_wg_X4_isThere
set_option maxRecDepth 20000 in
theorem gX10_solve_X4_isThere : GoodIn wsX10_solve (wsV RX10 64 RX4 yX4_isThere wsX4_isThere) := goodIn_app (a := [.methodLink RX10 64 yX4_isThere, .instanceMethod yX4_isThere, .selects RX4 yX4_isThere yX4_isThere, .initialized RX4]) (goodIn_sub (kt_wf1 (kt_wp_X10_solve__X10_solve_r1 kt_wm2) (kt_wf1 (kt_wp_X10_solve__X10_solve_r1 kt_wm3) (kt_wf1 (kt_wp_X10_solve__X10_solve_r1 kt_wm4) (kt_wf1 (kt_wp_X10_solve__X10_solve_r1 kt_wm5) kt_wf0)))) (by decide +kernel)) ggX10_solve_X4_isThere
set_option maxRecDepth 20000 in
theorem kt_wg_X7_solveAll : wsX7_solveAll.all goodWord = true := by decide +kernel
set_option maxRecDepth 20000 in
theorem ggX10_solve_X7_solveAll : GoodIn wsX10_solve wsX7_solveAll := goodIn_sub (kt_wf1 (kt_wp_X10_solve__X10_solve_r1 kt_wm12) (kt_wfa (kt_wfa (kt_wfa (kt_wfa (kt_wfa (kt_wfa (kt_wfa (kt_wf1 (kt_wp_X10_solve__X10_solve_r1 kt_wm13) (kt_wf1 (kt_wp_X10_solve__X10_solve_r1 kt_wm14) (kt_wf1 (kt_wp_X10_solve__X10_solve_r1 kt_wm15) (kt_wf1 (kt_wp_X10_solve__X10_solve_r1 kt_wm16) (kt_wf1 (kt_wp_X10_solve__X10_solve_r1 kt_wm17) (kt_wf1 (kt_wp_X10_solve__X10_solve_r1 kt_wm18) (kt_wf1 (kt_wp_X10_solve__X10_solve_r1 kt_wm19) (kt_wf1 (kt_wp_X10_solve__X10_solve_r1 kt_wm20) (kt_wf1 (kt_wp_X10_solve__X10_solve_r1 kt_wm21) (kt_wf1 (kt_wp_X10_solve__X10_solve_r1 kt_wm22) (kt_wf1 (kt_wp_X10_solve__X10_solve_r1 kt_wm23) (kt_wf1 (kt_wp_X10_solve__X10_solve_r1 kt_wm11) (kt_wf1 (kt_wp_X10_solve__X10_solve_r2 kt_wm0) (kt_wf1 (kt_wp_X10_solve__X10_solve_r2 kt_wm1) (kt_wf1 (kt_wp_X10_solve__X10_solve_r2 kt_wm2) (kt_wf1 (kt_wp_X10_solve__X10_solve_r2 kt_wm3) (kt_wf1 (kt_wp_X10_solve__X10_solve_r2 kt_wm4) (kt_wf1 (kt_wp_X10_solve__X10_solve_r2 kt_wm5) (kt_wf1 (kt_wp_X10_solve__X10_solve_r2 kt_wm6) (kt_wf1 (kt_wp_X10_solve__X10_solve_r2 kt_wm7) (kt_wf1 (kt_wp_X10_solve__X10_solve_r2 kt_wm8) (kt_wf1 (kt_wp_X10_solve__X10_solve_r2 kt_wm9) (kt_wf1 (kt_wp_X10_solve__X10_solve_r2 kt_wm10) (kt_wf1 (kt_wp_X10_solve__X10_solve_r2 kt_wm11) kt_wf0)))))))))))))))))))))))) (kt_wfa (kt_wf1 (kt_wp_X10_solve__X10_solve_r2 kt_wm12) (kt_wf1 (kt_wp_X10_solve__X10_solve_r2 kt_wm13) (kt_wf1 (kt_wp_X10_solve__X10_solve_r2 kt_wm14) (kt_wf1 (kt_wp_X10_solve__X10_solve_r2 kt_wm15) (kt_wf1 (kt_wp_X10_solve__X10_solve_r2 kt_wm16) (kt_wf1 (kt_wp_X10_solve__X10_solve_r2 kt_wm17) (kt_wf1 (kt_wp_X10_solve__X10_solve_r2 kt_wm18) (kt_wf1 (kt_wp_X10_solve__X10_solve_r2 kt_wm19) (kt_wf1 (kt_wp_X10_solve__X10_solve_r2 kt_wm20) (kt_wf1 (kt_wp_X10_solve__X10_solve_r2 kt_wm21) (kt_wf1 (kt_wp_X10_solve__X10_solve_r2 kt_wm22) (kt_wf1 (kt_wp_X10_solve__X10_solve_r2 kt_wm23) (kt_wf1 (kt_wp_X10_solve__X10_solve_r3 kt_wm0) (kt_wf1 (kt_wp_X10_solve__X10_solve_r3 kt_wm1) (kt_wf1 (kt_wp_X10_solve__X10_solve_r3 kt_wm2) (kt_wf1 (kt_wp_X10_solve__X10_solve_r3 kt_wm3) (kt_wf1 (kt_wp_X10_solve__X10_solve_r3 kt_wm4) (kt_wf1 (kt_wp_X10_solve__X10_solve_r3 kt_wm5) (kt_wf1 (kt_wp_X10_solve__X10_solve_r3 kt_wm6) (kt_wf1 (kt_wp_X10_solve__X10_solve_r3 kt_wm7) (kt_wf1 (kt_wp_X10_solve__X10_solve_r3 kt_wm8) (kt_wf1 (kt_wp_X10_solve__X10_solve_r3 kt_wm9) (kt_wf1 (kt_wp_X10_solve__X10_solve_r3 kt_wm10) (kt_wf1 (kt_wp_X10_solve__X10_solve_r3 kt_wm11) kt_wf0)))))))))))))))))))))))) (kt_wfa (kt_wf1 (kt_wp_X10_solve__X10_solve_r3 kt_wm12) (kt_wf1 (kt_wp_X10_solve__X10_solve_r3 kt_wm13) (kt_wf1 (kt_wp_X10_solve__X10_solve_r3 kt_wm14) (kt_wf1 (kt_wp_X10_solve__X10_solve_r3 kt_wm15) (kt_wf1 (kt_wp_X10_solve__X10_solve_r3 kt_wm16) (kt_wf1 (kt_wp_X10_solve__X10_solve_r3 kt_wm17) (kt_wf1 (kt_wp_X10_solve__X10_solve_r3 kt_wm18) (kt_wf1 (kt_wp_X10_solve__X10_solve_r3 kt_wm19) (kt_wf1 (kt_wp_X10_solve__X10_solve_r3 kt_wm20) (kt_wf1 (kt_wp_X10_solve__X10_solve_r3 kt_wm21) (kt_wf1 (kt_wp_X10_solve__X10_solve_r3 kt_wm22) (kt_wf1 (kt_wp_X10_solve__X10_solve_r3 kt_wm23) (kt_wf1 (kt_wp_X10_solve__X10_solve_r4 kt_wm0) (kt_wf1 (kt_wp_X10_solve__X10_solve_r4 kt_wm1) (kt_wf1 (kt_wp_X10_solve__X10_solve_r4 kt_wm2) (kt_wf1 (kt_wp_X10_solve__X10_solve_r4 kt_wm3) (kt_wf1 (kt_wp_X10_solve__X10_solve_r4 kt_wm4) (kt_wf1 (kt_wp_X10_solve__X10_solve_r4 kt_wm5) (kt_wf1 (kt_wp_X10_solve__X10_solve_r4 kt_wm6) (kt_wf1 (kt_wp_X10_solve__X10_solve_r4 kt_wm7) (kt_wf1 (kt_wp_X10_solve__X10_solve_r4 kt_wm8) (kt_wf1 (kt_wp_X10_solve__X10_solve_r4 kt_wm9) (kt_wf1 (kt_wp_X10_solve__X10_solve_r4 kt_wm10) (kt_wf1 (kt_wp_X10_solve__X10_solve_r4 kt_wm11) kt_wf0)))))))))))))))))))))))) (kt_wfa (kt_wf1 (kt_wp_X10_solve__X10_solve_r4 kt_wm12) (kt_wf1 (kt_wp_X10_solve__X10_solve_r4 kt_wm13) (kt_wf1 (kt_wp_X10_solve__X10_solve_r4 kt_wm14) (kt_wf1 (kt_wp_X10_solve__X10_solve_r4 kt_wm15) (kt_wf1 (kt_wp_X10_solve__X10_solve_r4 kt_wm16) (kt_wf1 (kt_wp_X10_solve__X10_solve_r4 kt_wm17) (kt_wf1 (kt_wp_X10_solve__X10_solve_r4 kt_wm18) (kt_wf1 (kt_wp_X10_solve__X10_solve_r4 kt_wm19) (kt_wf1 (kt_wp_X10_solve__X10_solve_r4 kt_wm20) (kt_wf1 (kt_wp_X10_solve__X10_solve_r4 kt_wm21) (kt_wf1 (kt_wp_X10_solve__X10_solve_r4 kt_wm22) (kt_wf1 (kt_wp_X10_solve__X10_solve_r4 kt_wm23) (kt_wf1 (kt_wp_X10_solve__X10_solve_r5 kt_wm0) (kt_wf1 (kt_wp_X10_solve__X10_solve_r5 kt_wm1) (kt_wf1 (kt_wp_X10_solve__X10_solve_r5 kt_wm2) (kt_wf1 (kt_wp_X10_solve__X10_solve_r5 kt_wm3) (kt_wf1 (kt_wp_X10_solve__X10_solve_r5 kt_wm4) (kt_wf1 (kt_wp_X10_solve__X10_solve_r5 kt_wm5) (kt_wf1 (kt_wp_X10_solve__X10_solve_r5 kt_wm6) (kt_wf1 (kt_wp_X10_solve__X10_solve_r5 kt_wm7) (kt_wf1 (kt_wp_X10_solve__X10_solve_r5 kt_wm8) (kt_wf1 (kt_wp_X10_solve__X10_solve_r5 kt_wm9) (kt_wf1 (kt_wp_X10_solve__X10_solve_r5 kt_wm10) (kt_wf1 (kt_wp_X10_solve__X10_solve_r5 kt_wm11) kt_wf0)))))))))))))))))))))))) (kt_wfa (kt_wf1 (kt_wp_X10_solve__X10_solve_r5 kt_wm12) (kt_wf1 (kt_wp_X10_solve__X10_solve_r5 kt_wm13) (kt_wf1 (kt_wp_X10_solve__X10_solve_r5 kt_wm14) (kt_wf1 (kt_wp_X10_solve__X10_solve_r5 kt_wm15) (kt_wf1 (kt_wp_X10_solve__X10_solve_r5 kt_wm16) (kt_wf1 (kt_wp_X10_solve__X10_solve_r5 kt_wm17) (kt_wf1 (kt_wp_X10_solve__X10_solve_r5 kt_wm18) (kt_wf1 (kt_wp_X10_solve__X10_solve_r5 kt_wm19) (kt_wf1 (kt_wp_X10_solve__X10_solve_r5 kt_wm20) (kt_wf1 (kt_wp_X10_solve__X10_solve_r5 kt_wm21) (kt_wf1 (kt_wp_X10_solve__X10_solve_r5 kt_wm22) (kt_wf1 (kt_wp_X10_solve__X10_solve_r5 kt_wm23) (kt_wf1 (kt_wp_X10_solve__X10_solve_r6 kt_wm0) (kt_wf1 (kt_wp_X10_solve__X10_solve_r6 kt_wm1) (kt_wf1 (kt_wp_X10_solve__X10_solve_r6 kt_wm2) (kt_wf1 (kt_wp_X10_solve__X10_solve_r6 kt_wm3) (kt_wf1 (kt_wp_X10_solve__X10_solve_r6 kt_wm4) (kt_wf1 (kt_wp_X10_solve__X10_solve_r6 kt_wm5) (kt_wf1 (kt_wp_X10_solve__X10_solve_r6 kt_wm6) (kt_wf1 (kt_wp_X10_solve__X10_solve_r6 kt_wm7) (kt_wf1 (kt_wp_X10_solve__X10_solve_r6 kt_wm8) (kt_wf1 (kt_wp_X10_solve__X10_solve_r6 kt_wm9) (kt_wf1 (kt_wp_X10_solve__X10_solve_r6 kt_wm10) (kt_wf1 (kt_wp_X10_solve__X10_solve_r6 kt_wm11) kt_wf0)))))))))))))))))))))))) (kt_wfa (kt_wf1 (kt_wp_X10_solve__X10_solve_r6 kt_wm12) (kt_wf1 (kt_wp_X10_solve__X10_solve_r6 kt_wm13) (kt_wf1 (kt_wp_X10_solve__X10_solve_r6 kt_wm14) (kt_wf1 (kt_wp_X10_solve__X10_solve_r6 kt_wm15) (kt_wf1 (kt_wp_X10_solve__X10_solve_r6 kt_wm16) (kt_wf1 (kt_wp_X10_solve__X10_solve_r6 kt_wm17) (kt_wf1 (kt_wp_X10_solve__X10_solve_r6 kt_wm18) (kt_wf1 (kt_wp_X10_solve__X10_solve_r6 kt_wm19) (kt_wf1 (kt_wp_X10_solve__X10_solve_r6 kt_wm20) (kt_wf1 (kt_wp_X10_solve__X10_solve_r6 kt_wm21) (kt_wf1 (kt_wp_X10_solve__X10_solve_r6 kt_wm22) (kt_wf1 (kt_wp_X10_solve__X10_solve_r6 kt_wm23) (kt_wf1 (kt_wp_X10_solve__X10_solve_r7 kt_wm0) (kt_wf1 (kt_wp_X10_solve__X10_solve_r7 kt_wm1) (kt_wf1 (kt_wp_X10_solve__X10_solve_r7 kt_wm2) (kt_wf1 (kt_wp_X10_solve__X10_solve_r7 kt_wm3) (kt_wf1 (kt_wp_X10_solve__X10_solve_r7 kt_wm4) (kt_wf1 (kt_wp_X10_solve__X10_solve_r7 kt_wm5) (kt_wf1 (kt_wp_X10_solve__X10_solve_r7 kt_wm6) (kt_wf1 (kt_wp_X10_solve__X10_solve_r7 kt_wm7) (kt_wf1 (kt_wp_X10_solve__X10_solve_r7 kt_wm8) (kt_wf1 (kt_wp_X10_solve__X10_solve_r7 kt_wm9) (kt_wf1 (kt_wp_X10_solve__X10_solve_r7 kt_wm10) (kt_wf1 (kt_wp_X10_solve__X10_solve_r7 kt_wm11) kt_wf0)))))))))))))))))))))))) (kt_wfa (kt_wf1 (kt_wp_X10_solve__X10_solve_r7 kt_wm12) (kt_wf1 (kt_wp_X10_solve__X10_solve_r7 kt_wm13) (kt_wf1 (kt_wp_X10_solve__X10_solve_r7 kt_wm14) (kt_wf1 (kt_wp_X10_solve__X10_solve_r7 kt_wm15) (kt_wf1 (kt_wp_X10_solve__X10_solve_r7 kt_wm16) (kt_wf1 (kt_wp_X10_solve__X10_solve_r7 kt_wm17) (kt_wf1 (kt_wp_X10_solve__X10_solve_r7 kt_wm18) (kt_wf1 (kt_wp_X10_solve__X10_solve_r7 kt_wm19) (kt_wf1 (kt_wp_X10_solve__X10_solve_r7 kt_wm20) (kt_wf1 (kt_wp_X10_solve__X10_solve_r7 kt_wm21) (kt_wf1 (kt_wp_X10_solve__X10_solve_r7 kt_wm22) (kt_wf1 (kt_wp_X10_solve__X10_solve_r7 kt_wm23) (kt_wf1 (kt_wp_X10_solve__X10_solve_r8 kt_wm0) (kt_wf1 (kt_wp_X10_solve__X10_solve_r8 kt_wm1) (kt_wf1 (kt_wp_X10_solve__X10_solve_r8 kt_wm2) (kt_wf1 (kt_wp_X10_solve__X10_solve_r8 kt_wm3) (kt_wf1 (kt_wp_X10_solve__X10_solve_r8 kt_wm4) (kt_wf1 (kt_wp_X10_solve__X10_solve_r8 kt_wm5) (kt_wf1 (kt_wp_X10_solve__X10_solve_r8 kt_wm6) (kt_wf1 (kt_wp_X10_solve__X10_solve_r8 kt_wm7) (kt_wf1 (kt_wp_X10_solve__X10_solve_r8 kt_wm8) (kt_wf1 (kt_wp_X10_solve__X10_solve_r8 kt_wm9) (kt_wf1 (kt_wp_X10_solve__X10_solve_r8 kt_wm10) (kt_wf1 (kt_wp_X10_solve__X10_solve_r8 kt_wm11) kt_wf0)))))))))))))))))))))))) (kt_wf1 (kt_wp_X10_solve__X10_solve_r8 kt_wm12) (kt_wf1 (kt_wp_X10_solve__X10_solve_r8 kt_wm13) (kt_wf1 (kt_wp_X10_solve__X10_solve_r8 kt_wm14) (kt_wf1 (kt_wp_X10_solve__X10_solve_r8 kt_wm15) (kt_wf1 (kt_wp_X10_solve__X10_solve_r8 kt_wm16) (kt_wf1 (kt_wp_X10_solve__X10_solve_r8 kt_wm17) (kt_wf1 (kt_wp_X10_solve__X10_solve_r8 kt_wm18) (kt_wf1 (kt_wp_X10_solve__X10_solve_r8 kt_wm19) kt_wf0))))))))))))))) (fun _ h => kt_wp_X10_solve__X70 h)) (fun _ h => kt_wp_X10_solve__X60 h)) (fun _ h => kt_wp_X10_solve__X00 h)) (fun _ h => kt_wp_X10_solve__X20 h)) (fun _ h => kt_wp_X10_solve__X80 h)) (fun _ h => kt_wp_X10_solve__X10 h))) kt_wg_X7_solveAll
set_option maxRecDepth 20000 in
theorem gX10_solve_X7_solveAll : GoodIn wsX10_solve (wsV RX10 187 RX7 yX7_solveAll wsX7_solveAll) := goodIn_app (a := [.methodLink RX10 187 yX7_solveAll, .instanceMethod yX7_solveAll, .selects RX7 yX7_solveAll yX7_solveAll, .initialized RX7]) (goodIn_sub (kt_wf1 (kt_wp_X10_solve__X10_solve_r1 kt_wm8) (kt_wf1 (kt_wp_X10_solve__X10_solve_r1 kt_wm9) (kt_wf1 (kt_wp_X10_solve__X10_solve_r1 kt_wm10) (kt_wf1 (kt_wp_X10_solve__X10_solve_r1 kt_wm11) kt_wf0)))) (by decide +kernel)) ggX10_solve_X7_solveAll
theorem sX10_solve_0 : kt_sg cX10_solve 0 [42, 180, 0, 37, 182, 0, 64, 153, 0, 13, 42, 180, 0, 53, 182, 0, 187, 167, 0, 4, 2, 172] = true := by decide +kernel
theorem dX10_solve_0 : decode cX10_solve 0 = .ok (.aload_n 0, 1) := kt_o42 (j := 0) sX10_solve_0 rfl
theorem dX10_solve_1 : decode cX10_solve 1 = .ok (.getfield 37, 3) := kt_o180 (j := 1) sX10_solve_0 rfl rfl
theorem dX10_solve_4 : decode cX10_solve 4 = .ok (.invokevirtual 64, 3) := kt_o182 (j := 4) sX10_solve_0 rfl rfl
theorem dX10_solve_7 : decode cX10_solve 7 = .ok (.ifCond .eq 13, 3) := kt_o153 (j := 7) sX10_solve_0 rfl (by decide +kernel)
theorem dX10_solve_10 : decode cX10_solve 10 = .ok (.aload_n 0, 1) := kt_o42 (j := 10) sX10_solve_0 rfl
theorem dX10_solve_11 : decode cX10_solve 11 = .ok (.getfield 53, 3) := kt_o180 (j := 11) sX10_solve_0 rfl rfl
theorem dX10_solve_14 : decode cX10_solve 14 = .ok (.invokevirtual 187, 3) := kt_o182 (j := 14) sX10_solve_0 rfl rfl
theorem dX10_solve_17 : decode cX10_solve 17 = .ok (.goto 4, 3) := kt_o167 (j := 17) sX10_solve_0 rfl (by decide +kernel)
theorem dX10_solve_20 : decode cX10_solve 20 = .ok (.iconst (-1), 1) := kt_o2 (j := 20) sX10_solve_0 rfl
theorem dX10_solve_21 : decode cX10_solve 21 = .ok (.ireturn, 1) := kt_o172 (j := 21) sX10_solve_0 rfl
theorem kt_wp_X10_worth__X100 {w : Cond} (h : w ∈ wsX100) : w ∈ wsX10_worth := List.mem_cons_of_mem _ (List.mem_append_left _ (List.mem_append_left _ (List.mem_append_left _ (List.mem_append_left _ (List.mem_append_left _ (List.mem_append_right _ (h)))))))
theorem kt_wp_X10_worth__X40 {w : Cond} (h : w ∈ wsX40) : w ∈ wsX10_worth := List.mem_cons_of_mem _ (List.mem_append_left _ (List.mem_append_left _ (List.mem_append_left _ (List.mem_append_left _ (List.mem_append_right _ (h))))))
theorem kt_wp_X10_worth__X70 {w : Cond} (h : w ∈ wsX70) : w ∈ wsX10_worth := List.mem_cons_of_mem _ (List.mem_append_left _ (List.mem_append_left _ (List.mem_append_left _ (List.mem_append_right _ (h)))))
theorem kt_wp_X10_worth__X60 {w : Cond} (h : w ∈ wsX60) : w ∈ wsX10_worth := List.mem_cons_of_mem _ (List.mem_append_left _ (List.mem_append_left _ (List.mem_append_right _ (h))))
theorem kt_wp_X10_worth__X00 {w : Cond} (h : w ∈ wsX00) : w ∈ wsX10_worth := List.mem_cons_of_mem _ (List.mem_append_left _ (List.mem_append_right _ (h)))
theorem kt_wp_X10_worth__X80 {w : Cond} (h : w ∈ wsX80) : w ∈ wsX10_worth := List.mem_cons_of_mem _ (List.mem_append_right _ (h))
set_option maxRecDepth 20000 in
theorem kt_wg_X7_worthOf : wsX7_worthOf.all goodWord = true := by decide +kernel
set_option maxRecDepth 20000 in
theorem ggX10_worth_X7_worthOf : GoodIn wsX10_worth wsX7_worthOf := goodIn_sub (kt_wf1 (List.mem_cons_of_mem _ (List.mem_append_left _ (List.mem_append_left _ (List.mem_append_left _ (List.mem_append_left _ (List.mem_append_left _ (List.mem_append_left _ (List.mem_cons_of_mem _ (List.mem_cons_of_mem _ (List.mem_cons_of_mem _ (List.mem_cons_of_mem _ (List.mem_cons_of_mem _ (List.mem_cons_of_mem _ (List.Mem.head _)))))))))))))) (kt_wfa (kt_wfa (kt_wfa (kt_wfa (kt_wf1 (List.mem_cons_of_mem _ (List.mem_append_left _ (List.mem_append_left _ (List.mem_append_left _ (List.mem_append_left _ (List.mem_append_left _ (List.mem_append_left _ (List.mem_cons_of_mem _ (List.mem_cons_of_mem _ (List.mem_cons_of_mem _ (List.mem_cons_of_mem _ (List.mem_cons_of_mem _ (List.mem_cons_of_mem _ (List.mem_cons_of_mem _ (List.Mem.head _))))))))))))))) (kt_wf1 (List.mem_cons_of_mem _ (List.mem_append_left _ (List.mem_append_left _ (List.mem_append_left _ (List.mem_append_left _ (List.mem_append_left _ (List.mem_append_left _ (List.mem_cons_of_mem _ (List.mem_cons_of_mem _ (List.mem_cons_of_mem _ (List.mem_cons_of_mem _ (List.mem_cons_of_mem _ (List.mem_cons_of_mem _ (List.mem_cons_of_mem _ (List.mem_cons_of_mem _ (List.Mem.head _)))))))))))))))) (kt_wf1 (List.mem_cons_of_mem _ (List.mem_append_left _ (List.mem_append_left _ (List.mem_append_left _ (List.mem_append_left _ (List.mem_append_left _ (List.mem_append_left _ (List.mem_cons_of_mem _ (List.mem_cons_of_mem _ (List.mem_cons_of_mem _ (List.mem_cons_of_mem _ (List.mem_cons_of_mem _ (List.mem_cons_of_mem _ (List.mem_cons_of_mem _ (List.mem_cons_of_mem _ (List.mem_cons_of_mem _ (List.Mem.head _))))))))))))))))) (kt_wf1 (List.mem_cons_of_mem _ (List.mem_append_left _ (List.mem_append_left _ (List.mem_append_left _ (List.mem_append_left _ (List.mem_append_left _ (List.mem_append_left _ (List.mem_cons_of_mem _ (List.mem_cons_of_mem _ (List.mem_cons_of_mem _ (List.mem_cons_of_mem _ (List.mem_cons_of_mem _ (List.mem_cons_of_mem _ (List.mem_cons_of_mem _ (List.mem_cons_of_mem _ (List.mem_cons_of_mem _ (List.mem_cons_of_mem _ (List.Mem.head _)))))))))))))))))) (kt_wf1 (List.mem_cons_of_mem _ (List.mem_append_left _ (List.mem_append_left _ (List.mem_append_left _ (List.mem_append_left _ (List.mem_append_left _ (List.mem_append_left _ (List.mem_cons_of_mem _ (List.mem_cons_of_mem _ (List.mem_cons_of_mem _ (List.mem_cons_of_mem _ (List.mem_cons_of_mem _ (List.Mem.head _))))))))))))) (kt_wf1 (List.mem_cons_of_mem _ (List.mem_append_left _ (List.mem_append_left _ (List.mem_append_left _ (List.mem_append_left _ (List.mem_append_left _ (List.mem_append_left _ (List.mem_cons_of_mem _ (List.mem_cons_of_mem _ (List.mem_cons_of_mem _ (List.mem_cons_of_mem _ (List.mem_cons_of_mem _ (List.mem_cons_of_mem _ (List.mem_cons_of_mem _ (List.mem_cons_of_mem _ (List.mem_cons_of_mem _ (List.mem_cons_of_mem _ (List.mem_cons_of_mem _ (List.Mem.head _))))))))))))))))))) (kt_wf1 (List.mem_cons_of_mem _ (List.mem_append_left _ (List.mem_append_left _ (List.mem_append_left _ (List.mem_append_left _ (List.mem_append_left _ (List.mem_append_left _ (List.mem_cons_of_mem _ (List.mem_cons_of_mem _ (List.mem_cons_of_mem _ (List.mem_cons_of_mem _ (List.mem_cons_of_mem _ (List.mem_cons_of_mem _ (List.mem_cons_of_mem _ (List.mem_cons_of_mem _ (List.mem_cons_of_mem _ (List.mem_cons_of_mem _ (List.mem_cons_of_mem _ (List.mem_cons_of_mem _ (List.Mem.head _)))))))))))))))))))) (kt_wf1 (List.mem_cons_of_mem _ (List.mem_append_left _ (List.mem_append_left _ (List.mem_append_left _ (List.mem_append_left _ (List.mem_append_left _ (List.mem_append_left _ (List.mem_cons_of_mem _ (List.mem_cons_of_mem _ (List.mem_cons_of_mem _ (List.mem_cons_of_mem _ (List.mem_cons_of_mem _ (List.mem_cons_of_mem _ (List.mem_cons_of_mem _ (List.mem_cons_of_mem _ (List.mem_cons_of_mem _ (List.mem_cons_of_mem _ (List.mem_cons_of_mem _ (List.mem_cons_of_mem _ (List.mem_cons_of_mem _ (List.Mem.head _))))))))))))))))))))) (kt_wf1 (List.mem_cons_of_mem _ (List.mem_append_left _ (List.mem_append_left _ (List.mem_append_left _ (List.mem_append_left _ (List.mem_append_left _ (List.mem_append_left _ (List.mem_cons_of_mem _ (List.mem_cons_of_mem _ (List.mem_cons_of_mem _ (List.mem_cons_of_mem _ (List.mem_cons_of_mem _ (List.mem_cons_of_mem _ (List.mem_cons_of_mem _ (List.mem_cons_of_mem _ (List.mem_cons_of_mem _ (List.mem_cons_of_mem _ (List.mem_cons_of_mem _ (List.mem_cons_of_mem _ (List.mem_cons_of_mem _ (List.mem_cons_of_mem _ (List.Mem.head _)))))))))))))))))))))) (kt_wf1 (List.mem_cons_of_mem _ (List.mem_append_left _ (List.mem_append_left _ (List.mem_append_left _ (List.mem_append_left _ (List.mem_append_left _ (List.mem_append_left _ (List.mem_cons_of_mem _ (List.mem_cons_of_mem _ (List.mem_cons_of_mem _ (List.mem_cons_of_mem _ (List.mem_cons_of_mem _ (List.mem_cons_of_mem _ (List.mem_cons_of_mem _ (List.mem_cons_of_mem _ (List.mem_cons_of_mem _ (List.mem_cons_of_mem _ (List.mem_cons_of_mem _ (List.mem_cons_of_mem _ (List.mem_cons_of_mem _ (List.mem_cons_of_mem _ (List.mem_cons_of_mem _ (List.Mem.head _))))))))))))))))))))))) (kt_wf1 (List.mem_cons_of_mem _ (List.mem_append_left _ (List.mem_append_left _ (List.mem_append_left _ (List.mem_append_left _ (List.mem_append_left _ (List.mem_append_left _ (List.mem_cons_of_mem _ (List.mem_cons_of_mem _ (List.mem_cons_of_mem _ (List.mem_cons_of_mem _ (List.mem_cons_of_mem _ (List.mem_cons_of_mem _ (List.mem_cons_of_mem _ (List.mem_cons_of_mem _ (List.mem_cons_of_mem _ (List.mem_cons_of_mem _ (List.mem_cons_of_mem _ (List.mem_cons_of_mem _ (List.mem_cons_of_mem _ (List.mem_cons_of_mem _ (List.mem_cons_of_mem _ (List.mem_cons_of_mem _ (List.Mem.head _)))))))))))))))))))))))) (kt_wf1 (List.mem_cons_of_mem _ (List.mem_append_left _ (List.mem_append_left _ (List.mem_append_left _ (List.mem_append_left _ (List.mem_append_left _ (List.mem_append_left _ (List.mem_cons_of_mem _ (List.mem_cons_of_mem _ (List.mem_cons_of_mem _ (List.mem_cons_of_mem _ (List.mem_cons_of_mem _ (List.mem_cons_of_mem _ (List.mem_cons_of_mem _ (List.mem_cons_of_mem _ (List.mem_cons_of_mem _ (List.mem_cons_of_mem _ (List.mem_cons_of_mem _ (List.mem_cons_of_mem _ (List.mem_cons_of_mem _ (List.mem_cons_of_mem _ (List.mem_cons_of_mem _ (List.mem_cons_of_mem _ (List.mem_cons_of_mem _ (List.Mem.head _))))))))))))))))))))))))) (kt_wf1 (List.mem_cons_of_mem _ (List.mem_append_left _ (List.mem_append_left _ (List.mem_append_left _ (List.mem_append_left _ (List.mem_append_left _ (List.mem_append_left _ (List.mem_cons_of_mem _ (List.mem_cons_of_mem _ (List.mem_cons_of_mem _ (List.mem_cons_of_mem _ (List.mem_cons_of_mem _ (List.mem_cons_of_mem _ (List.mem_cons_of_mem _ (List.mem_cons_of_mem _ (List.mem_cons_of_mem _ (List.mem_cons_of_mem _ (List.mem_cons_of_mem _ (List.mem_cons_of_mem _ (List.mem_cons_of_mem _ (List.mem_cons_of_mem _ (List.mem_cons_of_mem _ (List.mem_cons_of_mem _ (List.mem_cons_of_mem _ (List.mem_cons_of_mem _ (List.Mem.head _)))))))))))))))))))))))))) (kt_wf1 (List.mem_cons_of_mem _ (List.mem_append_left _ (List.mem_append_left _ (List.mem_append_left _ (List.mem_append_left _ (List.mem_append_left _ (List.mem_append_left _ (List.mem_cons_of_mem _ (List.mem_cons_of_mem _ (List.mem_cons_of_mem _ (List.mem_cons_of_mem _ (List.mem_cons_of_mem _ (List.mem_cons_of_mem _ (List.mem_cons_of_mem _ (List.mem_cons_of_mem _ (List.mem_cons_of_mem _ (List.mem_cons_of_mem _ (List.mem_cons_of_mem _ (List.mem_cons_of_mem _ (List.mem_cons_of_mem _ (List.mem_cons_of_mem _ (List.mem_cons_of_mem _ (List.mem_cons_of_mem _ (List.mem_cons_of_mem _ (List.mem_cons_of_mem _ (List.mem_cons_of_mem _ (List.Mem.head _))))))))))))))))))))))))))) (kt_wf1 (List.mem_cons_of_mem _ (List.mem_append_left _ (List.mem_append_left _ (List.mem_append_left _ (List.mem_append_left _ (List.mem_append_left _ (List.mem_append_left _ (List.mem_cons_of_mem _ (List.mem_cons_of_mem _ (List.mem_cons_of_mem _ (List.mem_cons_of_mem _ (List.mem_cons_of_mem _ (List.mem_cons_of_mem _ (List.mem_cons_of_mem _ (List.mem_cons_of_mem _ (List.mem_cons_of_mem _ (List.mem_cons_of_mem _ (List.mem_cons_of_mem _ (List.mem_cons_of_mem _ (List.mem_cons_of_mem _ (List.mem_cons_of_mem _ (List.mem_cons_of_mem _ (List.mem_cons_of_mem _ (List.mem_cons_of_mem _ (List.mem_cons_of_mem _ (List.mem_cons_of_mem _ (List.mem_cons_of_mem _ (List.Mem.head _)))))))))))))))))))))))))))) (kt_wf1 (List.mem_cons_of_mem _ (List.mem_append_left _ (List.mem_append_left _ (List.mem_append_left _ (List.mem_append_left _ (List.mem_append_left _ (List.mem_append_left _ (List.mem_cons_of_mem _ (List.mem_cons_of_mem _ (List.mem_cons_of_mem _ (List.mem_cons_of_mem _ (List.mem_cons_of_mem _ (List.mem_cons_of_mem _ (List.mem_cons_of_mem _ (List.mem_cons_of_mem _ (List.mem_cons_of_mem _ (List.mem_cons_of_mem _ (List.mem_cons_of_mem _ (List.mem_cons_of_mem _ (List.mem_cons_of_mem _ (List.mem_cons_of_mem _ (List.mem_cons_of_mem _ (List.mem_cons_of_mem _ (List.mem_cons_of_mem _ (List.mem_cons_of_mem _ (List.mem_cons_of_mem _ (List.mem_cons_of_mem _ (List.mem_cons_of_mem _ (List.Mem.head _))))))))))))))))))))))))))))) kt_wf0)))))))))))))))) (fun _ h => kt_wp_X10_worth__X70 h)) (fun _ h => kt_wp_X10_worth__X60 h)) (fun _ h => kt_wp_X10_worth__X00 h)) (fun _ h => kt_wp_X10_worth__X80 h))) kt_wg_X7_worthOf
set_option maxRecDepth 20000 in
theorem gX10_worth_X7_worthOf : GoodIn wsX10_worth (wsV RX10 190 RX7 yX7_worthOf wsX7_worthOf) := goodIn_app (a := [.methodLink RX10 190 yX7_worthOf, .instanceMethod yX7_worthOf, .selects RX7 yX7_worthOf yX7_worthOf, .initialized RX7]) (goodIn_sub (kt_wf1 (List.mem_cons_of_mem _ (List.mem_append_left _ (List.mem_append_left _ (List.mem_append_left _ (List.mem_append_left _ (List.mem_append_left _ (List.mem_append_left _ (List.mem_cons_of_mem _ (List.mem_cons_of_mem _ (List.Mem.head _)))))))))) (kt_wf1 (List.mem_cons_of_mem _ (List.mem_append_left _ (List.mem_append_left _ (List.mem_append_left _ (List.mem_append_left _ (List.mem_append_left _ (List.mem_append_left _ (List.mem_cons_of_mem _ (List.mem_cons_of_mem _ (List.mem_cons_of_mem _ (List.Mem.head _))))))))))) (kt_wf1 (List.mem_cons_of_mem _ (List.mem_append_left _ (List.mem_append_left _ (List.mem_append_left _ (List.mem_append_left _ (List.mem_append_left _ (List.mem_append_left _ (List.mem_cons_of_mem _ (List.mem_cons_of_mem _ (List.mem_cons_of_mem _ (List.mem_cons_of_mem _ (List.Mem.head _)))))))))))) (kt_wf1 (List.mem_cons_of_mem _ (List.mem_append_left _ (List.mem_append_left _ (List.mem_append_left _ (List.mem_append_left _ (List.mem_append_left _ (List.mem_append_left _ (List.mem_cons_of_mem _ (List.mem_cons_of_mem _ (List.mem_cons_of_mem _ (List.mem_cons_of_mem _ (List.mem_cons_of_mem _ (List.Mem.head _))))))))))))) kt_wf0)))) (by decide +kernel)) ggX10_worth_X7_worthOf
theorem sX10_worth_0 : kt_sg cX10_worth 0 [42, 180, 0, 53, 42, 180, 0, 37, 180, 0, 139, 182, 0, 190, 172] = true := by decide +kernel
theorem dX10_worth_0 : decode cX10_worth 0 = .ok (.aload_n 0, 1) := kt_o42 (j := 0) sX10_worth_0 rfl
theorem dX10_worth_1 : decode cX10_worth 1 = .ok (.getfield 53, 3) := kt_o180 (j := 1) sX10_worth_0 rfl rfl
theorem dX10_worth_4 : decode cX10_worth 4 = .ok (.aload_n 0, 1) := kt_o42 (j := 4) sX10_worth_0 rfl
theorem dX10_worth_5 : decode cX10_worth 5 = .ok (.getfield 37, 3) := kt_o180 (j := 5) sX10_worth_0 rfl rfl
theorem dX10_worth_8 : decode cX10_worth 8 = .ok (.getfield 139, 3) := kt_o180 (j := 8) sX10_worth_0 rfl rfl
theorem dX10_worth_11 : decode cX10_worth 11 = .ok (.invokevirtual 190, 3) := kt_o182 (j := 11) sX10_worth_0 rfl rfl
theorem dX10_worth_14 : decode cX10_worth 14 = .ok (.ireturn, 1) := kt_o172 (j := 14) sX10_worth_0 rfl
theorem kt_wp_X10_deep__X100 {w : Cond} (h : w ∈ wsX100) : w ∈ wsX10_deep := List.mem_cons_of_mem _ (List.mem_append_left _ (List.mem_append_left _ (List.mem_append_left _ (List.mem_append_left _ (List.mem_append_left _ (List.mem_append_right _ (h)))))))
theorem kt_wp_X10_deep__X40 {w : Cond} (h : w ∈ wsX40) : w ∈ wsX10_deep := List.mem_cons_of_mem _ (List.mem_append_left _ (List.mem_append_left _ (List.mem_append_left _ (List.mem_append_left _ (List.mem_append_right _ (h))))))
theorem kt_wp_X10_deep__X70 {w : Cond} (h : w ∈ wsX70) : w ∈ wsX10_deep := List.mem_cons_of_mem _ (List.mem_append_left _ (List.mem_append_left _ (List.mem_append_left _ (List.mem_append_right _ (h)))))
theorem kt_wp_X10_deep__X60 {w : Cond} (h : w ∈ wsX60) : w ∈ wsX10_deep := List.mem_cons_of_mem _ (List.mem_append_left _ (List.mem_append_left _ (List.mem_append_right _ (h))))
theorem kt_wp_X10_deep__X00 {w : Cond} (h : w ∈ wsX00) : w ∈ wsX10_deep := List.mem_cons_of_mem _ (List.mem_append_left _ (List.mem_append_right _ (h)))
theorem kt_wp_X10_deep__X80 {w : Cond} (h : w ∈ wsX80) : w ∈ wsX10_deep := List.mem_cons_of_mem _ (List.mem_append_right _ (h))
set_option maxRecDepth 20000 in
theorem kt_wg_X7_deepOf : wsX7_deepOf.all goodWord = true := by decide +kernel
set_option maxRecDepth 20000 in
theorem ggX10_deep_X7_deepOf : GoodIn wsX10_deep wsX7_deepOf := goodIn_sub (kt_wf1 (List.mem_cons_of_mem _ (List.mem_append_left _ (List.mem_append_left _ (List.mem_append_left _ (List.mem_append_left _ (List.mem_append_left _ (List.mem_append_left _ (List.mem_cons_of_mem _ (List.mem_cons_of_mem _ (List.mem_cons_of_mem _ (List.mem_cons_of_mem _ (List.mem_cons_of_mem _ (List.mem_cons_of_mem _ (List.Mem.head _)))))))))))))) (kt_wfa (kt_wfa (kt_wfa (kt_wfa (kt_wf1 (List.mem_cons_of_mem _ (List.mem_append_left _ (List.mem_append_left _ (List.mem_append_left _ (List.mem_append_left _ (List.mem_append_left _ (List.mem_append_left _ (List.mem_cons_of_mem _ (List.mem_cons_of_mem _ (List.mem_cons_of_mem _ (List.mem_cons_of_mem _ (List.mem_cons_of_mem _ (List.mem_cons_of_mem _ (List.mem_cons_of_mem _ (List.Mem.head _))))))))))))))) (kt_wf1 (List.mem_cons_of_mem _ (List.mem_append_left _ (List.mem_append_left _ (List.mem_append_left _ (List.mem_append_left _ (List.mem_append_left _ (List.mem_append_left _ (List.mem_cons_of_mem _ (List.mem_cons_of_mem _ (List.mem_cons_of_mem _ (List.mem_cons_of_mem _ (List.mem_cons_of_mem _ (List.mem_cons_of_mem _ (List.mem_cons_of_mem _ (List.mem_cons_of_mem _ (List.Mem.head _)))))))))))))))) (kt_wf1 (List.mem_cons_of_mem _ (List.mem_append_left _ (List.mem_append_left _ (List.mem_append_left _ (List.mem_append_left _ (List.mem_append_left _ (List.mem_append_left _ (List.mem_cons_of_mem _ (List.mem_cons_of_mem _ (List.mem_cons_of_mem _ (List.mem_cons_of_mem _ (List.mem_cons_of_mem _ (List.mem_cons_of_mem _ (List.mem_cons_of_mem _ (List.mem_cons_of_mem _ (List.mem_cons_of_mem _ (List.Mem.head _))))))))))))))))) (kt_wf1 (List.mem_cons_of_mem _ (List.mem_append_left _ (List.mem_append_left _ (List.mem_append_left _ (List.mem_append_left _ (List.mem_append_left _ (List.mem_append_left _ (List.mem_cons_of_mem _ (List.mem_cons_of_mem _ (List.mem_cons_of_mem _ (List.mem_cons_of_mem _ (List.mem_cons_of_mem _ (List.mem_cons_of_mem _ (List.mem_cons_of_mem _ (List.mem_cons_of_mem _ (List.mem_cons_of_mem _ (List.mem_cons_of_mem _ (List.Mem.head _)))))))))))))))))) (kt_wf1 (List.mem_cons_of_mem _ (List.mem_append_left _ (List.mem_append_left _ (List.mem_append_left _ (List.mem_append_left _ (List.mem_append_left _ (List.mem_append_left _ (List.mem_cons_of_mem _ (List.mem_cons_of_mem _ (List.mem_cons_of_mem _ (List.mem_cons_of_mem _ (List.mem_cons_of_mem _ (List.Mem.head _))))))))))))) (kt_wf1 (List.mem_cons_of_mem _ (List.mem_append_left _ (List.mem_append_left _ (List.mem_append_left _ (List.mem_append_left _ (List.mem_append_left _ (List.mem_append_left _ (List.mem_cons_of_mem _ (List.mem_cons_of_mem _ (List.mem_cons_of_mem _ (List.mem_cons_of_mem _ (List.mem_cons_of_mem _ (List.mem_cons_of_mem _ (List.mem_cons_of_mem _ (List.mem_cons_of_mem _ (List.mem_cons_of_mem _ (List.mem_cons_of_mem _ (List.mem_cons_of_mem _ (List.Mem.head _))))))))))))))))))) (kt_wf1 (List.mem_cons_of_mem _ (List.mem_append_left _ (List.mem_append_left _ (List.mem_append_left _ (List.mem_append_left _ (List.mem_append_left _ (List.mem_append_left _ (List.mem_cons_of_mem _ (List.mem_cons_of_mem _ (List.mem_cons_of_mem _ (List.mem_cons_of_mem _ (List.mem_cons_of_mem _ (List.mem_cons_of_mem _ (List.mem_cons_of_mem _ (List.mem_cons_of_mem _ (List.mem_cons_of_mem _ (List.mem_cons_of_mem _ (List.mem_cons_of_mem _ (List.mem_cons_of_mem _ (List.Mem.head _)))))))))))))))))))) (kt_wf1 (List.mem_cons_of_mem _ (List.mem_append_left _ (List.mem_append_left _ (List.mem_append_left _ (List.mem_append_left _ (List.mem_append_left _ (List.mem_append_left _ (List.mem_cons_of_mem _ (List.mem_cons_of_mem _ (List.mem_cons_of_mem _ (List.mem_cons_of_mem _ (List.mem_cons_of_mem _ (List.mem_cons_of_mem _ (List.mem_cons_of_mem _ (List.mem_cons_of_mem _ (List.mem_cons_of_mem _ (List.mem_cons_of_mem _ (List.mem_cons_of_mem _ (List.mem_cons_of_mem _ (List.mem_cons_of_mem _ (List.Mem.head _))))))))))))))))))))) (kt_wf1 (List.mem_cons_of_mem _ (List.mem_append_left _ (List.mem_append_left _ (List.mem_append_left _ (List.mem_append_left _ (List.mem_append_left _ (List.mem_append_left _ (List.mem_cons_of_mem _ (List.mem_cons_of_mem _ (List.mem_cons_of_mem _ (List.mem_cons_of_mem _ (List.mem_cons_of_mem _ (List.mem_cons_of_mem _ (List.mem_cons_of_mem _ (List.mem_cons_of_mem _ (List.mem_cons_of_mem _ (List.mem_cons_of_mem _ (List.mem_cons_of_mem _ (List.mem_cons_of_mem _ (List.mem_cons_of_mem _ (List.mem_cons_of_mem _ (List.Mem.head _)))))))))))))))))))))) (kt_wf1 (List.mem_cons_of_mem _ (List.mem_append_left _ (List.mem_append_left _ (List.mem_append_left _ (List.mem_append_left _ (List.mem_append_left _ (List.mem_append_left _ (List.mem_cons_of_mem _ (List.mem_cons_of_mem _ (List.mem_cons_of_mem _ (List.mem_cons_of_mem _ (List.mem_cons_of_mem _ (List.mem_cons_of_mem _ (List.mem_cons_of_mem _ (List.mem_cons_of_mem _ (List.mem_cons_of_mem _ (List.mem_cons_of_mem _ (List.mem_cons_of_mem _ (List.mem_cons_of_mem _ (List.mem_cons_of_mem _ (List.mem_cons_of_mem _ (List.mem_cons_of_mem _ (List.Mem.head _))))))))))))))))))))))) (kt_wf1 (List.mem_cons_of_mem _ (List.mem_append_left _ (List.mem_append_left _ (List.mem_append_left _ (List.mem_append_left _ (List.mem_append_left _ (List.mem_append_left _ (List.mem_cons_of_mem _ (List.mem_cons_of_mem _ (List.mem_cons_of_mem _ (List.mem_cons_of_mem _ (List.mem_cons_of_mem _ (List.mem_cons_of_mem _ (List.mem_cons_of_mem _ (List.mem_cons_of_mem _ (List.mem_cons_of_mem _ (List.mem_cons_of_mem _ (List.mem_cons_of_mem _ (List.mem_cons_of_mem _ (List.mem_cons_of_mem _ (List.mem_cons_of_mem _ (List.mem_cons_of_mem _ (List.mem_cons_of_mem _ (List.Mem.head _)))))))))))))))))))))))) (kt_wf1 (List.mem_cons_of_mem _ (List.mem_append_left _ (List.mem_append_left _ (List.mem_append_left _ (List.mem_append_left _ (List.mem_append_left _ (List.mem_append_left _ (List.mem_cons_of_mem _ (List.mem_cons_of_mem _ (List.mem_cons_of_mem _ (List.mem_cons_of_mem _ (List.mem_cons_of_mem _ (List.mem_cons_of_mem _ (List.mem_cons_of_mem _ (List.mem_cons_of_mem _ (List.mem_cons_of_mem _ (List.mem_cons_of_mem _ (List.mem_cons_of_mem _ (List.mem_cons_of_mem _ (List.mem_cons_of_mem _ (List.mem_cons_of_mem _ (List.mem_cons_of_mem _ (List.mem_cons_of_mem _ (List.mem_cons_of_mem _ (List.Mem.head _))))))))))))))))))))))))) (kt_wf1 (List.mem_cons_of_mem _ (List.mem_append_left _ (List.mem_append_left _ (List.mem_append_left _ (List.mem_append_left _ (List.mem_append_left _ (List.mem_append_left _ (List.mem_cons_of_mem _ (List.mem_cons_of_mem _ (List.mem_cons_of_mem _ (List.mem_cons_of_mem _ (List.mem_cons_of_mem _ (List.mem_cons_of_mem _ (List.mem_cons_of_mem _ (List.mem_cons_of_mem _ (List.mem_cons_of_mem _ (List.mem_cons_of_mem _ (List.mem_cons_of_mem _ (List.mem_cons_of_mem _ (List.mem_cons_of_mem _ (List.mem_cons_of_mem _ (List.mem_cons_of_mem _ (List.mem_cons_of_mem _ (List.mem_cons_of_mem _ (List.mem_cons_of_mem _ (List.Mem.head _)))))))))))))))))))))))))) (kt_wf1 (List.mem_cons_of_mem _ (List.mem_append_left _ (List.mem_append_left _ (List.mem_append_left _ (List.mem_append_left _ (List.mem_append_left _ (List.mem_append_left _ (List.mem_cons_of_mem _ (List.mem_cons_of_mem _ (List.mem_cons_of_mem _ (List.mem_cons_of_mem _ (List.mem_cons_of_mem _ (List.mem_cons_of_mem _ (List.mem_cons_of_mem _ (List.mem_cons_of_mem _ (List.mem_cons_of_mem _ (List.mem_cons_of_mem _ (List.mem_cons_of_mem _ (List.mem_cons_of_mem _ (List.mem_cons_of_mem _ (List.mem_cons_of_mem _ (List.mem_cons_of_mem _ (List.mem_cons_of_mem _ (List.mem_cons_of_mem _ (List.mem_cons_of_mem _ (List.mem_cons_of_mem _ (List.Mem.head _))))))))))))))))))))))))))) (kt_wf1 (List.mem_cons_of_mem _ (List.mem_append_left _ (List.mem_append_left _ (List.mem_append_left _ (List.mem_append_left _ (List.mem_append_left _ (List.mem_append_left _ (List.mem_cons_of_mem _ (List.mem_cons_of_mem _ (List.mem_cons_of_mem _ (List.mem_cons_of_mem _ (List.mem_cons_of_mem _ (List.mem_cons_of_mem _ (List.mem_cons_of_mem _ (List.mem_cons_of_mem _ (List.mem_cons_of_mem _ (List.mem_cons_of_mem _ (List.mem_cons_of_mem _ (List.mem_cons_of_mem _ (List.mem_cons_of_mem _ (List.mem_cons_of_mem _ (List.mem_cons_of_mem _ (List.mem_cons_of_mem _ (List.mem_cons_of_mem _ (List.mem_cons_of_mem _ (List.mem_cons_of_mem _ (List.mem_cons_of_mem _ (List.Mem.head _)))))))))))))))))))))))))))) (kt_wf1 (List.mem_cons_of_mem _ (List.mem_append_left _ (List.mem_append_left _ (List.mem_append_left _ (List.mem_append_left _ (List.mem_append_left _ (List.mem_append_left _ (List.mem_cons_of_mem _ (List.mem_cons_of_mem _ (List.mem_cons_of_mem _ (List.mem_cons_of_mem _ (List.mem_cons_of_mem _ (List.mem_cons_of_mem _ (List.mem_cons_of_mem _ (List.mem_cons_of_mem _ (List.mem_cons_of_mem _ (List.mem_cons_of_mem _ (List.mem_cons_of_mem _ (List.mem_cons_of_mem _ (List.mem_cons_of_mem _ (List.mem_cons_of_mem _ (List.mem_cons_of_mem _ (List.mem_cons_of_mem _ (List.mem_cons_of_mem _ (List.mem_cons_of_mem _ (List.mem_cons_of_mem _ (List.mem_cons_of_mem _ (List.mem_cons_of_mem _ (List.Mem.head _))))))))))))))))))))))))))))) kt_wf0)))))))))))))))) (fun _ h => kt_wp_X10_deep__X70 h)) (fun _ h => kt_wp_X10_deep__X60 h)) (fun _ h => kt_wp_X10_deep__X00 h)) (fun _ h => kt_wp_X10_deep__X80 h))) kt_wg_X7_deepOf
set_option maxRecDepth 20000 in
theorem gX10_deep_X7_deepOf : GoodIn wsX10_deep (wsV RX10 194 RX7 yX7_deepOf wsX7_deepOf) := goodIn_app (a := [.methodLink RX10 194 yX7_deepOf, .instanceMethod yX7_deepOf, .selects RX7 yX7_deepOf yX7_deepOf, .initialized RX7]) (goodIn_sub (kt_wf1 (List.mem_cons_of_mem _ (List.mem_append_left _ (List.mem_append_left _ (List.mem_append_left _ (List.mem_append_left _ (List.mem_append_left _ (List.mem_append_left _ (List.mem_cons_of_mem _ (List.mem_cons_of_mem _ (List.Mem.head _)))))))))) (kt_wf1 (List.mem_cons_of_mem _ (List.mem_append_left _ (List.mem_append_left _ (List.mem_append_left _ (List.mem_append_left _ (List.mem_append_left _ (List.mem_append_left _ (List.mem_cons_of_mem _ (List.mem_cons_of_mem _ (List.mem_cons_of_mem _ (List.Mem.head _))))))))))) (kt_wf1 (List.mem_cons_of_mem _ (List.mem_append_left _ (List.mem_append_left _ (List.mem_append_left _ (List.mem_append_left _ (List.mem_append_left _ (List.mem_append_left _ (List.mem_cons_of_mem _ (List.mem_cons_of_mem _ (List.mem_cons_of_mem _ (List.mem_cons_of_mem _ (List.Mem.head _)))))))))))) (kt_wf1 (List.mem_cons_of_mem _ (List.mem_append_left _ (List.mem_append_left _ (List.mem_append_left _ (List.mem_append_left _ (List.mem_append_left _ (List.mem_append_left _ (List.mem_cons_of_mem _ (List.mem_cons_of_mem _ (List.mem_cons_of_mem _ (List.mem_cons_of_mem _ (List.mem_cons_of_mem _ (List.Mem.head _))))))))))))) kt_wf0)))) (by decide +kernel)) ggX10_deep_X7_deepOf
theorem sX10_deep_0 : kt_sg cX10_deep 0 [42, 180, 0, 53, 42, 180, 0, 37, 180, 0, 139, 182, 0, 194, 172] = true := by decide +kernel
theorem dX10_deep_0 : decode cX10_deep 0 = .ok (.aload_n 0, 1) := kt_o42 (j := 0) sX10_deep_0 rfl
theorem dX10_deep_1 : decode cX10_deep 1 = .ok (.getfield 53, 3) := kt_o180 (j := 1) sX10_deep_0 rfl rfl
theorem dX10_deep_4 : decode cX10_deep 4 = .ok (.aload_n 0, 1) := kt_o42 (j := 4) sX10_deep_0 rfl
theorem dX10_deep_5 : decode cX10_deep 5 = .ok (.getfield 37, 3) := kt_o180 (j := 5) sX10_deep_0 rfl rfl
theorem dX10_deep_8 : decode cX10_deep 8 = .ok (.getfield 139, 3) := kt_o180 (j := 8) sX10_deep_0 rfl rfl
theorem dX10_deep_11 : decode cX10_deep 11 = .ok (.invokevirtual 194, 3) := kt_o182 (j := 11) sX10_deep_0 rfl rfl
theorem dX10_deep_14 : decode cX10_deep 14 = .ok (.ireturn, 1) := kt_o172 (j := 14) sX10_deep_0 rfl
theorem kt_wp_X10_best__X10_best_r1 {w : Cond} (h : w ∈ wsX10_best_r1) : w ∈ wsX10_best := List.mem_cons_of_mem _ (List.mem_append_left _ (List.mem_append_left _ (List.mem_append_left _ (List.mem_append_left _ (List.mem_append_left _ (List.mem_append_left _ (List.mem_append_left _ (List.mem_append_left _ (h)))))))))
theorem kt_wp_X10_best__X10_best_r2 {w : Cond} (h : w ∈ wsX10_best_r2) : w ∈ wsX10_best := List.mem_cons_of_mem _ (List.mem_append_left _ (List.mem_append_left _ (List.mem_append_left _ (List.mem_append_left _ (List.mem_append_left _ (List.mem_append_left _ (List.mem_append_left _ (List.mem_append_right _ (List.mem_append_left _ (h))))))))))
theorem kt_wp_X10_best__X10_best_r3 {w : Cond} (h : w ∈ wsX10_best_r3) : w ∈ wsX10_best := List.mem_cons_of_mem _ (List.mem_append_left _ (List.mem_append_left _ (List.mem_append_left _ (List.mem_append_left _ (List.mem_append_left _ (List.mem_append_left _ (List.mem_append_left _ (List.mem_append_right _ (List.mem_append_right _ (List.mem_append_left _ (h)))))))))))
theorem kt_wp_X10_best__X10_best_r4 {w : Cond} (h : w ∈ wsX10_best_r4) : w ∈ wsX10_best := List.mem_cons_of_mem _ (List.mem_append_left _ (List.mem_append_left _ (List.mem_append_left _ (List.mem_append_left _ (List.mem_append_left _ (List.mem_append_left _ (List.mem_append_left _ (List.mem_append_right _ (List.mem_append_right _ (List.mem_append_right _ (h)))))))))))
theorem kt_wp_X10_best__X100 {w : Cond} (h : w ∈ wsX100) : w ∈ wsX10_best := List.mem_cons_of_mem _ (List.mem_append_left _ (List.mem_append_left _ (List.mem_append_left _ (List.mem_append_left _ (List.mem_append_left _ (List.mem_append_left _ (List.mem_append_right _ (h))))))))
theorem kt_wp_X10_best__X40 {w : Cond} (h : w ∈ wsX40) : w ∈ wsX10_best := List.mem_cons_of_mem _ (List.mem_append_left _ (List.mem_append_left _ (List.mem_append_left _ (List.mem_append_left _ (List.mem_append_left _ (List.mem_append_right _ (h)))))))
theorem kt_wp_X10_best__X70 {w : Cond} (h : w ∈ wsX70) : w ∈ wsX10_best := List.mem_cons_of_mem _ (List.mem_append_left _ (List.mem_append_left _ (List.mem_append_left _ (List.mem_append_left _ (List.mem_append_right _ (h))))))
theorem kt_wp_X10_best__X60 {w : Cond} (h : w ∈ wsX60) : w ∈ wsX10_best := List.mem_cons_of_mem _ (List.mem_append_left _ (List.mem_append_left _ (List.mem_append_left _ (List.mem_append_right _ (h)))))
theorem kt_wp_X10_best__X80 {w : Cond} (h : w ∈ wsX80) : w ∈ wsX10_best := List.mem_cons_of_mem _ (List.mem_append_left _ (List.mem_append_left _ (List.mem_append_right _ (h))))
theorem kt_wp_X10_best__X00 {w : Cond} (h : w ∈ wsX00) : w ∈ wsX10_best := List.mem_cons_of_mem _ (List.mem_append_left _ (List.mem_append_right _ (h)))
theorem kt_wp_X10_best__X10 {w : Cond} (h : w ∈ wsX10) : w ∈ wsX10_best := List.mem_cons_of_mem _ (List.mem_append_right _ (h))
set_option maxRecDepth 20000 in
theorem kt_wg_X7_bestMove : wsX7_bestMove.all goodWord = true := by decide +kernel
set_option maxRecDepth 20000 in
theorem ggX10_best_X7_bestMove : GoodIn wsX10_best wsX7_bestMove := goodIn_sub (kt_wf1 (kt_wp_X10_best__X10_best_r1 kt_wm6) (kt_wfa (kt_wfa (kt_wfa (kt_wfa (kt_wfa (kt_wfa (kt_wf1 (kt_wp_X10_best__X10_best_r1 kt_wm7) (kt_wf1 (kt_wp_X10_best__X10_best_r1 kt_wm8) (kt_wf1 (kt_wp_X10_best__X10_best_r1 kt_wm9) (kt_wf1 (kt_wp_X10_best__X10_best_r1 kt_wm10) (kt_wf1 (kt_wp_X10_best__X10_best_r1 kt_wm11) (kt_wf1 (kt_wp_X10_best__X10_best_r1 kt_wm12) (kt_wf1 (kt_wp_X10_best__X10_best_r1 kt_wm5) (kt_wf1 (kt_wp_X10_best__X10_best_r1 kt_wm13) (kt_wf1 (kt_wp_X10_best__X10_best_r1 kt_wm14) (kt_wf1 (kt_wp_X10_best__X10_best_r1 kt_wm15) (kt_wf1 (kt_wp_X10_best__X10_best_r1 kt_wm16) (kt_wf1 (kt_wp_X10_best__X10_best_r1 kt_wm17) (kt_wf1 (kt_wp_X10_best__X10_best_r1 kt_wm18) (kt_wf1 (kt_wp_X10_best__X10_best_r1 kt_wm19) (kt_wf1 (kt_wp_X10_best__X10_best_r1 kt_wm20) (kt_wf1 (kt_wp_X10_best__X10_best_r1 kt_wm21) (kt_wf1 (kt_wp_X10_best__X10_best_r1 kt_wm22) (kt_wf1 (kt_wp_X10_best__X10_best_r1 kt_wm23) (kt_wf1 (kt_wp_X10_best__X10_best_r2 kt_wm0) (kt_wf1 (kt_wp_X10_best__X10_best_r2 kt_wm1) (kt_wf1 (kt_wp_X10_best__X10_best_r2 kt_wm2) (kt_wf1 (kt_wp_X10_best__X10_best_r2 kt_wm3) (kt_wf1 (kt_wp_X10_best__X10_best_r2 kt_wm4) (kt_wf1 (kt_wp_X10_best__X10_best_r2 kt_wm5) kt_wf0)))))))))))))))))))))))) (kt_wfa (kt_wf1 (kt_wp_X10_best__X10_best_r2 kt_wm6) (kt_wf1 (kt_wp_X10_best__X10_best_r2 kt_wm7) (kt_wf1 (kt_wp_X10_best__X10_best_r2 kt_wm8) (kt_wf1 (kt_wp_X10_best__X10_best_r2 kt_wm9) (kt_wf1 (kt_wp_X10_best__X10_best_r2 kt_wm10) (kt_wf1 (kt_wp_X10_best__X10_best_r2 kt_wm11) (kt_wf1 (kt_wp_X10_best__X10_best_r2 kt_wm12) (kt_wf1 (kt_wp_X10_best__X10_best_r2 kt_wm13) (kt_wf1 (kt_wp_X10_best__X10_best_r2 kt_wm14) (kt_wf1 (kt_wp_X10_best__X10_best_r2 kt_wm15) (kt_wf1 (kt_wp_X10_best__X10_best_r2 kt_wm16) (kt_wf1 (kt_wp_X10_best__X10_best_r2 kt_wm17) (kt_wf1 (kt_wp_X10_best__X10_best_r2 kt_wm18) (kt_wf1 (kt_wp_X10_best__X10_best_r2 kt_wm19) (kt_wf1 (kt_wp_X10_best__X10_best_r2 kt_wm20) (kt_wf1 (kt_wp_X10_best__X10_best_r2 kt_wm21) (kt_wf1 (kt_wp_X10_best__X10_best_r2 kt_wm22) (kt_wf1 (kt_wp_X10_best__X10_best_r2 kt_wm23) (kt_wf1 (kt_wp_X10_best__X10_best_r3 kt_wm0) (kt_wf1 (kt_wp_X10_best__X10_best_r3 kt_wm1) (kt_wf1 (kt_wp_X10_best__X10_best_r3 kt_wm2) (kt_wf1 (kt_wp_X10_best__X10_best_r3 kt_wm3) (kt_wf1 (kt_wp_X10_best__X10_best_r3 kt_wm4) (kt_wf1 (kt_wp_X10_best__X10_best_r3 kt_wm5) kt_wf0)))))))))))))))))))))))) (kt_wfa (kt_wf1 (kt_wp_X10_best__X10_best_r3 kt_wm6) (kt_wf1 (kt_wp_X10_best__X10_best_r3 kt_wm7) (kt_wf1 (kt_wp_X10_best__X10_best_r3 kt_wm8) (kt_wf1 (kt_wp_X10_best__X10_best_r3 kt_wm9) (kt_wf1 (kt_wp_X10_best__X10_best_r3 kt_wm10) (kt_wf1 (kt_wp_X10_best__X10_best_r3 kt_wm11) (kt_wf1 (kt_wp_X10_best__X10_best_r3 kt_wm12) (kt_wf1 (kt_wp_X10_best__X10_best_r3 kt_wm13) (kt_wf1 (kt_wp_X10_best__X10_best_r3 kt_wm14) (kt_wf1 (kt_wp_X10_best__X10_best_r3 kt_wm15) (kt_wf1 (kt_wp_X10_best__X10_best_r3 kt_wm16) (kt_wf1 (kt_wp_X10_best__X10_best_r3 kt_wm17) (kt_wf1 (kt_wp_X10_best__X10_best_r3 kt_wm18) (kt_wf1 (kt_wp_X10_best__X10_best_r3 kt_wm19) (kt_wf1 (kt_wp_X10_best__X10_best_r3 kt_wm20) (kt_wf1 (kt_wp_X10_best__X10_best_r3 kt_wm21) (kt_wf1 (kt_wp_X10_best__X10_best_r3 kt_wm22) (kt_wf1 (kt_wp_X10_best__X10_best_r3 kt_wm23) (kt_wf1 (kt_wp_X10_best__X10_best_r4 kt_wm0) (kt_wf1 (kt_wp_X10_best__X10_best_r4 kt_wm1) (kt_wf1 (kt_wp_X10_best__X10_best_r4 kt_wm2) (kt_wf1 (kt_wp_X10_best__X10_best_r4 kt_wm3) (kt_wf1 (kt_wp_X10_best__X10_best_r4 kt_wm4) (kt_wf1 (kt_wp_X10_best__X10_best_r4 kt_wm5) kt_wf0)))))))))))))))))))))))) (kt_wf1 (kt_wp_X10_best__X10_best_r4 kt_wm6) (kt_wf1 (kt_wp_X10_best__X10_best_r4 kt_wm7) (kt_wf1 (kt_wp_X10_best__X10_best_r4 kt_wm8) (kt_wf1 (kt_wp_X10_best__X10_best_r4 kt_wm9) (kt_wf1 (kt_wp_X10_best__X10_best_r4 kt_wm10) (kt_wf1 (kt_wp_X10_best__X10_best_r4 kt_wm11) (kt_wf1 (kt_wp_X10_best__X10_best_r4 kt_wm12) (kt_wf1 (kt_wp_X10_best__X10_best_r4 kt_wm13) (kt_wf1 (kt_wp_X10_best__X10_best_r4 kt_wm14) (kt_wf1 (kt_wp_X10_best__X10_best_r4 kt_wm15) (kt_wf1 (kt_wp_X10_best__X10_best_r4 kt_wm16) (kt_wf1 (kt_wp_X10_best__X10_best_r4 kt_wm17) (kt_wf1 (kt_wp_X10_best__X10_best_r4 kt_wm18) (kt_wf1 (kt_wp_X10_best__X10_best_r4 kt_wm19) kt_wf0))))))))))))))))) (fun _ h => kt_wp_X10_best__X70 h)) (fun _ h => kt_wp_X10_best__X60 h)) (fun _ h => kt_wp_X10_best__X80 h)) (fun _ h => kt_wp_X10_best__X00 h)) (fun _ h => kt_wp_X10_best__X10 h))) kt_wg_X7_bestMove
set_option maxRecDepth 20000 in
theorem gX10_best_X7_bestMove : GoodIn wsX10_best (wsV RX10 197 RX7 yX7_bestMove wsX7_bestMove) := goodIn_app (a := [.methodLink RX10 197 yX7_bestMove, .instanceMethod yX7_bestMove, .selects RX7 yX7_bestMove yX7_bestMove, .initialized RX7]) (goodIn_sub (kt_wf1 (kt_wp_X10_best__X10_best_r1 kt_wm2) (kt_wf1 (kt_wp_X10_best__X10_best_r1 kt_wm3) (kt_wf1 (kt_wp_X10_best__X10_best_r1 kt_wm4) (kt_wf1 (kt_wp_X10_best__X10_best_r1 kt_wm5) kt_wf0)))) (by decide +kernel)) ggX10_best_X7_bestMove
theorem sX10_best_0 : kt_sg cX10_best 0 [42, 180, 0, 53, 42, 180, 0, 37, 180, 0, 139, 182, 0, 197, 172] = true := by decide +kernel
theorem dX10_best_0 : decode cX10_best 0 = .ok (.aload_n 0, 1) := kt_o42 (j := 0) sX10_best_0 rfl
theorem dX10_best_1 : decode cX10_best 1 = .ok (.getfield 53, 3) := kt_o180 (j := 1) sX10_best_0 rfl rfl
theorem dX10_best_4 : decode cX10_best 4 = .ok (.aload_n 0, 1) := kt_o42 (j := 4) sX10_best_0 rfl
theorem dX10_best_5 : decode cX10_best 5 = .ok (.getfield 37, 3) := kt_o180 (j := 5) sX10_best_0 rfl rfl
theorem dX10_best_8 : decode cX10_best 8 = .ok (.getfield 139, 3) := kt_o180 (j := 8) sX10_best_0 rfl rfl
theorem dX10_best_11 : decode cX10_best 11 = .ok (.invokevirtual 197, 3) := kt_o182 (j := 11) sX10_best_0 rfl rfl
theorem dX10_best_14 : decode cX10_best 14 = .ok (.ireturn, 1) := kt_o172 (j := 14) sX10_best_0 rfl
theorem kt_wp_X10_count__X100 {w : Cond} (h : w ∈ wsX100) : w ∈ wsX10_count := List.mem_cons_of_mem _ (List.mem_append_left _ (List.mem_append_right _ (h)))
theorem kt_wp_X10_count__X70 {w : Cond} (h : w ∈ wsX70) : w ∈ wsX10_count := List.mem_cons_of_mem _ (List.mem_append_right _ (h))
set_option maxRecDepth 20000 in
theorem kt_wg_X7_tally : wsX7_tally.all goodWord = true := by decide +kernel
set_option maxRecDepth 20000 in
theorem ggX10_count_X7_tally : GoodIn wsX10_count wsX7_tally := goodIn_sub (kt_wf1 (List.mem_cons_of_mem _ (List.mem_append_left _ (List.mem_append_left _ (List.mem_cons_of_mem _ (List.mem_cons_of_mem _ (List.mem_cons_of_mem _ (List.mem_cons_of_mem _ (List.mem_cons_of_mem _ (List.Mem.head _))))))))) (kt_wfa (kt_wf1 (List.mem_cons_of_mem _ (List.mem_append_left _ (List.mem_append_left _ (List.mem_cons_of_mem _ (List.mem_cons_of_mem _ (List.mem_cons_of_mem _ (List.mem_cons_of_mem _ (List.mem_cons_of_mem _ (List.mem_cons_of_mem _ (List.Mem.head _)))))))))) (kt_wf1 (List.mem_cons_of_mem _ (List.mem_append_left _ (List.mem_append_left _ (List.mem_cons_of_mem _ (List.mem_cons_of_mem _ (List.mem_cons_of_mem _ (List.mem_cons_of_mem _ (List.mem_cons_of_mem _ (List.mem_cons_of_mem _ (List.mem_cons_of_mem _ (List.Mem.head _))))))))))) (kt_wf1 (List.mem_cons_of_mem _ (List.mem_append_left _ (List.mem_append_left _ (List.mem_cons_of_mem _ (List.mem_cons_of_mem _ (List.mem_cons_of_mem _ (List.mem_cons_of_mem _ (List.mem_cons_of_mem _ (List.mem_cons_of_mem _ (List.mem_cons_of_mem _ (List.mem_cons_of_mem _ (List.Mem.head _)))))))))))) (kt_wf1 (List.mem_cons_of_mem _ (List.mem_append_left _ (List.mem_append_left _ (List.mem_cons_of_mem _ (List.mem_cons_of_mem _ (List.mem_cons_of_mem _ (List.mem_cons_of_mem _ (List.mem_cons_of_mem _ (List.mem_cons_of_mem _ (List.mem_cons_of_mem _ (List.mem_cons_of_mem _ (List.mem_cons_of_mem _ (List.Mem.head _))))))))))))) (kt_wf1 (List.mem_cons_of_mem _ (List.mem_append_left _ (List.mem_append_left _ (List.mem_cons_of_mem _ (List.mem_cons_of_mem _ (List.mem_cons_of_mem _ (List.mem_cons_of_mem _ (List.mem_cons_of_mem _ (List.mem_cons_of_mem _ (List.mem_cons_of_mem _ (List.mem_cons_of_mem _ (List.mem_cons_of_mem _ (List.mem_cons_of_mem _ (List.Mem.head _)))))))))))))) kt_wf0))))) (fun _ h => kt_wp_X10_count__X70 h))) kt_wg_X7_tally
set_option maxRecDepth 20000 in
theorem gX10_count_X7_tally : GoodIn wsX10_count (wsV RX10 200 RX7 yX7_tally wsX7_tally) := goodIn_app (a := [.methodLink RX10 200 yX7_tally, .instanceMethod yX7_tally, .selects RX7 yX7_tally yX7_tally, .initialized RX7]) (goodIn_sub (kt_wf1 (List.mem_cons_of_mem _ (List.mem_append_left _ (List.mem_append_left _ (List.mem_cons_of_mem _ (List.Mem.head _))))) (kt_wf1 (List.mem_cons_of_mem _ (List.mem_append_left _ (List.mem_append_left _ (List.mem_cons_of_mem _ (List.mem_cons_of_mem _ (List.Mem.head _)))))) (kt_wf1 (List.mem_cons_of_mem _ (List.mem_append_left _ (List.mem_append_left _ (List.mem_cons_of_mem _ (List.mem_cons_of_mem _ (List.mem_cons_of_mem _ (List.Mem.head _))))))) (kt_wf1 (List.mem_cons_of_mem _ (List.mem_append_left _ (List.mem_append_left _ (List.mem_cons_of_mem _ (List.mem_cons_of_mem _ (List.mem_cons_of_mem _ (List.mem_cons_of_mem _ (List.Mem.head _)))))))) kt_wf0)))) (by decide +kernel)) ggX10_count_X7_tally
theorem sX10_count_0 : kt_sg cX10_count 0 [42, 180, 0, 53, 27, 28, 182, 0, 200, 172] = true := by decide +kernel
theorem dX10_count_0 : decode cX10_count 0 = .ok (.aload_n 0, 1) := kt_o42 (j := 0) sX10_count_0 rfl
theorem dX10_count_1 : decode cX10_count 1 = .ok (.getfield 53, 3) := kt_o180 (j := 1) sX10_count_0 rfl rfl
theorem dX10_count_4 : decode cX10_count 4 = .ok (.iload_n 1, 1) := kt_o27 (j := 4) sX10_count_0 rfl
theorem dX10_count_5 : decode cX10_count 5 = .ok (.iload_n 2, 1) := kt_o28 (j := 5) sX10_count_0 rfl
theorem dX10_count_6 : decode cX10_count 6 = .ok (.invokevirtual 200, 3) := kt_o182 (j := 6) sX10_count_0 rfl rfl
theorem dX10_count_9 : decode cX10_count 9 = .ok (.ireturn, 1) := kt_o172 (j := 9) sX10_count_0 rfl
theorem kt_wp_X10_most__X100 {w : Cond} (h : w ∈ wsX100) : w ∈ wsX10_most := List.mem_cons_of_mem _ (List.mem_append_left _ (List.mem_append_right _ (h)))
theorem kt_wp_X10_most__X70 {w : Cond} (h : w ∈ wsX70) : w ∈ wsX10_most := List.mem_cons_of_mem _ (List.mem_append_right _ (h))
set_option maxRecDepth 20000 in
theorem kt_wg_X7_greatestDeep : wsX7_greatestDeep.all goodWord = true := by decide +kernel
set_option maxRecDepth 20000 in
theorem ggX10_most_X7_greatestDeep : GoodIn wsX10_most wsX7_greatestDeep := goodIn_sub (kt_wf1 (List.mem_cons_of_mem _ (List.mem_append_left _ (List.mem_append_left _ (List.mem_cons_of_mem _ (List.mem_cons_of_mem _ (List.mem_cons_of_mem _ (List.mem_cons_of_mem _ (List.mem_cons_of_mem _ (List.Mem.head _))))))))) (kt_wfa (kt_wf1 (List.mem_cons_of_mem _ (List.mem_append_left _ (List.mem_append_left _ (List.mem_cons_of_mem _ (List.mem_cons_of_mem _ (List.mem_cons_of_mem _ (List.mem_cons_of_mem _ (List.mem_cons_of_mem _ (List.mem_cons_of_mem _ (List.Mem.head _)))))))))) (kt_wf1 (List.mem_cons_of_mem _ (List.mem_append_left _ (List.mem_append_left _ (List.mem_cons_of_mem _ (List.mem_cons_of_mem _ (List.mem_cons_of_mem _ (List.mem_cons_of_mem _ (List.mem_cons_of_mem _ (List.mem_cons_of_mem _ (List.mem_cons_of_mem _ (List.Mem.head _))))))))))) (kt_wf1 (List.mem_cons_of_mem _ (List.mem_append_left _ (List.mem_append_left _ (List.mem_cons_of_mem _ (List.mem_cons_of_mem _ (List.mem_cons_of_mem _ (List.mem_cons_of_mem _ (List.mem_cons_of_mem _ (List.mem_cons_of_mem _ (List.mem_cons_of_mem _ (List.mem_cons_of_mem _ (List.Mem.head _)))))))))))) (kt_wf1 (List.mem_cons_of_mem _ (List.mem_append_left _ (List.mem_append_left _ (List.mem_cons_of_mem _ (List.mem_cons_of_mem _ (List.mem_cons_of_mem _ (List.mem_cons_of_mem _ (List.mem_cons_of_mem _ (List.mem_cons_of_mem _ (List.mem_cons_of_mem _ (List.mem_cons_of_mem _ (List.mem_cons_of_mem _ (List.Mem.head _))))))))))))) (kt_wf1 (List.mem_cons_of_mem _ (List.mem_append_left _ (List.mem_append_left _ (List.mem_cons_of_mem _ (List.mem_cons_of_mem _ (List.mem_cons_of_mem _ (List.mem_cons_of_mem _ (List.mem_cons_of_mem _ (List.mem_cons_of_mem _ (List.mem_cons_of_mem _ (List.mem_cons_of_mem _ (List.mem_cons_of_mem _ (List.mem_cons_of_mem _ (List.Mem.head _)))))))))))))) kt_wf0))))) (fun _ h => kt_wp_X10_most__X70 h))) kt_wg_X7_greatestDeep
set_option maxRecDepth 20000 in
theorem gX10_most_X7_greatestDeep : GoodIn wsX10_most (wsV RX10 204 RX7 yX7_greatestDeep wsX7_greatestDeep) := goodIn_app (a := [.methodLink RX10 204 yX7_greatestDeep, .instanceMethod yX7_greatestDeep, .selects RX7 yX7_greatestDeep yX7_greatestDeep, .initialized RX7]) (goodIn_sub (kt_wf1 (List.mem_cons_of_mem _ (List.mem_append_left _ (List.mem_append_left _ (List.mem_cons_of_mem _ (List.Mem.head _))))) (kt_wf1 (List.mem_cons_of_mem _ (List.mem_append_left _ (List.mem_append_left _ (List.mem_cons_of_mem _ (List.mem_cons_of_mem _ (List.Mem.head _)))))) (kt_wf1 (List.mem_cons_of_mem _ (List.mem_append_left _ (List.mem_append_left _ (List.mem_cons_of_mem _ (List.mem_cons_of_mem _ (List.mem_cons_of_mem _ (List.Mem.head _))))))) (kt_wf1 (List.mem_cons_of_mem _ (List.mem_append_left _ (List.mem_append_left _ (List.mem_cons_of_mem _ (List.mem_cons_of_mem _ (List.mem_cons_of_mem _ (List.mem_cons_of_mem _ (List.Mem.head _)))))))) kt_wf0)))) (by decide +kernel)) ggX10_most_X7_greatestDeep
theorem sX10_most_0 : kt_sg cX10_most 0 [42, 180, 0, 53, 27, 182, 0, 204, 172] = true := by decide +kernel
theorem dX10_most_0 : decode cX10_most 0 = .ok (.aload_n 0, 1) := kt_o42 (j := 0) sX10_most_0 rfl
theorem dX10_most_1 : decode cX10_most 1 = .ok (.getfield 53, 3) := kt_o180 (j := 1) sX10_most_0 rfl rfl
theorem dX10_most_4 : decode cX10_most 4 = .ok (.iload_n 1, 1) := kt_o27 (j := 4) sX10_most_0 rfl
theorem dX10_most_5 : decode cX10_most 5 = .ok (.invokevirtual 204, 3) := kt_o182 (j := 5) sX10_most_0 rfl rfl
theorem dX10_most_8 : decode cX10_most 8 = .ok (.ireturn, 1) := kt_o172 (j := 8) sX10_most_0 rfl
theorem kt_wp_X10_stand__X100 {w : Cond} (h : w ∈ wsX100) : w ∈ wsX10_stand := List.mem_cons_of_mem _ (List.mem_append_left _ (List.mem_append_right _ (h)))
theorem kt_wp_X10_stand__X70 {w : Cond} (h : w ∈ wsX70) : w ∈ wsX10_stand := List.mem_cons_of_mem _ (List.mem_append_right _ (h))
set_option maxRecDepth 20000 in
theorem kt_wg_X7_worthAt : wsX7_worthAt.all goodWord = true := by decide +kernel
set_option maxRecDepth 20000 in
theorem ggX10_stand_X7_worthAt : GoodIn wsX10_stand wsX7_worthAt := goodIn_sub (kt_wf1 (List.mem_cons_of_mem _ (List.mem_append_left _ (List.mem_append_left _ (List.mem_cons_of_mem _ (List.mem_cons_of_mem _ (List.mem_cons_of_mem _ (List.mem_cons_of_mem _ (List.mem_cons_of_mem _ (List.Mem.head _))))))))) (kt_wfa (kt_wf1 (List.mem_cons_of_mem _ (List.mem_append_left _ (List.mem_append_left _ (List.mem_cons_of_mem _ (List.mem_cons_of_mem _ (List.mem_cons_of_mem _ (List.mem_cons_of_mem _ (List.mem_cons_of_mem _ (List.mem_cons_of_mem _ (List.Mem.head _)))))))))) (kt_wf1 (List.mem_cons_of_mem _ (List.mem_append_left _ (List.mem_append_left _ (List.mem_cons_of_mem _ (List.mem_cons_of_mem _ (List.mem_cons_of_mem _ (List.mem_cons_of_mem _ (List.mem_cons_of_mem _ (List.mem_cons_of_mem _ (List.mem_cons_of_mem _ (List.Mem.head _))))))))))) (kt_wf1 (List.mem_cons_of_mem _ (List.mem_append_left _ (List.mem_append_left _ (List.mem_cons_of_mem _ (List.mem_cons_of_mem _ (List.mem_cons_of_mem _ (List.mem_cons_of_mem _ (List.mem_cons_of_mem _ (List.mem_cons_of_mem _ (List.mem_cons_of_mem _ (List.mem_cons_of_mem _ (List.Mem.head _)))))))))))) (kt_wf1 (List.mem_cons_of_mem _ (List.mem_append_left _ (List.mem_append_left _ (List.mem_cons_of_mem _ (List.mem_cons_of_mem _ (List.mem_cons_of_mem _ (List.mem_cons_of_mem _ (List.mem_cons_of_mem _ (List.mem_cons_of_mem _ (List.mem_cons_of_mem _ (List.mem_cons_of_mem _ (List.mem_cons_of_mem _ (List.Mem.head _))))))))))))) (kt_wf1 (List.mem_cons_of_mem _ (List.mem_append_left _ (List.mem_append_left _ (List.mem_cons_of_mem _ (List.mem_cons_of_mem _ (List.mem_cons_of_mem _ (List.mem_cons_of_mem _ (List.mem_cons_of_mem _ (List.mem_cons_of_mem _ (List.mem_cons_of_mem _ (List.mem_cons_of_mem _ (List.mem_cons_of_mem _ (List.mem_cons_of_mem _ (List.Mem.head _)))))))))))))) (kt_wf1 (List.mem_cons_of_mem _ (List.mem_append_left _ (List.mem_append_left _ (List.mem_cons_of_mem _ (List.mem_cons_of_mem _ (List.mem_cons_of_mem _ (List.mem_cons_of_mem _ (List.mem_cons_of_mem _ (List.mem_cons_of_mem _ (List.mem_cons_of_mem _ (List.mem_cons_of_mem _ (List.mem_cons_of_mem _ (List.mem_cons_of_mem _ (List.mem_cons_of_mem _ (List.Mem.head _))))))))))))))) kt_wf0)))))) (fun _ h => kt_wp_X10_stand__X70 h))) kt_wg_X7_worthAt
set_option maxRecDepth 20000 in
theorem gX10_stand_X7_worthAt : GoodIn wsX10_stand (wsV RX10 207 RX7 yX7_worthAt wsX7_worthAt) := goodIn_app (a := [.methodLink RX10 207 yX7_worthAt, .instanceMethod yX7_worthAt, .selects RX7 yX7_worthAt yX7_worthAt, .initialized RX7]) (goodIn_sub (kt_wf1 (List.mem_cons_of_mem _ (List.mem_append_left _ (List.mem_append_left _ (List.mem_cons_of_mem _ (List.Mem.head _))))) (kt_wf1 (List.mem_cons_of_mem _ (List.mem_append_left _ (List.mem_append_left _ (List.mem_cons_of_mem _ (List.mem_cons_of_mem _ (List.Mem.head _)))))) (kt_wf1 (List.mem_cons_of_mem _ (List.mem_append_left _ (List.mem_append_left _ (List.mem_cons_of_mem _ (List.mem_cons_of_mem _ (List.mem_cons_of_mem _ (List.Mem.head _))))))) (kt_wf1 (List.mem_cons_of_mem _ (List.mem_append_left _ (List.mem_append_left _ (List.mem_cons_of_mem _ (List.mem_cons_of_mem _ (List.mem_cons_of_mem _ (List.mem_cons_of_mem _ (List.Mem.head _)))))))) kt_wf0)))) (by decide +kernel)) ggX10_stand_X7_worthAt
theorem sX10_stand_0 : kt_sg cX10_stand 0 [42, 180, 0, 53, 27, 28, 182, 0, 207, 172] = true := by decide +kernel
theorem dX10_stand_0 : decode cX10_stand 0 = .ok (.aload_n 0, 1) := kt_o42 (j := 0) sX10_stand_0 rfl
theorem dX10_stand_1 : decode cX10_stand 1 = .ok (.getfield 53, 3) := kt_o180 (j := 1) sX10_stand_0 rfl rfl
theorem dX10_stand_4 : decode cX10_stand 4 = .ok (.iload_n 1, 1) := kt_o27 (j := 4) sX10_stand_0 rfl
theorem dX10_stand_5 : decode cX10_stand 5 = .ok (.iload_n 2, 1) := kt_o28 (j := 5) sX10_stand_0 rfl
theorem dX10_stand_6 : decode cX10_stand 6 = .ok (.invokevirtual 207, 3) := kt_o182 (j := 6) sX10_stand_0 rfl rfl
theorem dX10_stand_9 : decode cX10_stand 9 = .ok (.ireturn, 1) := kt_o172 (j := 9) sX10_stand_0 rfl
theorem kt_wp_X10_endPlay__X10_endPlay_r1 {w : Cond} (h : w ∈ wsX10_endPlay_r1) : w ∈ wsX10_endPlay := List.mem_cons_of_mem _ (List.mem_append_left _ (List.mem_append_left _ (List.mem_append_left _ (List.mem_append_left _ (List.mem_append_left _ (List.mem_append_left _ (List.mem_append_left _ (h))))))))
theorem kt_wp_X10_endPlay__X10_endPlay_r2 {w : Cond} (h : w ∈ wsX10_endPlay_r2) : w ∈ wsX10_endPlay := List.mem_cons_of_mem _ (List.mem_append_left _ (List.mem_append_left _ (List.mem_append_left _ (List.mem_append_left _ (List.mem_append_left _ (List.mem_append_left _ (List.mem_append_right _ (h))))))))
theorem kt_wp_X10_endPlay__X100 {w : Cond} (h : w ∈ wsX100) : w ∈ wsX10_endPlay := List.mem_cons_of_mem _ (List.mem_append_left _ (List.mem_append_left _ (List.mem_append_left _ (List.mem_append_left _ (List.mem_append_left _ (List.mem_append_right _ (h)))))))
theorem kt_wp_X10_endPlay__X40 {w : Cond} (h : w ∈ wsX40) : w ∈ wsX10_endPlay := List.mem_cons_of_mem _ (List.mem_append_left _ (List.mem_append_left _ (List.mem_append_left _ (List.mem_append_left _ (List.mem_append_right _ (h))))))
theorem kt_wp_X10_endPlay__X60 {w : Cond} (h : w ∈ wsX60) : w ∈ wsX10_endPlay := List.mem_cons_of_mem _ (List.mem_append_left _ (List.mem_append_left _ (List.mem_append_left _ (List.mem_append_right _ (h)))))
theorem kt_wp_X10_endPlay__X80 {w : Cond} (h : w ∈ wsX80) : w ∈ wsX10_endPlay := List.mem_cons_of_mem _ (List.mem_append_left _ (List.mem_append_left _ (List.mem_append_right _ (h))))
theorem kt_wp_X10_endPlay__X30 {w : Cond} (h : w ∈ wsX30) : w ∈ wsX10_endPlay := List.mem_cons_of_mem _ (List.mem_append_left _ (List.mem_append_right _ (h)))
theorem kt_wp_X10_endPlay__X70 {w : Cond} (h : w ∈ wsX70) : w ∈ wsX10_endPlay := List.mem_cons_of_mem _ (List.mem_append_right _ (h))
set_option maxRecDepth 20000 in
theorem ggX10_endPlay_X4_finish : GoodIn wsX10_endPlay wsX4_finish := goodIn_sub (kt_wf1 (kt_wp_X10_endPlay__X10_endPlay_r1 kt_wm6) (kt_wfa (kt_wfa (kt_wfa (kt_wfa (kt_wfa (kt_wf1 (kt_wp_X10_endPlay__X10_endPlay_r1 kt_wm7) (kt_wf1 (kt_wp_X10_endPlay__X10_endPlay_r1 kt_wm8) (kt_wf1 (kt_wp_X10_endPlay__X10_endPlay_r1 kt_wm9) (kt_wf1 (kt_wp_X10_endPlay__X10_endPlay_r1 kt_wm10) (kt_wf1 (kt_wp_X10_endPlay__X10_endPlay_r1 kt_wm11) (kt_wf1 (kt_wp_X10_endPlay__X10_endPlay_r1 kt_wm12) (kt_wf1 (kt_wp_X10_endPlay__X10_endPlay_r1 kt_wm13) (kt_wf1 (kt_wp_X10_endPlay__X10_endPlay_r1 kt_wm14) (kt_wf1 (kt_wp_X10_endPlay__X10_endPlay_r1 kt_wm15) (kt_wf1 (kt_wp_X10_endPlay__X10_endPlay_r1 kt_wm16) (kt_wf1 (kt_wp_X10_endPlay__X10_endPlay_r1 kt_wm17) (kt_wf1 (kt_wp_X10_endPlay__X10_endPlay_r1 kt_wm18) (kt_wf1 (kt_wp_X10_endPlay__X10_endPlay_r1 kt_wm19) (kt_wf1 (kt_wp_X10_endPlay__X10_endPlay_r1 kt_wm20) (kt_wf1 (kt_wp_X10_endPlay__X10_endPlay_r1 kt_wm21) (kt_wf1 (kt_wp_X10_endPlay__X10_endPlay_r1 kt_wm22) (kt_wf1 (kt_wp_X10_endPlay__X10_endPlay_r1 kt_wm23) (kt_wf1 (kt_wp_X10_endPlay__X10_endPlay_r2 kt_wm0) (kt_wf1 (kt_wp_X10_endPlay__X10_endPlay_r2 kt_wm1) (kt_wf1 (kt_wp_X10_endPlay__X10_endPlay_r2 kt_wm2) (kt_wf1 (kt_wp_X10_endPlay__X10_endPlay_r2 kt_wm3) (kt_wf1 (kt_wp_X10_endPlay__X10_endPlay_r2 kt_wm4) (kt_wf1 (kt_wp_X10_endPlay__X10_endPlay_r2 kt_wm5) (kt_wf1 (kt_wp_X10_endPlay__X10_endPlay_r2 kt_wm6) kt_wf0)))))))))))))))))))))))) (kt_wf1 (kt_wp_X10_endPlay__X10_endPlay_r2 kt_wm7) (kt_wf1 (kt_wp_X10_endPlay__X10_endPlay_r2 kt_wm8) (kt_wf1 (kt_wp_X10_endPlay__X10_endPlay_r2 kt_wm9) (kt_wf1 (kt_wp_X10_endPlay__X10_endPlay_r2 kt_wm10) (kt_wf1 (kt_wp_X10_endPlay__X10_endPlay_r2 kt_wm11) (kt_wf1 (kt_wp_X10_endPlay__X10_endPlay_r2 kt_wm12) kt_wf0))))))) (fun _ h => kt_wp_X10_endPlay__X40 h)) (fun _ h => kt_wp_X10_endPlay__X60 h)) (fun _ h => kt_wp_X10_endPlay__X80 h)) (fun _ h => kt_wp_X10_endPlay__X30 h))) kt_wg_X4_finish
set_option maxRecDepth 20000 in
theorem gX10_endPlay_X4_finish : GoodIn wsX10_endPlay (wsV RX10 210 RX4 yX4_finish wsX4_finish) := goodIn_app (a := [.methodLink RX10 210 yX4_finish, .instanceMethod yX4_finish, .selects RX4 yX4_finish yX4_finish, .initialized RX4]) (goodIn_sub (kt_wf1 (kt_wp_X10_endPlay__X10_endPlay_r1 kt_wm2) (kt_wf1 (kt_wp_X10_endPlay__X10_endPlay_r1 kt_wm3) (kt_wf1 (kt_wp_X10_endPlay__X10_endPlay_r1 kt_wm4) (kt_wf1 (kt_wp_X10_endPlay__X10_endPlay_r1 kt_wm5) kt_wf0)))) (by decide +kernel)) ggX10_endPlay_X4_finish
set_option maxRecDepth 20000 in
theorem ggX10_endPlay_X7_forget : GoodIn wsX10_endPlay wsX7_forget := goodIn_sub (kt_wf1 (kt_wp_X10_endPlay__X10_endPlay_r2 kt_wm17) (kt_wfa (kt_wf1 (kt_wp_X10_endPlay__X10_endPlay_r2 kt_wm18) kt_wf0) (fun _ h => kt_wp_X10_endPlay__X70 h))) kt_wg_X7_forget
set_option maxRecDepth 20000 in
theorem gX10_endPlay_X7_forget : GoodIn wsX10_endPlay (wsV RX10 83 RX7 yX7_forget wsX7_forget) := goodIn_app (a := [.methodLink RX10 83 yX7_forget, .instanceMethod yX7_forget, .selects RX7 yX7_forget yX7_forget, .initialized RX7]) (goodIn_sub (kt_wf1 (kt_wp_X10_endPlay__X10_endPlay_r2 kt_wm13) (kt_wf1 (kt_wp_X10_endPlay__X10_endPlay_r2 kt_wm14) (kt_wf1 (kt_wp_X10_endPlay__X10_endPlay_r2 kt_wm15) (kt_wf1 (kt_wp_X10_endPlay__X10_endPlay_r2 kt_wm16) kt_wf0)))) (by decide +kernel)) ggX10_endPlay_X7_forget
theorem sX10_endPlay_0 : kt_sg cX10_endPlay 0 [42, 180, 0, 37, 182, 0, 210, 42, 180, 0, 53, 182, 0, 83, 177] = true := by decide +kernel
theorem dX10_endPlay_0 : decode cX10_endPlay 0 = .ok (.aload_n 0, 1) := kt_o42 (j := 0) sX10_endPlay_0 rfl
theorem dX10_endPlay_1 : decode cX10_endPlay 1 = .ok (.getfield 37, 3) := kt_o180 (j := 1) sX10_endPlay_0 rfl rfl
theorem dX10_endPlay_4 : decode cX10_endPlay 4 = .ok (.invokevirtual 210, 3) := kt_o182 (j := 4) sX10_endPlay_0 rfl rfl
theorem dX10_endPlay_7 : decode cX10_endPlay 7 = .ok (.aload_n 0, 1) := kt_o42 (j := 7) sX10_endPlay_0 rfl
theorem dX10_endPlay_8 : decode cX10_endPlay 8 = .ok (.getfield 53, 3) := kt_o180 (j := 8) sX10_endPlay_0 rfl rfl
theorem dX10_endPlay_11 : decode cX10_endPlay 11 = .ok (.invokevirtual 83, 3) := kt_o182 (j := 11) sX10_endPlay_0 rfl rfl
theorem dX10_endPlay_14 : decode cX10_endPlay 14 = .ok (.return_, 1) := kt_o177 (j := 14) sX10_endPlay_0 rfl
theorem sX10_isSide_0 : kt_sg cX10_isSide 0 [26, 153, 0, 8, 26, 4, 160, 0, 7, 4, 167, 0, 4, 3, 172] = true := by decide +kernel
theorem dX10_isSide_0 : decode cX10_isSide 0 = .ok (.iload_n 0, 1) := kt_o26 (j := 0) sX10_isSide_0 rfl
theorem dX10_isSide_1 : decode cX10_isSide 1 = .ok (.ifCond .eq 8, 3) := kt_o153 (j := 1) sX10_isSide_0 rfl (by decide +kernel)
theorem dX10_isSide_4 : decode cX10_isSide 4 = .ok (.iload_n 0, 1) := kt_o26 (j := 4) sX10_isSide_0 rfl
theorem dX10_isSide_5 : decode cX10_isSide 5 = .ok (.iconst 1, 1) := kt_o4 (j := 5) sX10_isSide_0 rfl
theorem dX10_isSide_6 : decode cX10_isSide 6 = .ok (.if_icmp .ne 7, 3) := kt_o160 (j := 6) sX10_isSide_0 rfl (by decide +kernel)
theorem dX10_isSide_9 : decode cX10_isSide 9 = .ok (.iconst 1, 1) := kt_o4 (j := 9) sX10_isSide_0 rfl
theorem dX10_isSide_10 : decode cX10_isSide 10 = .ok (.goto 4, 3) := kt_o167 (j := 10) sX10_isSide_0 rfl (by decide +kernel)
theorem dX10_isSide_13 : decode cX10_isSide 13 = .ok (.iconst 0, 1) := kt_o3 (j := 13) sX10_isSide_0 rfl
theorem dX10_isSide_14 : decode cX10_isSide 14 = .ok (.ireturn, 1) := kt_o172 (j := 14) sX10_isSide_0 rfl
theorem sX10_kindOfSign_0 : kt_sg cX10_kindOfSign 0 [26, 16, 7, 160, 0, 5, 5, 172, 26, 4, 161, 0, 12, 26, 7, 163, 0, 7, 26, 167, 0, 4, 3, 172] = true := by decide +kernel
theorem dX10_kindOfSign_0 : decode cX10_kindOfSign 0 = .ok (.iload_n 0, 1) := kt_o26 (j := 0) sX10_kindOfSign_0 rfl
theorem dX10_kindOfSign_1 : decode cX10_kindOfSign 1 = .ok (.bipush 7, 2) := kt_o16 (j := 1) sX10_kindOfSign_0 rfl (by decide +kernel)
theorem dX10_kindOfSign_3 : decode cX10_kindOfSign 3 = .ok (.if_icmp .ne 5, 3) := kt_o160 (j := 3) sX10_kindOfSign_0 rfl (by decide +kernel)
theorem dX10_kindOfSign_6 : decode cX10_kindOfSign 6 = .ok (.iconst 2, 1) := kt_o5 (j := 6) sX10_kindOfSign_0 rfl
theorem dX10_kindOfSign_7 : decode cX10_kindOfSign 7 = .ok (.ireturn, 1) := kt_o172 (j := 7) sX10_kindOfSign_0 rfl
theorem dX10_kindOfSign_8 : decode cX10_kindOfSign 8 = .ok (.iload_n 0, 1) := kt_o26 (j := 8) sX10_kindOfSign_0 rfl
theorem dX10_kindOfSign_9 : decode cX10_kindOfSign 9 = .ok (.iconst 1, 1) := kt_o4 (j := 9) sX10_kindOfSign_0 rfl
theorem dX10_kindOfSign_10 : decode cX10_kindOfSign 10 = .ok (.if_icmp .lt 12, 3) := kt_o161 (j := 10) sX10_kindOfSign_0 rfl (by decide +kernel)
theorem dX10_kindOfSign_13 : decode cX10_kindOfSign 13 = .ok (.iload_n 0, 1) := kt_o26 (j := 13) sX10_kindOfSign_0 rfl
theorem dX10_kindOfSign_14 : decode cX10_kindOfSign 14 = .ok (.iconst 4, 1) := kt_o7 (j := 14) sX10_kindOfSign_0 rfl
theorem dX10_kindOfSign_15 : decode cX10_kindOfSign 15 = .ok (.if_icmp .gt 7, 3) := kt_o163 (j := 15) sX10_kindOfSign_0 rfl (by decide +kernel)
theorem dX10_kindOfSign_18 : decode cX10_kindOfSign 18 = .ok (.iload_n 0, 1) := kt_o26 (j := 18) sX10_kindOfSign_0 rfl
theorem dX10_kindOfSign_19 : decode cX10_kindOfSign 19 = .ok (.goto 4, 3) := kt_o167 (j := 19) sX10_kindOfSign_0 rfl (by decide +kernel)
theorem dX10_kindOfSign_22 : decode cX10_kindOfSign 22 = .ok (.iconst 0, 1) := kt_o3 (j := 22) sX10_kindOfSign_0 rfl
theorem dX10_kindOfSign_23 : decode cX10_kindOfSign 23 = .ok (.ireturn, 1) := kt_o172 (j := 23) sX10_kindOfSign_0 rfl
theorem sX10_typeOfSign_0 : kt_sg cX10_typeOfSign 0 [26, 8, 159, 0, 9, 26, 16, 7, 160, 0, 5, 4, 172, 26, 16, 6, 160, 0, 7, 5, 167, 0, 4, 3, 172] = true := by decide +kernel
theorem dX10_typeOfSign_0 : decode cX10_typeOfSign 0 = .ok (.iload_n 0, 1) := kt_o26 (j := 0) sX10_typeOfSign_0 rfl
theorem dX10_typeOfSign_1 : decode cX10_typeOfSign 1 = .ok (.iconst 5, 1) := kt_o8 (j := 1) sX10_typeOfSign_0 rfl
theorem dX10_typeOfSign_2 : decode cX10_typeOfSign 2 = .ok (.if_icmp .eq 9, 3) := kt_o159 (j := 2) sX10_typeOfSign_0 rfl (by decide +kernel)
theorem dX10_typeOfSign_5 : decode cX10_typeOfSign 5 = .ok (.iload_n 0, 1) := kt_o26 (j := 5) sX10_typeOfSign_0 rfl
theorem dX10_typeOfSign_6 : decode cX10_typeOfSign 6 = .ok (.bipush 7, 2) := kt_o16 (j := 6) sX10_typeOfSign_0 rfl (by decide +kernel)
theorem dX10_typeOfSign_8 : decode cX10_typeOfSign 8 = .ok (.if_icmp .ne 5, 3) := kt_o160 (j := 8) sX10_typeOfSign_0 rfl (by decide +kernel)
theorem dX10_typeOfSign_11 : decode cX10_typeOfSign 11 = .ok (.iconst 1, 1) := kt_o4 (j := 11) sX10_typeOfSign_0 rfl
theorem dX10_typeOfSign_12 : decode cX10_typeOfSign 12 = .ok (.ireturn, 1) := kt_o172 (j := 12) sX10_typeOfSign_0 rfl
theorem dX10_typeOfSign_13 : decode cX10_typeOfSign 13 = .ok (.iload_n 0, 1) := kt_o26 (j := 13) sX10_typeOfSign_0 rfl
theorem dX10_typeOfSign_14 : decode cX10_typeOfSign 14 = .ok (.bipush 6, 2) := kt_o16 (j := 14) sX10_typeOfSign_0 rfl (by decide +kernel)
theorem dX10_typeOfSign_16 : decode cX10_typeOfSign 16 = .ok (.if_icmp .ne 7, 3) := kt_o160 (j := 16) sX10_typeOfSign_0 rfl (by decide +kernel)
theorem dX10_typeOfSign_19 : decode cX10_typeOfSign 19 = .ok (.iconst 2, 1) := kt_o5 (j := 19) sX10_typeOfSign_0 rfl
theorem dX10_typeOfSign_20 : decode cX10_typeOfSign 20 = .ok (.goto 4, 3) := kt_o167 (j := 20) sX10_typeOfSign_0 rfl (by decide +kernel)
theorem dX10_typeOfSign_23 : decode cX10_typeOfSign 23 = .ok (.iconst 0, 1) := kt_o3 (j := 23) sX10_typeOfSign_0 rfl
theorem dX10_typeOfSign_24 : decode cX10_typeOfSign 24 = .ok (.ireturn, 1) := kt_o172 (j := 24) sX10_typeOfSign_0 rfl
theorem sX11_init_0 : kt_sg cX11_init 0 [42, 183, 0, 1, 42, 6, 181, 0, 7, 42, 6, 181, 0, 13, 42, 16, 81, 188, 10, 181, 0, 16, 42, 7, 181, 0, 20, 42, 4, 181, 0, 23, 42, 16, 40, 188, 10, 181, 0, 27, 42, 16, 40, 188, 10, 181, 0, 30, 42, 16, 81, 188, 10, 181, 0, 33, 42, 16, 81, 188, 10, 181, 0, 36] = true := by decide +kernel
theorem dX11_init_0 : decode cX11_init 0 = .ok (.aload_n 0, 1) := kt_o42 (j := 0) sX11_init_0 rfl
theorem dX11_init_1 : decode cX11_init 1 = .ok (.invokespecial 1, 3) := kt_o183 (j := 1) sX11_init_0 rfl rfl
theorem dX11_init_4 : decode cX11_init 4 = .ok (.aload_n 0, 1) := kt_o42 (j := 4) sX11_init_0 rfl
theorem dX11_init_5 : decode cX11_init 5 = .ok (.iconst 3, 1) := kt_o6 (j := 5) sX11_init_0 rfl
theorem dX11_init_6 : decode cX11_init 6 = .ok (.putfield 7, 3) := kt_o181 (j := 6) sX11_init_0 rfl rfl
theorem dX11_init_9 : decode cX11_init 9 = .ok (.aload_n 0, 1) := kt_o42 (j := 9) sX11_init_0 rfl
theorem dX11_init_10 : decode cX11_init 10 = .ok (.iconst 3, 1) := kt_o6 (j := 10) sX11_init_0 rfl
theorem dX11_init_11 : decode cX11_init 11 = .ok (.putfield 13, 3) := kt_o181 (j := 11) sX11_init_0 rfl rfl
theorem dX11_init_14 : decode cX11_init 14 = .ok (.aload_n 0, 1) := kt_o42 (j := 14) sX11_init_0 rfl
theorem dX11_init_15 : decode cX11_init 15 = .ok (.bipush 81, 2) := kt_o16 (j := 15) sX11_init_0 rfl (by decide +kernel)
theorem dX11_init_17 : decode cX11_init 17 = .ok (.newarray .int, 2) := kt_o188_10 (j := 17) sX11_init_0 rfl
theorem dX11_init_19 : decode cX11_init 19 = .ok (.putfield 16, 3) := kt_o181 (j := 19) sX11_init_0 rfl rfl
theorem dX11_init_22 : decode cX11_init 22 = .ok (.aload_n 0, 1) := kt_o42 (j := 22) sX11_init_0 rfl
theorem dX11_init_23 : decode cX11_init 23 = .ok (.iconst 4, 1) := kt_o7 (j := 23) sX11_init_0 rfl
theorem dX11_init_24 : decode cX11_init 24 = .ok (.putfield 20, 3) := kt_o181 (j := 24) sX11_init_0 rfl rfl
theorem dX11_init_27 : decode cX11_init 27 = .ok (.aload_n 0, 1) := kt_o42 (j := 27) sX11_init_0 rfl
theorem dX11_init_28 : decode cX11_init 28 = .ok (.iconst 1, 1) := kt_o4 (j := 28) sX11_init_0 rfl
theorem dX11_init_29 : decode cX11_init 29 = .ok (.putfield 23, 3) := kt_o181 (j := 29) sX11_init_0 rfl rfl
theorem dX11_init_32 : decode cX11_init 32 = .ok (.aload_n 0, 1) := kt_o42 (j := 32) sX11_init_0 rfl
theorem dX11_init_33 : decode cX11_init 33 = .ok (.bipush 40, 2) := kt_o16 (j := 33) sX11_init_0 rfl (by decide +kernel)
theorem dX11_init_35 : decode cX11_init 35 = .ok (.newarray .int, 2) := kt_o188_10 (j := 35) sX11_init_0 rfl
theorem dX11_init_37 : decode cX11_init 37 = .ok (.putfield 27, 3) := kt_o181 (j := 37) sX11_init_0 rfl rfl
theorem dX11_init_40 : decode cX11_init 40 = .ok (.aload_n 0, 1) := kt_o42 (j := 40) sX11_init_0 rfl
theorem dX11_init_41 : decode cX11_init 41 = .ok (.bipush 40, 2) := kt_o16 (j := 41) sX11_init_0 rfl (by decide +kernel)
theorem dX11_init_43 : decode cX11_init 43 = .ok (.newarray .int, 2) := kt_o188_10 (j := 43) sX11_init_0 rfl
theorem dX11_init_45 : decode cX11_init 45 = .ok (.putfield 30, 3) := kt_o181 (j := 45) sX11_init_0 rfl rfl
theorem dX11_init_48 : decode cX11_init 48 = .ok (.aload_n 0, 1) := kt_o42 (j := 48) sX11_init_0 rfl
theorem dX11_init_49 : decode cX11_init 49 = .ok (.bipush 81, 2) := kt_o16 (j := 49) sX11_init_0 rfl (by decide +kernel)
theorem dX11_init_51 : decode cX11_init 51 = .ok (.newarray .int, 2) := kt_o188_10 (j := 51) sX11_init_0 rfl
theorem dX11_init_53 : decode cX11_init 53 = .ok (.putfield 33, 3) := kt_o181 (j := 53) sX11_init_0 rfl rfl
theorem dX11_init_56 : decode cX11_init 56 = .ok (.aload_n 0, 1) := kt_o42 (j := 56) sX11_init_0 rfl
theorem dX11_init_57 : decode cX11_init 57 = .ok (.bipush 81, 2) := kt_o16 (j := 57) sX11_init_0 rfl (by decide +kernel)
theorem dX11_init_59 : decode cX11_init 59 = .ok (.newarray .int, 2) := kt_o188_10 (j := 59) sX11_init_0 rfl
theorem dX11_init_61 : decode cX11_init 61 = .ok (.putfield 36, 3) := kt_o181 (j := 61) sX11_init_0 rfl rfl
theorem sX11_init_64 : kt_sg cX11_init 64 [42, 17, 16, 104, 188, 10, 181, 0, 39, 42, 18, 42, 188, 8, 181, 0, 43, 42, 16, 40, 188, 4, 181, 0, 47, 42, 16, 81, 188, 4, 181, 0, 51, 42, 16, 81, 188, 10, 181, 0, 54, 42, 17, 39, 16, 188, 10, 181, 0, 57, 42, 17, 39, 16, 188, 10, 181, 0, 60, 42, 17, 39, 16, 188, 10] = true := by decide +kernel
theorem dX11_init_64 : decode cX11_init 64 = .ok (.aload_n 0, 1) := kt_o42 (j := 0) sX11_init_64 rfl
theorem dX11_init_65 : decode cX11_init 65 = .ok (.sipush 4200, 3) := kt_o17 (j := 1) sX11_init_64 rfl (by decide +kernel)
theorem dX11_init_68 : decode cX11_init 68 = .ok (.newarray .int, 2) := kt_o188_10 (j := 4) sX11_init_64 rfl
theorem dX11_init_70 : decode cX11_init 70 = .ok (.putfield 39, 3) := kt_o181 (j := 6) sX11_init_64 rfl rfl
theorem dX11_init_73 : decode cX11_init 73 = .ok (.aload_n 0, 1) := kt_o42 (j := 9) sX11_init_64 rfl
theorem dX11_init_74 : decode cX11_init 74 = .ok (.ldc 42, 2) := kt_o18 (j := 10) sX11_init_64 rfl
theorem dX11_init_76 : decode cX11_init 76 = .ok (.newarray .byte, 2) := kt_o188_8 (j := 12) sX11_init_64 rfl
theorem dX11_init_78 : decode cX11_init 78 = .ok (.putfield 43, 3) := kt_o181 (j := 14) sX11_init_64 rfl rfl
theorem dX11_init_81 : decode cX11_init 81 = .ok (.aload_n 0, 1) := kt_o42 (j := 17) sX11_init_64 rfl
theorem dX11_init_82 : decode cX11_init 82 = .ok (.bipush 40, 2) := kt_o16 (j := 18) sX11_init_64 rfl (by decide +kernel)
theorem dX11_init_84 : decode cX11_init 84 = .ok (.newarray .boolean, 2) := kt_o188_4 (j := 20) sX11_init_64 rfl
theorem dX11_init_86 : decode cX11_init 86 = .ok (.putfield 47, 3) := kt_o181 (j := 22) sX11_init_64 rfl rfl
theorem dX11_init_89 : decode cX11_init 89 = .ok (.aload_n 0, 1) := kt_o42 (j := 25) sX11_init_64 rfl
theorem dX11_init_90 : decode cX11_init 90 = .ok (.bipush 81, 2) := kt_o16 (j := 26) sX11_init_64 rfl (by decide +kernel)
theorem dX11_init_92 : decode cX11_init 92 = .ok (.newarray .boolean, 2) := kt_o188_4 (j := 28) sX11_init_64 rfl
theorem dX11_init_94 : decode cX11_init 94 = .ok (.putfield 51, 3) := kt_o181 (j := 30) sX11_init_64 rfl rfl
theorem dX11_init_97 : decode cX11_init 97 = .ok (.aload_n 0, 1) := kt_o42 (j := 33) sX11_init_64 rfl
theorem dX11_init_98 : decode cX11_init 98 = .ok (.bipush 81, 2) := kt_o16 (j := 34) sX11_init_64 rfl (by decide +kernel)
theorem dX11_init_100 : decode cX11_init 100 = .ok (.newarray .int, 2) := kt_o188_10 (j := 36) sX11_init_64 rfl
theorem dX11_init_102 : decode cX11_init 102 = .ok (.putfield 54, 3) := kt_o181 (j := 38) sX11_init_64 rfl rfl
theorem dX11_init_105 : decode cX11_init 105 = .ok (.aload_n 0, 1) := kt_o42 (j := 41) sX11_init_64 rfl
theorem dX11_init_106 : decode cX11_init 106 = .ok (.sipush 10000, 3) := kt_o17 (j := 42) sX11_init_64 rfl (by decide +kernel)
theorem dX11_init_109 : decode cX11_init 109 = .ok (.newarray .int, 2) := kt_o188_10 (j := 45) sX11_init_64 rfl
theorem dX11_init_111 : decode cX11_init 111 = .ok (.putfield 57, 3) := kt_o181 (j := 47) sX11_init_64 rfl rfl
theorem dX11_init_114 : decode cX11_init 114 = .ok (.aload_n 0, 1) := kt_o42 (j := 50) sX11_init_64 rfl
theorem dX11_init_115 : decode cX11_init 115 = .ok (.sipush 10000, 3) := kt_o17 (j := 51) sX11_init_64 rfl (by decide +kernel)
theorem dX11_init_118 : decode cX11_init 118 = .ok (.newarray .int, 2) := kt_o188_10 (j := 54) sX11_init_64 rfl
theorem dX11_init_120 : decode cX11_init 120 = .ok (.putfield 60, 3) := kt_o181 (j := 56) sX11_init_64 rfl rfl
theorem dX11_init_123 : decode cX11_init 123 = .ok (.aload_n 0, 1) := kt_o42 (j := 59) sX11_init_64 rfl
theorem dX11_init_124 : decode cX11_init 124 = .ok (.sipush 10000, 3) := kt_o17 (j := 60) sX11_init_64 rfl (by decide +kernel)
theorem dX11_init_127 : decode cX11_init 127 = .ok (.newarray .int, 2) := kt_o188_10 (j := 63) sX11_init_64 rfl
theorem sX11_init_129 : kt_sg cX11_init 129 [181, 0, 63, 42, 17, 39, 16, 188, 10, 181, 0, 66, 177] = true := by decide +kernel
theorem dX11_init_129 : decode cX11_init 129 = .ok (.putfield 63, 3) := kt_o181 (j := 0) sX11_init_129 rfl rfl
theorem dX11_init_132 : decode cX11_init 132 = .ok (.aload_n 0, 1) := kt_o42 (j := 3) sX11_init_129 rfl
theorem dX11_init_133 : decode cX11_init 133 = .ok (.sipush 10000, 3) := kt_o17 (j := 4) sX11_init_129 rfl (by decide +kernel)
theorem dX11_init_136 : decode cX11_init 136 = .ok (.newarray .int, 2) := kt_o188_10 (j := 7) sX11_init_129 rfl
theorem dX11_init_138 : decode cX11_init 138 = .ok (.putfield 66, 3) := kt_o181 (j := 9) sX11_init_129 rfl rfl
theorem dX11_init_141 : decode cX11_init 141 = .ok (.return_, 1) := kt_o177 (j := 12) sX11_init_129 rfl
theorem sX11_isIn_0 : kt_sg cX11_isIn 0 [26, 27, 161, 0, 12, 26, 28, 163, 0, 7, 4, 167, 0, 4, 3, 172] = true := by decide +kernel
theorem dX11_isIn_0 : decode cX11_isIn 0 = .ok (.iload_n 0, 1) := kt_o26 (j := 0) sX11_isIn_0 rfl
theorem dX11_isIn_1 : decode cX11_isIn 1 = .ok (.iload_n 1, 1) := kt_o27 (j := 1) sX11_isIn_0 rfl
theorem dX11_isIn_2 : decode cX11_isIn 2 = .ok (.if_icmp .lt 12, 3) := kt_o161 (j := 2) sX11_isIn_0 rfl (by decide +kernel)
theorem dX11_isIn_5 : decode cX11_isIn 5 = .ok (.iload_n 0, 1) := kt_o26 (j := 5) sX11_isIn_0 rfl
theorem dX11_isIn_6 : decode cX11_isIn 6 = .ok (.iload_n 2, 1) := kt_o28 (j := 6) sX11_isIn_0 rfl
theorem dX11_isIn_7 : decode cX11_isIn 7 = .ok (.if_icmp .gt 7, 3) := kt_o163 (j := 7) sX11_isIn_0 rfl (by decide +kernel)
theorem dX11_isIn_10 : decode cX11_isIn 10 = .ok (.iconst 1, 1) := kt_o4 (j := 10) sX11_isIn_0 rfl
theorem dX11_isIn_11 : decode cX11_isIn 11 = .ok (.goto 4, 3) := kt_o167 (j := 11) sX11_isIn_0 rfl (by decide +kernel)
theorem dX11_isIn_14 : decode cX11_isIn 14 = .ok (.iconst 0, 1) := kt_o3 (j := 14) sX11_isIn_0 rfl
theorem dX11_isIn_15 : decode cX11_isIn 15 = .ok (.ireturn, 1) := kt_o172 (j := 15) sX11_isIn_0 rfl
theorem sX11_fields_0 : kt_sg cX11_fields 0 [42, 180, 0, 7, 42, 180, 0, 13, 104, 172] = true := by decide +kernel
theorem dX11_fields_0 : decode cX11_fields 0 = .ok (.aload_n 0, 1) := kt_o42 (j := 0) sX11_fields_0 rfl
theorem dX11_fields_1 : decode cX11_fields 1 = .ok (.getfield 7, 3) := kt_o180 (j := 1) sX11_fields_0 rfl rfl
theorem dX11_fields_4 : decode cX11_fields 4 = .ok (.aload_n 0, 1) := kt_o42 (j := 4) sX11_fields_0 rfl
theorem dX11_fields_5 : decode cX11_fields 5 = .ok (.getfield 13, 3) := kt_o180 (j := 5) sX11_fields_0 rfl rfl
theorem dX11_fields_8 : decode cX11_fields 8 = .ok (.imul, 1) := kt_o104 (j := 8) sX11_fields_0 rfl
theorem dX11_fields_9 : decode cX11_fields 9 = .ok (.ireturn, 1) := kt_o172 (j := 9) sX11_fields_0 rfl
theorem kt_wp_X11_board__X110 {w : Cond} (h : w ∈ wsX110) : w ∈ wsX11_board := List.mem_cons_of_mem _ (List.mem_append_right _ (h))
set_option maxRecDepth 20000 in
theorem kt_wg_X11_isIn : wsX11_isIn.all goodWord = true := by decide +kernel
set_option maxRecDepth 20000 in
theorem ggX11_board_X11_isIn : GoodIn wsX11_board wsX11_isIn := goodIn_sub (kt_wf1 (List.mem_cons_of_mem _ (List.mem_append_left _ (List.mem_cons_of_mem _ (List.mem_cons_of_mem _ (List.mem_cons_of_mem _ (List.mem_cons_of_mem _ (List.mem_cons_of_mem _ (List.mem_cons_of_mem _ (List.mem_cons_of_mem _ (List.mem_cons_of_mem _ (List.Mem.head _))))))))))) kt_wf0) kt_wg_X11_isIn
set_option maxRecDepth 20000 in
theorem gX11_board_X11_isIn : GoodIn wsX11_board (va_wsS RX11 69 yX11_isIn wsX11_isIn) := goodIn_app (goodIn_of _ (by decide +kernel)) ggX11_board_X11_isIn
theorem sX11_board_0 : kt_sg cX11_board 0 [27, 5, 16, 9, 184, 0, 69, 153, 0, 13, 28, 5, 16, 9, 184, 0, 69, 154, 0, 5, 3, 172, 42, 27, 181, 0, 7, 42, 28, 181, 0, 13, 3, 62, 29, 16, 81, 162, 0, 16, 42, 180, 0, 16, 29, 3, 79, 132, 3, 1, 167, 255, 240, 42, 3, 181, 0, 73, 42, 3, 181, 0, 76, 4] = true := by decide +kernel
theorem dX11_board_0 : decode cX11_board 0 = .ok (.iload_n 1, 1) := kt_o27 (j := 0) sX11_board_0 rfl
theorem dX11_board_1 : decode cX11_board 1 = .ok (.iconst 2, 1) := kt_o5 (j := 1) sX11_board_0 rfl
theorem dX11_board_2 : decode cX11_board 2 = .ok (.bipush 9, 2) := kt_o16 (j := 2) sX11_board_0 rfl (by decide +kernel)
theorem dX11_board_4 : decode cX11_board 4 = .ok (.invokestatic 69, 3) := kt_o184 (j := 4) sX11_board_0 rfl rfl
theorem dX11_board_7 : decode cX11_board 7 = .ok (.ifCond .eq 13, 3) := kt_o153 (j := 7) sX11_board_0 rfl (by decide +kernel)
theorem dX11_board_10 : decode cX11_board 10 = .ok (.iload_n 2, 1) := kt_o28 (j := 10) sX11_board_0 rfl
theorem dX11_board_11 : decode cX11_board 11 = .ok (.iconst 2, 1) := kt_o5 (j := 11) sX11_board_0 rfl
theorem dX11_board_12 : decode cX11_board 12 = .ok (.bipush 9, 2) := kt_o16 (j := 12) sX11_board_0 rfl (by decide +kernel)
theorem dX11_board_14 : decode cX11_board 14 = .ok (.invokestatic 69, 3) := kt_o184 (j := 14) sX11_board_0 rfl rfl
theorem dX11_board_17 : decode cX11_board 17 = .ok (.ifCond .ne 5, 3) := kt_o154 (j := 17) sX11_board_0 rfl (by decide +kernel)
theorem dX11_board_20 : decode cX11_board 20 = .ok (.iconst 0, 1) := kt_o3 (j := 20) sX11_board_0 rfl
theorem dX11_board_21 : decode cX11_board 21 = .ok (.ireturn, 1) := kt_o172 (j := 21) sX11_board_0 rfl
theorem dX11_board_22 : decode cX11_board 22 = .ok (.aload_n 0, 1) := kt_o42 (j := 22) sX11_board_0 rfl
theorem dX11_board_23 : decode cX11_board 23 = .ok (.iload_n 1, 1) := kt_o27 (j := 23) sX11_board_0 rfl
theorem dX11_board_24 : decode cX11_board 24 = .ok (.putfield 7, 3) := kt_o181 (j := 24) sX11_board_0 rfl rfl
theorem dX11_board_27 : decode cX11_board 27 = .ok (.aload_n 0, 1) := kt_o42 (j := 27) sX11_board_0 rfl
theorem dX11_board_28 : decode cX11_board 28 = .ok (.iload_n 2, 1) := kt_o28 (j := 28) sX11_board_0 rfl
theorem dX11_board_29 : decode cX11_board 29 = .ok (.putfield 13, 3) := kt_o181 (j := 29) sX11_board_0 rfl rfl
theorem dX11_board_32 : decode cX11_board 32 = .ok (.iconst 0, 1) := kt_o3 (j := 32) sX11_board_0 rfl
theorem dX11_board_33 : decode cX11_board 33 = .ok (.istore_n 3, 1) := kt_o62 (j := 33) sX11_board_0 rfl
theorem dX11_board_34 : decode cX11_board 34 = .ok (.iload_n 3, 1) := kt_o29 (j := 34) sX11_board_0 rfl
theorem dX11_board_35 : decode cX11_board 35 = .ok (.bipush 81, 2) := kt_o16 (j := 35) sX11_board_0 rfl (by decide +kernel)
theorem dX11_board_37 : decode cX11_board 37 = .ok (.if_icmp .ge 16, 3) := kt_o162 (j := 37) sX11_board_0 rfl (by decide +kernel)
theorem dX11_board_40 : decode cX11_board 40 = .ok (.aload_n 0, 1) := kt_o42 (j := 40) sX11_board_0 rfl
theorem dX11_board_41 : decode cX11_board 41 = .ok (.getfield 16, 3) := kt_o180 (j := 41) sX11_board_0 rfl rfl
theorem dX11_board_44 : decode cX11_board 44 = .ok (.iload_n 3, 1) := kt_o29 (j := 44) sX11_board_0 rfl
theorem dX11_board_45 : decode cX11_board 45 = .ok (.iconst 0, 1) := kt_o3 (j := 45) sX11_board_0 rfl
theorem dX11_board_46 : decode cX11_board 46 = .ok (.iastore, 1) := kt_o79 (j := 46) sX11_board_0 rfl
theorem dX11_board_47 : decode cX11_board 47 = .ok (.iinc 3 1, 3) := kt_o132 (j := 47) sX11_board_0 rfl (by decide +kernel)
theorem dX11_board_50 : decode cX11_board 50 = .ok (.goto (-16), 3) := kt_o167 (j := 50) sX11_board_0 rfl (by decide +kernel)
theorem dX11_board_53 : decode cX11_board 53 = .ok (.aload_n 0, 1) := kt_o42 (j := 53) sX11_board_0 rfl
theorem dX11_board_54 : decode cX11_board 54 = .ok (.iconst 0, 1) := kt_o3 (j := 54) sX11_board_0 rfl
theorem dX11_board_55 : decode cX11_board 55 = .ok (.putfield 73, 3) := kt_o181 (j := 55) sX11_board_0 rfl rfl
theorem dX11_board_58 : decode cX11_board 58 = .ok (.aload_n 0, 1) := kt_o42 (j := 58) sX11_board_0 rfl
theorem dX11_board_59 : decode cX11_board 59 = .ok (.iconst 0, 1) := kt_o3 (j := 59) sX11_board_0 rfl
theorem dX11_board_60 : decode cX11_board 60 = .ok (.putfield 76, 3) := kt_o181 (j := 60) sX11_board_0 rfl rfl
theorem dX11_board_63 : decode cX11_board 63 = .ok (.iconst 1, 1) := kt_o4 (j := 63) sX11_board_0 rfl
theorem sX11_board_64 : kt_sg cX11_board 64 [172] = true := by decide +kernel
theorem dX11_board_64 : decode cX11_board 64 = .ok (.ireturn, 1) := kt_o172 (j := 0) sX11_board_64 rfl
theorem kt_wp_X11_line__X110 {w : Cond} (h : w ∈ wsX110) : w ∈ wsX11_line := List.mem_cons_of_mem _ (List.mem_append_right _ (h))
set_option maxRecDepth 20000 in
theorem ggX11_line_X11_isIn : GoodIn wsX11_line wsX11_isIn := goodIn_sub (kt_wf1 (List.mem_cons_of_mem _ (List.mem_append_left _ (List.mem_cons_of_mem _ (List.mem_cons_of_mem _ (List.mem_cons_of_mem _ (List.mem_cons_of_mem _ (List.mem_cons_of_mem _ (List.mem_cons_of_mem _ (List.mem_cons_of_mem _ (List.Mem.head _)))))))))) kt_wf0) kt_wg_X11_isIn
set_option maxRecDepth 20000 in
theorem gX11_line_X11_isIn : GoodIn wsX11_line (va_wsS RX11 69 yX11_isIn wsX11_isIn) := goodIn_app (goodIn_of _ (by decide +kernel)) ggX11_line_X11_isIn
theorem sX11_line_0 : kt_sg cX11_line 0 [42, 180, 0, 73, 157, 0, 29, 27, 3, 42, 180, 0, 7, 4, 100, 184, 0, 69, 153, 0, 15, 28, 3, 42, 180, 0, 13, 184, 0, 69, 154, 0, 5, 3, 172, 3, 54, 4, 21, 4, 42, 180, 0, 13, 162, 0, 42, 42, 180, 0, 16, 42, 180, 0, 13, 27, 104, 21, 4, 96, 21, 4, 28, 162, 0, 15] = true := by decide +kernel
theorem dX11_line_0 : decode cX11_line 0 = .ok (.aload_n 0, 1) := kt_o42 (j := 0) sX11_line_0 rfl
theorem dX11_line_1 : decode cX11_line 1 = .ok (.getfield 73, 3) := kt_o180 (j := 1) sX11_line_0 rfl rfl
theorem dX11_line_4 : decode cX11_line 4 = .ok (.ifCond .gt 29, 3) := kt_o157 (j := 4) sX11_line_0 rfl (by decide +kernel)
theorem dX11_line_7 : decode cX11_line 7 = .ok (.iload_n 1, 1) := kt_o27 (j := 7) sX11_line_0 rfl
theorem dX11_line_8 : decode cX11_line 8 = .ok (.iconst 0, 1) := kt_o3 (j := 8) sX11_line_0 rfl
theorem dX11_line_9 : decode cX11_line 9 = .ok (.aload_n 0, 1) := kt_o42 (j := 9) sX11_line_0 rfl
theorem dX11_line_10 : decode cX11_line 10 = .ok (.getfield 7, 3) := kt_o180 (j := 10) sX11_line_0 rfl rfl
theorem dX11_line_13 : decode cX11_line 13 = .ok (.iconst 1, 1) := kt_o4 (j := 13) sX11_line_0 rfl
theorem dX11_line_14 : decode cX11_line 14 = .ok (.isub, 1) := kt_o100 (j := 14) sX11_line_0 rfl
theorem dX11_line_15 : decode cX11_line 15 = .ok (.invokestatic 69, 3) := kt_o184 (j := 15) sX11_line_0 rfl rfl
theorem dX11_line_18 : decode cX11_line 18 = .ok (.ifCond .eq 15, 3) := kt_o153 (j := 18) sX11_line_0 rfl (by decide +kernel)
theorem dX11_line_21 : decode cX11_line 21 = .ok (.iload_n 2, 1) := kt_o28 (j := 21) sX11_line_0 rfl
theorem dX11_line_22 : decode cX11_line 22 = .ok (.iconst 0, 1) := kt_o3 (j := 22) sX11_line_0 rfl
theorem dX11_line_23 : decode cX11_line 23 = .ok (.aload_n 0, 1) := kt_o42 (j := 23) sX11_line_0 rfl
theorem dX11_line_24 : decode cX11_line 24 = .ok (.getfield 13, 3) := kt_o180 (j := 24) sX11_line_0 rfl rfl
theorem dX11_line_27 : decode cX11_line 27 = .ok (.invokestatic 69, 3) := kt_o184 (j := 27) sX11_line_0 rfl rfl
theorem dX11_line_30 : decode cX11_line 30 = .ok (.ifCond .ne 5, 3) := kt_o154 (j := 30) sX11_line_0 rfl (by decide +kernel)
theorem dX11_line_33 : decode cX11_line 33 = .ok (.iconst 0, 1) := kt_o3 (j := 33) sX11_line_0 rfl
theorem dX11_line_34 : decode cX11_line 34 = .ok (.ireturn, 1) := kt_o172 (j := 34) sX11_line_0 rfl
theorem dX11_line_35 : decode cX11_line 35 = .ok (.iconst 0, 1) := kt_o3 (j := 35) sX11_line_0 rfl
theorem dX11_line_36 : decode cX11_line 36 = .ok (.istore 4, 2) := kt_o54 (j := 36) sX11_line_0 rfl
theorem dX11_line_38 : decode cX11_line 38 = .ok (.iload 4, 2) := kt_o21 (j := 38) sX11_line_0 rfl
theorem dX11_line_40 : decode cX11_line 40 = .ok (.aload_n 0, 1) := kt_o42 (j := 40) sX11_line_0 rfl
theorem dX11_line_41 : decode cX11_line 41 = .ok (.getfield 13, 3) := kt_o180 (j := 41) sX11_line_0 rfl rfl
theorem dX11_line_44 : decode cX11_line 44 = .ok (.if_icmp .ge 42, 3) := kt_o162 (j := 44) sX11_line_0 rfl (by decide +kernel)
theorem dX11_line_47 : decode cX11_line 47 = .ok (.aload_n 0, 1) := kt_o42 (j := 47) sX11_line_0 rfl
theorem dX11_line_48 : decode cX11_line 48 = .ok (.getfield 16, 3) := kt_o180 (j := 48) sX11_line_0 rfl rfl
theorem dX11_line_51 : decode cX11_line 51 = .ok (.aload_n 0, 1) := kt_o42 (j := 51) sX11_line_0 rfl
theorem dX11_line_52 : decode cX11_line 52 = .ok (.getfield 13, 3) := kt_o180 (j := 52) sX11_line_0 rfl rfl
theorem dX11_line_55 : decode cX11_line 55 = .ok (.iload_n 1, 1) := kt_o27 (j := 55) sX11_line_0 rfl
theorem dX11_line_56 : decode cX11_line 56 = .ok (.imul, 1) := kt_o104 (j := 56) sX11_line_0 rfl
theorem dX11_line_57 : decode cX11_line 57 = .ok (.iload 4, 2) := kt_o21 (j := 57) sX11_line_0 rfl
theorem dX11_line_59 : decode cX11_line 59 = .ok (.iadd, 1) := kt_o96 (j := 59) sX11_line_0 rfl
theorem dX11_line_60 : decode cX11_line 60 = .ok (.iload 4, 2) := kt_o21 (j := 60) sX11_line_0 rfl
theorem dX11_line_62 : decode cX11_line 62 = .ok (.iload_n 2, 1) := kt_o28 (j := 62) sX11_line_0 rfl
theorem dX11_line_63 : decode cX11_line 63 = .ok (.if_icmp .ge 15, 3) := kt_o162 (j := 63) sX11_line_0 rfl (by decide +kernel)
theorem sX11_line_66 : kt_sg cX11_line 66 [29, 6, 21, 4, 104, 122, 16, 7, 126, 167, 0, 4, 3, 79, 132, 4, 1, 167, 255, 211, 4, 172] = true := by decide +kernel
theorem dX11_line_66 : decode cX11_line 66 = .ok (.iload_n 3, 1) := kt_o29 (j := 0) sX11_line_66 rfl
theorem dX11_line_67 : decode cX11_line 67 = .ok (.iconst 3, 1) := kt_o6 (j := 1) sX11_line_66 rfl
theorem dX11_line_68 : decode cX11_line 68 = .ok (.iload 4, 2) := kt_o21 (j := 2) sX11_line_66 rfl
theorem dX11_line_70 : decode cX11_line 70 = .ok (.imul, 1) := kt_o104 (j := 4) sX11_line_66 rfl
theorem dX11_line_71 : decode cX11_line 71 = .ok (.ishr, 1) := kt_o122 (j := 5) sX11_line_66 rfl
theorem dX11_line_72 : decode cX11_line 72 = .ok (.bipush 7, 2) := kt_o16 (j := 6) sX11_line_66 rfl (by decide +kernel)
theorem dX11_line_74 : decode cX11_line 74 = .ok (.iand, 1) := kt_o126 (j := 8) sX11_line_66 rfl
theorem dX11_line_75 : decode cX11_line 75 = .ok (.goto 4, 3) := kt_o167 (j := 9) sX11_line_66 rfl (by decide +kernel)
theorem dX11_line_78 : decode cX11_line 78 = .ok (.iconst 0, 1) := kt_o3 (j := 12) sX11_line_66 rfl
theorem dX11_line_79 : decode cX11_line 79 = .ok (.iastore, 1) := kt_o79 (j := 13) sX11_line_66 rfl
theorem dX11_line_80 : decode cX11_line 80 = .ok (.iinc 4 1, 3) := kt_o132 (j := 14) sX11_line_66 rfl (by decide +kernel)
theorem dX11_line_83 : decode cX11_line 83 = .ok (.goto (-45), 3) := kt_o167 (j := 17) sX11_line_66 rfl (by decide +kernel)
theorem dX11_line_86 : decode cX11_line 86 = .ok (.iconst 1, 1) := kt_o4 (j := 20) sX11_line_66 rfl
theorem dX11_line_87 : decode cX11_line 87 = .ok (.ireturn, 1) := kt_o172 (j := 21) sX11_line_66 rfl
theorem kt_wp_X11_law__X110 {w : Cond} (h : w ∈ wsX110) : w ∈ wsX11_law := List.mem_cons_of_mem _ (List.mem_append_right _ (h))
set_option maxRecDepth 20000 in
theorem ggX11_law_X11_isIn : GoodIn wsX11_law wsX11_isIn := goodIn_sub (kt_wf1 (List.mem_cons_of_mem _ (List.mem_append_left _ (List.mem_cons_of_mem _ (List.mem_cons_of_mem _ (List.mem_cons_of_mem _ (List.mem_cons_of_mem _ (List.mem_cons_of_mem _ (List.mem_cons_of_mem _ (List.mem_cons_of_mem _ (List.mem_cons_of_mem _ (List.mem_cons_of_mem _ (List.Mem.head _)))))))))))) kt_wf0) kt_wg_X11_isIn
set_option maxRecDepth 20000 in
theorem gX11_law_X11_isIn : GoodIn wsX11_law (va_wsS RX11 69 yX11_isIn wsX11_isIn) := goodIn_app (goodIn_of _ (by decide +kernel)) ggX11_law_X11_isIn
theorem sX11_law_0 : kt_sg cX11_law 0 [42, 180, 0, 73, 157, 0, 43, 27, 3, 4, 184, 0, 69, 153, 0, 34, 28, 5, 159, 0, 8, 28, 7, 160, 0, 24, 21, 4, 3, 16, 8, 184, 0, 69, 153, 0, 13, 21, 5, 3, 4, 184, 0, 69, 154, 0, 5, 3, 172, 42, 27, 181, 0, 79, 42, 28, 181, 0, 20, 42, 29, 181, 0, 23] = true := by decide +kernel
theorem dX11_law_0 : decode cX11_law 0 = .ok (.aload_n 0, 1) := kt_o42 (j := 0) sX11_law_0 rfl
theorem dX11_law_1 : decode cX11_law 1 = .ok (.getfield 73, 3) := kt_o180 (j := 1) sX11_law_0 rfl rfl
theorem dX11_law_4 : decode cX11_law 4 = .ok (.ifCond .gt 43, 3) := kt_o157 (j := 4) sX11_law_0 rfl (by decide +kernel)
theorem dX11_law_7 : decode cX11_law 7 = .ok (.iload_n 1, 1) := kt_o27 (j := 7) sX11_law_0 rfl
theorem dX11_law_8 : decode cX11_law 8 = .ok (.iconst 0, 1) := kt_o3 (j := 8) sX11_law_0 rfl
theorem dX11_law_9 : decode cX11_law 9 = .ok (.iconst 1, 1) := kt_o4 (j := 9) sX11_law_0 rfl
theorem dX11_law_10 : decode cX11_law 10 = .ok (.invokestatic 69, 3) := kt_o184 (j := 10) sX11_law_0 rfl rfl
theorem dX11_law_13 : decode cX11_law 13 = .ok (.ifCond .eq 34, 3) := kt_o153 (j := 13) sX11_law_0 rfl (by decide +kernel)
theorem dX11_law_16 : decode cX11_law 16 = .ok (.iload_n 2, 1) := kt_o28 (j := 16) sX11_law_0 rfl
theorem dX11_law_17 : decode cX11_law 17 = .ok (.iconst 2, 1) := kt_o5 (j := 17) sX11_law_0 rfl
theorem dX11_law_18 : decode cX11_law 18 = .ok (.if_icmp .eq 8, 3) := kt_o159 (j := 18) sX11_law_0 rfl (by decide +kernel)
theorem dX11_law_21 : decode cX11_law 21 = .ok (.iload_n 2, 1) := kt_o28 (j := 21) sX11_law_0 rfl
theorem dX11_law_22 : decode cX11_law 22 = .ok (.iconst 4, 1) := kt_o7 (j := 22) sX11_law_0 rfl
theorem dX11_law_23 : decode cX11_law 23 = .ok (.if_icmp .ne 24, 3) := kt_o160 (j := 23) sX11_law_0 rfl (by decide +kernel)
theorem dX11_law_26 : decode cX11_law 26 = .ok (.iload 4, 2) := kt_o21 (j := 26) sX11_law_0 rfl
theorem dX11_law_28 : decode cX11_law 28 = .ok (.iconst 0, 1) := kt_o3 (j := 28) sX11_law_0 rfl
theorem dX11_law_29 : decode cX11_law 29 = .ok (.bipush 8, 2) := kt_o16 (j := 29) sX11_law_0 rfl (by decide +kernel)
theorem dX11_law_31 : decode cX11_law 31 = .ok (.invokestatic 69, 3) := kt_o184 (j := 31) sX11_law_0 rfl rfl
theorem dX11_law_34 : decode cX11_law 34 = .ok (.ifCond .eq 13, 3) := kt_o153 (j := 34) sX11_law_0 rfl (by decide +kernel)
theorem dX11_law_37 : decode cX11_law 37 = .ok (.iload 5, 2) := kt_o21 (j := 37) sX11_law_0 rfl
theorem dX11_law_39 : decode cX11_law 39 = .ok (.iconst 0, 1) := kt_o3 (j := 39) sX11_law_0 rfl
theorem dX11_law_40 : decode cX11_law 40 = .ok (.iconst 1, 1) := kt_o4 (j := 40) sX11_law_0 rfl
theorem dX11_law_41 : decode cX11_law 41 = .ok (.invokestatic 69, 3) := kt_o184 (j := 41) sX11_law_0 rfl rfl
theorem dX11_law_44 : decode cX11_law 44 = .ok (.ifCond .ne 5, 3) := kt_o154 (j := 44) sX11_law_0 rfl (by decide +kernel)
theorem dX11_law_47 : decode cX11_law 47 = .ok (.iconst 0, 1) := kt_o3 (j := 47) sX11_law_0 rfl
theorem dX11_law_48 : decode cX11_law 48 = .ok (.ireturn, 1) := kt_o172 (j := 48) sX11_law_0 rfl
theorem dX11_law_49 : decode cX11_law 49 = .ok (.aload_n 0, 1) := kt_o42 (j := 49) sX11_law_0 rfl
theorem dX11_law_50 : decode cX11_law 50 = .ok (.iload_n 1, 1) := kt_o27 (j := 50) sX11_law_0 rfl
theorem dX11_law_51 : decode cX11_law 51 = .ok (.putfield 79, 3) := kt_o181 (j := 51) sX11_law_0 rfl rfl
theorem dX11_law_54 : decode cX11_law 54 = .ok (.aload_n 0, 1) := kt_o42 (j := 54) sX11_law_0 rfl
theorem dX11_law_55 : decode cX11_law 55 = .ok (.iload_n 2, 1) := kt_o28 (j := 55) sX11_law_0 rfl
theorem dX11_law_56 : decode cX11_law 56 = .ok (.putfield 20, 3) := kt_o181 (j := 56) sX11_law_0 rfl rfl
theorem dX11_law_59 : decode cX11_law 59 = .ok (.aload_n 0, 1) := kt_o42 (j := 59) sX11_law_0 rfl
theorem dX11_law_60 : decode cX11_law 60 = .ok (.iload_n 3, 1) := kt_o29 (j := 60) sX11_law_0 rfl
theorem dX11_law_61 : decode cX11_law 61 = .ok (.putfield 23, 3) := kt_o181 (j := 61) sX11_law_0 rfl rfl
theorem sX11_law_64 : kt_sg cX11_law 64 [42, 21, 4, 181, 0, 82, 42, 21, 5, 181, 0, 85, 4, 172] = true := by decide +kernel
theorem dX11_law_64 : decode cX11_law 64 = .ok (.aload_n 0, 1) := kt_o42 (j := 0) sX11_law_64 rfl
theorem dX11_law_65 : decode cX11_law 65 = .ok (.iload 4, 2) := kt_o21 (j := 1) sX11_law_64 rfl
theorem dX11_law_67 : decode cX11_law 67 = .ok (.putfield 82, 3) := kt_o181 (j := 3) sX11_law_64 rfl rfl
theorem dX11_law_70 : decode cX11_law 70 = .ok (.aload_n 0, 1) := kt_o42 (j := 6) sX11_law_64 rfl
theorem dX11_law_71 : decode cX11_law 71 = .ok (.iload 5, 2) := kt_o21 (j := 7) sX11_law_64 rfl
theorem dX11_law_73 : decode cX11_law 73 = .ok (.putfield 85, 3) := kt_o181 (j := 9) sX11_law_64 rfl rfl
theorem dX11_law_76 : decode cX11_law 76 = .ok (.iconst 1, 1) := kt_o4 (j := 12) sX11_law_64 rfl
theorem dX11_law_77 : decode cX11_law 77 = .ok (.ireturn, 1) := kt_o172 (j := 13) sX11_law_64 rfl
theorem sX11_sideOf_0 : kt_sg cX11_sideOf 0 [42, 180, 0, 27, 27, 46, 5, 164, 0, 7, 4, 167, 0, 4, 3, 172] = true := by decide +kernel
theorem dX11_sideOf_0 : decode cX11_sideOf 0 = .ok (.aload_n 0, 1) := kt_o42 (j := 0) sX11_sideOf_0 rfl
theorem dX11_sideOf_1 : decode cX11_sideOf 1 = .ok (.getfield 27, 3) := kt_o180 (j := 1) sX11_sideOf_0 rfl rfl
theorem dX11_sideOf_4 : decode cX11_sideOf 4 = .ok (.iload_n 1, 1) := kt_o27 (j := 4) sX11_sideOf_0 rfl
theorem dX11_sideOf_5 : decode cX11_sideOf 5 = .ok (.iaload, 1) := kt_o46 (j := 5) sX11_sideOf_0 rfl
theorem dX11_sideOf_6 : decode cX11_sideOf 6 = .ok (.iconst 2, 1) := kt_o5 (j := 6) sX11_sideOf_0 rfl
theorem dX11_sideOf_7 : decode cX11_sideOf 7 = .ok (.if_icmp .le 7, 3) := kt_o164 (j := 7) sX11_sideOf_0 rfl (by decide +kernel)
theorem dX11_sideOf_10 : decode cX11_sideOf 10 = .ok (.iconst 1, 1) := kt_o4 (j := 10) sX11_sideOf_0 rfl
theorem dX11_sideOf_11 : decode cX11_sideOf 11 = .ok (.goto 4, 3) := kt_o167 (j := 11) sX11_sideOf_0 rfl (by decide +kernel)
theorem dX11_sideOf_14 : decode cX11_sideOf 14 = .ok (.iconst 0, 1) := kt_o3 (j := 14) sX11_sideOf_0 rfl
theorem dX11_sideOf_15 : decode cX11_sideOf 15 = .ok (.ireturn, 1) := kt_o172 (j := 15) sX11_sideOf_0 rfl
theorem sX11_takes_0 : kt_sg cX11_takes 0 [42, 180, 0, 27, 27, 46, 5, 160, 0, 10, 42, 180, 0, 23, 153, 0, 7, 4, 167, 0, 4, 3, 172] = true := by decide +kernel
theorem dX11_takes_0 : decode cX11_takes 0 = .ok (.aload_n 0, 1) := kt_o42 (j := 0) sX11_takes_0 rfl
theorem dX11_takes_1 : decode cX11_takes 1 = .ok (.getfield 27, 3) := kt_o180 (j := 1) sX11_takes_0 rfl rfl
theorem dX11_takes_4 : decode cX11_takes 4 = .ok (.iload_n 1, 1) := kt_o27 (j := 4) sX11_takes_0 rfl
theorem dX11_takes_5 : decode cX11_takes 5 = .ok (.iaload, 1) := kt_o46 (j := 5) sX11_takes_0 rfl
theorem dX11_takes_6 : decode cX11_takes 6 = .ok (.iconst 2, 1) := kt_o5 (j := 6) sX11_takes_0 rfl
theorem dX11_takes_7 : decode cX11_takes 7 = .ok (.if_icmp .ne 10, 3) := kt_o160 (j := 7) sX11_takes_0 rfl (by decide +kernel)
theorem dX11_takes_10 : decode cX11_takes 10 = .ok (.aload_n 0, 1) := kt_o42 (j := 10) sX11_takes_0 rfl
theorem dX11_takes_11 : decode cX11_takes 11 = .ok (.getfield 23, 3) := kt_o180 (j := 11) sX11_takes_0 rfl rfl
theorem dX11_takes_14 : decode cX11_takes 14 = .ok (.ifCond .eq 7, 3) := kt_o153 (j := 14) sX11_takes_0 rfl (by decide +kernel)
theorem dX11_takes_17 : decode cX11_takes 17 = .ok (.iconst 1, 1) := kt_o4 (j := 17) sX11_takes_0 rfl
theorem dX11_takes_18 : decode cX11_takes 18 = .ok (.goto 4, 3) := kt_o167 (j := 18) sX11_takes_0 rfl (by decide +kernel)
theorem dX11_takes_21 : decode cX11_takes 21 = .ok (.iconst 0, 1) := kt_o3 (j := 21) sX11_takes_0 rfl
theorem dX11_takes_22 : decode cX11_takes 22 = .ok (.ireturn, 1) := kt_o172 (j := 22) sX11_takes_0 rfl
theorem kt_wp_X11_isGoal__X110 {w : Cond} (h : w ∈ wsX110) : w ∈ wsX11_isGoal := List.mem_cons_of_mem _ (List.mem_append_right _ (h))
set_option maxRecDepth 20000 in
theorem kt_wg_X11_fields : wsX11_fields.all goodWord = true := by decide +kernel
set_option maxRecDepth 20000 in
theorem ggX11_isGoal_X11_fields : GoodIn wsX11_isGoal wsX11_fields := goodIn_sub (kt_wf1 (List.mem_cons_of_mem _ (List.mem_append_left _ (List.mem_cons_of_mem _ (List.mem_cons_of_mem _ (List.mem_cons_of_mem _ (List.mem_cons_of_mem _ (List.mem_cons_of_mem _ (List.mem_cons_of_mem _ (List.mem_cons_of_mem _ (List.Mem.head _)))))))))) (kt_wfa (kt_wf1 (List.mem_cons_of_mem _ (List.mem_append_left _ (List.mem_cons_of_mem _ (List.mem_cons_of_mem _ (List.mem_cons_of_mem _ (List.mem_cons_of_mem _ (List.mem_cons_of_mem _ (List.mem_cons_of_mem _ (List.mem_cons_of_mem _ (List.mem_cons_of_mem _ (List.Mem.head _))))))))))) (kt_wf1 (List.mem_cons_of_mem _ (List.mem_append_left _ (List.mem_cons_of_mem _ (List.mem_cons_of_mem _ (List.Mem.head _))))) kt_wf0)) (fun _ h => kt_wp_X11_isGoal__X110 h))) kt_wg_X11_fields
set_option maxRecDepth 20000 in
theorem gX11_isGoal_X11_fields : GoodIn wsX11_isGoal (wsV RX11 88 RX11 yX11_fields wsX11_fields) := goodIn_app (a := [.methodLink RX11 88 yX11_fields, .instanceMethod yX11_fields, .selects RX11 yX11_fields yX11_fields, .initialized RX11]) (goodIn_sub (kt_wf1 (List.mem_cons_of_mem _ (List.mem_append_left _ (List.mem_cons_of_mem _ (List.mem_cons_of_mem _ (List.mem_cons_of_mem _ (List.Mem.head _)))))) (kt_wf1 (List.mem_cons_of_mem _ (List.mem_append_left _ (List.mem_cons_of_mem _ (List.mem_cons_of_mem _ (List.mem_cons_of_mem _ (List.mem_cons_of_mem _ (List.Mem.head _))))))) (kt_wf1 (List.mem_cons_of_mem _ (List.mem_append_left _ (List.mem_cons_of_mem _ (List.mem_cons_of_mem _ (List.mem_cons_of_mem _ (List.mem_cons_of_mem _ (List.mem_cons_of_mem _ (List.Mem.head _)))))))) (kt_wf1 (List.mem_cons_of_mem _ (List.mem_append_left _ (List.mem_cons_of_mem _ (List.mem_cons_of_mem _ (List.mem_cons_of_mem _ (List.mem_cons_of_mem _ (List.mem_cons_of_mem _ (List.mem_cons_of_mem _ (List.Mem.head _))))))))) kt_wf0)))) (by decide +kernel)) ggX11_isGoal_X11_fields
theorem sX11_isGoal_0 : kt_sg cX11_isGoal 0 [42, 180, 0, 79, 154, 0, 20, 42, 180, 0, 36, 27, 46, 16, 6, 160, 0, 7, 4, 167, 0, 4, 3, 172, 27, 42, 180, 0, 13, 161, 0, 40, 27, 42, 182, 0, 88, 42, 180, 0, 13, 100, 162, 0, 27, 27, 42, 180, 0, 13, 112, 153, 0, 18, 27, 42, 180, 0, 13, 112, 42, 180, 0, 13] = true := by decide +kernel
theorem dX11_isGoal_0 : decode cX11_isGoal 0 = .ok (.aload_n 0, 1) := kt_o42 (j := 0) sX11_isGoal_0 rfl
theorem dX11_isGoal_1 : decode cX11_isGoal 1 = .ok (.getfield 79, 3) := kt_o180 (j := 1) sX11_isGoal_0 rfl rfl
theorem dX11_isGoal_4 : decode cX11_isGoal 4 = .ok (.ifCond .ne 20, 3) := kt_o154 (j := 4) sX11_isGoal_0 rfl (by decide +kernel)
theorem dX11_isGoal_7 : decode cX11_isGoal 7 = .ok (.aload_n 0, 1) := kt_o42 (j := 7) sX11_isGoal_0 rfl
theorem dX11_isGoal_8 : decode cX11_isGoal 8 = .ok (.getfield 36, 3) := kt_o180 (j := 8) sX11_isGoal_0 rfl rfl
theorem dX11_isGoal_11 : decode cX11_isGoal 11 = .ok (.iload_n 1, 1) := kt_o27 (j := 11) sX11_isGoal_0 rfl
theorem dX11_isGoal_12 : decode cX11_isGoal 12 = .ok (.iaload, 1) := kt_o46 (j := 12) sX11_isGoal_0 rfl
theorem dX11_isGoal_13 : decode cX11_isGoal 13 = .ok (.bipush 6, 2) := kt_o16 (j := 13) sX11_isGoal_0 rfl (by decide +kernel)
theorem dX11_isGoal_15 : decode cX11_isGoal 15 = .ok (.if_icmp .ne 7, 3) := kt_o160 (j := 15) sX11_isGoal_0 rfl (by decide +kernel)
theorem dX11_isGoal_18 : decode cX11_isGoal 18 = .ok (.iconst 1, 1) := kt_o4 (j := 18) sX11_isGoal_0 rfl
theorem dX11_isGoal_19 : decode cX11_isGoal 19 = .ok (.goto 4, 3) := kt_o167 (j := 19) sX11_isGoal_0 rfl (by decide +kernel)
theorem dX11_isGoal_22 : decode cX11_isGoal 22 = .ok (.iconst 0, 1) := kt_o3 (j := 22) sX11_isGoal_0 rfl
theorem dX11_isGoal_23 : decode cX11_isGoal 23 = .ok (.ireturn, 1) := kt_o172 (j := 23) sX11_isGoal_0 rfl
theorem dX11_isGoal_24 : decode cX11_isGoal 24 = .ok (.iload_n 1, 1) := kt_o27 (j := 24) sX11_isGoal_0 rfl
theorem dX11_isGoal_25 : decode cX11_isGoal 25 = .ok (.aload_n 0, 1) := kt_o42 (j := 25) sX11_isGoal_0 rfl
theorem dX11_isGoal_26 : decode cX11_isGoal 26 = .ok (.getfield 13, 3) := kt_o180 (j := 26) sX11_isGoal_0 rfl rfl
theorem dX11_isGoal_29 : decode cX11_isGoal 29 = .ok (.if_icmp .lt 40, 3) := kt_o161 (j := 29) sX11_isGoal_0 rfl (by decide +kernel)
theorem dX11_isGoal_32 : decode cX11_isGoal 32 = .ok (.iload_n 1, 1) := kt_o27 (j := 32) sX11_isGoal_0 rfl
theorem dX11_isGoal_33 : decode cX11_isGoal 33 = .ok (.aload_n 0, 1) := kt_o42 (j := 33) sX11_isGoal_0 rfl
theorem dX11_isGoal_34 : decode cX11_isGoal 34 = .ok (.invokevirtual 88, 3) := kt_o182 (j := 34) sX11_isGoal_0 rfl rfl
theorem dX11_isGoal_37 : decode cX11_isGoal 37 = .ok (.aload_n 0, 1) := kt_o42 (j := 37) sX11_isGoal_0 rfl
theorem dX11_isGoal_38 : decode cX11_isGoal 38 = .ok (.getfield 13, 3) := kt_o180 (j := 38) sX11_isGoal_0 rfl rfl
theorem dX11_isGoal_41 : decode cX11_isGoal 41 = .ok (.isub, 1) := kt_o100 (j := 41) sX11_isGoal_0 rfl
theorem dX11_isGoal_42 : decode cX11_isGoal 42 = .ok (.if_icmp .ge 27, 3) := kt_o162 (j := 42) sX11_isGoal_0 rfl (by decide +kernel)
theorem dX11_isGoal_45 : decode cX11_isGoal 45 = .ok (.iload_n 1, 1) := kt_o27 (j := 45) sX11_isGoal_0 rfl
theorem dX11_isGoal_46 : decode cX11_isGoal 46 = .ok (.aload_n 0, 1) := kt_o42 (j := 46) sX11_isGoal_0 rfl
