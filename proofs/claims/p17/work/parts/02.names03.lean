theorem dX11_isGoal_47 : decode cX11_isGoal 47 = .ok (.getfield 13, 3) := kt_o180 (j := 47) sX11_isGoal_0 rfl rfl
theorem dX11_isGoal_50 : decode cX11_isGoal 50 = .ok (.irem, 1) := kt_o112 (j := 50) sX11_isGoal_0 rfl
theorem dX11_isGoal_51 : decode cX11_isGoal 51 = .ok (.ifCond .eq 18, 3) := kt_o153 (j := 51) sX11_isGoal_0 rfl (by decide +kernel)
theorem dX11_isGoal_54 : decode cX11_isGoal 54 = .ok (.iload_n 1, 1) := kt_o27 (j := 54) sX11_isGoal_0 rfl
theorem dX11_isGoal_55 : decode cX11_isGoal 55 = .ok (.aload_n 0, 1) := kt_o42 (j := 55) sX11_isGoal_0 rfl
theorem dX11_isGoal_56 : decode cX11_isGoal 56 = .ok (.getfield 13, 3) := kt_o180 (j := 56) sX11_isGoal_0 rfl rfl
theorem dX11_isGoal_59 : decode cX11_isGoal 59 = .ok (.irem, 1) := kt_o112 (j := 59) sX11_isGoal_0 rfl
theorem dX11_isGoal_60 : decode cX11_isGoal 60 = .ok (.aload_n 0, 1) := kt_o42 (j := 60) sX11_isGoal_0 rfl
theorem dX11_isGoal_61 : decode cX11_isGoal 61 = .ok (.getfield 13, 3) := kt_o180 (j := 61) sX11_isGoal_0 rfl rfl
theorem sX11_isGoal_64 : kt_sg cX11_isGoal 64 [4, 100, 160, 0, 7, 4, 167, 0, 4, 3, 172] = true := by decide +kernel
theorem dX11_isGoal_64 : decode cX11_isGoal 64 = .ok (.iconst 1, 1) := kt_o4 (j := 0) sX11_isGoal_64 rfl
theorem dX11_isGoal_65 : decode cX11_isGoal 65 = .ok (.isub, 1) := kt_o100 (j := 1) sX11_isGoal_64 rfl
theorem dX11_isGoal_66 : decode cX11_isGoal 66 = .ok (.if_icmp .ne 7, 3) := kt_o160 (j := 2) sX11_isGoal_64 rfl (by decide +kernel)
theorem dX11_isGoal_69 : decode cX11_isGoal 69 = .ok (.iconst 1, 1) := kt_o4 (j := 5) sX11_isGoal_64 rfl
theorem dX11_isGoal_70 : decode cX11_isGoal 70 = .ok (.goto 4, 3) := kt_o167 (j := 6) sX11_isGoal_64 rfl (by decide +kernel)
theorem dX11_isGoal_73 : decode cX11_isGoal 73 = .ok (.iconst 0, 1) := kt_o3 (j := 9) sX11_isGoal_64 rfl
theorem dX11_isGoal_74 : decode cX11_isGoal 74 = .ok (.ireturn, 1) := kt_o172 (j := 10) sX11_isGoal_64 rfl
theorem sX11_bears_0 : kt_sg cX11_bears 0 [42, 180, 0, 36, 27, 46, 153, 0, 13, 42, 180, 0, 27, 28, 46, 5, 160, 0, 7, 4, 167, 0, 4, 3, 172] = true := by decide +kernel
theorem dX11_bears_0 : decode cX11_bears 0 = .ok (.aload_n 0, 1) := kt_o42 (j := 0) sX11_bears_0 rfl
theorem dX11_bears_1 : decode cX11_bears 1 = .ok (.getfield 36, 3) := kt_o180 (j := 1) sX11_bears_0 rfl rfl
theorem dX11_bears_4 : decode cX11_bears 4 = .ok (.iload_n 1, 1) := kt_o27 (j := 4) sX11_bears_0 rfl
theorem dX11_bears_5 : decode cX11_bears 5 = .ok (.iaload, 1) := kt_o46 (j := 5) sX11_bears_0 rfl
theorem dX11_bears_6 : decode cX11_bears 6 = .ok (.ifCond .eq 13, 3) := kt_o153 (j := 6) sX11_bears_0 rfl (by decide +kernel)
theorem dX11_bears_9 : decode cX11_bears 9 = .ok (.aload_n 0, 1) := kt_o42 (j := 9) sX11_bears_0 rfl
theorem dX11_bears_10 : decode cX11_bears 10 = .ok (.getfield 27, 3) := kt_o180 (j := 10) sX11_bears_0 rfl rfl
theorem dX11_bears_13 : decode cX11_bears 13 = .ok (.iload_n 2, 1) := kt_o28 (j := 13) sX11_bears_0 rfl
theorem dX11_bears_14 : decode cX11_bears 14 = .ok (.iaload, 1) := kt_o46 (j := 14) sX11_bears_0 rfl
theorem dX11_bears_15 : decode cX11_bears 15 = .ok (.iconst 2, 1) := kt_o5 (j := 15) sX11_bears_0 rfl
theorem dX11_bears_16 : decode cX11_bears 16 = .ok (.if_icmp .ne 7, 3) := kt_o160 (j := 16) sX11_bears_0 rfl (by decide +kernel)
theorem dX11_bears_19 : decode cX11_bears 19 = .ok (.iconst 1, 1) := kt_o4 (j := 19) sX11_bears_0 rfl
theorem dX11_bears_20 : decode cX11_bears 20 = .ok (.goto 4, 3) := kt_o167 (j := 20) sX11_bears_0 rfl (by decide +kernel)
theorem dX11_bears_23 : decode cX11_bears 23 = .ok (.iconst 0, 1) := kt_o3 (j := 23) sX11_bears_0 rfl
theorem dX11_bears_24 : decode cX11_bears 24 = .ok (.ireturn, 1) := kt_o172 (j := 24) sX11_bears_0 rfl
theorem sX11_along_0 : kt_sg cX11_along 0 [27, 42, 180, 0, 13, 108, 54, 4, 27, 42, 180, 0, 13, 112, 54, 5, 28, 154, 0, 8, 21, 4, 167, 0, 39, 28, 4, 160, 0, 15, 42, 180, 0, 13, 4, 100, 21, 5, 100, 167, 0, 22, 28, 5, 160, 0, 15, 42, 180, 0, 7, 4, 100, 21, 4, 100, 167, 0, 5, 21, 5, 54, 6, 29] = true := by decide +kernel
theorem dX11_along_0 : decode cX11_along 0 = .ok (.iload_n 1, 1) := kt_o27 (j := 0) sX11_along_0 rfl
theorem dX11_along_1 : decode cX11_along 1 = .ok (.aload_n 0, 1) := kt_o42 (j := 1) sX11_along_0 rfl
theorem dX11_along_2 : decode cX11_along 2 = .ok (.getfield 13, 3) := kt_o180 (j := 2) sX11_along_0 rfl rfl
theorem dX11_along_5 : decode cX11_along 5 = .ok (.idiv, 1) := kt_o108 (j := 5) sX11_along_0 rfl
theorem dX11_along_6 : decode cX11_along 6 = .ok (.istore 4, 2) := kt_o54 (j := 6) sX11_along_0 rfl
theorem dX11_along_8 : decode cX11_along 8 = .ok (.iload_n 1, 1) := kt_o27 (j := 8) sX11_along_0 rfl
theorem dX11_along_9 : decode cX11_along 9 = .ok (.aload_n 0, 1) := kt_o42 (j := 9) sX11_along_0 rfl
theorem dX11_along_10 : decode cX11_along 10 = .ok (.getfield 13, 3) := kt_o180 (j := 10) sX11_along_0 rfl rfl
theorem dX11_along_13 : decode cX11_along 13 = .ok (.irem, 1) := kt_o112 (j := 13) sX11_along_0 rfl
theorem dX11_along_14 : decode cX11_along 14 = .ok (.istore 5, 2) := kt_o54 (j := 14) sX11_along_0 rfl
theorem dX11_along_16 : decode cX11_along 16 = .ok (.iload_n 2, 1) := kt_o28 (j := 16) sX11_along_0 rfl
theorem dX11_along_17 : decode cX11_along 17 = .ok (.ifCond .ne 8, 3) := kt_o154 (j := 17) sX11_along_0 rfl (by decide +kernel)
theorem dX11_along_20 : decode cX11_along 20 = .ok (.iload 4, 2) := kt_o21 (j := 20) sX11_along_0 rfl
theorem dX11_along_22 : decode cX11_along 22 = .ok (.goto 39, 3) := kt_o167 (j := 22) sX11_along_0 rfl (by decide +kernel)
theorem dX11_along_25 : decode cX11_along 25 = .ok (.iload_n 2, 1) := kt_o28 (j := 25) sX11_along_0 rfl
theorem dX11_along_26 : decode cX11_along 26 = .ok (.iconst 1, 1) := kt_o4 (j := 26) sX11_along_0 rfl
theorem dX11_along_27 : decode cX11_along 27 = .ok (.if_icmp .ne 15, 3) := kt_o160 (j := 27) sX11_along_0 rfl (by decide +kernel)
theorem dX11_along_30 : decode cX11_along 30 = .ok (.aload_n 0, 1) := kt_o42 (j := 30) sX11_along_0 rfl
theorem dX11_along_31 : decode cX11_along 31 = .ok (.getfield 13, 3) := kt_o180 (j := 31) sX11_along_0 rfl rfl
theorem dX11_along_34 : decode cX11_along 34 = .ok (.iconst 1, 1) := kt_o4 (j := 34) sX11_along_0 rfl
theorem dX11_along_35 : decode cX11_along 35 = .ok (.isub, 1) := kt_o100 (j := 35) sX11_along_0 rfl
theorem dX11_along_36 : decode cX11_along 36 = .ok (.iload 5, 2) := kt_o21 (j := 36) sX11_along_0 rfl
theorem dX11_along_38 : decode cX11_along 38 = .ok (.isub, 1) := kt_o100 (j := 38) sX11_along_0 rfl
theorem dX11_along_39 : decode cX11_along 39 = .ok (.goto 22, 3) := kt_o167 (j := 39) sX11_along_0 rfl (by decide +kernel)
theorem dX11_along_42 : decode cX11_along 42 = .ok (.iload_n 2, 1) := kt_o28 (j := 42) sX11_along_0 rfl
theorem dX11_along_43 : decode cX11_along 43 = .ok (.iconst 2, 1) := kt_o5 (j := 43) sX11_along_0 rfl
theorem dX11_along_44 : decode cX11_along 44 = .ok (.if_icmp .ne 15, 3) := kt_o160 (j := 44) sX11_along_0 rfl (by decide +kernel)
theorem dX11_along_47 : decode cX11_along 47 = .ok (.aload_n 0, 1) := kt_o42 (j := 47) sX11_along_0 rfl
theorem dX11_along_48 : decode cX11_along 48 = .ok (.getfield 7, 3) := kt_o180 (j := 48) sX11_along_0 rfl rfl
theorem dX11_along_51 : decode cX11_along 51 = .ok (.iconst 1, 1) := kt_o4 (j := 51) sX11_along_0 rfl
theorem dX11_along_52 : decode cX11_along 52 = .ok (.isub, 1) := kt_o100 (j := 52) sX11_along_0 rfl
theorem dX11_along_53 : decode cX11_along 53 = .ok (.iload 4, 2) := kt_o21 (j := 53) sX11_along_0 rfl
theorem dX11_along_55 : decode cX11_along 55 = .ok (.isub, 1) := kt_o100 (j := 55) sX11_along_0 rfl
theorem dX11_along_56 : decode cX11_along 56 = .ok (.goto 5, 3) := kt_o167 (j := 56) sX11_along_0 rfl (by decide +kernel)
theorem dX11_along_59 : decode cX11_along 59 = .ok (.iload 5, 2) := kt_o21 (j := 59) sX11_along_0 rfl
theorem dX11_along_61 : decode cX11_along 61 = .ok (.istore 6, 2) := kt_o54 (j := 61) sX11_along_0 rfl
theorem dX11_along_63 : decode cX11_along 63 = .ok (.iload_n 3, 1) := kt_o29 (j := 63) sX11_along_0 rfl
theorem sX11_along_64 : kt_sg cX11_along 64 [21, 6, 164, 0, 5, 2, 172, 27, 29, 28, 154, 0, 11, 42, 180, 0, 13, 116, 167, 0, 25, 28, 4, 160, 0, 7, 4, 167, 0, 16, 28, 5, 160, 0, 10, 42, 180, 0, 13, 167, 0, 4, 2, 104, 96, 172] = true := by decide +kernel
theorem dX11_along_64 : decode cX11_along 64 = .ok (.iload 6, 2) := kt_o21 (j := 0) sX11_along_64 rfl
theorem dX11_along_66 : decode cX11_along 66 = .ok (.if_icmp .le 5, 3) := kt_o164 (j := 2) sX11_along_64 rfl (by decide +kernel)
theorem dX11_along_69 : decode cX11_along 69 = .ok (.iconst (-1), 1) := kt_o2 (j := 5) sX11_along_64 rfl
theorem dX11_along_70 : decode cX11_along 70 = .ok (.ireturn, 1) := kt_o172 (j := 6) sX11_along_64 rfl
theorem dX11_along_71 : decode cX11_along 71 = .ok (.iload_n 1, 1) := kt_o27 (j := 7) sX11_along_64 rfl
theorem dX11_along_72 : decode cX11_along 72 = .ok (.iload_n 3, 1) := kt_o29 (j := 8) sX11_along_64 rfl
theorem dX11_along_73 : decode cX11_along 73 = .ok (.iload_n 2, 1) := kt_o28 (j := 9) sX11_along_64 rfl
theorem dX11_along_74 : decode cX11_along 74 = .ok (.ifCond .ne 11, 3) := kt_o154 (j := 10) sX11_along_64 rfl (by decide +kernel)
theorem dX11_along_77 : decode cX11_along 77 = .ok (.aload_n 0, 1) := kt_o42 (j := 13) sX11_along_64 rfl
theorem dX11_along_78 : decode cX11_along 78 = .ok (.getfield 13, 3) := kt_o180 (j := 14) sX11_along_64 rfl rfl
theorem dX11_along_81 : decode cX11_along 81 = .ok (.ineg, 1) := kt_o116 (j := 17) sX11_along_64 rfl
theorem dX11_along_82 : decode cX11_along 82 = .ok (.goto 25, 3) := kt_o167 (j := 18) sX11_along_64 rfl (by decide +kernel)
theorem dX11_along_85 : decode cX11_along 85 = .ok (.iload_n 2, 1) := kt_o28 (j := 21) sX11_along_64 rfl
theorem dX11_along_86 : decode cX11_along 86 = .ok (.iconst 1, 1) := kt_o4 (j := 22) sX11_along_64 rfl
theorem dX11_along_87 : decode cX11_along 87 = .ok (.if_icmp .ne 7, 3) := kt_o160 (j := 23) sX11_along_64 rfl (by decide +kernel)
theorem dX11_along_90 : decode cX11_along 90 = .ok (.iconst 1, 1) := kt_o4 (j := 26) sX11_along_64 rfl
theorem dX11_along_91 : decode cX11_along 91 = .ok (.goto 16, 3) := kt_o167 (j := 27) sX11_along_64 rfl (by decide +kernel)
theorem dX11_along_94 : decode cX11_along 94 = .ok (.iload_n 2, 1) := kt_o28 (j := 30) sX11_along_64 rfl
theorem dX11_along_95 : decode cX11_along 95 = .ok (.iconst 2, 1) := kt_o5 (j := 31) sX11_along_64 rfl
theorem dX11_along_96 : decode cX11_along 96 = .ok (.if_icmp .ne 10, 3) := kt_o160 (j := 32) sX11_along_64 rfl (by decide +kernel)
theorem dX11_along_99 : decode cX11_along 99 = .ok (.aload_n 0, 1) := kt_o42 (j := 35) sX11_along_64 rfl
theorem dX11_along_100 : decode cX11_along 100 = .ok (.getfield 13, 3) := kt_o180 (j := 36) sX11_along_64 rfl rfl
theorem dX11_along_103 : decode cX11_along 103 = .ok (.goto 4, 3) := kt_o167 (j := 39) sX11_along_64 rfl (by decide +kernel)
theorem dX11_along_106 : decode cX11_along 106 = .ok (.iconst (-1), 1) := kt_o2 (j := 42) sX11_along_64 rfl
theorem dX11_along_107 : decode cX11_along 107 = .ok (.imul, 1) := kt_o104 (j := 43) sX11_along_64 rfl
theorem dX11_along_108 : decode cX11_along 108 = .ok (.iadd, 1) := kt_o96 (j := 44) sX11_along_64 rfl
theorem dX11_along_109 : decode cX11_along 109 = .ok (.ireturn, 1) := kt_o172 (j := 45) sX11_along_64 rfl
theorem kt_wp_X11_bar__X110 {w : Cond} (h : w ∈ wsX110) : w ∈ wsX11_bar := List.mem_cons_of_mem _ (List.mem_append_right _ (h))
set_option maxRecDepth 20000 in
theorem kt_wg_X11_along : wsX11_along.all goodWord = true := by decide +kernel
set_option maxRecDepth 20000 in
theorem ggX11_bar_X11_along : GoodIn wsX11_bar wsX11_along := goodIn_sub (kt_wf1 (List.mem_cons_of_mem _ (List.mem_append_left _ (List.mem_cons_of_mem _ (List.mem_cons_of_mem _ (List.mem_cons_of_mem _ (List.mem_cons_of_mem _ (List.mem_cons_of_mem _ (List.mem_cons_of_mem _ (List.mem_cons_of_mem _ (List.mem_cons_of_mem _ (List.Mem.head _))))))))))) (kt_wfa (kt_wf1 (List.mem_cons_of_mem _ (List.mem_append_left _ (List.mem_cons_of_mem _ (List.mem_cons_of_mem _ (List.mem_cons_of_mem _ (List.mem_cons_of_mem _ (List.mem_cons_of_mem _ (List.mem_cons_of_mem _ (List.mem_cons_of_mem _ (List.mem_cons_of_mem _ (List.mem_cons_of_mem _ (List.Mem.head _)))))))))))) (kt_wf1 (List.mem_cons_of_mem _ (List.mem_append_left _ (List.mem_cons_of_mem _ (List.mem_cons_of_mem _ (List.mem_cons_of_mem _ (List.mem_cons_of_mem _ (List.mem_cons_of_mem _ (List.mem_cons_of_mem _ (List.mem_cons_of_mem _ (List.mem_cons_of_mem _ (List.mem_cons_of_mem _ (List.mem_cons_of_mem _ (List.Mem.head _))))))))))))) kt_wf0)) (fun _ h => kt_wp_X11_bar__X110 h))) kt_wg_X11_along
set_option maxRecDepth 20000 in
theorem gX11_bar_X11_along : GoodIn wsX11_bar (wsV RX11 92 RX11 yX11_along wsX11_along) := goodIn_app (a := [.methodLink RX11 92 yX11_along, .instanceMethod yX11_along, .selects RX11 yX11_along yX11_along, .initialized RX11]) (goodIn_sub (kt_wf1 (List.mem_cons_of_mem _ (List.mem_append_left _ (List.mem_cons_of_mem _ (List.mem_cons_of_mem _ (List.mem_cons_of_mem _ (List.mem_cons_of_mem _ (List.Mem.head _))))))) (kt_wf1 (List.mem_cons_of_mem _ (List.mem_append_left _ (List.mem_cons_of_mem _ (List.mem_cons_of_mem _ (List.mem_cons_of_mem _ (List.mem_cons_of_mem _ (List.mem_cons_of_mem _ (List.Mem.head _)))))))) (kt_wf1 (List.mem_cons_of_mem _ (List.mem_append_left _ (List.mem_cons_of_mem _ (List.mem_cons_of_mem _ (List.mem_cons_of_mem _ (List.mem_cons_of_mem _ (List.mem_cons_of_mem _ (List.mem_cons_of_mem _ (List.Mem.head _))))))))) (kt_wf1 (List.mem_cons_of_mem _ (List.mem_append_left _ (List.mem_cons_of_mem _ (List.mem_cons_of_mem _ (List.mem_cons_of_mem _ (List.mem_cons_of_mem _ (List.mem_cons_of_mem _ (List.mem_cons_of_mem _ (List.mem_cons_of_mem _ (List.Mem.head _)))))))))) kt_wf0)))) (by decide +kernel)) ggX11_bar_X11_along
set_option maxRecDepth 20000 in
theorem kt_wg_X11_bears : wsX11_bears.all goodWord = true := by decide +kernel
set_option maxRecDepth 20000 in
theorem ggX11_bar_X11_bears : GoodIn wsX11_bar wsX11_bears := goodIn_sub (kt_wf1 (List.mem_cons_of_mem _ (List.mem_append_left _ (List.mem_cons_of_mem _ (List.mem_cons_of_mem _ (List.mem_cons_of_mem _ (List.mem_cons_of_mem _ (List.mem_cons_of_mem _ (List.mem_cons_of_mem _ (List.mem_cons_of_mem _ (List.mem_cons_of_mem _ (List.mem_cons_of_mem _ (List.mem_cons_of_mem _ (List.mem_cons_of_mem _ (List.mem_cons_of_mem _ (List.mem_cons_of_mem _ (List.mem_cons_of_mem _ (List.Mem.head _))))))))))))))))) (kt_wfa (kt_wf1 (List.mem_cons_of_mem _ (List.mem_append_left _ (List.mem_cons_of_mem _ (List.mem_cons_of_mem _ (List.mem_cons_of_mem _ (List.mem_cons_of_mem _ (List.mem_cons_of_mem _ (List.mem_cons_of_mem _ (List.mem_cons_of_mem _ (List.mem_cons_of_mem _ (List.mem_cons_of_mem _ (List.mem_cons_of_mem _ (List.mem_cons_of_mem _ (List.mem_cons_of_mem _ (List.mem_cons_of_mem _ (List.mem_cons_of_mem _ (List.mem_cons_of_mem _ (List.Mem.head _)))))))))))))))))) (kt_wf1 (List.mem_cons_of_mem _ (List.mem_append_left _ (List.mem_cons_of_mem _ (List.Mem.head _)))) kt_wf0)) (fun _ h => kt_wp_X11_bar__X110 h))) kt_wg_X11_bears
set_option maxRecDepth 20000 in
theorem gX11_bar_X11_bears : GoodIn wsX11_bar (wsV RX11 96 RX11 yX11_bears wsX11_bears) := goodIn_app (a := [.methodLink RX11 96 yX11_bears, .instanceMethod yX11_bears, .selects RX11 yX11_bears yX11_bears, .initialized RX11]) (goodIn_sub (kt_wf1 (List.mem_cons_of_mem _ (List.mem_append_left _ (List.mem_cons_of_mem _ (List.mem_cons_of_mem _ (List.mem_cons_of_mem _ (List.mem_cons_of_mem _ (List.mem_cons_of_mem _ (List.mem_cons_of_mem _ (List.mem_cons_of_mem _ (List.mem_cons_of_mem _ (List.mem_cons_of_mem _ (List.mem_cons_of_mem _ (List.mem_cons_of_mem _ (List.Mem.head _)))))))))))))) (kt_wf1 (List.mem_cons_of_mem _ (List.mem_append_left _ (List.mem_cons_of_mem _ (List.mem_cons_of_mem _ (List.mem_cons_of_mem _ (List.mem_cons_of_mem _ (List.mem_cons_of_mem _ (List.mem_cons_of_mem _ (List.mem_cons_of_mem _ (List.mem_cons_of_mem _ (List.mem_cons_of_mem _ (List.mem_cons_of_mem _ (List.mem_cons_of_mem _ (List.mem_cons_of_mem _ (List.Mem.head _))))))))))))))) (kt_wf1 (List.mem_cons_of_mem _ (List.mem_append_left _ (List.mem_cons_of_mem _ (List.mem_cons_of_mem _ (List.mem_cons_of_mem _ (List.mem_cons_of_mem _ (List.mem_cons_of_mem _ (List.mem_cons_of_mem _ (List.mem_cons_of_mem _ (List.mem_cons_of_mem _ (List.mem_cons_of_mem _ (List.mem_cons_of_mem _ (List.mem_cons_of_mem _ (List.mem_cons_of_mem _ (List.mem_cons_of_mem _ (List.Mem.head _)))))))))))))))) (kt_wf1 (List.mem_cons_of_mem _ (List.mem_append_left _ (List.mem_cons_of_mem _ (List.mem_cons_of_mem _ (List.mem_cons_of_mem _ (List.mem_cons_of_mem _ (List.mem_cons_of_mem _ (List.mem_cons_of_mem _ (List.mem_cons_of_mem _ (List.Mem.head _)))))))))) kt_wf0)))) (by decide +kernel)) ggX11_bar_X11_bears
theorem sX11_bar_0 : kt_sg cX11_bar 0 [42, 42, 180, 0, 30, 27, 46, 28, 29, 182, 0, 92, 2, 160, 0, 6, 16, 6, 172, 42, 180, 0, 27, 27, 46, 5, 160, 0, 21, 42, 180, 0, 82, 158, 0, 14, 29, 42, 180, 0, 82, 164, 0, 6, 16, 7, 172, 4, 54, 4, 21, 4, 29, 163, 0, 51, 42, 42, 180, 0, 30, 27, 46, 28] = true := by decide +kernel
theorem dX11_bar_0 : decode cX11_bar 0 = .ok (.aload_n 0, 1) := kt_o42 (j := 0) sX11_bar_0 rfl
theorem dX11_bar_1 : decode cX11_bar 1 = .ok (.aload_n 0, 1) := kt_o42 (j := 1) sX11_bar_0 rfl
theorem dX11_bar_2 : decode cX11_bar 2 = .ok (.getfield 30, 3) := kt_o180 (j := 2) sX11_bar_0 rfl rfl
theorem dX11_bar_5 : decode cX11_bar 5 = .ok (.iload_n 1, 1) := kt_o27 (j := 5) sX11_bar_0 rfl
theorem dX11_bar_6 : decode cX11_bar 6 = .ok (.iaload, 1) := kt_o46 (j := 6) sX11_bar_0 rfl
theorem dX11_bar_7 : decode cX11_bar 7 = .ok (.iload_n 2, 1) := kt_o28 (j := 7) sX11_bar_0 rfl
theorem dX11_bar_8 : decode cX11_bar 8 = .ok (.iload_n 3, 1) := kt_o29 (j := 8) sX11_bar_0 rfl
theorem dX11_bar_9 : decode cX11_bar 9 = .ok (.invokevirtual 92, 3) := kt_o182 (j := 9) sX11_bar_0 rfl rfl
theorem dX11_bar_12 : decode cX11_bar 12 = .ok (.iconst (-1), 1) := kt_o2 (j := 12) sX11_bar_0 rfl
theorem dX11_bar_13 : decode cX11_bar 13 = .ok (.if_icmp .ne 6, 3) := kt_o160 (j := 13) sX11_bar_0 rfl (by decide +kernel)
theorem dX11_bar_16 : decode cX11_bar 16 = .ok (.bipush 6, 2) := kt_o16 (j := 16) sX11_bar_0 rfl (by decide +kernel)
theorem dX11_bar_18 : decode cX11_bar 18 = .ok (.ireturn, 1) := kt_o172 (j := 18) sX11_bar_0 rfl
theorem dX11_bar_19 : decode cX11_bar 19 = .ok (.aload_n 0, 1) := kt_o42 (j := 19) sX11_bar_0 rfl
theorem dX11_bar_20 : decode cX11_bar 20 = .ok (.getfield 27, 3) := kt_o180 (j := 20) sX11_bar_0 rfl rfl
theorem dX11_bar_23 : decode cX11_bar 23 = .ok (.iload_n 1, 1) := kt_o27 (j := 23) sX11_bar_0 rfl
theorem dX11_bar_24 : decode cX11_bar 24 = .ok (.iaload, 1) := kt_o46 (j := 24) sX11_bar_0 rfl
theorem dX11_bar_25 : decode cX11_bar 25 = .ok (.iconst 2, 1) := kt_o5 (j := 25) sX11_bar_0 rfl
theorem dX11_bar_26 : decode cX11_bar 26 = .ok (.if_icmp .ne 21, 3) := kt_o160 (j := 26) sX11_bar_0 rfl (by decide +kernel)
theorem dX11_bar_29 : decode cX11_bar 29 = .ok (.aload_n 0, 1) := kt_o42 (j := 29) sX11_bar_0 rfl
theorem dX11_bar_30 : decode cX11_bar 30 = .ok (.getfield 82, 3) := kt_o180 (j := 30) sX11_bar_0 rfl rfl
theorem dX11_bar_33 : decode cX11_bar 33 = .ok (.ifCond .le 14, 3) := kt_o158 (j := 33) sX11_bar_0 rfl (by decide +kernel)
theorem dX11_bar_36 : decode cX11_bar 36 = .ok (.iload_n 3, 1) := kt_o29 (j := 36) sX11_bar_0 rfl
theorem dX11_bar_37 : decode cX11_bar 37 = .ok (.aload_n 0, 1) := kt_o42 (j := 37) sX11_bar_0 rfl
theorem dX11_bar_38 : decode cX11_bar 38 = .ok (.getfield 82, 3) := kt_o180 (j := 38) sX11_bar_0 rfl rfl
theorem dX11_bar_41 : decode cX11_bar 41 = .ok (.if_icmp .le 6, 3) := kt_o164 (j := 41) sX11_bar_0 rfl (by decide +kernel)
theorem dX11_bar_44 : decode cX11_bar 44 = .ok (.bipush 7, 2) := kt_o16 (j := 44) sX11_bar_0 rfl (by decide +kernel)
theorem dX11_bar_46 : decode cX11_bar 46 = .ok (.ireturn, 1) := kt_o172 (j := 46) sX11_bar_0 rfl
theorem dX11_bar_47 : decode cX11_bar 47 = .ok (.iconst 1, 1) := kt_o4 (j := 47) sX11_bar_0 rfl
theorem dX11_bar_48 : decode cX11_bar 48 = .ok (.istore 4, 2) := kt_o54 (j := 48) sX11_bar_0 rfl
theorem dX11_bar_50 : decode cX11_bar 50 = .ok (.iload 4, 2) := kt_o21 (j := 50) sX11_bar_0 rfl
theorem dX11_bar_52 : decode cX11_bar 52 = .ok (.iload_n 3, 1) := kt_o29 (j := 52) sX11_bar_0 rfl
theorem dX11_bar_53 : decode cX11_bar 53 = .ok (.if_icmp .gt 51, 3) := kt_o163 (j := 53) sX11_bar_0 rfl (by decide +kernel)
theorem dX11_bar_56 : decode cX11_bar 56 = .ok (.aload_n 0, 1) := kt_o42 (j := 56) sX11_bar_0 rfl
theorem dX11_bar_57 : decode cX11_bar 57 = .ok (.aload_n 0, 1) := kt_o42 (j := 57) sX11_bar_0 rfl
theorem dX11_bar_58 : decode cX11_bar 58 = .ok (.getfield 30, 3) := kt_o180 (j := 58) sX11_bar_0 rfl rfl
theorem dX11_bar_61 : decode cX11_bar 61 = .ok (.iload_n 1, 1) := kt_o27 (j := 61) sX11_bar_0 rfl
theorem dX11_bar_62 : decode cX11_bar 62 = .ok (.iaload, 1) := kt_o46 (j := 62) sX11_bar_0 rfl
theorem dX11_bar_63 : decode cX11_bar 63 = .ok (.iload_n 2, 1) := kt_o28 (j := 63) sX11_bar_0 rfl
theorem sX11_bar_64 : kt_sg cX11_bar 64 [21, 4, 182, 0, 92, 54, 5, 42, 180, 0, 33, 21, 5, 46, 2, 159, 0, 6, 16, 8, 172, 42, 21, 5, 27, 182, 0, 96, 154, 0, 6, 16, 9, 172, 132, 4, 1, 167, 255, 205, 3, 172] = true := by decide +kernel
theorem dX11_bar_64 : decode cX11_bar 64 = .ok (.iload 4, 2) := kt_o21 (j := 0) sX11_bar_64 rfl
theorem dX11_bar_66 : decode cX11_bar 66 = .ok (.invokevirtual 92, 3) := kt_o182 (j := 2) sX11_bar_64 rfl rfl
theorem dX11_bar_69 : decode cX11_bar 69 = .ok (.istore 5, 2) := kt_o54 (j := 5) sX11_bar_64 rfl
theorem dX11_bar_71 : decode cX11_bar 71 = .ok (.aload_n 0, 1) := kt_o42 (j := 7) sX11_bar_64 rfl
theorem dX11_bar_72 : decode cX11_bar 72 = .ok (.getfield 33, 3) := kt_o180 (j := 8) sX11_bar_64 rfl rfl
theorem dX11_bar_75 : decode cX11_bar 75 = .ok (.iload 5, 2) := kt_o21 (j := 11) sX11_bar_64 rfl
theorem dX11_bar_77 : decode cX11_bar 77 = .ok (.iaload, 1) := kt_o46 (j := 13) sX11_bar_64 rfl
theorem dX11_bar_78 : decode cX11_bar 78 = .ok (.iconst (-1), 1) := kt_o2 (j := 14) sX11_bar_64 rfl
theorem dX11_bar_79 : decode cX11_bar 79 = .ok (.if_icmp .eq 6, 3) := kt_o159 (j := 15) sX11_bar_64 rfl (by decide +kernel)
theorem dX11_bar_82 : decode cX11_bar 82 = .ok (.bipush 8, 2) := kt_o16 (j := 18) sX11_bar_64 rfl (by decide +kernel)
theorem dX11_bar_84 : decode cX11_bar 84 = .ok (.ireturn, 1) := kt_o172 (j := 20) sX11_bar_64 rfl
theorem dX11_bar_85 : decode cX11_bar 85 = .ok (.aload_n 0, 1) := kt_o42 (j := 21) sX11_bar_64 rfl
theorem dX11_bar_86 : decode cX11_bar 86 = .ok (.iload 5, 2) := kt_o21 (j := 22) sX11_bar_64 rfl
theorem dX11_bar_88 : decode cX11_bar 88 = .ok (.iload_n 1, 1) := kt_o27 (j := 24) sX11_bar_64 rfl
theorem dX11_bar_89 : decode cX11_bar 89 = .ok (.invokevirtual 96, 3) := kt_o182 (j := 25) sX11_bar_64 rfl rfl
theorem dX11_bar_92 : decode cX11_bar 92 = .ok (.ifCond .ne 6, 3) := kt_o154 (j := 28) sX11_bar_64 rfl (by decide +kernel)
theorem dX11_bar_95 : decode cX11_bar 95 = .ok (.bipush 9, 2) := kt_o16 (j := 31) sX11_bar_64 rfl (by decide +kernel)
theorem dX11_bar_97 : decode cX11_bar 97 = .ok (.ireturn, 1) := kt_o172 (j := 33) sX11_bar_64 rfl
theorem dX11_bar_98 : decode cX11_bar 98 = .ok (.iinc 4 1, 3) := kt_o132 (j := 34) sX11_bar_64 rfl (by decide +kernel)
theorem dX11_bar_101 : decode cX11_bar 101 = .ok (.goto (-51), 3) := kt_o167 (j := 37) sX11_bar_64 rfl (by decide +kernel)
theorem dX11_bar_104 : decode cX11_bar 104 = .ok (.iconst 0, 1) := kt_o3 (j := 40) sX11_bar_64 rfl
theorem dX11_bar_105 : decode cX11_bar 105 = .ok (.ireturn, 1) := kt_o172 (j := 41) sX11_bar_64 rfl
theorem kt_wp_X11_movesOf__X110 {w : Cond} (h : w ∈ wsX110) : w ∈ wsX11_movesOf := List.mem_cons_of_mem _ (List.mem_append_right _ (h))
set_option maxRecDepth 20000 in
theorem kt_wg_X11_bar : wsX11_bar.all goodWord = true := by decide +kernel
set_option maxRecDepth 20000 in
theorem ggX11_movesOf_X11_bar : GoodIn wsX11_movesOf wsX11_bar := goodIn_sub (kt_wf1 (List.mem_cons_of_mem _ (List.mem_append_left _ (List.mem_cons_of_mem _ (List.mem_cons_of_mem _ (List.mem_cons_of_mem _ (List.mem_cons_of_mem _ (List.mem_cons_of_mem _ (List.Mem.head _)))))))) (kt_wfa (kt_wf1 (List.mem_cons_of_mem _ (List.mem_append_left _ (List.Mem.head _))) (kt_wf1 (List.mem_cons_of_mem _ (List.mem_append_left _ (List.mem_cons_of_mem _ (List.mem_cons_of_mem _ (List.mem_cons_of_mem _ (List.mem_cons_of_mem _ (List.mem_cons_of_mem _ (List.mem_cons_of_mem _ (List.Mem.head _))))))))) (kt_wf1 (List.mem_cons_of_mem _ (List.mem_append_left _ (List.mem_cons_of_mem _ (List.mem_cons_of_mem _ (List.mem_cons_of_mem _ (List.mem_cons_of_mem _ (List.mem_cons_of_mem _ (List.mem_cons_of_mem _ (List.mem_cons_of_mem _ (List.Mem.head _)))))))))) (kt_wf1 (List.mem_cons_of_mem _ (List.mem_append_left _ (List.mem_cons_of_mem _ (List.mem_cons_of_mem _ (List.mem_cons_of_mem _ (List.mem_cons_of_mem _ (List.mem_cons_of_mem _ (List.mem_cons_of_mem _ (List.mem_cons_of_mem _ (List.mem_cons_of_mem _ (List.Mem.head _))))))))))) (kt_wf1 (List.mem_cons_of_mem _ (List.mem_append_left _ (List.mem_cons_of_mem _ (List.mem_cons_of_mem _ (List.mem_cons_of_mem _ (List.mem_cons_of_mem _ (List.mem_cons_of_mem _ (List.mem_cons_of_mem _ (List.mem_cons_of_mem _ (List.mem_cons_of_mem _ (List.mem_cons_of_mem _ (List.Mem.head _)))))))))))) (kt_wf1 (List.mem_cons_of_mem _ (List.mem_append_left _ (List.mem_cons_of_mem _ (List.mem_cons_of_mem _ (List.mem_cons_of_mem _ (List.mem_cons_of_mem _ (List.mem_cons_of_mem _ (List.mem_cons_of_mem _ (List.mem_cons_of_mem _ (List.mem_cons_of_mem _ (List.mem_cons_of_mem _ (List.mem_cons_of_mem _ (List.Mem.head _))))))))))))) (kt_wf1 (List.mem_cons_of_mem _ (List.mem_append_left _ (List.mem_cons_of_mem _ (List.mem_cons_of_mem _ (List.mem_cons_of_mem _ (List.mem_cons_of_mem _ (List.mem_cons_of_mem _ (List.mem_cons_of_mem _ (List.mem_cons_of_mem _ (List.mem_cons_of_mem _ (List.mem_cons_of_mem _ (List.mem_cons_of_mem _ (List.mem_cons_of_mem _ (List.Mem.head _)))))))))))))) (kt_wf1 (List.mem_cons_of_mem _ (List.mem_append_left _ (List.mem_cons_of_mem _ (List.mem_cons_of_mem _ (List.mem_cons_of_mem _ (List.mem_cons_of_mem _ (List.Mem.head _))))))) (kt_wf1 (List.mem_cons_of_mem _ (List.mem_append_left _ (List.mem_cons_of_mem _ (List.mem_cons_of_mem _ (List.mem_cons_of_mem _ (List.mem_cons_of_mem _ (List.mem_cons_of_mem _ (List.mem_cons_of_mem _ (List.mem_cons_of_mem _ (List.mem_cons_of_mem _ (List.mem_cons_of_mem _ (List.mem_cons_of_mem _ (List.mem_cons_of_mem _ (List.mem_cons_of_mem _ (List.Mem.head _))))))))))))))) (kt_wf1 (List.mem_cons_of_mem _ (List.mem_append_left _ (List.mem_cons_of_mem _ (List.mem_cons_of_mem _ (List.mem_cons_of_mem _ (List.mem_cons_of_mem _ (List.mem_cons_of_mem _ (List.mem_cons_of_mem _ (List.mem_cons_of_mem _ (List.mem_cons_of_mem _ (List.mem_cons_of_mem _ (List.mem_cons_of_mem _ (List.mem_cons_of_mem _ (List.mem_cons_of_mem _ (List.mem_cons_of_mem _ (List.Mem.head _)))))))))))))))) (kt_wf1 (List.mem_cons_of_mem _ (List.mem_append_left _ (List.mem_cons_of_mem _ (List.mem_cons_of_mem _ (List.mem_cons_of_mem _ (List.mem_cons_of_mem _ (List.mem_cons_of_mem _ (List.mem_cons_of_mem _ (List.mem_cons_of_mem _ (List.mem_cons_of_mem _ (List.mem_cons_of_mem _ (List.mem_cons_of_mem _ (List.mem_cons_of_mem _ (List.mem_cons_of_mem _ (List.mem_cons_of_mem _ (List.mem_cons_of_mem _ (List.Mem.head _))))))))))))))))) (kt_wf1 (List.mem_cons_of_mem _ (List.mem_append_left _ (List.mem_cons_of_mem _ (List.mem_cons_of_mem _ (List.mem_cons_of_mem _ (List.mem_cons_of_mem _ (List.mem_cons_of_mem _ (List.mem_cons_of_mem _ (List.mem_cons_of_mem _ (List.mem_cons_of_mem _ (List.mem_cons_of_mem _ (List.mem_cons_of_mem _ (List.mem_cons_of_mem _ (List.mem_cons_of_mem _ (List.mem_cons_of_mem _ (List.mem_cons_of_mem _ (List.mem_cons_of_mem _ (List.Mem.head _)))))))))))))))))) (kt_wf1 (List.mem_cons_of_mem _ (List.mem_append_left _ (List.mem_cons_of_mem _ (List.mem_cons_of_mem _ (List.mem_cons_of_mem _ (List.mem_cons_of_mem _ (List.mem_cons_of_mem _ (List.mem_cons_of_mem _ (List.mem_cons_of_mem _ (List.mem_cons_of_mem _ (List.mem_cons_of_mem _ (List.mem_cons_of_mem _ (List.mem_cons_of_mem _ (List.mem_cons_of_mem _ (List.mem_cons_of_mem _ (List.mem_cons_of_mem _ (List.mem_cons_of_mem _ (List.mem_cons_of_mem _ (List.Mem.head _))))))))))))))))))) (kt_wf1 (List.mem_cons_of_mem _ (List.mem_append_left _ (List.mem_cons_of_mem _ (List.mem_cons_of_mem _ (List.mem_cons_of_mem _ (List.mem_cons_of_mem _ (List.mem_cons_of_mem _ (List.mem_cons_of_mem _ (List.mem_cons_of_mem _ (List.mem_cons_of_mem _ (List.mem_cons_of_mem _ (List.mem_cons_of_mem _ (List.mem_cons_of_mem _ (List.mem_cons_of_mem _ (List.mem_cons_of_mem _ (List.mem_cons_of_mem _ (List.mem_cons_of_mem _ (List.mem_cons_of_mem _ (List.mem_cons_of_mem _ (List.Mem.head _)))))))))))))))))))) (kt_wf1 (List.mem_cons_of_mem _ (List.mem_append_left _ (List.mem_cons_of_mem _ (List.mem_cons_of_mem _ (List.mem_cons_of_mem _ (List.mem_cons_of_mem _ (List.mem_cons_of_mem _ (List.mem_cons_of_mem _ (List.mem_cons_of_mem _ (List.mem_cons_of_mem _ (List.mem_cons_of_mem _ (List.mem_cons_of_mem _ (List.mem_cons_of_mem _ (List.mem_cons_of_mem _ (List.mem_cons_of_mem _ (List.mem_cons_of_mem _ (List.mem_cons_of_mem _ (List.mem_cons_of_mem _ (List.mem_cons_of_mem _ (List.mem_cons_of_mem _ (List.Mem.head _))))))))))))))))))))) (kt_wf1 (List.mem_cons_of_mem _ (List.mem_append_left _ (List.mem_cons_of_mem _ (List.mem_cons_of_mem _ (List.mem_cons_of_mem _ (List.mem_cons_of_mem _ (List.mem_cons_of_mem _ (List.mem_cons_of_mem _ (List.mem_cons_of_mem _ (List.mem_cons_of_mem _ (List.mem_cons_of_mem _ (List.mem_cons_of_mem _ (List.mem_cons_of_mem _ (List.mem_cons_of_mem _ (List.mem_cons_of_mem _ (List.mem_cons_of_mem _ (List.mem_cons_of_mem _ (List.mem_cons_of_mem _ (List.mem_cons_of_mem _ (List.mem_cons_of_mem _ (List.mem_cons_of_mem _ (List.Mem.head _)))))))))))))))))))))) kt_wf0)))))))))))))))) (fun _ h => kt_wp_X11_movesOf__X110 h))) kt_wg_X11_bar
set_option maxRecDepth 20000 in
theorem gX11_movesOf_X11_bar : GoodIn wsX11_movesOf (wsV RX11 100 RX11 yX11_bar wsX11_bar) := goodIn_app (a := [.methodLink RX11 100 yX11_bar, .instanceMethod yX11_bar, .selects RX11 yX11_bar yX11_bar, .initialized RX11]) (goodIn_sub (kt_wf1 (List.mem_cons_of_mem _ (List.mem_append_left _ (List.mem_cons_of_mem _ (List.Mem.head _)))) (kt_wf1 (List.mem_cons_of_mem _ (List.mem_append_left _ (List.mem_cons_of_mem _ (List.mem_cons_of_mem _ (List.Mem.head _))))) (kt_wf1 (List.mem_cons_of_mem _ (List.mem_append_left _ (List.mem_cons_of_mem _ (List.mem_cons_of_mem _ (List.mem_cons_of_mem _ (List.Mem.head _)))))) (kt_wf1 (List.mem_cons_of_mem _ (List.mem_append_left _ (List.mem_cons_of_mem _ (List.mem_cons_of_mem _ (List.mem_cons_of_mem _ (List.mem_cons_of_mem _ (List.Mem.head _))))))) kt_wf0)))) (by decide +kernel)) ggX11_movesOf_X11_bar
theorem sX11_movesOf_0 : kt_sg cX11_movesOf 0 [3, 61, 3, 62, 29, 7, 162, 0, 54, 42, 180, 0, 30, 27, 46, 2, 159, 0, 44, 4, 54, 4, 21, 4, 16, 9, 162, 0, 28, 28, 42, 27, 29, 21, 4, 182, 0, 100, 154, 0, 7, 4, 167, 0, 4, 3, 96, 61, 132, 4, 1, 167, 255, 227, 132, 3, 1, 167, 255, 203, 28, 172] = true := by decide +kernel
theorem dX11_movesOf_0 : decode cX11_movesOf 0 = .ok (.iconst 0, 1) := kt_o3 (j := 0) sX11_movesOf_0 rfl
theorem dX11_movesOf_1 : decode cX11_movesOf 1 = .ok (.istore_n 2, 1) := kt_o61 (j := 1) sX11_movesOf_0 rfl
theorem dX11_movesOf_2 : decode cX11_movesOf 2 = .ok (.iconst 0, 1) := kt_o3 (j := 2) sX11_movesOf_0 rfl
theorem dX11_movesOf_3 : decode cX11_movesOf 3 = .ok (.istore_n 3, 1) := kt_o62 (j := 3) sX11_movesOf_0 rfl
theorem dX11_movesOf_4 : decode cX11_movesOf 4 = .ok (.iload_n 3, 1) := kt_o29 (j := 4) sX11_movesOf_0 rfl
theorem dX11_movesOf_5 : decode cX11_movesOf 5 = .ok (.iconst 4, 1) := kt_o7 (j := 5) sX11_movesOf_0 rfl
theorem dX11_movesOf_6 : decode cX11_movesOf 6 = .ok (.if_icmp .ge 54, 3) := kt_o162 (j := 6) sX11_movesOf_0 rfl (by decide +kernel)
theorem dX11_movesOf_9 : decode cX11_movesOf 9 = .ok (.aload_n 0, 1) := kt_o42 (j := 9) sX11_movesOf_0 rfl
theorem dX11_movesOf_10 : decode cX11_movesOf 10 = .ok (.getfield 30, 3) := kt_o180 (j := 10) sX11_movesOf_0 rfl rfl
theorem dX11_movesOf_13 : decode cX11_movesOf 13 = .ok (.iload_n 1, 1) := kt_o27 (j := 13) sX11_movesOf_0 rfl
theorem dX11_movesOf_14 : decode cX11_movesOf 14 = .ok (.iaload, 1) := kt_o46 (j := 14) sX11_movesOf_0 rfl
theorem dX11_movesOf_15 : decode cX11_movesOf 15 = .ok (.iconst (-1), 1) := kt_o2 (j := 15) sX11_movesOf_0 rfl
theorem dX11_movesOf_16 : decode cX11_movesOf 16 = .ok (.if_icmp .eq 44, 3) := kt_o159 (j := 16) sX11_movesOf_0 rfl (by decide +kernel)
theorem dX11_movesOf_19 : decode cX11_movesOf 19 = .ok (.iconst 1, 1) := kt_o4 (j := 19) sX11_movesOf_0 rfl
theorem dX11_movesOf_20 : decode cX11_movesOf 20 = .ok (.istore 4, 2) := kt_o54 (j := 20) sX11_movesOf_0 rfl
theorem dX11_movesOf_22 : decode cX11_movesOf 22 = .ok (.iload 4, 2) := kt_o21 (j := 22) sX11_movesOf_0 rfl
theorem dX11_movesOf_24 : decode cX11_movesOf 24 = .ok (.bipush 9, 2) := kt_o16 (j := 24) sX11_movesOf_0 rfl (by decide +kernel)
theorem dX11_movesOf_26 : decode cX11_movesOf 26 = .ok (.if_icmp .ge 28, 3) := kt_o162 (j := 26) sX11_movesOf_0 rfl (by decide +kernel)
theorem dX11_movesOf_29 : decode cX11_movesOf 29 = .ok (.iload_n 2, 1) := kt_o28 (j := 29) sX11_movesOf_0 rfl
theorem dX11_movesOf_30 : decode cX11_movesOf 30 = .ok (.aload_n 0, 1) := kt_o42 (j := 30) sX11_movesOf_0 rfl
theorem dX11_movesOf_31 : decode cX11_movesOf 31 = .ok (.iload_n 1, 1) := kt_o27 (j := 31) sX11_movesOf_0 rfl
theorem dX11_movesOf_32 : decode cX11_movesOf 32 = .ok (.iload_n 3, 1) := kt_o29 (j := 32) sX11_movesOf_0 rfl
theorem dX11_movesOf_33 : decode cX11_movesOf 33 = .ok (.iload 4, 2) := kt_o21 (j := 33) sX11_movesOf_0 rfl
theorem dX11_movesOf_35 : decode cX11_movesOf 35 = .ok (.invokevirtual 100, 3) := kt_o182 (j := 35) sX11_movesOf_0 rfl rfl
theorem dX11_movesOf_38 : decode cX11_movesOf 38 = .ok (.ifCond .ne 7, 3) := kt_o154 (j := 38) sX11_movesOf_0 rfl (by decide +kernel)
theorem dX11_movesOf_41 : decode cX11_movesOf 41 = .ok (.iconst 1, 1) := kt_o4 (j := 41) sX11_movesOf_0 rfl
theorem dX11_movesOf_42 : decode cX11_movesOf 42 = .ok (.goto 4, 3) := kt_o167 (j := 42) sX11_movesOf_0 rfl (by decide +kernel)
theorem dX11_movesOf_45 : decode cX11_movesOf 45 = .ok (.iconst 0, 1) := kt_o3 (j := 45) sX11_movesOf_0 rfl
theorem dX11_movesOf_46 : decode cX11_movesOf 46 = .ok (.iadd, 1) := kt_o96 (j := 46) sX11_movesOf_0 rfl
theorem dX11_movesOf_47 : decode cX11_movesOf 47 = .ok (.istore_n 2, 1) := kt_o61 (j := 47) sX11_movesOf_0 rfl
theorem dX11_movesOf_48 : decode cX11_movesOf 48 = .ok (.iinc 4 1, 3) := kt_o132 (j := 48) sX11_movesOf_0 rfl (by decide +kernel)
theorem dX11_movesOf_51 : decode cX11_movesOf 51 = .ok (.goto (-29), 3) := kt_o167 (j := 51) sX11_movesOf_0 rfl (by decide +kernel)
theorem dX11_movesOf_54 : decode cX11_movesOf 54 = .ok (.iinc 3 1, 3) := kt_o132 (j := 54) sX11_movesOf_0 rfl (by decide +kernel)
theorem dX11_movesOf_57 : decode cX11_movesOf 57 = .ok (.goto (-53), 3) := kt_o167 (j := 57) sX11_movesOf_0 rfl (by decide +kernel)
theorem dX11_movesOf_60 : decode cX11_movesOf 60 = .ok (.iload_n 2, 1) := kt_o28 (j := 60) sX11_movesOf_0 rfl
theorem dX11_movesOf_61 : decode cX11_movesOf 61 = .ok (.ireturn, 1) := kt_o172 (j := 61) sX11_movesOf_0 rfl
theorem kt_wp_X11_canGo__X11_canGo_r1 {w : Cond} (h : w ∈ wsX11_canGo_r1) : w ∈ wsX11_canGo := List.mem_cons_of_mem _ (List.mem_append_left _ (List.mem_append_left _ (h)))
theorem kt_wp_X11_canGo__X11_canGo_r2 {w : Cond} (h : w ∈ wsX11_canGo_r2) : w ∈ wsX11_canGo := List.mem_cons_of_mem _ (List.mem_append_left _ (List.mem_append_right _ (h)))
theorem kt_wp_X11_canGo__X110 {w : Cond} (h : w ∈ wsX110) : w ∈ wsX11_canGo := List.mem_cons_of_mem _ (List.mem_append_right _ (h))
set_option maxRecDepth 20000 in
theorem kt_wg_X11_sideOf : wsX11_sideOf.all goodWord = true := by decide +kernel
set_option maxRecDepth 20000 in
theorem ggX11_canGo_X11_sideOf : GoodIn wsX11_canGo wsX11_sideOf := goodIn_sub (kt_wf1 (kt_wp_X11_canGo__X11_canGo_r1 kt_wm5) (kt_wfa (kt_wf1 (kt_wp_X11_canGo__X11_canGo_r1 kt_wm6) kt_wf0) (fun _ h => kt_wp_X11_canGo__X110 h))) kt_wg_X11_sideOf
set_option maxRecDepth 20000 in
theorem gX11_canGo_X11_sideOf : GoodIn wsX11_canGo (wsV RX11 106 RX11 yX11_sideOf wsX11_sideOf) := goodIn_app (a := [.methodLink RX11 106 yX11_sideOf, .instanceMethod yX11_sideOf, .selects RX11 yX11_sideOf yX11_sideOf, .initialized RX11]) (goodIn_sub (kt_wf1 (kt_wp_X11_canGo__X11_canGo_r1 kt_wm1) (kt_wf1 (kt_wp_X11_canGo__X11_canGo_r1 kt_wm2) (kt_wf1 (kt_wp_X11_canGo__X11_canGo_r1 kt_wm3) (kt_wf1 (kt_wp_X11_canGo__X11_canGo_r1 kt_wm4) kt_wf0)))) (by decide +kernel)) ggX11_canGo_X11_sideOf
set_option maxRecDepth 20000 in
theorem kt_wg_X11_movesOf : wsX11_movesOf.all goodWord = true := by decide +kernel
set_option maxRecDepth 20000 in
theorem ggX11_canGo_X11_movesOf : GoodIn wsX11_canGo wsX11_movesOf := goodIn_sub (kt_wf1 (kt_wp_X11_canGo__X11_canGo_r1 kt_wm10) (kt_wfa (kt_wf1 (kt_wp_X11_canGo__X11_canGo_r1 kt_wm11) (kt_wf1 (kt_wp_X11_canGo__X11_canGo_r1 kt_wm12) (kt_wf1 (kt_wp_X11_canGo__X11_canGo_r1 kt_wm13) (kt_wf1 (kt_wp_X11_canGo__X11_canGo_r1 kt_wm14) (kt_wf1 (kt_wp_X11_canGo__X11_canGo_r1 kt_wm4) (kt_wf1 (kt_wp_X11_canGo__X11_canGo_r1 kt_wm15) (kt_wf1 (kt_wp_X11_canGo__X11_canGo_r1 kt_wm6) (kt_wf1 (kt_wp_X11_canGo__X11_canGo_r1 kt_wm16) (kt_wf1 (kt_wp_X11_canGo__X11_canGo_r1 kt_wm17) (kt_wf1 (kt_wp_X11_canGo__X11_canGo_r1 kt_wm18) (kt_wf1 (kt_wp_X11_canGo__X11_canGo_r1 kt_wm19) (kt_wf1 (kt_wp_X11_canGo__X11_canGo_r1 kt_wm20) (kt_wf1 (kt_wp_X11_canGo__X11_canGo_r1 kt_wm21) (kt_wf1 (kt_wp_X11_canGo__X11_canGo_r1 kt_wm22) (kt_wf1 (kt_wp_X11_canGo__X11_canGo_r1 kt_wm23) (kt_wf1 (kt_wp_X11_canGo__X11_canGo_r2 kt_wm0) (kt_wf1 (kt_wp_X11_canGo__X11_canGo_r2 kt_wm1) (kt_wf1 (kt_wp_X11_canGo__X11_canGo_r2 kt_wm2) (kt_wf1 (kt_wp_X11_canGo__X11_canGo_r2 kt_wm3) (kt_wf1 (kt_wp_X11_canGo__X11_canGo_r2 kt_wm4) kt_wf0)))))))))))))))))))) (fun _ h => kt_wp_X11_canGo__X110 h))) kt_wg_X11_movesOf
set_option maxRecDepth 20000 in
theorem gX11_canGo_X11_movesOf : GoodIn wsX11_canGo (wsV RX11 110 RX11 yX11_movesOf wsX11_movesOf) := goodIn_app (a := [.methodLink RX11 110 yX11_movesOf, .instanceMethod yX11_movesOf, .selects RX11 yX11_movesOf yX11_movesOf, .initialized RX11]) (goodIn_sub (kt_wf1 (kt_wp_X11_canGo__X11_canGo_r1 kt_wm7) (kt_wf1 (kt_wp_X11_canGo__X11_canGo_r1 kt_wm8) (kt_wf1 (kt_wp_X11_canGo__X11_canGo_r1 kt_wm9) (kt_wf1 (kt_wp_X11_canGo__X11_canGo_r1 kt_wm4) kt_wf0)))) (by decide +kernel)) ggX11_canGo_X11_movesOf
theorem sX11_canGo_0 : kt_sg cX11_canGo 0 [3, 61, 3, 62, 29, 42, 180, 0, 103, 162, 0, 36, 28, 154, 0, 32, 42, 29, 182, 0, 106, 27, 160, 0, 15, 42, 29, 182, 0, 110, 158, 0, 7, 4, 167, 0, 4, 3, 61, 132, 3, 1, 167, 255, 218, 28, 172] = true := by decide +kernel
theorem dX11_canGo_0 : decode cX11_canGo 0 = .ok (.iconst 0, 1) := kt_o3 (j := 0) sX11_canGo_0 rfl
theorem dX11_canGo_1 : decode cX11_canGo 1 = .ok (.istore_n 2, 1) := kt_o61 (j := 1) sX11_canGo_0 rfl
theorem dX11_canGo_2 : decode cX11_canGo 2 = .ok (.iconst 0, 1) := kt_o3 (j := 2) sX11_canGo_0 rfl
theorem dX11_canGo_3 : decode cX11_canGo 3 = .ok (.istore_n 3, 1) := kt_o62 (j := 3) sX11_canGo_0 rfl
theorem dX11_canGo_4 : decode cX11_canGo 4 = .ok (.iload_n 3, 1) := kt_o29 (j := 4) sX11_canGo_0 rfl
theorem dX11_canGo_5 : decode cX11_canGo 5 = .ok (.aload_n 0, 1) := kt_o42 (j := 5) sX11_canGo_0 rfl
theorem dX11_canGo_6 : decode cX11_canGo 6 = .ok (.getfield 103, 3) := kt_o180 (j := 6) sX11_canGo_0 rfl rfl
theorem dX11_canGo_9 : decode cX11_canGo 9 = .ok (.if_icmp .ge 36, 3) := kt_o162 (j := 9) sX11_canGo_0 rfl (by decide +kernel)
theorem dX11_canGo_12 : decode cX11_canGo 12 = .ok (.iload_n 2, 1) := kt_o28 (j := 12) sX11_canGo_0 rfl
theorem dX11_canGo_13 : decode cX11_canGo 13 = .ok (.ifCond .ne 32, 3) := kt_o154 (j := 13) sX11_canGo_0 rfl (by decide +kernel)
theorem dX11_canGo_16 : decode cX11_canGo 16 = .ok (.aload_n 0, 1) := kt_o42 (j := 16) sX11_canGo_0 rfl
theorem dX11_canGo_17 : decode cX11_canGo 17 = .ok (.iload_n 3, 1) := kt_o29 (j := 17) sX11_canGo_0 rfl
theorem dX11_canGo_18 : decode cX11_canGo 18 = .ok (.invokevirtual 106, 3) := kt_o182 (j := 18) sX11_canGo_0 rfl rfl
theorem dX11_canGo_21 : decode cX11_canGo 21 = .ok (.iload_n 1, 1) := kt_o27 (j := 21) sX11_canGo_0 rfl
theorem dX11_canGo_22 : decode cX11_canGo 22 = .ok (.if_icmp .ne 15, 3) := kt_o160 (j := 22) sX11_canGo_0 rfl (by decide +kernel)
theorem dX11_canGo_25 : decode cX11_canGo 25 = .ok (.aload_n 0, 1) := kt_o42 (j := 25) sX11_canGo_0 rfl
theorem dX11_canGo_26 : decode cX11_canGo 26 = .ok (.iload_n 3, 1) := kt_o29 (j := 26) sX11_canGo_0 rfl
theorem dX11_canGo_27 : decode cX11_canGo 27 = .ok (.invokevirtual 110, 3) := kt_o182 (j := 27) sX11_canGo_0 rfl rfl
theorem dX11_canGo_30 : decode cX11_canGo 30 = .ok (.ifCond .le 7, 3) := kt_o158 (j := 30) sX11_canGo_0 rfl (by decide +kernel)
theorem dX11_canGo_33 : decode cX11_canGo 33 = .ok (.iconst 1, 1) := kt_o4 (j := 33) sX11_canGo_0 rfl
theorem dX11_canGo_34 : decode cX11_canGo 34 = .ok (.goto 4, 3) := kt_o167 (j := 34) sX11_canGo_0 rfl (by decide +kernel)
theorem dX11_canGo_37 : decode cX11_canGo 37 = .ok (.iconst 0, 1) := kt_o3 (j := 37) sX11_canGo_0 rfl
theorem dX11_canGo_38 : decode cX11_canGo 38 = .ok (.istore_n 2, 1) := kt_o61 (j := 38) sX11_canGo_0 rfl
theorem dX11_canGo_39 : decode cX11_canGo 39 = .ok (.iinc 3 1, 3) := kt_o132 (j := 39) sX11_canGo_0 rfl (by decide +kernel)
theorem dX11_canGo_42 : decode cX11_canGo 42 = .ok (.goto (-38), 3) := kt_o167 (j := 42) sX11_canGo_0 rfl (by decide +kernel)
theorem dX11_canGo_45 : decode cX11_canGo 45 = .ok (.iload_n 2, 1) := kt_o28 (j := 45) sX11_canGo_0 rfl
theorem dX11_canGo_46 : decode cX11_canGo 46 = .ok (.ireturn, 1) := kt_o172 (j := 46) sX11_canGo_0 rfl
theorem kt_wp_X11_isFoe__X110 {w : Cond} (h : w ∈ wsX110) : w ∈ wsX11_isFoe := List.mem_cons_of_mem _ (List.mem_append_right _ (h))
set_option maxRecDepth 20000 in
theorem ggX11_isFoe_X11_sideOf : GoodIn wsX11_isFoe wsX11_sideOf := goodIn_sub (kt_wf1 (List.mem_cons_of_mem _ (List.mem_append_left _ (List.mem_cons_of_mem _ (List.mem_cons_of_mem _ (List.mem_cons_of_mem _ (List.mem_cons_of_mem _ (List.mem_cons_of_mem _ (List.mem_cons_of_mem _ (List.Mem.head _))))))))) (kt_wfa (kt_wf1 (List.mem_cons_of_mem _ (List.mem_append_left _ (List.mem_cons_of_mem _ (List.mem_cons_of_mem _ (List.mem_cons_of_mem _ (List.mem_cons_of_mem _ (List.mem_cons_of_mem _ (List.mem_cons_of_mem _ (List.mem_cons_of_mem _ (List.Mem.head _)))))))))) kt_wf0) (fun _ h => kt_wp_X11_isFoe__X110 h))) kt_wg_X11_sideOf
set_option maxRecDepth 20000 in
theorem gX11_isFoe_X11_sideOf : GoodIn wsX11_isFoe (wsV RX11 106 RX11 yX11_sideOf wsX11_sideOf) := goodIn_app (a := [.methodLink RX11 106 yX11_sideOf, .instanceMethod yX11_sideOf, .selects RX11 yX11_sideOf yX11_sideOf, .initialized RX11]) (goodIn_sub (kt_wf1 (List.mem_cons_of_mem _ (List.mem_append_left _ (List.mem_cons_of_mem _ (List.mem_cons_of_mem _ (List.Mem.head _))))) (kt_wf1 (List.mem_cons_of_mem _ (List.mem_append_left _ (List.mem_cons_of_mem _ (List.mem_cons_of_mem _ (List.mem_cons_of_mem _ (List.Mem.head _)))))) (kt_wf1 (List.mem_cons_of_mem _ (List.mem_append_left _ (List.mem_cons_of_mem _ (List.mem_cons_of_mem _ (List.mem_cons_of_mem _ (List.mem_cons_of_mem _ (List.Mem.head _))))))) (kt_wf1 (List.mem_cons_of_mem _ (List.mem_append_left _ (List.mem_cons_of_mem _ (List.mem_cons_of_mem _ (List.mem_cons_of_mem _ (List.mem_cons_of_mem _ (List.mem_cons_of_mem _ (List.Mem.head _)))))))) kt_wf0)))) (by decide +kernel)) ggX11_isFoe_X11_sideOf
set_option maxRecDepth 20000 in
theorem kt_wg_X11_takes : wsX11_takes.all goodWord = true := by decide +kernel
set_option maxRecDepth 20000 in
theorem ggX11_isFoe_X11_takes : GoodIn wsX11_isFoe wsX11_takes := goodIn_sub (kt_wf1 (List.mem_cons_of_mem _ (List.mem_append_left _ (List.mem_cons_of_mem _ (List.mem_cons_of_mem _ (List.mem_cons_of_mem _ (List.mem_cons_of_mem _ (List.mem_cons_of_mem _ (List.mem_cons_of_mem _ (List.mem_cons_of_mem _ (List.mem_cons_of_mem _ (List.mem_cons_of_mem _ (List.mem_cons_of_mem _ (List.mem_cons_of_mem _ (List.Mem.head _)))))))))))))) (kt_wfa (kt_wf1 (List.mem_cons_of_mem _ (List.mem_append_left _ (List.mem_cons_of_mem _ (List.mem_cons_of_mem _ (List.mem_cons_of_mem _ (List.mem_cons_of_mem _ (List.mem_cons_of_mem _ (List.mem_cons_of_mem _ (List.mem_cons_of_mem _ (List.Mem.head _)))))))))) (kt_wf1 (List.mem_cons_of_mem _ (List.mem_append_left _ (List.mem_cons_of_mem _ (List.mem_cons_of_mem _ (List.mem_cons_of_mem _ (List.mem_cons_of_mem _ (List.mem_cons_of_mem _ (List.mem_cons_of_mem _ (List.mem_cons_of_mem _ (List.mem_cons_of_mem _ (List.mem_cons_of_mem _ (List.mem_cons_of_mem _ (List.mem_cons_of_mem _ (List.mem_cons_of_mem _ (List.Mem.head _))))))))))))))) kt_wf0)) (fun _ h => kt_wp_X11_isFoe__X110 h))) kt_wg_X11_takes
set_option maxRecDepth 20000 in
theorem gX11_isFoe_X11_takes : GoodIn wsX11_isFoe (wsV RX11 113 RX11 yX11_takes wsX11_takes) := goodIn_app (a := [.methodLink RX11 113 yX11_takes, .instanceMethod yX11_takes, .selects RX11 yX11_takes yX11_takes, .initialized RX11]) (goodIn_sub (kt_wf1 (List.mem_cons_of_mem _ (List.mem_append_left _ (List.mem_cons_of_mem _ (List.mem_cons_of_mem _ (List.mem_cons_of_mem _ (List.mem_cons_of_mem _ (List.mem_cons_of_mem _ (List.mem_cons_of_mem _ (List.mem_cons_of_mem _ (List.mem_cons_of_mem _ (List.Mem.head _))))))))))) (kt_wf1 (List.mem_cons_of_mem _ (List.mem_append_left _ (List.mem_cons_of_mem _ (List.mem_cons_of_mem _ (List.mem_cons_of_mem _ (List.mem_cons_of_mem _ (List.mem_cons_of_mem _ (List.mem_cons_of_mem _ (List.mem_cons_of_mem _ (List.mem_cons_of_mem _ (List.mem_cons_of_mem _ (List.Mem.head _)))))))))))) (kt_wf1 (List.mem_cons_of_mem _ (List.mem_append_left _ (List.mem_cons_of_mem _ (List.mem_cons_of_mem _ (List.mem_cons_of_mem _ (List.mem_cons_of_mem _ (List.mem_cons_of_mem _ (List.mem_cons_of_mem _ (List.mem_cons_of_mem _ (List.mem_cons_of_mem _ (List.mem_cons_of_mem _ (List.mem_cons_of_mem _ (List.Mem.head _))))))))))))) (kt_wf1 (List.mem_cons_of_mem _ (List.mem_append_left _ (List.mem_cons_of_mem _ (List.mem_cons_of_mem _ (List.mem_cons_of_mem _ (List.mem_cons_of_mem _ (List.mem_cons_of_mem _ (List.Mem.head _)))))))) kt_wf0)))) (by decide +kernel)) ggX11_isFoe_X11_takes
theorem sX11_isFoe_0 : kt_sg cX11_isFoe 0 [28, 2, 160, 0, 5, 3, 172, 42, 180, 0, 33, 28, 46, 2, 160, 0, 20, 42, 180, 0, 36, 28, 46, 16, 6, 160, 0, 7, 4, 167, 0, 4, 3, 172, 42, 42, 180, 0, 33, 28, 46, 182, 0, 106, 42, 27, 182, 0, 106, 159, 0, 20, 42, 42, 180, 0, 33, 28, 46, 182, 0, 113, 153, 0, 7] = true := by decide +kernel
theorem dX11_isFoe_0 : decode cX11_isFoe 0 = .ok (.iload_n 2, 1) := kt_o28 (j := 0) sX11_isFoe_0 rfl
theorem dX11_isFoe_1 : decode cX11_isFoe 1 = .ok (.iconst (-1), 1) := kt_o2 (j := 1) sX11_isFoe_0 rfl
theorem dX11_isFoe_2 : decode cX11_isFoe 2 = .ok (.if_icmp .ne 5, 3) := kt_o160 (j := 2) sX11_isFoe_0 rfl (by decide +kernel)
theorem dX11_isFoe_5 : decode cX11_isFoe 5 = .ok (.iconst 0, 1) := kt_o3 (j := 5) sX11_isFoe_0 rfl
theorem dX11_isFoe_6 : decode cX11_isFoe 6 = .ok (.ireturn, 1) := kt_o172 (j := 6) sX11_isFoe_0 rfl
theorem dX11_isFoe_7 : decode cX11_isFoe 7 = .ok (.aload_n 0, 1) := kt_o42 (j := 7) sX11_isFoe_0 rfl
theorem dX11_isFoe_8 : decode cX11_isFoe 8 = .ok (.getfield 33, 3) := kt_o180 (j := 8) sX11_isFoe_0 rfl rfl
theorem dX11_isFoe_11 : decode cX11_isFoe 11 = .ok (.iload_n 2, 1) := kt_o28 (j := 11) sX11_isFoe_0 rfl
theorem dX11_isFoe_12 : decode cX11_isFoe 12 = .ok (.iaload, 1) := kt_o46 (j := 12) sX11_isFoe_0 rfl
theorem dX11_isFoe_13 : decode cX11_isFoe 13 = .ok (.iconst (-1), 1) := kt_o2 (j := 13) sX11_isFoe_0 rfl
theorem dX11_isFoe_14 : decode cX11_isFoe 14 = .ok (.if_icmp .ne 20, 3) := kt_o160 (j := 14) sX11_isFoe_0 rfl (by decide +kernel)
theorem dX11_isFoe_17 : decode cX11_isFoe 17 = .ok (.aload_n 0, 1) := kt_o42 (j := 17) sX11_isFoe_0 rfl
theorem dX11_isFoe_18 : decode cX11_isFoe 18 = .ok (.getfield 36, 3) := kt_o180 (j := 18) sX11_isFoe_0 rfl rfl
theorem dX11_isFoe_21 : decode cX11_isFoe 21 = .ok (.iload_n 2, 1) := kt_o28 (j := 21) sX11_isFoe_0 rfl
theorem dX11_isFoe_22 : decode cX11_isFoe 22 = .ok (.iaload, 1) := kt_o46 (j := 22) sX11_isFoe_0 rfl
theorem dX11_isFoe_23 : decode cX11_isFoe 23 = .ok (.bipush 6, 2) := kt_o16 (j := 23) sX11_isFoe_0 rfl (by decide +kernel)
theorem dX11_isFoe_25 : decode cX11_isFoe 25 = .ok (.if_icmp .ne 7, 3) := kt_o160 (j := 25) sX11_isFoe_0 rfl (by decide +kernel)
theorem dX11_isFoe_28 : decode cX11_isFoe 28 = .ok (.iconst 1, 1) := kt_o4 (j := 28) sX11_isFoe_0 rfl
theorem dX11_isFoe_29 : decode cX11_isFoe 29 = .ok (.goto 4, 3) := kt_o167 (j := 29) sX11_isFoe_0 rfl (by decide +kernel)
theorem dX11_isFoe_32 : decode cX11_isFoe 32 = .ok (.iconst 0, 1) := kt_o3 (j := 32) sX11_isFoe_0 rfl
theorem dX11_isFoe_33 : decode cX11_isFoe 33 = .ok (.ireturn, 1) := kt_o172 (j := 33) sX11_isFoe_0 rfl
theorem dX11_isFoe_34 : decode cX11_isFoe 34 = .ok (.aload_n 0, 1) := kt_o42 (j := 34) sX11_isFoe_0 rfl
theorem dX11_isFoe_35 : decode cX11_isFoe 35 = .ok (.aload_n 0, 1) := kt_o42 (j := 35) sX11_isFoe_0 rfl
theorem dX11_isFoe_36 : decode cX11_isFoe 36 = .ok (.getfield 33, 3) := kt_o180 (j := 36) sX11_isFoe_0 rfl rfl
theorem dX11_isFoe_39 : decode cX11_isFoe 39 = .ok (.iload_n 2, 1) := kt_o28 (j := 39) sX11_isFoe_0 rfl
theorem dX11_isFoe_40 : decode cX11_isFoe 40 = .ok (.iaload, 1) := kt_o46 (j := 40) sX11_isFoe_0 rfl
theorem dX11_isFoe_41 : decode cX11_isFoe 41 = .ok (.invokevirtual 106, 3) := kt_o182 (j := 41) sX11_isFoe_0 rfl rfl
theorem dX11_isFoe_44 : decode cX11_isFoe 44 = .ok (.aload_n 0, 1) := kt_o42 (j := 44) sX11_isFoe_0 rfl
theorem dX11_isFoe_45 : decode cX11_isFoe 45 = .ok (.iload_n 1, 1) := kt_o27 (j := 45) sX11_isFoe_0 rfl
theorem dX11_isFoe_46 : decode cX11_isFoe 46 = .ok (.invokevirtual 106, 3) := kt_o182 (j := 46) sX11_isFoe_0 rfl rfl
theorem dX11_isFoe_49 : decode cX11_isFoe 49 = .ok (.if_icmp .eq 20, 3) := kt_o159 (j := 49) sX11_isFoe_0 rfl (by decide +kernel)
theorem dX11_isFoe_52 : decode cX11_isFoe 52 = .ok (.aload_n 0, 1) := kt_o42 (j := 52) sX11_isFoe_0 rfl
theorem dX11_isFoe_53 : decode cX11_isFoe 53 = .ok (.aload_n 0, 1) := kt_o42 (j := 53) sX11_isFoe_0 rfl
theorem dX11_isFoe_54 : decode cX11_isFoe 54 = .ok (.getfield 33, 3) := kt_o180 (j := 54) sX11_isFoe_0 rfl rfl
theorem dX11_isFoe_57 : decode cX11_isFoe 57 = .ok (.iload_n 2, 1) := kt_o28 (j := 57) sX11_isFoe_0 rfl
theorem dX11_isFoe_58 : decode cX11_isFoe 58 = .ok (.iaload, 1) := kt_o46 (j := 58) sX11_isFoe_0 rfl
theorem dX11_isFoe_59 : decode cX11_isFoe 59 = .ok (.invokevirtual 113, 3) := kt_o182 (j := 59) sX11_isFoe_0 rfl rfl
theorem dX11_isFoe_62 : decode cX11_isFoe 62 = .ok (.ifCond .eq 7, 3) := kt_o153 (j := 62) sX11_isFoe_0 rfl (by decide +kernel)
theorem sX11_isFoe_65 : kt_sg cX11_isFoe 65 [4, 167, 0, 4, 3, 172] = true := by decide +kernel
theorem dX11_isFoe_65 : decode cX11_isFoe 65 = .ok (.iconst 1, 1) := kt_o4 (j := 0) sX11_isFoe_65 rfl
theorem dX11_isFoe_66 : decode cX11_isFoe 66 = .ok (.goto 4, 3) := kt_o167 (j := 1) sX11_isFoe_65 rfl (by decide +kernel)
theorem dX11_isFoe_69 : decode cX11_isFoe 69 = .ok (.iconst 0, 1) := kt_o3 (j := 4) sX11_isFoe_65 rfl
theorem dX11_isFoe_70 : decode cX11_isFoe 70 = .ok (.ireturn, 1) := kt_o172 (j := 5) sX11_isFoe_65 rfl
theorem kt_wp_X11_isTaken__X11_isTaken_r1 {w : Cond} (h : w ∈ wsX11_isTaken_r1) : w ∈ wsX11_isTaken := List.mem_cons_of_mem _ (List.mem_append_left _ (List.mem_append_left _ (h)))
theorem kt_wp_X11_isTaken__X11_isTaken_r2 {w : Cond} (h : w ∈ wsX11_isTaken_r2) : w ∈ wsX11_isTaken := List.mem_cons_of_mem _ (List.mem_append_left _ (List.mem_append_right _ (h)))
theorem kt_wp_X11_isTaken__X110 {w : Cond} (h : w ∈ wsX110) : w ∈ wsX11_isTaken := List.mem_cons_of_mem _ (List.mem_append_right _ (h))
set_option maxRecDepth 20000 in
theorem ggX11_isTaken_X11_along : GoodIn wsX11_isTaken wsX11_along := goodIn_sub (kt_wf1 (kt_wp_X11_isTaken__X11_isTaken_r1 kt_wm7) (kt_wfa (kt_wf1 (kt_wp_X11_isTaken__X11_isTaken_r1 kt_wm8) (kt_wf1 (kt_wp_X11_isTaken__X11_isTaken_r1 kt_wm9) kt_wf0)) (fun _ h => kt_wp_X11_isTaken__X110 h))) kt_wg_X11_along
set_option maxRecDepth 20000 in
theorem gX11_isTaken_X11_along : GoodIn wsX11_isTaken (wsV RX11 92 RX11 yX11_along wsX11_along) := goodIn_app (a := [.methodLink RX11 92 yX11_along, .instanceMethod yX11_along, .selects RX11 yX11_along yX11_along, .initialized RX11]) (goodIn_sub (kt_wf1 (kt_wp_X11_isTaken__X11_isTaken_r1 kt_wm3) (kt_wf1 (kt_wp_X11_isTaken__X11_isTaken_r1 kt_wm4) (kt_wf1 (kt_wp_X11_isTaken__X11_isTaken_r1 kt_wm5) (kt_wf1 (kt_wp_X11_isTaken__X11_isTaken_r1 kt_wm6) kt_wf0)))) (by decide +kernel)) ggX11_isTaken_X11_along
set_option maxRecDepth 20000 in
theorem kt_wg_X11_isFoe : wsX11_isFoe.all goodWord = true := by decide +kernel
set_option maxRecDepth 20000 in
theorem ggX11_isTaken_X11_isFoe : GoodIn wsX11_isTaken wsX11_isFoe := goodIn_sub (kt_wf1 (kt_wp_X11_isTaken__X11_isTaken_r1 kt_wm13) (kt_wfa (kt_wf1 (kt_wp_X11_isTaken__X11_isTaken_r1 kt_wm14) (kt_wf1 (kt_wp_X11_isTaken__X11_isTaken_r1 kt_wm15) (kt_wf1 (kt_wp_X11_isTaken__X11_isTaken_r1 kt_wm16) (kt_wf1 (kt_wp_X11_isTaken__X11_isTaken_r1 kt_wm17) (kt_wf1 (kt_wp_X11_isTaken__X11_isTaken_r1 kt_wm18) (kt_wf1 (kt_wp_X11_isTaken__X11_isTaken_r1 kt_wm6) (kt_wf1 (kt_wp_X11_isTaken__X11_isTaken_r1 kt_wm19) (kt_wf1 (kt_wp_X11_isTaken__X11_isTaken_r1 kt_wm0) (kt_wf1 (kt_wp_X11_isTaken__X11_isTaken_r1 kt_wm20) (kt_wf1 (kt_wp_X11_isTaken__X11_isTaken_r1 kt_wm21) (kt_wf1 (kt_wp_X11_isTaken__X11_isTaken_r1 kt_wm22) (kt_wf1 (kt_wp_X11_isTaken__X11_isTaken_r1 kt_wm23) (kt_wf1 (kt_wp_X11_isTaken__X11_isTaken_r2 kt_wm0) kt_wf0))))))))))))) (fun _ h => kt_wp_X11_isTaken__X110 h))) kt_wg_X11_isFoe
set_option maxRecDepth 20000 in
theorem gX11_isTaken_X11_isFoe : GoodIn wsX11_isTaken (wsV RX11 117 RX11 yX11_isFoe wsX11_isFoe) := goodIn_app (a := [.methodLink RX11 117 yX11_isFoe, .instanceMethod yX11_isFoe, .selects RX11 yX11_isFoe yX11_isFoe, .initialized RX11]) (goodIn_sub (kt_wf1 (kt_wp_X11_isTaken__X11_isTaken_r1 kt_wm10) (kt_wf1 (kt_wp_X11_isTaken__X11_isTaken_r1 kt_wm11) (kt_wf1 (kt_wp_X11_isTaken__X11_isTaken_r1 kt_wm12) (kt_wf1 (kt_wp_X11_isTaken__X11_isTaken_r1 kt_wm6) kt_wf0)))) (by decide +kernel)) ggX11_isTaken_X11_isFoe
theorem sX11_isTaken_0 : kt_sg cX11_isTaken 0 [42, 180, 0, 27, 27, 46, 7, 159, 0, 39, 42, 180, 0, 27, 27, 46, 5, 160, 0, 11, 42, 180, 0, 20, 7, 159, 0, 21, 42, 27, 42, 42, 180, 0, 30, 27, 46, 28, 4, 182, 0, 92, 182, 0, 117, 172, 4, 62, 3, 54, 4, 21, 4, 7, 162, 0, 40, 29, 153, 0, 28, 42, 27, 42] = true := by decide +kernel
theorem dX11_isTaken_0 : decode cX11_isTaken 0 = .ok (.aload_n 0, 1) := kt_o42 (j := 0) sX11_isTaken_0 rfl
theorem dX11_isTaken_1 : decode cX11_isTaken 1 = .ok (.getfield 27, 3) := kt_o180 (j := 1) sX11_isTaken_0 rfl rfl
theorem dX11_isTaken_4 : decode cX11_isTaken 4 = .ok (.iload_n 1, 1) := kt_o27 (j := 4) sX11_isTaken_0 rfl
theorem dX11_isTaken_5 : decode cX11_isTaken 5 = .ok (.iaload, 1) := kt_o46 (j := 5) sX11_isTaken_0 rfl
theorem dX11_isTaken_6 : decode cX11_isTaken 6 = .ok (.iconst 4, 1) := kt_o7 (j := 6) sX11_isTaken_0 rfl
theorem dX11_isTaken_7 : decode cX11_isTaken 7 = .ok (.if_icmp .eq 39, 3) := kt_o159 (j := 7) sX11_isTaken_0 rfl (by decide +kernel)
theorem dX11_isTaken_10 : decode cX11_isTaken 10 = .ok (.aload_n 0, 1) := kt_o42 (j := 10) sX11_isTaken_0 rfl
theorem dX11_isTaken_11 : decode cX11_isTaken 11 = .ok (.getfield 27, 3) := kt_o180 (j := 11) sX11_isTaken_0 rfl rfl
theorem dX11_isTaken_14 : decode cX11_isTaken 14 = .ok (.iload_n 1, 1) := kt_o27 (j := 14) sX11_isTaken_0 rfl
theorem dX11_isTaken_15 : decode cX11_isTaken 15 = .ok (.iaload, 1) := kt_o46 (j := 15) sX11_isTaken_0 rfl
theorem dX11_isTaken_16 : decode cX11_isTaken 16 = .ok (.iconst 2, 1) := kt_o5 (j := 16) sX11_isTaken_0 rfl
theorem dX11_isTaken_17 : decode cX11_isTaken 17 = .ok (.if_icmp .ne 11, 3) := kt_o160 (j := 17) sX11_isTaken_0 rfl (by decide +kernel)
theorem dX11_isTaken_20 : decode cX11_isTaken 20 = .ok (.aload_n 0, 1) := kt_o42 (j := 20) sX11_isTaken_0 rfl
theorem dX11_isTaken_21 : decode cX11_isTaken 21 = .ok (.getfield 20, 3) := kt_o180 (j := 21) sX11_isTaken_0 rfl rfl
theorem dX11_isTaken_24 : decode cX11_isTaken 24 = .ok (.iconst 4, 1) := kt_o7 (j := 24) sX11_isTaken_0 rfl
theorem dX11_isTaken_25 : decode cX11_isTaken 25 = .ok (.if_icmp .eq 21, 3) := kt_o159 (j := 25) sX11_isTaken_0 rfl (by decide +kernel)
theorem dX11_isTaken_28 : decode cX11_isTaken 28 = .ok (.aload_n 0, 1) := kt_o42 (j := 28) sX11_isTaken_0 rfl
theorem dX11_isTaken_29 : decode cX11_isTaken 29 = .ok (.iload_n 1, 1) := kt_o27 (j := 29) sX11_isTaken_0 rfl
theorem dX11_isTaken_30 : decode cX11_isTaken 30 = .ok (.aload_n 0, 1) := kt_o42 (j := 30) sX11_isTaken_0 rfl
theorem dX11_isTaken_31 : decode cX11_isTaken 31 = .ok (.aload_n 0, 1) := kt_o42 (j := 31) sX11_isTaken_0 rfl
theorem dX11_isTaken_32 : decode cX11_isTaken 32 = .ok (.getfield 30, 3) := kt_o180 (j := 32) sX11_isTaken_0 rfl rfl
theorem dX11_isTaken_35 : decode cX11_isTaken 35 = .ok (.iload_n 1, 1) := kt_o27 (j := 35) sX11_isTaken_0 rfl
theorem dX11_isTaken_36 : decode cX11_isTaken 36 = .ok (.iaload, 1) := kt_o46 (j := 36) sX11_isTaken_0 rfl
theorem dX11_isTaken_37 : decode cX11_isTaken 37 = .ok (.iload_n 2, 1) := kt_o28 (j := 37) sX11_isTaken_0 rfl
theorem dX11_isTaken_38 : decode cX11_isTaken 38 = .ok (.iconst 1, 1) := kt_o4 (j := 38) sX11_isTaken_0 rfl
theorem dX11_isTaken_39 : decode cX11_isTaken 39 = .ok (.invokevirtual 92, 3) := kt_o182 (j := 39) sX11_isTaken_0 rfl rfl
theorem dX11_isTaken_42 : decode cX11_isTaken 42 = .ok (.invokevirtual 117, 3) := kt_o182 (j := 42) sX11_isTaken_0 rfl rfl
theorem dX11_isTaken_45 : decode cX11_isTaken 45 = .ok (.ireturn, 1) := kt_o172 (j := 45) sX11_isTaken_0 rfl
theorem dX11_isTaken_46 : decode cX11_isTaken 46 = .ok (.iconst 1, 1) := kt_o4 (j := 46) sX11_isTaken_0 rfl
theorem dX11_isTaken_47 : decode cX11_isTaken 47 = .ok (.istore_n 3, 1) := kt_o62 (j := 47) sX11_isTaken_0 rfl
theorem dX11_isTaken_48 : decode cX11_isTaken 48 = .ok (.iconst 0, 1) := kt_o3 (j := 48) sX11_isTaken_0 rfl
theorem dX11_isTaken_49 : decode cX11_isTaken 49 = .ok (.istore 4, 2) := kt_o54 (j := 49) sX11_isTaken_0 rfl
theorem dX11_isTaken_51 : decode cX11_isTaken 51 = .ok (.iload 4, 2) := kt_o21 (j := 51) sX11_isTaken_0 rfl
theorem dX11_isTaken_53 : decode cX11_isTaken 53 = .ok (.iconst 4, 1) := kt_o7 (j := 53) sX11_isTaken_0 rfl
theorem dX11_isTaken_54 : decode cX11_isTaken 54 = .ok (.if_icmp .ge 40, 3) := kt_o162 (j := 54) sX11_isTaken_0 rfl (by decide +kernel)
theorem dX11_isTaken_57 : decode cX11_isTaken 57 = .ok (.iload_n 3, 1) := kt_o29 (j := 57) sX11_isTaken_0 rfl
theorem dX11_isTaken_58 : decode cX11_isTaken 58 = .ok (.ifCond .eq 28, 3) := kt_o153 (j := 58) sX11_isTaken_0 rfl (by decide +kernel)
theorem dX11_isTaken_61 : decode cX11_isTaken 61 = .ok (.aload_n 0, 1) := kt_o42 (j := 61) sX11_isTaken_0 rfl
theorem dX11_isTaken_62 : decode cX11_isTaken 62 = .ok (.iload_n 1, 1) := kt_o27 (j := 62) sX11_isTaken_0 rfl
theorem dX11_isTaken_63 : decode cX11_isTaken 63 = .ok (.aload_n 0, 1) := kt_o42 (j := 63) sX11_isTaken_0 rfl
theorem sX11_isTaken_64 : kt_sg cX11_isTaken 64 [42, 180, 0, 30, 27, 46, 21, 4, 4, 182, 0, 92, 182, 0, 117, 153, 0, 7, 4, 167, 0, 4, 3, 62, 132, 4, 1, 167, 255, 216, 29, 172] = true := by decide +kernel
theorem dX11_isTaken_64 : decode cX11_isTaken 64 = .ok (.aload_n 0, 1) := kt_o42 (j := 0) sX11_isTaken_64 rfl
theorem dX11_isTaken_65 : decode cX11_isTaken 65 = .ok (.getfield 30, 3) := kt_o180 (j := 1) sX11_isTaken_64 rfl rfl
theorem dX11_isTaken_68 : decode cX11_isTaken 68 = .ok (.iload_n 1, 1) := kt_o27 (j := 4) sX11_isTaken_64 rfl
theorem dX11_isTaken_69 : decode cX11_isTaken 69 = .ok (.iaload, 1) := kt_o46 (j := 5) sX11_isTaken_64 rfl
theorem dX11_isTaken_70 : decode cX11_isTaken 70 = .ok (.iload 4, 2) := kt_o21 (j := 6) sX11_isTaken_64 rfl
theorem dX11_isTaken_72 : decode cX11_isTaken 72 = .ok (.iconst 1, 1) := kt_o4 (j := 8) sX11_isTaken_64 rfl
theorem dX11_isTaken_73 : decode cX11_isTaken 73 = .ok (.invokevirtual 92, 3) := kt_o182 (j := 9) sX11_isTaken_64 rfl rfl
theorem dX11_isTaken_76 : decode cX11_isTaken 76 = .ok (.invokevirtual 117, 3) := kt_o182 (j := 12) sX11_isTaken_64 rfl rfl
theorem dX11_isTaken_79 : decode cX11_isTaken 79 = .ok (.ifCond .eq 7, 3) := kt_o153 (j := 15) sX11_isTaken_64 rfl (by decide +kernel)
theorem dX11_isTaken_82 : decode cX11_isTaken 82 = .ok (.iconst 1, 1) := kt_o4 (j := 18) sX11_isTaken_64 rfl
theorem dX11_isTaken_83 : decode cX11_isTaken 83 = .ok (.goto 4, 3) := kt_o167 (j := 19) sX11_isTaken_64 rfl (by decide +kernel)
theorem dX11_isTaken_86 : decode cX11_isTaken 86 = .ok (.iconst 0, 1) := kt_o3 (j := 22) sX11_isTaken_64 rfl
theorem dX11_isTaken_87 : decode cX11_isTaken 87 = .ok (.istore_n 3, 1) := kt_o62 (j := 23) sX11_isTaken_64 rfl
theorem dX11_isTaken_88 : decode cX11_isTaken 88 = .ok (.iinc 4 1, 3) := kt_o132 (j := 24) sX11_isTaken_64 rfl (by decide +kernel)
theorem dX11_isTaken_91 : decode cX11_isTaken 91 = .ok (.goto (-40), 3) := kt_o167 (j := 27) sX11_isTaken_64 rfl (by decide +kernel)
theorem dX11_isTaken_94 : decode cX11_isTaken 94 = .ok (.iload_n 3, 1) := kt_o29 (j := 30) sX11_isTaken_64 rfl
theorem dX11_isTaken_95 : decode cX11_isTaken 95 = .ok (.ireturn, 1) := kt_o172 (j := 31) sX11_isTaken_64 rfl
theorem kt_wp_X11_make__X11_make_r1 {w : Cond} (h : w ∈ wsX11_make_r1) : w ∈ wsX11_make := List.mem_cons_of_mem _ (List.mem_append_left _ (List.mem_append_left _ (h)))
theorem kt_wp_X11_make__X11_make_r2 {w : Cond} (h : w ∈ wsX11_make_r2) : w ∈ wsX11_make := List.mem_cons_of_mem _ (List.mem_append_left _ (List.mem_append_right _ (h)))
theorem kt_wp_X11_make__X110 {w : Cond} (h : w ∈ wsX110) : w ∈ wsX11_make := List.mem_cons_of_mem _ (List.mem_append_right _ (h))
set_option maxRecDepth 20000 in
theorem ggX11_make_X11_along : GoodIn wsX11_make wsX11_along := goodIn_sub (kt_wf1 (kt_wp_X11_make__X11_make_r1 kt_wm10) (kt_wfa (kt_wf1 (kt_wp_X11_make__X11_make_r1 kt_wm11) (kt_wf1 (kt_wp_X11_make__X11_make_r1 kt_wm12) kt_wf0)) (fun _ h => kt_wp_X11_make__X110 h))) kt_wg_X11_along
set_option maxRecDepth 20000 in
theorem gX11_make_X11_along : GoodIn wsX11_make (wsV RX11 92 RX11 yX11_along wsX11_along) := goodIn_app (a := [.methodLink RX11 92 yX11_along, .instanceMethod yX11_along, .selects RX11 yX11_along yX11_along, .initialized RX11]) (goodIn_sub (kt_wf1 (kt_wp_X11_make__X11_make_r1 kt_wm6) (kt_wf1 (kt_wp_X11_make__X11_make_r1 kt_wm7) (kt_wf1 (kt_wp_X11_make__X11_make_r1 kt_wm8) (kt_wf1 (kt_wp_X11_make__X11_make_r1 kt_wm9) kt_wf0)))) (by decide +kernel)) ggX11_make_X11_along
set_option maxRecDepth 20000 in
theorem ggX11_make_X11_takes : GoodIn wsX11_make wsX11_takes := goodIn_sub (kt_wf1 (kt_wp_X11_make__X11_make_r1 kt_wm16) (kt_wfa (kt_wf1 (kt_wp_X11_make__X11_make_r1 kt_wm17) (kt_wf1 (kt_wp_X11_make__X11_make_r1 kt_wm18) kt_wf0)) (fun _ h => kt_wp_X11_make__X110 h))) kt_wg_X11_takes
set_option maxRecDepth 20000 in
theorem gX11_make_X11_takes : GoodIn wsX11_make (wsV RX11 113 RX11 yX11_takes wsX11_takes) := goodIn_app (a := [.methodLink RX11 113 yX11_takes, .instanceMethod yX11_takes, .selects RX11 yX11_takes yX11_takes, .initialized RX11]) (goodIn_sub (kt_wf1 (kt_wp_X11_make__X11_make_r1 kt_wm13) (kt_wf1 (kt_wp_X11_make__X11_make_r1 kt_wm14) (kt_wf1 (kt_wp_X11_make__X11_make_r1 kt_wm15) (kt_wf1 (kt_wp_X11_make__X11_make_r1 kt_wm9) kt_wf0)))) (by decide +kernel)) ggX11_make_X11_takes
set_option maxRecDepth 20000 in
theorem ggX11_make_X11_sideOf : GoodIn wsX11_make wsX11_sideOf := goodIn_sub (kt_wf1 (kt_wp_X11_make__X11_make_r1 kt_wm22) (kt_wfa (kt_wf1 (kt_wp_X11_make__X11_make_r1 kt_wm17) kt_wf0) (fun _ h => kt_wp_X11_make__X110 h))) kt_wg_X11_sideOf
set_option maxRecDepth 20000 in
theorem gX11_make_X11_sideOf : GoodIn wsX11_make (wsV RX11 106 RX11 yX11_sideOf wsX11_sideOf) := goodIn_app (a := [.methodLink RX11 106 yX11_sideOf, .instanceMethod yX11_sideOf, .selects RX11 yX11_sideOf yX11_sideOf, .initialized RX11]) (goodIn_sub (kt_wf1 (kt_wp_X11_make__X11_make_r1 kt_wm19) (kt_wf1 (kt_wp_X11_make__X11_make_r1 kt_wm20) (kt_wf1 (kt_wp_X11_make__X11_make_r1 kt_wm21) (kt_wf1 (kt_wp_X11_make__X11_make_r1 kt_wm9) kt_wf0)))) (by decide +kernel)) ggX11_make_X11_sideOf
set_option maxRecDepth 20000 in
theorem kt_wg_X11_isTaken : wsX11_isTaken.all goodWord = true := by decide +kernel
set_option maxRecDepth 20000 in
theorem ggX11_make_X11_isTaken : GoodIn wsX11_make wsX11_isTaken := goodIn_sub (kt_wf1 (kt_wp_X11_make__X11_make_r2 kt_wm2) (kt_wfa (kt_wfa (kt_wf1 (kt_wp_X11_make__X11_make_r1 kt_wm17) (kt_wf1 (kt_wp_X11_make__X11_make_r2 kt_wm3) (kt_wf1 (kt_wp_X11_make__X11_make_r1 kt_wm0) (kt_wf1 (kt_wp_X11_make__X11_make_r1 kt_wm6) (kt_wf1 (kt_wp_X11_make__X11_make_r1 kt_wm7) (kt_wf1 (kt_wp_X11_make__X11_make_r1 kt_wm8) (kt_wf1 (kt_wp_X11_make__X11_make_r1 kt_wm9) (kt_wf1 (kt_wp_X11_make__X11_make_r1 kt_wm10) (kt_wf1 (kt_wp_X11_make__X11_make_r1 kt_wm11) (kt_wf1 (kt_wp_X11_make__X11_make_r1 kt_wm12) (kt_wf1 (kt_wp_X11_make__X11_make_r2 kt_wm4) (kt_wf1 (kt_wp_X11_make__X11_make_r2 kt_wm5) (kt_wf1 (kt_wp_X11_make__X11_make_r2 kt_wm6) (kt_wf1 (kt_wp_X11_make__X11_make_r2 kt_wm7) (kt_wf1 (kt_wp_X11_make__X11_make_r1 kt_wm1) (kt_wf1 (kt_wp_X11_make__X11_make_r2 kt_wm8) (kt_wf1 (kt_wp_X11_make__X11_make_r1 kt_wm19) (kt_wf1 (kt_wp_X11_make__X11_make_r1 kt_wm20) (kt_wf1 (kt_wp_X11_make__X11_make_r1 kt_wm21) (kt_wf1 (kt_wp_X11_make__X11_make_r1 kt_wm22) (kt_wf1 (kt_wp_X11_make__X11_make_r1 kt_wm13) (kt_wf1 (kt_wp_X11_make__X11_make_r1 kt_wm14) (kt_wf1 (kt_wp_X11_make__X11_make_r1 kt_wm15) (kt_wf1 (kt_wp_X11_make__X11_make_r1 kt_wm16) kt_wf0)))))))))))))))))))))))) (kt_wf1 (kt_wp_X11_make__X11_make_r1 kt_wm18) kt_wf0)) (fun _ h => kt_wp_X11_make__X110 h))) kt_wg_X11_isTaken
set_option maxRecDepth 20000 in
theorem gX11_make_X11_isTaken : GoodIn wsX11_make (wsV RX11 123 RX11 yX11_isTaken wsX11_isTaken) := goodIn_app (a := [.methodLink RX11 123 yX11_isTaken, .instanceMethod yX11_isTaken, .selects RX11 yX11_isTaken yX11_isTaken, .initialized RX11]) (goodIn_sub (kt_wf1 (kt_wp_X11_make__X11_make_r1 kt_wm23) (kt_wf1 (kt_wp_X11_make__X11_make_r2 kt_wm0) (kt_wf1 (kt_wp_X11_make__X11_make_r2 kt_wm1) (kt_wf1 (kt_wp_X11_make__X11_make_r1 kt_wm9) kt_wf0)))) (by decide +kernel)) ggX11_make_X11_isTaken
theorem sX11_make_0 : kt_sg cX11_make 0 [42, 42, 180, 0, 30, 27, 46, 28, 29, 182, 0, 92, 54, 4, 42, 180, 0, 33, 42, 180, 0, 30, 27, 46, 2, 79, 42, 180, 0, 30, 27, 21, 4, 79, 42, 180, 0, 33, 21, 4, 27, 79, 3, 54, 5, 21, 5, 42, 180, 0, 103, 162, 0, 17, 42, 180, 0, 47, 21, 5, 3, 84, 132, 5, 1] = true := by decide +kernel
theorem dX11_make_0 : decode cX11_make 0 = .ok (.aload_n 0, 1) := kt_o42 (j := 0) sX11_make_0 rfl
theorem dX11_make_1 : decode cX11_make 1 = .ok (.aload_n 0, 1) := kt_o42 (j := 1) sX11_make_0 rfl
theorem dX11_make_2 : decode cX11_make 2 = .ok (.getfield 30, 3) := kt_o180 (j := 2) sX11_make_0 rfl rfl
theorem dX11_make_5 : decode cX11_make 5 = .ok (.iload_n 1, 1) := kt_o27 (j := 5) sX11_make_0 rfl
theorem dX11_make_6 : decode cX11_make 6 = .ok (.iaload, 1) := kt_o46 (j := 6) sX11_make_0 rfl
theorem dX11_make_7 : decode cX11_make 7 = .ok (.iload_n 2, 1) := kt_o28 (j := 7) sX11_make_0 rfl
theorem dX11_make_8 : decode cX11_make 8 = .ok (.iload_n 3, 1) := kt_o29 (j := 8) sX11_make_0 rfl
theorem dX11_make_9 : decode cX11_make 9 = .ok (.invokevirtual 92, 3) := kt_o182 (j := 9) sX11_make_0 rfl rfl
theorem dX11_make_12 : decode cX11_make 12 = .ok (.istore 4, 2) := kt_o54 (j := 12) sX11_make_0 rfl
theorem dX11_make_14 : decode cX11_make 14 = .ok (.aload_n 0, 1) := kt_o42 (j := 14) sX11_make_0 rfl
theorem dX11_make_15 : decode cX11_make 15 = .ok (.getfield 33, 3) := kt_o180 (j := 15) sX11_make_0 rfl rfl
theorem dX11_make_18 : decode cX11_make 18 = .ok (.aload_n 0, 1) := kt_o42 (j := 18) sX11_make_0 rfl
theorem dX11_make_19 : decode cX11_make 19 = .ok (.getfield 30, 3) := kt_o180 (j := 19) sX11_make_0 rfl rfl
theorem dX11_make_22 : decode cX11_make 22 = .ok (.iload_n 1, 1) := kt_o27 (j := 22) sX11_make_0 rfl
theorem dX11_make_23 : decode cX11_make 23 = .ok (.iaload, 1) := kt_o46 (j := 23) sX11_make_0 rfl
theorem dX11_make_24 : decode cX11_make 24 = .ok (.iconst (-1), 1) := kt_o2 (j := 24) sX11_make_0 rfl
theorem dX11_make_25 : decode cX11_make 25 = .ok (.iastore, 1) := kt_o79 (j := 25) sX11_make_0 rfl
theorem dX11_make_26 : decode cX11_make 26 = .ok (.aload_n 0, 1) := kt_o42 (j := 26) sX11_make_0 rfl
theorem dX11_make_27 : decode cX11_make 27 = .ok (.getfield 30, 3) := kt_o180 (j := 27) sX11_make_0 rfl rfl
theorem dX11_make_30 : decode cX11_make 30 = .ok (.iload_n 1, 1) := kt_o27 (j := 30) sX11_make_0 rfl
theorem dX11_make_31 : decode cX11_make 31 = .ok (.iload 4, 2) := kt_o21 (j := 31) sX11_make_0 rfl
theorem dX11_make_33 : decode cX11_make 33 = .ok (.iastore, 1) := kt_o79 (j := 33) sX11_make_0 rfl
theorem dX11_make_34 : decode cX11_make 34 = .ok (.aload_n 0, 1) := kt_o42 (j := 34) sX11_make_0 rfl
theorem dX11_make_35 : decode cX11_make 35 = .ok (.getfield 33, 3) := kt_o180 (j := 35) sX11_make_0 rfl rfl
theorem dX11_make_38 : decode cX11_make 38 = .ok (.iload 4, 2) := kt_o21 (j := 38) sX11_make_0 rfl
theorem dX11_make_40 : decode cX11_make 40 = .ok (.iload_n 1, 1) := kt_o27 (j := 40) sX11_make_0 rfl
theorem dX11_make_41 : decode cX11_make 41 = .ok (.iastore, 1) := kt_o79 (j := 41) sX11_make_0 rfl
theorem dX11_make_42 : decode cX11_make 42 = .ok (.iconst 0, 1) := kt_o3 (j := 42) sX11_make_0 rfl
theorem dX11_make_43 : decode cX11_make 43 = .ok (.istore 5, 2) := kt_o54 (j := 43) sX11_make_0 rfl
theorem dX11_make_45 : decode cX11_make 45 = .ok (.iload 5, 2) := kt_o21 (j := 45) sX11_make_0 rfl
theorem dX11_make_47 : decode cX11_make 47 = .ok (.aload_n 0, 1) := kt_o42 (j := 47) sX11_make_0 rfl
theorem dX11_make_48 : decode cX11_make 48 = .ok (.getfield 103, 3) := kt_o180 (j := 48) sX11_make_0 rfl rfl
theorem dX11_make_51 : decode cX11_make 51 = .ok (.if_icmp .ge 17, 3) := kt_o162 (j := 51) sX11_make_0 rfl (by decide +kernel)
theorem dX11_make_54 : decode cX11_make 54 = .ok (.aload_n 0, 1) := kt_o42 (j := 54) sX11_make_0 rfl
theorem dX11_make_55 : decode cX11_make 55 = .ok (.getfield 47, 3) := kt_o180 (j := 55) sX11_make_0 rfl rfl
theorem dX11_make_58 : decode cX11_make 58 = .ok (.iload 5, 2) := kt_o21 (j := 58) sX11_make_0 rfl
theorem dX11_make_60 : decode cX11_make 60 = .ok (.iconst 0, 1) := kt_o3 (j := 60) sX11_make_0 rfl
theorem dX11_make_61 : decode cX11_make 61 = .ok (.bastore, 1) := kt_o84 (j := 61) sX11_make_0 rfl
theorem dX11_make_62 : decode cX11_make 62 = .ok (.iinc 5 1, 3) := kt_o132 (j := 62) sX11_make_0 rfl (by decide +kernel)
theorem sX11_make_65 : kt_sg cX11_make 65 [167, 255, 236, 42, 3, 181, 0, 120, 3, 54, 5, 21, 5, 7, 162, 0, 92, 42, 27, 182, 0, 113, 153, 0, 84, 42, 21, 4, 21, 5, 4, 182, 0, 92, 54, 6, 21, 6, 2, 159, 0, 61, 42, 180, 0, 33, 21, 6, 46, 2, 159, 0, 50, 42, 42, 180, 0, 33, 21, 6, 46, 182, 0, 106] = true := by decide +kernel
theorem dX11_make_65 : decode cX11_make 65 = .ok (.goto (-20), 3) := kt_o167 (j := 0) sX11_make_65 rfl (by decide +kernel)
theorem dX11_make_68 : decode cX11_make 68 = .ok (.aload_n 0, 1) := kt_o42 (j := 3) sX11_make_65 rfl
theorem dX11_make_69 : decode cX11_make 69 = .ok (.iconst 0, 1) := kt_o3 (j := 4) sX11_make_65 rfl
theorem dX11_make_70 : decode cX11_make 70 = .ok (.putfield 120, 3) := kt_o181 (j := 5) sX11_make_65 rfl rfl
theorem dX11_make_73 : decode cX11_make 73 = .ok (.iconst 0, 1) := kt_o3 (j := 8) sX11_make_65 rfl
theorem dX11_make_74 : decode cX11_make 74 = .ok (.istore 5, 2) := kt_o54 (j := 9) sX11_make_65 rfl
theorem dX11_make_76 : decode cX11_make 76 = .ok (.iload 5, 2) := kt_o21 (j := 11) sX11_make_65 rfl
theorem dX11_make_78 : decode cX11_make 78 = .ok (.iconst 4, 1) := kt_o7 (j := 13) sX11_make_65 rfl
theorem dX11_make_79 : decode cX11_make 79 = .ok (.if_icmp .ge 92, 3) := kt_o162 (j := 14) sX11_make_65 rfl (by decide +kernel)
theorem dX11_make_82 : decode cX11_make 82 = .ok (.aload_n 0, 1) := kt_o42 (j := 17) sX11_make_65 rfl
theorem dX11_make_83 : decode cX11_make 83 = .ok (.iload_n 1, 1) := kt_o27 (j := 18) sX11_make_65 rfl
theorem dX11_make_84 : decode cX11_make 84 = .ok (.invokevirtual 113, 3) := kt_o182 (j := 19) sX11_make_65 rfl rfl
theorem dX11_make_87 : decode cX11_make 87 = .ok (.ifCond .eq 84, 3) := kt_o153 (j := 22) sX11_make_65 rfl (by decide +kernel)
theorem dX11_make_90 : decode cX11_make 90 = .ok (.aload_n 0, 1) := kt_o42 (j := 25) sX11_make_65 rfl
theorem dX11_make_91 : decode cX11_make 91 = .ok (.iload 4, 2) := kt_o21 (j := 26) sX11_make_65 rfl
theorem dX11_make_93 : decode cX11_make 93 = .ok (.iload 5, 2) := kt_o21 (j := 28) sX11_make_65 rfl
theorem dX11_make_95 : decode cX11_make 95 = .ok (.iconst 1, 1) := kt_o4 (j := 30) sX11_make_65 rfl
theorem dX11_make_96 : decode cX11_make 96 = .ok (.invokevirtual 92, 3) := kt_o182 (j := 31) sX11_make_65 rfl rfl
theorem dX11_make_99 : decode cX11_make 99 = .ok (.istore 6, 2) := kt_o54 (j := 34) sX11_make_65 rfl
theorem dX11_make_101 : decode cX11_make 101 = .ok (.iload 6, 2) := kt_o21 (j := 36) sX11_make_65 rfl
theorem dX11_make_103 : decode cX11_make 103 = .ok (.iconst (-1), 1) := kt_o2 (j := 38) sX11_make_65 rfl
theorem dX11_make_104 : decode cX11_make 104 = .ok (.if_icmp .eq 61, 3) := kt_o159 (j := 39) sX11_make_65 rfl (by decide +kernel)
theorem dX11_make_107 : decode cX11_make 107 = .ok (.aload_n 0, 1) := kt_o42 (j := 42) sX11_make_65 rfl
theorem dX11_make_108 : decode cX11_make 108 = .ok (.getfield 33, 3) := kt_o180 (j := 43) sX11_make_65 rfl rfl
theorem dX11_make_111 : decode cX11_make 111 = .ok (.iload 6, 2) := kt_o21 (j := 46) sX11_make_65 rfl
theorem dX11_make_113 : decode cX11_make 113 = .ok (.iaload, 1) := kt_o46 (j := 48) sX11_make_65 rfl
theorem dX11_make_114 : decode cX11_make 114 = .ok (.iconst (-1), 1) := kt_o2 (j := 49) sX11_make_65 rfl
theorem dX11_make_115 : decode cX11_make 115 = .ok (.if_icmp .eq 50, 3) := kt_o159 (j := 50) sX11_make_65 rfl (by decide +kernel)
theorem dX11_make_118 : decode cX11_make 118 = .ok (.aload_n 0, 1) := kt_o42 (j := 53) sX11_make_65 rfl
theorem dX11_make_119 : decode cX11_make 119 = .ok (.aload_n 0, 1) := kt_o42 (j := 54) sX11_make_65 rfl
theorem dX11_make_120 : decode cX11_make 120 = .ok (.getfield 33, 3) := kt_o180 (j := 55) sX11_make_65 rfl rfl
theorem dX11_make_123 : decode cX11_make 123 = .ok (.iload 6, 2) := kt_o21 (j := 58) sX11_make_65 rfl
theorem dX11_make_125 : decode cX11_make 125 = .ok (.iaload, 1) := kt_o46 (j := 60) sX11_make_65 rfl
theorem dX11_make_126 : decode cX11_make 126 = .ok (.invokevirtual 106, 3) := kt_o182 (j := 61) sX11_make_65 rfl rfl
theorem sX11_make_129 : kt_sg cX11_make 129 [42, 27, 182, 0, 106, 160, 0, 6, 167, 0, 28, 42, 180, 0, 47, 42, 180, 0, 33, 21, 6, 46, 42, 42, 180, 0, 33, 21, 6, 46, 21, 5, 182, 0, 123, 84, 132, 5, 1, 167, 255, 164, 3, 54, 5, 21, 5, 42, 180, 0, 103, 162, 0, 53, 42, 180, 0, 47, 21, 5, 51, 154, 0, 6] = true := by decide +kernel
theorem dX11_make_129 : decode cX11_make 129 = .ok (.aload_n 0, 1) := kt_o42 (j := 0) sX11_make_129 rfl
theorem dX11_make_130 : decode cX11_make 130 = .ok (.iload_n 1, 1) := kt_o27 (j := 1) sX11_make_129 rfl
theorem dX11_make_131 : decode cX11_make 131 = .ok (.invokevirtual 106, 3) := kt_o182 (j := 2) sX11_make_129 rfl rfl
theorem dX11_make_134 : decode cX11_make 134 = .ok (.if_icmp .ne 6, 3) := kt_o160 (j := 5) sX11_make_129 rfl (by decide +kernel)
theorem dX11_make_137 : decode cX11_make 137 = .ok (.goto 28, 3) := kt_o167 (j := 8) sX11_make_129 rfl (by decide +kernel)
theorem dX11_make_140 : decode cX11_make 140 = .ok (.aload_n 0, 1) := kt_o42 (j := 11) sX11_make_129 rfl
theorem dX11_make_141 : decode cX11_make 141 = .ok (.getfield 47, 3) := kt_o180 (j := 12) sX11_make_129 rfl rfl
theorem dX11_make_144 : decode cX11_make 144 = .ok (.aload_n 0, 1) := kt_o42 (j := 15) sX11_make_129 rfl
theorem dX11_make_145 : decode cX11_make 145 = .ok (.getfield 33, 3) := kt_o180 (j := 16) sX11_make_129 rfl rfl
theorem dX11_make_148 : decode cX11_make 148 = .ok (.iload 6, 2) := kt_o21 (j := 19) sX11_make_129 rfl
theorem dX11_make_150 : decode cX11_make 150 = .ok (.iaload, 1) := kt_o46 (j := 21) sX11_make_129 rfl
theorem dX11_make_151 : decode cX11_make 151 = .ok (.aload_n 0, 1) := kt_o42 (j := 22) sX11_make_129 rfl
theorem dX11_make_152 : decode cX11_make 152 = .ok (.aload_n 0, 1) := kt_o42 (j := 23) sX11_make_129 rfl
theorem dX11_make_153 : decode cX11_make 153 = .ok (.getfield 33, 3) := kt_o180 (j := 24) sX11_make_129 rfl rfl
theorem dX11_make_156 : decode cX11_make 156 = .ok (.iload 6, 2) := kt_o21 (j := 27) sX11_make_129 rfl
theorem dX11_make_158 : decode cX11_make 158 = .ok (.iaload, 1) := kt_o46 (j := 29) sX11_make_129 rfl
theorem dX11_make_159 : decode cX11_make 159 = .ok (.iload 5, 2) := kt_o21 (j := 30) sX11_make_129 rfl
theorem dX11_make_161 : decode cX11_make 161 = .ok (.invokevirtual 123, 3) := kt_o182 (j := 32) sX11_make_129 rfl rfl
theorem dX11_make_164 : decode cX11_make 164 = .ok (.bastore, 1) := kt_o84 (j := 35) sX11_make_129 rfl
theorem dX11_make_165 : decode cX11_make 165 = .ok (.iinc 5 1, 3) := kt_o132 (j := 36) sX11_make_129 rfl (by decide +kernel)
theorem dX11_make_168 : decode cX11_make 168 = .ok (.goto (-92), 3) := kt_o167 (j := 39) sX11_make_129 rfl (by decide +kernel)
theorem dX11_make_171 : decode cX11_make 171 = .ok (.iconst 0, 1) := kt_o3 (j := 42) sX11_make_129 rfl
theorem dX11_make_172 : decode cX11_make 172 = .ok (.istore 5, 2) := kt_o54 (j := 43) sX11_make_129 rfl
theorem dX11_make_174 : decode cX11_make 174 = .ok (.iload 5, 2) := kt_o21 (j := 45) sX11_make_129 rfl
theorem dX11_make_176 : decode cX11_make 176 = .ok (.aload_n 0, 1) := kt_o42 (j := 47) sX11_make_129 rfl
theorem dX11_make_177 : decode cX11_make 177 = .ok (.getfield 103, 3) := kt_o180 (j := 48) sX11_make_129 rfl rfl
theorem dX11_make_180 : decode cX11_make 180 = .ok (.if_icmp .ge 53, 3) := kt_o162 (j := 51) sX11_make_129 rfl (by decide +kernel)
theorem dX11_make_183 : decode cX11_make 183 = .ok (.aload_n 0, 1) := kt_o42 (j := 54) sX11_make_129 rfl
theorem dX11_make_184 : decode cX11_make 184 = .ok (.getfield 47, 3) := kt_o180 (j := 55) sX11_make_129 rfl rfl
theorem dX11_make_187 : decode cX11_make 187 = .ok (.iload 5, 2) := kt_o21 (j := 58) sX11_make_129 rfl
theorem dX11_make_189 : decode cX11_make 189 = .ok (.baload, 1) := kt_o51 (j := 60) sX11_make_129 rfl
theorem dX11_make_190 : decode cX11_make 190 = .ok (.ifCond .ne 6, 3) := kt_o154 (j := 61) sX11_make_129 rfl (by decide +kernel)
theorem sX11_make_193 : kt_sg cX11_make 193 [167, 0, 34, 42, 180, 0, 33, 42, 180, 0, 30, 21, 5, 46, 2, 79, 42, 180, 0, 30, 21, 5, 2, 79, 42, 89, 180, 0, 120, 4, 96, 181, 0, 120, 132, 5, 1, 167, 255, 200, 42, 4, 42, 180, 0, 126, 100, 181, 0, 126, 177] = true := by decide +kernel
theorem dX11_make_193 : decode cX11_make 193 = .ok (.goto 34, 3) := kt_o167 (j := 0) sX11_make_193 rfl (by decide +kernel)
theorem dX11_make_196 : decode cX11_make 196 = .ok (.aload_n 0, 1) := kt_o42 (j := 3) sX11_make_193 rfl
theorem dX11_make_197 : decode cX11_make 197 = .ok (.getfield 33, 3) := kt_o180 (j := 4) sX11_make_193 rfl rfl
theorem dX11_make_200 : decode cX11_make 200 = .ok (.aload_n 0, 1) := kt_o42 (j := 7) sX11_make_193 rfl
theorem dX11_make_201 : decode cX11_make 201 = .ok (.getfield 30, 3) := kt_o180 (j := 8) sX11_make_193 rfl rfl
theorem dX11_make_204 : decode cX11_make 204 = .ok (.iload 5, 2) := kt_o21 (j := 11) sX11_make_193 rfl
theorem dX11_make_206 : decode cX11_make 206 = .ok (.iaload, 1) := kt_o46 (j := 13) sX11_make_193 rfl
theorem dX11_make_207 : decode cX11_make 207 = .ok (.iconst (-1), 1) := kt_o2 (j := 14) sX11_make_193 rfl
theorem dX11_make_208 : decode cX11_make 208 = .ok (.iastore, 1) := kt_o79 (j := 15) sX11_make_193 rfl
theorem dX11_make_209 : decode cX11_make 209 = .ok (.aload_n 0, 1) := kt_o42 (j := 16) sX11_make_193 rfl
theorem dX11_make_210 : decode cX11_make 210 = .ok (.getfield 30, 3) := kt_o180 (j := 17) sX11_make_193 rfl rfl
theorem dX11_make_213 : decode cX11_make 213 = .ok (.iload 5, 2) := kt_o21 (j := 20) sX11_make_193 rfl
theorem dX11_make_215 : decode cX11_make 215 = .ok (.iconst (-1), 1) := kt_o2 (j := 22) sX11_make_193 rfl
theorem dX11_make_216 : decode cX11_make 216 = .ok (.iastore, 1) := kt_o79 (j := 23) sX11_make_193 rfl
theorem dX11_make_217 : decode cX11_make 217 = .ok (.aload_n 0, 1) := kt_o42 (j := 24) sX11_make_193 rfl
theorem dX11_make_218 : decode cX11_make 218 = .ok (.dup, 1) := kt_o89 (j := 25) sX11_make_193 rfl
theorem dX11_make_219 : decode cX11_make 219 = .ok (.getfield 120, 3) := kt_o180 (j := 26) sX11_make_193 rfl rfl
theorem dX11_make_222 : decode cX11_make 222 = .ok (.iconst 1, 1) := kt_o4 (j := 29) sX11_make_193 rfl
theorem dX11_make_223 : decode cX11_make 223 = .ok (.iadd, 1) := kt_o96 (j := 30) sX11_make_193 rfl
theorem dX11_make_224 : decode cX11_make 224 = .ok (.putfield 120, 3) := kt_o181 (j := 31) sX11_make_193 rfl rfl
theorem dX11_make_227 : decode cX11_make 227 = .ok (.iinc 5 1, 3) := kt_o132 (j := 34) sX11_make_193 rfl (by decide +kernel)
theorem dX11_make_230 : decode cX11_make 230 = .ok (.goto (-56), 3) := kt_o167 (j := 37) sX11_make_193 rfl (by decide +kernel)
theorem dX11_make_233 : decode cX11_make 233 = .ok (.aload_n 0, 1) := kt_o42 (j := 40) sX11_make_193 rfl
theorem dX11_make_234 : decode cX11_make 234 = .ok (.iconst 1, 1) := kt_o4 (j := 41) sX11_make_193 rfl
theorem dX11_make_235 : decode cX11_make 235 = .ok (.aload_n 0, 1) := kt_o42 (j := 42) sX11_make_193 rfl
theorem dX11_make_236 : decode cX11_make 236 = .ok (.getfield 126, 3) := kt_o180 (j := 43) sX11_make_193 rfl rfl
theorem dX11_make_239 : decode cX11_make 239 = .ok (.isub, 1) := kt_o100 (j := 46) sX11_make_193 rfl
theorem dX11_make_240 : decode cX11_make 240 = .ok (.putfield 126, 3) := kt_o181 (j := 47) sX11_make_193 rfl rfl
theorem dX11_make_243 : decode cX11_make 243 = .ok (.return_, 1) := kt_o177 (j := 50) sX11_make_193 rfl
theorem sX11_row_0 : kt_sg cX11_row 0 [16, 41, 27, 104, 172] = true := by decide +kernel
theorem dX11_row_0 : decode cX11_row 0 = .ok (.bipush 41, 2) := kt_o16 (j := 0) sX11_row_0 rfl (by decide +kernel)
theorem dX11_row_2 : decode cX11_row 2 = .ok (.iload_n 1, 1) := kt_o27 (j := 2) sX11_row_0 rfl
theorem dX11_row_3 : decode cX11_row 3 = .ok (.imul, 1) := kt_o104 (j := 3) sX11_row_0 rfl
theorem dX11_row_4 : decode cX11_row 4 = .ok (.ireturn, 1) := kt_o172 (j := 4) sX11_row_0 rfl
theorem kt_wp_X11_write__X110 {w : Cond} (h : w ∈ wsX110) : w ∈ wsX11_write := List.mem_cons_of_mem _ (List.mem_append_right _ (h))
set_option maxRecDepth 20000 in
theorem kt_wg_X11_row : wsX11_row.all goodWord = true := by decide +kernel
set_option maxRecDepth 20000 in
theorem ggX11_write_X11_row : GoodIn wsX11_write wsX11_row := goodIn_sub (kt_wf1 (List.mem_cons_of_mem _ (List.mem_append_left _ (List.mem_cons_of_mem _ (List.mem_cons_of_mem _ (List.mem_cons_of_mem _ (List.mem_cons_of_mem _ (List.mem_cons_of_mem _ (List.mem_cons_of_mem _ (List.mem_cons_of_mem _ (List.mem_cons_of_mem _ (List.Mem.head _))))))))))) kt_wf0) kt_wg_X11_row
set_option maxRecDepth 20000 in
theorem gX11_write_X11_row : GoodIn wsX11_write (wsV RX11 129 RX11 yX11_row wsX11_row) := goodIn_app (a := [.methodLink RX11 129 yX11_row, .instanceMethod yX11_row, .selects RX11 yX11_row yX11_row, .initialized RX11]) (goodIn_sub (kt_wf1 (List.mem_cons_of_mem _ (List.mem_append_left _ (List.mem_cons_of_mem _ (List.mem_cons_of_mem _ (List.mem_cons_of_mem _ (List.mem_cons_of_mem _ (List.Mem.head _))))))) (kt_wf1 (List.mem_cons_of_mem _ (List.mem_append_left _ (List.mem_cons_of_mem _ (List.mem_cons_of_mem _ (List.mem_cons_of_mem _ (List.mem_cons_of_mem _ (List.mem_cons_of_mem _ (List.Mem.head _)))))))) (kt_wf1 (List.mem_cons_of_mem _ (List.mem_append_left _ (List.mem_cons_of_mem _ (List.mem_cons_of_mem _ (List.mem_cons_of_mem _ (List.mem_cons_of_mem _ (List.mem_cons_of_mem _ (List.mem_cons_of_mem _ (List.Mem.head _))))))))) (kt_wf1 (List.mem_cons_of_mem _ (List.mem_append_left _ (List.mem_cons_of_mem _ (List.mem_cons_of_mem _ (List.mem_cons_of_mem _ (List.mem_cons_of_mem _ (List.mem_cons_of_mem _ (List.mem_cons_of_mem _ (List.mem_cons_of_mem _ (List.Mem.head _)))))))))) kt_wf0)))) (by decide +kernel)) ggX11_write_X11_row
theorem sX11_write_0 : kt_sg cX11_write 0 [3, 61, 28, 16, 40, 162, 0, 40, 42, 180, 0, 43, 42, 27, 182, 0, 129, 28, 96, 28, 42, 180, 0, 103, 162, 0, 12, 42, 180, 0, 30, 28, 46, 167, 0, 4, 2, 145, 84, 132, 2, 1, 167, 255, 216, 42, 180, 0, 43, 42, 27, 182, 0, 129, 16, 40, 96, 42, 180, 0, 126, 145, 84, 177] = true := by decide +kernel
theorem dX11_write_0 : decode cX11_write 0 = .ok (.iconst 0, 1) := kt_o3 (j := 0) sX11_write_0 rfl
theorem dX11_write_1 : decode cX11_write 1 = .ok (.istore_n 2, 1) := kt_o61 (j := 1) sX11_write_0 rfl
theorem dX11_write_2 : decode cX11_write 2 = .ok (.iload_n 2, 1) := kt_o28 (j := 2) sX11_write_0 rfl
theorem dX11_write_3 : decode cX11_write 3 = .ok (.bipush 40, 2) := kt_o16 (j := 3) sX11_write_0 rfl (by decide +kernel)
theorem dX11_write_5 : decode cX11_write 5 = .ok (.if_icmp .ge 40, 3) := kt_o162 (j := 5) sX11_write_0 rfl (by decide +kernel)
theorem dX11_write_8 : decode cX11_write 8 = .ok (.aload_n 0, 1) := kt_o42 (j := 8) sX11_write_0 rfl
theorem dX11_write_9 : decode cX11_write 9 = .ok (.getfield 43, 3) := kt_o180 (j := 9) sX11_write_0 rfl rfl
theorem dX11_write_12 : decode cX11_write 12 = .ok (.aload_n 0, 1) := kt_o42 (j := 12) sX11_write_0 rfl
theorem dX11_write_13 : decode cX11_write 13 = .ok (.iload_n 1, 1) := kt_o27 (j := 13) sX11_write_0 rfl
theorem dX11_write_14 : decode cX11_write 14 = .ok (.invokevirtual 129, 3) := kt_o182 (j := 14) sX11_write_0 rfl rfl
theorem dX11_write_17 : decode cX11_write 17 = .ok (.iload_n 2, 1) := kt_o28 (j := 17) sX11_write_0 rfl
theorem dX11_write_18 : decode cX11_write 18 = .ok (.iadd, 1) := kt_o96 (j := 18) sX11_write_0 rfl
theorem dX11_write_19 : decode cX11_write 19 = .ok (.iload_n 2, 1) := kt_o28 (j := 19) sX11_write_0 rfl
theorem dX11_write_20 : decode cX11_write 20 = .ok (.aload_n 0, 1) := kt_o42 (j := 20) sX11_write_0 rfl
theorem dX11_write_21 : decode cX11_write 21 = .ok (.getfield 103, 3) := kt_o180 (j := 21) sX11_write_0 rfl rfl
theorem dX11_write_24 : decode cX11_write 24 = .ok (.if_icmp .ge 12, 3) := kt_o162 (j := 24) sX11_write_0 rfl (by decide +kernel)
theorem dX11_write_27 : decode cX11_write 27 = .ok (.aload_n 0, 1) := kt_o42 (j := 27) sX11_write_0 rfl
theorem dX11_write_28 : decode cX11_write 28 = .ok (.getfield 30, 3) := kt_o180 (j := 28) sX11_write_0 rfl rfl
theorem dX11_write_31 : decode cX11_write 31 = .ok (.iload_n 2, 1) := kt_o28 (j := 31) sX11_write_0 rfl
theorem dX11_write_32 : decode cX11_write 32 = .ok (.iaload, 1) := kt_o46 (j := 32) sX11_write_0 rfl
theorem dX11_write_33 : decode cX11_write 33 = .ok (.goto 4, 3) := kt_o167 (j := 33) sX11_write_0 rfl (by decide +kernel)
theorem dX11_write_36 : decode cX11_write 36 = .ok (.iconst (-1), 1) := kt_o2 (j := 36) sX11_write_0 rfl
theorem dX11_write_37 : decode cX11_write 37 = .ok (.i2b, 1) := kt_o145 (j := 37) sX11_write_0 rfl
theorem dX11_write_38 : decode cX11_write 38 = .ok (.bastore, 1) := kt_o84 (j := 38) sX11_write_0 rfl
theorem dX11_write_39 : decode cX11_write 39 = .ok (.iinc 2 1, 3) := kt_o132 (j := 39) sX11_write_0 rfl (by decide +kernel)
theorem dX11_write_42 : decode cX11_write 42 = .ok (.goto (-40), 3) := kt_o167 (j := 42) sX11_write_0 rfl (by decide +kernel)
theorem dX11_write_45 : decode cX11_write 45 = .ok (.aload_n 0, 1) := kt_o42 (j := 45) sX11_write_0 rfl
theorem dX11_write_46 : decode cX11_write 46 = .ok (.getfield 43, 3) := kt_o180 (j := 46) sX11_write_0 rfl rfl
theorem dX11_write_49 : decode cX11_write 49 = .ok (.aload_n 0, 1) := kt_o42 (j := 49) sX11_write_0 rfl
theorem dX11_write_50 : decode cX11_write 50 = .ok (.iload_n 1, 1) := kt_o27 (j := 50) sX11_write_0 rfl
theorem dX11_write_51 : decode cX11_write 51 = .ok (.invokevirtual 129, 3) := kt_o182 (j := 51) sX11_write_0 rfl rfl
theorem dX11_write_54 : decode cX11_write 54 = .ok (.bipush 40, 2) := kt_o16 (j := 54) sX11_write_0 rfl (by decide +kernel)
theorem dX11_write_56 : decode cX11_write 56 = .ok (.iadd, 1) := kt_o96 (j := 56) sX11_write_0 rfl
theorem dX11_write_57 : decode cX11_write 57 = .ok (.aload_n 0, 1) := kt_o42 (j := 57) sX11_write_0 rfl
theorem dX11_write_58 : decode cX11_write 58 = .ok (.getfield 126, 3) := kt_o180 (j := 58) sX11_write_0 rfl rfl
theorem dX11_write_61 : decode cX11_write 61 = .ok (.i2b, 1) := kt_o145 (j := 61) sX11_write_0 rfl
theorem dX11_write_62 : decode cX11_write 62 = .ok (.bastore, 1) := kt_o84 (j := 62) sX11_write_0 rfl
theorem dX11_write_63 : decode cX11_write 63 = .ok (.return_, 1) := kt_o177 (j := 63) sX11_write_0 rfl
theorem kt_wp_X11_read__X110 {w : Cond} (h : w ∈ wsX110) : w ∈ wsX11_read := List.mem_cons_of_mem _ (List.mem_append_right _ (h))
set_option maxRecDepth 20000 in
theorem ggX11_read_X11_row : GoodIn wsX11_read wsX11_row := goodIn_sub (kt_wf1 (List.mem_cons_of_mem _ (List.mem_append_left _ (List.mem_cons_of_mem _ (List.mem_cons_of_mem _ (List.mem_cons_of_mem _ (List.mem_cons_of_mem _ (List.mem_cons_of_mem _ (List.mem_cons_of_mem _ (List.mem_cons_of_mem _ (List.mem_cons_of_mem _ (List.mem_cons_of_mem _ (List.Mem.head _)))))))))))) kt_wf0) kt_wg_X11_row
set_option maxRecDepth 20000 in
theorem gX11_read_X11_row : GoodIn wsX11_read (wsV RX11 129 RX11 yX11_row wsX11_row) := goodIn_app (a := [.methodLink RX11 129 yX11_row, .instanceMethod yX11_row, .selects RX11 yX11_row yX11_row, .initialized RX11]) (goodIn_sub (kt_wf1 (List.mem_cons_of_mem _ (List.mem_append_left _ (List.mem_cons_of_mem _ (List.mem_cons_of_mem _ (List.mem_cons_of_mem _ (List.mem_cons_of_mem _ (List.mem_cons_of_mem _ (List.Mem.head _)))))))) (kt_wf1 (List.mem_cons_of_mem _ (List.mem_append_left _ (List.mem_cons_of_mem _ (List.mem_cons_of_mem _ (List.mem_cons_of_mem _ (List.mem_cons_of_mem _ (List.mem_cons_of_mem _ (List.mem_cons_of_mem _ (List.Mem.head _))))))))) (kt_wf1 (List.mem_cons_of_mem _ (List.mem_append_left _ (List.mem_cons_of_mem _ (List.mem_cons_of_mem _ (List.mem_cons_of_mem _ (List.mem_cons_of_mem _ (List.mem_cons_of_mem _ (List.mem_cons_of_mem _ (List.mem_cons_of_mem _ (List.Mem.head _)))))))))) (kt_wf1 (List.mem_cons_of_mem _ (List.mem_append_left _ (List.mem_cons_of_mem _ (List.mem_cons_of_mem _ (List.mem_cons_of_mem _ (List.mem_cons_of_mem _ (List.mem_cons_of_mem _ (List.mem_cons_of_mem _ (List.mem_cons_of_mem _ (List.mem_cons_of_mem _ (List.Mem.head _))))))))))) kt_wf0)))) (by decide +kernel)) ggX11_read_X11_row
theorem sX11_read_0 : kt_sg cX11_read 0 [3, 61, 28, 16, 81, 162, 0, 16, 42, 180, 0, 33, 28, 2, 79, 132, 2, 1, 167, 255, 240, 3, 61, 28, 42, 180, 0, 103, 162, 0, 49, 42, 180, 0, 30, 28, 42, 180, 0, 43, 42, 27, 182, 0, 129, 28, 96, 51, 79, 42, 180, 0, 30, 28, 46, 2, 159, 0, 15, 42, 180, 0, 33, 42] = true := by decide +kernel
theorem dX11_read_0 : decode cX11_read 0 = .ok (.iconst 0, 1) := kt_o3 (j := 0) sX11_read_0 rfl
theorem dX11_read_1 : decode cX11_read 1 = .ok (.istore_n 2, 1) := kt_o61 (j := 1) sX11_read_0 rfl
theorem dX11_read_2 : decode cX11_read 2 = .ok (.iload_n 2, 1) := kt_o28 (j := 2) sX11_read_0 rfl
theorem dX11_read_3 : decode cX11_read 3 = .ok (.bipush 81, 2) := kt_o16 (j := 3) sX11_read_0 rfl (by decide +kernel)
theorem dX11_read_5 : decode cX11_read 5 = .ok (.if_icmp .ge 16, 3) := kt_o162 (j := 5) sX11_read_0 rfl (by decide +kernel)
theorem dX11_read_8 : decode cX11_read 8 = .ok (.aload_n 0, 1) := kt_o42 (j := 8) sX11_read_0 rfl
theorem dX11_read_9 : decode cX11_read 9 = .ok (.getfield 33, 3) := kt_o180 (j := 9) sX11_read_0 rfl rfl
theorem dX11_read_12 : decode cX11_read 12 = .ok (.iload_n 2, 1) := kt_o28 (j := 12) sX11_read_0 rfl
theorem dX11_read_13 : decode cX11_read 13 = .ok (.iconst (-1), 1) := kt_o2 (j := 13) sX11_read_0 rfl
theorem dX11_read_14 : decode cX11_read 14 = .ok (.iastore, 1) := kt_o79 (j := 14) sX11_read_0 rfl
theorem dX11_read_15 : decode cX11_read 15 = .ok (.iinc 2 1, 3) := kt_o132 (j := 15) sX11_read_0 rfl (by decide +kernel)
theorem dX11_read_18 : decode cX11_read 18 = .ok (.goto (-16), 3) := kt_o167 (j := 18) sX11_read_0 rfl (by decide +kernel)
theorem dX11_read_21 : decode cX11_read 21 = .ok (.iconst 0, 1) := kt_o3 (j := 21) sX11_read_0 rfl
theorem dX11_read_22 : decode cX11_read 22 = .ok (.istore_n 2, 1) := kt_o61 (j := 22) sX11_read_0 rfl
theorem dX11_read_23 : decode cX11_read 23 = .ok (.iload_n 2, 1) := kt_o28 (j := 23) sX11_read_0 rfl
theorem dX11_read_24 : decode cX11_read 24 = .ok (.aload_n 0, 1) := kt_o42 (j := 24) sX11_read_0 rfl
theorem dX11_read_25 : decode cX11_read 25 = .ok (.getfield 103, 3) := kt_o180 (j := 25) sX11_read_0 rfl rfl
theorem dX11_read_28 : decode cX11_read 28 = .ok (.if_icmp .ge 49, 3) := kt_o162 (j := 28) sX11_read_0 rfl (by decide +kernel)
theorem dX11_read_31 : decode cX11_read 31 = .ok (.aload_n 0, 1) := kt_o42 (j := 31) sX11_read_0 rfl
theorem dX11_read_32 : decode cX11_read 32 = .ok (.getfield 30, 3) := kt_o180 (j := 32) sX11_read_0 rfl rfl
theorem dX11_read_35 : decode cX11_read 35 = .ok (.iload_n 2, 1) := kt_o28 (j := 35) sX11_read_0 rfl
theorem dX11_read_36 : decode cX11_read 36 = .ok (.aload_n 0, 1) := kt_o42 (j := 36) sX11_read_0 rfl
theorem dX11_read_37 : decode cX11_read 37 = .ok (.getfield 43, 3) := kt_o180 (j := 37) sX11_read_0 rfl rfl
theorem dX11_read_40 : decode cX11_read 40 = .ok (.aload_n 0, 1) := kt_o42 (j := 40) sX11_read_0 rfl
theorem dX11_read_41 : decode cX11_read 41 = .ok (.iload_n 1, 1) := kt_o27 (j := 41) sX11_read_0 rfl
theorem dX11_read_42 : decode cX11_read 42 = .ok (.invokevirtual 129, 3) := kt_o182 (j := 42) sX11_read_0 rfl rfl
theorem dX11_read_45 : decode cX11_read 45 = .ok (.iload_n 2, 1) := kt_o28 (j := 45) sX11_read_0 rfl
theorem dX11_read_46 : decode cX11_read 46 = .ok (.iadd, 1) := kt_o96 (j := 46) sX11_read_0 rfl
theorem dX11_read_47 : decode cX11_read 47 = .ok (.baload, 1) := kt_o51 (j := 47) sX11_read_0 rfl
theorem dX11_read_48 : decode cX11_read 48 = .ok (.iastore, 1) := kt_o79 (j := 48) sX11_read_0 rfl
theorem dX11_read_49 : decode cX11_read 49 = .ok (.aload_n 0, 1) := kt_o42 (j := 49) sX11_read_0 rfl
theorem dX11_read_50 : decode cX11_read 50 = .ok (.getfield 30, 3) := kt_o180 (j := 50) sX11_read_0 rfl rfl
theorem dX11_read_53 : decode cX11_read 53 = .ok (.iload_n 2, 1) := kt_o28 (j := 53) sX11_read_0 rfl
theorem dX11_read_54 : decode cX11_read 54 = .ok (.iaload, 1) := kt_o46 (j := 54) sX11_read_0 rfl
theorem dX11_read_55 : decode cX11_read 55 = .ok (.iconst (-1), 1) := kt_o2 (j := 55) sX11_read_0 rfl
theorem dX11_read_56 : decode cX11_read 56 = .ok (.if_icmp .eq 15, 3) := kt_o159 (j := 56) sX11_read_0 rfl (by decide +kernel)
theorem dX11_read_59 : decode cX11_read 59 = .ok (.aload_n 0, 1) := kt_o42 (j := 59) sX11_read_0 rfl
theorem dX11_read_60 : decode cX11_read 60 = .ok (.getfield 33, 3) := kt_o180 (j := 60) sX11_read_0 rfl rfl
theorem dX11_read_63 : decode cX11_read 63 = .ok (.aload_n 0, 1) := kt_o42 (j := 63) sX11_read_0 rfl
theorem sX11_read_64 : kt_sg cX11_read 64 [180, 0, 30, 28, 46, 28, 79, 132, 2, 1, 167, 255, 205, 42, 42, 180, 0, 43, 42, 27, 182, 0, 129, 16, 40, 96, 51, 181, 0, 126, 177] = true := by decide +kernel
theorem dX11_read_64 : decode cX11_read 64 = .ok (.getfield 30, 3) := kt_o180 (j := 0) sX11_read_64 rfl rfl
theorem dX11_read_67 : decode cX11_read 67 = .ok (.iload_n 2, 1) := kt_o28 (j := 3) sX11_read_64 rfl
theorem dX11_read_68 : decode cX11_read 68 = .ok (.iaload, 1) := kt_o46 (j := 4) sX11_read_64 rfl
theorem dX11_read_69 : decode cX11_read 69 = .ok (.iload_n 2, 1) := kt_o28 (j := 5) sX11_read_64 rfl
theorem dX11_read_70 : decode cX11_read 70 = .ok (.iastore, 1) := kt_o79 (j := 6) sX11_read_64 rfl
theorem dX11_read_71 : decode cX11_read 71 = .ok (.iinc 2 1, 3) := kt_o132 (j := 7) sX11_read_64 rfl (by decide +kernel)
theorem dX11_read_74 : decode cX11_read 74 = .ok (.goto (-51), 3) := kt_o167 (j := 10) sX11_read_64 rfl (by decide +kernel)
theorem dX11_read_77 : decode cX11_read 77 = .ok (.aload_n 0, 1) := kt_o42 (j := 13) sX11_read_64 rfl
theorem dX11_read_78 : decode cX11_read 78 = .ok (.aload_n 0, 1) := kt_o42 (j := 14) sX11_read_64 rfl
theorem dX11_read_79 : decode cX11_read 79 = .ok (.getfield 43, 3) := kt_o180 (j := 15) sX11_read_64 rfl rfl
theorem dX11_read_82 : decode cX11_read 82 = .ok (.aload_n 0, 1) := kt_o42 (j := 18) sX11_read_64 rfl
theorem dX11_read_83 : decode cX11_read 83 = .ok (.iload_n 1, 1) := kt_o27 (j := 19) sX11_read_64 rfl
theorem dX11_read_84 : decode cX11_read 84 = .ok (.invokevirtual 129, 3) := kt_o182 (j := 20) sX11_read_64 rfl rfl
theorem dX11_read_87 : decode cX11_read 87 = .ok (.bipush 40, 2) := kt_o16 (j := 23) sX11_read_64 rfl (by decide +kernel)
theorem dX11_read_89 : decode cX11_read 89 = .ok (.iadd, 1) := kt_o96 (j := 25) sX11_read_64 rfl
theorem dX11_read_90 : decode cX11_read 90 = .ok (.baload, 1) := kt_o51 (j := 26) sX11_read_64 rfl
theorem dX11_read_91 : decode cX11_read 91 = .ok (.putfield 126, 3) := kt_o181 (j := 27) sX11_read_64 rfl rfl
theorem dX11_read_94 : decode cX11_read 94 = .ok (.return_, 1) := kt_o177 (j := 30) sX11_read_64 rfl
theorem kt_wp_X11_isAlike__X110 {w : Cond} (h : w ∈ wsX110) : w ∈ wsX11_isAlike := List.mem_cons_of_mem _ (List.mem_append_right _ (h))
set_option maxRecDepth 20000 in
theorem ggX11_isAlike_X11_row : GoodIn wsX11_isAlike wsX11_row := goodIn_sub (kt_wf1 (List.mem_cons_of_mem _ (List.mem_append_left _ (List.mem_cons_of_mem _ (List.mem_cons_of_mem _ (List.mem_cons_of_mem _ (List.mem_cons_of_mem _ (List.mem_cons_of_mem _ (List.Mem.head _)))))))) kt_wf0) kt_wg_X11_row
set_option maxRecDepth 20000 in
theorem gX11_isAlike_X11_row : GoodIn wsX11_isAlike (wsV RX11 129 RX11 yX11_row wsX11_row) := goodIn_app (a := [.methodLink RX11 129 yX11_row, .instanceMethod yX11_row, .selects RX11 yX11_row yX11_row, .initialized RX11]) (goodIn_sub (kt_wf1 (List.mem_cons_of_mem _ (List.mem_append_left _ (List.mem_cons_of_mem _ (List.Mem.head _)))) (kt_wf1 (List.mem_cons_of_mem _ (List.mem_append_left _ (List.mem_cons_of_mem _ (List.mem_cons_of_mem _ (List.Mem.head _))))) (kt_wf1 (List.mem_cons_of_mem _ (List.mem_append_left _ (List.mem_cons_of_mem _ (List.mem_cons_of_mem _ (List.mem_cons_of_mem _ (List.Mem.head _)))))) (kt_wf1 (List.mem_cons_of_mem _ (List.mem_append_left _ (List.mem_cons_of_mem _ (List.mem_cons_of_mem _ (List.mem_cons_of_mem _ (List.mem_cons_of_mem _ (List.Mem.head _))))))) kt_wf0)))) (by decide +kernel)) ggX11_isAlike_X11_row
theorem sX11_isAlike_0 : kt_sg cX11_isAlike 0 [4, 62, 3, 54, 4, 21, 4, 16, 41, 162, 0, 48, 29, 153, 0, 44, 42, 180, 0, 43, 42, 27, 182, 0, 129, 21, 4, 96, 51, 42, 180, 0, 43, 42, 28, 182, 0, 129, 21, 4, 96, 51, 160, 0, 7, 4, 167, 0, 4, 3, 62, 132, 4, 1, 167, 255, 207, 29, 172] = true := by decide +kernel
theorem dX11_isAlike_0 : decode cX11_isAlike 0 = .ok (.iconst 1, 1) := kt_o4 (j := 0) sX11_isAlike_0 rfl
theorem dX11_isAlike_1 : decode cX11_isAlike 1 = .ok (.istore_n 3, 1) := kt_o62 (j := 1) sX11_isAlike_0 rfl
theorem dX11_isAlike_2 : decode cX11_isAlike 2 = .ok (.iconst 0, 1) := kt_o3 (j := 2) sX11_isAlike_0 rfl
theorem dX11_isAlike_3 : decode cX11_isAlike 3 = .ok (.istore 4, 2) := kt_o54 (j := 3) sX11_isAlike_0 rfl
theorem dX11_isAlike_5 : decode cX11_isAlike 5 = .ok (.iload 4, 2) := kt_o21 (j := 5) sX11_isAlike_0 rfl
theorem dX11_isAlike_7 : decode cX11_isAlike 7 = .ok (.bipush 41, 2) := kt_o16 (j := 7) sX11_isAlike_0 rfl (by decide +kernel)
theorem dX11_isAlike_9 : decode cX11_isAlike 9 = .ok (.if_icmp .ge 48, 3) := kt_o162 (j := 9) sX11_isAlike_0 rfl (by decide +kernel)
theorem dX11_isAlike_12 : decode cX11_isAlike 12 = .ok (.iload_n 3, 1) := kt_o29 (j := 12) sX11_isAlike_0 rfl
theorem dX11_isAlike_13 : decode cX11_isAlike 13 = .ok (.ifCond .eq 44, 3) := kt_o153 (j := 13) sX11_isAlike_0 rfl (by decide +kernel)
theorem dX11_isAlike_16 : decode cX11_isAlike 16 = .ok (.aload_n 0, 1) := kt_o42 (j := 16) sX11_isAlike_0 rfl
theorem dX11_isAlike_17 : decode cX11_isAlike 17 = .ok (.getfield 43, 3) := kt_o180 (j := 17) sX11_isAlike_0 rfl rfl
theorem dX11_isAlike_20 : decode cX11_isAlike 20 = .ok (.aload_n 0, 1) := kt_o42 (j := 20) sX11_isAlike_0 rfl
theorem dX11_isAlike_21 : decode cX11_isAlike 21 = .ok (.iload_n 1, 1) := kt_o27 (j := 21) sX11_isAlike_0 rfl
theorem dX11_isAlike_22 : decode cX11_isAlike 22 = .ok (.invokevirtual 129, 3) := kt_o182 (j := 22) sX11_isAlike_0 rfl rfl
theorem dX11_isAlike_25 : decode cX11_isAlike 25 = .ok (.iload 4, 2) := kt_o21 (j := 25) sX11_isAlike_0 rfl
theorem dX11_isAlike_27 : decode cX11_isAlike 27 = .ok (.iadd, 1) := kt_o96 (j := 27) sX11_isAlike_0 rfl
theorem dX11_isAlike_28 : decode cX11_isAlike 28 = .ok (.baload, 1) := kt_o51 (j := 28) sX11_isAlike_0 rfl
theorem dX11_isAlike_29 : decode cX11_isAlike 29 = .ok (.aload_n 0, 1) := kt_o42 (j := 29) sX11_isAlike_0 rfl
theorem dX11_isAlike_30 : decode cX11_isAlike 30 = .ok (.getfield 43, 3) := kt_o180 (j := 30) sX11_isAlike_0 rfl rfl
theorem dX11_isAlike_33 : decode cX11_isAlike 33 = .ok (.aload_n 0, 1) := kt_o42 (j := 33) sX11_isAlike_0 rfl
theorem dX11_isAlike_34 : decode cX11_isAlike 34 = .ok (.iload_n 2, 1) := kt_o28 (j := 34) sX11_isAlike_0 rfl
theorem dX11_isAlike_35 : decode cX11_isAlike 35 = .ok (.invokevirtual 129, 3) := kt_o182 (j := 35) sX11_isAlike_0 rfl rfl
theorem dX11_isAlike_38 : decode cX11_isAlike 38 = .ok (.iload 4, 2) := kt_o21 (j := 38) sX11_isAlike_0 rfl
theorem dX11_isAlike_40 : decode cX11_isAlike 40 = .ok (.iadd, 1) := kt_o96 (j := 40) sX11_isAlike_0 rfl
theorem dX11_isAlike_41 : decode cX11_isAlike 41 = .ok (.baload, 1) := kt_o51 (j := 41) sX11_isAlike_0 rfl
theorem dX11_isAlike_42 : decode cX11_isAlike 42 = .ok (.if_icmp .ne 7, 3) := kt_o160 (j := 42) sX11_isAlike_0 rfl (by decide +kernel)
theorem dX11_isAlike_45 : decode cX11_isAlike 45 = .ok (.iconst 1, 1) := kt_o4 (j := 45) sX11_isAlike_0 rfl
theorem dX11_isAlike_46 : decode cX11_isAlike 46 = .ok (.goto 4, 3) := kt_o167 (j := 46) sX11_isAlike_0 rfl (by decide +kernel)
theorem dX11_isAlike_49 : decode cX11_isAlike 49 = .ok (.iconst 0, 1) := kt_o3 (j := 49) sX11_isAlike_0 rfl
theorem dX11_isAlike_50 : decode cX11_isAlike 50 = .ok (.istore_n 3, 1) := kt_o62 (j := 50) sX11_isAlike_0 rfl
theorem dX11_isAlike_51 : decode cX11_isAlike 51 = .ok (.iinc 4 1, 3) := kt_o132 (j := 51) sX11_isAlike_0 rfl (by decide +kernel)
theorem dX11_isAlike_54 : decode cX11_isAlike 54 = .ok (.goto (-49), 3) := kt_o167 (j := 54) sX11_isAlike_0 rfl (by decide +kernel)
theorem dX11_isAlike_57 : decode cX11_isAlike 57 = .ok (.iload_n 3, 1) := kt_o29 (j := 57) sX11_isAlike_0 rfl
theorem dX11_isAlike_58 : decode cX11_isAlike 58 = .ok (.ireturn, 1) := kt_o172 (j := 58) sX11_isAlike_0 rfl
theorem kt_wp_X11_cameBack__X110 {w : Cond} (h : w ∈ wsX110) : w ∈ wsX11_cameBack := List.mem_cons_of_mem _ (List.mem_append_right _ (h))
set_option maxRecDepth 20000 in
theorem kt_wg_X11_isAlike : wsX11_isAlike.all goodWord = true := by decide +kernel
set_option maxRecDepth 20000 in
theorem ggX11_cameBack_X11_isAlike : GoodIn wsX11_cameBack wsX11_isAlike := goodIn_sub (kt_wf1 (List.mem_cons_of_mem _ (List.mem_append_left _ (List.mem_cons_of_mem _ (List.mem_cons_of_mem _ (List.mem_cons_of_mem _ (List.mem_cons_of_mem _ (List.Mem.head _))))))) (kt_wfa (kt_wf1 (List.mem_cons_of_mem _ (List.mem_append_left _ (List.mem_cons_of_mem _ (List.mem_cons_of_mem _ (List.mem_cons_of_mem _ (List.mem_cons_of_mem _ (List.mem_cons_of_mem _ (List.Mem.head _)))))))) (kt_wf1 (List.mem_cons_of_mem _ (List.mem_append_left _ (List.mem_cons_of_mem _ (List.mem_cons_of_mem _ (List.mem_cons_of_mem _ (List.mem_cons_of_mem _ (List.mem_cons_of_mem _ (List.mem_cons_of_mem _ (List.Mem.head _))))))))) (kt_wf1 (List.mem_cons_of_mem _ (List.mem_append_left _ (List.mem_cons_of_mem _ (List.mem_cons_of_mem _ (List.mem_cons_of_mem _ (List.mem_cons_of_mem _ (List.mem_cons_of_mem _ (List.mem_cons_of_mem _ (List.mem_cons_of_mem _ (List.Mem.head _)))))))))) (kt_wf1 (List.mem_cons_of_mem _ (List.mem_append_left _ (List.mem_cons_of_mem _ (List.mem_cons_of_mem _ (List.mem_cons_of_mem _ (List.mem_cons_of_mem _ (List.mem_cons_of_mem _ (List.mem_cons_of_mem _ (List.mem_cons_of_mem _ (List.mem_cons_of_mem _ (List.Mem.head _))))))))))) (kt_wf1 (List.mem_cons_of_mem _ (List.mem_append_left _ (List.mem_cons_of_mem _ (List.mem_cons_of_mem _ (List.mem_cons_of_mem _ (List.Mem.head _)))))) (kt_wf1 (List.mem_cons_of_mem _ (List.mem_append_left _ (List.mem_cons_of_mem _ (List.mem_cons_of_mem _ (List.mem_cons_of_mem _ (List.mem_cons_of_mem _ (List.mem_cons_of_mem _ (List.mem_cons_of_mem _ (List.mem_cons_of_mem _ (List.mem_cons_of_mem _ (List.mem_cons_of_mem _ (List.Mem.head _)))))))))))) kt_wf0)))))) (fun _ h => kt_wp_X11_cameBack__X110 h))) kt_wg_X11_isAlike
set_option maxRecDepth 20000 in
theorem gX11_cameBack_X11_isAlike : GoodIn wsX11_cameBack (wsV RX11 132 RX11 yX11_isAlike wsX11_isAlike) := goodIn_app (a := [.methodLink RX11 132 yX11_isAlike, .instanceMethod yX11_isAlike, .selects RX11 yX11_isAlike yX11_isAlike, .initialized RX11]) (goodIn_sub (kt_wf1 (List.mem_cons_of_mem _ (List.mem_append_left _ (List.Mem.head _))) (kt_wf1 (List.mem_cons_of_mem _ (List.mem_append_left _ (List.mem_cons_of_mem _ (List.Mem.head _)))) (kt_wf1 (List.mem_cons_of_mem _ (List.mem_append_left _ (List.mem_cons_of_mem _ (List.mem_cons_of_mem _ (List.Mem.head _))))) (kt_wf1 (List.mem_cons_of_mem _ (List.mem_append_left _ (List.mem_cons_of_mem _ (List.mem_cons_of_mem _ (List.mem_cons_of_mem _ (List.Mem.head _)))))) kt_wf0)))) (by decide +kernel)) ggX11_cameBack_X11_isAlike
theorem sX11_cameBack_0 : kt_sg cX11_cameBack 0 [3, 61, 3, 62, 29, 27, 162, 0, 20, 28, 154, 0, 16, 42, 29, 27, 182, 0, 132, 61, 132, 3, 1, 167, 255, 237, 28, 172] = true := by decide +kernel
theorem dX11_cameBack_0 : decode cX11_cameBack 0 = .ok (.iconst 0, 1) := kt_o3 (j := 0) sX11_cameBack_0 rfl
theorem dX11_cameBack_1 : decode cX11_cameBack 1 = .ok (.istore_n 2, 1) := kt_o61 (j := 1) sX11_cameBack_0 rfl
theorem dX11_cameBack_2 : decode cX11_cameBack 2 = .ok (.iconst 0, 1) := kt_o3 (j := 2) sX11_cameBack_0 rfl
theorem dX11_cameBack_3 : decode cX11_cameBack 3 = .ok (.istore_n 3, 1) := kt_o62 (j := 3) sX11_cameBack_0 rfl
theorem dX11_cameBack_4 : decode cX11_cameBack 4 = .ok (.iload_n 3, 1) := kt_o29 (j := 4) sX11_cameBack_0 rfl
theorem dX11_cameBack_5 : decode cX11_cameBack 5 = .ok (.iload_n 1, 1) := kt_o27 (j := 5) sX11_cameBack_0 rfl
theorem dX11_cameBack_6 : decode cX11_cameBack 6 = .ok (.if_icmp .ge 20, 3) := kt_o162 (j := 6) sX11_cameBack_0 rfl (by decide +kernel)
theorem dX11_cameBack_9 : decode cX11_cameBack 9 = .ok (.iload_n 2, 1) := kt_o28 (j := 9) sX11_cameBack_0 rfl
theorem dX11_cameBack_10 : decode cX11_cameBack 10 = .ok (.ifCond .ne 16, 3) := kt_o154 (j := 10) sX11_cameBack_0 rfl (by decide +kernel)
theorem dX11_cameBack_13 : decode cX11_cameBack 13 = .ok (.aload_n 0, 1) := kt_o42 (j := 13) sX11_cameBack_0 rfl
theorem dX11_cameBack_14 : decode cX11_cameBack 14 = .ok (.iload_n 3, 1) := kt_o29 (j := 14) sX11_cameBack_0 rfl
theorem dX11_cameBack_15 : decode cX11_cameBack 15 = .ok (.iload_n 1, 1) := kt_o27 (j := 15) sX11_cameBack_0 rfl
theorem dX11_cameBack_16 : decode cX11_cameBack 16 = .ok (.invokevirtual 132, 3) := kt_o182 (j := 16) sX11_cameBack_0 rfl rfl
theorem dX11_cameBack_19 : decode cX11_cameBack 19 = .ok (.istore_n 2, 1) := kt_o61 (j := 19) sX11_cameBack_0 rfl
theorem dX11_cameBack_20 : decode cX11_cameBack 20 = .ok (.iinc 3 1, 3) := kt_o132 (j := 20) sX11_cameBack_0 rfl (by decide +kernel)
theorem dX11_cameBack_23 : decode cX11_cameBack 23 = .ok (.goto (-19), 3) := kt_o167 (j := 23) sX11_cameBack_0 rfl (by decide +kernel)
theorem dX11_cameBack_26 : decode cX11_cameBack 26 = .ok (.iload_n 2, 1) := kt_o28 (j := 26) sX11_cameBack_0 rfl
theorem dX11_cameBack_27 : decode cX11_cameBack 27 = .ok (.ireturn, 1) := kt_o172 (j := 27) sX11_cameBack_0 rfl
theorem kt_wp_X11_begin__X11_begin_r1 {w : Cond} (h : w ∈ wsX11_begin_r1) : w ∈ wsX11_begin := List.mem_cons_of_mem _ (List.mem_append_left _ (List.mem_append_left _ (h)))
theorem kt_wp_X11_begin__X11_begin_r2 {w : Cond} (h : w ∈ wsX11_begin_r2) : w ∈ wsX11_begin := List.mem_cons_of_mem _ (List.mem_append_left _ (List.mem_append_right _ (List.mem_append_left _ (h))))
theorem kt_wp_X11_begin__X11_begin_r3 {w : Cond} (h : w ∈ wsX11_begin_r3) : w ∈ wsX11_begin := List.mem_cons_of_mem _ (List.mem_append_left _ (List.mem_append_right _ (List.mem_append_right _ (h))))
theorem kt_wp_X11_begin__X110 {w : Cond} (h : w ∈ wsX110) : w ∈ wsX11_begin := List.mem_cons_of_mem _ (List.mem_append_right _ (h))
set_option maxRecDepth 20000 in
theorem ggX11_begin_X11_isIn : GoodIn wsX11_begin wsX11_isIn := goodIn_sub (kt_wf1 (kt_wp_X11_begin__X11_begin_r1 kt_wm16) kt_wf0) kt_wg_X11_isIn
set_option maxRecDepth 20000 in
theorem gX11_begin_X11_isIn : GoodIn wsX11_begin (va_wsS RX11 69 yX11_isIn wsX11_isIn) := goodIn_app (goodIn_of _ (by decide +kernel)) ggX11_begin_X11_isIn
set_option maxRecDepth 20000 in
theorem ggX11_begin_X11_fields : GoodIn wsX11_begin wsX11_fields := goodIn_sub (kt_wf1 (kt_wp_X11_begin__X11_begin_r1 kt_wm20) (kt_wfa (kt_wf1 (kt_wp_X11_begin__X11_begin_r1 kt_wm21) (kt_wf1 (kt_wp_X11_begin__X11_begin_r1 kt_wm22) kt_wf0)) (fun _ h => kt_wp_X11_begin__X110 h))) kt_wg_X11_fields
set_option maxRecDepth 20000 in
theorem gX11_begin_X11_fields : GoodIn wsX11_begin (wsV RX11 88 RX11 yX11_fields wsX11_fields) := goodIn_app (a := [.methodLink RX11 88 yX11_fields, .instanceMethod yX11_fields, .selects RX11 yX11_fields yX11_fields, .initialized RX11]) (goodIn_sub (kt_wf1 (kt_wp_X11_begin__X11_begin_r1 kt_wm17) (kt_wf1 (kt_wp_X11_begin__X11_begin_r1 kt_wm18) (kt_wf1 (kt_wp_X11_begin__X11_begin_r1 kt_wm19) (kt_wf1 (kt_wp_X11_begin__X11_begin_r1 kt_wm15) kt_wf0)))) (by decide +kernel)) ggX11_begin_X11_fields
set_option maxRecDepth 20000 in
theorem kt_wg_X11_write : wsX11_write.all goodWord = true := by decide +kernel
set_option maxRecDepth 20000 in
theorem ggX11_begin_X11_write : GoodIn wsX11_begin wsX11_write := goodIn_sub (kt_wf1 (kt_wp_X11_begin__X11_begin_r2 kt_wm2) (kt_wfa (kt_wf1 (kt_wp_X11_begin__X11_begin_r2 kt_wm3) (kt_wf1 (kt_wp_X11_begin__X11_begin_r1 kt_wm2) (kt_wf1 (kt_wp_X11_begin__X11_begin_r1 kt_wm6) (kt_wf1 (kt_wp_X11_begin__X11_begin_r1 kt_wm8) (kt_wf1 (kt_wp_X11_begin__X11_begin_r2 kt_wm4) (kt_wf1 (kt_wp_X11_begin__X11_begin_r2 kt_wm5) (kt_wf1 (kt_wp_X11_begin__X11_begin_r2 kt_wm6) (kt_wf1 (kt_wp_X11_begin__X11_begin_r1 kt_wm15) (kt_wf1 (kt_wp_X11_begin__X11_begin_r2 kt_wm7) kt_wf0))))))))) (fun _ h => kt_wp_X11_begin__X110 h))) kt_wg_X11_write
set_option maxRecDepth 20000 in
theorem gX11_begin_X11_write : GoodIn wsX11_begin (wsV RX11 144 RX11 yX11_write wsX11_write) := goodIn_app (a := [.methodLink RX11 144 yX11_write, .instanceMethod yX11_write, .selects RX11 yX11_write yX11_write, .initialized RX11]) (goodIn_sub (kt_wf1 (kt_wp_X11_begin__X11_begin_r1 kt_wm23) (kt_wf1 (kt_wp_X11_begin__X11_begin_r2 kt_wm0) (kt_wf1 (kt_wp_X11_begin__X11_begin_r2 kt_wm1) (kt_wf1 (kt_wp_X11_begin__X11_begin_r1 kt_wm15) kt_wf0)))) (by decide +kernel)) ggX11_begin_X11_write
set_option maxRecDepth 20000 in
theorem kt_wg_X11_isGoal : wsX11_isGoal.all goodWord = true := by decide +kernel
set_option maxRecDepth 20000 in
theorem ggX11_begin_X11_isGoal : GoodIn wsX11_begin wsX11_isGoal := goodIn_sub (kt_wf1 (kt_wp_X11_begin__X11_begin_r2 kt_wm11) (kt_wfa (kt_wf1 (kt_wp_X11_begin__X11_begin_r2 kt_wm12) (kt_wf1 (kt_wp_X11_begin__X11_begin_r1 kt_wm3) (kt_wf1 (kt_wp_X11_begin__X11_begin_r1 kt_wm22) (kt_wf1 (kt_wp_X11_begin__X11_begin_r1 kt_wm17) (kt_wf1 (kt_wp_X11_begin__X11_begin_r1 kt_wm18) (kt_wf1 (kt_wp_X11_begin__X11_begin_r1 kt_wm19) (kt_wf1 (kt_wp_X11_begin__X11_begin_r1 kt_wm15) (kt_wf1 (kt_wp_X11_begin__X11_begin_r1 kt_wm20) (kt_wf1 (kt_wp_X11_begin__X11_begin_r1 kt_wm21) kt_wf0))))))))) (fun _ h => kt_wp_X11_begin__X110 h))) kt_wg_X11_isGoal
set_option maxRecDepth 20000 in
theorem gX11_begin_X11_isGoal : GoodIn wsX11_begin (wsV RX11 148 RX11 yX11_isGoal wsX11_isGoal) := goodIn_app (a := [.methodLink RX11 148 yX11_isGoal, .instanceMethod yX11_isGoal, .selects RX11 yX11_isGoal yX11_isGoal, .initialized RX11]) (goodIn_sub (kt_wf1 (kt_wp_X11_begin__X11_begin_r2 kt_wm8) (kt_wf1 (kt_wp_X11_begin__X11_begin_r2 kt_wm9) (kt_wf1 (kt_wp_X11_begin__X11_begin_r2 kt_wm10) (kt_wf1 (kt_wp_X11_begin__X11_begin_r1 kt_wm15) kt_wf0)))) (by decide +kernel)) ggX11_begin_X11_isGoal
set_option maxRecDepth 20000 in
theorem kt_wg_X11_canGo : wsX11_canGo.all goodWord = true := by decide +kernel
set_option maxRecDepth 20000 in
theorem ggX11_begin_X11_canGo : GoodIn wsX11_begin wsX11_canGo := goodIn_sub (kt_wf1 (kt_wp_X11_begin__X11_begin_r2 kt_wm16) (kt_wfa (kt_wfa (kt_wf1 (kt_wp_X11_begin__X11_begin_r1 kt_wm2) (kt_wf1 (kt_wp_X11_begin__X11_begin_r2 kt_wm17) (kt_wf1 (kt_wp_X11_begin__X11_begin_r2 kt_wm18) (kt_wf1 (kt_wp_X11_begin__X11_begin_r2 kt_wm19) (kt_wf1 (kt_wp_X11_begin__X11_begin_r1 kt_wm15) (kt_wf1 (kt_wp_X11_begin__X11_begin_r2 kt_wm20) (kt_wf1 (kt_wp_X11_begin__X11_begin_r1 kt_wm5) (kt_wf1 (kt_wp_X11_begin__X11_begin_r2 kt_wm21) (kt_wf1 (kt_wp_X11_begin__X11_begin_r2 kt_wm22) (kt_wf1 (kt_wp_X11_begin__X11_begin_r2 kt_wm23) (kt_wf1 (kt_wp_X11_begin__X11_begin_r3 kt_wm0) (kt_wf1 (kt_wp_X11_begin__X11_begin_r1 kt_wm6) (kt_wf1 (kt_wp_X11_begin__X11_begin_r3 kt_wm1) (kt_wf1 (kt_wp_X11_begin__X11_begin_r3 kt_wm2) (kt_wf1 (kt_wp_X11_begin__X11_begin_r3 kt_wm3) (kt_wf1 (kt_wp_X11_begin__X11_begin_r3 kt_wm4) (kt_wf1 (kt_wp_X11_begin__X11_begin_r3 kt_wm5) (kt_wf1 (kt_wp_X11_begin__X11_begin_r1 kt_wm4) (kt_wf1 (kt_wp_X11_begin__X11_begin_r3 kt_wm6) (kt_wf1 (kt_wp_X11_begin__X11_begin_r3 kt_wm7) (kt_wf1 (kt_wp_X11_begin__X11_begin_r3 kt_wm8) (kt_wf1 (kt_wp_X11_begin__X11_begin_r3 kt_wm9) (kt_wf1 (kt_wp_X11_begin__X11_begin_r1 kt_wm22) (kt_wf1 (kt_wp_X11_begin__X11_begin_r1 kt_wm21) kt_wf0)))))))))))))))))))))))) (kt_wf1 (kt_wp_X11_begin__X11_begin_r3 kt_wm10) (kt_wf1 (kt_wp_X11_begin__X11_begin_r3 kt_wm11) (kt_wf1 (kt_wp_X11_begin__X11_begin_r3 kt_wm12) (kt_wf1 (kt_wp_X11_begin__X11_begin_r3 kt_wm13) (kt_wf1 (kt_wp_X11_begin__X11_begin_r1 kt_wm3) kt_wf0)))))) (fun _ h => kt_wp_X11_begin__X110 h))) kt_wg_X11_canGo
set_option maxRecDepth 20000 in
theorem gX11_begin_X11_canGo : GoodIn wsX11_begin (wsV RX11 151 RX11 yX11_canGo wsX11_canGo) := goodIn_app (a := [.methodLink RX11 151 yX11_canGo, .instanceMethod yX11_canGo, .selects RX11 yX11_canGo yX11_canGo, .initialized RX11]) (goodIn_sub (kt_wf1 (kt_wp_X11_begin__X11_begin_r2 kt_wm13) (kt_wf1 (kt_wp_X11_begin__X11_begin_r2 kt_wm14) (kt_wf1 (kt_wp_X11_begin__X11_begin_r2 kt_wm15) (kt_wf1 (kt_wp_X11_begin__X11_begin_r1 kt_wm15) kt_wf0)))) (by decide +kernel)) ggX11_begin_X11_canGo
theorem sX11_begin_0 : kt_sg cX11_begin 0 [42, 180, 0, 73, 157, 0, 12, 27, 3, 4, 184, 0, 69, 154, 0, 5, 2, 172, 3, 61, 3, 62, 3, 54, 4, 3, 54, 5, 3, 54, 6, 21, 6, 42, 182, 0, 88, 162, 0, 110, 42, 180, 0, 16, 21, 6, 46, 54, 7, 28, 21, 7, 5, 159, 0, 10, 21, 7, 16, 7, 160, 0, 7, 4] = true := by decide +kernel
theorem dX11_begin_0 : decode cX11_begin 0 = .ok (.aload_n 0, 1) := kt_o42 (j := 0) sX11_begin_0 rfl
theorem dX11_begin_1 : decode cX11_begin 1 = .ok (.getfield 73, 3) := kt_o180 (j := 1) sX11_begin_0 rfl rfl
theorem dX11_begin_4 : decode cX11_begin 4 = .ok (.ifCond .gt 12, 3) := kt_o157 (j := 4) sX11_begin_0 rfl (by decide +kernel)
theorem dX11_begin_7 : decode cX11_begin 7 = .ok (.iload_n 1, 1) := kt_o27 (j := 7) sX11_begin_0 rfl
theorem dX11_begin_8 : decode cX11_begin 8 = .ok (.iconst 0, 1) := kt_o3 (j := 8) sX11_begin_0 rfl
theorem dX11_begin_9 : decode cX11_begin 9 = .ok (.iconst 1, 1) := kt_o4 (j := 9) sX11_begin_0 rfl
theorem dX11_begin_10 : decode cX11_begin 10 = .ok (.invokestatic 69, 3) := kt_o184 (j := 10) sX11_begin_0 rfl rfl
theorem dX11_begin_13 : decode cX11_begin 13 = .ok (.ifCond .ne 5, 3) := kt_o154 (j := 13) sX11_begin_0 rfl (by decide +kernel)
theorem dX11_begin_16 : decode cX11_begin 16 = .ok (.iconst (-1), 1) := kt_o2 (j := 16) sX11_begin_0 rfl
theorem dX11_begin_17 : decode cX11_begin 17 = .ok (.ireturn, 1) := kt_o172 (j := 17) sX11_begin_0 rfl
theorem dX11_begin_18 : decode cX11_begin 18 = .ok (.iconst 0, 1) := kt_o3 (j := 18) sX11_begin_0 rfl
theorem dX11_begin_19 : decode cX11_begin 19 = .ok (.istore_n 2, 1) := kt_o61 (j := 19) sX11_begin_0 rfl
theorem dX11_begin_20 : decode cX11_begin 20 = .ok (.iconst 0, 1) := kt_o3 (j := 20) sX11_begin_0 rfl
theorem dX11_begin_21 : decode cX11_begin 21 = .ok (.istore_n 3, 1) := kt_o62 (j := 21) sX11_begin_0 rfl
theorem dX11_begin_22 : decode cX11_begin 22 = .ok (.iconst 0, 1) := kt_o3 (j := 22) sX11_begin_0 rfl
theorem dX11_begin_23 : decode cX11_begin 23 = .ok (.istore 4, 2) := kt_o54 (j := 23) sX11_begin_0 rfl
theorem dX11_begin_25 : decode cX11_begin 25 = .ok (.iconst 0, 1) := kt_o3 (j := 25) sX11_begin_0 rfl
theorem dX11_begin_26 : decode cX11_begin 26 = .ok (.istore 5, 2) := kt_o54 (j := 26) sX11_begin_0 rfl
theorem dX11_begin_28 : decode cX11_begin 28 = .ok (.iconst 0, 1) := kt_o3 (j := 28) sX11_begin_0 rfl
theorem dX11_begin_29 : decode cX11_begin 29 = .ok (.istore 6, 2) := kt_o54 (j := 29) sX11_begin_0 rfl
theorem dX11_begin_31 : decode cX11_begin 31 = .ok (.iload 6, 2) := kt_o21 (j := 31) sX11_begin_0 rfl
theorem dX11_begin_33 : decode cX11_begin 33 = .ok (.aload_n 0, 1) := kt_o42 (j := 33) sX11_begin_0 rfl
theorem dX11_begin_34 : decode cX11_begin 34 = .ok (.invokevirtual 88, 3) := kt_o182 (j := 34) sX11_begin_0 rfl rfl
theorem dX11_begin_37 : decode cX11_begin 37 = .ok (.if_icmp .ge 110, 3) := kt_o162 (j := 37) sX11_begin_0 rfl (by decide +kernel)
theorem dX11_begin_40 : decode cX11_begin 40 = .ok (.aload_n 0, 1) := kt_o42 (j := 40) sX11_begin_0 rfl
theorem dX11_begin_41 : decode cX11_begin 41 = .ok (.getfield 16, 3) := kt_o180 (j := 41) sX11_begin_0 rfl rfl
theorem dX11_begin_44 : decode cX11_begin 44 = .ok (.iload 6, 2) := kt_o21 (j := 44) sX11_begin_0 rfl
theorem dX11_begin_46 : decode cX11_begin 46 = .ok (.iaload, 1) := kt_o46 (j := 46) sX11_begin_0 rfl
theorem dX11_begin_47 : decode cX11_begin 47 = .ok (.istore 7, 2) := kt_o54 (j := 47) sX11_begin_0 rfl
theorem dX11_begin_49 : decode cX11_begin 49 = .ok (.iload_n 2, 1) := kt_o28 (j := 49) sX11_begin_0 rfl
theorem dX11_begin_50 : decode cX11_begin 50 = .ok (.iload 7, 2) := kt_o21 (j := 50) sX11_begin_0 rfl
theorem dX11_begin_52 : decode cX11_begin 52 = .ok (.iconst 2, 1) := kt_o5 (j := 52) sX11_begin_0 rfl
theorem dX11_begin_53 : decode cX11_begin 53 = .ok (.if_icmp .eq 10, 3) := kt_o159 (j := 53) sX11_begin_0 rfl (by decide +kernel)
theorem dX11_begin_56 : decode cX11_begin 56 = .ok (.iload 7, 2) := kt_o21 (j := 56) sX11_begin_0 rfl
theorem dX11_begin_58 : decode cX11_begin 58 = .ok (.bipush 7, 2) := kt_o16 (j := 58) sX11_begin_0 rfl (by decide +kernel)
theorem dX11_begin_60 : decode cX11_begin 60 = .ok (.if_icmp .ne 7, 3) := kt_o160 (j := 60) sX11_begin_0 rfl (by decide +kernel)
theorem dX11_begin_63 : decode cX11_begin 63 = .ok (.iconst 1, 1) := kt_o4 (j := 63) sX11_begin_0 rfl
theorem sX11_begin_64 : kt_sg cX11_begin 64 [167, 0, 4, 3, 96, 61, 29, 21, 7, 6, 159, 0, 9, 21, 7, 7, 160, 0, 7, 4, 167, 0, 4, 3, 96, 62, 21, 4, 21, 7, 8, 159, 0, 10, 21, 7, 16, 7, 160, 0, 7, 4, 167, 0, 4, 3, 96, 54, 4, 21, 5, 21, 7, 153, 0, 20, 21, 7, 8, 159, 0, 14, 21, 7] = true := by decide +kernel
theorem dX11_begin_64 : decode cX11_begin 64 = .ok (.goto 4, 3) := kt_o167 (j := 0) sX11_begin_64 rfl (by decide +kernel)
theorem dX11_begin_67 : decode cX11_begin 67 = .ok (.iconst 0, 1) := kt_o3 (j := 3) sX11_begin_64 rfl
theorem dX11_begin_68 : decode cX11_begin 68 = .ok (.iadd, 1) := kt_o96 (j := 4) sX11_begin_64 rfl
theorem dX11_begin_69 : decode cX11_begin 69 = .ok (.istore_n 2, 1) := kt_o61 (j := 5) sX11_begin_64 rfl
theorem dX11_begin_70 : decode cX11_begin 70 = .ok (.iload_n 3, 1) := kt_o29 (j := 6) sX11_begin_64 rfl
theorem dX11_begin_71 : decode cX11_begin 71 = .ok (.iload 7, 2) := kt_o21 (j := 7) sX11_begin_64 rfl
theorem dX11_begin_73 : decode cX11_begin 73 = .ok (.iconst 3, 1) := kt_o6 (j := 9) sX11_begin_64 rfl
theorem dX11_begin_74 : decode cX11_begin 74 = .ok (.if_icmp .eq 9, 3) := kt_o159 (j := 10) sX11_begin_64 rfl (by decide +kernel)
theorem dX11_begin_77 : decode cX11_begin 77 = .ok (.iload 7, 2) := kt_o21 (j := 13) sX11_begin_64 rfl
theorem dX11_begin_79 : decode cX11_begin 79 = .ok (.iconst 4, 1) := kt_o7 (j := 15) sX11_begin_64 rfl
theorem dX11_begin_80 : decode cX11_begin 80 = .ok (.if_icmp .ne 7, 3) := kt_o160 (j := 16) sX11_begin_64 rfl (by decide +kernel)
theorem dX11_begin_83 : decode cX11_begin 83 = .ok (.iconst 1, 1) := kt_o4 (j := 19) sX11_begin_64 rfl
theorem dX11_begin_84 : decode cX11_begin 84 = .ok (.goto 4, 3) := kt_o167 (j := 20) sX11_begin_64 rfl (by decide +kernel)
theorem dX11_begin_87 : decode cX11_begin 87 = .ok (.iconst 0, 1) := kt_o3 (j := 23) sX11_begin_64 rfl
theorem dX11_begin_88 : decode cX11_begin 88 = .ok (.iadd, 1) := kt_o96 (j := 24) sX11_begin_64 rfl
theorem dX11_begin_89 : decode cX11_begin 89 = .ok (.istore_n 3, 1) := kt_o62 (j := 25) sX11_begin_64 rfl
theorem dX11_begin_90 : decode cX11_begin 90 = .ok (.iload 4, 2) := kt_o21 (j := 26) sX11_begin_64 rfl
theorem dX11_begin_92 : decode cX11_begin 92 = .ok (.iload 7, 2) := kt_o21 (j := 28) sX11_begin_64 rfl
theorem dX11_begin_94 : decode cX11_begin 94 = .ok (.iconst 5, 1) := kt_o8 (j := 30) sX11_begin_64 rfl
theorem dX11_begin_95 : decode cX11_begin 95 = .ok (.if_icmp .eq 10, 3) := kt_o159 (j := 31) sX11_begin_64 rfl (by decide +kernel)
theorem dX11_begin_98 : decode cX11_begin 98 = .ok (.iload 7, 2) := kt_o21 (j := 34) sX11_begin_64 rfl
theorem dX11_begin_100 : decode cX11_begin 100 = .ok (.bipush 7, 2) := kt_o16 (j := 36) sX11_begin_64 rfl (by decide +kernel)
theorem dX11_begin_102 : decode cX11_begin 102 = .ok (.if_icmp .ne 7, 3) := kt_o160 (j := 38) sX11_begin_64 rfl (by decide +kernel)
theorem dX11_begin_105 : decode cX11_begin 105 = .ok (.iconst 1, 1) := kt_o4 (j := 41) sX11_begin_64 rfl
theorem dX11_begin_106 : decode cX11_begin 106 = .ok (.goto 4, 3) := kt_o167 (j := 42) sX11_begin_64 rfl (by decide +kernel)
theorem dX11_begin_109 : decode cX11_begin 109 = .ok (.iconst 0, 1) := kt_o3 (j := 45) sX11_begin_64 rfl
theorem dX11_begin_110 : decode cX11_begin 110 = .ok (.iadd, 1) := kt_o96 (j := 46) sX11_begin_64 rfl
theorem dX11_begin_111 : decode cX11_begin 111 = .ok (.istore 4, 2) := kt_o54 (j := 47) sX11_begin_64 rfl
theorem dX11_begin_113 : decode cX11_begin 113 = .ok (.iload 5, 2) := kt_o21 (j := 49) sX11_begin_64 rfl
theorem dX11_begin_115 : decode cX11_begin 115 = .ok (.iload 7, 2) := kt_o21 (j := 51) sX11_begin_64 rfl
theorem dX11_begin_117 : decode cX11_begin 117 = .ok (.ifCond .eq 20, 3) := kt_o153 (j := 53) sX11_begin_64 rfl (by decide +kernel)
theorem dX11_begin_120 : decode cX11_begin 120 = .ok (.iload 7, 2) := kt_o21 (j := 56) sX11_begin_64 rfl
theorem dX11_begin_122 : decode cX11_begin 122 = .ok (.iconst 5, 1) := kt_o8 (j := 58) sX11_begin_64 rfl
theorem dX11_begin_123 : decode cX11_begin 123 = .ok (.if_icmp .eq 14, 3) := kt_o159 (j := 59) sX11_begin_64 rfl (by decide +kernel)
theorem dX11_begin_126 : decode cX11_begin 126 = .ok (.iload 7, 2) := kt_o21 (j := 62) sX11_begin_64 rfl
theorem sX11_begin_128 : kt_sg cX11_begin 128 [16, 6, 159, 0, 7, 4, 167, 0, 4, 3, 96, 54, 5, 132, 6, 1, 167, 255, 143, 28, 4, 160, 0, 20, 29, 153, 0, 16, 21, 5, 16, 40, 163, 0, 9, 21, 4, 4, 164, 0, 5, 2, 172, 42, 3, 181, 0, 103, 3, 54, 6, 21, 6, 16, 81, 162, 0, 172, 21, 6, 42, 182, 0, 88] = true := by decide +kernel
theorem dX11_begin_128 : decode cX11_begin 128 = .ok (.bipush 6, 2) := kt_o16 (j := 0) sX11_begin_128 rfl (by decide +kernel)
theorem dX11_begin_130 : decode cX11_begin 130 = .ok (.if_icmp .eq 7, 3) := kt_o159 (j := 2) sX11_begin_128 rfl (by decide +kernel)
theorem dX11_begin_133 : decode cX11_begin 133 = .ok (.iconst 1, 1) := kt_o4 (j := 5) sX11_begin_128 rfl
theorem dX11_begin_134 : decode cX11_begin 134 = .ok (.goto 4, 3) := kt_o167 (j := 6) sX11_begin_128 rfl (by decide +kernel)
theorem dX11_begin_137 : decode cX11_begin 137 = .ok (.iconst 0, 1) := kt_o3 (j := 9) sX11_begin_128 rfl
theorem dX11_begin_138 : decode cX11_begin 138 = .ok (.iadd, 1) := kt_o96 (j := 10) sX11_begin_128 rfl
theorem dX11_begin_139 : decode cX11_begin 139 = .ok (.istore 5, 2) := kt_o54 (j := 11) sX11_begin_128 rfl
theorem dX11_begin_141 : decode cX11_begin 141 = .ok (.iinc 6 1, 3) := kt_o132 (j := 13) sX11_begin_128 rfl (by decide +kernel)
theorem dX11_begin_144 : decode cX11_begin 144 = .ok (.goto (-113), 3) := kt_o167 (j := 16) sX11_begin_128 rfl (by decide +kernel)
theorem dX11_begin_147 : decode cX11_begin 147 = .ok (.iload_n 2, 1) := kt_o28 (j := 19) sX11_begin_128 rfl
theorem dX11_begin_148 : decode cX11_begin 148 = .ok (.iconst 1, 1) := kt_o4 (j := 20) sX11_begin_128 rfl
theorem dX11_begin_149 : decode cX11_begin 149 = .ok (.if_icmp .ne 20, 3) := kt_o160 (j := 21) sX11_begin_128 rfl (by decide +kernel)
theorem dX11_begin_152 : decode cX11_begin 152 = .ok (.iload_n 3, 1) := kt_o29 (j := 24) sX11_begin_128 rfl
theorem dX11_begin_153 : decode cX11_begin 153 = .ok (.ifCond .eq 16, 3) := kt_o153 (j := 25) sX11_begin_128 rfl (by decide +kernel)
theorem dX11_begin_156 : decode cX11_begin 156 = .ok (.iload 5, 2) := kt_o21 (j := 28) sX11_begin_128 rfl
theorem dX11_begin_158 : decode cX11_begin 158 = .ok (.bipush 40, 2) := kt_o16 (j := 30) sX11_begin_128 rfl (by decide +kernel)
theorem dX11_begin_160 : decode cX11_begin 160 = .ok (.if_icmp .gt 9, 3) := kt_o163 (j := 32) sX11_begin_128 rfl (by decide +kernel)
theorem dX11_begin_163 : decode cX11_begin 163 = .ok (.iload 4, 2) := kt_o21 (j := 35) sX11_begin_128 rfl
theorem dX11_begin_165 : decode cX11_begin 165 = .ok (.iconst 1, 1) := kt_o4 (j := 37) sX11_begin_128 rfl
theorem dX11_begin_166 : decode cX11_begin 166 = .ok (.if_icmp .le 5, 3) := kt_o164 (j := 38) sX11_begin_128 rfl (by decide +kernel)
theorem dX11_begin_169 : decode cX11_begin 169 = .ok (.iconst (-1), 1) := kt_o2 (j := 41) sX11_begin_128 rfl
theorem dX11_begin_170 : decode cX11_begin 170 = .ok (.ireturn, 1) := kt_o172 (j := 42) sX11_begin_128 rfl
theorem dX11_begin_171 : decode cX11_begin 171 = .ok (.aload_n 0, 1) := kt_o42 (j := 43) sX11_begin_128 rfl
theorem dX11_begin_172 : decode cX11_begin 172 = .ok (.iconst 0, 1) := kt_o3 (j := 44) sX11_begin_128 rfl
theorem dX11_begin_173 : decode cX11_begin 173 = .ok (.putfield 103, 3) := kt_o181 (j := 45) sX11_begin_128 rfl rfl
theorem dX11_begin_176 : decode cX11_begin 176 = .ok (.iconst 0, 1) := kt_o3 (j := 48) sX11_begin_128 rfl
theorem dX11_begin_177 : decode cX11_begin 177 = .ok (.istore 6, 2) := kt_o54 (j := 49) sX11_begin_128 rfl
theorem dX11_begin_179 : decode cX11_begin 179 = .ok (.iload 6, 2) := kt_o21 (j := 51) sX11_begin_128 rfl
theorem dX11_begin_181 : decode cX11_begin 181 = .ok (.bipush 81, 2) := kt_o16 (j := 53) sX11_begin_128 rfl (by decide +kernel)
theorem dX11_begin_183 : decode cX11_begin 183 = .ok (.if_icmp .ge 172, 3) := kt_o162 (j := 55) sX11_begin_128 rfl (by decide +kernel)
theorem dX11_begin_186 : decode cX11_begin 186 = .ok (.iload 6, 2) := kt_o21 (j := 58) sX11_begin_128 rfl
theorem dX11_begin_188 : decode cX11_begin 188 = .ok (.aload_n 0, 1) := kt_o42 (j := 60) sX11_begin_128 rfl
theorem dX11_begin_189 : decode cX11_begin 189 = .ok (.invokevirtual 88, 3) := kt_o182 (j := 61) sX11_begin_128 rfl rfl
theorem sX11_begin_192 : kt_sg cX11_begin 192 [162, 0, 13, 42, 180, 0, 16, 21, 6, 46, 167, 0, 4, 3, 54, 7, 42, 180, 0, 36, 21, 6, 21, 7, 8, 159, 0, 10, 21, 7, 16, 7, 160, 0, 7, 8, 167, 0, 16, 21, 7, 16, 6, 160, 0, 8, 16, 6, 167, 0, 4, 3, 79, 42, 180, 0, 33, 21, 6, 2, 79, 21, 7, 153, 0, 94] = true := by decide +kernel
theorem dX11_begin_192 : decode cX11_begin 192 = .ok (.if_icmp .ge 13, 3) := kt_o162 (j := 0) sX11_begin_192 rfl (by decide +kernel)
theorem dX11_begin_195 : decode cX11_begin 195 = .ok (.aload_n 0, 1) := kt_o42 (j := 3) sX11_begin_192 rfl
theorem dX11_begin_196 : decode cX11_begin 196 = .ok (.getfield 16, 3) := kt_o180 (j := 4) sX11_begin_192 rfl rfl
theorem dX11_begin_199 : decode cX11_begin 199 = .ok (.iload 6, 2) := kt_o21 (j := 7) sX11_begin_192 rfl
theorem dX11_begin_201 : decode cX11_begin 201 = .ok (.iaload, 1) := kt_o46 (j := 9) sX11_begin_192 rfl
theorem dX11_begin_202 : decode cX11_begin 202 = .ok (.goto 4, 3) := kt_o167 (j := 10) sX11_begin_192 rfl (by decide +kernel)
theorem dX11_begin_205 : decode cX11_begin 205 = .ok (.iconst 0, 1) := kt_o3 (j := 13) sX11_begin_192 rfl
theorem dX11_begin_206 : decode cX11_begin 206 = .ok (.istore 7, 2) := kt_o54 (j := 14) sX11_begin_192 rfl
theorem dX11_begin_208 : decode cX11_begin 208 = .ok (.aload_n 0, 1) := kt_o42 (j := 16) sX11_begin_192 rfl
theorem dX11_begin_209 : decode cX11_begin 209 = .ok (.getfield 36, 3) := kt_o180 (j := 17) sX11_begin_192 rfl rfl
theorem dX11_begin_212 : decode cX11_begin 212 = .ok (.iload 6, 2) := kt_o21 (j := 20) sX11_begin_192 rfl
theorem dX11_begin_214 : decode cX11_begin 214 = .ok (.iload 7, 2) := kt_o21 (j := 22) sX11_begin_192 rfl
theorem dX11_begin_216 : decode cX11_begin 216 = .ok (.iconst 5, 1) := kt_o8 (j := 24) sX11_begin_192 rfl
theorem dX11_begin_217 : decode cX11_begin 217 = .ok (.if_icmp .eq 10, 3) := kt_o159 (j := 25) sX11_begin_192 rfl (by decide +kernel)
theorem dX11_begin_220 : decode cX11_begin 220 = .ok (.iload 7, 2) := kt_o21 (j := 28) sX11_begin_192 rfl
theorem dX11_begin_222 : decode cX11_begin 222 = .ok (.bipush 7, 2) := kt_o16 (j := 30) sX11_begin_192 rfl (by decide +kernel)
theorem dX11_begin_224 : decode cX11_begin 224 = .ok (.if_icmp .ne 7, 3) := kt_o160 (j := 32) sX11_begin_192 rfl (by decide +kernel)
theorem dX11_begin_227 : decode cX11_begin 227 = .ok (.iconst 5, 1) := kt_o8 (j := 35) sX11_begin_192 rfl
theorem dX11_begin_228 : decode cX11_begin 228 = .ok (.goto 16, 3) := kt_o167 (j := 36) sX11_begin_192 rfl (by decide +kernel)
theorem dX11_begin_231 : decode cX11_begin 231 = .ok (.iload 7, 2) := kt_o21 (j := 39) sX11_begin_192 rfl
theorem dX11_begin_233 : decode cX11_begin 233 = .ok (.bipush 6, 2) := kt_o16 (j := 41) sX11_begin_192 rfl (by decide +kernel)
theorem dX11_begin_235 : decode cX11_begin 235 = .ok (.if_icmp .ne 8, 3) := kt_o160 (j := 43) sX11_begin_192 rfl (by decide +kernel)
theorem dX11_begin_238 : decode cX11_begin 238 = .ok (.bipush 6, 2) := kt_o16 (j := 46) sX11_begin_192 rfl (by decide +kernel)
theorem dX11_begin_240 : decode cX11_begin 240 = .ok (.goto 4, 3) := kt_o167 (j := 48) sX11_begin_192 rfl (by decide +kernel)
theorem dX11_begin_243 : decode cX11_begin 243 = .ok (.iconst 0, 1) := kt_o3 (j := 51) sX11_begin_192 rfl
theorem dX11_begin_244 : decode cX11_begin 244 = .ok (.iastore, 1) := kt_o79 (j := 52) sX11_begin_192 rfl
theorem dX11_begin_245 : decode cX11_begin 245 = .ok (.aload_n 0, 1) := kt_o42 (j := 53) sX11_begin_192 rfl
theorem dX11_begin_246 : decode cX11_begin 246 = .ok (.getfield 33, 3) := kt_o180 (j := 54) sX11_begin_192 rfl rfl
theorem dX11_begin_249 : decode cX11_begin 249 = .ok (.iload 6, 2) := kt_o21 (j := 57) sX11_begin_192 rfl
theorem dX11_begin_251 : decode cX11_begin 251 = .ok (.iconst (-1), 1) := kt_o2 (j := 59) sX11_begin_192 rfl
theorem dX11_begin_252 : decode cX11_begin 252 = .ok (.iastore, 1) := kt_o79 (j := 60) sX11_begin_192 rfl
theorem dX11_begin_253 : decode cX11_begin 253 = .ok (.iload 7, 2) := kt_o21 (j := 61) sX11_begin_192 rfl
theorem dX11_begin_255 : decode cX11_begin 255 = .ok (.ifCond .eq 94, 3) := kt_o153 (j := 63) sX11_begin_192 rfl (by decide +kernel)
theorem sX11_begin_258 : kt_sg cX11_begin 258 [21, 7, 8, 159, 0, 88, 21, 7, 16, 6, 160, 0, 6, 167, 0, 78, 42, 180, 0, 27, 42, 180, 0, 103, 21, 7, 16, 7, 160, 0, 7, 5, 167, 0, 5, 21, 7, 79, 42, 180, 0, 30, 42, 180, 0, 103, 21, 6, 79, 42, 180, 0, 33, 21, 6, 42, 180, 0, 103, 79, 42, 180, 0, 27] = true := by decide +kernel
theorem dX11_begin_258 : decode cX11_begin 258 = .ok (.iload 7, 2) := kt_o21 (j := 0) sX11_begin_258 rfl
theorem dX11_begin_260 : decode cX11_begin 260 = .ok (.iconst 5, 1) := kt_o8 (j := 2) sX11_begin_258 rfl
theorem dX11_begin_261 : decode cX11_begin 261 = .ok (.if_icmp .eq 88, 3) := kt_o159 (j := 3) sX11_begin_258 rfl (by decide +kernel)
theorem dX11_begin_264 : decode cX11_begin 264 = .ok (.iload 7, 2) := kt_o21 (j := 6) sX11_begin_258 rfl
theorem dX11_begin_266 : decode cX11_begin 266 = .ok (.bipush 6, 2) := kt_o16 (j := 8) sX11_begin_258 rfl (by decide +kernel)
theorem dX11_begin_268 : decode cX11_begin 268 = .ok (.if_icmp .ne 6, 3) := kt_o160 (j := 10) sX11_begin_258 rfl (by decide +kernel)
theorem dX11_begin_271 : decode cX11_begin 271 = .ok (.goto 78, 3) := kt_o167 (j := 13) sX11_begin_258 rfl (by decide +kernel)
theorem dX11_begin_274 : decode cX11_begin 274 = .ok (.aload_n 0, 1) := kt_o42 (j := 16) sX11_begin_258 rfl
theorem dX11_begin_275 : decode cX11_begin 275 = .ok (.getfield 27, 3) := kt_o180 (j := 17) sX11_begin_258 rfl rfl
theorem dX11_begin_278 : decode cX11_begin 278 = .ok (.aload_n 0, 1) := kt_o42 (j := 20) sX11_begin_258 rfl
theorem dX11_begin_279 : decode cX11_begin 279 = .ok (.getfield 103, 3) := kt_o180 (j := 21) sX11_begin_258 rfl rfl
theorem dX11_begin_282 : decode cX11_begin 282 = .ok (.iload 7, 2) := kt_o21 (j := 24) sX11_begin_258 rfl
theorem dX11_begin_284 : decode cX11_begin 284 = .ok (.bipush 7, 2) := kt_o16 (j := 26) sX11_begin_258 rfl (by decide +kernel)
theorem dX11_begin_286 : decode cX11_begin 286 = .ok (.if_icmp .ne 7, 3) := kt_o160 (j := 28) sX11_begin_258 rfl (by decide +kernel)
theorem dX11_begin_289 : decode cX11_begin 289 = .ok (.iconst 2, 1) := kt_o5 (j := 31) sX11_begin_258 rfl
theorem dX11_begin_290 : decode cX11_begin 290 = .ok (.goto 5, 3) := kt_o167 (j := 32) sX11_begin_258 rfl (by decide +kernel)
theorem dX11_begin_293 : decode cX11_begin 293 = .ok (.iload 7, 2) := kt_o21 (j := 35) sX11_begin_258 rfl
theorem dX11_begin_295 : decode cX11_begin 295 = .ok (.iastore, 1) := kt_o79 (j := 37) sX11_begin_258 rfl
theorem dX11_begin_296 : decode cX11_begin 296 = .ok (.aload_n 0, 1) := kt_o42 (j := 38) sX11_begin_258 rfl
theorem dX11_begin_297 : decode cX11_begin 297 = .ok (.getfield 30, 3) := kt_o180 (j := 39) sX11_begin_258 rfl rfl
theorem dX11_begin_300 : decode cX11_begin 300 = .ok (.aload_n 0, 1) := kt_o42 (j := 42) sX11_begin_258 rfl
theorem dX11_begin_301 : decode cX11_begin 301 = .ok (.getfield 103, 3) := kt_o180 (j := 43) sX11_begin_258 rfl rfl
theorem dX11_begin_304 : decode cX11_begin 304 = .ok (.iload 6, 2) := kt_o21 (j := 46) sX11_begin_258 rfl
theorem dX11_begin_306 : decode cX11_begin 306 = .ok (.iastore, 1) := kt_o79 (j := 48) sX11_begin_258 rfl
theorem dX11_begin_307 : decode cX11_begin 307 = .ok (.aload_n 0, 1) := kt_o42 (j := 49) sX11_begin_258 rfl
theorem dX11_begin_308 : decode cX11_begin 308 = .ok (.getfield 33, 3) := kt_o180 (j := 50) sX11_begin_258 rfl rfl
theorem dX11_begin_311 : decode cX11_begin 311 = .ok (.iload 6, 2) := kt_o21 (j := 53) sX11_begin_258 rfl
theorem dX11_begin_313 : decode cX11_begin 313 = .ok (.aload_n 0, 1) := kt_o42 (j := 55) sX11_begin_258 rfl
theorem dX11_begin_314 : decode cX11_begin 314 = .ok (.getfield 103, 3) := kt_o180 (j := 56) sX11_begin_258 rfl rfl
theorem dX11_begin_317 : decode cX11_begin 317 = .ok (.iastore, 1) := kt_o79 (j := 59) sX11_begin_258 rfl
theorem dX11_begin_318 : decode cX11_begin 318 = .ok (.aload_n 0, 1) := kt_o42 (j := 60) sX11_begin_258 rfl
theorem dX11_begin_319 : decode cX11_begin 319 = .ok (.getfield 27, 3) := kt_o180 (j := 61) sX11_begin_258 rfl rfl
theorem sX11_begin_322 : kt_sg cX11_begin 322 [42, 180, 0, 103, 46, 5, 160, 0, 11, 42, 42, 180, 0, 103, 181, 0, 135, 42, 89, 180, 0, 103, 4, 96, 181, 0, 103, 132, 6, 1, 167, 255, 83, 42, 27, 181, 0, 126, 42, 3, 181, 0, 138, 42, 3, 181, 0, 141, 42, 2, 181, 0, 120, 42, 3, 181, 0, 76, 42, 3, 182, 0, 144, 42] = true := by decide +kernel
theorem dX11_begin_322 : decode cX11_begin 322 = .ok (.aload_n 0, 1) := kt_o42 (j := 0) sX11_begin_322 rfl
theorem dX11_begin_323 : decode cX11_begin 323 = .ok (.getfield 103, 3) := kt_o180 (j := 1) sX11_begin_322 rfl rfl
theorem dX11_begin_326 : decode cX11_begin 326 = .ok (.iaload, 1) := kt_o46 (j := 4) sX11_begin_322 rfl
theorem dX11_begin_327 : decode cX11_begin 327 = .ok (.iconst 2, 1) := kt_o5 (j := 5) sX11_begin_322 rfl
theorem dX11_begin_328 : decode cX11_begin 328 = .ok (.if_icmp .ne 11, 3) := kt_o160 (j := 6) sX11_begin_322 rfl (by decide +kernel)
theorem dX11_begin_331 : decode cX11_begin 331 = .ok (.aload_n 0, 1) := kt_o42 (j := 9) sX11_begin_322 rfl
theorem dX11_begin_332 : decode cX11_begin 332 = .ok (.aload_n 0, 1) := kt_o42 (j := 10) sX11_begin_322 rfl
theorem dX11_begin_333 : decode cX11_begin 333 = .ok (.getfield 103, 3) := kt_o180 (j := 11) sX11_begin_322 rfl rfl
theorem dX11_begin_336 : decode cX11_begin 336 = .ok (.putfield 135, 3) := kt_o181 (j := 14) sX11_begin_322 rfl rfl
theorem dX11_begin_339 : decode cX11_begin 339 = .ok (.aload_n 0, 1) := kt_o42 (j := 17) sX11_begin_322 rfl
theorem dX11_begin_340 : decode cX11_begin 340 = .ok (.dup, 1) := kt_o89 (j := 18) sX11_begin_322 rfl
theorem dX11_begin_341 : decode cX11_begin 341 = .ok (.getfield 103, 3) := kt_o180 (j := 19) sX11_begin_322 rfl rfl
theorem dX11_begin_344 : decode cX11_begin 344 = .ok (.iconst 1, 1) := kt_o4 (j := 22) sX11_begin_322 rfl
theorem dX11_begin_345 : decode cX11_begin 345 = .ok (.iadd, 1) := kt_o96 (j := 23) sX11_begin_322 rfl
theorem dX11_begin_346 : decode cX11_begin 346 = .ok (.putfield 103, 3) := kt_o181 (j := 24) sX11_begin_322 rfl rfl
theorem dX11_begin_349 : decode cX11_begin 349 = .ok (.iinc 6 1, 3) := kt_o132 (j := 27) sX11_begin_322 rfl (by decide +kernel)
theorem dX11_begin_352 : decode cX11_begin 352 = .ok (.goto (-173), 3) := kt_o167 (j := 30) sX11_begin_322 rfl (by decide +kernel)
theorem dX11_begin_355 : decode cX11_begin 355 = .ok (.aload_n 0, 1) := kt_o42 (j := 33) sX11_begin_322 rfl
theorem dX11_begin_356 : decode cX11_begin 356 = .ok (.iload_n 1, 1) := kt_o27 (j := 34) sX11_begin_322 rfl
theorem dX11_begin_357 : decode cX11_begin 357 = .ok (.putfield 126, 3) := kt_o181 (j := 35) sX11_begin_322 rfl rfl
theorem dX11_begin_360 : decode cX11_begin 360 = .ok (.aload_n 0, 1) := kt_o42 (j := 38) sX11_begin_322 rfl
theorem dX11_begin_361 : decode cX11_begin 361 = .ok (.iconst 0, 1) := kt_o3 (j := 39) sX11_begin_322 rfl
theorem dX11_begin_362 : decode cX11_begin 362 = .ok (.putfield 138, 3) := kt_o181 (j := 40) sX11_begin_322 rfl rfl
theorem dX11_begin_365 : decode cX11_begin 365 = .ok (.aload_n 0, 1) := kt_o42 (j := 43) sX11_begin_322 rfl
theorem dX11_begin_366 : decode cX11_begin 366 = .ok (.iconst 0, 1) := kt_o3 (j := 44) sX11_begin_322 rfl
theorem dX11_begin_367 : decode cX11_begin 367 = .ok (.putfield 141, 3) := kt_o181 (j := 45) sX11_begin_322 rfl rfl
theorem dX11_begin_370 : decode cX11_begin 370 = .ok (.aload_n 0, 1) := kt_o42 (j := 48) sX11_begin_322 rfl
theorem dX11_begin_371 : decode cX11_begin 371 = .ok (.iconst (-1), 1) := kt_o2 (j := 49) sX11_begin_322 rfl
theorem dX11_begin_372 : decode cX11_begin 372 = .ok (.putfield 120, 3) := kt_o181 (j := 50) sX11_begin_322 rfl rfl
theorem dX11_begin_375 : decode cX11_begin 375 = .ok (.aload_n 0, 1) := kt_o42 (j := 53) sX11_begin_322 rfl
theorem dX11_begin_376 : decode cX11_begin 376 = .ok (.iconst 0, 1) := kt_o3 (j := 54) sX11_begin_322 rfl
theorem dX11_begin_377 : decode cX11_begin 377 = .ok (.putfield 76, 3) := kt_o181 (j := 55) sX11_begin_322 rfl rfl
theorem dX11_begin_380 : decode cX11_begin 380 = .ok (.aload_n 0, 1) := kt_o42 (j := 58) sX11_begin_322 rfl
theorem dX11_begin_381 : decode cX11_begin 381 = .ok (.iconst 0, 1) := kt_o3 (j := 59) sX11_begin_322 rfl
theorem dX11_begin_382 : decode cX11_begin 382 = .ok (.invokevirtual 144, 3) := kt_o182 (j := 60) sX11_begin_322 rfl rfl
theorem dX11_begin_385 : decode cX11_begin 385 = .ok (.aload_n 0, 1) := kt_o42 (j := 63) sX11_begin_322 rfl
theorem sX11_begin_386 : kt_sg cX11_begin 386 [42, 42, 180, 0, 30, 42, 180, 0, 135, 46, 182, 0, 148, 153, 0, 7, 5, 167, 0, 18, 42, 27, 182, 0, 151, 153, 0, 7, 4, 167, 0, 6, 6, 27, 100, 181, 0, 73, 42, 180, 0, 103, 172] = true := by decide +kernel
theorem dX11_begin_386 : decode cX11_begin 386 = .ok (.aload_n 0, 1) := kt_o42 (j := 0) sX11_begin_386 rfl
theorem dX11_begin_387 : decode cX11_begin 387 = .ok (.aload_n 0, 1) := kt_o42 (j := 1) sX11_begin_386 rfl
theorem dX11_begin_388 : decode cX11_begin 388 = .ok (.getfield 30, 3) := kt_o180 (j := 2) sX11_begin_386 rfl rfl
theorem dX11_begin_391 : decode cX11_begin 391 = .ok (.aload_n 0, 1) := kt_o42 (j := 5) sX11_begin_386 rfl
theorem dX11_begin_392 : decode cX11_begin 392 = .ok (.getfield 135, 3) := kt_o180 (j := 6) sX11_begin_386 rfl rfl
theorem dX11_begin_395 : decode cX11_begin 395 = .ok (.iaload, 1) := kt_o46 (j := 9) sX11_begin_386 rfl
theorem dX11_begin_396 : decode cX11_begin 396 = .ok (.invokevirtual 148, 3) := kt_o182 (j := 10) sX11_begin_386 rfl rfl
theorem dX11_begin_399 : decode cX11_begin 399 = .ok (.ifCond .eq 7, 3) := kt_o153 (j := 13) sX11_begin_386 rfl (by decide +kernel)
theorem dX11_begin_402 : decode cX11_begin 402 = .ok (.iconst 2, 1) := kt_o5 (j := 16) sX11_begin_386 rfl
theorem dX11_begin_403 : decode cX11_begin 403 = .ok (.goto 18, 3) := kt_o167 (j := 17) sX11_begin_386 rfl (by decide +kernel)
theorem dX11_begin_406 : decode cX11_begin 406 = .ok (.aload_n 0, 1) := kt_o42 (j := 20) sX11_begin_386 rfl
theorem dX11_begin_407 : decode cX11_begin 407 = .ok (.iload_n 1, 1) := kt_o27 (j := 21) sX11_begin_386 rfl
theorem dX11_begin_408 : decode cX11_begin 408 = .ok (.invokevirtual 151, 3) := kt_o182 (j := 22) sX11_begin_386 rfl rfl
theorem dX11_begin_411 : decode cX11_begin 411 = .ok (.ifCond .eq 7, 3) := kt_o153 (j := 25) sX11_begin_386 rfl (by decide +kernel)
theorem dX11_begin_414 : decode cX11_begin 414 = .ok (.iconst 1, 1) := kt_o4 (j := 28) sX11_begin_386 rfl
theorem dX11_begin_415 : decode cX11_begin 415 = .ok (.goto 6, 3) := kt_o167 (j := 29) sX11_begin_386 rfl (by decide +kernel)
theorem dX11_begin_418 : decode cX11_begin 418 = .ok (.iconst 3, 1) := kt_o6 (j := 32) sX11_begin_386 rfl
theorem dX11_begin_419 : decode cX11_begin 419 = .ok (.iload_n 1, 1) := kt_o27 (j := 33) sX11_begin_386 rfl
theorem dX11_begin_420 : decode cX11_begin 420 = .ok (.isub, 1) := kt_o100 (j := 34) sX11_begin_386 rfl
theorem dX11_begin_421 : decode cX11_begin 421 = .ok (.putfield 73, 3) := kt_o181 (j := 35) sX11_begin_386 rfl rfl
theorem dX11_begin_424 : decode cX11_begin 424 = .ok (.aload_n 0, 1) := kt_o42 (j := 38) sX11_begin_386 rfl
theorem dX11_begin_425 : decode cX11_begin 425 = .ok (.getfield 103, 3) := kt_o180 (j := 39) sX11_begin_386 rfl rfl
theorem dX11_begin_428 : decode cX11_begin 428 = .ok (.ireturn, 1) := kt_o172 (j := 42) sX11_begin_386 rfl
theorem sX11_stop_0 : kt_sg cX11_stop 0 [42, 180, 0, 73, 154, 0, 5, 3, 172, 42, 3, 181, 0, 73, 42, 3, 181, 0, 76, 4, 172] = true := by decide +kernel
theorem dX11_stop_0 : decode cX11_stop 0 = .ok (.aload_n 0, 1) := kt_o42 (j := 0) sX11_stop_0 rfl
theorem dX11_stop_1 : decode cX11_stop 1 = .ok (.getfield 73, 3) := kt_o180 (j := 1) sX11_stop_0 rfl rfl
theorem dX11_stop_4 : decode cX11_stop 4 = .ok (.ifCond .ne 5, 3) := kt_o154 (j := 4) sX11_stop_0 rfl (by decide +kernel)
theorem dX11_stop_7 : decode cX11_stop 7 = .ok (.iconst 0, 1) := kt_o3 (j := 7) sX11_stop_0 rfl
theorem dX11_stop_8 : decode cX11_stop 8 = .ok (.ireturn, 1) := kt_o172 (j := 8) sX11_stop_0 rfl
theorem dX11_stop_9 : decode cX11_stop 9 = .ok (.aload_n 0, 1) := kt_o42 (j := 9) sX11_stop_0 rfl
theorem dX11_stop_10 : decode cX11_stop 10 = .ok (.iconst 0, 1) := kt_o3 (j := 10) sX11_stop_0 rfl
theorem dX11_stop_11 : decode cX11_stop 11 = .ok (.putfield 73, 3) := kt_o181 (j := 11) sX11_stop_0 rfl rfl
theorem dX11_stop_14 : decode cX11_stop 14 = .ok (.aload_n 0, 1) := kt_o42 (j := 14) sX11_stop_0 rfl
theorem dX11_stop_15 : decode cX11_stop 15 = .ok (.iconst 0, 1) := kt_o3 (j := 15) sX11_stop_0 rfl
theorem dX11_stop_16 : decode cX11_stop 16 = .ok (.putfield 76, 3) := kt_o181 (j := 16) sX11_stop_0 rfl rfl
theorem dX11_stop_19 : decode cX11_stop 19 = .ok (.iconst 1, 1) := kt_o4 (j := 19) sX11_stop_0 rfl
theorem dX11_stop_20 : decode cX11_stop 20 = .ok (.ireturn, 1) := kt_o172 (j := 20) sX11_stop_0 rfl
theorem kt_wp_X11_why__X11_why_r1 {w : Cond} (h : w ∈ wsX11_why_r1) : w ∈ wsX11_why := List.mem_cons_of_mem _ (List.mem_append_left _ (List.mem_append_left _ (h)))
theorem kt_wp_X11_why__X11_why_r2 {w : Cond} (h : w ∈ wsX11_why_r2) : w ∈ wsX11_why := List.mem_cons_of_mem _ (List.mem_append_left _ (List.mem_append_right _ (List.mem_append_left _ (h))))
theorem kt_wp_X11_why__X11_why_r3 {w : Cond} (h : w ∈ wsX11_why_r3) : w ∈ wsX11_why := List.mem_cons_of_mem _ (List.mem_append_left _ (List.mem_append_right _ (List.mem_append_right _ (List.mem_append_left _ (h)))))
theorem kt_wp_X11_why__X11_why_r4 {w : Cond} (h : w ∈ wsX11_why_r4) : w ∈ wsX11_why := List.mem_cons_of_mem _ (List.mem_append_left _ (List.mem_append_right _ (List.mem_append_right _ (List.mem_append_right _ (h)))))
theorem kt_wp_X11_why__X110 {w : Cond} (h : w ∈ wsX110) : w ∈ wsX11_why := List.mem_cons_of_mem _ (List.mem_append_right _ (h))
set_option maxRecDepth 20000 in
theorem ggX11_why_X11_isIn : GoodIn wsX11_why wsX11_isIn := goodIn_sub (kt_wf1 (kt_wp_X11_why__X11_why_r1 kt_wm9) kt_wf0) kt_wg_X11_isIn
set_option maxRecDepth 20000 in
theorem gX11_why_X11_isIn : GoodIn wsX11_why (va_wsS RX11 69 yX11_isIn wsX11_isIn) := goodIn_app (goodIn_of _ (by decide +kernel)) ggX11_why_X11_isIn
set_option maxRecDepth 20000 in
theorem ggX11_why_X11_sideOf : GoodIn wsX11_why wsX11_sideOf := goodIn_sub (kt_wf1 (kt_wp_X11_why__X11_why_r1 kt_wm13) (kt_wfa (kt_wf1 (kt_wp_X11_why__X11_why_r1 kt_wm14) kt_wf0) (fun _ h => kt_wp_X11_why__X110 h))) kt_wg_X11_sideOf
set_option maxRecDepth 20000 in
theorem gX11_why_X11_sideOf : GoodIn wsX11_why (wsV RX11 106 RX11 yX11_sideOf wsX11_sideOf) := goodIn_app (a := [.methodLink RX11 106 yX11_sideOf, .instanceMethod yX11_sideOf, .selects RX11 yX11_sideOf yX11_sideOf, .initialized RX11]) (goodIn_sub (kt_wf1 (kt_wp_X11_why__X11_why_r1 kt_wm10) (kt_wf1 (kt_wp_X11_why__X11_why_r1 kt_wm11) (kt_wf1 (kt_wp_X11_why__X11_why_r1 kt_wm12) (kt_wf1 (kt_wp_X11_why__X11_why_r1 kt_wm8) kt_wf0)))) (by decide +kernel)) ggX11_why_X11_sideOf
set_option maxRecDepth 20000 in
theorem ggX11_why_X11_bar : GoodIn wsX11_why wsX11_bar := goodIn_sub (kt_wf1 (kt_wp_X11_why__X11_why_r1 kt_wm18) (kt_wfa (kt_wf1 (kt_wp_X11_why__X11_why_r1 kt_wm2) (kt_wf1 (kt_wp_X11_why__X11_why_r1 kt_wm14) (kt_wf1 (kt_wp_X11_why__X11_why_r1 kt_wm19) (kt_wf1 (kt_wp_X11_why__X11_why_r1 kt_wm20) (kt_wf1 (kt_wp_X11_why__X11_why_r1 kt_wm21) (kt_wf1 (kt_wp_X11_why__X11_why_r1 kt_wm22) (kt_wf1 (kt_wp_X11_why__X11_why_r1 kt_wm23) (kt_wf1 (kt_wp_X11_why__X11_why_r1 kt_wm8) (kt_wf1 (kt_wp_X11_why__X11_why_r2 kt_wm0) (kt_wf1 (kt_wp_X11_why__X11_why_r2 kt_wm1) (kt_wf1 (kt_wp_X11_why__X11_why_r2 kt_wm2) (kt_wf1 (kt_wp_X11_why__X11_why_r2 kt_wm3) (kt_wf1 (kt_wp_X11_why__X11_why_r2 kt_wm4) (kt_wf1 (kt_wp_X11_why__X11_why_r2 kt_wm5) (kt_wf1 (kt_wp_X11_why__X11_why_r2 kt_wm6) (kt_wf1 (kt_wp_X11_why__X11_why_r2 kt_wm7) kt_wf0)))))))))))))))) (fun _ h => kt_wp_X11_why__X110 h))) kt_wg_X11_bar
set_option maxRecDepth 20000 in
theorem gX11_why_X11_bar : GoodIn wsX11_why (wsV RX11 100 RX11 yX11_bar wsX11_bar) := goodIn_app (a := [.methodLink RX11 100 yX11_bar, .instanceMethod yX11_bar, .selects RX11 yX11_bar yX11_bar, .initialized RX11]) (goodIn_sub (kt_wf1 (kt_wp_X11_why__X11_why_r1 kt_wm15) (kt_wf1 (kt_wp_X11_why__X11_why_r1 kt_wm16) (kt_wf1 (kt_wp_X11_why__X11_why_r1 kt_wm17) (kt_wf1 (kt_wp_X11_why__X11_why_r1 kt_wm8) kt_wf0)))) (by decide +kernel)) ggX11_why_X11_bar
set_option maxRecDepth 20000 in
theorem kt_wg_X11_make : wsX11_make.all goodWord = true := by decide +kernel
set_option maxRecDepth 20000 in
theorem ggX11_why_X11_make : GoodIn wsX11_why wsX11_make := goodIn_sub (kt_wf1 (kt_wp_X11_why__X11_why_r2 kt_wm11) (kt_wfa (kt_wfa (kt_wf1 (kt_wp_X11_why__X11_why_r1 kt_wm2) (kt_wf1 (kt_wp_X11_why__X11_why_r1 kt_wm20) (kt_wf1 (kt_wp_X11_why__X11_why_r1 kt_wm1) (kt_wf1 (kt_wp_X11_why__X11_why_r2 kt_wm12) (kt_wf1 (kt_wp_X11_why__X11_why_r2 kt_wm13) (kt_wf1 (kt_wp_X11_why__X11_why_r1 kt_wm3) (kt_wf1 (kt_wp_X11_why__X11_why_r1 kt_wm21) (kt_wf1 (kt_wp_X11_why__X11_why_r1 kt_wm22) (kt_wf1 (kt_wp_X11_why__X11_why_r1 kt_wm23) (kt_wf1 (kt_wp_X11_why__X11_why_r1 kt_wm8) (kt_wf1 (kt_wp_X11_why__X11_why_r2 kt_wm0) (kt_wf1 (kt_wp_X11_why__X11_why_r2 kt_wm1) (kt_wf1 (kt_wp_X11_why__X11_why_r2 kt_wm2) (kt_wf1 (kt_wp_X11_why__X11_why_r2 kt_wm14) (kt_wf1 (kt_wp_X11_why__X11_why_r2 kt_wm15) (kt_wf1 (kt_wp_X11_why__X11_why_r2 kt_wm16) (kt_wf1 (kt_wp_X11_why__X11_why_r2 kt_wm17) (kt_wf1 (kt_wp_X11_why__X11_why_r1 kt_wm14) (kt_wf1 (kt_wp_X11_why__X11_why_r2 kt_wm18) (kt_wf1 (kt_wp_X11_why__X11_why_r1 kt_wm10) (kt_wf1 (kt_wp_X11_why__X11_why_r1 kt_wm11) (kt_wf1 (kt_wp_X11_why__X11_why_r1 kt_wm12) (kt_wf1 (kt_wp_X11_why__X11_why_r1 kt_wm13) (kt_wf1 (kt_wp_X11_why__X11_why_r2 kt_wm19) kt_wf0)))))))))))))))))))))))) (kt_wf1 (kt_wp_X11_why__X11_why_r2 kt_wm20) (kt_wf1 (kt_wp_X11_why__X11_why_r2 kt_wm21) (kt_wf1 (kt_wp_X11_why__X11_why_r2 kt_wm22) (kt_wf1 (kt_wp_X11_why__X11_why_r2 kt_wm23) (kt_wf1 (kt_wp_X11_why__X11_why_r3 kt_wm0) (kt_wf1 (kt_wp_X11_why__X11_why_r3 kt_wm1) (kt_wf1 (kt_wp_X11_why__X11_why_r3 kt_wm2) (kt_wf1 (kt_wp_X11_why__X11_why_r3 kt_wm3) (kt_wf1 (kt_wp_X11_why__X11_why_r2 kt_wm7) kt_wf0)))))))))) (fun _ h => kt_wp_X11_why__X110 h))) kt_wg_X11_make
set_option maxRecDepth 20000 in
theorem gX11_why_X11_make : GoodIn wsX11_why (wsV RX11 154 RX11 yX11_make wsX11_make) := goodIn_app (a := [.methodLink RX11 154 yX11_make, .instanceMethod yX11_make, .selects RX11 yX11_make yX11_make, .initialized RX11]) (goodIn_sub (kt_wf1 (kt_wp_X11_why__X11_why_r2 kt_wm8) (kt_wf1 (kt_wp_X11_why__X11_why_r2 kt_wm9) (kt_wf1 (kt_wp_X11_why__X11_why_r2 kt_wm10) (kt_wf1 (kt_wp_X11_why__X11_why_r1 kt_wm8) kt_wf0)))) (by decide +kernel)) ggX11_why_X11_make
set_option maxRecDepth 20000 in
theorem ggX11_why_X11_write : GoodIn wsX11_why wsX11_write := goodIn_sub (kt_wf1 (kt_wp_X11_why__X11_why_r3 kt_wm7) (kt_wfa (kt_wf1 (kt_wp_X11_why__X11_why_r3 kt_wm8) (kt_wf1 (kt_wp_X11_why__X11_why_r1 kt_wm1) (kt_wf1 (kt_wp_X11_why__X11_why_r1 kt_wm2) (kt_wf1 (kt_wp_X11_why__X11_why_r1 kt_wm3) (kt_wf1 (kt_wp_X11_why__X11_why_r3 kt_wm9) (kt_wf1 (kt_wp_X11_why__X11_why_r3 kt_wm10) (kt_wf1 (kt_wp_X11_why__X11_why_r3 kt_wm11) (kt_wf1 (kt_wp_X11_why__X11_why_r1 kt_wm8) (kt_wf1 (kt_wp_X11_why__X11_why_r3 kt_wm12) kt_wf0))))))))) (fun _ h => kt_wp_X11_why__X110 h))) kt_wg_X11_write
set_option maxRecDepth 20000 in
theorem gX11_why_X11_write : GoodIn wsX11_why (wsV RX11 144 RX11 yX11_write wsX11_write) := goodIn_app (a := [.methodLink RX11 144 yX11_write, .instanceMethod yX11_write, .selects RX11 yX11_write yX11_write, .initialized RX11]) (goodIn_sub (kt_wf1 (kt_wp_X11_why__X11_why_r3 kt_wm4) (kt_wf1 (kt_wp_X11_why__X11_why_r3 kt_wm5) (kt_wf1 (kt_wp_X11_why__X11_why_r3 kt_wm6) (kt_wf1 (kt_wp_X11_why__X11_why_r1 kt_wm8) kt_wf0)))) (by decide +kernel)) ggX11_why_X11_write
set_option maxRecDepth 20000 in
theorem kt_wg_X11_cameBack : wsX11_cameBack.all goodWord = true := by decide +kernel
set_option maxRecDepth 20000 in
theorem ggX11_why_X11_cameBack : GoodIn wsX11_why wsX11_cameBack := goodIn_sub (kt_wf1 (kt_wp_X11_why__X11_why_r3 kt_wm16) (kt_wfa (kt_wf1 (kt_wp_X11_why__X11_why_r3 kt_wm17) (kt_wf1 (kt_wp_X11_why__X11_why_r3 kt_wm18) (kt_wf1 (kt_wp_X11_why__X11_why_r3 kt_wm19) (kt_wf1 (kt_wp_X11_why__X11_why_r1 kt_wm8) (kt_wf1 (kt_wp_X11_why__X11_why_r3 kt_wm20) (kt_wf1 (kt_wp_X11_why__X11_why_r3 kt_wm8) (kt_wf1 (kt_wp_X11_why__X11_why_r3 kt_wm9) (kt_wf1 (kt_wp_X11_why__X11_why_r3 kt_wm10) (kt_wf1 (kt_wp_X11_why__X11_why_r3 kt_wm11) (kt_wf1 (kt_wp_X11_why__X11_why_r3 kt_wm12) kt_wf0)))))))))) (fun _ h => kt_wp_X11_why__X110 h))) kt_wg_X11_cameBack
set_option maxRecDepth 20000 in
theorem gX11_why_X11_cameBack : GoodIn wsX11_why (wsV RX11 158 RX11 yX11_cameBack wsX11_cameBack) := goodIn_app (a := [.methodLink RX11 158 yX11_cameBack, .instanceMethod yX11_cameBack, .selects RX11 yX11_cameBack yX11_cameBack, .initialized RX11]) (goodIn_sub (kt_wf1 (kt_wp_X11_why__X11_why_r3 kt_wm13) (kt_wf1 (kt_wp_X11_why__X11_why_r3 kt_wm14) (kt_wf1 (kt_wp_X11_why__X11_why_r3 kt_wm15) (kt_wf1 (kt_wp_X11_why__X11_why_r1 kt_wm8) kt_wf0)))) (by decide +kernel)) ggX11_why_X11_cameBack
set_option maxRecDepth 20000 in
theorem kt_wg_X11_read : wsX11_read.all goodWord = true := by decide +kernel
set_option maxRecDepth 20000 in
theorem ggX11_why_X11_read : GoodIn wsX11_why wsX11_read := goodIn_sub (kt_wf1 (kt_wp_X11_why__X11_why_r4 kt_wm0) (kt_wfa (kt_wf1 (kt_wp_X11_why__X11_why_r1 kt_wm20) (kt_wf1 (kt_wp_X11_why__X11_why_r1 kt_wm1) (kt_wf1 (kt_wp_X11_why__X11_why_r1 kt_wm2) (kt_wf1 (kt_wp_X11_why__X11_why_r3 kt_wm8) (kt_wf1 (kt_wp_X11_why__X11_why_r1 kt_wm3) (kt_wf1 (kt_wp_X11_why__X11_why_r3 kt_wm9) (kt_wf1 (kt_wp_X11_why__X11_why_r3 kt_wm10) (kt_wf1 (kt_wp_X11_why__X11_why_r3 kt_wm11) (kt_wf1 (kt_wp_X11_why__X11_why_r1 kt_wm8) (kt_wf1 (kt_wp_X11_why__X11_why_r3 kt_wm12) kt_wf0)))))))))) (fun _ h => kt_wp_X11_why__X110 h))) kt_wg_X11_read
set_option maxRecDepth 20000 in
theorem gX11_why_X11_read : GoodIn wsX11_why (wsV RX11 161 RX11 yX11_read wsX11_read) := goodIn_app (a := [.methodLink RX11 161 yX11_read, .instanceMethod yX11_read, .selects RX11 yX11_read yX11_read, .initialized RX11]) (goodIn_sub (kt_wf1 (kt_wp_X11_why__X11_why_r3 kt_wm21) (kt_wf1 (kt_wp_X11_why__X11_why_r3 kt_wm22) (kt_wf1 (kt_wp_X11_why__X11_why_r3 kt_wm23) (kt_wf1 (kt_wp_X11_why__X11_why_r1 kt_wm8) kt_wf0)))) (by decide +kernel)) ggX11_why_X11_read
set_option maxRecDepth 20000 in
theorem kt_wg_X11_lookAgain : wsX11_lookAgain.all goodWord = true := by decide +kernel
set_option maxRecDepth 20000 in
theorem ggX11_why_X11_lookAgain : GoodIn wsX11_why wsX11_lookAgain := goodIn_sub (kt_wf1 (kt_wp_X11_why__X11_why_r4 kt_wm4) (kt_wfa (kt_wf1 (kt_wp_X11_why__X11_why_r1 kt_wm5) (kt_wf1 (kt_wp_X11_why__X11_why_r2 kt_wm13) (kt_wf1 (kt_wp_X11_why__X11_why_r1 kt_wm1) (kt_wf1 (kt_wp_X11_why__X11_why_r2 kt_wm12) (kt_wf1 (kt_wp_X11_why__X11_why_r3 kt_wm8) (kt_wf1 (kt_wp_X11_why__X11_why_r3 kt_wm9) (kt_wf1 (kt_wp_X11_why__X11_why_r3 kt_wm10) (kt_wf1 (kt_wp_X11_why__X11_why_r3 kt_wm11) (kt_wf1 (kt_wp_X11_why__X11_why_r1 kt_wm8) (kt_wf1 (kt_wp_X11_why__X11_why_r3 kt_wm12) kt_wf0)))))))))) (fun _ h => kt_wp_X11_why__X110 h))) kt_wg_X11_lookAgain
set_option maxRecDepth 20000 in
theorem gX11_why_X11_lookAgain : GoodIn wsX11_why (wsV RX11 164 RX11 yX11_lookAgain wsX11_lookAgain) := goodIn_app (a := [.methodLink RX11 164 yX11_lookAgain, .instanceMethod yX11_lookAgain, .selects RX11 yX11_lookAgain yX11_lookAgain, .initialized RX11]) (goodIn_sub (kt_wf1 (kt_wp_X11_why__X11_why_r4 kt_wm1) (kt_wf1 (kt_wp_X11_why__X11_why_r4 kt_wm2) (kt_wf1 (kt_wp_X11_why__X11_why_r4 kt_wm3) (kt_wf1 (kt_wp_X11_why__X11_why_r1 kt_wm8) kt_wf0)))) (by decide +kernel)) ggX11_why_X11_lookAgain
theorem sX11_why_0 : kt_sg cX11_why 0 [42, 180, 0, 73, 4, 159, 0, 5, 4, 172, 27, 3, 42, 180, 0, 103, 4, 100, 184, 0, 69, 154, 0, 5, 5, 172, 42, 180, 0, 30, 27, 46, 2, 160, 0, 5, 6, 172, 42, 27, 182, 0, 106, 42, 180, 0, 126, 159, 0, 5, 7, 172, 28, 3, 6, 184, 0, 69, 153, 0, 8, 29, 4, 162, 0, 5] = true := by decide +kernel
theorem dX11_why_0 : decode cX11_why 0 = .ok (.aload_n 0, 1) := kt_o42 (j := 0) sX11_why_0 rfl
theorem dX11_why_1 : decode cX11_why 1 = .ok (.getfield 73, 3) := kt_o180 (j := 1) sX11_why_0 rfl rfl
theorem dX11_why_4 : decode cX11_why 4 = .ok (.iconst 1, 1) := kt_o4 (j := 4) sX11_why_0 rfl
theorem dX11_why_5 : decode cX11_why 5 = .ok (.if_icmp .eq 5, 3) := kt_o159 (j := 5) sX11_why_0 rfl (by decide +kernel)
theorem dX11_why_8 : decode cX11_why 8 = .ok (.iconst 1, 1) := kt_o4 (j := 8) sX11_why_0 rfl
theorem dX11_why_9 : decode cX11_why 9 = .ok (.ireturn, 1) := kt_o172 (j := 9) sX11_why_0 rfl
theorem dX11_why_10 : decode cX11_why 10 = .ok (.iload_n 1, 1) := kt_o27 (j := 10) sX11_why_0 rfl
theorem dX11_why_11 : decode cX11_why 11 = .ok (.iconst 0, 1) := kt_o3 (j := 11) sX11_why_0 rfl
theorem dX11_why_12 : decode cX11_why 12 = .ok (.aload_n 0, 1) := kt_o42 (j := 12) sX11_why_0 rfl
theorem dX11_why_13 : decode cX11_why 13 = .ok (.getfield 103, 3) := kt_o180 (j := 13) sX11_why_0 rfl rfl
theorem dX11_why_16 : decode cX11_why 16 = .ok (.iconst 1, 1) := kt_o4 (j := 16) sX11_why_0 rfl
theorem dX11_why_17 : decode cX11_why 17 = .ok (.isub, 1) := kt_o100 (j := 17) sX11_why_0 rfl
theorem dX11_why_18 : decode cX11_why 18 = .ok (.invokestatic 69, 3) := kt_o184 (j := 18) sX11_why_0 rfl rfl
theorem dX11_why_21 : decode cX11_why 21 = .ok (.ifCond .ne 5, 3) := kt_o154 (j := 21) sX11_why_0 rfl (by decide +kernel)
theorem dX11_why_24 : decode cX11_why 24 = .ok (.iconst 2, 1) := kt_o5 (j := 24) sX11_why_0 rfl
theorem dX11_why_25 : decode cX11_why 25 = .ok (.ireturn, 1) := kt_o172 (j := 25) sX11_why_0 rfl
theorem dX11_why_26 : decode cX11_why 26 = .ok (.aload_n 0, 1) := kt_o42 (j := 26) sX11_why_0 rfl
theorem dX11_why_27 : decode cX11_why 27 = .ok (.getfield 30, 3) := kt_o180 (j := 27) sX11_why_0 rfl rfl
theorem dX11_why_30 : decode cX11_why 30 = .ok (.iload_n 1, 1) := kt_o27 (j := 30) sX11_why_0 rfl
theorem dX11_why_31 : decode cX11_why 31 = .ok (.iaload, 1) := kt_o46 (j := 31) sX11_why_0 rfl
theorem dX11_why_32 : decode cX11_why 32 = .ok (.iconst (-1), 1) := kt_o2 (j := 32) sX11_why_0 rfl
theorem dX11_why_33 : decode cX11_why 33 = .ok (.if_icmp .ne 5, 3) := kt_o160 (j := 33) sX11_why_0 rfl (by decide +kernel)
theorem dX11_why_36 : decode cX11_why 36 = .ok (.iconst 3, 1) := kt_o6 (j := 36) sX11_why_0 rfl
theorem dX11_why_37 : decode cX11_why 37 = .ok (.ireturn, 1) := kt_o172 (j := 37) sX11_why_0 rfl
theorem dX11_why_38 : decode cX11_why 38 = .ok (.aload_n 0, 1) := kt_o42 (j := 38) sX11_why_0 rfl
theorem dX11_why_39 : decode cX11_why 39 = .ok (.iload_n 1, 1) := kt_o27 (j := 39) sX11_why_0 rfl
theorem dX11_why_40 : decode cX11_why 40 = .ok (.invokevirtual 106, 3) := kt_o182 (j := 40) sX11_why_0 rfl rfl
theorem dX11_why_43 : decode cX11_why 43 = .ok (.aload_n 0, 1) := kt_o42 (j := 43) sX11_why_0 rfl
theorem dX11_why_44 : decode cX11_why 44 = .ok (.getfield 126, 3) := kt_o180 (j := 44) sX11_why_0 rfl rfl
theorem dX11_why_47 : decode cX11_why 47 = .ok (.if_icmp .eq 5, 3) := kt_o159 (j := 47) sX11_why_0 rfl (by decide +kernel)
theorem dX11_why_50 : decode cX11_why 50 = .ok (.iconst 4, 1) := kt_o7 (j := 50) sX11_why_0 rfl
theorem dX11_why_51 : decode cX11_why 51 = .ok (.ireturn, 1) := kt_o172 (j := 51) sX11_why_0 rfl
theorem dX11_why_52 : decode cX11_why 52 = .ok (.iload_n 2, 1) := kt_o28 (j := 52) sX11_why_0 rfl
theorem dX11_why_53 : decode cX11_why 53 = .ok (.iconst 0, 1) := kt_o3 (j := 53) sX11_why_0 rfl
theorem dX11_why_54 : decode cX11_why 54 = .ok (.iconst 3, 1) := kt_o6 (j := 54) sX11_why_0 rfl
theorem dX11_why_55 : decode cX11_why 55 = .ok (.invokestatic 69, 3) := kt_o184 (j := 55) sX11_why_0 rfl rfl
theorem dX11_why_58 : decode cX11_why 58 = .ok (.ifCond .eq 8, 3) := kt_o153 (j := 58) sX11_why_0 rfl (by decide +kernel)
theorem dX11_why_61 : decode cX11_why 61 = .ok (.iload_n 3, 1) := kt_o29 (j := 61) sX11_why_0 rfl
theorem dX11_why_62 : decode cX11_why 62 = .ok (.iconst 1, 1) := kt_o4 (j := 62) sX11_why_0 rfl
theorem dX11_why_63 : decode cX11_why 63 = .ok (.if_icmp .ge 5, 3) := kt_o162 (j := 63) sX11_why_0 rfl (by decide +kernel)
theorem sX11_why_66 : kt_sg cX11_why 66 [8, 172, 42, 27, 28, 29, 182, 0, 100, 54, 4, 21, 4, 154, 0, 10, 42, 180, 0, 85, 154, 0, 6, 21, 4, 172, 42, 27, 28, 29, 182, 0, 154, 42, 42, 180, 0, 138, 4, 96, 182, 0, 144, 42, 42, 180, 0, 138, 4, 96, 182, 0, 158, 54, 5, 42, 42, 180, 0, 138, 182, 0, 161, 42] = true := by decide +kernel
theorem dX11_why_66 : decode cX11_why 66 = .ok (.iconst 5, 1) := kt_o8 (j := 0) sX11_why_66 rfl
theorem dX11_why_67 : decode cX11_why 67 = .ok (.ireturn, 1) := kt_o172 (j := 1) sX11_why_66 rfl
theorem dX11_why_68 : decode cX11_why 68 = .ok (.aload_n 0, 1) := kt_o42 (j := 2) sX11_why_66 rfl
theorem dX11_why_69 : decode cX11_why 69 = .ok (.iload_n 1, 1) := kt_o27 (j := 3) sX11_why_66 rfl
theorem dX11_why_70 : decode cX11_why 70 = .ok (.iload_n 2, 1) := kt_o28 (j := 4) sX11_why_66 rfl
theorem dX11_why_71 : decode cX11_why 71 = .ok (.iload_n 3, 1) := kt_o29 (j := 5) sX11_why_66 rfl
theorem dX11_why_72 : decode cX11_why 72 = .ok (.invokevirtual 100, 3) := kt_o182 (j := 6) sX11_why_66 rfl rfl
theorem dX11_why_75 : decode cX11_why 75 = .ok (.istore 4, 2) := kt_o54 (j := 9) sX11_why_66 rfl
theorem dX11_why_77 : decode cX11_why 77 = .ok (.iload 4, 2) := kt_o21 (j := 11) sX11_why_66 rfl
theorem dX11_why_79 : decode cX11_why 79 = .ok (.ifCond .ne 10, 3) := kt_o154 (j := 13) sX11_why_66 rfl (by decide +kernel)
theorem dX11_why_82 : decode cX11_why 82 = .ok (.aload_n 0, 1) := kt_o42 (j := 16) sX11_why_66 rfl
theorem dX11_why_83 : decode cX11_why 83 = .ok (.getfield 85, 3) := kt_o180 (j := 17) sX11_why_66 rfl rfl
theorem dX11_why_86 : decode cX11_why 86 = .ok (.ifCond .ne 6, 3) := kt_o154 (j := 20) sX11_why_66 rfl (by decide +kernel)
theorem dX11_why_89 : decode cX11_why 89 = .ok (.iload 4, 2) := kt_o21 (j := 23) sX11_why_66 rfl
theorem dX11_why_91 : decode cX11_why 91 = .ok (.ireturn, 1) := kt_o172 (j := 25) sX11_why_66 rfl
theorem dX11_why_92 : decode cX11_why 92 = .ok (.aload_n 0, 1) := kt_o42 (j := 26) sX11_why_66 rfl
theorem dX11_why_93 : decode cX11_why 93 = .ok (.iload_n 1, 1) := kt_o27 (j := 27) sX11_why_66 rfl
theorem dX11_why_94 : decode cX11_why 94 = .ok (.iload_n 2, 1) := kt_o28 (j := 28) sX11_why_66 rfl
theorem dX11_why_95 : decode cX11_why 95 = .ok (.iload_n 3, 1) := kt_o29 (j := 29) sX11_why_66 rfl
theorem dX11_why_96 : decode cX11_why 96 = .ok (.invokevirtual 154, 3) := kt_o182 (j := 30) sX11_why_66 rfl rfl
theorem dX11_why_99 : decode cX11_why 99 = .ok (.aload_n 0, 1) := kt_o42 (j := 33) sX11_why_66 rfl
theorem dX11_why_100 : decode cX11_why 100 = .ok (.aload_n 0, 1) := kt_o42 (j := 34) sX11_why_66 rfl
theorem dX11_why_101 : decode cX11_why 101 = .ok (.getfield 138, 3) := kt_o180 (j := 35) sX11_why_66 rfl rfl
theorem dX11_why_104 : decode cX11_why 104 = .ok (.iconst 1, 1) := kt_o4 (j := 38) sX11_why_66 rfl
theorem dX11_why_105 : decode cX11_why 105 = .ok (.iadd, 1) := kt_o96 (j := 39) sX11_why_66 rfl
theorem dX11_why_106 : decode cX11_why 106 = .ok (.invokevirtual 144, 3) := kt_o182 (j := 40) sX11_why_66 rfl rfl
theorem dX11_why_109 : decode cX11_why 109 = .ok (.aload_n 0, 1) := kt_o42 (j := 43) sX11_why_66 rfl
theorem dX11_why_110 : decode cX11_why 110 = .ok (.aload_n 0, 1) := kt_o42 (j := 44) sX11_why_66 rfl
theorem dX11_why_111 : decode cX11_why 111 = .ok (.getfield 138, 3) := kt_o180 (j := 45) sX11_why_66 rfl rfl
theorem dX11_why_114 : decode cX11_why 114 = .ok (.iconst 1, 1) := kt_o4 (j := 48) sX11_why_66 rfl
theorem dX11_why_115 : decode cX11_why 115 = .ok (.iadd, 1) := kt_o96 (j := 49) sX11_why_66 rfl
theorem dX11_why_116 : decode cX11_why 116 = .ok (.invokevirtual 158, 3) := kt_o182 (j := 50) sX11_why_66 rfl rfl
theorem dX11_why_119 : decode cX11_why 119 = .ok (.istore 5, 2) := kt_o54 (j := 53) sX11_why_66 rfl
theorem dX11_why_121 : decode cX11_why 121 = .ok (.aload_n 0, 1) := kt_o42 (j := 55) sX11_why_66 rfl
theorem dX11_why_122 : decode cX11_why 122 = .ok (.aload_n 0, 1) := kt_o42 (j := 56) sX11_why_66 rfl
theorem dX11_why_123 : decode cX11_why 123 = .ok (.getfield 138, 3) := kt_o180 (j := 57) sX11_why_66 rfl rfl
theorem dX11_why_126 : decode cX11_why 126 = .ok (.invokevirtual 161, 3) := kt_o182 (j := 60) sX11_why_66 rfl rfl
theorem dX11_why_129 : decode cX11_why 129 = .ok (.aload_n 0, 1) := kt_o42 (j := 63) sX11_why_66 rfl
theorem sX11_why_130 : kt_sg cX11_why 130 [182, 0, 164, 21, 5, 153, 0, 8, 16, 10, 167, 0, 4, 3, 172] = true := by decide +kernel
theorem dX11_why_130 : decode cX11_why 130 = .ok (.invokevirtual 164, 3) := kt_o182 (j := 0) sX11_why_130 rfl rfl
theorem dX11_why_133 : decode cX11_why 133 = .ok (.iload 5, 2) := kt_o21 (j := 3) sX11_why_130 rfl
theorem dX11_why_135 : decode cX11_why 135 = .ok (.ifCond .eq 8, 3) := kt_o153 (j := 5) sX11_why_130 rfl (by decide +kernel)
theorem dX11_why_138 : decode cX11_why 138 = .ok (.bipush 10, 2) := kt_o16 (j := 8) sX11_why_130 rfl (by decide +kernel)
theorem dX11_why_140 : decode cX11_why 140 = .ok (.goto 4, 3) := kt_o167 (j := 10) sX11_why_130 rfl (by decide +kernel)
theorem dX11_why_143 : decode cX11_why 143 = .ok (.iconst 0, 1) := kt_o3 (j := 13) sX11_why_130 rfl
theorem dX11_why_144 : decode cX11_why 144 = .ok (.ireturn, 1) := kt_o172 (j := 14) sX11_why_130 rfl
theorem kt_wp_X11_lookAgain__X110 {w : Cond} (h : w ∈ wsX110) : w ∈ wsX11_lookAgain := List.mem_cons_of_mem _ (List.mem_append_right _ (h))
set_option maxRecDepth 20000 in
theorem ggX11_lookAgain_X11_row : GoodIn wsX11_lookAgain wsX11_row := goodIn_sub (kt_wf1 (List.mem_cons_of_mem _ (List.mem_append_left _ (List.mem_cons_of_mem _ (List.mem_cons_of_mem _ (List.mem_cons_of_mem _ (List.mem_cons_of_mem _ (List.mem_cons_of_mem _ (List.mem_cons_of_mem _ (List.mem_cons_of_mem _ (List.mem_cons_of_mem _ (List.mem_cons_of_mem _ (List.Mem.head _)))))))))))) kt_wf0) kt_wg_X11_row
set_option maxRecDepth 20000 in
theorem gX11_lookAgain_X11_row : GoodIn wsX11_lookAgain (wsV RX11 129 RX11 yX11_row wsX11_row) := goodIn_app (a := [.methodLink RX11 129 yX11_row, .instanceMethod yX11_row, .selects RX11 yX11_row yX11_row, .initialized RX11]) (goodIn_sub (kt_wf1 (List.mem_cons_of_mem _ (List.mem_append_left _ (List.mem_cons_of_mem _ (List.mem_cons_of_mem _ (List.mem_cons_of_mem _ (List.mem_cons_of_mem _ (List.mem_cons_of_mem _ (List.Mem.head _)))))))) (kt_wf1 (List.mem_cons_of_mem _ (List.mem_append_left _ (List.mem_cons_of_mem _ (List.mem_cons_of_mem _ (List.mem_cons_of_mem _ (List.mem_cons_of_mem _ (List.mem_cons_of_mem _ (List.mem_cons_of_mem _ (List.Mem.head _))))))))) (kt_wf1 (List.mem_cons_of_mem _ (List.mem_append_left _ (List.mem_cons_of_mem _ (List.mem_cons_of_mem _ (List.mem_cons_of_mem _ (List.mem_cons_of_mem _ (List.mem_cons_of_mem _ (List.mem_cons_of_mem _ (List.mem_cons_of_mem _ (List.Mem.head _)))))))))) (kt_wf1 (List.mem_cons_of_mem _ (List.mem_append_left _ (List.mem_cons_of_mem _ (List.mem_cons_of_mem _ (List.mem_cons_of_mem _ (List.mem_cons_of_mem _ (List.mem_cons_of_mem _ (List.mem_cons_of_mem _ (List.mem_cons_of_mem _ (List.mem_cons_of_mem _ (List.Mem.head _))))))))))) kt_wf0)))) (by decide +kernel)) ggX11_lookAgain_X11_row
theorem sX11_lookAgain_0 : kt_sg cX11_lookAgain 0 [42, 42, 180, 0, 138, 154, 0, 7, 2, 167, 0, 4, 3, 181, 0, 120, 3, 60, 27, 42, 180, 0, 103, 162, 0, 86, 42, 180, 0, 47, 27, 42, 180, 0, 138, 158, 0, 47, 42, 180, 0, 43, 42, 42, 180, 0, 138, 4, 100, 182, 0, 129, 27, 96, 51, 2, 159, 0, 26, 42, 180, 0, 43, 42] = true := by decide +kernel
theorem dX11_lookAgain_0 : decode cX11_lookAgain 0 = .ok (.aload_n 0, 1) := kt_o42 (j := 0) sX11_lookAgain_0 rfl
theorem dX11_lookAgain_1 : decode cX11_lookAgain 1 = .ok (.aload_n 0, 1) := kt_o42 (j := 1) sX11_lookAgain_0 rfl
theorem dX11_lookAgain_2 : decode cX11_lookAgain 2 = .ok (.getfield 138, 3) := kt_o180 (j := 2) sX11_lookAgain_0 rfl rfl
theorem dX11_lookAgain_5 : decode cX11_lookAgain 5 = .ok (.ifCond .ne 7, 3) := kt_o154 (j := 5) sX11_lookAgain_0 rfl (by decide +kernel)
theorem dX11_lookAgain_8 : decode cX11_lookAgain 8 = .ok (.iconst (-1), 1) := kt_o2 (j := 8) sX11_lookAgain_0 rfl
theorem dX11_lookAgain_9 : decode cX11_lookAgain 9 = .ok (.goto 4, 3) := kt_o167 (j := 9) sX11_lookAgain_0 rfl (by decide +kernel)
theorem dX11_lookAgain_12 : decode cX11_lookAgain 12 = .ok (.iconst 0, 1) := kt_o3 (j := 12) sX11_lookAgain_0 rfl
theorem dX11_lookAgain_13 : decode cX11_lookAgain 13 = .ok (.putfield 120, 3) := kt_o181 (j := 13) sX11_lookAgain_0 rfl rfl
theorem dX11_lookAgain_16 : decode cX11_lookAgain 16 = .ok (.iconst 0, 1) := kt_o3 (j := 16) sX11_lookAgain_0 rfl
theorem dX11_lookAgain_17 : decode cX11_lookAgain 17 = .ok (.istore_n 1, 1) := kt_o60 (j := 17) sX11_lookAgain_0 rfl
theorem dX11_lookAgain_18 : decode cX11_lookAgain 18 = .ok (.iload_n 1, 1) := kt_o27 (j := 18) sX11_lookAgain_0 rfl
theorem dX11_lookAgain_19 : decode cX11_lookAgain 19 = .ok (.aload_n 0, 1) := kt_o42 (j := 19) sX11_lookAgain_0 rfl
theorem dX11_lookAgain_20 : decode cX11_lookAgain 20 = .ok (.getfield 103, 3) := kt_o180 (j := 20) sX11_lookAgain_0 rfl rfl
theorem dX11_lookAgain_23 : decode cX11_lookAgain 23 = .ok (.if_icmp .ge 86, 3) := kt_o162 (j := 23) sX11_lookAgain_0 rfl (by decide +kernel)
theorem dX11_lookAgain_26 : decode cX11_lookAgain 26 = .ok (.aload_n 0, 1) := kt_o42 (j := 26) sX11_lookAgain_0 rfl
theorem dX11_lookAgain_27 : decode cX11_lookAgain 27 = .ok (.getfield 47, 3) := kt_o180 (j := 27) sX11_lookAgain_0 rfl rfl
theorem dX11_lookAgain_30 : decode cX11_lookAgain 30 = .ok (.iload_n 1, 1) := kt_o27 (j := 30) sX11_lookAgain_0 rfl
theorem dX11_lookAgain_31 : decode cX11_lookAgain 31 = .ok (.aload_n 0, 1) := kt_o42 (j := 31) sX11_lookAgain_0 rfl
theorem dX11_lookAgain_32 : decode cX11_lookAgain 32 = .ok (.getfield 138, 3) := kt_o180 (j := 32) sX11_lookAgain_0 rfl rfl
theorem dX11_lookAgain_35 : decode cX11_lookAgain 35 = .ok (.ifCond .le 47, 3) := kt_o158 (j := 35) sX11_lookAgain_0 rfl (by decide +kernel)
theorem dX11_lookAgain_38 : decode cX11_lookAgain 38 = .ok (.aload_n 0, 1) := kt_o42 (j := 38) sX11_lookAgain_0 rfl
theorem dX11_lookAgain_39 : decode cX11_lookAgain 39 = .ok (.getfield 43, 3) := kt_o180 (j := 39) sX11_lookAgain_0 rfl rfl
theorem dX11_lookAgain_42 : decode cX11_lookAgain 42 = .ok (.aload_n 0, 1) := kt_o42 (j := 42) sX11_lookAgain_0 rfl
theorem dX11_lookAgain_43 : decode cX11_lookAgain 43 = .ok (.aload_n 0, 1) := kt_o42 (j := 43) sX11_lookAgain_0 rfl
theorem dX11_lookAgain_44 : decode cX11_lookAgain 44 = .ok (.getfield 138, 3) := kt_o180 (j := 44) sX11_lookAgain_0 rfl rfl
theorem dX11_lookAgain_47 : decode cX11_lookAgain 47 = .ok (.iconst 1, 1) := kt_o4 (j := 47) sX11_lookAgain_0 rfl
theorem dX11_lookAgain_48 : decode cX11_lookAgain 48 = .ok (.isub, 1) := kt_o100 (j := 48) sX11_lookAgain_0 rfl
theorem dX11_lookAgain_49 : decode cX11_lookAgain 49 = .ok (.invokevirtual 129, 3) := kt_o182 (j := 49) sX11_lookAgain_0 rfl rfl
theorem dX11_lookAgain_52 : decode cX11_lookAgain 52 = .ok (.iload_n 1, 1) := kt_o27 (j := 52) sX11_lookAgain_0 rfl
theorem dX11_lookAgain_53 : decode cX11_lookAgain 53 = .ok (.iadd, 1) := kt_o96 (j := 53) sX11_lookAgain_0 rfl
theorem dX11_lookAgain_54 : decode cX11_lookAgain 54 = .ok (.baload, 1) := kt_o51 (j := 54) sX11_lookAgain_0 rfl
theorem dX11_lookAgain_55 : decode cX11_lookAgain 55 = .ok (.iconst (-1), 1) := kt_o2 (j := 55) sX11_lookAgain_0 rfl
theorem dX11_lookAgain_56 : decode cX11_lookAgain 56 = .ok (.if_icmp .eq 26, 3) := kt_o159 (j := 56) sX11_lookAgain_0 rfl (by decide +kernel)
theorem dX11_lookAgain_59 : decode cX11_lookAgain 59 = .ok (.aload_n 0, 1) := kt_o42 (j := 59) sX11_lookAgain_0 rfl
theorem dX11_lookAgain_60 : decode cX11_lookAgain 60 = .ok (.getfield 43, 3) := kt_o180 (j := 60) sX11_lookAgain_0 rfl rfl
theorem dX11_lookAgain_63 : decode cX11_lookAgain 63 = .ok (.aload_n 0, 1) := kt_o42 (j := 63) sX11_lookAgain_0 rfl
theorem sX11_lookAgain_64 : kt_sg cX11_lookAgain 64 [42, 180, 0, 138, 182, 0, 129, 27, 96, 51, 2, 160, 0, 7, 4, 167, 0, 4, 3, 84, 42, 180, 0, 47, 27, 51, 153, 0, 13, 42, 89, 180, 0, 120, 4, 96, 181, 0, 120, 132, 1, 1, 167, 255, 168, 177] = true := by decide +kernel
theorem dX11_lookAgain_64 : decode cX11_lookAgain 64 = .ok (.aload_n 0, 1) := kt_o42 (j := 0) sX11_lookAgain_64 rfl
theorem dX11_lookAgain_65 : decode cX11_lookAgain 65 = .ok (.getfield 138, 3) := kt_o180 (j := 1) sX11_lookAgain_64 rfl rfl
theorem dX11_lookAgain_68 : decode cX11_lookAgain 68 = .ok (.invokevirtual 129, 3) := kt_o182 (j := 4) sX11_lookAgain_64 rfl rfl
theorem dX11_lookAgain_71 : decode cX11_lookAgain 71 = .ok (.iload_n 1, 1) := kt_o27 (j := 7) sX11_lookAgain_64 rfl
theorem dX11_lookAgain_72 : decode cX11_lookAgain 72 = .ok (.iadd, 1) := kt_o96 (j := 8) sX11_lookAgain_64 rfl
theorem dX11_lookAgain_73 : decode cX11_lookAgain 73 = .ok (.baload, 1) := kt_o51 (j := 9) sX11_lookAgain_64 rfl
theorem dX11_lookAgain_74 : decode cX11_lookAgain 74 = .ok (.iconst (-1), 1) := kt_o2 (j := 10) sX11_lookAgain_64 rfl
theorem dX11_lookAgain_75 : decode cX11_lookAgain 75 = .ok (.if_icmp .ne 7, 3) := kt_o160 (j := 11) sX11_lookAgain_64 rfl (by decide +kernel)
theorem dX11_lookAgain_78 : decode cX11_lookAgain 78 = .ok (.iconst 1, 1) := kt_o4 (j := 14) sX11_lookAgain_64 rfl
theorem dX11_lookAgain_79 : decode cX11_lookAgain 79 = .ok (.goto 4, 3) := kt_o167 (j := 15) sX11_lookAgain_64 rfl (by decide +kernel)
theorem dX11_lookAgain_82 : decode cX11_lookAgain 82 = .ok (.iconst 0, 1) := kt_o3 (j := 18) sX11_lookAgain_64 rfl
theorem dX11_lookAgain_83 : decode cX11_lookAgain 83 = .ok (.bastore, 1) := kt_o84 (j := 19) sX11_lookAgain_64 rfl
theorem dX11_lookAgain_84 : decode cX11_lookAgain 84 = .ok (.aload_n 0, 1) := kt_o42 (j := 20) sX11_lookAgain_64 rfl
theorem dX11_lookAgain_85 : decode cX11_lookAgain 85 = .ok (.getfield 47, 3) := kt_o180 (j := 21) sX11_lookAgain_64 rfl rfl
theorem dX11_lookAgain_88 : decode cX11_lookAgain 88 = .ok (.iload_n 1, 1) := kt_o27 (j := 24) sX11_lookAgain_64 rfl
theorem dX11_lookAgain_89 : decode cX11_lookAgain 89 = .ok (.baload, 1) := kt_o51 (j := 25) sX11_lookAgain_64 rfl
theorem dX11_lookAgain_90 : decode cX11_lookAgain 90 = .ok (.ifCond .eq 13, 3) := kt_o153 (j := 26) sX11_lookAgain_64 rfl (by decide +kernel)
theorem dX11_lookAgain_93 : decode cX11_lookAgain 93 = .ok (.aload_n 0, 1) := kt_o42 (j := 29) sX11_lookAgain_64 rfl
theorem dX11_lookAgain_94 : decode cX11_lookAgain 94 = .ok (.dup, 1) := kt_o89 (j := 30) sX11_lookAgain_64 rfl
theorem dX11_lookAgain_95 : decode cX11_lookAgain 95 = .ok (.getfield 120, 3) := kt_o180 (j := 31) sX11_lookAgain_64 rfl rfl
theorem dX11_lookAgain_98 : decode cX11_lookAgain 98 = .ok (.iconst 1, 1) := kt_o4 (j := 34) sX11_lookAgain_64 rfl
theorem dX11_lookAgain_99 : decode cX11_lookAgain 99 = .ok (.iadd, 1) := kt_o96 (j := 35) sX11_lookAgain_64 rfl
theorem dX11_lookAgain_100 : decode cX11_lookAgain 100 = .ok (.putfield 120, 3) := kt_o181 (j := 36) sX11_lookAgain_64 rfl rfl
theorem dX11_lookAgain_103 : decode cX11_lookAgain 103 = .ok (.iinc 1 1, 3) := kt_o132 (j := 39) sX11_lookAgain_64 rfl (by decide +kernel)
theorem dX11_lookAgain_106 : decode cX11_lookAgain 106 = .ok (.goto (-88), 3) := kt_o167 (j := 42) sX11_lookAgain_64 rfl (by decide +kernel)
theorem dX11_lookAgain_109 : decode cX11_lookAgain 109 = .ok (.return_, 1) := kt_o177 (j := 45) sX11_lookAgain_64 rfl
theorem kt_wp_X11_doMove__X11_doMove_r1 {w : Cond} (h : w ∈ wsX11_doMove_r1) : w ∈ wsX11_doMove := List.mem_cons_of_mem _ (List.mem_append_left _ (List.mem_append_left _ (h)))
theorem kt_wp_X11_doMove__X11_doMove_r2 {w : Cond} (h : w ∈ wsX11_doMove_r2) : w ∈ wsX11_doMove := List.mem_cons_of_mem _ (List.mem_append_left _ (List.mem_append_right _ (List.mem_append_left _ (h))))
theorem kt_wp_X11_doMove__X11_doMove_r3 {w : Cond} (h : w ∈ wsX11_doMove_r3) : w ∈ wsX11_doMove := List.mem_cons_of_mem _ (List.mem_append_left _ (List.mem_append_right _ (List.mem_append_right _ (List.mem_append_left _ (h)))))
theorem kt_wp_X11_doMove__X11_doMove_r4 {w : Cond} (h : w ∈ wsX11_doMove_r4) : w ∈ wsX11_doMove := List.mem_cons_of_mem _ (List.mem_append_left _ (List.mem_append_right _ (List.mem_append_right _ (List.mem_append_right _ (h)))))
theorem kt_wp_X11_doMove__X110 {w : Cond} (h : w ∈ wsX110) : w ∈ wsX11_doMove := List.mem_cons_of_mem _ (List.mem_append_right _ (h))
set_option maxRecDepth 20000 in
theorem ggX11_doMove_X11_make : GoodIn wsX11_doMove wsX11_make := goodIn_sub (kt_wf1 (kt_wp_X11_doMove__X11_doMove_r1 kt_wm11) (kt_wfa (kt_wfa (kt_wf1 (kt_wp_X11_doMove__X11_doMove_r1 kt_wm3) (kt_wf1 (kt_wp_X11_doMove__X11_doMove_r1 kt_wm12) (kt_wf1 (kt_wp_X11_doMove__X11_doMove_r1 kt_wm13) (kt_wf1 (kt_wp_X11_doMove__X11_doMove_r1 kt_wm14) (kt_wf1 (kt_wp_X11_doMove__X11_doMove_r1 kt_wm15) (kt_wf1 (kt_wp_X11_doMove__X11_doMove_r1 kt_wm0) (kt_wf1 (kt_wp_X11_doMove__X11_doMove_r1 kt_wm16) (kt_wf1 (kt_wp_X11_doMove__X11_doMove_r1 kt_wm17) (kt_wf1 (kt_wp_X11_doMove__X11_doMove_r1 kt_wm18) (kt_wf1 (kt_wp_X11_doMove__X11_doMove_r1 kt_wm10) (kt_wf1 (kt_wp_X11_doMove__X11_doMove_r1 kt_wm19) (kt_wf1 (kt_wp_X11_doMove__X11_doMove_r1 kt_wm20) (kt_wf1 (kt_wp_X11_doMove__X11_doMove_r1 kt_wm21) (kt_wf1 (kt_wp_X11_doMove__X11_doMove_r1 kt_wm22) (kt_wf1 (kt_wp_X11_doMove__X11_doMove_r1 kt_wm23) (kt_wf1 (kt_wp_X11_doMove__X11_doMove_r2 kt_wm0) (kt_wf1 (kt_wp_X11_doMove__X11_doMove_r2 kt_wm1) (kt_wf1 (kt_wp_X11_doMove__X11_doMove_r2 kt_wm2) (kt_wf1 (kt_wp_X11_doMove__X11_doMove_r2 kt_wm3) (kt_wf1 (kt_wp_X11_doMove__X11_doMove_r2 kt_wm4) (kt_wf1 (kt_wp_X11_doMove__X11_doMove_r2 kt_wm5) (kt_wf1 (kt_wp_X11_doMove__X11_doMove_r2 kt_wm6) (kt_wf1 (kt_wp_X11_doMove__X11_doMove_r2 kt_wm7) (kt_wf1 (kt_wp_X11_doMove__X11_doMove_r2 kt_wm8) kt_wf0)))))))))))))))))))))))) (kt_wf1 (kt_wp_X11_doMove__X11_doMove_r2 kt_wm9) (kt_wf1 (kt_wp_X11_doMove__X11_doMove_r2 kt_wm10) (kt_wf1 (kt_wp_X11_doMove__X11_doMove_r2 kt_wm11) (kt_wf1 (kt_wp_X11_doMove__X11_doMove_r2 kt_wm12) (kt_wf1 (kt_wp_X11_doMove__X11_doMove_r2 kt_wm13) (kt_wf1 (kt_wp_X11_doMove__X11_doMove_r2 kt_wm14) (kt_wf1 (kt_wp_X11_doMove__X11_doMove_r2 kt_wm15) (kt_wf1 (kt_wp_X11_doMove__X11_doMove_r2 kt_wm16) (kt_wf1 (kt_wp_X11_doMove__X11_doMove_r2 kt_wm17) kt_wf0)))))))))) (fun _ h => kt_wp_X11_doMove__X110 h))) kt_wg_X11_make
set_option maxRecDepth 20000 in
theorem gX11_doMove_X11_make : GoodIn wsX11_doMove (wsV RX11 154 RX11 yX11_make wsX11_make) := goodIn_app (a := [.methodLink RX11 154 yX11_make, .instanceMethod yX11_make, .selects RX11 yX11_make yX11_make, .initialized RX11]) (goodIn_sub (kt_wf1 (kt_wp_X11_doMove__X11_doMove_r1 kt_wm7) (kt_wf1 (kt_wp_X11_doMove__X11_doMove_r1 kt_wm8) (kt_wf1 (kt_wp_X11_doMove__X11_doMove_r1 kt_wm9) (kt_wf1 (kt_wp_X11_doMove__X11_doMove_r1 kt_wm10) kt_wf0)))) (by decide +kernel)) ggX11_doMove_X11_make
set_option maxRecDepth 20000 in
theorem ggX11_doMove_X11_write : GoodIn wsX11_doMove wsX11_write := goodIn_sub (kt_wf1 (kt_wp_X11_doMove__X11_doMove_r2 kt_wm21) (kt_wfa (kt_wf1 (kt_wp_X11_doMove__X11_doMove_r2 kt_wm22) (kt_wf1 (kt_wp_X11_doMove__X11_doMove_r1 kt_wm13) (kt_wf1 (kt_wp_X11_doMove__X11_doMove_r1 kt_wm3) (kt_wf1 (kt_wp_X11_doMove__X11_doMove_r1 kt_wm0) (kt_wf1 (kt_wp_X11_doMove__X11_doMove_r2 kt_wm23) (kt_wf1 (kt_wp_X11_doMove__X11_doMove_r3 kt_wm0) (kt_wf1 (kt_wp_X11_doMove__X11_doMove_r3 kt_wm1) (kt_wf1 (kt_wp_X11_doMove__X11_doMove_r1 kt_wm10) (kt_wf1 (kt_wp_X11_doMove__X11_doMove_r3 kt_wm2) kt_wf0))))))))) (fun _ h => kt_wp_X11_doMove__X110 h))) kt_wg_X11_write
set_option maxRecDepth 20000 in
theorem gX11_doMove_X11_write : GoodIn wsX11_doMove (wsV RX11 144 RX11 yX11_write wsX11_write) := goodIn_app (a := [.methodLink RX11 144 yX11_write, .instanceMethod yX11_write, .selects RX11 yX11_write yX11_write, .initialized RX11]) (goodIn_sub (kt_wf1 (kt_wp_X11_doMove__X11_doMove_r2 kt_wm18) (kt_wf1 (kt_wp_X11_doMove__X11_doMove_r2 kt_wm19) (kt_wf1 (kt_wp_X11_doMove__X11_doMove_r2 kt_wm20) (kt_wf1 (kt_wp_X11_doMove__X11_doMove_r1 kt_wm10) kt_wf0)))) (by decide +kernel)) ggX11_doMove_X11_write
set_option maxRecDepth 20000 in
theorem ggX11_doMove_X11_isGoal : GoodIn wsX11_doMove wsX11_isGoal := goodIn_sub (kt_wf1 (kt_wp_X11_doMove__X11_doMove_r3 kt_wm6) (kt_wfa (kt_wf1 (kt_wp_X11_doMove__X11_doMove_r3 kt_wm7) (kt_wf1 (kt_wp_X11_doMove__X11_doMove_r2 kt_wm17) (kt_wf1 (kt_wp_X11_doMove__X11_doMove_r1 kt_wm20) (kt_wf1 (kt_wp_X11_doMove__X11_doMove_r3 kt_wm8) (kt_wf1 (kt_wp_X11_doMove__X11_doMove_r3 kt_wm9) (kt_wf1 (kt_wp_X11_doMove__X11_doMove_r3 kt_wm10) (kt_wf1 (kt_wp_X11_doMove__X11_doMove_r1 kt_wm10) (kt_wf1 (kt_wp_X11_doMove__X11_doMove_r3 kt_wm11) (kt_wf1 (kt_wp_X11_doMove__X11_doMove_r1 kt_wm21) kt_wf0))))))))) (fun _ h => kt_wp_X11_doMove__X110 h))) kt_wg_X11_isGoal
set_option maxRecDepth 20000 in
theorem gX11_doMove_X11_isGoal : GoodIn wsX11_doMove (wsV RX11 148 RX11 yX11_isGoal wsX11_isGoal) := goodIn_app (a := [.methodLink RX11 148 yX11_isGoal, .instanceMethod yX11_isGoal, .selects RX11 yX11_isGoal yX11_isGoal, .initialized RX11]) (goodIn_sub (kt_wf1 (kt_wp_X11_doMove__X11_doMove_r3 kt_wm3) (kt_wf1 (kt_wp_X11_doMove__X11_doMove_r3 kt_wm4) (kt_wf1 (kt_wp_X11_doMove__X11_doMove_r3 kt_wm5) (kt_wf1 (kt_wp_X11_doMove__X11_doMove_r1 kt_wm10) kt_wf0)))) (by decide +kernel)) ggX11_doMove_X11_isGoal
set_option maxRecDepth 20000 in
theorem ggX11_doMove_X11_canGo : GoodIn wsX11_doMove wsX11_canGo := goodIn_sub (kt_wf1 (kt_wp_X11_doMove__X11_doMove_r3 kt_wm15) (kt_wfa (kt_wfa (kt_wf1 (kt_wp_X11_doMove__X11_doMove_r1 kt_wm13) (kt_wf1 (kt_wp_X11_doMove__X11_doMove_r2 kt_wm4) (kt_wf1 (kt_wp_X11_doMove__X11_doMove_r2 kt_wm5) (kt_wf1 (kt_wp_X11_doMove__X11_doMove_r2 kt_wm6) (kt_wf1 (kt_wp_X11_doMove__X11_doMove_r1 kt_wm10) (kt_wf1 (kt_wp_X11_doMove__X11_doMove_r2 kt_wm7) (kt_wf1 (kt_wp_X11_doMove__X11_doMove_r2 kt_wm2) (kt_wf1 (kt_wp_X11_doMove__X11_doMove_r3 kt_wm16) (kt_wf1 (kt_wp_X11_doMove__X11_doMove_r3 kt_wm17) (kt_wf1 (kt_wp_X11_doMove__X11_doMove_r3 kt_wm18) (kt_wf1 (kt_wp_X11_doMove__X11_doMove_r3 kt_wm19) (kt_wf1 (kt_wp_X11_doMove__X11_doMove_r1 kt_wm3) (kt_wf1 (kt_wp_X11_doMove__X11_doMove_r3 kt_wm20) (kt_wf1 (kt_wp_X11_doMove__X11_doMove_r3 kt_wm21) (kt_wf1 (kt_wp_X11_doMove__X11_doMove_r3 kt_wm22) (kt_wf1 (kt_wp_X11_doMove__X11_doMove_r3 kt_wm23) (kt_wf1 (kt_wp_X11_doMove__X11_doMove_r4 kt_wm0) (kt_wf1 (kt_wp_X11_doMove__X11_doMove_r1 kt_wm12) (kt_wf1 (kt_wp_X11_doMove__X11_doMove_r1 kt_wm16) (kt_wf1 (kt_wp_X11_doMove__X11_doMove_r1 kt_wm17) (kt_wf1 (kt_wp_X11_doMove__X11_doMove_r1 kt_wm18) (kt_wf1 (kt_wp_X11_doMove__X11_doMove_r1 kt_wm19) (kt_wf1 (kt_wp_X11_doMove__X11_doMove_r1 kt_wm20) (kt_wf1 (kt_wp_X11_doMove__X11_doMove_r1 kt_wm21) kt_wf0)))))))))))))))))))))))) (kt_wf1 (kt_wp_X11_doMove__X11_doMove_r4 kt_wm1) (kt_wf1 (kt_wp_X11_doMove__X11_doMove_r4 kt_wm2) (kt_wf1 (kt_wp_X11_doMove__X11_doMove_r4 kt_wm3) (kt_wf1 (kt_wp_X11_doMove__X11_doMove_r4 kt_wm4) (kt_wf1 (kt_wp_X11_doMove__X11_doMove_r2 kt_wm17) kt_wf0)))))) (fun _ h => kt_wp_X11_doMove__X110 h))) kt_wg_X11_canGo
set_option maxRecDepth 20000 in
theorem gX11_doMove_X11_canGo : GoodIn wsX11_doMove (wsV RX11 151 RX11 yX11_canGo wsX11_canGo) := goodIn_app (a := [.methodLink RX11 151 yX11_canGo, .instanceMethod yX11_canGo, .selects RX11 yX11_canGo yX11_canGo, .initialized RX11]) (goodIn_sub (kt_wf1 (kt_wp_X11_doMove__X11_doMove_r3 kt_wm12) (kt_wf1 (kt_wp_X11_doMove__X11_doMove_r3 kt_wm13) (kt_wf1 (kt_wp_X11_doMove__X11_doMove_r3 kt_wm14) (kt_wf1 (kt_wp_X11_doMove__X11_doMove_r1 kt_wm10) kt_wf0)))) (by decide +kernel)) ggX11_doMove_X11_canGo
set_option maxRecDepth 20000 in
theorem ggX11_doMove_X11_cameBack : GoodIn wsX11_doMove wsX11_cameBack := goodIn_sub (kt_wf1 (kt_wp_X11_doMove__X11_doMove_r4 kt_wm8) (kt_wfa (kt_wf1 (kt_wp_X11_doMove__X11_doMove_r4 kt_wm9) (kt_wf1 (kt_wp_X11_doMove__X11_doMove_r4 kt_wm10) (kt_wf1 (kt_wp_X11_doMove__X11_doMove_r4 kt_wm11) (kt_wf1 (kt_wp_X11_doMove__X11_doMove_r1 kt_wm10) (kt_wf1 (kt_wp_X11_doMove__X11_doMove_r4 kt_wm12) (kt_wf1 (kt_wp_X11_doMove__X11_doMove_r2 kt_wm22) (kt_wf1 (kt_wp_X11_doMove__X11_doMove_r2 kt_wm23) (kt_wf1 (kt_wp_X11_doMove__X11_doMove_r3 kt_wm0) (kt_wf1 (kt_wp_X11_doMove__X11_doMove_r3 kt_wm1) (kt_wf1 (kt_wp_X11_doMove__X11_doMove_r3 kt_wm2) kt_wf0)))))))))) (fun _ h => kt_wp_X11_doMove__X110 h))) kt_wg_X11_cameBack
set_option maxRecDepth 20000 in
theorem gX11_doMove_X11_cameBack : GoodIn wsX11_doMove (wsV RX11 158 RX11 yX11_cameBack wsX11_cameBack) := goodIn_app (a := [.methodLink RX11 158 yX11_cameBack, .instanceMethod yX11_cameBack, .selects RX11 yX11_cameBack yX11_cameBack, .initialized RX11]) (goodIn_sub (kt_wf1 (kt_wp_X11_doMove__X11_doMove_r4 kt_wm5) (kt_wf1 (kt_wp_X11_doMove__X11_doMove_r4 kt_wm6) (kt_wf1 (kt_wp_X11_doMove__X11_doMove_r4 kt_wm7) (kt_wf1 (kt_wp_X11_doMove__X11_doMove_r1 kt_wm10) kt_wf0)))) (by decide +kernel)) ggX11_doMove_X11_cameBack
theorem sX11_doMove_0 : kt_sg cX11_doMove 0 [42, 180, 0, 126, 61, 42, 27, 16, 32, 108, 27, 16, 8, 108, 7, 112, 27, 16, 8, 112, 4, 96, 182, 0, 154, 42, 180, 0, 39, 42, 180, 0, 138, 27, 79, 42, 89, 180, 0, 138, 4, 96, 181, 0, 138, 42, 42, 180, 0, 138, 182, 0, 144, 42, 180, 0, 30, 42, 180, 0, 135, 46, 2, 160, 0, 11] = true := by decide +kernel
theorem dX11_doMove_0 : decode cX11_doMove 0 = .ok (.aload_n 0, 1) := kt_o42 (j := 0) sX11_doMove_0 rfl
theorem dX11_doMove_1 : decode cX11_doMove 1 = .ok (.getfield 126, 3) := kt_o180 (j := 1) sX11_doMove_0 rfl rfl
theorem dX11_doMove_4 : decode cX11_doMove 4 = .ok (.istore_n 2, 1) := kt_o61 (j := 4) sX11_doMove_0 rfl
theorem dX11_doMove_5 : decode cX11_doMove 5 = .ok (.aload_n 0, 1) := kt_o42 (j := 5) sX11_doMove_0 rfl
theorem dX11_doMove_6 : decode cX11_doMove 6 = .ok (.iload_n 1, 1) := kt_o27 (j := 6) sX11_doMove_0 rfl
theorem dX11_doMove_7 : decode cX11_doMove 7 = .ok (.bipush 32, 2) := kt_o16 (j := 7) sX11_doMove_0 rfl (by decide +kernel)
theorem dX11_doMove_9 : decode cX11_doMove 9 = .ok (.idiv, 1) := kt_o108 (j := 9) sX11_doMove_0 rfl
theorem dX11_doMove_10 : decode cX11_doMove 10 = .ok (.iload_n 1, 1) := kt_o27 (j := 10) sX11_doMove_0 rfl
theorem dX11_doMove_11 : decode cX11_doMove 11 = .ok (.bipush 8, 2) := kt_o16 (j := 11) sX11_doMove_0 rfl (by decide +kernel)
theorem dX11_doMove_13 : decode cX11_doMove 13 = .ok (.idiv, 1) := kt_o108 (j := 13) sX11_doMove_0 rfl
theorem dX11_doMove_14 : decode cX11_doMove 14 = .ok (.iconst 4, 1) := kt_o7 (j := 14) sX11_doMove_0 rfl
theorem dX11_doMove_15 : decode cX11_doMove 15 = .ok (.irem, 1) := kt_o112 (j := 15) sX11_doMove_0 rfl
theorem dX11_doMove_16 : decode cX11_doMove 16 = .ok (.iload_n 1, 1) := kt_o27 (j := 16) sX11_doMove_0 rfl
theorem dX11_doMove_17 : decode cX11_doMove 17 = .ok (.bipush 8, 2) := kt_o16 (j := 17) sX11_doMove_0 rfl (by decide +kernel)
theorem dX11_doMove_19 : decode cX11_doMove 19 = .ok (.irem, 1) := kt_o112 (j := 19) sX11_doMove_0 rfl
theorem dX11_doMove_20 : decode cX11_doMove 20 = .ok (.iconst 1, 1) := kt_o4 (j := 20) sX11_doMove_0 rfl
theorem dX11_doMove_21 : decode cX11_doMove 21 = .ok (.iadd, 1) := kt_o96 (j := 21) sX11_doMove_0 rfl
theorem dX11_doMove_22 : decode cX11_doMove 22 = .ok (.invokevirtual 154, 3) := kt_o182 (j := 22) sX11_doMove_0 rfl rfl
theorem dX11_doMove_25 : decode cX11_doMove 25 = .ok (.aload_n 0, 1) := kt_o42 (j := 25) sX11_doMove_0 rfl
theorem dX11_doMove_26 : decode cX11_doMove 26 = .ok (.getfield 39, 3) := kt_o180 (j := 26) sX11_doMove_0 rfl rfl
theorem dX11_doMove_29 : decode cX11_doMove 29 = .ok (.aload_n 0, 1) := kt_o42 (j := 29) sX11_doMove_0 rfl
theorem dX11_doMove_30 : decode cX11_doMove 30 = .ok (.getfield 138, 3) := kt_o180 (j := 30) sX11_doMove_0 rfl rfl
theorem dX11_doMove_33 : decode cX11_doMove 33 = .ok (.iload_n 1, 1) := kt_o27 (j := 33) sX11_doMove_0 rfl
theorem dX11_doMove_34 : decode cX11_doMove 34 = .ok (.iastore, 1) := kt_o79 (j := 34) sX11_doMove_0 rfl
theorem dX11_doMove_35 : decode cX11_doMove 35 = .ok (.aload_n 0, 1) := kt_o42 (j := 35) sX11_doMove_0 rfl
theorem dX11_doMove_36 : decode cX11_doMove 36 = .ok (.dup, 1) := kt_o89 (j := 36) sX11_doMove_0 rfl
theorem dX11_doMove_37 : decode cX11_doMove 37 = .ok (.getfield 138, 3) := kt_o180 (j := 37) sX11_doMove_0 rfl rfl
theorem dX11_doMove_40 : decode cX11_doMove 40 = .ok (.iconst 1, 1) := kt_o4 (j := 40) sX11_doMove_0 rfl
theorem dX11_doMove_41 : decode cX11_doMove 41 = .ok (.iadd, 1) := kt_o96 (j := 41) sX11_doMove_0 rfl
theorem dX11_doMove_42 : decode cX11_doMove 42 = .ok (.putfield 138, 3) := kt_o181 (j := 42) sX11_doMove_0 rfl rfl
theorem dX11_doMove_45 : decode cX11_doMove 45 = .ok (.aload_n 0, 1) := kt_o42 (j := 45) sX11_doMove_0 rfl
theorem dX11_doMove_46 : decode cX11_doMove 46 = .ok (.aload_n 0, 1) := kt_o42 (j := 46) sX11_doMove_0 rfl
theorem dX11_doMove_47 : decode cX11_doMove 47 = .ok (.getfield 138, 3) := kt_o180 (j := 47) sX11_doMove_0 rfl rfl
theorem dX11_doMove_50 : decode cX11_doMove 50 = .ok (.invokevirtual 144, 3) := kt_o182 (j := 50) sX11_doMove_0 rfl rfl
theorem dX11_doMove_53 : decode cX11_doMove 53 = .ok (.aload_n 0, 1) := kt_o42 (j := 53) sX11_doMove_0 rfl
theorem dX11_doMove_54 : decode cX11_doMove 54 = .ok (.getfield 30, 3) := kt_o180 (j := 54) sX11_doMove_0 rfl rfl
theorem dX11_doMove_57 : decode cX11_doMove 57 = .ok (.aload_n 0, 1) := kt_o42 (j := 57) sX11_doMove_0 rfl
theorem dX11_doMove_58 : decode cX11_doMove 58 = .ok (.getfield 135, 3) := kt_o180 (j := 58) sX11_doMove_0 rfl rfl
theorem dX11_doMove_61 : decode cX11_doMove 61 = .ok (.iaload, 1) := kt_o46 (j := 61) sX11_doMove_0 rfl
theorem dX11_doMove_62 : decode cX11_doMove 62 = .ok (.iconst (-1), 1) := kt_o2 (j := 62) sX11_doMove_0 rfl
theorem dX11_doMove_63 : decode cX11_doMove 63 = .ok (.if_icmp .ne 11, 3) := kt_o160 (j := 63) sX11_doMove_0 rfl (by decide +kernel)
theorem sX11_doMove_66 : kt_sg cX11_doMove 66 [42, 6, 181, 0, 73, 167, 0, 78, 28, 154, 0, 27, 42, 42, 180, 0, 30, 42, 180, 0, 135, 46, 182, 0, 148, 153, 0, 11, 42, 5, 181, 0, 73, 167, 0, 50, 42, 42, 180, 0, 126, 182, 0, 151, 154, 0, 16, 42, 6, 42, 180, 0, 126, 100, 181, 0, 73, 167, 0, 26, 42, 180, 0, 85] = true := by decide +kernel
theorem dX11_doMove_66 : decode cX11_doMove 66 = .ok (.aload_n 0, 1) := kt_o42 (j := 0) sX11_doMove_66 rfl
theorem dX11_doMove_67 : decode cX11_doMove 67 = .ok (.iconst 3, 1) := kt_o6 (j := 1) sX11_doMove_66 rfl
theorem dX11_doMove_68 : decode cX11_doMove 68 = .ok (.putfield 73, 3) := kt_o181 (j := 2) sX11_doMove_66 rfl rfl
theorem dX11_doMove_71 : decode cX11_doMove 71 = .ok (.goto 78, 3) := kt_o167 (j := 5) sX11_doMove_66 rfl (by decide +kernel)
theorem dX11_doMove_74 : decode cX11_doMove 74 = .ok (.iload_n 2, 1) := kt_o28 (j := 8) sX11_doMove_66 rfl
theorem dX11_doMove_75 : decode cX11_doMove 75 = .ok (.ifCond .ne 27, 3) := kt_o154 (j := 9) sX11_doMove_66 rfl (by decide +kernel)
theorem dX11_doMove_78 : decode cX11_doMove 78 = .ok (.aload_n 0, 1) := kt_o42 (j := 12) sX11_doMove_66 rfl
theorem dX11_doMove_79 : decode cX11_doMove 79 = .ok (.aload_n 0, 1) := kt_o42 (j := 13) sX11_doMove_66 rfl
theorem dX11_doMove_80 : decode cX11_doMove 80 = .ok (.getfield 30, 3) := kt_o180 (j := 14) sX11_doMove_66 rfl rfl
theorem dX11_doMove_83 : decode cX11_doMove 83 = .ok (.aload_n 0, 1) := kt_o42 (j := 17) sX11_doMove_66 rfl
theorem dX11_doMove_84 : decode cX11_doMove 84 = .ok (.getfield 135, 3) := kt_o180 (j := 18) sX11_doMove_66 rfl rfl
theorem dX11_doMove_87 : decode cX11_doMove 87 = .ok (.iaload, 1) := kt_o46 (j := 21) sX11_doMove_66 rfl
theorem dX11_doMove_88 : decode cX11_doMove 88 = .ok (.invokevirtual 148, 3) := kt_o182 (j := 22) sX11_doMove_66 rfl rfl
theorem dX11_doMove_91 : decode cX11_doMove 91 = .ok (.ifCond .eq 11, 3) := kt_o153 (j := 25) sX11_doMove_66 rfl (by decide +kernel)
theorem dX11_doMove_94 : decode cX11_doMove 94 = .ok (.aload_n 0, 1) := kt_o42 (j := 28) sX11_doMove_66 rfl
theorem dX11_doMove_95 : decode cX11_doMove 95 = .ok (.iconst 2, 1) := kt_o5 (j := 29) sX11_doMove_66 rfl
theorem dX11_doMove_96 : decode cX11_doMove 96 = .ok (.putfield 73, 3) := kt_o181 (j := 30) sX11_doMove_66 rfl rfl
theorem dX11_doMove_99 : decode cX11_doMove 99 = .ok (.goto 50, 3) := kt_o167 (j := 33) sX11_doMove_66 rfl (by decide +kernel)
theorem dX11_doMove_102 : decode cX11_doMove 102 = .ok (.aload_n 0, 1) := kt_o42 (j := 36) sX11_doMove_66 rfl
theorem dX11_doMove_103 : decode cX11_doMove 103 = .ok (.aload_n 0, 1) := kt_o42 (j := 37) sX11_doMove_66 rfl
theorem dX11_doMove_104 : decode cX11_doMove 104 = .ok (.getfield 126, 3) := kt_o180 (j := 38) sX11_doMove_66 rfl rfl
theorem dX11_doMove_107 : decode cX11_doMove 107 = .ok (.invokevirtual 151, 3) := kt_o182 (j := 41) sX11_doMove_66 rfl rfl
theorem dX11_doMove_110 : decode cX11_doMove 110 = .ok (.ifCond .ne 16, 3) := kt_o154 (j := 44) sX11_doMove_66 rfl (by decide +kernel)
theorem dX11_doMove_113 : decode cX11_doMove 113 = .ok (.aload_n 0, 1) := kt_o42 (j := 47) sX11_doMove_66 rfl
theorem dX11_doMove_114 : decode cX11_doMove 114 = .ok (.iconst 3, 1) := kt_o6 (j := 48) sX11_doMove_66 rfl
theorem dX11_doMove_115 : decode cX11_doMove 115 = .ok (.aload_n 0, 1) := kt_o42 (j := 49) sX11_doMove_66 rfl
theorem dX11_doMove_116 : decode cX11_doMove 116 = .ok (.getfield 126, 3) := kt_o180 (j := 50) sX11_doMove_66 rfl rfl
theorem dX11_doMove_119 : decode cX11_doMove 119 = .ok (.isub, 1) := kt_o100 (j := 53) sX11_doMove_66 rfl
theorem dX11_doMove_120 : decode cX11_doMove 120 = .ok (.putfield 73, 3) := kt_o181 (j := 54) sX11_doMove_66 rfl rfl
theorem dX11_doMove_123 : decode cX11_doMove 123 = .ok (.goto 26, 3) := kt_o167 (j := 57) sX11_doMove_66 rfl (by decide +kernel)
theorem dX11_doMove_126 : decode cX11_doMove 126 = .ok (.aload_n 0, 1) := kt_o42 (j := 60) sX11_doMove_66 rfl
theorem dX11_doMove_127 : decode cX11_doMove 127 = .ok (.getfield 85, 3) := kt_o180 (j := 61) sX11_doMove_66 rfl rfl
theorem sX11_doMove_130 : kt_sg cX11_doMove 130 [154, 0, 19, 42, 42, 180, 0, 138, 182, 0, 158, 153, 0, 8, 42, 7, 181, 0, 73, 177] = true := by decide +kernel
theorem dX11_doMove_130 : decode cX11_doMove 130 = .ok (.ifCond .ne 19, 3) := kt_o154 (j := 0) sX11_doMove_130 rfl (by decide +kernel)
theorem dX11_doMove_133 : decode cX11_doMove 133 = .ok (.aload_n 0, 1) := kt_o42 (j := 3) sX11_doMove_130 rfl
theorem dX11_doMove_134 : decode cX11_doMove 134 = .ok (.aload_n 0, 1) := kt_o42 (j := 4) sX11_doMove_130 rfl
theorem dX11_doMove_135 : decode cX11_doMove 135 = .ok (.getfield 138, 3) := kt_o180 (j := 5) sX11_doMove_130 rfl rfl
theorem dX11_doMove_138 : decode cX11_doMove 138 = .ok (.invokevirtual 158, 3) := kt_o182 (j := 8) sX11_doMove_130 rfl rfl
theorem dX11_doMove_141 : decode cX11_doMove 141 = .ok (.ifCond .eq 8, 3) := kt_o153 (j := 11) sX11_doMove_130 rfl (by decide +kernel)
theorem dX11_doMove_144 : decode cX11_doMove 144 = .ok (.aload_n 0, 1) := kt_o42 (j := 14) sX11_doMove_130 rfl
theorem dX11_doMove_145 : decode cX11_doMove 145 = .ok (.iconst 4, 1) := kt_o7 (j := 15) sX11_doMove_130 rfl
theorem dX11_doMove_146 : decode cX11_doMove 146 = .ok (.putfield 73, 3) := kt_o181 (j := 16) sX11_doMove_130 rfl rfl
theorem dX11_doMove_149 : decode cX11_doMove 149 = .ok (.return_, 1) := kt_o177 (j := 19) sX11_doMove_130 rfl
theorem kt_wp_X11_go__X11_go_r1 {w : Cond} (h : w ∈ wsX11_go_r1) : w ∈ wsX11_go := List.mem_cons_of_mem _ (List.mem_append_left _ (List.mem_append_left _ (h)))
theorem kt_wp_X11_go__X11_go_r2 {w : Cond} (h : w ∈ wsX11_go_r2) : w ∈ wsX11_go := List.mem_cons_of_mem _ (List.mem_append_left _ (List.mem_append_right _ (List.mem_append_left _ (h))))
theorem kt_wp_X11_go__X11_go_r3 {w : Cond} (h : w ∈ wsX11_go_r3) : w ∈ wsX11_go := List.mem_cons_of_mem _ (List.mem_append_left _ (List.mem_append_right _ (List.mem_append_right _ (List.mem_append_left _ (h)))))
theorem kt_wp_X11_go__X11_go_r4 {w : Cond} (h : w ∈ wsX11_go_r4) : w ∈ wsX11_go := List.mem_cons_of_mem _ (List.mem_append_left _ (List.mem_append_right _ (List.mem_append_right _ (List.mem_append_right _ (List.mem_append_left _ (h))))))
theorem kt_wp_X11_go__X11_go_r5 {w : Cond} (h : w ∈ wsX11_go_r5) : w ∈ wsX11_go := List.mem_cons_of_mem _ (List.mem_append_left _ (List.mem_append_right _ (List.mem_append_right _ (List.mem_append_right _ (List.mem_append_right _ (h))))))
theorem kt_wp_X11_go__X110 {w : Cond} (h : w ∈ wsX110) : w ∈ wsX11_go := List.mem_cons_of_mem _ (List.mem_append_right _ (h))
set_option maxRecDepth 20000 in
theorem kt_wg_X11_why : wsX11_why.all goodWord = true := by decide +kernel
set_option maxRecDepth 20000 in
theorem ggX11_go_X11_why : GoodIn wsX11_go wsX11_why := goodIn_sub (kt_wf1 (kt_wp_X11_go__X11_go_r1 kt_wm6) (kt_wfa (kt_wfa (kt_wf1 (kt_wp_X11_go__X11_go_r1 kt_wm7) (kt_wf1 (kt_wp_X11_go__X11_go_r1 kt_wm8) (kt_wf1 (kt_wp_X11_go__X11_go_r1 kt_wm9) (kt_wf1 (kt_wp_X11_go__X11_go_r1 kt_wm10) (kt_wf1 (kt_wp_X11_go__X11_go_r1 kt_wm11) (kt_wf1 (kt_wp_X11_go__X11_go_r1 kt_wm12) (kt_wf1 (kt_wp_X11_go__X11_go_r1 kt_wm13) (kt_wf1 (kt_wp_X11_go__X11_go_r1 kt_wm14) (kt_wf1 (kt_wp_X11_go__X11_go_r1 kt_wm5) (kt_wf1 (kt_wp_X11_go__X11_go_r1 kt_wm15) (kt_wf1 (kt_wp_X11_go__X11_go_r1 kt_wm16) (kt_wf1 (kt_wp_X11_go__X11_go_r1 kt_wm17) (kt_wf1 (kt_wp_X11_go__X11_go_r1 kt_wm18) (kt_wf1 (kt_wp_X11_go__X11_go_r1 kt_wm19) (kt_wf1 (kt_wp_X11_go__X11_go_r1 kt_wm20) (kt_wf1 (kt_wp_X11_go__X11_go_r1 kt_wm21) (kt_wf1 (kt_wp_X11_go__X11_go_r1 kt_wm22) (kt_wf1 (kt_wp_X11_go__X11_go_r1 kt_wm23) (kt_wf1 (kt_wp_X11_go__X11_go_r2 kt_wm0) (kt_wf1 (kt_wp_X11_go__X11_go_r2 kt_wm1) (kt_wf1 (kt_wp_X11_go__X11_go_r2 kt_wm2) (kt_wf1 (kt_wp_X11_go__X11_go_r2 kt_wm3) (kt_wf1 (kt_wp_X11_go__X11_go_r2 kt_wm4) (kt_wf1 (kt_wp_X11_go__X11_go_r2 kt_wm5) kt_wf0)))))))))))))))))))))))) (kt_wfa (kt_wf1 (kt_wp_X11_go__X11_go_r2 kt_wm6) (kt_wf1 (kt_wp_X11_go__X11_go_r2 kt_wm7) (kt_wf1 (kt_wp_X11_go__X11_go_r2 kt_wm8) (kt_wf1 (kt_wp_X11_go__X11_go_r2 kt_wm9) (kt_wf1 (kt_wp_X11_go__X11_go_r2 kt_wm10) (kt_wf1 (kt_wp_X11_go__X11_go_r2 kt_wm11) (kt_wf1 (kt_wp_X11_go__X11_go_r2 kt_wm12) (kt_wf1 (kt_wp_X11_go__X11_go_r2 kt_wm13) (kt_wf1 (kt_wp_X11_go__X11_go_r2 kt_wm14) (kt_wf1 (kt_wp_X11_go__X11_go_r2 kt_wm15) (kt_wf1 (kt_wp_X11_go__X11_go_r2 kt_wm16) (kt_wf1 (kt_wp_X11_go__X11_go_r2 kt_wm17) (kt_wf1 (kt_wp_X11_go__X11_go_r2 kt_wm18) (kt_wf1 (kt_wp_X11_go__X11_go_r1 kt_wm1) (kt_wf1 (kt_wp_X11_go__X11_go_r2 kt_wm19) (kt_wf1 (kt_wp_X11_go__X11_go_r2 kt_wm20) (kt_wf1 (kt_wp_X11_go__X11_go_r2 kt_wm21) (kt_wf1 (kt_wp_X11_go__X11_go_r2 kt_wm22) (kt_wf1 (kt_wp_X11_go__X11_go_r2 kt_wm23) (kt_wf1 (kt_wp_X11_go__X11_go_r3 kt_wm0) (kt_wf1 (kt_wp_X11_go__X11_go_r3 kt_wm1) (kt_wf1 (kt_wp_X11_go__X11_go_r3 kt_wm2) (kt_wf1 (kt_wp_X11_go__X11_go_r3 kt_wm3) (kt_wf1 (kt_wp_X11_go__X11_go_r3 kt_wm4) kt_wf0)))))))))))))))))))))))) (kt_wfa (kt_wf1 (kt_wp_X11_go__X11_go_r3 kt_wm5) (kt_wf1 (kt_wp_X11_go__X11_go_r3 kt_wm6) (kt_wf1 (kt_wp_X11_go__X11_go_r3 kt_wm7) (kt_wf1 (kt_wp_X11_go__X11_go_r3 kt_wm8) (kt_wf1 (kt_wp_X11_go__X11_go_r3 kt_wm9) (kt_wf1 (kt_wp_X11_go__X11_go_r3 kt_wm10) (kt_wf1 (kt_wp_X11_go__X11_go_r3 kt_wm11) (kt_wf1 (kt_wp_X11_go__X11_go_r3 kt_wm12) (kt_wf1 (kt_wp_X11_go__X11_go_r3 kt_wm13) (kt_wf1 (kt_wp_X11_go__X11_go_r3 kt_wm14) (kt_wf1 (kt_wp_X11_go__X11_go_r3 kt_wm15) (kt_wf1 (kt_wp_X11_go__X11_go_r3 kt_wm16) (kt_wf1 (kt_wp_X11_go__X11_go_r3 kt_wm17) (kt_wf1 (kt_wp_X11_go__X11_go_r3 kt_wm18) (kt_wf1 (kt_wp_X11_go__X11_go_r3 kt_wm19) (kt_wf1 (kt_wp_X11_go__X11_go_r3 kt_wm20) (kt_wf1 (kt_wp_X11_go__X11_go_r3 kt_wm21) (kt_wf1 (kt_wp_X11_go__X11_go_r3 kt_wm22) (kt_wf1 (kt_wp_X11_go__X11_go_r3 kt_wm23) (kt_wf1 (kt_wp_X11_go__X11_go_r4 kt_wm0) (kt_wf1 (kt_wp_X11_go__X11_go_r4 kt_wm1) (kt_wf1 (kt_wp_X11_go__X11_go_r4 kt_wm2) (kt_wf1 (kt_wp_X11_go__X11_go_r4 kt_wm3) (kt_wf1 (kt_wp_X11_go__X11_go_r4 kt_wm4) kt_wf0)))))))))))))))))))))))) (kt_wf1 (kt_wp_X11_go__X11_go_r4 kt_wm5) (kt_wf1 (kt_wp_X11_go__X11_go_r4 kt_wm6) (kt_wf1 (kt_wp_X11_go__X11_go_r4 kt_wm7) (kt_wf1 (kt_wp_X11_go__X11_go_r4 kt_wm8) (kt_wf1 (kt_wp_X11_go__X11_go_r4 kt_wm9) kt_wf0)))))))) (fun _ h => kt_wp_X11_go__X110 h))) kt_wg_X11_why
set_option maxRecDepth 20000 in
theorem gX11_go_X11_why : GoodIn wsX11_go (wsV RX11 167 RX11 yX11_why wsX11_why) := goodIn_app (a := [.methodLink RX11 167 yX11_why, .instanceMethod yX11_why, .selects RX11 yX11_why yX11_why, .initialized RX11]) (goodIn_sub (kt_wf1 (kt_wp_X11_go__X11_go_r1 kt_wm2) (kt_wf1 (kt_wp_X11_go__X11_go_r1 kt_wm3) (kt_wf1 (kt_wp_X11_go__X11_go_r1 kt_wm4) (kt_wf1 (kt_wp_X11_go__X11_go_r1 kt_wm5) kt_wf0)))) (by decide +kernel)) ggX11_go_X11_why
set_option maxRecDepth 20000 in
theorem kt_wg_X11_doMove : wsX11_doMove.all goodWord = true := by decide +kernel
set_option maxRecDepth 20000 in
theorem ggX11_go_X11_doMove : GoodIn wsX11_go wsX11_doMove := goodIn_sub (kt_wf1 (kt_wp_X11_go__X11_go_r4 kt_wm13) (kt_wfa (kt_wfa (kt_wf1 (kt_wp_X11_go__X11_go_r1 kt_wm10) (kt_wf1 (kt_wp_X11_go__X11_go_r4 kt_wm14) (kt_wf1 (kt_wp_X11_go__X11_go_r1 kt_wm12) (kt_wf1 (kt_wp_X11_go__X11_go_r1 kt_wm9) (kt_wf1 (kt_wp_X11_go__X11_go_r4 kt_wm15) (kt_wf1 (kt_wp_X11_go__X11_go_r1 kt_wm7) (kt_wf1 (kt_wp_X11_go__X11_go_r1 kt_wm11) (kt_wf1 (kt_wp_X11_go__X11_go_r2 kt_wm14) (kt_wf1 (kt_wp_X11_go__X11_go_r2 kt_wm15) (kt_wf1 (kt_wp_X11_go__X11_go_r2 kt_wm16) (kt_wf1 (kt_wp_X11_go__X11_go_r1 kt_wm5) (kt_wf1 (kt_wp_X11_go__X11_go_r2 kt_wm17) (kt_wf1 (kt_wp_X11_go__X11_go_r2 kt_wm2) (kt_wf1 (kt_wp_X11_go__X11_go_r1 kt_wm8) (kt_wf1 (kt_wp_X11_go__X11_go_r2 kt_wm18) (kt_wf1 (kt_wp_X11_go__X11_go_r1 kt_wm1) (kt_wf1 (kt_wp_X11_go__X11_go_r2 kt_wm3) (kt_wf1 (kt_wp_X11_go__X11_go_r2 kt_wm4) (kt_wf1 (kt_wp_X11_go__X11_go_r2 kt_wm5) (kt_wf1 (kt_wp_X11_go__X11_go_r2 kt_wm6) (kt_wf1 (kt_wp_X11_go__X11_go_r2 kt_wm7) (kt_wf1 (kt_wp_X11_go__X11_go_r2 kt_wm8) (kt_wf1 (kt_wp_X11_go__X11_go_r2 kt_wm19) (kt_wf1 (kt_wp_X11_go__X11_go_r2 kt_wm20) kt_wf0)))))))))))))))))))))))) (kt_wfa (kt_wf1 (kt_wp_X11_go__X11_go_r2 kt_wm21) (kt_wf1 (kt_wp_X11_go__X11_go_r2 kt_wm22) (kt_wf1 (kt_wp_X11_go__X11_go_r1 kt_wm20) (kt_wf1 (kt_wp_X11_go__X11_go_r2 kt_wm23) (kt_wf1 (kt_wp_X11_go__X11_go_r1 kt_wm16) (kt_wf1 (kt_wp_X11_go__X11_go_r1 kt_wm17) (kt_wf1 (kt_wp_X11_go__X11_go_r1 kt_wm18) (kt_wf1 (kt_wp_X11_go__X11_go_r1 kt_wm19) (kt_wf1 (kt_wp_X11_go__X11_go_r3 kt_wm0) (kt_wf1 (kt_wp_X11_go__X11_go_r3 kt_wm1) (kt_wf1 (kt_wp_X11_go__X11_go_r3 kt_wm2) (kt_wf1 (kt_wp_X11_go__X11_go_r3 kt_wm3) (kt_wf1 (kt_wp_X11_go__X11_go_r3 kt_wm4) (kt_wf1 (kt_wp_X11_go__X11_go_r3 kt_wm5) (kt_wf1 (kt_wp_X11_go__X11_go_r3 kt_wm6) (kt_wf1 (kt_wp_X11_go__X11_go_r3 kt_wm7) (kt_wf1 (kt_wp_X11_go__X11_go_r3 kt_wm8) (kt_wf1 (kt_wp_X11_go__X11_go_r2 kt_wm13) (kt_wf1 (kt_wp_X11_go__X11_go_r3 kt_wm9) (kt_wf1 (kt_wp_X11_go__X11_go_r3 kt_wm10) (kt_wf1 (kt_wp_X11_go__X11_go_r3 kt_wm11) (kt_wf1 (kt_wp_X11_go__X11_go_r3 kt_wm12) (kt_wf1 (kt_wp_X11_go__X11_go_r3 kt_wm13) (kt_wf1 (kt_wp_X11_go__X11_go_r3 kt_wm14) kt_wf0)))))))))))))))))))))))) (kt_wfa (kt_wf1 (kt_wp_X11_go__X11_go_r3 kt_wm15) (kt_wf1 (kt_wp_X11_go__X11_go_r3 kt_wm16) (kt_wf1 (kt_wp_X11_go__X11_go_r3 kt_wm17) (kt_wf1 (kt_wp_X11_go__X11_go_r4 kt_wm16) (kt_wf1 (kt_wp_X11_go__X11_go_r4 kt_wm17) (kt_wf1 (kt_wp_X11_go__X11_go_r4 kt_wm18) (kt_wf1 (kt_wp_X11_go__X11_go_r4 kt_wm19) (kt_wf1 (kt_wp_X11_go__X11_go_r4 kt_wm20) (kt_wf1 (kt_wp_X11_go__X11_go_r4 kt_wm21) (kt_wf1 (kt_wp_X11_go__X11_go_r4 kt_wm22) (kt_wf1 (kt_wp_X11_go__X11_go_r4 kt_wm23) (kt_wf1 (kt_wp_X11_go__X11_go_r5 kt_wm0) (kt_wf1 (kt_wp_X11_go__X11_go_r5 kt_wm1) (kt_wf1 (kt_wp_X11_go__X11_go_r5 kt_wm2) (kt_wf1 (kt_wp_X11_go__X11_go_r5 kt_wm3) (kt_wf1 (kt_wp_X11_go__X11_go_r5 kt_wm4) (kt_wf1 (kt_wp_X11_go__X11_go_r5 kt_wm5) (kt_wf1 (kt_wp_X11_go__X11_go_r5 kt_wm6) (kt_wf1 (kt_wp_X11_go__X11_go_r5 kt_wm7) (kt_wf1 (kt_wp_X11_go__X11_go_r5 kt_wm8) (kt_wf1 (kt_wp_X11_go__X11_go_r1 kt_wm21) (kt_wf1 (kt_wp_X11_go__X11_go_r1 kt_wm22) (kt_wf1 (kt_wp_X11_go__X11_go_r1 kt_wm23) (kt_wf1 (kt_wp_X11_go__X11_go_r2 kt_wm0) kt_wf0)))))))))))))))))))))))) (kt_wf1 (kt_wp_X11_go__X11_go_r2 kt_wm1) (kt_wf1 (kt_wp_X11_go__X11_go_r2 kt_wm9) (kt_wf1 (kt_wp_X11_go__X11_go_r2 kt_wm10) (kt_wf1 (kt_wp_X11_go__X11_go_r2 kt_wm11) (kt_wf1 (kt_wp_X11_go__X11_go_r2 kt_wm12) (kt_wf1 (kt_wp_X11_go__X11_go_r3 kt_wm18) (kt_wf1 (kt_wp_X11_go__X11_go_r3 kt_wm19) (kt_wf1 (kt_wp_X11_go__X11_go_r3 kt_wm20) (kt_wf1 (kt_wp_X11_go__X11_go_r3 kt_wm21) (kt_wf1 (kt_wp_X11_go__X11_go_r3 kt_wm22) (kt_wf1 (kt_wp_X11_go__X11_go_r3 kt_wm23) (kt_wf1 (kt_wp_X11_go__X11_go_r4 kt_wm0) (kt_wf1 (kt_wp_X11_go__X11_go_r4 kt_wm1) kt_wf0)))))))))))))))) (fun _ h => kt_wp_X11_go__X110 h))) kt_wg_X11_doMove
set_option maxRecDepth 20000 in
theorem gX11_go_X11_doMove : GoodIn wsX11_go (wsV RX11 170 RX11 yX11_doMove wsX11_doMove) := goodIn_app (a := [.methodLink RX11 170 yX11_doMove, .instanceMethod yX11_doMove, .selects RX11 yX11_doMove yX11_doMove, .initialized RX11]) (goodIn_sub (kt_wf1 (kt_wp_X11_go__X11_go_r4 kt_wm10) (kt_wf1 (kt_wp_X11_go__X11_go_r4 kt_wm11) (kt_wf1 (kt_wp_X11_go__X11_go_r4 kt_wm12) (kt_wf1 (kt_wp_X11_go__X11_go_r1 kt_wm5) kt_wf0)))) (by decide +kernel)) ggX11_go_X11_doMove
theorem sX11_go_0 : kt_sg cX11_go 0 [42, 27, 28, 29, 182, 0, 167, 153, 0, 5, 2, 172, 42, 16, 32, 27, 104, 16, 8, 28, 104, 96, 29, 96, 4, 100, 182, 0, 170, 42, 3, 181, 0, 141, 42, 180, 0, 120, 172] = true := by decide +kernel
theorem dX11_go_0 : decode cX11_go 0 = .ok (.aload_n 0, 1) := kt_o42 (j := 0) sX11_go_0 rfl
theorem dX11_go_1 : decode cX11_go 1 = .ok (.iload_n 1, 1) := kt_o27 (j := 1) sX11_go_0 rfl
theorem dX11_go_2 : decode cX11_go 2 = .ok (.iload_n 2, 1) := kt_o28 (j := 2) sX11_go_0 rfl
theorem dX11_go_3 : decode cX11_go 3 = .ok (.iload_n 3, 1) := kt_o29 (j := 3) sX11_go_0 rfl
theorem dX11_go_4 : decode cX11_go 4 = .ok (.invokevirtual 167, 3) := kt_o182 (j := 4) sX11_go_0 rfl rfl
theorem dX11_go_7 : decode cX11_go 7 = .ok (.ifCond .eq 5, 3) := kt_o153 (j := 7) sX11_go_0 rfl (by decide +kernel)
theorem dX11_go_10 : decode cX11_go 10 = .ok (.iconst (-1), 1) := kt_o2 (j := 10) sX11_go_0 rfl
theorem dX11_go_11 : decode cX11_go 11 = .ok (.ireturn, 1) := kt_o172 (j := 11) sX11_go_0 rfl
theorem dX11_go_12 : decode cX11_go 12 = .ok (.aload_n 0, 1) := kt_o42 (j := 12) sX11_go_0 rfl
theorem dX11_go_13 : decode cX11_go 13 = .ok (.bipush 32, 2) := kt_o16 (j := 13) sX11_go_0 rfl (by decide +kernel)
theorem dX11_go_15 : decode cX11_go 15 = .ok (.iload_n 1, 1) := kt_o27 (j := 15) sX11_go_0 rfl
theorem dX11_go_16 : decode cX11_go 16 = .ok (.imul, 1) := kt_o104 (j := 16) sX11_go_0 rfl
theorem dX11_go_17 : decode cX11_go 17 = .ok (.bipush 8, 2) := kt_o16 (j := 17) sX11_go_0 rfl (by decide +kernel)
theorem dX11_go_19 : decode cX11_go 19 = .ok (.iload_n 2, 1) := kt_o28 (j := 19) sX11_go_0 rfl
theorem dX11_go_20 : decode cX11_go 20 = .ok (.imul, 1) := kt_o104 (j := 20) sX11_go_0 rfl
theorem dX11_go_21 : decode cX11_go 21 = .ok (.iadd, 1) := kt_o96 (j := 21) sX11_go_0 rfl
theorem dX11_go_22 : decode cX11_go 22 = .ok (.iload_n 3, 1) := kt_o29 (j := 22) sX11_go_0 rfl
theorem dX11_go_23 : decode cX11_go 23 = .ok (.iadd, 1) := kt_o96 (j := 23) sX11_go_0 rfl
theorem dX11_go_24 : decode cX11_go 24 = .ok (.iconst 1, 1) := kt_o4 (j := 24) sX11_go_0 rfl
theorem dX11_go_25 : decode cX11_go 25 = .ok (.isub, 1) := kt_o100 (j := 25) sX11_go_0 rfl
theorem dX11_go_26 : decode cX11_go 26 = .ok (.invokevirtual 170, 3) := kt_o182 (j := 26) sX11_go_0 rfl rfl
theorem dX11_go_29 : decode cX11_go 29 = .ok (.aload_n 0, 1) := kt_o42 (j := 29) sX11_go_0 rfl
theorem dX11_go_30 : decode cX11_go 30 = .ok (.iconst 0, 1) := kt_o3 (j := 30) sX11_go_0 rfl
theorem dX11_go_31 : decode cX11_go 31 = .ok (.putfield 141, 3) := kt_o181 (j := 31) sX11_go_0 rfl rfl
theorem dX11_go_34 : decode cX11_go 34 = .ok (.aload_n 0, 1) := kt_o42 (j := 34) sX11_go_0 rfl
theorem dX11_go_35 : decode cX11_go 35 = .ok (.getfield 120, 3) := kt_o180 (j := 35) sX11_go_0 rfl rfl
theorem dX11_go_38 : decode cX11_go 38 = .ok (.ireturn, 1) := kt_o172 (j := 38) sX11_go_0 rfl
theorem kt_wp_X11_back__X110 {w : Cond} (h : w ∈ wsX110) : w ∈ wsX11_back := List.mem_cons_of_mem _ (List.mem_append_right _ (h))
set_option maxRecDepth 20000 in
theorem ggX11_back_X11_read : GoodIn wsX11_back wsX11_read := goodIn_sub (kt_wf1 (List.mem_cons_of_mem _ (List.mem_append_left _ (List.mem_cons_of_mem _ (List.mem_cons_of_mem _ (List.mem_cons_of_mem _ (List.mem_cons_of_mem _ (List.mem_cons_of_mem _ (List.mem_cons_of_mem _ (List.mem_cons_of_mem _ (List.Mem.head _)))))))))) (kt_wfa (kt_wf1 (List.mem_cons_of_mem _ (List.mem_append_left _ (List.mem_cons_of_mem _ (List.mem_cons_of_mem _ (List.mem_cons_of_mem _ (List.mem_cons_of_mem _ (List.mem_cons_of_mem _ (List.mem_cons_of_mem _ (List.mem_cons_of_mem _ (List.mem_cons_of_mem _ (List.Mem.head _))))))))))) (kt_wf1 (List.mem_cons_of_mem _ (List.mem_append_left _ (List.mem_cons_of_mem _ (List.mem_cons_of_mem _ (List.mem_cons_of_mem _ (List.mem_cons_of_mem _ (List.mem_cons_of_mem _ (List.mem_cons_of_mem _ (List.mem_cons_of_mem _ (List.mem_cons_of_mem _ (List.mem_cons_of_mem _ (List.Mem.head _)))))))))))) (kt_wf1 (List.mem_cons_of_mem _ (List.mem_append_left _ (List.mem_cons_of_mem _ (List.mem_cons_of_mem _ (List.mem_cons_of_mem _ (List.mem_cons_of_mem _ (List.mem_cons_of_mem _ (List.mem_cons_of_mem _ (List.mem_cons_of_mem _ (List.mem_cons_of_mem _ (List.mem_cons_of_mem _ (List.mem_cons_of_mem _ (List.Mem.head _))))))))))))) (kt_wf1 (List.mem_cons_of_mem _ (List.mem_append_left _ (List.mem_cons_of_mem _ (List.mem_cons_of_mem _ (List.mem_cons_of_mem _ (List.mem_cons_of_mem _ (List.mem_cons_of_mem _ (List.mem_cons_of_mem _ (List.mem_cons_of_mem _ (List.mem_cons_of_mem _ (List.mem_cons_of_mem _ (List.mem_cons_of_mem _ (List.mem_cons_of_mem _ (List.Mem.head _)))))))))))))) (kt_wf1 (List.mem_cons_of_mem _ (List.mem_append_left _ (List.mem_cons_of_mem _ (List.mem_cons_of_mem _ (List.mem_cons_of_mem _ (List.mem_cons_of_mem _ (List.mem_cons_of_mem _ (List.mem_cons_of_mem _ (List.mem_cons_of_mem _ (List.mem_cons_of_mem _ (List.mem_cons_of_mem _ (List.mem_cons_of_mem _ (List.mem_cons_of_mem _ (List.mem_cons_of_mem _ (List.Mem.head _))))))))))))))) (kt_wf1 (List.mem_cons_of_mem _ (List.mem_append_left _ (List.mem_cons_of_mem _ (List.mem_cons_of_mem _ (List.mem_cons_of_mem _ (List.mem_cons_of_mem _ (List.mem_cons_of_mem _ (List.mem_cons_of_mem _ (List.mem_cons_of_mem _ (List.mem_cons_of_mem _ (List.mem_cons_of_mem _ (List.mem_cons_of_mem _ (List.mem_cons_of_mem _ (List.mem_cons_of_mem _ (List.mem_cons_of_mem _ (List.Mem.head _)))))))))))))))) (kt_wf1 (List.mem_cons_of_mem _ (List.mem_append_left _ (List.mem_cons_of_mem _ (List.mem_cons_of_mem _ (List.mem_cons_of_mem _ (List.mem_cons_of_mem _ (List.mem_cons_of_mem _ (List.mem_cons_of_mem _ (List.mem_cons_of_mem _ (List.mem_cons_of_mem _ (List.mem_cons_of_mem _ (List.mem_cons_of_mem _ (List.mem_cons_of_mem _ (List.mem_cons_of_mem _ (List.mem_cons_of_mem _ (List.mem_cons_of_mem _ (List.Mem.head _))))))))))))))))) (kt_wf1 (List.mem_cons_of_mem _ (List.mem_append_left _ (List.mem_cons_of_mem _ (List.mem_cons_of_mem _ (List.mem_cons_of_mem _ (List.mem_cons_of_mem _ (List.mem_cons_of_mem _ (List.mem_cons_of_mem _ (List.mem_cons_of_mem _ (List.mem_cons_of_mem _ (List.mem_cons_of_mem _ (List.mem_cons_of_mem _ (List.mem_cons_of_mem _ (List.mem_cons_of_mem _ (List.mem_cons_of_mem _ (List.mem_cons_of_mem _ (List.mem_cons_of_mem _ (List.Mem.head _)))))))))))))))))) (kt_wf1 (List.mem_cons_of_mem _ (List.mem_append_left _ (List.mem_cons_of_mem _ (List.mem_cons_of_mem _ (List.mem_cons_of_mem _ (List.mem_cons_of_mem _ (List.mem_cons_of_mem _ (List.mem_cons_of_mem _ (List.Mem.head _))))))))) (kt_wf1 (List.mem_cons_of_mem _ (List.mem_append_left _ (List.mem_cons_of_mem _ (List.mem_cons_of_mem _ (List.mem_cons_of_mem _ (List.mem_cons_of_mem _ (List.mem_cons_of_mem _ (List.mem_cons_of_mem _ (List.mem_cons_of_mem _ (List.mem_cons_of_mem _ (List.mem_cons_of_mem _ (List.mem_cons_of_mem _ (List.mem_cons_of_mem _ (List.mem_cons_of_mem _ (List.mem_cons_of_mem _ (List.mem_cons_of_mem _ (List.mem_cons_of_mem _ (List.mem_cons_of_mem _ (List.Mem.head _))))))))))))))))))) kt_wf0)))))))))) (fun _ h => kt_wp_X11_back__X110 h))) kt_wg_X11_read
set_option maxRecDepth 20000 in
theorem gX11_back_X11_read : GoodIn wsX11_back (wsV RX11 161 RX11 yX11_read wsX11_read) := goodIn_app (a := [.methodLink RX11 161 yX11_read, .instanceMethod yX11_read, .selects RX11 yX11_read yX11_read, .initialized RX11]) (goodIn_sub (kt_wf1 (List.mem_cons_of_mem _ (List.mem_append_left _ (List.mem_cons_of_mem _ (List.mem_cons_of_mem _ (List.mem_cons_of_mem _ (List.Mem.head _)))))) (kt_wf1 (List.mem_cons_of_mem _ (List.mem_append_left _ (List.mem_cons_of_mem _ (List.mem_cons_of_mem _ (List.mem_cons_of_mem _ (List.mem_cons_of_mem _ (List.Mem.head _))))))) (kt_wf1 (List.mem_cons_of_mem _ (List.mem_append_left _ (List.mem_cons_of_mem _ (List.mem_cons_of_mem _ (List.mem_cons_of_mem _ (List.mem_cons_of_mem _ (List.mem_cons_of_mem _ (List.Mem.head _)))))))) (kt_wf1 (List.mem_cons_of_mem _ (List.mem_append_left _ (List.mem_cons_of_mem _ (List.mem_cons_of_mem _ (List.mem_cons_of_mem _ (List.mem_cons_of_mem _ (List.mem_cons_of_mem _ (List.mem_cons_of_mem _ (List.Mem.head _))))))))) kt_wf0)))) (by decide +kernel)) ggX11_back_X11_read
set_option maxRecDepth 20000 in
theorem ggX11_back_X11_lookAgain : GoodIn wsX11_back wsX11_lookAgain := goodIn_sub (kt_wf1 (List.mem_cons_of_mem _ (List.mem_append_left _ (List.mem_cons_of_mem _ (List.mem_cons_of_mem _ (List.mem_cons_of_mem _ (List.mem_cons_of_mem _ (List.mem_cons_of_mem _ (List.mem_cons_of_mem _ (List.mem_cons_of_mem _ (List.mem_cons_of_mem _ (List.mem_cons_of_mem _ (List.mem_cons_of_mem _ (List.mem_cons_of_mem _ (List.mem_cons_of_mem _ (List.mem_cons_of_mem _ (List.mem_cons_of_mem _ (List.mem_cons_of_mem _ (List.mem_cons_of_mem _ (List.mem_cons_of_mem _ (List.mem_cons_of_mem _ (List.mem_cons_of_mem _ (List.mem_cons_of_mem _ (List.Mem.head _))))))))))))))))))))))) (kt_wfa (kt_wf1 (List.mem_cons_of_mem _ (List.mem_append_left _ (List.mem_cons_of_mem _ (List.Mem.head _)))) (kt_wf1 (List.mem_cons_of_mem _ (List.mem_append_left _ (List.mem_cons_of_mem _ (List.mem_cons_of_mem _ (List.mem_cons_of_mem _ (List.mem_cons_of_mem _ (List.mem_cons_of_mem _ (List.mem_cons_of_mem _ (List.mem_cons_of_mem _ (List.mem_cons_of_mem _ (List.mem_cons_of_mem _ (List.mem_cons_of_mem _ (List.mem_cons_of_mem _ (List.mem_cons_of_mem _ (List.mem_cons_of_mem _ (List.mem_cons_of_mem _ (List.mem_cons_of_mem _ (List.mem_cons_of_mem _ (List.mem_cons_of_mem _ (List.mem_cons_of_mem _ (List.mem_cons_of_mem _ (List.mem_cons_of_mem _ (List.mem_cons_of_mem _ (List.Mem.head _)))))))))))))))))))))))) (kt_wf1 (List.mem_cons_of_mem _ (List.mem_append_left _ (List.mem_cons_of_mem _ (List.mem_cons_of_mem _ (List.mem_cons_of_mem _ (List.mem_cons_of_mem _ (List.mem_cons_of_mem _ (List.mem_cons_of_mem _ (List.mem_cons_of_mem _ (List.mem_cons_of_mem _ (List.mem_cons_of_mem _ (List.Mem.head _)))))))))))) (kt_wf1 (List.mem_cons_of_mem _ (List.mem_append_left _ (List.mem_cons_of_mem _ (List.mem_cons_of_mem _ (List.mem_cons_of_mem _ (List.mem_cons_of_mem _ (List.mem_cons_of_mem _ (List.mem_cons_of_mem _ (List.mem_cons_of_mem _ (List.mem_cons_of_mem _ (List.mem_cons_of_mem _ (List.mem_cons_of_mem _ (List.mem_cons_of_mem _ (List.mem_cons_of_mem _ (List.mem_cons_of_mem _ (List.mem_cons_of_mem _ (List.mem_cons_of_mem _ (List.mem_cons_of_mem _ (List.mem_cons_of_mem _ (List.mem_cons_of_mem _ (List.mem_cons_of_mem _ (List.mem_cons_of_mem _ (List.mem_cons_of_mem _ (List.mem_cons_of_mem _ (List.Mem.head _))))))))))))))))))))))))) (kt_wf1 (List.mem_cons_of_mem _ (List.mem_append_left _ (List.mem_cons_of_mem _ (List.mem_cons_of_mem _ (List.mem_cons_of_mem _ (List.mem_cons_of_mem _ (List.mem_cons_of_mem _ (List.mem_cons_of_mem _ (List.mem_cons_of_mem _ (List.mem_cons_of_mem _ (List.mem_cons_of_mem _ (List.mem_cons_of_mem _ (List.mem_cons_of_mem _ (List.Mem.head _)))))))))))))) (kt_wf1 (List.mem_cons_of_mem _ (List.mem_append_left _ (List.mem_cons_of_mem _ (List.mem_cons_of_mem _ (List.mem_cons_of_mem _ (List.mem_cons_of_mem _ (List.mem_cons_of_mem _ (List.mem_cons_of_mem _ (List.mem_cons_of_mem _ (List.mem_cons_of_mem _ (List.mem_cons_of_mem _ (List.mem_cons_of_mem _ (List.mem_cons_of_mem _ (List.mem_cons_of_mem _ (List.mem_cons_of_mem _ (List.Mem.head _)))))))))))))))) (kt_wf1 (List.mem_cons_of_mem _ (List.mem_append_left _ (List.mem_cons_of_mem _ (List.mem_cons_of_mem _ (List.mem_cons_of_mem _ (List.mem_cons_of_mem _ (List.mem_cons_of_mem _ (List.mem_cons_of_mem _ (List.mem_cons_of_mem _ (List.mem_cons_of_mem _ (List.mem_cons_of_mem _ (List.mem_cons_of_mem _ (List.mem_cons_of_mem _ (List.mem_cons_of_mem _ (List.mem_cons_of_mem _ (List.mem_cons_of_mem _ (List.Mem.head _))))))))))))))))) (kt_wf1 (List.mem_cons_of_mem _ (List.mem_append_left _ (List.mem_cons_of_mem _ (List.mem_cons_of_mem _ (List.mem_cons_of_mem _ (List.mem_cons_of_mem _ (List.mem_cons_of_mem _ (List.mem_cons_of_mem _ (List.mem_cons_of_mem _ (List.mem_cons_of_mem _ (List.mem_cons_of_mem _ (List.mem_cons_of_mem _ (List.mem_cons_of_mem _ (List.mem_cons_of_mem _ (List.mem_cons_of_mem _ (List.mem_cons_of_mem _ (List.mem_cons_of_mem _ (List.Mem.head _)))))))))))))))))) (kt_wf1 (List.mem_cons_of_mem _ (List.mem_append_left _ (List.mem_cons_of_mem _ (List.mem_cons_of_mem _ (List.mem_cons_of_mem _ (List.mem_cons_of_mem _ (List.mem_cons_of_mem _ (List.mem_cons_of_mem _ (List.Mem.head _))))))))) (kt_wf1 (List.mem_cons_of_mem _ (List.mem_append_left _ (List.mem_cons_of_mem _ (List.mem_cons_of_mem _ (List.mem_cons_of_mem _ (List.mem_cons_of_mem _ (List.mem_cons_of_mem _ (List.mem_cons_of_mem _ (List.mem_cons_of_mem _ (List.mem_cons_of_mem _ (List.mem_cons_of_mem _ (List.mem_cons_of_mem _ (List.mem_cons_of_mem _ (List.mem_cons_of_mem _ (List.mem_cons_of_mem _ (List.mem_cons_of_mem _ (List.mem_cons_of_mem _ (List.mem_cons_of_mem _ (List.Mem.head _))))))))))))))))))) kt_wf0)))))))))) (fun _ h => kt_wp_X11_back__X110 h))) kt_wg_X11_lookAgain
set_option maxRecDepth 20000 in
theorem gX11_back_X11_lookAgain : GoodIn wsX11_back (wsV RX11 164 RX11 yX11_lookAgain wsX11_lookAgain) := goodIn_app (a := [.methodLink RX11 164 yX11_lookAgain, .instanceMethod yX11_lookAgain, .selects RX11 yX11_lookAgain yX11_lookAgain, .initialized RX11]) (goodIn_sub (kt_wf1 (List.mem_cons_of_mem _ (List.mem_append_left _ (List.mem_cons_of_mem _ (List.mem_cons_of_mem _ (List.mem_cons_of_mem _ (List.mem_cons_of_mem _ (List.mem_cons_of_mem _ (List.mem_cons_of_mem _ (List.mem_cons_of_mem _ (List.mem_cons_of_mem _ (List.mem_cons_of_mem _ (List.mem_cons_of_mem _ (List.mem_cons_of_mem _ (List.mem_cons_of_mem _ (List.mem_cons_of_mem _ (List.mem_cons_of_mem _ (List.mem_cons_of_mem _ (List.mem_cons_of_mem _ (List.mem_cons_of_mem _ (List.Mem.head _)))))))))))))))))))) (kt_wf1 (List.mem_cons_of_mem _ (List.mem_append_left _ (List.mem_cons_of_mem _ (List.mem_cons_of_mem _ (List.mem_cons_of_mem _ (List.mem_cons_of_mem _ (List.mem_cons_of_mem _ (List.mem_cons_of_mem _ (List.mem_cons_of_mem _ (List.mem_cons_of_mem _ (List.mem_cons_of_mem _ (List.mem_cons_of_mem _ (List.mem_cons_of_mem _ (List.mem_cons_of_mem _ (List.mem_cons_of_mem _ (List.mem_cons_of_mem _ (List.mem_cons_of_mem _ (List.mem_cons_of_mem _ (List.mem_cons_of_mem _ (List.mem_cons_of_mem _ (List.Mem.head _))))))))))))))))))))) (kt_wf1 (List.mem_cons_of_mem _ (List.mem_append_left _ (List.mem_cons_of_mem _ (List.mem_cons_of_mem _ (List.mem_cons_of_mem _ (List.mem_cons_of_mem _ (List.mem_cons_of_mem _ (List.mem_cons_of_mem _ (List.mem_cons_of_mem _ (List.mem_cons_of_mem _ (List.mem_cons_of_mem _ (List.mem_cons_of_mem _ (List.mem_cons_of_mem _ (List.mem_cons_of_mem _ (List.mem_cons_of_mem _ (List.mem_cons_of_mem _ (List.mem_cons_of_mem _ (List.mem_cons_of_mem _ (List.mem_cons_of_mem _ (List.mem_cons_of_mem _ (List.mem_cons_of_mem _ (List.Mem.head _)))))))))))))))))))))) (kt_wf1 (List.mem_cons_of_mem _ (List.mem_append_left _ (List.mem_cons_of_mem _ (List.mem_cons_of_mem _ (List.mem_cons_of_mem _ (List.mem_cons_of_mem _ (List.mem_cons_of_mem _ (List.mem_cons_of_mem _ (List.Mem.head _))))))))) kt_wf0)))) (by decide +kernel)) ggX11_back_X11_lookAgain
theorem sX11_back_0 : kt_sg cX11_back 0 [42, 180, 0, 73, 153, 0, 10, 42, 180, 0, 138, 154, 0, 5, 3, 172, 42, 89, 180, 0, 138, 4, 100, 181, 0, 138, 42, 89, 180, 0, 141, 4, 96, 181, 0, 141, 42, 42, 180, 0, 138, 182, 0, 161, 42, 182, 0, 164, 42, 4, 181, 0, 73, 4, 172] = true := by decide +kernel
theorem dX11_back_0 : decode cX11_back 0 = .ok (.aload_n 0, 1) := kt_o42 (j := 0) sX11_back_0 rfl
theorem dX11_back_1 : decode cX11_back 1 = .ok (.getfield 73, 3) := kt_o180 (j := 1) sX11_back_0 rfl rfl
theorem dX11_back_4 : decode cX11_back 4 = .ok (.ifCond .eq 10, 3) := kt_o153 (j := 4) sX11_back_0 rfl (by decide +kernel)
theorem dX11_back_7 : decode cX11_back 7 = .ok (.aload_n 0, 1) := kt_o42 (j := 7) sX11_back_0 rfl
theorem dX11_back_8 : decode cX11_back 8 = .ok (.getfield 138, 3) := kt_o180 (j := 8) sX11_back_0 rfl rfl
theorem dX11_back_11 : decode cX11_back 11 = .ok (.ifCond .ne 5, 3) := kt_o154 (j := 11) sX11_back_0 rfl (by decide +kernel)
theorem dX11_back_14 : decode cX11_back 14 = .ok (.iconst 0, 1) := kt_o3 (j := 14) sX11_back_0 rfl
theorem dX11_back_15 : decode cX11_back 15 = .ok (.ireturn, 1) := kt_o172 (j := 15) sX11_back_0 rfl
theorem dX11_back_16 : decode cX11_back 16 = .ok (.aload_n 0, 1) := kt_o42 (j := 16) sX11_back_0 rfl
theorem dX11_back_17 : decode cX11_back 17 = .ok (.dup, 1) := kt_o89 (j := 17) sX11_back_0 rfl
theorem dX11_back_18 : decode cX11_back 18 = .ok (.getfield 138, 3) := kt_o180 (j := 18) sX11_back_0 rfl rfl
theorem dX11_back_21 : decode cX11_back 21 = .ok (.iconst 1, 1) := kt_o4 (j := 21) sX11_back_0 rfl
theorem dX11_back_22 : decode cX11_back 22 = .ok (.isub, 1) := kt_o100 (j := 22) sX11_back_0 rfl
theorem dX11_back_23 : decode cX11_back 23 = .ok (.putfield 138, 3) := kt_o181 (j := 23) sX11_back_0 rfl rfl
theorem dX11_back_26 : decode cX11_back 26 = .ok (.aload_n 0, 1) := kt_o42 (j := 26) sX11_back_0 rfl
theorem dX11_back_27 : decode cX11_back 27 = .ok (.dup, 1) := kt_o89 (j := 27) sX11_back_0 rfl
theorem dX11_back_28 : decode cX11_back 28 = .ok (.getfield 141, 3) := kt_o180 (j := 28) sX11_back_0 rfl rfl
theorem dX11_back_31 : decode cX11_back 31 = .ok (.iconst 1, 1) := kt_o4 (j := 31) sX11_back_0 rfl
theorem dX11_back_32 : decode cX11_back 32 = .ok (.iadd, 1) := kt_o96 (j := 32) sX11_back_0 rfl
theorem dX11_back_33 : decode cX11_back 33 = .ok (.putfield 141, 3) := kt_o181 (j := 33) sX11_back_0 rfl rfl
theorem dX11_back_36 : decode cX11_back 36 = .ok (.aload_n 0, 1) := kt_o42 (j := 36) sX11_back_0 rfl
theorem dX11_back_37 : decode cX11_back 37 = .ok (.aload_n 0, 1) := kt_o42 (j := 37) sX11_back_0 rfl
theorem dX11_back_38 : decode cX11_back 38 = .ok (.getfield 138, 3) := kt_o180 (j := 38) sX11_back_0 rfl rfl
theorem dX11_back_41 : decode cX11_back 41 = .ok (.invokevirtual 161, 3) := kt_o182 (j := 41) sX11_back_0 rfl rfl
theorem dX11_back_44 : decode cX11_back 44 = .ok (.aload_n 0, 1) := kt_o42 (j := 44) sX11_back_0 rfl
theorem dX11_back_45 : decode cX11_back 45 = .ok (.invokevirtual 164, 3) := kt_o182 (j := 45) sX11_back_0 rfl rfl
theorem dX11_back_48 : decode cX11_back 48 = .ok (.aload_n 0, 1) := kt_o42 (j := 48) sX11_back_0 rfl
theorem dX11_back_49 : decode cX11_back 49 = .ok (.iconst 1, 1) := kt_o4 (j := 49) sX11_back_0 rfl
theorem dX11_back_50 : decode cX11_back 50 = .ok (.putfield 73, 3) := kt_o181 (j := 50) sX11_back_0 rfl rfl
theorem dX11_back_53 : decode cX11_back 53 = .ok (.iconst 1, 1) := kt_o4 (j := 53) sX11_back_0 rfl
theorem dX11_back_54 : decode cX11_back 54 = .ok (.ireturn, 1) := kt_o172 (j := 54) sX11_back_0 rfl
theorem kt_wp_X11_again__X11_again_r1 {w : Cond} (h : w ∈ wsX11_again_r1) : w ∈ wsX11_again := List.mem_cons_of_mem _ (List.mem_append_left _ (List.mem_append_left _ (h)))
theorem kt_wp_X11_again__X11_again_r2 {w : Cond} (h : w ∈ wsX11_again_r2) : w ∈ wsX11_again := List.mem_cons_of_mem _ (List.mem_append_left _ (List.mem_append_right _ (List.mem_append_left _ (h))))
theorem kt_wp_X11_again__X11_again_r3 {w : Cond} (h : w ∈ wsX11_again_r3) : w ∈ wsX11_again := List.mem_cons_of_mem _ (List.mem_append_left _ (List.mem_append_right _ (List.mem_append_right _ (List.mem_append_left _ (h)))))
theorem kt_wp_X11_again__X11_again_r4 {w : Cond} (h : w ∈ wsX11_again_r4) : w ∈ wsX11_again := List.mem_cons_of_mem _ (List.mem_append_left _ (List.mem_append_right _ (List.mem_append_right _ (List.mem_append_right _ (h)))))
theorem kt_wp_X11_again__X110 {w : Cond} (h : w ∈ wsX110) : w ∈ wsX11_again := List.mem_cons_of_mem _ (List.mem_append_right _ (h))
set_option maxRecDepth 20000 in
theorem ggX11_again_X11_doMove : GoodIn wsX11_again wsX11_doMove := goodIn_sub (kt_wf1 (kt_wp_X11_again__X11_again_r1 kt_wm8) (kt_wfa (kt_wfa (kt_wf1 (kt_wp_X11_again__X11_again_r1 kt_wm9) (kt_wf1 (kt_wp_X11_again__X11_again_r1 kt_wm2) (kt_wf1 (kt_wp_X11_again__X11_again_r1 kt_wm3) (kt_wf1 (kt_wp_X11_again__X11_again_r1 kt_wm10) (kt_wf1 (kt_wp_X11_again__X11_again_r1 kt_wm11) (kt_wf1 (kt_wp_X11_again__X11_again_r1 kt_wm0) (kt_wf1 (kt_wp_X11_again__X11_again_r1 kt_wm12) (kt_wf1 (kt_wp_X11_again__X11_again_r1 kt_wm13) (kt_wf1 (kt_wp_X11_again__X11_again_r1 kt_wm14) (kt_wf1 (kt_wp_X11_again__X11_again_r1 kt_wm15) (kt_wf1 (kt_wp_X11_again__X11_again_r1 kt_wm7) (kt_wf1 (kt_wp_X11_again__X11_again_r1 kt_wm16) (kt_wf1 (kt_wp_X11_again__X11_again_r1 kt_wm17) (kt_wf1 (kt_wp_X11_again__X11_again_r1 kt_wm18) (kt_wf1 (kt_wp_X11_again__X11_again_r1 kt_wm19) (kt_wf1 (kt_wp_X11_again__X11_again_r1 kt_wm20) (kt_wf1 (kt_wp_X11_again__X11_again_r1 kt_wm21) (kt_wf1 (kt_wp_X11_again__X11_again_r1 kt_wm22) (kt_wf1 (kt_wp_X11_again__X11_again_r1 kt_wm23) (kt_wf1 (kt_wp_X11_again__X11_again_r2 kt_wm0) (kt_wf1 (kt_wp_X11_again__X11_again_r2 kt_wm1) (kt_wf1 (kt_wp_X11_again__X11_again_r2 kt_wm2) (kt_wf1 (kt_wp_X11_again__X11_again_r2 kt_wm3) (kt_wf1 (kt_wp_X11_again__X11_again_r2 kt_wm4) kt_wf0)))))))))))))))))))))))) (kt_wfa (kt_wf1 (kt_wp_X11_again__X11_again_r2 kt_wm5) (kt_wf1 (kt_wp_X11_again__X11_again_r2 kt_wm6) (kt_wf1 (kt_wp_X11_again__X11_again_r2 kt_wm7) (kt_wf1 (kt_wp_X11_again__X11_again_r2 kt_wm8) (kt_wf1 (kt_wp_X11_again__X11_again_r2 kt_wm9) (kt_wf1 (kt_wp_X11_again__X11_again_r2 kt_wm10) (kt_wf1 (kt_wp_X11_again__X11_again_r2 kt_wm11) (kt_wf1 (kt_wp_X11_again__X11_again_r2 kt_wm12) (kt_wf1 (kt_wp_X11_again__X11_again_r2 kt_wm13) (kt_wf1 (kt_wp_X11_again__X11_again_r2 kt_wm14) (kt_wf1 (kt_wp_X11_again__X11_again_r2 kt_wm15) (kt_wf1 (kt_wp_X11_again__X11_again_r2 kt_wm16) (kt_wf1 (kt_wp_X11_again__X11_again_r2 kt_wm17) (kt_wf1 (kt_wp_X11_again__X11_again_r2 kt_wm18) (kt_wf1 (kt_wp_X11_again__X11_again_r2 kt_wm19) (kt_wf1 (kt_wp_X11_again__X11_again_r2 kt_wm20) (kt_wf1 (kt_wp_X11_again__X11_again_r2 kt_wm21) (kt_wf1 (kt_wp_X11_again__X11_again_r2 kt_wm22) (kt_wf1 (kt_wp_X11_again__X11_again_r2 kt_wm23) (kt_wf1 (kt_wp_X11_again__X11_again_r3 kt_wm0) (kt_wf1 (kt_wp_X11_again__X11_again_r3 kt_wm1) (kt_wf1 (kt_wp_X11_again__X11_again_r3 kt_wm2) (kt_wf1 (kt_wp_X11_again__X11_again_r3 kt_wm3) (kt_wf1 (kt_wp_X11_again__X11_again_r3 kt_wm4) kt_wf0)))))))))))))))))))))))) (kt_wfa (kt_wf1 (kt_wp_X11_again__X11_again_r3 kt_wm5) (kt_wf1 (kt_wp_X11_again__X11_again_r3 kt_wm6) (kt_wf1 (kt_wp_X11_again__X11_again_r3 kt_wm7) (kt_wf1 (kt_wp_X11_again__X11_again_r3 kt_wm8) (kt_wf1 (kt_wp_X11_again__X11_again_r3 kt_wm9) (kt_wf1 (kt_wp_X11_again__X11_again_r3 kt_wm10) (kt_wf1 (kt_wp_X11_again__X11_again_r3 kt_wm11) (kt_wf1 (kt_wp_X11_again__X11_again_r3 kt_wm12) (kt_wf1 (kt_wp_X11_again__X11_again_r3 kt_wm13) (kt_wf1 (kt_wp_X11_again__X11_again_r3 kt_wm14) (kt_wf1 (kt_wp_X11_again__X11_again_r3 kt_wm15) (kt_wf1 (kt_wp_X11_again__X11_again_r3 kt_wm16) (kt_wf1 (kt_wp_X11_again__X11_again_r3 kt_wm17) (kt_wf1 (kt_wp_X11_again__X11_again_r3 kt_wm18) (kt_wf1 (kt_wp_X11_again__X11_again_r3 kt_wm19) (kt_wf1 (kt_wp_X11_again__X11_again_r3 kt_wm20) (kt_wf1 (kt_wp_X11_again__X11_again_r3 kt_wm21) (kt_wf1 (kt_wp_X11_again__X11_again_r3 kt_wm22) (kt_wf1 (kt_wp_X11_again__X11_again_r3 kt_wm23) (kt_wf1 (kt_wp_X11_again__X11_again_r4 kt_wm0) (kt_wf1 (kt_wp_X11_again__X11_again_r4 kt_wm1) (kt_wf1 (kt_wp_X11_again__X11_again_r4 kt_wm2) (kt_wf1 (kt_wp_X11_again__X11_again_r4 kt_wm3) (kt_wf1 (kt_wp_X11_again__X11_again_r4 kt_wm4) kt_wf0)))))))))))))))))))))))) (kt_wf1 (kt_wp_X11_again__X11_again_r4 kt_wm5) (kt_wf1 (kt_wp_X11_again__X11_again_r4 kt_wm6) (kt_wf1 (kt_wp_X11_again__X11_again_r4 kt_wm7) (kt_wf1 (kt_wp_X11_again__X11_again_r4 kt_wm8) (kt_wf1 (kt_wp_X11_again__X11_again_r4 kt_wm9) (kt_wf1 (kt_wp_X11_again__X11_again_r4 kt_wm10) (kt_wf1 (kt_wp_X11_again__X11_again_r4 kt_wm11) (kt_wf1 (kt_wp_X11_again__X11_again_r4 kt_wm12) (kt_wf1 (kt_wp_X11_again__X11_again_r4 kt_wm13) (kt_wf1 (kt_wp_X11_again__X11_again_r4 kt_wm14) (kt_wf1 (kt_wp_X11_again__X11_again_r4 kt_wm15) (kt_wf1 (kt_wp_X11_again__X11_again_r4 kt_wm16) (kt_wf1 (kt_wp_X11_again__X11_again_r4 kt_wm17) kt_wf0)))))))))))))))) (fun _ h => kt_wp_X11_again__X110 h))) kt_wg_X11_doMove
set_option maxRecDepth 20000 in
theorem gX11_again_X11_doMove : GoodIn wsX11_again (wsV RX11 170 RX11 yX11_doMove wsX11_doMove) := goodIn_app (a := [.methodLink RX11 170 yX11_doMove, .instanceMethod yX11_doMove, .selects RX11 yX11_doMove yX11_doMove, .initialized RX11]) (goodIn_sub (kt_wf1 (kt_wp_X11_again__X11_again_r1 kt_wm4) (kt_wf1 (kt_wp_X11_again__X11_again_r1 kt_wm5) (kt_wf1 (kt_wp_X11_again__X11_again_r1 kt_wm6) (kt_wf1 (kt_wp_X11_again__X11_again_r1 kt_wm7) kt_wf0)))) (by decide +kernel)) ggX11_again_X11_doMove
theorem sX11_again_0 : kt_sg cX11_again 0 [42, 180, 0, 73, 153, 0, 10, 42, 180, 0, 141, 154, 0, 5, 3, 172, 42, 89, 180, 0, 141, 4, 100, 181, 0, 141, 42, 42, 180, 0, 39, 42, 180, 0, 138, 46, 182, 0, 170, 4, 172] = true := by decide +kernel
theorem dX11_again_0 : decode cX11_again 0 = .ok (.aload_n 0, 1) := kt_o42 (j := 0) sX11_again_0 rfl
theorem dX11_again_1 : decode cX11_again 1 = .ok (.getfield 73, 3) := kt_o180 (j := 1) sX11_again_0 rfl rfl
theorem dX11_again_4 : decode cX11_again 4 = .ok (.ifCond .eq 10, 3) := kt_o153 (j := 4) sX11_again_0 rfl (by decide +kernel)
theorem dX11_again_7 : decode cX11_again 7 = .ok (.aload_n 0, 1) := kt_o42 (j := 7) sX11_again_0 rfl
theorem dX11_again_8 : decode cX11_again 8 = .ok (.getfield 141, 3) := kt_o180 (j := 8) sX11_again_0 rfl rfl
theorem dX11_again_11 : decode cX11_again 11 = .ok (.ifCond .ne 5, 3) := kt_o154 (j := 11) sX11_again_0 rfl (by decide +kernel)
theorem dX11_again_14 : decode cX11_again 14 = .ok (.iconst 0, 1) := kt_o3 (j := 14) sX11_again_0 rfl
theorem dX11_again_15 : decode cX11_again 15 = .ok (.ireturn, 1) := kt_o172 (j := 15) sX11_again_0 rfl
theorem dX11_again_16 : decode cX11_again 16 = .ok (.aload_n 0, 1) := kt_o42 (j := 16) sX11_again_0 rfl
theorem dX11_again_17 : decode cX11_again 17 = .ok (.dup, 1) := kt_o89 (j := 17) sX11_again_0 rfl
theorem dX11_again_18 : decode cX11_again 18 = .ok (.getfield 141, 3) := kt_o180 (j := 18) sX11_again_0 rfl rfl
theorem dX11_again_21 : decode cX11_again 21 = .ok (.iconst 1, 1) := kt_o4 (j := 21) sX11_again_0 rfl
theorem dX11_again_22 : decode cX11_again 22 = .ok (.isub, 1) := kt_o100 (j := 22) sX11_again_0 rfl
theorem dX11_again_23 : decode cX11_again 23 = .ok (.putfield 141, 3) := kt_o181 (j := 23) sX11_again_0 rfl rfl
theorem dX11_again_26 : decode cX11_again 26 = .ok (.aload_n 0, 1) := kt_o42 (j := 26) sX11_again_0 rfl
theorem dX11_again_27 : decode cX11_again 27 = .ok (.aload_n 0, 1) := kt_o42 (j := 27) sX11_again_0 rfl
theorem dX11_again_28 : decode cX11_again 28 = .ok (.getfield 39, 3) := kt_o180 (j := 28) sX11_again_0 rfl rfl
theorem dX11_again_31 : decode cX11_again 31 = .ok (.aload_n 0, 1) := kt_o42 (j := 31) sX11_again_0 rfl
theorem dX11_again_32 : decode cX11_again 32 = .ok (.getfield 138, 3) := kt_o180 (j := 32) sX11_again_0 rfl rfl
theorem dX11_again_35 : decode cX11_again 35 = .ok (.iaload, 1) := kt_o46 (j := 35) sX11_again_0 rfl
theorem dX11_again_36 : decode cX11_again 36 = .ok (.invokevirtual 170, 3) := kt_o182 (j := 36) sX11_again_0 rfl rfl
theorem dX11_again_39 : decode cX11_again 39 = .ok (.iconst 1, 1) := kt_o4 (j := 39) sX11_again_0 rfl
theorem dX11_again_40 : decode cX11_again 40 = .ok (.ireturn, 1) := kt_o172 (j := 40) sX11_again_0 rfl
theorem kt_wp_X11_about__X110 {w : Cond} (h : w ∈ wsX110) : w ∈ wsX11_about := List.mem_cons_of_mem _ (List.mem_append_right _ (h))
set_option maxRecDepth 20000 in
theorem ggX11_about_X11_fields : GoodIn wsX11_about wsX11_fields := goodIn_sub (kt_wf1 (List.mem_cons_of_mem _ (List.mem_append_left _ (List.mem_cons_of_mem _ (List.mem_cons_of_mem _ (List.mem_cons_of_mem _ (List.mem_cons_of_mem _ (List.mem_cons_of_mem _ (List.mem_cons_of_mem _ (List.mem_cons_of_mem _ (List.mem_cons_of_mem _ (List.mem_cons_of_mem _ (List.mem_cons_of_mem _ (List.mem_cons_of_mem _ (List.mem_cons_of_mem _ (List.Mem.head _))))))))))))))) (kt_wfa (kt_wf1 (List.mem_cons_of_mem _ (List.mem_append_left _ (List.mem_cons_of_mem _ (List.mem_cons_of_mem _ (List.mem_cons_of_mem _ (List.mem_cons_of_mem _ (List.mem_cons_of_mem _ (List.mem_cons_of_mem _ (List.Mem.head _))))))))) (kt_wf1 (List.mem_cons_of_mem _ (List.mem_append_left _ (List.mem_cons_of_mem _ (List.mem_cons_of_mem _ (List.mem_cons_of_mem _ (List.mem_cons_of_mem _ (List.mem_cons_of_mem _ (List.mem_cons_of_mem _ (List.mem_cons_of_mem _ (List.mem_cons_of_mem _ (List.mem_cons_of_mem _ (List.mem_cons_of_mem _ (List.mem_cons_of_mem _ (List.mem_cons_of_mem _ (List.mem_cons_of_mem _ (List.Mem.head _)))))))))))))))) kt_wf0)) (fun _ h => kt_wp_X11_about__X110 h))) kt_wg_X11_fields
set_option maxRecDepth 20000 in
theorem gX11_about_X11_fields : GoodIn wsX11_about (wsV RX11 88 RX11 yX11_fields wsX11_fields) := goodIn_app (a := [.methodLink RX11 88 yX11_fields, .instanceMethod yX11_fields, .selects RX11 yX11_fields yX11_fields, .initialized RX11]) (goodIn_sub (kt_wf1 (List.mem_cons_of_mem _ (List.mem_append_left _ (List.mem_cons_of_mem _ (List.mem_cons_of_mem _ (List.mem_cons_of_mem _ (List.mem_cons_of_mem _ (List.mem_cons_of_mem _ (List.mem_cons_of_mem _ (List.mem_cons_of_mem _ (List.mem_cons_of_mem _ (List.Mem.head _))))))))))) (kt_wf1 (List.mem_cons_of_mem _ (List.mem_append_left _ (List.mem_cons_of_mem _ (List.mem_cons_of_mem _ (List.mem_cons_of_mem _ (List.mem_cons_of_mem _ (List.mem_cons_of_mem _ (List.mem_cons_of_mem _ (List.mem_cons_of_mem _ (List.mem_cons_of_mem _ (List.mem_cons_of_mem _ (List.Mem.head _)))))))))))) (kt_wf1 (List.mem_cons_of_mem _ (List.mem_append_left _ (List.mem_cons_of_mem _ (List.mem_cons_of_mem _ (List.mem_cons_of_mem _ (List.mem_cons_of_mem _ (List.mem_cons_of_mem _ (List.mem_cons_of_mem _ (List.mem_cons_of_mem _ (List.mem_cons_of_mem _ (List.mem_cons_of_mem _ (List.mem_cons_of_mem _ (List.Mem.head _))))))))))))) (kt_wf1 (List.mem_cons_of_mem _ (List.mem_append_left _ (List.mem_cons_of_mem _ (List.mem_cons_of_mem _ (List.mem_cons_of_mem _ (List.mem_cons_of_mem _ (List.mem_cons_of_mem _ (List.mem_cons_of_mem _ (List.mem_cons_of_mem _ (List.mem_cons_of_mem _ (List.mem_cons_of_mem _ (List.mem_cons_of_mem _ (List.mem_cons_of_mem _ (List.Mem.head _)))))))))))))) kt_wf0)))) (by decide +kernel)) ggX11_about_X11_fields
theorem sX11_about_0 : kt_sg cX11_about 0 [42, 180, 0, 73, 158, 0, 7, 4, 167, 0, 4, 3, 61, 27] = true := by decide +kernel
theorem dX11_about_0 : decode cX11_about 0 = .ok (.aload_n 0, 1) := kt_o42 (j := 0) sX11_about_0 rfl
theorem dX11_about_1 : decode cX11_about 1 = .ok (.getfield 73, 3) := kt_o180 (j := 1) sX11_about_0 rfl rfl
theorem dX11_about_4 : decode cX11_about 4 = .ok (.ifCond .le 7, 3) := kt_o158 (j := 4) sX11_about_0 rfl (by decide +kernel)
theorem dX11_about_7 : decode cX11_about 7 = .ok (.iconst 1, 1) := kt_o4 (j := 7) sX11_about_0 rfl
theorem dX11_about_8 : decode cX11_about 8 = .ok (.goto 4, 3) := kt_o167 (j := 8) sX11_about_0 rfl (by decide +kernel)
theorem dX11_about_11 : decode cX11_about 11 = .ok (.iconst 0, 1) := kt_o3 (j := 11) sX11_about_0 rfl
theorem dX11_about_12 : decode cX11_about 12 = .ok (.istore_n 2, 1) := kt_o61 (j := 12) sX11_about_0 rfl
theorem dX11_about_13 : decode cX11_about 13 = .ok (.iload_n 1, 1) := kt_o27 (j := 13) sX11_about_0 rfl
theorem dX11_about_14 : decode cX11_about 14 = .ok (.tableswitch 179 0 8 #[50, 55, 72, 85, 130, 143, 148, 161, 166], 50) := by decide +kernel
theorem sX11_about_64 : kt_sg cX11_about 64 [42, 180, 0, 73, 172, 42, 180, 0, 73, 4, 160, 0, 10, 42, 180, 0, 126, 167, 0, 4, 2, 172, 28, 153, 0, 10, 42, 180, 0, 103, 167, 0, 4, 3, 172, 3, 62, 3, 54, 4, 21, 4, 42, 180, 0, 103, 162, 0, 32, 28, 153, 0, 28, 29, 42, 180, 0, 30, 21, 4, 46, 2, 160, 0, 7] = true := by decide +kernel
theorem dX11_about_64 : decode cX11_about 64 = .ok (.aload_n 0, 1) := kt_o42 (j := 0) sX11_about_64 rfl
theorem dX11_about_65 : decode cX11_about 65 = .ok (.getfield 73, 3) := kt_o180 (j := 1) sX11_about_64 rfl rfl
theorem dX11_about_68 : decode cX11_about 68 = .ok (.ireturn, 1) := kt_o172 (j := 4) sX11_about_64 rfl
theorem dX11_about_69 : decode cX11_about 69 = .ok (.aload_n 0, 1) := kt_o42 (j := 5) sX11_about_64 rfl
theorem dX11_about_70 : decode cX11_about 70 = .ok (.getfield 73, 3) := kt_o180 (j := 6) sX11_about_64 rfl rfl
theorem dX11_about_73 : decode cX11_about 73 = .ok (.iconst 1, 1) := kt_o4 (j := 9) sX11_about_64 rfl
theorem dX11_about_74 : decode cX11_about 74 = .ok (.if_icmp .ne 10, 3) := kt_o160 (j := 10) sX11_about_64 rfl (by decide +kernel)
theorem dX11_about_77 : decode cX11_about 77 = .ok (.aload_n 0, 1) := kt_o42 (j := 13) sX11_about_64 rfl
theorem dX11_about_78 : decode cX11_about 78 = .ok (.getfield 126, 3) := kt_o180 (j := 14) sX11_about_64 rfl rfl
theorem dX11_about_81 : decode cX11_about 81 = .ok (.goto 4, 3) := kt_o167 (j := 17) sX11_about_64 rfl (by decide +kernel)
theorem dX11_about_84 : decode cX11_about 84 = .ok (.iconst (-1), 1) := kt_o2 (j := 20) sX11_about_64 rfl
theorem dX11_about_85 : decode cX11_about 85 = .ok (.ireturn, 1) := kt_o172 (j := 21) sX11_about_64 rfl
theorem dX11_about_86 : decode cX11_about 86 = .ok (.iload_n 2, 1) := kt_o28 (j := 22) sX11_about_64 rfl
theorem dX11_about_87 : decode cX11_about 87 = .ok (.ifCond .eq 10, 3) := kt_o153 (j := 23) sX11_about_64 rfl (by decide +kernel)
theorem dX11_about_90 : decode cX11_about 90 = .ok (.aload_n 0, 1) := kt_o42 (j := 26) sX11_about_64 rfl
theorem dX11_about_91 : decode cX11_about 91 = .ok (.getfield 103, 3) := kt_o180 (j := 27) sX11_about_64 rfl rfl
theorem dX11_about_94 : decode cX11_about 94 = .ok (.goto 4, 3) := kt_o167 (j := 30) sX11_about_64 rfl (by decide +kernel)
theorem dX11_about_97 : decode cX11_about 97 = .ok (.iconst 0, 1) := kt_o3 (j := 33) sX11_about_64 rfl
theorem dX11_about_98 : decode cX11_about 98 = .ok (.ireturn, 1) := kt_o172 (j := 34) sX11_about_64 rfl
theorem dX11_about_99 : decode cX11_about 99 = .ok (.iconst 0, 1) := kt_o3 (j := 35) sX11_about_64 rfl
theorem dX11_about_100 : decode cX11_about 100 = .ok (.istore_n 3, 1) := kt_o62 (j := 36) sX11_about_64 rfl
theorem dX11_about_101 : decode cX11_about 101 = .ok (.iconst 0, 1) := kt_o3 (j := 37) sX11_about_64 rfl
theorem dX11_about_102 : decode cX11_about 102 = .ok (.istore 4, 2) := kt_o54 (j := 38) sX11_about_64 rfl
theorem dX11_about_104 : decode cX11_about 104 = .ok (.iload 4, 2) := kt_o21 (j := 40) sX11_about_64 rfl
theorem dX11_about_106 : decode cX11_about 106 = .ok (.aload_n 0, 1) := kt_o42 (j := 42) sX11_about_64 rfl
theorem dX11_about_107 : decode cX11_about 107 = .ok (.getfield 103, 3) := kt_o180 (j := 43) sX11_about_64 rfl rfl
theorem dX11_about_110 : decode cX11_about 110 = .ok (.if_icmp .ge 32, 3) := kt_o162 (j := 46) sX11_about_64 rfl (by decide +kernel)
theorem dX11_about_113 : decode cX11_about 113 = .ok (.iload_n 2, 1) := kt_o28 (j := 49) sX11_about_64 rfl
theorem dX11_about_114 : decode cX11_about 114 = .ok (.ifCond .eq 28, 3) := kt_o153 (j := 50) sX11_about_64 rfl (by decide +kernel)
theorem dX11_about_117 : decode cX11_about 117 = .ok (.iload_n 3, 1) := kt_o29 (j := 53) sX11_about_64 rfl
theorem dX11_about_118 : decode cX11_about 118 = .ok (.aload_n 0, 1) := kt_o42 (j := 54) sX11_about_64 rfl
theorem dX11_about_119 : decode cX11_about 119 = .ok (.getfield 30, 3) := kt_o180 (j := 55) sX11_about_64 rfl rfl
theorem dX11_about_122 : decode cX11_about 122 = .ok (.iload 4, 2) := kt_o21 (j := 58) sX11_about_64 rfl
theorem dX11_about_124 : decode cX11_about 124 = .ok (.iaload, 1) := kt_o46 (j := 60) sX11_about_64 rfl
theorem dX11_about_125 : decode cX11_about 125 = .ok (.iconst (-1), 1) := kt_o2 (j := 61) sX11_about_64 rfl
theorem dX11_about_126 : decode cX11_about 126 = .ok (.if_icmp .ne 7, 3) := kt_o160 (j := 62) sX11_about_64 rfl (by decide +kernel)
theorem sX11_about_129 : kt_sg cX11_about 129 [4, 167, 0, 4, 3, 96, 62, 132, 4, 1, 167, 255, 221, 29, 172, 28, 153, 0, 10, 42, 180, 0, 138, 167, 0, 4, 3, 172, 42, 182, 0, 88, 172, 28, 153, 0, 10, 42, 180, 0, 141, 167, 0, 4, 3, 172, 42, 180, 0, 7, 172, 28, 153, 0, 10, 42, 180, 0, 120, 167, 0, 4, 2, 172] = true := by decide +kernel
theorem dX11_about_129 : decode cX11_about 129 = .ok (.iconst 1, 1) := kt_o4 (j := 0) sX11_about_129 rfl
theorem dX11_about_130 : decode cX11_about 130 = .ok (.goto 4, 3) := kt_o167 (j := 1) sX11_about_129 rfl (by decide +kernel)
theorem dX11_about_133 : decode cX11_about 133 = .ok (.iconst 0, 1) := kt_o3 (j := 4) sX11_about_129 rfl
theorem dX11_about_134 : decode cX11_about 134 = .ok (.iadd, 1) := kt_o96 (j := 5) sX11_about_129 rfl
theorem dX11_about_135 : decode cX11_about 135 = .ok (.istore_n 3, 1) := kt_o62 (j := 6) sX11_about_129 rfl
theorem dX11_about_136 : decode cX11_about 136 = .ok (.iinc 4 1, 3) := kt_o132 (j := 7) sX11_about_129 rfl (by decide +kernel)
theorem dX11_about_139 : decode cX11_about 139 = .ok (.goto (-35), 3) := kt_o167 (j := 10) sX11_about_129 rfl (by decide +kernel)
theorem dX11_about_142 : decode cX11_about 142 = .ok (.iload_n 3, 1) := kt_o29 (j := 13) sX11_about_129 rfl
theorem dX11_about_143 : decode cX11_about 143 = .ok (.ireturn, 1) := kt_o172 (j := 14) sX11_about_129 rfl
theorem dX11_about_144 : decode cX11_about 144 = .ok (.iload_n 2, 1) := kt_o28 (j := 15) sX11_about_129 rfl
theorem dX11_about_145 : decode cX11_about 145 = .ok (.ifCond .eq 10, 3) := kt_o153 (j := 16) sX11_about_129 rfl (by decide +kernel)
theorem dX11_about_148 : decode cX11_about 148 = .ok (.aload_n 0, 1) := kt_o42 (j := 19) sX11_about_129 rfl
theorem dX11_about_149 : decode cX11_about 149 = .ok (.getfield 138, 3) := kt_o180 (j := 20) sX11_about_129 rfl rfl
theorem dX11_about_152 : decode cX11_about 152 = .ok (.goto 4, 3) := kt_o167 (j := 23) sX11_about_129 rfl (by decide +kernel)
theorem dX11_about_155 : decode cX11_about 155 = .ok (.iconst 0, 1) := kt_o3 (j := 26) sX11_about_129 rfl
theorem dX11_about_156 : decode cX11_about 156 = .ok (.ireturn, 1) := kt_o172 (j := 27) sX11_about_129 rfl
theorem dX11_about_157 : decode cX11_about 157 = .ok (.aload_n 0, 1) := kt_o42 (j := 28) sX11_about_129 rfl
theorem dX11_about_158 : decode cX11_about 158 = .ok (.invokevirtual 88, 3) := kt_o182 (j := 29) sX11_about_129 rfl rfl
theorem dX11_about_161 : decode cX11_about 161 = .ok (.ireturn, 1) := kt_o172 (j := 32) sX11_about_129 rfl
theorem dX11_about_162 : decode cX11_about 162 = .ok (.iload_n 2, 1) := kt_o28 (j := 33) sX11_about_129 rfl
theorem dX11_about_163 : decode cX11_about 163 = .ok (.ifCond .eq 10, 3) := kt_o153 (j := 34) sX11_about_129 rfl (by decide +kernel)
theorem dX11_about_166 : decode cX11_about 166 = .ok (.aload_n 0, 1) := kt_o42 (j := 37) sX11_about_129 rfl
theorem dX11_about_167 : decode cX11_about 167 = .ok (.getfield 141, 3) := kt_o180 (j := 38) sX11_about_129 rfl rfl
theorem dX11_about_170 : decode cX11_about 170 = .ok (.goto 4, 3) := kt_o167 (j := 41) sX11_about_129 rfl (by decide +kernel)
theorem dX11_about_173 : decode cX11_about 173 = .ok (.iconst 0, 1) := kt_o3 (j := 44) sX11_about_129 rfl
theorem dX11_about_174 : decode cX11_about 174 = .ok (.ireturn, 1) := kt_o172 (j := 45) sX11_about_129 rfl
theorem dX11_about_175 : decode cX11_about 175 = .ok (.aload_n 0, 1) := kt_o42 (j := 46) sX11_about_129 rfl
theorem dX11_about_176 : decode cX11_about 176 = .ok (.getfield 7, 3) := kt_o180 (j := 47) sX11_about_129 rfl rfl
theorem dX11_about_179 : decode cX11_about 179 = .ok (.ireturn, 1) := kt_o172 (j := 50) sX11_about_129 rfl
theorem dX11_about_180 : decode cX11_about 180 = .ok (.iload_n 2, 1) := kt_o28 (j := 51) sX11_about_129 rfl
theorem dX11_about_181 : decode cX11_about 181 = .ok (.ifCond .eq 10, 3) := kt_o153 (j := 52) sX11_about_129 rfl (by decide +kernel)
theorem dX11_about_184 : decode cX11_about 184 = .ok (.aload_n 0, 1) := kt_o42 (j := 55) sX11_about_129 rfl
theorem dX11_about_185 : decode cX11_about 185 = .ok (.getfield 120, 3) := kt_o180 (j := 56) sX11_about_129 rfl rfl
theorem dX11_about_188 : decode cX11_about 188 = .ok (.goto 4, 3) := kt_o167 (j := 59) sX11_about_129 rfl (by decide +kernel)
theorem dX11_about_191 : decode cX11_about 191 = .ok (.iconst (-1), 1) := kt_o2 (j := 62) sX11_about_129 rfl
theorem dX11_about_192 : decode cX11_about 192 = .ok (.ireturn, 1) := kt_o172 (j := 63) sX11_about_129 rfl
theorem sX11_about_193 : kt_sg cX11_about 193 [2, 172] = true := by decide +kernel
theorem dX11_about_193 : decode cX11_about 193 = .ok (.iconst (-1), 1) := kt_o2 (j := 0) sX11_about_193 rfl
theorem dX11_about_194 : decode cX11_about 194 = .ok (.ireturn, 1) := kt_o172 (j := 1) sX11_about_193 rfl
theorem kt_wp_X11_piece__X11_piece_r1 {w : Cond} (h : w ∈ wsX11_piece_r1) : w ∈ wsX11_piece := List.mem_cons_of_mem _ (List.mem_append_left _ (List.mem_append_left _ (h)))
theorem kt_wp_X11_piece__X11_piece_r2 {w : Cond} (h : w ∈ wsX11_piece_r2) : w ∈ wsX11_piece := List.mem_cons_of_mem _ (List.mem_append_left _ (List.mem_append_right _ (h)))
theorem kt_wp_X11_piece__X110 {w : Cond} (h : w ∈ wsX110) : w ∈ wsX11_piece := List.mem_cons_of_mem _ (List.mem_append_right _ (h))
set_option maxRecDepth 20000 in
theorem ggX11_piece_X11_isIn : GoodIn wsX11_piece wsX11_isIn := goodIn_sub (kt_wf1 (kt_wp_X11_piece__X11_piece_r1 kt_wm8) kt_wf0) kt_wg_X11_isIn
set_option maxRecDepth 20000 in
theorem gX11_piece_X11_isIn : GoodIn wsX11_piece (va_wsS RX11 69 yX11_isIn wsX11_isIn) := goodIn_app (goodIn_of _ (by decide +kernel)) ggX11_piece_X11_isIn
set_option maxRecDepth 20000 in
theorem ggX11_piece_X11_sideOf : GoodIn wsX11_piece wsX11_sideOf := goodIn_sub (kt_wf1 (kt_wp_X11_piece__X11_piece_r1 kt_wm12) (kt_wfa (kt_wf1 (kt_wp_X11_piece__X11_piece_r1 kt_wm2) kt_wf0) (fun _ h => kt_wp_X11_piece__X110 h))) kt_wg_X11_sideOf
set_option maxRecDepth 20000 in
theorem gX11_piece_X11_sideOf : GoodIn wsX11_piece (wsV RX11 106 RX11 yX11_sideOf wsX11_sideOf) := goodIn_app (a := [.methodLink RX11 106 yX11_sideOf, .instanceMethod yX11_sideOf, .selects RX11 yX11_sideOf yX11_sideOf, .initialized RX11]) (goodIn_sub (kt_wf1 (kt_wp_X11_piece__X11_piece_r1 kt_wm9) (kt_wf1 (kt_wp_X11_piece__X11_piece_r1 kt_wm10) (kt_wf1 (kt_wp_X11_piece__X11_piece_r1 kt_wm11) (kt_wf1 (kt_wp_X11_piece__X11_piece_r1 kt_wm7) kt_wf0)))) (by decide +kernel)) ggX11_piece_X11_sideOf
set_option maxRecDepth 20000 in
theorem ggX11_piece_X11_movesOf : GoodIn wsX11_piece wsX11_movesOf := goodIn_sub (kt_wf1 (kt_wp_X11_piece__X11_piece_r1 kt_wm16) (kt_wfa (kt_wf1 (kt_wp_X11_piece__X11_piece_r1 kt_wm3) (kt_wf1 (kt_wp_X11_piece__X11_piece_r1 kt_wm17) (kt_wf1 (kt_wp_X11_piece__X11_piece_r1 kt_wm18) (kt_wf1 (kt_wp_X11_piece__X11_piece_r1 kt_wm19) (kt_wf1 (kt_wp_X11_piece__X11_piece_r1 kt_wm7) (kt_wf1 (kt_wp_X11_piece__X11_piece_r1 kt_wm20) (kt_wf1 (kt_wp_X11_piece__X11_piece_r1 kt_wm2) (kt_wf1 (kt_wp_X11_piece__X11_piece_r1 kt_wm21) (kt_wf1 (kt_wp_X11_piece__X11_piece_r1 kt_wm22) (kt_wf1 (kt_wp_X11_piece__X11_piece_r1 kt_wm23) (kt_wf1 (kt_wp_X11_piece__X11_piece_r2 kt_wm0) (kt_wf1 (kt_wp_X11_piece__X11_piece_r2 kt_wm1) (kt_wf1 (kt_wp_X11_piece__X11_piece_r2 kt_wm2) (kt_wf1 (kt_wp_X11_piece__X11_piece_r2 kt_wm3) (kt_wf1 (kt_wp_X11_piece__X11_piece_r2 kt_wm4) (kt_wf1 (kt_wp_X11_piece__X11_piece_r2 kt_wm5) (kt_wf1 (kt_wp_X11_piece__X11_piece_r2 kt_wm6) (kt_wf1 (kt_wp_X11_piece__X11_piece_r2 kt_wm7) (kt_wf1 (kt_wp_X11_piece__X11_piece_r2 kt_wm8) (kt_wf1 (kt_wp_X11_piece__X11_piece_r2 kt_wm9) kt_wf0)))))))))))))))))))) (fun _ h => kt_wp_X11_piece__X110 h))) kt_wg_X11_movesOf
set_option maxRecDepth 20000 in
theorem gX11_piece_X11_movesOf : GoodIn wsX11_piece (wsV RX11 110 RX11 yX11_movesOf wsX11_movesOf) := goodIn_app (a := [.methodLink RX11 110 yX11_movesOf, .instanceMethod yX11_movesOf, .selects RX11 yX11_movesOf yX11_movesOf, .initialized RX11]) (goodIn_sub (kt_wf1 (kt_wp_X11_piece__X11_piece_r1 kt_wm13) (kt_wf1 (kt_wp_X11_piece__X11_piece_r1 kt_wm14) (kt_wf1 (kt_wp_X11_piece__X11_piece_r1 kt_wm15) (kt_wf1 (kt_wp_X11_piece__X11_piece_r1 kt_wm7) kt_wf0)))) (by decide +kernel)) ggX11_piece_X11_movesOf
set_option maxRecDepth 20000 in
theorem ggX11_piece_X11_takes : GoodIn wsX11_piece wsX11_takes := goodIn_sub (kt_wf1 (kt_wp_X11_piece__X11_piece_r2 kt_wm13) (kt_wfa (kt_wf1 (kt_wp_X11_piece__X11_piece_r1 kt_wm2) (kt_wf1 (kt_wp_X11_piece__X11_piece_r2 kt_wm14) kt_wf0)) (fun _ h => kt_wp_X11_piece__X110 h))) kt_wg_X11_takes
set_option maxRecDepth 20000 in
theorem gX11_piece_X11_takes : GoodIn wsX11_piece (wsV RX11 113 RX11 yX11_takes wsX11_takes) := goodIn_app (a := [.methodLink RX11 113 yX11_takes, .instanceMethod yX11_takes, .selects RX11 yX11_takes yX11_takes, .initialized RX11]) (goodIn_sub (kt_wf1 (kt_wp_X11_piece__X11_piece_r2 kt_wm10) (kt_wf1 (kt_wp_X11_piece__X11_piece_r2 kt_wm11) (kt_wf1 (kt_wp_X11_piece__X11_piece_r2 kt_wm12) (kt_wf1 (kt_wp_X11_piece__X11_piece_r1 kt_wm7) kt_wf0)))) (by decide +kernel)) ggX11_piece_X11_takes
theorem sX11_piece_0 : kt_sg cX11_piece 0 [42, 180, 0, 73, 153, 0, 17, 27, 3, 42, 180, 0, 103, 4, 100, 184, 0, 69, 154, 0, 5, 2, 172, 28] = true := by decide +kernel
theorem dX11_piece_0 : decode cX11_piece 0 = .ok (.aload_n 0, 1) := kt_o42 (j := 0) sX11_piece_0 rfl
theorem dX11_piece_1 : decode cX11_piece 1 = .ok (.getfield 73, 3) := kt_o180 (j := 1) sX11_piece_0 rfl rfl
theorem dX11_piece_4 : decode cX11_piece 4 = .ok (.ifCond .eq 17, 3) := kt_o153 (j := 4) sX11_piece_0 rfl (by decide +kernel)
theorem dX11_piece_7 : decode cX11_piece 7 = .ok (.iload_n 1, 1) := kt_o27 (j := 7) sX11_piece_0 rfl
theorem dX11_piece_8 : decode cX11_piece 8 = .ok (.iconst 0, 1) := kt_o3 (j := 8) sX11_piece_0 rfl
theorem dX11_piece_9 : decode cX11_piece 9 = .ok (.aload_n 0, 1) := kt_o42 (j := 9) sX11_piece_0 rfl
theorem dX11_piece_10 : decode cX11_piece 10 = .ok (.getfield 103, 3) := kt_o180 (j := 10) sX11_piece_0 rfl rfl
theorem dX11_piece_13 : decode cX11_piece 13 = .ok (.iconst 1, 1) := kt_o4 (j := 13) sX11_piece_0 rfl
theorem dX11_piece_14 : decode cX11_piece 14 = .ok (.isub, 1) := kt_o100 (j := 14) sX11_piece_0 rfl
theorem dX11_piece_15 : decode cX11_piece 15 = .ok (.invokestatic 69, 3) := kt_o184 (j := 15) sX11_piece_0 rfl rfl
theorem dX11_piece_18 : decode cX11_piece 18 = .ok (.ifCond .ne 5, 3) := kt_o154 (j := 18) sX11_piece_0 rfl (by decide +kernel)
theorem dX11_piece_21 : decode cX11_piece 21 = .ok (.iconst (-1), 1) := kt_o2 (j := 21) sX11_piece_0 rfl
theorem dX11_piece_22 : decode cX11_piece 22 = .ok (.ireturn, 1) := kt_o172 (j := 22) sX11_piece_0 rfl
theorem dX11_piece_23 : decode cX11_piece 23 = .ok (.iload_n 2, 1) := kt_o28 (j := 23) sX11_piece_0 rfl
theorem dX11_piece_24 : decode cX11_piece 24 = .ok (.tableswitch 90 0 3 #[32, 39, 46, 76], 32) := by decide +kernel
theorem sX11_piece_56 : kt_sg cX11_piece 56 [42, 180, 0, 27, 27, 46, 172, 42, 180, 0, 30, 27, 46, 172, 42, 180, 0, 73, 4, 160, 0, 23, 42, 27, 182, 0, 106, 42, 180, 0, 126, 160, 0, 11, 42, 27, 182, 0, 110, 167, 0, 4, 3, 172, 42, 27, 182, 0, 113, 153, 0, 7, 4, 167, 0, 4, 3, 172, 2, 172] = true := by decide +kernel
theorem dX11_piece_56 : decode cX11_piece 56 = .ok (.aload_n 0, 1) := kt_o42 (j := 0) sX11_piece_56 rfl
theorem dX11_piece_57 : decode cX11_piece 57 = .ok (.getfield 27, 3) := kt_o180 (j := 1) sX11_piece_56 rfl rfl
theorem dX11_piece_60 : decode cX11_piece 60 = .ok (.iload_n 1, 1) := kt_o27 (j := 4) sX11_piece_56 rfl
theorem dX11_piece_61 : decode cX11_piece 61 = .ok (.iaload, 1) := kt_o46 (j := 5) sX11_piece_56 rfl
theorem dX11_piece_62 : decode cX11_piece 62 = .ok (.ireturn, 1) := kt_o172 (j := 6) sX11_piece_56 rfl
theorem dX11_piece_63 : decode cX11_piece 63 = .ok (.aload_n 0, 1) := kt_o42 (j := 7) sX11_piece_56 rfl
theorem dX11_piece_64 : decode cX11_piece 64 = .ok (.getfield 30, 3) := kt_o180 (j := 8) sX11_piece_56 rfl rfl
theorem dX11_piece_67 : decode cX11_piece 67 = .ok (.iload_n 1, 1) := kt_o27 (j := 11) sX11_piece_56 rfl
theorem dX11_piece_68 : decode cX11_piece 68 = .ok (.iaload, 1) := kt_o46 (j := 12) sX11_piece_56 rfl
theorem dX11_piece_69 : decode cX11_piece 69 = .ok (.ireturn, 1) := kt_o172 (j := 13) sX11_piece_56 rfl
theorem dX11_piece_70 : decode cX11_piece 70 = .ok (.aload_n 0, 1) := kt_o42 (j := 14) sX11_piece_56 rfl
theorem dX11_piece_71 : decode cX11_piece 71 = .ok (.getfield 73, 3) := kt_o180 (j := 15) sX11_piece_56 rfl rfl
theorem dX11_piece_74 : decode cX11_piece 74 = .ok (.iconst 1, 1) := kt_o4 (j := 18) sX11_piece_56 rfl
theorem dX11_piece_75 : decode cX11_piece 75 = .ok (.if_icmp .ne 23, 3) := kt_o160 (j := 19) sX11_piece_56 rfl (by decide +kernel)
theorem dX11_piece_78 : decode cX11_piece 78 = .ok (.aload_n 0, 1) := kt_o42 (j := 22) sX11_piece_56 rfl
theorem dX11_piece_79 : decode cX11_piece 79 = .ok (.iload_n 1, 1) := kt_o27 (j := 23) sX11_piece_56 rfl
theorem dX11_piece_80 : decode cX11_piece 80 = .ok (.invokevirtual 106, 3) := kt_o182 (j := 24) sX11_piece_56 rfl rfl
theorem dX11_piece_83 : decode cX11_piece 83 = .ok (.aload_n 0, 1) := kt_o42 (j := 27) sX11_piece_56 rfl
theorem dX11_piece_84 : decode cX11_piece 84 = .ok (.getfield 126, 3) := kt_o180 (j := 28) sX11_piece_56 rfl rfl
theorem dX11_piece_87 : decode cX11_piece 87 = .ok (.if_icmp .ne 11, 3) := kt_o160 (j := 31) sX11_piece_56 rfl (by decide +kernel)
theorem dX11_piece_90 : decode cX11_piece 90 = .ok (.aload_n 0, 1) := kt_o42 (j := 34) sX11_piece_56 rfl
theorem dX11_piece_91 : decode cX11_piece 91 = .ok (.iload_n 1, 1) := kt_o27 (j := 35) sX11_piece_56 rfl
theorem dX11_piece_92 : decode cX11_piece 92 = .ok (.invokevirtual 110, 3) := kt_o182 (j := 36) sX11_piece_56 rfl rfl
theorem dX11_piece_95 : decode cX11_piece 95 = .ok (.goto 4, 3) := kt_o167 (j := 39) sX11_piece_56 rfl (by decide +kernel)
theorem dX11_piece_98 : decode cX11_piece 98 = .ok (.iconst 0, 1) := kt_o3 (j := 42) sX11_piece_56 rfl
theorem dX11_piece_99 : decode cX11_piece 99 = .ok (.ireturn, 1) := kt_o172 (j := 43) sX11_piece_56 rfl
theorem dX11_piece_100 : decode cX11_piece 100 = .ok (.aload_n 0, 1) := kt_o42 (j := 44) sX11_piece_56 rfl
theorem dX11_piece_101 : decode cX11_piece 101 = .ok (.iload_n 1, 1) := kt_o27 (j := 45) sX11_piece_56 rfl
theorem dX11_piece_102 : decode cX11_piece 102 = .ok (.invokevirtual 113, 3) := kt_o182 (j := 46) sX11_piece_56 rfl rfl
theorem dX11_piece_105 : decode cX11_piece 105 = .ok (.ifCond .eq 7, 3) := kt_o153 (j := 49) sX11_piece_56 rfl (by decide +kernel)
theorem dX11_piece_108 : decode cX11_piece 108 = .ok (.iconst 1, 1) := kt_o4 (j := 52) sX11_piece_56 rfl
theorem dX11_piece_109 : decode cX11_piece 109 = .ok (.goto 4, 3) := kt_o167 (j := 53) sX11_piece_56 rfl (by decide +kernel)
theorem dX11_piece_112 : decode cX11_piece 112 = .ok (.iconst 0, 1) := kt_o3 (j := 56) sX11_piece_56 rfl
theorem dX11_piece_113 : decode cX11_piece 113 = .ok (.ireturn, 1) := kt_o172 (j := 57) sX11_piece_56 rfl
theorem dX11_piece_114 : decode cX11_piece 114 = .ok (.iconst (-1), 1) := kt_o2 (j := 58) sX11_piece_56 rfl
theorem dX11_piece_115 : decode cX11_piece 115 = .ok (.ireturn, 1) := kt_o172 (j := 59) sX11_piece_56 rfl
theorem kt_wp_X11_on__X110 {w : Cond} (h : w ∈ wsX110) : w ∈ wsX11_on := List.mem_cons_of_mem _ (List.mem_append_right _ (h))
set_option maxRecDepth 20000 in
theorem ggX11_on_X11_fields : GoodIn wsX11_on wsX11_fields := goodIn_sub (kt_wf1 (List.mem_cons_of_mem _ (List.mem_append_left _ (List.mem_cons_of_mem _ (List.mem_cons_of_mem _ (List.mem_cons_of_mem _ (List.mem_cons_of_mem _ (List.mem_cons_of_mem _ (List.mem_cons_of_mem _ (List.Mem.head _))))))))) (kt_wfa (kt_wf1 (List.mem_cons_of_mem _ (List.mem_append_left _ (List.mem_cons_of_mem _ (List.mem_cons_of_mem _ (List.mem_cons_of_mem _ (List.mem_cons_of_mem _ (List.mem_cons_of_mem _ (List.mem_cons_of_mem _ (List.mem_cons_of_mem _ (List.Mem.head _)))))))))) (kt_wf1 (List.mem_cons_of_mem _ (List.mem_append_left _ (List.mem_cons_of_mem _ (List.mem_cons_of_mem _ (List.mem_cons_of_mem _ (List.mem_cons_of_mem _ (List.mem_cons_of_mem _ (List.mem_cons_of_mem _ (List.mem_cons_of_mem _ (List.mem_cons_of_mem _ (List.Mem.head _))))))))))) kt_wf0)) (fun _ h => kt_wp_X11_on__X110 h))) kt_wg_X11_fields
set_option maxRecDepth 20000 in
theorem gX11_on_X11_fields : GoodIn wsX11_on (wsV RX11 88 RX11 yX11_fields wsX11_fields) := goodIn_app (a := [.methodLink RX11 88 yX11_fields, .instanceMethod yX11_fields, .selects RX11 yX11_fields yX11_fields, .initialized RX11]) (goodIn_sub (kt_wf1 (List.mem_cons_of_mem _ (List.mem_append_left _ (List.mem_cons_of_mem _ (List.mem_cons_of_mem _ (List.Mem.head _))))) (kt_wf1 (List.mem_cons_of_mem _ (List.mem_append_left _ (List.mem_cons_of_mem _ (List.mem_cons_of_mem _ (List.mem_cons_of_mem _ (List.Mem.head _)))))) (kt_wf1 (List.mem_cons_of_mem _ (List.mem_append_left _ (List.mem_cons_of_mem _ (List.mem_cons_of_mem _ (List.mem_cons_of_mem _ (List.mem_cons_of_mem _ (List.Mem.head _))))))) (kt_wf1 (List.mem_cons_of_mem _ (List.mem_append_left _ (List.mem_cons_of_mem _ (List.mem_cons_of_mem _ (List.mem_cons_of_mem _ (List.mem_cons_of_mem _ (List.mem_cons_of_mem _ (List.Mem.head _)))))))) kt_wf0)))) (by decide +kernel)) ggX11_on_X11_fields
set_option maxRecDepth 20000 in
theorem ggX11_on_X11_isIn : GoodIn wsX11_on wsX11_isIn := goodIn_sub (kt_wf1 (List.mem_cons_of_mem _ (List.mem_append_left _ (List.mem_cons_of_mem _ (List.mem_cons_of_mem _ (List.mem_cons_of_mem _ (List.mem_cons_of_mem _ (List.mem_cons_of_mem _ (List.mem_cons_of_mem _ (List.mem_cons_of_mem _ (List.mem_cons_of_mem _ (List.mem_cons_of_mem _ (List.mem_cons_of_mem _ (List.mem_cons_of_mem _ (List.Mem.head _)))))))))))))) kt_wf0) kt_wg_X11_isIn
set_option maxRecDepth 20000 in
theorem gX11_on_X11_isIn : GoodIn wsX11_on (va_wsS RX11 69 yX11_isIn wsX11_isIn) := goodIn_app (goodIn_of _ (by decide +kernel)) ggX11_on_X11_isIn
theorem sX11_on_0 : kt_sg cX11_on 0 [42, 180, 0, 73, 158, 0, 26, 27, 3, 42, 182, 0, 88, 4, 100, 184, 0, 69, 153, 0, 12, 42, 180, 0, 33, 27, 46, 167, 0, 4, 2, 172] = true := by decide +kernel
theorem dX11_on_0 : decode cX11_on 0 = .ok (.aload_n 0, 1) := kt_o42 (j := 0) sX11_on_0 rfl
theorem dX11_on_1 : decode cX11_on 1 = .ok (.getfield 73, 3) := kt_o180 (j := 1) sX11_on_0 rfl rfl
theorem dX11_on_4 : decode cX11_on 4 = .ok (.ifCond .le 26, 3) := kt_o158 (j := 4) sX11_on_0 rfl (by decide +kernel)
theorem dX11_on_7 : decode cX11_on 7 = .ok (.iload_n 1, 1) := kt_o27 (j := 7) sX11_on_0 rfl
theorem dX11_on_8 : decode cX11_on 8 = .ok (.iconst 0, 1) := kt_o3 (j := 8) sX11_on_0 rfl
theorem dX11_on_9 : decode cX11_on 9 = .ok (.aload_n 0, 1) := kt_o42 (j := 9) sX11_on_0 rfl
theorem dX11_on_10 : decode cX11_on 10 = .ok (.invokevirtual 88, 3) := kt_o182 (j := 10) sX11_on_0 rfl rfl
theorem dX11_on_13 : decode cX11_on 13 = .ok (.iconst 1, 1) := kt_o4 (j := 13) sX11_on_0 rfl
theorem dX11_on_14 : decode cX11_on 14 = .ok (.isub, 1) := kt_o100 (j := 14) sX11_on_0 rfl
theorem dX11_on_15 : decode cX11_on 15 = .ok (.invokestatic 69, 3) := kt_o184 (j := 15) sX11_on_0 rfl rfl
theorem dX11_on_18 : decode cX11_on 18 = .ok (.ifCond .eq 12, 3) := kt_o153 (j := 18) sX11_on_0 rfl (by decide +kernel)
theorem dX11_on_21 : decode cX11_on 21 = .ok (.aload_n 0, 1) := kt_o42 (j := 21) sX11_on_0 rfl
theorem dX11_on_22 : decode cX11_on 22 = .ok (.getfield 33, 3) := kt_o180 (j := 22) sX11_on_0 rfl rfl
theorem dX11_on_25 : decode cX11_on 25 = .ok (.iload_n 1, 1) := kt_o27 (j := 25) sX11_on_0 rfl
theorem dX11_on_26 : decode cX11_on 26 = .ok (.iaload, 1) := kt_o46 (j := 26) sX11_on_0 rfl
theorem dX11_on_27 : decode cX11_on 27 = .ok (.goto 4, 3) := kt_o167 (j := 27) sX11_on_0 rfl (by decide +kernel)
theorem dX11_on_30 : decode cX11_on 30 = .ok (.iconst (-1), 1) := kt_o2 (j := 30) sX11_on_0 rfl
theorem dX11_on_31 : decode cX11_on 31 = .ok (.ireturn, 1) := kt_o172 (j := 31) sX11_on_0 rfl
theorem kt_wp_X11_field__X110 {w : Cond} (h : w ∈ wsX110) : w ∈ wsX11_field := List.mem_cons_of_mem _ (List.mem_append_right _ (h))
set_option maxRecDepth 20000 in
theorem ggX11_field_X11_fields : GoodIn wsX11_field wsX11_fields := goodIn_sub (kt_wf1 (List.mem_cons_of_mem _ (List.mem_append_left _ (List.mem_cons_of_mem _ (List.mem_cons_of_mem _ (List.mem_cons_of_mem _ (List.mem_cons_of_mem _ (List.mem_cons_of_mem _ (List.mem_cons_of_mem _ (List.Mem.head _))))))))) (kt_wfa (kt_wf1 (List.mem_cons_of_mem _ (List.mem_append_left _ (List.mem_cons_of_mem _ (List.mem_cons_of_mem _ (List.mem_cons_of_mem _ (List.mem_cons_of_mem _ (List.mem_cons_of_mem _ (List.mem_cons_of_mem _ (List.mem_cons_of_mem _ (List.Mem.head _)))))))))) (kt_wf1 (List.mem_cons_of_mem _ (List.mem_append_left _ (List.mem_cons_of_mem _ (List.mem_cons_of_mem _ (List.mem_cons_of_mem _ (List.mem_cons_of_mem _ (List.mem_cons_of_mem _ (List.mem_cons_of_mem _ (List.mem_cons_of_mem _ (List.mem_cons_of_mem _ (List.Mem.head _))))))))))) kt_wf0)) (fun _ h => kt_wp_X11_field__X110 h))) kt_wg_X11_fields
set_option maxRecDepth 20000 in
theorem gX11_field_X11_fields : GoodIn wsX11_field (wsV RX11 88 RX11 yX11_fields wsX11_fields) := goodIn_app (a := [.methodLink RX11 88 yX11_fields, .instanceMethod yX11_fields, .selects RX11 yX11_fields yX11_fields, .initialized RX11]) (goodIn_sub (kt_wf1 (List.mem_cons_of_mem _ (List.mem_append_left _ (List.mem_cons_of_mem _ (List.mem_cons_of_mem _ (List.Mem.head _))))) (kt_wf1 (List.mem_cons_of_mem _ (List.mem_append_left _ (List.mem_cons_of_mem _ (List.mem_cons_of_mem _ (List.mem_cons_of_mem _ (List.Mem.head _)))))) (kt_wf1 (List.mem_cons_of_mem _ (List.mem_append_left _ (List.mem_cons_of_mem _ (List.mem_cons_of_mem _ (List.mem_cons_of_mem _ (List.mem_cons_of_mem _ (List.Mem.head _))))))) (kt_wf1 (List.mem_cons_of_mem _ (List.mem_append_left _ (List.mem_cons_of_mem _ (List.mem_cons_of_mem _ (List.mem_cons_of_mem _ (List.mem_cons_of_mem _ (List.mem_cons_of_mem _ (List.Mem.head _)))))))) kt_wf0)))) (by decide +kernel)) ggX11_field_X11_fields
set_option maxRecDepth 20000 in
theorem ggX11_field_X11_isIn : GoodIn wsX11_field wsX11_isIn := goodIn_sub (kt_wf1 (List.mem_cons_of_mem _ (List.mem_append_left _ (List.mem_cons_of_mem _ (List.mem_cons_of_mem _ (List.mem_cons_of_mem _ (List.mem_cons_of_mem _ (List.mem_cons_of_mem _ (List.mem_cons_of_mem _ (List.mem_cons_of_mem _ (List.mem_cons_of_mem _ (List.mem_cons_of_mem _ (List.mem_cons_of_mem _ (List.mem_cons_of_mem _ (List.Mem.head _)))))))))))))) kt_wf0) kt_wg_X11_isIn
set_option maxRecDepth 20000 in
theorem gX11_field_X11_isIn : GoodIn wsX11_field (va_wsS RX11 69 yX11_isIn wsX11_isIn) := goodIn_app (goodIn_of _ (by decide +kernel)) ggX11_field_X11_isIn
set_option maxRecDepth 20000 in
theorem ggX11_field_X11_isGoal : GoodIn wsX11_field wsX11_isGoal := goodIn_sub (kt_wf1 (List.mem_cons_of_mem _ (List.mem_append_left _ (List.mem_cons_of_mem _ (List.mem_cons_of_mem _ (List.mem_cons_of_mem _ (List.mem_cons_of_mem _ (List.mem_cons_of_mem _ (List.mem_cons_of_mem _ (List.mem_cons_of_mem _ (List.mem_cons_of_mem _ (List.mem_cons_of_mem _ (List.mem_cons_of_mem _ (List.mem_cons_of_mem _ (List.mem_cons_of_mem _ (List.mem_cons_of_mem _ (List.mem_cons_of_mem _ (List.mem_cons_of_mem _ (List.Mem.head _)))))))))))))))))) (kt_wfa (kt_wf1 (List.mem_cons_of_mem _ (List.mem_append_left _ (List.mem_cons_of_mem _ (List.mem_cons_of_mem _ (List.mem_cons_of_mem _ (List.mem_cons_of_mem _ (List.mem_cons_of_mem _ (List.mem_cons_of_mem _ (List.mem_cons_of_mem _ (List.mem_cons_of_mem _ (List.mem_cons_of_mem _ (List.mem_cons_of_mem _ (List.mem_cons_of_mem _ (List.mem_cons_of_mem _ (List.mem_cons_of_mem _ (List.mem_cons_of_mem _ (List.mem_cons_of_mem _ (List.mem_cons_of_mem _ (List.Mem.head _))))))))))))))))))) (kt_wf1 (List.mem_cons_of_mem _ (List.mem_append_left _ (List.mem_cons_of_mem _ (List.Mem.head _)))) (kt_wf1 (List.mem_cons_of_mem _ (List.mem_append_left _ (List.mem_cons_of_mem _ (List.mem_cons_of_mem _ (List.mem_cons_of_mem _ (List.mem_cons_of_mem _ (List.mem_cons_of_mem _ (List.mem_cons_of_mem _ (List.mem_cons_of_mem _ (List.mem_cons_of_mem _ (List.Mem.head _))))))))))) (kt_wf1 (List.mem_cons_of_mem _ (List.mem_append_left _ (List.mem_cons_of_mem _ (List.mem_cons_of_mem _ (List.Mem.head _))))) (kt_wf1 (List.mem_cons_of_mem _ (List.mem_append_left _ (List.mem_cons_of_mem _ (List.mem_cons_of_mem _ (List.mem_cons_of_mem _ (List.Mem.head _)))))) (kt_wf1 (List.mem_cons_of_mem _ (List.mem_append_left _ (List.mem_cons_of_mem _ (List.mem_cons_of_mem _ (List.mem_cons_of_mem _ (List.mem_cons_of_mem _ (List.Mem.head _))))))) (kt_wf1 (List.mem_cons_of_mem _ (List.mem_append_left _ (List.mem_cons_of_mem _ (List.mem_cons_of_mem _ (List.mem_cons_of_mem _ (List.mem_cons_of_mem _ (List.mem_cons_of_mem _ (List.Mem.head _)))))))) (kt_wf1 (List.mem_cons_of_mem _ (List.mem_append_left _ (List.mem_cons_of_mem _ (List.mem_cons_of_mem _ (List.mem_cons_of_mem _ (List.mem_cons_of_mem _ (List.mem_cons_of_mem _ (List.mem_cons_of_mem _ (List.Mem.head _))))))))) (kt_wf1 (List.mem_cons_of_mem _ (List.mem_append_left _ (List.mem_cons_of_mem _ (List.mem_cons_of_mem _ (List.mem_cons_of_mem _ (List.mem_cons_of_mem _ (List.mem_cons_of_mem _ (List.mem_cons_of_mem _ (List.mem_cons_of_mem _ (List.Mem.head _)))))))))) kt_wf0))))))))) (fun _ h => kt_wp_X11_field__X110 h))) kt_wg_X11_isGoal
set_option maxRecDepth 20000 in
theorem gX11_field_X11_isGoal : GoodIn wsX11_field (wsV RX11 148 RX11 yX11_isGoal wsX11_isGoal) := goodIn_app (a := [.methodLink RX11 148 yX11_isGoal, .instanceMethod yX11_isGoal, .selects RX11 yX11_isGoal yX11_isGoal, .initialized RX11]) (goodIn_sub (kt_wf1 (List.mem_cons_of_mem _ (List.mem_append_left _ (List.mem_cons_of_mem _ (List.mem_cons_of_mem _ (List.mem_cons_of_mem _ (List.mem_cons_of_mem _ (List.mem_cons_of_mem _ (List.mem_cons_of_mem _ (List.mem_cons_of_mem _ (List.mem_cons_of_mem _ (List.mem_cons_of_mem _ (List.mem_cons_of_mem _ (List.mem_cons_of_mem _ (List.mem_cons_of_mem _ (List.Mem.head _))))))))))))))) (kt_wf1 (List.mem_cons_of_mem _ (List.mem_append_left _ (List.mem_cons_of_mem _ (List.mem_cons_of_mem _ (List.mem_cons_of_mem _ (List.mem_cons_of_mem _ (List.mem_cons_of_mem _ (List.mem_cons_of_mem _ (List.mem_cons_of_mem _ (List.mem_cons_of_mem _ (List.mem_cons_of_mem _ (List.mem_cons_of_mem _ (List.mem_cons_of_mem _ (List.mem_cons_of_mem _ (List.mem_cons_of_mem _ (List.Mem.head _)))))))))))))))) (kt_wf1 (List.mem_cons_of_mem _ (List.mem_append_left _ (List.mem_cons_of_mem _ (List.mem_cons_of_mem _ (List.mem_cons_of_mem _ (List.mem_cons_of_mem _ (List.mem_cons_of_mem _ (List.mem_cons_of_mem _ (List.mem_cons_of_mem _ (List.mem_cons_of_mem _ (List.mem_cons_of_mem _ (List.mem_cons_of_mem _ (List.mem_cons_of_mem _ (List.mem_cons_of_mem _ (List.mem_cons_of_mem _ (List.mem_cons_of_mem _ (List.Mem.head _))))))))))))))))) (kt_wf1 (List.mem_cons_of_mem _ (List.mem_append_left _ (List.mem_cons_of_mem _ (List.mem_cons_of_mem _ (List.mem_cons_of_mem _ (List.mem_cons_of_mem _ (List.mem_cons_of_mem _ (List.Mem.head _)))))))) kt_wf0)))) (by decide +kernel)) ggX11_field_X11_isGoal
theorem sX11_field_0 : kt_sg cX11_field 0 [42, 180, 0, 73, 153, 0, 17, 27, 3, 42, 182, 0, 88, 4, 100, 184, 0, 69, 154, 0, 5, 2, 172, 42, 180, 0, 36, 27, 46, 8, 160, 0, 7, 4, 167, 0, 19, 42, 180, 0, 36, 27, 46, 16, 6, 160, 0, 7, 5, 167, 0, 4, 3, 42, 27, 182, 0, 148, 153, 0, 7, 7, 167, 0, 4] = true := by decide +kernel
theorem dX11_field_0 : decode cX11_field 0 = .ok (.aload_n 0, 1) := kt_o42 (j := 0) sX11_field_0 rfl
theorem dX11_field_1 : decode cX11_field 1 = .ok (.getfield 73, 3) := kt_o180 (j := 1) sX11_field_0 rfl rfl
theorem dX11_field_4 : decode cX11_field 4 = .ok (.ifCond .eq 17, 3) := kt_o153 (j := 4) sX11_field_0 rfl (by decide +kernel)
theorem dX11_field_7 : decode cX11_field 7 = .ok (.iload_n 1, 1) := kt_o27 (j := 7) sX11_field_0 rfl
theorem dX11_field_8 : decode cX11_field 8 = .ok (.iconst 0, 1) := kt_o3 (j := 8) sX11_field_0 rfl
theorem dX11_field_9 : decode cX11_field 9 = .ok (.aload_n 0, 1) := kt_o42 (j := 9) sX11_field_0 rfl
theorem dX11_field_10 : decode cX11_field 10 = .ok (.invokevirtual 88, 3) := kt_o182 (j := 10) sX11_field_0 rfl rfl
theorem dX11_field_13 : decode cX11_field 13 = .ok (.iconst 1, 1) := kt_o4 (j := 13) sX11_field_0 rfl
theorem dX11_field_14 : decode cX11_field 14 = .ok (.isub, 1) := kt_o100 (j := 14) sX11_field_0 rfl
theorem dX11_field_15 : decode cX11_field 15 = .ok (.invokestatic 69, 3) := kt_o184 (j := 15) sX11_field_0 rfl rfl
theorem dX11_field_18 : decode cX11_field 18 = .ok (.ifCond .ne 5, 3) := kt_o154 (j := 18) sX11_field_0 rfl (by decide +kernel)
theorem dX11_field_21 : decode cX11_field 21 = .ok (.iconst (-1), 1) := kt_o2 (j := 21) sX11_field_0 rfl
theorem dX11_field_22 : decode cX11_field 22 = .ok (.ireturn, 1) := kt_o172 (j := 22) sX11_field_0 rfl
theorem dX11_field_23 : decode cX11_field 23 = .ok (.aload_n 0, 1) := kt_o42 (j := 23) sX11_field_0 rfl
theorem dX11_field_24 : decode cX11_field 24 = .ok (.getfield 36, 3) := kt_o180 (j := 24) sX11_field_0 rfl rfl
theorem dX11_field_27 : decode cX11_field 27 = .ok (.iload_n 1, 1) := kt_o27 (j := 27) sX11_field_0 rfl
theorem dX11_field_28 : decode cX11_field 28 = .ok (.iaload, 1) := kt_o46 (j := 28) sX11_field_0 rfl
theorem dX11_field_29 : decode cX11_field 29 = .ok (.iconst 5, 1) := kt_o8 (j := 29) sX11_field_0 rfl
theorem dX11_field_30 : decode cX11_field 30 = .ok (.if_icmp .ne 7, 3) := kt_o160 (j := 30) sX11_field_0 rfl (by decide +kernel)
theorem dX11_field_33 : decode cX11_field 33 = .ok (.iconst 1, 1) := kt_o4 (j := 33) sX11_field_0 rfl
theorem dX11_field_34 : decode cX11_field 34 = .ok (.goto 19, 3) := kt_o167 (j := 34) sX11_field_0 rfl (by decide +kernel)
theorem dX11_field_37 : decode cX11_field 37 = .ok (.aload_n 0, 1) := kt_o42 (j := 37) sX11_field_0 rfl
theorem dX11_field_38 : decode cX11_field 38 = .ok (.getfield 36, 3) := kt_o180 (j := 38) sX11_field_0 rfl rfl
theorem dX11_field_41 : decode cX11_field 41 = .ok (.iload_n 1, 1) := kt_o27 (j := 41) sX11_field_0 rfl
theorem dX11_field_42 : decode cX11_field 42 = .ok (.iaload, 1) := kt_o46 (j := 42) sX11_field_0 rfl
theorem dX11_field_43 : decode cX11_field 43 = .ok (.bipush 6, 2) := kt_o16 (j := 43) sX11_field_0 rfl (by decide +kernel)
theorem dX11_field_45 : decode cX11_field 45 = .ok (.if_icmp .ne 7, 3) := kt_o160 (j := 45) sX11_field_0 rfl (by decide +kernel)
theorem dX11_field_48 : decode cX11_field 48 = .ok (.iconst 2, 1) := kt_o5 (j := 48) sX11_field_0 rfl
theorem dX11_field_49 : decode cX11_field 49 = .ok (.goto 4, 3) := kt_o167 (j := 49) sX11_field_0 rfl (by decide +kernel)
theorem dX11_field_52 : decode cX11_field 52 = .ok (.iconst 0, 1) := kt_o3 (j := 52) sX11_field_0 rfl
theorem dX11_field_53 : decode cX11_field 53 = .ok (.aload_n 0, 1) := kt_o42 (j := 53) sX11_field_0 rfl
theorem dX11_field_54 : decode cX11_field 54 = .ok (.iload_n 1, 1) := kt_o27 (j := 54) sX11_field_0 rfl
theorem dX11_field_55 : decode cX11_field 55 = .ok (.invokevirtual 148, 3) := kt_o182 (j := 55) sX11_field_0 rfl rfl
theorem dX11_field_58 : decode cX11_field 58 = .ok (.ifCond .eq 7, 3) := kt_o153 (j := 58) sX11_field_0 rfl (by decide +kernel)
theorem dX11_field_61 : decode cX11_field 61 = .ok (.iconst 4, 1) := kt_o7 (j := 61) sX11_field_0 rfl
theorem dX11_field_62 : decode cX11_field 62 = .ok (.goto 4, 3) := kt_o167 (j := 62) sX11_field_0 rfl (by decide +kernel)
theorem sX11_field_65 : kt_sg cX11_field 65 [3, 96, 172] = true := by decide +kernel
theorem dX11_field_65 : decode cX11_field 65 = .ok (.iconst 0, 1) := kt_o3 (j := 0) sX11_field_65 rfl
theorem dX11_field_66 : decode cX11_field 66 = .ok (.iadd, 1) := kt_o96 (j := 1) sX11_field_65 rfl
theorem dX11_field_67 : decode cX11_field 67 = .ok (.ireturn, 1) := kt_o172 (j := 2) sX11_field_65 rfl
theorem sX11_took_0 : kt_sg cX11_took 0 [42, 180, 0, 73, 153, 0, 15, 27, 155, 0, 11, 27, 42, 180, 0, 120, 161, 0, 5, 2, 172, 27, 61, 3, 62, 29, 42, 180, 0, 103, 162, 0, 30, 42, 180, 0, 47, 29, 51, 154, 0, 6, 167, 0, 12, 28, 154, 0, 5, 29, 172, 132, 2, 255, 132, 3, 1, 167, 255, 224, 2, 172] = true := by decide +kernel
theorem dX11_took_0 : decode cX11_took 0 = .ok (.aload_n 0, 1) := kt_o42 (j := 0) sX11_took_0 rfl
theorem dX11_took_1 : decode cX11_took 1 = .ok (.getfield 73, 3) := kt_o180 (j := 1) sX11_took_0 rfl rfl
theorem dX11_took_4 : decode cX11_took 4 = .ok (.ifCond .eq 15, 3) := kt_o153 (j := 4) sX11_took_0 rfl (by decide +kernel)
theorem dX11_took_7 : decode cX11_took 7 = .ok (.iload_n 1, 1) := kt_o27 (j := 7) sX11_took_0 rfl
theorem dX11_took_8 : decode cX11_took 8 = .ok (.ifCond .lt 11, 3) := kt_o155 (j := 8) sX11_took_0 rfl (by decide +kernel)
theorem dX11_took_11 : decode cX11_took 11 = .ok (.iload_n 1, 1) := kt_o27 (j := 11) sX11_took_0 rfl
theorem dX11_took_12 : decode cX11_took 12 = .ok (.aload_n 0, 1) := kt_o42 (j := 12) sX11_took_0 rfl
theorem dX11_took_13 : decode cX11_took 13 = .ok (.getfield 120, 3) := kt_o180 (j := 13) sX11_took_0 rfl rfl
theorem dX11_took_16 : decode cX11_took 16 = .ok (.if_icmp .lt 5, 3) := kt_o161 (j := 16) sX11_took_0 rfl (by decide +kernel)
theorem dX11_took_19 : decode cX11_took 19 = .ok (.iconst (-1), 1) := kt_o2 (j := 19) sX11_took_0 rfl
theorem dX11_took_20 : decode cX11_took 20 = .ok (.ireturn, 1) := kt_o172 (j := 20) sX11_took_0 rfl
theorem dX11_took_21 : decode cX11_took 21 = .ok (.iload_n 1, 1) := kt_o27 (j := 21) sX11_took_0 rfl
theorem dX11_took_22 : decode cX11_took 22 = .ok (.istore_n 2, 1) := kt_o61 (j := 22) sX11_took_0 rfl
theorem dX11_took_23 : decode cX11_took 23 = .ok (.iconst 0, 1) := kt_o3 (j := 23) sX11_took_0 rfl
theorem dX11_took_24 : decode cX11_took 24 = .ok (.istore_n 3, 1) := kt_o62 (j := 24) sX11_took_0 rfl
theorem dX11_took_25 : decode cX11_took 25 = .ok (.iload_n 3, 1) := kt_o29 (j := 25) sX11_took_0 rfl
theorem dX11_took_26 : decode cX11_took 26 = .ok (.aload_n 0, 1) := kt_o42 (j := 26) sX11_took_0 rfl
theorem dX11_took_27 : decode cX11_took 27 = .ok (.getfield 103, 3) := kt_o180 (j := 27) sX11_took_0 rfl rfl
theorem dX11_took_30 : decode cX11_took 30 = .ok (.if_icmp .ge 30, 3) := kt_o162 (j := 30) sX11_took_0 rfl (by decide +kernel)
theorem dX11_took_33 : decode cX11_took 33 = .ok (.aload_n 0, 1) := kt_o42 (j := 33) sX11_took_0 rfl
theorem dX11_took_34 : decode cX11_took 34 = .ok (.getfield 47, 3) := kt_o180 (j := 34) sX11_took_0 rfl rfl
theorem dX11_took_37 : decode cX11_took 37 = .ok (.iload_n 3, 1) := kt_o29 (j := 37) sX11_took_0 rfl
theorem dX11_took_38 : decode cX11_took 38 = .ok (.baload, 1) := kt_o51 (j := 38) sX11_took_0 rfl
theorem dX11_took_39 : decode cX11_took 39 = .ok (.ifCond .ne 6, 3) := kt_o154 (j := 39) sX11_took_0 rfl (by decide +kernel)
theorem dX11_took_42 : decode cX11_took 42 = .ok (.goto 12, 3) := kt_o167 (j := 42) sX11_took_0 rfl (by decide +kernel)
theorem dX11_took_45 : decode cX11_took 45 = .ok (.iload_n 2, 1) := kt_o28 (j := 45) sX11_took_0 rfl
theorem dX11_took_46 : decode cX11_took 46 = .ok (.ifCond .ne 5, 3) := kt_o154 (j := 46) sX11_took_0 rfl (by decide +kernel)
theorem dX11_took_49 : decode cX11_took 49 = .ok (.iload_n 3, 1) := kt_o29 (j := 49) sX11_took_0 rfl
theorem dX11_took_50 : decode cX11_took 50 = .ok (.ireturn, 1) := kt_o172 (j := 50) sX11_took_0 rfl
theorem dX11_took_51 : decode cX11_took 51 = .ok (.iinc 2 (-1), 3) := kt_o132 (j := 51) sX11_took_0 rfl (by decide +kernel)
theorem dX11_took_54 : decode cX11_took 54 = .ok (.iinc 3 1, 3) := kt_o132 (j := 54) sX11_took_0 rfl (by decide +kernel)
theorem dX11_took_57 : decode cX11_took 57 = .ok (.goto (-32), 3) := kt_o167 (j := 57) sX11_took_0 rfl (by decide +kernel)
theorem dX11_took_60 : decode cX11_took 60 = .ok (.iconst (-1), 1) := kt_o2 (j := 60) sX11_took_0 rfl
theorem dX11_took_61 : decode cX11_took 61 = .ok (.ireturn, 1) := kt_o172 (j := 61) sX11_took_0 rfl
theorem kt_wp_X11_comesOut__X110 {w : Cond} (h : w ∈ wsX110) : w ∈ wsX11_comesOut := List.mem_cons_of_mem _ (List.mem_append_right _ (h))
set_option maxRecDepth 20000 in
theorem ggX11_comesOut_X11_isGoal : GoodIn wsX11_comesOut wsX11_isGoal := goodIn_sub (kt_wf1 (List.mem_cons_of_mem _ (List.mem_append_left _ (List.mem_cons_of_mem _ (List.mem_cons_of_mem _ (List.mem_cons_of_mem _ (List.mem_cons_of_mem _ (List.mem_cons_of_mem _ (List.mem_cons_of_mem _ (List.mem_cons_of_mem _ (List.mem_cons_of_mem _ (List.mem_cons_of_mem _ (List.Mem.head _)))))))))))) (kt_wfa (kt_wf1 (List.mem_cons_of_mem _ (List.mem_append_left _ (List.mem_cons_of_mem _ (List.mem_cons_of_mem _ (List.mem_cons_of_mem _ (List.mem_cons_of_mem _ (List.mem_cons_of_mem _ (List.mem_cons_of_mem _ (List.mem_cons_of_mem _ (List.mem_cons_of_mem _ (List.mem_cons_of_mem _ (List.mem_cons_of_mem _ (List.Mem.head _))))))))))))) (kt_wf1 (List.mem_cons_of_mem _ (List.mem_append_left _ (List.mem_cons_of_mem _ (List.mem_cons_of_mem _ (List.mem_cons_of_mem _ (List.mem_cons_of_mem _ (List.mem_cons_of_mem _ (List.mem_cons_of_mem _ (List.mem_cons_of_mem _ (List.mem_cons_of_mem _ (List.mem_cons_of_mem _ (List.mem_cons_of_mem _ (List.mem_cons_of_mem _ (List.Mem.head _)))))))))))))) (kt_wf1 (List.mem_cons_of_mem _ (List.mem_append_left _ (List.mem_cons_of_mem _ (List.mem_cons_of_mem _ (List.mem_cons_of_mem _ (List.mem_cons_of_mem _ (List.mem_cons_of_mem _ (List.mem_cons_of_mem _ (List.mem_cons_of_mem _ (List.mem_cons_of_mem _ (List.mem_cons_of_mem _ (List.mem_cons_of_mem _ (List.mem_cons_of_mem _ (List.mem_cons_of_mem _ (List.Mem.head _))))))))))))))) (kt_wf1 (List.mem_cons_of_mem _ (List.mem_append_left _ (List.mem_cons_of_mem _ (List.mem_cons_of_mem _ (List.mem_cons_of_mem _ (List.mem_cons_of_mem _ (List.mem_cons_of_mem _ (List.mem_cons_of_mem _ (List.mem_cons_of_mem _ (List.mem_cons_of_mem _ (List.mem_cons_of_mem _ (List.mem_cons_of_mem _ (List.mem_cons_of_mem _ (List.mem_cons_of_mem _ (List.mem_cons_of_mem _ (List.Mem.head _)))))))))))))))) (kt_wf1 (List.mem_cons_of_mem _ (List.mem_append_left _ (List.mem_cons_of_mem _ (List.mem_cons_of_mem _ (List.mem_cons_of_mem _ (List.mem_cons_of_mem _ (List.mem_cons_of_mem _ (List.mem_cons_of_mem _ (List.mem_cons_of_mem _ (List.mem_cons_of_mem _ (List.mem_cons_of_mem _ (List.mem_cons_of_mem _ (List.mem_cons_of_mem _ (List.mem_cons_of_mem _ (List.mem_cons_of_mem _ (List.mem_cons_of_mem _ (List.Mem.head _))))))))))))))))) (kt_wf1 (List.mem_cons_of_mem _ (List.mem_append_left _ (List.mem_cons_of_mem _ (List.mem_cons_of_mem _ (List.mem_cons_of_mem _ (List.mem_cons_of_mem _ (List.mem_cons_of_mem _ (List.mem_cons_of_mem _ (List.mem_cons_of_mem _ (List.mem_cons_of_mem _ (List.mem_cons_of_mem _ (List.mem_cons_of_mem _ (List.mem_cons_of_mem _ (List.mem_cons_of_mem _ (List.mem_cons_of_mem _ (List.mem_cons_of_mem _ (List.mem_cons_of_mem _ (List.Mem.head _)))))))))))))))))) (kt_wf1 (List.mem_cons_of_mem _ (List.mem_append_left _ (List.mem_cons_of_mem _ (List.mem_cons_of_mem _ (List.mem_cons_of_mem _ (List.mem_cons_of_mem _ (List.mem_cons_of_mem _ (List.mem_cons_of_mem _ (List.mem_cons_of_mem _ (List.mem_cons_of_mem _ (List.Mem.head _))))))))))) (kt_wf1 (List.mem_cons_of_mem _ (List.mem_append_left _ (List.mem_cons_of_mem _ (List.mem_cons_of_mem _ (List.mem_cons_of_mem _ (List.mem_cons_of_mem _ (List.mem_cons_of_mem _ (List.mem_cons_of_mem _ (List.mem_cons_of_mem _ (List.mem_cons_of_mem _ (List.mem_cons_of_mem _ (List.mem_cons_of_mem _ (List.mem_cons_of_mem _ (List.mem_cons_of_mem _ (List.mem_cons_of_mem _ (List.mem_cons_of_mem _ (List.mem_cons_of_mem _ (List.mem_cons_of_mem _ (List.Mem.head _))))))))))))))))))) (kt_wf1 (List.mem_cons_of_mem _ (List.mem_append_left _ (List.mem_cons_of_mem _ (List.mem_cons_of_mem _ (List.mem_cons_of_mem _ (List.mem_cons_of_mem _ (List.mem_cons_of_mem _ (List.mem_cons_of_mem _ (List.mem_cons_of_mem _ (List.mem_cons_of_mem _ (List.mem_cons_of_mem _ (List.mem_cons_of_mem _ (List.mem_cons_of_mem _ (List.mem_cons_of_mem _ (List.mem_cons_of_mem _ (List.mem_cons_of_mem _ (List.mem_cons_of_mem _ (List.mem_cons_of_mem _ (List.mem_cons_of_mem _ (List.Mem.head _)))))))))))))))))))) kt_wf0))))))))) (fun _ h => kt_wp_X11_comesOut__X110 h))) kt_wg_X11_isGoal
set_option maxRecDepth 20000 in
theorem gX11_comesOut_X11_isGoal : GoodIn wsX11_comesOut (wsV RX11 148 RX11 yX11_isGoal wsX11_isGoal) := goodIn_app (a := [.methodLink RX11 148 yX11_isGoal, .instanceMethod yX11_isGoal, .selects RX11 yX11_isGoal yX11_isGoal, .initialized RX11]) (goodIn_sub (kt_wf1 (List.mem_cons_of_mem _ (List.mem_append_left _ (List.mem_cons_of_mem _ (List.mem_cons_of_mem _ (List.mem_cons_of_mem _ (List.mem_cons_of_mem _ (List.mem_cons_of_mem _ (List.Mem.head _)))))))) (kt_wf1 (List.mem_cons_of_mem _ (List.mem_append_left _ (List.mem_cons_of_mem _ (List.mem_cons_of_mem _ (List.mem_cons_of_mem _ (List.mem_cons_of_mem _ (List.mem_cons_of_mem _ (List.mem_cons_of_mem _ (List.Mem.head _))))))))) (kt_wf1 (List.mem_cons_of_mem _ (List.mem_append_left _ (List.mem_cons_of_mem _ (List.mem_cons_of_mem _ (List.mem_cons_of_mem _ (List.mem_cons_of_mem _ (List.mem_cons_of_mem _ (List.mem_cons_of_mem _ (List.mem_cons_of_mem _ (List.Mem.head _)))))))))) (kt_wf1 (List.mem_cons_of_mem _ (List.mem_append_left _ (List.mem_cons_of_mem _ (List.mem_cons_of_mem _ (List.mem_cons_of_mem _ (List.mem_cons_of_mem _ (List.mem_cons_of_mem _ (List.mem_cons_of_mem _ (List.mem_cons_of_mem _ (List.mem_cons_of_mem _ (List.Mem.head _))))))))))) kt_wf0)))) (by decide +kernel)) ggX11_comesOut_X11_isGoal
set_option maxRecDepth 20000 in
theorem ggX11_comesOut_X11_along : GoodIn wsX11_comesOut wsX11_along := goodIn_sub (kt_wf1 (List.mem_cons_of_mem _ (List.mem_append_left _ (List.mem_cons_of_mem _ (List.mem_cons_of_mem _ (List.mem_cons_of_mem _ (List.mem_cons_of_mem _ (List.mem_cons_of_mem _ (List.mem_cons_of_mem _ (List.mem_cons_of_mem _ (List.mem_cons_of_mem _ (List.mem_cons_of_mem _ (List.mem_cons_of_mem _ (List.mem_cons_of_mem _ (List.mem_cons_of_mem _ (List.mem_cons_of_mem _ (List.mem_cons_of_mem _ (List.mem_cons_of_mem _ (List.mem_cons_of_mem _ (List.mem_cons_of_mem _ (List.mem_cons_of_mem _ (List.mem_cons_of_mem _ (List.mem_cons_of_mem _ (List.mem_cons_of_mem _ (List.Mem.head _)))))))))))))))))))))))) (kt_wfa (kt_wf1 (List.mem_cons_of_mem _ (List.mem_append_left _ (List.mem_cons_of_mem _ (List.mem_cons_of_mem _ (List.mem_cons_of_mem _ (List.mem_cons_of_mem _ (List.mem_cons_of_mem _ (List.mem_cons_of_mem _ (List.mem_cons_of_mem _ (List.mem_cons_of_mem _ (List.mem_cons_of_mem _ (List.mem_cons_of_mem _ (List.mem_cons_of_mem _ (List.mem_cons_of_mem _ (List.Mem.head _))))))))))))))) (kt_wf1 (List.mem_cons_of_mem _ (List.mem_append_left _ (List.mem_cons_of_mem _ (List.mem_cons_of_mem _ (List.mem_cons_of_mem _ (List.mem_cons_of_mem _ (List.mem_cons_of_mem _ (List.mem_cons_of_mem _ (List.mem_cons_of_mem _ (List.mem_cons_of_mem _ (List.mem_cons_of_mem _ (List.mem_cons_of_mem _ (List.mem_cons_of_mem _ (List.mem_cons_of_mem _ (List.mem_cons_of_mem _ (List.mem_cons_of_mem _ (List.mem_cons_of_mem _ (List.mem_cons_of_mem _ (List.mem_cons_of_mem _ (List.Mem.head _)))))))))))))))))))) kt_wf0)) (fun _ h => kt_wp_X11_comesOut__X110 h))) kt_wg_X11_along
set_option maxRecDepth 20000 in
theorem gX11_comesOut_X11_along : GoodIn wsX11_comesOut (wsV RX11 92 RX11 yX11_along wsX11_along) := goodIn_app (a := [.methodLink RX11 92 yX11_along, .instanceMethod yX11_along, .selects RX11 yX11_along yX11_along, .initialized RX11]) (goodIn_sub (kt_wf1 (List.mem_cons_of_mem _ (List.mem_append_left _ (List.mem_cons_of_mem _ (List.mem_cons_of_mem _ (List.mem_cons_of_mem _ (List.mem_cons_of_mem _ (List.mem_cons_of_mem _ (List.mem_cons_of_mem _ (List.mem_cons_of_mem _ (List.mem_cons_of_mem _ (List.mem_cons_of_mem _ (List.mem_cons_of_mem _ (List.mem_cons_of_mem _ (List.mem_cons_of_mem _ (List.mem_cons_of_mem _ (List.mem_cons_of_mem _ (List.mem_cons_of_mem _ (List.mem_cons_of_mem _ (List.mem_cons_of_mem _ (List.mem_cons_of_mem _ (List.Mem.head _))))))))))))))))))))) (kt_wf1 (List.mem_cons_of_mem _ (List.mem_append_left _ (List.mem_cons_of_mem _ (List.mem_cons_of_mem _ (List.mem_cons_of_mem _ (List.mem_cons_of_mem _ (List.mem_cons_of_mem _ (List.mem_cons_of_mem _ (List.mem_cons_of_mem _ (List.mem_cons_of_mem _ (List.mem_cons_of_mem _ (List.mem_cons_of_mem _ (List.mem_cons_of_mem _ (List.mem_cons_of_mem _ (List.mem_cons_of_mem _ (List.mem_cons_of_mem _ (List.mem_cons_of_mem _ (List.mem_cons_of_mem _ (List.mem_cons_of_mem _ (List.mem_cons_of_mem _ (List.mem_cons_of_mem _ (List.Mem.head _)))))))))))))))))))))) (kt_wf1 (List.mem_cons_of_mem _ (List.mem_append_left _ (List.mem_cons_of_mem _ (List.mem_cons_of_mem _ (List.mem_cons_of_mem _ (List.mem_cons_of_mem _ (List.mem_cons_of_mem _ (List.mem_cons_of_mem _ (List.mem_cons_of_mem _ (List.mem_cons_of_mem _ (List.mem_cons_of_mem _ (List.mem_cons_of_mem _ (List.mem_cons_of_mem _ (List.mem_cons_of_mem _ (List.mem_cons_of_mem _ (List.mem_cons_of_mem _ (List.mem_cons_of_mem _ (List.mem_cons_of_mem _ (List.mem_cons_of_mem _ (List.mem_cons_of_mem _ (List.mem_cons_of_mem _ (List.mem_cons_of_mem _ (List.Mem.head _))))))))))))))))))))))) (kt_wf1 (List.mem_cons_of_mem _ (List.mem_append_left _ (List.mem_cons_of_mem _ (List.mem_cons_of_mem _ (List.mem_cons_of_mem _ (List.mem_cons_of_mem _ (List.mem_cons_of_mem _ (List.mem_cons_of_mem _ (List.mem_cons_of_mem _ (List.mem_cons_of_mem _ (List.Mem.head _))))))))))) kt_wf0)))) (by decide +kernel)) ggX11_comesOut_X11_along
theorem sX11_comesOut_0 : kt_sg cX11_comesOut 0 [3, 61, 28, 16, 81, 162, 0, 16, 42, 180, 0, 51, 28, 3, 84, 132, 2, 1, 167, 255, 240, 3, 61, 4, 62, 42, 180, 0, 54, 3, 42, 180, 0, 30, 42, 180, 0, 135, 46, 79, 42, 180, 0, 51, 42, 180, 0, 30, 42, 180, 0, 135, 46, 4, 84, 28, 29, 162, 0, 114, 42, 180, 0, 54] = true := by decide +kernel
theorem dX11_comesOut_0 : decode cX11_comesOut 0 = .ok (.iconst 0, 1) := kt_o3 (j := 0) sX11_comesOut_0 rfl
theorem dX11_comesOut_1 : decode cX11_comesOut 1 = .ok (.istore_n 2, 1) := kt_o61 (j := 1) sX11_comesOut_0 rfl
theorem dX11_comesOut_2 : decode cX11_comesOut 2 = .ok (.iload_n 2, 1) := kt_o28 (j := 2) sX11_comesOut_0 rfl
theorem dX11_comesOut_3 : decode cX11_comesOut 3 = .ok (.bipush 81, 2) := kt_o16 (j := 3) sX11_comesOut_0 rfl (by decide +kernel)
theorem dX11_comesOut_5 : decode cX11_comesOut 5 = .ok (.if_icmp .ge 16, 3) := kt_o162 (j := 5) sX11_comesOut_0 rfl (by decide +kernel)
theorem dX11_comesOut_8 : decode cX11_comesOut 8 = .ok (.aload_n 0, 1) := kt_o42 (j := 8) sX11_comesOut_0 rfl
theorem dX11_comesOut_9 : decode cX11_comesOut 9 = .ok (.getfield 51, 3) := kt_o180 (j := 9) sX11_comesOut_0 rfl rfl
theorem dX11_comesOut_12 : decode cX11_comesOut 12 = .ok (.iload_n 2, 1) := kt_o28 (j := 12) sX11_comesOut_0 rfl
theorem dX11_comesOut_13 : decode cX11_comesOut 13 = .ok (.iconst 0, 1) := kt_o3 (j := 13) sX11_comesOut_0 rfl
theorem dX11_comesOut_14 : decode cX11_comesOut 14 = .ok (.bastore, 1) := kt_o84 (j := 14) sX11_comesOut_0 rfl
theorem dX11_comesOut_15 : decode cX11_comesOut 15 = .ok (.iinc 2 1, 3) := kt_o132 (j := 15) sX11_comesOut_0 rfl (by decide +kernel)
theorem dX11_comesOut_18 : decode cX11_comesOut 18 = .ok (.goto (-16), 3) := kt_o167 (j := 18) sX11_comesOut_0 rfl (by decide +kernel)
theorem dX11_comesOut_21 : decode cX11_comesOut 21 = .ok (.iconst 0, 1) := kt_o3 (j := 21) sX11_comesOut_0 rfl
theorem dX11_comesOut_22 : decode cX11_comesOut 22 = .ok (.istore_n 2, 1) := kt_o61 (j := 22) sX11_comesOut_0 rfl
theorem dX11_comesOut_23 : decode cX11_comesOut 23 = .ok (.iconst 1, 1) := kt_o4 (j := 23) sX11_comesOut_0 rfl
theorem dX11_comesOut_24 : decode cX11_comesOut 24 = .ok (.istore_n 3, 1) := kt_o62 (j := 24) sX11_comesOut_0 rfl
theorem dX11_comesOut_25 : decode cX11_comesOut 25 = .ok (.aload_n 0, 1) := kt_o42 (j := 25) sX11_comesOut_0 rfl
theorem dX11_comesOut_26 : decode cX11_comesOut 26 = .ok (.getfield 54, 3) := kt_o180 (j := 26) sX11_comesOut_0 rfl rfl
theorem dX11_comesOut_29 : decode cX11_comesOut 29 = .ok (.iconst 0, 1) := kt_o3 (j := 29) sX11_comesOut_0 rfl
theorem dX11_comesOut_30 : decode cX11_comesOut 30 = .ok (.aload_n 0, 1) := kt_o42 (j := 30) sX11_comesOut_0 rfl
theorem dX11_comesOut_31 : decode cX11_comesOut 31 = .ok (.getfield 30, 3) := kt_o180 (j := 31) sX11_comesOut_0 rfl rfl
theorem dX11_comesOut_34 : decode cX11_comesOut 34 = .ok (.aload_n 0, 1) := kt_o42 (j := 34) sX11_comesOut_0 rfl
theorem dX11_comesOut_35 : decode cX11_comesOut 35 = .ok (.getfield 135, 3) := kt_o180 (j := 35) sX11_comesOut_0 rfl rfl
theorem dX11_comesOut_38 : decode cX11_comesOut 38 = .ok (.iaload, 1) := kt_o46 (j := 38) sX11_comesOut_0 rfl
theorem dX11_comesOut_39 : decode cX11_comesOut 39 = .ok (.iastore, 1) := kt_o79 (j := 39) sX11_comesOut_0 rfl
theorem dX11_comesOut_40 : decode cX11_comesOut 40 = .ok (.aload_n 0, 1) := kt_o42 (j := 40) sX11_comesOut_0 rfl
theorem dX11_comesOut_41 : decode cX11_comesOut 41 = .ok (.getfield 51, 3) := kt_o180 (j := 41) sX11_comesOut_0 rfl rfl
theorem dX11_comesOut_44 : decode cX11_comesOut 44 = .ok (.aload_n 0, 1) := kt_o42 (j := 44) sX11_comesOut_0 rfl
theorem dX11_comesOut_45 : decode cX11_comesOut 45 = .ok (.getfield 30, 3) := kt_o180 (j := 45) sX11_comesOut_0 rfl rfl
theorem dX11_comesOut_48 : decode cX11_comesOut 48 = .ok (.aload_n 0, 1) := kt_o42 (j := 48) sX11_comesOut_0 rfl
theorem dX11_comesOut_49 : decode cX11_comesOut 49 = .ok (.getfield 135, 3) := kt_o180 (j := 49) sX11_comesOut_0 rfl rfl
theorem dX11_comesOut_52 : decode cX11_comesOut 52 = .ok (.iaload, 1) := kt_o46 (j := 52) sX11_comesOut_0 rfl
theorem dX11_comesOut_53 : decode cX11_comesOut 53 = .ok (.iconst 1, 1) := kt_o4 (j := 53) sX11_comesOut_0 rfl
theorem dX11_comesOut_54 : decode cX11_comesOut 54 = .ok (.bastore, 1) := kt_o84 (j := 54) sX11_comesOut_0 rfl
theorem dX11_comesOut_55 : decode cX11_comesOut 55 = .ok (.iload_n 2, 1) := kt_o28 (j := 55) sX11_comesOut_0 rfl
theorem dX11_comesOut_56 : decode cX11_comesOut 56 = .ok (.iload_n 3, 1) := kt_o29 (j := 56) sX11_comesOut_0 rfl
theorem dX11_comesOut_57 : decode cX11_comesOut 57 = .ok (.if_icmp .ge 114, 3) := kt_o162 (j := 57) sX11_comesOut_0 rfl (by decide +kernel)
theorem dX11_comesOut_60 : decode cX11_comesOut 60 = .ok (.aload_n 0, 1) := kt_o42 (j := 60) sX11_comesOut_0 rfl
theorem dX11_comesOut_61 : decode cX11_comesOut 61 = .ok (.getfield 54, 3) := kt_o180 (j := 61) sX11_comesOut_0 rfl rfl
theorem sX11_comesOut_64 : kt_sg cX11_comesOut 64 [28, 46, 54, 4, 132, 2, 1, 42, 21, 4, 182, 0, 148, 153, 0, 5, 4, 172, 3, 54, 5, 21, 5, 7, 162, 0, 80, 42, 21, 4, 21, 5, 4, 182, 0, 92, 54, 6, 21, 6, 2, 159, 0, 57, 42, 180, 0, 51, 21, 6, 51, 154, 0, 47, 42, 180, 0, 33, 21, 6, 46, 2, 159, 0, 17] = true := by decide +kernel
theorem dX11_comesOut_64 : decode cX11_comesOut 64 = .ok (.iload_n 2, 1) := kt_o28 (j := 0) sX11_comesOut_64 rfl
theorem dX11_comesOut_65 : decode cX11_comesOut 65 = .ok (.iaload, 1) := kt_o46 (j := 1) sX11_comesOut_64 rfl
theorem dX11_comesOut_66 : decode cX11_comesOut 66 = .ok (.istore 4, 2) := kt_o54 (j := 2) sX11_comesOut_64 rfl
theorem dX11_comesOut_68 : decode cX11_comesOut 68 = .ok (.iinc 2 1, 3) := kt_o132 (j := 4) sX11_comesOut_64 rfl (by decide +kernel)
theorem dX11_comesOut_71 : decode cX11_comesOut 71 = .ok (.aload_n 0, 1) := kt_o42 (j := 7) sX11_comesOut_64 rfl
theorem dX11_comesOut_72 : decode cX11_comesOut 72 = .ok (.iload 4, 2) := kt_o21 (j := 8) sX11_comesOut_64 rfl
theorem dX11_comesOut_74 : decode cX11_comesOut 74 = .ok (.invokevirtual 148, 3) := kt_o182 (j := 10) sX11_comesOut_64 rfl rfl
theorem dX11_comesOut_77 : decode cX11_comesOut 77 = .ok (.ifCond .eq 5, 3) := kt_o153 (j := 13) sX11_comesOut_64 rfl (by decide +kernel)
theorem dX11_comesOut_80 : decode cX11_comesOut 80 = .ok (.iconst 1, 1) := kt_o4 (j := 16) sX11_comesOut_64 rfl
theorem dX11_comesOut_81 : decode cX11_comesOut 81 = .ok (.ireturn, 1) := kt_o172 (j := 17) sX11_comesOut_64 rfl
theorem dX11_comesOut_82 : decode cX11_comesOut 82 = .ok (.iconst 0, 1) := kt_o3 (j := 18) sX11_comesOut_64 rfl
theorem dX11_comesOut_83 : decode cX11_comesOut 83 = .ok (.istore 5, 2) := kt_o54 (j := 19) sX11_comesOut_64 rfl
theorem dX11_comesOut_85 : decode cX11_comesOut 85 = .ok (.iload 5, 2) := kt_o21 (j := 21) sX11_comesOut_64 rfl
theorem dX11_comesOut_87 : decode cX11_comesOut 87 = .ok (.iconst 4, 1) := kt_o7 (j := 23) sX11_comesOut_64 rfl
theorem dX11_comesOut_88 : decode cX11_comesOut 88 = .ok (.if_icmp .ge 80, 3) := kt_o162 (j := 24) sX11_comesOut_64 rfl (by decide +kernel)
theorem dX11_comesOut_91 : decode cX11_comesOut 91 = .ok (.aload_n 0, 1) := kt_o42 (j := 27) sX11_comesOut_64 rfl
theorem dX11_comesOut_92 : decode cX11_comesOut 92 = .ok (.iload 4, 2) := kt_o21 (j := 28) sX11_comesOut_64 rfl
theorem dX11_comesOut_94 : decode cX11_comesOut 94 = .ok (.iload 5, 2) := kt_o21 (j := 30) sX11_comesOut_64 rfl
theorem dX11_comesOut_96 : decode cX11_comesOut 96 = .ok (.iconst 1, 1) := kt_o4 (j := 32) sX11_comesOut_64 rfl
theorem dX11_comesOut_97 : decode cX11_comesOut 97 = .ok (.invokevirtual 92, 3) := kt_o182 (j := 33) sX11_comesOut_64 rfl rfl
theorem dX11_comesOut_100 : decode cX11_comesOut 100 = .ok (.istore 6, 2) := kt_o54 (j := 36) sX11_comesOut_64 rfl
theorem dX11_comesOut_102 : decode cX11_comesOut 102 = .ok (.iload 6, 2) := kt_o21 (j := 38) sX11_comesOut_64 rfl
theorem dX11_comesOut_104 : decode cX11_comesOut 104 = .ok (.iconst (-1), 1) := kt_o2 (j := 40) sX11_comesOut_64 rfl
theorem dX11_comesOut_105 : decode cX11_comesOut 105 = .ok (.if_icmp .eq 57, 3) := kt_o159 (j := 41) sX11_comesOut_64 rfl (by decide +kernel)
theorem dX11_comesOut_108 : decode cX11_comesOut 108 = .ok (.aload_n 0, 1) := kt_o42 (j := 44) sX11_comesOut_64 rfl
theorem dX11_comesOut_109 : decode cX11_comesOut 109 = .ok (.getfield 51, 3) := kt_o180 (j := 45) sX11_comesOut_64 rfl rfl
theorem dX11_comesOut_112 : decode cX11_comesOut 112 = .ok (.iload 6, 2) := kt_o21 (j := 48) sX11_comesOut_64 rfl
theorem dX11_comesOut_114 : decode cX11_comesOut 114 = .ok (.baload, 1) := kt_o51 (j := 50) sX11_comesOut_64 rfl
theorem dX11_comesOut_115 : decode cX11_comesOut 115 = .ok (.ifCond .ne 47, 3) := kt_o154 (j := 51) sX11_comesOut_64 rfl (by decide +kernel)
theorem dX11_comesOut_118 : decode cX11_comesOut 118 = .ok (.aload_n 0, 1) := kt_o42 (j := 54) sX11_comesOut_64 rfl
theorem dX11_comesOut_119 : decode cX11_comesOut 119 = .ok (.getfield 33, 3) := kt_o180 (j := 55) sX11_comesOut_64 rfl rfl
theorem dX11_comesOut_122 : decode cX11_comesOut 122 = .ok (.iload 6, 2) := kt_o21 (j := 58) sX11_comesOut_64 rfl
theorem dX11_comesOut_124 : decode cX11_comesOut 124 = .ok (.iaload, 1) := kt_o46 (j := 60) sX11_comesOut_64 rfl
theorem dX11_comesOut_125 : decode cX11_comesOut 125 = .ok (.iconst (-1), 1) := kt_o2 (j := 61) sX11_comesOut_64 rfl
theorem dX11_comesOut_126 : decode cX11_comesOut 126 = .ok (.if_icmp .eq 17, 3) := kt_o159 (j := 62) sX11_comesOut_64 rfl (by decide +kernel)
theorem sX11_comesOut_129 : kt_sg cX11_comesOut 129 [42, 180, 0, 33, 21, 6, 46, 27, 159, 0, 6, 167, 0, 22, 42, 180, 0, 51, 21, 6, 4, 84, 42, 180, 0, 54, 29, 21, 6, 79, 132, 3, 1, 132, 5, 1, 167, 255, 176, 167, 255, 143, 3, 172] = true := by decide +kernel
theorem dX11_comesOut_129 : decode cX11_comesOut 129 = .ok (.aload_n 0, 1) := kt_o42 (j := 0) sX11_comesOut_129 rfl
theorem dX11_comesOut_130 : decode cX11_comesOut 130 = .ok (.getfield 33, 3) := kt_o180 (j := 1) sX11_comesOut_129 rfl rfl
theorem dX11_comesOut_133 : decode cX11_comesOut 133 = .ok (.iload 6, 2) := kt_o21 (j := 4) sX11_comesOut_129 rfl
theorem dX11_comesOut_135 : decode cX11_comesOut 135 = .ok (.iaload, 1) := kt_o46 (j := 6) sX11_comesOut_129 rfl
theorem dX11_comesOut_136 : decode cX11_comesOut 136 = .ok (.iload_n 1, 1) := kt_o27 (j := 7) sX11_comesOut_129 rfl
theorem dX11_comesOut_137 : decode cX11_comesOut 137 = .ok (.if_icmp .eq 6, 3) := kt_o159 (j := 8) sX11_comesOut_129 rfl (by decide +kernel)
theorem dX11_comesOut_140 : decode cX11_comesOut 140 = .ok (.goto 22, 3) := kt_o167 (j := 11) sX11_comesOut_129 rfl (by decide +kernel)
theorem dX11_comesOut_143 : decode cX11_comesOut 143 = .ok (.aload_n 0, 1) := kt_o42 (j := 14) sX11_comesOut_129 rfl
theorem dX11_comesOut_144 : decode cX11_comesOut 144 = .ok (.getfield 51, 3) := kt_o180 (j := 15) sX11_comesOut_129 rfl rfl
theorem dX11_comesOut_147 : decode cX11_comesOut 147 = .ok (.iload 6, 2) := kt_o21 (j := 18) sX11_comesOut_129 rfl
theorem dX11_comesOut_149 : decode cX11_comesOut 149 = .ok (.iconst 1, 1) := kt_o4 (j := 20) sX11_comesOut_129 rfl
theorem dX11_comesOut_150 : decode cX11_comesOut 150 = .ok (.bastore, 1) := kt_o84 (j := 21) sX11_comesOut_129 rfl
theorem dX11_comesOut_151 : decode cX11_comesOut 151 = .ok (.aload_n 0, 1) := kt_o42 (j := 22) sX11_comesOut_129 rfl
theorem dX11_comesOut_152 : decode cX11_comesOut 152 = .ok (.getfield 54, 3) := kt_o180 (j := 23) sX11_comesOut_129 rfl rfl
theorem dX11_comesOut_155 : decode cX11_comesOut 155 = .ok (.iload_n 3, 1) := kt_o29 (j := 26) sX11_comesOut_129 rfl
theorem dX11_comesOut_156 : decode cX11_comesOut 156 = .ok (.iload 6, 2) := kt_o21 (j := 27) sX11_comesOut_129 rfl
theorem dX11_comesOut_158 : decode cX11_comesOut 158 = .ok (.iastore, 1) := kt_o79 (j := 29) sX11_comesOut_129 rfl
theorem dX11_comesOut_159 : decode cX11_comesOut 159 = .ok (.iinc 3 1, 3) := kt_o132 (j := 30) sX11_comesOut_129 rfl (by decide +kernel)
theorem dX11_comesOut_162 : decode cX11_comesOut 162 = .ok (.iinc 5 1, 3) := kt_o132 (j := 33) sX11_comesOut_129 rfl (by decide +kernel)
theorem dX11_comesOut_165 : decode cX11_comesOut 165 = .ok (.goto (-80), 3) := kt_o167 (j := 36) sX11_comesOut_129 rfl (by decide +kernel)
theorem dX11_comesOut_168 : decode cX11_comesOut 168 = .ok (.goto (-113), 3) := kt_o167 (j := 39) sX11_comesOut_129 rfl (by decide +kernel)
theorem dX11_comesOut_171 : decode cX11_comesOut 171 = .ok (.iconst 0, 1) := kt_o3 (j := 42) sX11_comesOut_129 rfl
theorem dX11_comesOut_172 : decode cX11_comesOut 172 = .ok (.ireturn, 1) := kt_o172 (j := 43) sX11_comesOut_129 rfl
theorem kt_wp_X11_ring__X11_ring_r1 {w : Cond} (h : w ∈ wsX11_ring_r1) : w ∈ wsX11_ring := List.mem_cons_of_mem _ (List.mem_append_left _ (List.mem_append_left _ (h)))
theorem kt_wp_X11_ring__X11_ring_r2 {w : Cond} (h : w ∈ wsX11_ring_r2) : w ∈ wsX11_ring := List.mem_cons_of_mem _ (List.mem_append_left _ (List.mem_append_right _ (h)))
theorem kt_wp_X11_ring__X110 {w : Cond} (h : w ∈ wsX110) : w ∈ wsX11_ring := List.mem_cons_of_mem _ (List.mem_append_right _ (h))
set_option maxRecDepth 20000 in
theorem ggX11_ring_X11_isGoal : GoodIn wsX11_ring wsX11_isGoal := goodIn_sub (kt_wf1 (kt_wp_X11_ring__X11_ring_r1 kt_wm7) (kt_wfa (kt_wf1 (kt_wp_X11_ring__X11_ring_r1 kt_wm8) (kt_wf1 (kt_wp_X11_ring__X11_ring_r1 kt_wm9) (kt_wf1 (kt_wp_X11_ring__X11_ring_r1 kt_wm10) (kt_wf1 (kt_wp_X11_ring__X11_ring_r1 kt_wm11) (kt_wf1 (kt_wp_X11_ring__X11_ring_r1 kt_wm12) (kt_wf1 (kt_wp_X11_ring__X11_ring_r1 kt_wm13) (kt_wf1 (kt_wp_X11_ring__X11_ring_r1 kt_wm6) (kt_wf1 (kt_wp_X11_ring__X11_ring_r1 kt_wm14) (kt_wf1 (kt_wp_X11_ring__X11_ring_r1 kt_wm15) kt_wf0))))))))) (fun _ h => kt_wp_X11_ring__X110 h))) kt_wg_X11_isGoal
set_option maxRecDepth 20000 in
theorem gX11_ring_X11_isGoal : GoodIn wsX11_ring (wsV RX11 148 RX11 yX11_isGoal wsX11_isGoal) := goodIn_app (a := [.methodLink RX11 148 yX11_isGoal, .instanceMethod yX11_isGoal, .selects RX11 yX11_isGoal yX11_isGoal, .initialized RX11]) (goodIn_sub (kt_wf1 (kt_wp_X11_ring__X11_ring_r1 kt_wm3) (kt_wf1 (kt_wp_X11_ring__X11_ring_r1 kt_wm4) (kt_wf1 (kt_wp_X11_ring__X11_ring_r1 kt_wm5) (kt_wf1 (kt_wp_X11_ring__X11_ring_r1 kt_wm6) kt_wf0)))) (by decide +kernel)) ggX11_ring_X11_isGoal
set_option maxRecDepth 20000 in
theorem kt_wg_X11_comesOut : wsX11_comesOut.all goodWord = true := by decide +kernel
set_option maxRecDepth 20000 in
theorem ggX11_ring_X11_comesOut : GoodIn wsX11_ring wsX11_comesOut := goodIn_sub (kt_wf1 (kt_wp_X11_ring__X11_ring_r1 kt_wm19) (kt_wfa (kt_wf1 (kt_wp_X11_ring__X11_ring_r1 kt_wm20) (kt_wf1 (kt_wp_X11_ring__X11_ring_r1 kt_wm21) (kt_wf1 (kt_wp_X11_ring__X11_ring_r1 kt_wm1) (kt_wf1 (kt_wp_X11_ring__X11_ring_r1 kt_wm2) (kt_wf1 (kt_wp_X11_ring__X11_ring_r1 kt_wm22) (kt_wf1 (kt_wp_X11_ring__X11_ring_r1 kt_wm3) (kt_wf1 (kt_wp_X11_ring__X11_ring_r1 kt_wm4) (kt_wf1 (kt_wp_X11_ring__X11_ring_r1 kt_wm5) (kt_wf1 (kt_wp_X11_ring__X11_ring_r1 kt_wm6) (kt_wf1 (kt_wp_X11_ring__X11_ring_r1 kt_wm7) (kt_wf1 (kt_wp_X11_ring__X11_ring_r1 kt_wm8) (kt_wf1 (kt_wp_X11_ring__X11_ring_r1 kt_wm9) (kt_wf1 (kt_wp_X11_ring__X11_ring_r1 kt_wm10) (kt_wf1 (kt_wp_X11_ring__X11_ring_r1 kt_wm11) (kt_wf1 (kt_wp_X11_ring__X11_ring_r1 kt_wm12) (kt_wf1 (kt_wp_X11_ring__X11_ring_r1 kt_wm13) (kt_wf1 (kt_wp_X11_ring__X11_ring_r1 kt_wm14) (kt_wf1 (kt_wp_X11_ring__X11_ring_r1 kt_wm15) (kt_wf1 (kt_wp_X11_ring__X11_ring_r1 kt_wm23) (kt_wf1 (kt_wp_X11_ring__X11_ring_r2 kt_wm0) (kt_wf1 (kt_wp_X11_ring__X11_ring_r2 kt_wm1) (kt_wf1 (kt_wp_X11_ring__X11_ring_r2 kt_wm2) kt_wf0)))))))))))))))))))))) (fun _ h => kt_wp_X11_ring__X110 h))) kt_wg_X11_comesOut
set_option maxRecDepth 20000 in
theorem gX11_ring_X11_comesOut : GoodIn wsX11_ring (wsV RX11 173 RX11 yX11_comesOut wsX11_comesOut) := goodIn_app (a := [.methodLink RX11 173 yX11_comesOut, .instanceMethod yX11_comesOut, .selects RX11 yX11_comesOut yX11_comesOut, .initialized RX11]) (goodIn_sub (kt_wf1 (kt_wp_X11_ring__X11_ring_r1 kt_wm16) (kt_wf1 (kt_wp_X11_ring__X11_ring_r1 kt_wm17) (kt_wf1 (kt_wp_X11_ring__X11_ring_r1 kt_wm18) (kt_wf1 (kt_wp_X11_ring__X11_ring_r1 kt_wm6) kt_wf0)))) (by decide +kernel)) ggX11_ring_X11_comesOut
theorem sX11_ring_0 : kt_sg cX11_ring 0 [42, 180, 0, 73, 158, 0, 44, 42, 180, 0, 30, 42, 180, 0, 135, 46, 2, 159, 0, 31, 42, 42, 180, 0, 30, 42, 180, 0, 135, 46, 182, 0, 148, 154, 0, 15, 42, 2, 182, 0, 173, 154, 0, 7, 4, 167, 0, 4, 3, 172] = true := by decide +kernel
theorem dX11_ring_0 : decode cX11_ring 0 = .ok (.aload_n 0, 1) := kt_o42 (j := 0) sX11_ring_0 rfl
theorem dX11_ring_1 : decode cX11_ring 1 = .ok (.getfield 73, 3) := kt_o180 (j := 1) sX11_ring_0 rfl rfl
theorem dX11_ring_4 : decode cX11_ring 4 = .ok (.ifCond .le 44, 3) := kt_o158 (j := 4) sX11_ring_0 rfl (by decide +kernel)
theorem dX11_ring_7 : decode cX11_ring 7 = .ok (.aload_n 0, 1) := kt_o42 (j := 7) sX11_ring_0 rfl
theorem dX11_ring_8 : decode cX11_ring 8 = .ok (.getfield 30, 3) := kt_o180 (j := 8) sX11_ring_0 rfl rfl
theorem dX11_ring_11 : decode cX11_ring 11 = .ok (.aload_n 0, 1) := kt_o42 (j := 11) sX11_ring_0 rfl
theorem dX11_ring_12 : decode cX11_ring 12 = .ok (.getfield 135, 3) := kt_o180 (j := 12) sX11_ring_0 rfl rfl
theorem dX11_ring_15 : decode cX11_ring 15 = .ok (.iaload, 1) := kt_o46 (j := 15) sX11_ring_0 rfl
theorem dX11_ring_16 : decode cX11_ring 16 = .ok (.iconst (-1), 1) := kt_o2 (j := 16) sX11_ring_0 rfl
theorem dX11_ring_17 : decode cX11_ring 17 = .ok (.if_icmp .eq 31, 3) := kt_o159 (j := 17) sX11_ring_0 rfl (by decide +kernel)
theorem dX11_ring_20 : decode cX11_ring 20 = .ok (.aload_n 0, 1) := kt_o42 (j := 20) sX11_ring_0 rfl
theorem dX11_ring_21 : decode cX11_ring 21 = .ok (.aload_n 0, 1) := kt_o42 (j := 21) sX11_ring_0 rfl
theorem dX11_ring_22 : decode cX11_ring 22 = .ok (.getfield 30, 3) := kt_o180 (j := 22) sX11_ring_0 rfl rfl
theorem dX11_ring_25 : decode cX11_ring 25 = .ok (.aload_n 0, 1) := kt_o42 (j := 25) sX11_ring_0 rfl
theorem dX11_ring_26 : decode cX11_ring 26 = .ok (.getfield 135, 3) := kt_o180 (j := 26) sX11_ring_0 rfl rfl
theorem dX11_ring_29 : decode cX11_ring 29 = .ok (.iaload, 1) := kt_o46 (j := 29) sX11_ring_0 rfl
theorem dX11_ring_30 : decode cX11_ring 30 = .ok (.invokevirtual 148, 3) := kt_o182 (j := 30) sX11_ring_0 rfl rfl
theorem dX11_ring_33 : decode cX11_ring 33 = .ok (.ifCond .ne 15, 3) := kt_o154 (j := 33) sX11_ring_0 rfl (by decide +kernel)
theorem dX11_ring_36 : decode cX11_ring 36 = .ok (.aload_n 0, 1) := kt_o42 (j := 36) sX11_ring_0 rfl
theorem dX11_ring_37 : decode cX11_ring 37 = .ok (.iconst (-1), 1) := kt_o2 (j := 37) sX11_ring_0 rfl
theorem dX11_ring_38 : decode cX11_ring 38 = .ok (.invokevirtual 173, 3) := kt_o182 (j := 38) sX11_ring_0 rfl rfl
theorem dX11_ring_41 : decode cX11_ring 41 = .ok (.ifCond .ne 7, 3) := kt_o154 (j := 41) sX11_ring_0 rfl (by decide +kernel)
theorem dX11_ring_44 : decode cX11_ring 44 = .ok (.iconst 1, 1) := kt_o4 (j := 44) sX11_ring_0 rfl
theorem dX11_ring_45 : decode cX11_ring 45 = .ok (.goto 4, 3) := kt_o167 (j := 45) sX11_ring_0 rfl (by decide +kernel)
theorem dX11_ring_48 : decode cX11_ring 48 = .ok (.iconst 0, 1) := kt_o3 (j := 48) sX11_ring_0 rfl
theorem dX11_ring_49 : decode cX11_ring 49 = .ok (.ireturn, 1) := kt_o172 (j := 49) sX11_ring_0 rfl
theorem kt_wp_X11_needed__X11_needed_r1 {w : Cond} (h : w ∈ wsX11_needed_r1) : w ∈ wsX11_needed := List.mem_cons_of_mem _ (List.mem_append_left _ (List.mem_append_left _ (h)))
theorem kt_wp_X11_needed__X11_needed_r2 {w : Cond} (h : w ∈ wsX11_needed_r2) : w ∈ wsX11_needed := List.mem_cons_of_mem _ (List.mem_append_left _ (List.mem_append_right _ (h)))
theorem kt_wp_X11_needed__X110 {w : Cond} (h : w ∈ wsX110) : w ∈ wsX11_needed := List.mem_cons_of_mem _ (List.mem_append_right _ (h))
set_option maxRecDepth 20000 in
theorem kt_wg_X11_ring : wsX11_ring.all goodWord = true := by decide +kernel
set_option maxRecDepth 20000 in
theorem ggX11_needed_X11_ring : GoodIn wsX11_needed wsX11_ring := goodIn_sub (kt_wf1 (kt_wp_X11_needed__X11_needed_r1 kt_wm6) (kt_wfa (kt_wfa (kt_wf1 (kt_wp_X11_needed__X11_needed_r1 kt_wm7) (kt_wf1 (kt_wp_X11_needed__X11_needed_r1 kt_wm1) (kt_wf1 (kt_wp_X11_needed__X11_needed_r1 kt_wm8) (kt_wf1 (kt_wp_X11_needed__X11_needed_r1 kt_wm9) (kt_wf1 (kt_wp_X11_needed__X11_needed_r1 kt_wm10) (kt_wf1 (kt_wp_X11_needed__X11_needed_r1 kt_wm11) (kt_wf1 (kt_wp_X11_needed__X11_needed_r1 kt_wm5) (kt_wf1 (kt_wp_X11_needed__X11_needed_r1 kt_wm12) (kt_wf1 (kt_wp_X11_needed__X11_needed_r1 kt_wm13) (kt_wf1 (kt_wp_X11_needed__X11_needed_r1 kt_wm14) (kt_wf1 (kt_wp_X11_needed__X11_needed_r1 kt_wm15) (kt_wf1 (kt_wp_X11_needed__X11_needed_r1 kt_wm16) (kt_wf1 (kt_wp_X11_needed__X11_needed_r1 kt_wm17) (kt_wf1 (kt_wp_X11_needed__X11_needed_r1 kt_wm18) (kt_wf1 (kt_wp_X11_needed__X11_needed_r1 kt_wm19) (kt_wf1 (kt_wp_X11_needed__X11_needed_r1 kt_wm20) (kt_wf1 (kt_wp_X11_needed__X11_needed_r1 kt_wm21) (kt_wf1 (kt_wp_X11_needed__X11_needed_r1 kt_wm22) (kt_wf1 (kt_wp_X11_needed__X11_needed_r1 kt_wm23) (kt_wf1 (kt_wp_X11_needed__X11_needed_r2 kt_wm0) (kt_wf1 (kt_wp_X11_needed__X11_needed_r2 kt_wm1) (kt_wf1 (kt_wp_X11_needed__X11_needed_r2 kt_wm2) (kt_wf1 (kt_wp_X11_needed__X11_needed_r2 kt_wm3) (kt_wf1 (kt_wp_X11_needed__X11_needed_r2 kt_wm4) kt_wf0)))))))))))))))))))))))) (kt_wf1 (kt_wp_X11_needed__X11_needed_r2 kt_wm5) (kt_wf1 (kt_wp_X11_needed__X11_needed_r2 kt_wm6) (kt_wf1 (kt_wp_X11_needed__X11_needed_r2 kt_wm7) kt_wf0)))) (fun _ h => kt_wp_X11_needed__X110 h))) kt_wg_X11_ring
set_option maxRecDepth 20000 in
theorem gX11_needed_X11_ring : GoodIn wsX11_needed (wsV RX11 176 RX11 yX11_ring wsX11_ring) := goodIn_app (a := [.methodLink RX11 176 yX11_ring, .instanceMethod yX11_ring, .selects RX11 yX11_ring yX11_ring, .initialized RX11]) (goodIn_sub (kt_wf1 (kt_wp_X11_needed__X11_needed_r1 kt_wm2) (kt_wf1 (kt_wp_X11_needed__X11_needed_r1 kt_wm3) (kt_wf1 (kt_wp_X11_needed__X11_needed_r1 kt_wm4) (kt_wf1 (kt_wp_X11_needed__X11_needed_r1 kt_wm5) kt_wf0)))) (by decide +kernel)) ggX11_needed_X11_ring
set_option maxRecDepth 20000 in
theorem ggX11_needed_X11_isIn : GoodIn wsX11_needed wsX11_isIn := goodIn_sub (kt_wf1 (kt_wp_X11_needed__X11_needed_r2 kt_wm10) kt_wf0) kt_wg_X11_isIn
set_option maxRecDepth 20000 in
theorem gX11_needed_X11_isIn : GoodIn wsX11_needed (va_wsS RX11 69 yX11_isIn wsX11_isIn) := goodIn_app (goodIn_of _ (by decide +kernel)) ggX11_needed_X11_isIn
set_option maxRecDepth 20000 in
theorem ggX11_needed_X11_sideOf : GoodIn wsX11_needed wsX11_sideOf := goodIn_sub (kt_wf1 (kt_wp_X11_needed__X11_needed_r2 kt_wm14) (kt_wfa (kt_wf1 (kt_wp_X11_needed__X11_needed_r2 kt_wm15) kt_wf0) (fun _ h => kt_wp_X11_needed__X110 h))) kt_wg_X11_sideOf
set_option maxRecDepth 20000 in
theorem gX11_needed_X11_sideOf : GoodIn wsX11_needed (wsV RX11 106 RX11 yX11_sideOf wsX11_sideOf) := goodIn_app (a := [.methodLink RX11 106 yX11_sideOf, .instanceMethod yX11_sideOf, .selects RX11 yX11_sideOf yX11_sideOf, .initialized RX11]) (goodIn_sub (kt_wf1 (kt_wp_X11_needed__X11_needed_r2 kt_wm11) (kt_wf1 (kt_wp_X11_needed__X11_needed_r2 kt_wm12) (kt_wf1 (kt_wp_X11_needed__X11_needed_r2 kt_wm13) (kt_wf1 (kt_wp_X11_needed__X11_needed_r1 kt_wm5) kt_wf0)))) (by decide +kernel)) ggX11_needed_X11_sideOf
set_option maxRecDepth 20000 in
theorem ggX11_needed_X11_comesOut : GoodIn wsX11_needed wsX11_comesOut := goodIn_sub (kt_wf1 (kt_wp_X11_needed__X11_needed_r2 kt_wm0) (kt_wfa (kt_wf1 (kt_wp_X11_needed__X11_needed_r2 kt_wm1) (kt_wf1 (kt_wp_X11_needed__X11_needed_r2 kt_wm2) (kt_wf1 (kt_wp_X11_needed__X11_needed_r1 kt_wm1) (kt_wf1 (kt_wp_X11_needed__X11_needed_r1 kt_wm8) (kt_wf1 (kt_wp_X11_needed__X11_needed_r2 kt_wm3) (kt_wf1 (kt_wp_X11_needed__X11_needed_r1 kt_wm9) (kt_wf1 (kt_wp_X11_needed__X11_needed_r1 kt_wm10) (kt_wf1 (kt_wp_X11_needed__X11_needed_r1 kt_wm11) (kt_wf1 (kt_wp_X11_needed__X11_needed_r1 kt_wm5) (kt_wf1 (kt_wp_X11_needed__X11_needed_r1 kt_wm12) (kt_wf1 (kt_wp_X11_needed__X11_needed_r1 kt_wm13) (kt_wf1 (kt_wp_X11_needed__X11_needed_r1 kt_wm14) (kt_wf1 (kt_wp_X11_needed__X11_needed_r1 kt_wm15) (kt_wf1 (kt_wp_X11_needed__X11_needed_r1 kt_wm16) (kt_wf1 (kt_wp_X11_needed__X11_needed_r1 kt_wm17) (kt_wf1 (kt_wp_X11_needed__X11_needed_r1 kt_wm18) (kt_wf1 (kt_wp_X11_needed__X11_needed_r1 kt_wm19) (kt_wf1 (kt_wp_X11_needed__X11_needed_r1 kt_wm20) (kt_wf1 (kt_wp_X11_needed__X11_needed_r2 kt_wm4) (kt_wf1 (kt_wp_X11_needed__X11_needed_r2 kt_wm5) (kt_wf1 (kt_wp_X11_needed__X11_needed_r2 kt_wm6) (kt_wf1 (kt_wp_X11_needed__X11_needed_r2 kt_wm7) kt_wf0)))))))))))))))))))))) (fun _ h => kt_wp_X11_needed__X110 h))) kt_wg_X11_comesOut
set_option maxRecDepth 20000 in
theorem gX11_needed_X11_comesOut : GoodIn wsX11_needed (wsV RX11 173 RX11 yX11_comesOut wsX11_comesOut) := goodIn_app (a := [.methodLink RX11 173 yX11_comesOut, .instanceMethod yX11_comesOut, .selects RX11 yX11_comesOut yX11_comesOut, .initialized RX11]) (goodIn_sub (kt_wf1 (kt_wp_X11_needed__X11_needed_r1 kt_wm21) (kt_wf1 (kt_wp_X11_needed__X11_needed_r1 kt_wm22) (kt_wf1 (kt_wp_X11_needed__X11_needed_r1 kt_wm23) (kt_wf1 (kt_wp_X11_needed__X11_needed_r1 kt_wm5) kt_wf0)))) (by decide +kernel)) ggX11_needed_X11_comesOut
theorem sX11_needed_0 : kt_sg cX11_needed 0 [42, 182, 0, 176, 153, 0, 48, 27, 3, 42, 180, 0, 103, 4, 100, 184, 0, 69, 153, 0, 34, 42, 27, 182, 0, 106, 4, 160, 0, 25, 42, 180, 0, 30, 27, 46, 2, 159, 0, 15, 42, 27, 182, 0, 173, 153, 0, 7, 4, 167, 0, 4, 3, 172] = true := by decide +kernel
theorem dX11_needed_0 : decode cX11_needed 0 = .ok (.aload_n 0, 1) := kt_o42 (j := 0) sX11_needed_0 rfl
theorem dX11_needed_1 : decode cX11_needed 1 = .ok (.invokevirtual 176, 3) := kt_o182 (j := 1) sX11_needed_0 rfl rfl
theorem dX11_needed_4 : decode cX11_needed 4 = .ok (.ifCond .eq 48, 3) := kt_o153 (j := 4) sX11_needed_0 rfl (by decide +kernel)
theorem dX11_needed_7 : decode cX11_needed 7 = .ok (.iload_n 1, 1) := kt_o27 (j := 7) sX11_needed_0 rfl
theorem dX11_needed_8 : decode cX11_needed 8 = .ok (.iconst 0, 1) := kt_o3 (j := 8) sX11_needed_0 rfl
theorem dX11_needed_9 : decode cX11_needed 9 = .ok (.aload_n 0, 1) := kt_o42 (j := 9) sX11_needed_0 rfl
theorem dX11_needed_10 : decode cX11_needed 10 = .ok (.getfield 103, 3) := kt_o180 (j := 10) sX11_needed_0 rfl rfl
theorem dX11_needed_13 : decode cX11_needed 13 = .ok (.iconst 1, 1) := kt_o4 (j := 13) sX11_needed_0 rfl
theorem dX11_needed_14 : decode cX11_needed 14 = .ok (.isub, 1) := kt_o100 (j := 14) sX11_needed_0 rfl
theorem dX11_needed_15 : decode cX11_needed 15 = .ok (.invokestatic 69, 3) := kt_o184 (j := 15) sX11_needed_0 rfl rfl
theorem dX11_needed_18 : decode cX11_needed 18 = .ok (.ifCond .eq 34, 3) := kt_o153 (j := 18) sX11_needed_0 rfl (by decide +kernel)
theorem dX11_needed_21 : decode cX11_needed 21 = .ok (.aload_n 0, 1) := kt_o42 (j := 21) sX11_needed_0 rfl
theorem dX11_needed_22 : decode cX11_needed 22 = .ok (.iload_n 1, 1) := kt_o27 (j := 22) sX11_needed_0 rfl
theorem dX11_needed_23 : decode cX11_needed 23 = .ok (.invokevirtual 106, 3) := kt_o182 (j := 23) sX11_needed_0 rfl rfl
theorem dX11_needed_26 : decode cX11_needed 26 = .ok (.iconst 1, 1) := kt_o4 (j := 26) sX11_needed_0 rfl
theorem dX11_needed_27 : decode cX11_needed 27 = .ok (.if_icmp .ne 25, 3) := kt_o160 (j := 27) sX11_needed_0 rfl (by decide +kernel)
theorem dX11_needed_30 : decode cX11_needed 30 = .ok (.aload_n 0, 1) := kt_o42 (j := 30) sX11_needed_0 rfl
theorem dX11_needed_31 : decode cX11_needed 31 = .ok (.getfield 30, 3) := kt_o180 (j := 31) sX11_needed_0 rfl rfl
theorem dX11_needed_34 : decode cX11_needed 34 = .ok (.iload_n 1, 1) := kt_o27 (j := 34) sX11_needed_0 rfl
theorem dX11_needed_35 : decode cX11_needed 35 = .ok (.iaload, 1) := kt_o46 (j := 35) sX11_needed_0 rfl
theorem dX11_needed_36 : decode cX11_needed 36 = .ok (.iconst (-1), 1) := kt_o2 (j := 36) sX11_needed_0 rfl
theorem dX11_needed_37 : decode cX11_needed 37 = .ok (.if_icmp .eq 15, 3) := kt_o159 (j := 37) sX11_needed_0 rfl (by decide +kernel)
theorem dX11_needed_40 : decode cX11_needed 40 = .ok (.aload_n 0, 1) := kt_o42 (j := 40) sX11_needed_0 rfl
theorem dX11_needed_41 : decode cX11_needed 41 = .ok (.iload_n 1, 1) := kt_o27 (j := 41) sX11_needed_0 rfl
theorem dX11_needed_42 : decode cX11_needed 42 = .ok (.invokevirtual 173, 3) := kt_o182 (j := 42) sX11_needed_0 rfl rfl
theorem dX11_needed_45 : decode cX11_needed 45 = .ok (.ifCond .eq 7, 3) := kt_o153 (j := 45) sX11_needed_0 rfl (by decide +kernel)
theorem dX11_needed_48 : decode cX11_needed 48 = .ok (.iconst 1, 1) := kt_o4 (j := 48) sX11_needed_0 rfl
theorem dX11_needed_49 : decode cX11_needed 49 = .ok (.goto 4, 3) := kt_o167 (j := 49) sX11_needed_0 rfl (by decide +kernel)
theorem dX11_needed_52 : decode cX11_needed 52 = .ok (.iconst 0, 1) := kt_o3 (j := 52) sX11_needed_0 rfl
theorem dX11_needed_53 : decode cX11_needed 53 = .ok (.ireturn, 1) := kt_o172 (j := 53) sX11_needed_0 rfl
theorem kt_wp_X11_stands__X110 {w : Cond} (h : w ∈ wsX110) : w ∈ wsX11_stands := List.mem_cons_of_mem _ (List.mem_append_right _ (h))
set_option maxRecDepth 20000 in
theorem ggX11_stands_X11_fields : GoodIn wsX11_stands wsX11_fields := goodIn_sub (kt_wf1 (List.mem_cons_of_mem _ (List.mem_append_left _ (List.mem_cons_of_mem _ (List.mem_cons_of_mem _ (List.mem_cons_of_mem _ (List.mem_cons_of_mem _ (List.mem_cons_of_mem _ (List.mem_cons_of_mem _ (List.mem_cons_of_mem _ (List.Mem.head _)))))))))) (kt_wfa (kt_wf1 (List.mem_cons_of_mem _ (List.mem_append_left _ (List.mem_cons_of_mem _ (List.mem_cons_of_mem _ (List.mem_cons_of_mem _ (List.mem_cons_of_mem _ (List.mem_cons_of_mem _ (List.mem_cons_of_mem _ (List.mem_cons_of_mem _ (List.mem_cons_of_mem _ (List.Mem.head _))))))))))) (kt_wf1 (List.mem_cons_of_mem _ (List.mem_append_left _ (List.mem_cons_of_mem _ (List.mem_cons_of_mem _ (List.mem_cons_of_mem _ (List.mem_cons_of_mem _ (List.mem_cons_of_mem _ (List.mem_cons_of_mem _ (List.mem_cons_of_mem _ (List.mem_cons_of_mem _ (List.mem_cons_of_mem _ (List.Mem.head _)))))))))))) kt_wf0)) (fun _ h => kt_wp_X11_stands__X110 h))) kt_wg_X11_fields
set_option maxRecDepth 20000 in
theorem gX11_stands_X11_fields : GoodIn wsX11_stands (wsV RX11 88 RX11 yX11_fields wsX11_fields) := goodIn_app (a := [.methodLink RX11 88 yX11_fields, .instanceMethod yX11_fields, .selects RX11 yX11_fields yX11_fields, .initialized RX11]) (goodIn_sub (kt_wf1 (List.mem_cons_of_mem _ (List.mem_append_left _ (List.mem_cons_of_mem _ (List.mem_cons_of_mem _ (List.mem_cons_of_mem _ (List.Mem.head _)))))) (kt_wf1 (List.mem_cons_of_mem _ (List.mem_append_left _ (List.mem_cons_of_mem _ (List.mem_cons_of_mem _ (List.mem_cons_of_mem _ (List.mem_cons_of_mem _ (List.Mem.head _))))))) (kt_wf1 (List.mem_cons_of_mem _ (List.mem_append_left _ (List.mem_cons_of_mem _ (List.mem_cons_of_mem _ (List.mem_cons_of_mem _ (List.mem_cons_of_mem _ (List.mem_cons_of_mem _ (List.Mem.head _)))))))) (kt_wf1 (List.mem_cons_of_mem _ (List.mem_append_left _ (List.mem_cons_of_mem _ (List.mem_cons_of_mem _ (List.mem_cons_of_mem _ (List.mem_cons_of_mem _ (List.mem_cons_of_mem _ (List.mem_cons_of_mem _ (List.Mem.head _))))))))) kt_wf0)))) (by decide +kernel)) ggX11_stands_X11_fields
theorem sX11_stands_0 : kt_sg cX11_stands 0 [20, 0, 180, 64, 3, 62, 29, 42, 180, 0, 103, 162, 0, 27, 31, 20, 0, 182, 148, 157, 0, 19, 31, 42, 182, 0, 88, 4, 96, 133, 105, 64, 132, 3, 1, 167, 255, 227, 31, 173] = true := by decide +kernel
theorem dX11_stands_0 : decode cX11_stands 0 = .ok (.ldc2_w 180, 3) := kt_o20 (j := 0) sX11_stands_0 rfl rfl
theorem dX11_stands_3 : decode cX11_stands 3 = .ok (.lstore_n 1, 1) := kt_o64 (j := 3) sX11_stands_0 rfl
theorem dX11_stands_4 : decode cX11_stands 4 = .ok (.iconst 0, 1) := kt_o3 (j := 4) sX11_stands_0 rfl
theorem dX11_stands_5 : decode cX11_stands 5 = .ok (.istore_n 3, 1) := kt_o62 (j := 5) sX11_stands_0 rfl
theorem dX11_stands_6 : decode cX11_stands 6 = .ok (.iload_n 3, 1) := kt_o29 (j := 6) sX11_stands_0 rfl
theorem dX11_stands_7 : decode cX11_stands 7 = .ok (.aload_n 0, 1) := kt_o42 (j := 7) sX11_stands_0 rfl
theorem dX11_stands_8 : decode cX11_stands 8 = .ok (.getfield 103, 3) := kt_o180 (j := 8) sX11_stands_0 rfl rfl
theorem dX11_stands_11 : decode cX11_stands 11 = .ok (.if_icmp .ge 27, 3) := kt_o162 (j := 11) sX11_stands_0 rfl (by decide +kernel)
theorem dX11_stands_14 : decode cX11_stands 14 = .ok (.lload_n 1, 1) := kt_o31 (j := 14) sX11_stands_0 rfl
theorem dX11_stands_15 : decode cX11_stands 15 = .ok (.ldc2_w 182, 3) := kt_o20 (j := 15) sX11_stands_0 rfl rfl
theorem dX11_stands_18 : decode cX11_stands 18 = .ok (.lcmp, 1) := kt_o148 (j := 18) sX11_stands_0 rfl
theorem dX11_stands_19 : decode cX11_stands 19 = .ok (.ifCond .gt 19, 3) := kt_o157 (j := 19) sX11_stands_0 rfl (by decide +kernel)
theorem dX11_stands_22 : decode cX11_stands 22 = .ok (.lload_n 1, 1) := kt_o31 (j := 22) sX11_stands_0 rfl
theorem dX11_stands_23 : decode cX11_stands 23 = .ok (.aload_n 0, 1) := kt_o42 (j := 23) sX11_stands_0 rfl
theorem dX11_stands_24 : decode cX11_stands 24 = .ok (.invokevirtual 88, 3) := kt_o182 (j := 24) sX11_stands_0 rfl rfl
theorem dX11_stands_27 : decode cX11_stands 27 = .ok (.iconst 1, 1) := kt_o4 (j := 27) sX11_stands_0 rfl
theorem dX11_stands_28 : decode cX11_stands 28 = .ok (.iadd, 1) := kt_o96 (j := 28) sX11_stands_0 rfl
theorem dX11_stands_29 : decode cX11_stands 29 = .ok (.i2l, 1) := kt_o133 (j := 29) sX11_stands_0 rfl
theorem dX11_stands_30 : decode cX11_stands 30 = .ok (.lmul, 1) := kt_o105 (j := 30) sX11_stands_0 rfl
theorem dX11_stands_31 : decode cX11_stands 31 = .ok (.lstore_n 1, 1) := kt_o64 (j := 31) sX11_stands_0 rfl
theorem dX11_stands_32 : decode cX11_stands 32 = .ok (.iinc 3 1, 3) := kt_o132 (j := 32) sX11_stands_0 rfl (by decide +kernel)
theorem dX11_stands_35 : decode cX11_stands 35 = .ok (.goto (-29), 3) := kt_o167 (j := 35) sX11_stands_0 rfl (by decide +kernel)
theorem dX11_stands_38 : decode cX11_stands 38 = .ok (.lload_n 1, 1) := kt_o31 (j := 38) sX11_stands_0 rfl
theorem dX11_stands_39 : decode cX11_stands 39 = .ok (.lreturn, 1) := kt_o173 (j := 39) sX11_stands_0 rfl
theorem kt_wp_X11_setUp__X110 {w : Cond} (h : w ∈ wsX110) : w ∈ wsX11_setUp := List.mem_cons_of_mem _ (List.mem_append_right _ (h))
set_option maxRecDepth 20000 in
theorem ggX11_setUp_X11_fields : GoodIn wsX11_setUp wsX11_fields := goodIn_sub (kt_wf1 (List.mem_cons_of_mem _ (List.mem_append_left _ (List.mem_cons_of_mem _ (List.mem_cons_of_mem _ (List.mem_cons_of_mem _ (List.mem_cons_of_mem _ (List.mem_cons_of_mem _ (List.mem_cons_of_mem _ (List.mem_cons_of_mem _ (List.mem_cons_of_mem _ (List.Mem.head _))))))))))) (kt_wfa (kt_wf1 (List.mem_cons_of_mem _ (List.mem_append_left _ (List.mem_cons_of_mem _ (List.mem_cons_of_mem _ (List.mem_cons_of_mem _ (List.mem_cons_of_mem _ (List.mem_cons_of_mem _ (List.mem_cons_of_mem _ (List.mem_cons_of_mem _ (List.mem_cons_of_mem _ (List.mem_cons_of_mem _ (List.Mem.head _)))))))))))) (kt_wf1 (List.mem_cons_of_mem _ (List.mem_append_left _ (List.mem_cons_of_mem _ (List.mem_cons_of_mem _ (List.mem_cons_of_mem _ (List.mem_cons_of_mem _ (List.mem_cons_of_mem _ (List.mem_cons_of_mem _ (List.mem_cons_of_mem _ (List.mem_cons_of_mem _ (List.mem_cons_of_mem _ (List.mem_cons_of_mem _ (List.Mem.head _))))))))))))) kt_wf0)) (fun _ h => kt_wp_X11_setUp__X110 h))) kt_wg_X11_fields
set_option maxRecDepth 20000 in
theorem gX11_setUp_X11_fields : GoodIn wsX11_setUp (wsV RX11 88 RX11 yX11_fields wsX11_fields) := goodIn_app (a := [.methodLink RX11 88 yX11_fields, .instanceMethod yX11_fields, .selects RX11 yX11_fields yX11_fields, .initialized RX11]) (goodIn_sub (kt_wf1 (List.mem_cons_of_mem _ (List.mem_append_left _ (List.mem_cons_of_mem _ (List.mem_cons_of_mem _ (List.mem_cons_of_mem _ (List.mem_cons_of_mem _ (List.Mem.head _))))))) (kt_wf1 (List.mem_cons_of_mem _ (List.mem_append_left _ (List.mem_cons_of_mem _ (List.mem_cons_of_mem _ (List.mem_cons_of_mem _ (List.mem_cons_of_mem _ (List.mem_cons_of_mem _ (List.Mem.head _)))))))) (kt_wf1 (List.mem_cons_of_mem _ (List.mem_append_left _ (List.mem_cons_of_mem _ (List.mem_cons_of_mem _ (List.mem_cons_of_mem _ (List.mem_cons_of_mem _ (List.mem_cons_of_mem _ (List.mem_cons_of_mem _ (List.Mem.head _))))))))) (kt_wf1 (List.mem_cons_of_mem _ (List.mem_append_left _ (List.mem_cons_of_mem _ (List.mem_cons_of_mem _ (List.mem_cons_of_mem _ (List.mem_cons_of_mem _ (List.mem_cons_of_mem _ (List.mem_cons_of_mem _ (List.mem_cons_of_mem _ (List.Mem.head _)))))))))) kt_wf0)))) (by decide +kernel)) ggX11_setUp_X11_fields
set_option maxRecDepth 20000 in
theorem ggX11_setUp_X11_bears : GoodIn wsX11_setUp wsX11_bears := goodIn_sub (kt_wf1 (List.mem_cons_of_mem _ (List.mem_append_left _ (List.mem_cons_of_mem _ (List.mem_cons_of_mem _ (List.mem_cons_of_mem _ (List.mem_cons_of_mem _ (List.mem_cons_of_mem _ (List.mem_cons_of_mem _ (List.mem_cons_of_mem _ (List.mem_cons_of_mem _ (List.mem_cons_of_mem _ (List.mem_cons_of_mem _ (List.mem_cons_of_mem _ (List.mem_cons_of_mem _ (List.mem_cons_of_mem _ (List.mem_cons_of_mem _ (List.Mem.head _))))))))))))))))) (kt_wfa (kt_wf1 (List.mem_cons_of_mem _ (List.mem_append_left _ (List.mem_cons_of_mem _ (List.mem_cons_of_mem _ (List.mem_cons_of_mem _ (List.mem_cons_of_mem _ (List.mem_cons_of_mem _ (List.mem_cons_of_mem _ (List.mem_cons_of_mem _ (List.mem_cons_of_mem _ (List.mem_cons_of_mem _ (List.mem_cons_of_mem _ (List.mem_cons_of_mem _ (List.mem_cons_of_mem _ (List.mem_cons_of_mem _ (List.mem_cons_of_mem _ (List.mem_cons_of_mem _ (List.Mem.head _)))))))))))))))))) (kt_wf1 (List.mem_cons_of_mem _ (List.mem_append_left _ (List.mem_cons_of_mem _ (List.mem_cons_of_mem _ (List.mem_cons_of_mem _ (List.mem_cons_of_mem _ (List.mem_cons_of_mem _ (List.mem_cons_of_mem _ (List.mem_cons_of_mem _ (List.mem_cons_of_mem _ (List.mem_cons_of_mem _ (List.mem_cons_of_mem _ (List.mem_cons_of_mem _ (List.mem_cons_of_mem _ (List.mem_cons_of_mem _ (List.mem_cons_of_mem _ (List.mem_cons_of_mem _ (List.mem_cons_of_mem _ (List.Mem.head _))))))))))))))))))) kt_wf0)) (fun _ h => kt_wp_X11_setUp__X110 h))) kt_wg_X11_bears
set_option maxRecDepth 20000 in
theorem gX11_setUp_X11_bears : GoodIn wsX11_setUp (wsV RX11 96 RX11 yX11_bears wsX11_bears) := goodIn_app (a := [.methodLink RX11 96 yX11_bears, .instanceMethod yX11_bears, .selects RX11 yX11_bears yX11_bears, .initialized RX11]) (goodIn_sub (kt_wf1 (List.mem_cons_of_mem _ (List.mem_append_left _ (List.mem_cons_of_mem _ (List.mem_cons_of_mem _ (List.mem_cons_of_mem _ (List.mem_cons_of_mem _ (List.mem_cons_of_mem _ (List.mem_cons_of_mem _ (List.mem_cons_of_mem _ (List.mem_cons_of_mem _ (List.mem_cons_of_mem _ (List.mem_cons_of_mem _ (List.mem_cons_of_mem _ (List.Mem.head _)))))))))))))) (kt_wf1 (List.mem_cons_of_mem _ (List.mem_append_left _ (List.mem_cons_of_mem _ (List.mem_cons_of_mem _ (List.mem_cons_of_mem _ (List.mem_cons_of_mem _ (List.mem_cons_of_mem _ (List.mem_cons_of_mem _ (List.mem_cons_of_mem _ (List.mem_cons_of_mem _ (List.mem_cons_of_mem _ (List.mem_cons_of_mem _ (List.mem_cons_of_mem _ (List.mem_cons_of_mem _ (List.Mem.head _))))))))))))))) (kt_wf1 (List.mem_cons_of_mem _ (List.mem_append_left _ (List.mem_cons_of_mem _ (List.mem_cons_of_mem _ (List.mem_cons_of_mem _ (List.mem_cons_of_mem _ (List.mem_cons_of_mem _ (List.mem_cons_of_mem _ (List.mem_cons_of_mem _ (List.mem_cons_of_mem _ (List.mem_cons_of_mem _ (List.mem_cons_of_mem _ (List.mem_cons_of_mem _ (List.mem_cons_of_mem _ (List.mem_cons_of_mem _ (List.Mem.head _)))))))))))))))) (kt_wf1 (List.mem_cons_of_mem _ (List.mem_append_left _ (List.mem_cons_of_mem _ (List.mem_cons_of_mem _ (List.mem_cons_of_mem _ (List.mem_cons_of_mem _ (List.mem_cons_of_mem _ (List.mem_cons_of_mem _ (List.mem_cons_of_mem _ (List.Mem.head _)))))))))) kt_wf0)))) (by decide +kernel)) ggX11_setUp_X11_bears
theorem sX11_setUp_0 : kt_sg cX11_setUp 0 [27, 5, 108, 61, 4, 62, 42, 27, 5, 112, 181, 0, 126, 3, 54, 4, 21, 4, 42, 182, 0, 88, 162, 0, 17, 42, 180, 0, 33, 21, 4, 2, 79, 132, 4, 1, 167, 255, 236, 3, 54, 4, 21, 4, 42, 180, 0, 103, 162, 0, 105, 28, 42, 182, 0, 88, 4, 96, 112, 54, 5, 28, 42, 182, 0, 88] = true := by decide +kernel
theorem dX11_setUp_0 : decode cX11_setUp 0 = .ok (.iload_n 1, 1) := kt_o27 (j := 0) sX11_setUp_0 rfl
theorem dX11_setUp_1 : decode cX11_setUp 1 = .ok (.iconst 2, 1) := kt_o5 (j := 1) sX11_setUp_0 rfl
theorem dX11_setUp_2 : decode cX11_setUp 2 = .ok (.idiv, 1) := kt_o108 (j := 2) sX11_setUp_0 rfl
theorem dX11_setUp_3 : decode cX11_setUp 3 = .ok (.istore_n 2, 1) := kt_o61 (j := 3) sX11_setUp_0 rfl
theorem dX11_setUp_4 : decode cX11_setUp 4 = .ok (.iconst 1, 1) := kt_o4 (j := 4) sX11_setUp_0 rfl
theorem dX11_setUp_5 : decode cX11_setUp 5 = .ok (.istore_n 3, 1) := kt_o62 (j := 5) sX11_setUp_0 rfl
theorem dX11_setUp_6 : decode cX11_setUp 6 = .ok (.aload_n 0, 1) := kt_o42 (j := 6) sX11_setUp_0 rfl
theorem dX11_setUp_7 : decode cX11_setUp 7 = .ok (.iload_n 1, 1) := kt_o27 (j := 7) sX11_setUp_0 rfl
theorem dX11_setUp_8 : decode cX11_setUp 8 = .ok (.iconst 2, 1) := kt_o5 (j := 8) sX11_setUp_0 rfl
theorem dX11_setUp_9 : decode cX11_setUp 9 = .ok (.irem, 1) := kt_o112 (j := 9) sX11_setUp_0 rfl
theorem dX11_setUp_10 : decode cX11_setUp 10 = .ok (.putfield 126, 3) := kt_o181 (j := 10) sX11_setUp_0 rfl rfl
theorem dX11_setUp_13 : decode cX11_setUp 13 = .ok (.iconst 0, 1) := kt_o3 (j := 13) sX11_setUp_0 rfl
theorem dX11_setUp_14 : decode cX11_setUp 14 = .ok (.istore 4, 2) := kt_o54 (j := 14) sX11_setUp_0 rfl
theorem dX11_setUp_16 : decode cX11_setUp 16 = .ok (.iload 4, 2) := kt_o21 (j := 16) sX11_setUp_0 rfl
theorem dX11_setUp_18 : decode cX11_setUp 18 = .ok (.aload_n 0, 1) := kt_o42 (j := 18) sX11_setUp_0 rfl
theorem dX11_setUp_19 : decode cX11_setUp 19 = .ok (.invokevirtual 88, 3) := kt_o182 (j := 19) sX11_setUp_0 rfl rfl
theorem dX11_setUp_22 : decode cX11_setUp 22 = .ok (.if_icmp .ge 17, 3) := kt_o162 (j := 22) sX11_setUp_0 rfl (by decide +kernel)
theorem dX11_setUp_25 : decode cX11_setUp 25 = .ok (.aload_n 0, 1) := kt_o42 (j := 25) sX11_setUp_0 rfl
theorem dX11_setUp_26 : decode cX11_setUp 26 = .ok (.getfield 33, 3) := kt_o180 (j := 26) sX11_setUp_0 rfl rfl
theorem dX11_setUp_29 : decode cX11_setUp 29 = .ok (.iload 4, 2) := kt_o21 (j := 29) sX11_setUp_0 rfl
theorem dX11_setUp_31 : decode cX11_setUp 31 = .ok (.iconst (-1), 1) := kt_o2 (j := 31) sX11_setUp_0 rfl
theorem dX11_setUp_32 : decode cX11_setUp 32 = .ok (.iastore, 1) := kt_o79 (j := 32) sX11_setUp_0 rfl
theorem dX11_setUp_33 : decode cX11_setUp 33 = .ok (.iinc 4 1, 3) := kt_o132 (j := 33) sX11_setUp_0 rfl (by decide +kernel)
theorem dX11_setUp_36 : decode cX11_setUp 36 = .ok (.goto (-20), 3) := kt_o167 (j := 36) sX11_setUp_0 rfl (by decide +kernel)
theorem dX11_setUp_39 : decode cX11_setUp 39 = .ok (.iconst 0, 1) := kt_o3 (j := 39) sX11_setUp_0 rfl
theorem dX11_setUp_40 : decode cX11_setUp 40 = .ok (.istore 4, 2) := kt_o54 (j := 40) sX11_setUp_0 rfl
theorem dX11_setUp_42 : decode cX11_setUp 42 = .ok (.iload 4, 2) := kt_o21 (j := 42) sX11_setUp_0 rfl
theorem dX11_setUp_44 : decode cX11_setUp 44 = .ok (.aload_n 0, 1) := kt_o42 (j := 44) sX11_setUp_0 rfl
theorem dX11_setUp_45 : decode cX11_setUp 45 = .ok (.getfield 103, 3) := kt_o180 (j := 45) sX11_setUp_0 rfl rfl
theorem dX11_setUp_48 : decode cX11_setUp 48 = .ok (.if_icmp .ge 105, 3) := kt_o162 (j := 48) sX11_setUp_0 rfl (by decide +kernel)
theorem dX11_setUp_51 : decode cX11_setUp 51 = .ok (.iload_n 2, 1) := kt_o28 (j := 51) sX11_setUp_0 rfl
theorem dX11_setUp_52 : decode cX11_setUp 52 = .ok (.aload_n 0, 1) := kt_o42 (j := 52) sX11_setUp_0 rfl
theorem dX11_setUp_53 : decode cX11_setUp 53 = .ok (.invokevirtual 88, 3) := kt_o182 (j := 53) sX11_setUp_0 rfl rfl
theorem dX11_setUp_56 : decode cX11_setUp 56 = .ok (.iconst 1, 1) := kt_o4 (j := 56) sX11_setUp_0 rfl
theorem dX11_setUp_57 : decode cX11_setUp 57 = .ok (.iadd, 1) := kt_o96 (j := 57) sX11_setUp_0 rfl
theorem dX11_setUp_58 : decode cX11_setUp 58 = .ok (.irem, 1) := kt_o112 (j := 58) sX11_setUp_0 rfl
theorem dX11_setUp_59 : decode cX11_setUp 59 = .ok (.istore 5, 2) := kt_o54 (j := 59) sX11_setUp_0 rfl
theorem dX11_setUp_61 : decode cX11_setUp 61 = .ok (.iload_n 2, 1) := kt_o28 (j := 61) sX11_setUp_0 rfl
theorem dX11_setUp_62 : decode cX11_setUp 62 = .ok (.aload_n 0, 1) := kt_o42 (j := 62) sX11_setUp_0 rfl
theorem dX11_setUp_63 : decode cX11_setUp 63 = .ok (.invokevirtual 88, 3) := kt_o182 (j := 63) sX11_setUp_0 rfl rfl
theorem sX11_setUp_66 : kt_sg cX11_setUp 66 [4, 96, 108, 61, 42, 180, 0, 30, 21, 4, 21, 5, 42, 182, 0, 88, 160, 0, 7, 2, 167, 0, 5, 21, 5, 79, 42, 180, 0, 30, 21, 4, 46, 2, 160, 0, 6, 167, 0, 44, 29, 153, 0, 29, 42, 180, 0, 33, 21, 5, 46, 2, 160, 0, 18, 42, 21, 5, 21, 4, 182, 0, 96, 153, 0, 7] = true := by decide +kernel
theorem dX11_setUp_66 : decode cX11_setUp 66 = .ok (.iconst 1, 1) := kt_o4 (j := 0) sX11_setUp_66 rfl
theorem dX11_setUp_67 : decode cX11_setUp 67 = .ok (.iadd, 1) := kt_o96 (j := 1) sX11_setUp_66 rfl
theorem dX11_setUp_68 : decode cX11_setUp 68 = .ok (.idiv, 1) := kt_o108 (j := 2) sX11_setUp_66 rfl
theorem dX11_setUp_69 : decode cX11_setUp 69 = .ok (.istore_n 2, 1) := kt_o61 (j := 3) sX11_setUp_66 rfl
theorem dX11_setUp_70 : decode cX11_setUp 70 = .ok (.aload_n 0, 1) := kt_o42 (j := 4) sX11_setUp_66 rfl
theorem dX11_setUp_71 : decode cX11_setUp 71 = .ok (.getfield 30, 3) := kt_o180 (j := 5) sX11_setUp_66 rfl rfl
theorem dX11_setUp_74 : decode cX11_setUp 74 = .ok (.iload 4, 2) := kt_o21 (j := 8) sX11_setUp_66 rfl
theorem dX11_setUp_76 : decode cX11_setUp 76 = .ok (.iload 5, 2) := kt_o21 (j := 10) sX11_setUp_66 rfl
theorem dX11_setUp_78 : decode cX11_setUp 78 = .ok (.aload_n 0, 1) := kt_o42 (j := 12) sX11_setUp_66 rfl
theorem dX11_setUp_79 : decode cX11_setUp 79 = .ok (.invokevirtual 88, 3) := kt_o182 (j := 13) sX11_setUp_66 rfl rfl
theorem dX11_setUp_82 : decode cX11_setUp 82 = .ok (.if_icmp .ne 7, 3) := kt_o160 (j := 16) sX11_setUp_66 rfl (by decide +kernel)
theorem dX11_setUp_85 : decode cX11_setUp 85 = .ok (.iconst (-1), 1) := kt_o2 (j := 19) sX11_setUp_66 rfl
theorem dX11_setUp_86 : decode cX11_setUp 86 = .ok (.goto 5, 3) := kt_o167 (j := 20) sX11_setUp_66 rfl (by decide +kernel)
theorem dX11_setUp_89 : decode cX11_setUp 89 = .ok (.iload 5, 2) := kt_o21 (j := 23) sX11_setUp_66 rfl
theorem dX11_setUp_91 : decode cX11_setUp 91 = .ok (.iastore, 1) := kt_o79 (j := 25) sX11_setUp_66 rfl
theorem dX11_setUp_92 : decode cX11_setUp 92 = .ok (.aload_n 0, 1) := kt_o42 (j := 26) sX11_setUp_66 rfl
theorem dX11_setUp_93 : decode cX11_setUp 93 = .ok (.getfield 30, 3) := kt_o180 (j := 27) sX11_setUp_66 rfl rfl
theorem dX11_setUp_96 : decode cX11_setUp 96 = .ok (.iload 4, 2) := kt_o21 (j := 30) sX11_setUp_66 rfl
theorem dX11_setUp_98 : decode cX11_setUp 98 = .ok (.iaload, 1) := kt_o46 (j := 32) sX11_setUp_66 rfl
theorem dX11_setUp_99 : decode cX11_setUp 99 = .ok (.iconst (-1), 1) := kt_o2 (j := 33) sX11_setUp_66 rfl
theorem dX11_setUp_100 : decode cX11_setUp 100 = .ok (.if_icmp .ne 6, 3) := kt_o160 (j := 34) sX11_setUp_66 rfl (by decide +kernel)
theorem dX11_setUp_103 : decode cX11_setUp 103 = .ok (.goto 44, 3) := kt_o167 (j := 37) sX11_setUp_66 rfl (by decide +kernel)
theorem dX11_setUp_106 : decode cX11_setUp 106 = .ok (.iload_n 3, 1) := kt_o29 (j := 40) sX11_setUp_66 rfl
theorem dX11_setUp_107 : decode cX11_setUp 107 = .ok (.ifCond .eq 29, 3) := kt_o153 (j := 41) sX11_setUp_66 rfl (by decide +kernel)
theorem dX11_setUp_110 : decode cX11_setUp 110 = .ok (.aload_n 0, 1) := kt_o42 (j := 44) sX11_setUp_66 rfl
theorem dX11_setUp_111 : decode cX11_setUp 111 = .ok (.getfield 33, 3) := kt_o180 (j := 45) sX11_setUp_66 rfl rfl
theorem dX11_setUp_114 : decode cX11_setUp 114 = .ok (.iload 5, 2) := kt_o21 (j := 48) sX11_setUp_66 rfl
theorem dX11_setUp_116 : decode cX11_setUp 116 = .ok (.iaload, 1) := kt_o46 (j := 50) sX11_setUp_66 rfl
theorem dX11_setUp_117 : decode cX11_setUp 117 = .ok (.iconst (-1), 1) := kt_o2 (j := 51) sX11_setUp_66 rfl
theorem dX11_setUp_118 : decode cX11_setUp 118 = .ok (.if_icmp .ne 18, 3) := kt_o160 (j := 52) sX11_setUp_66 rfl (by decide +kernel)
theorem dX11_setUp_121 : decode cX11_setUp 121 = .ok (.aload_n 0, 1) := kt_o42 (j := 55) sX11_setUp_66 rfl
theorem dX11_setUp_122 : decode cX11_setUp 122 = .ok (.iload 5, 2) := kt_o21 (j := 56) sX11_setUp_66 rfl
theorem dX11_setUp_124 : decode cX11_setUp 124 = .ok (.iload 4, 2) := kt_o21 (j := 58) sX11_setUp_66 rfl
theorem dX11_setUp_126 : decode cX11_setUp 126 = .ok (.invokevirtual 96, 3) := kt_o182 (j := 60) sX11_setUp_66 rfl rfl
theorem dX11_setUp_129 : decode cX11_setUp 129 = .ok (.ifCond .eq 7, 3) := kt_o153 (j := 63) sX11_setUp_66 rfl (by decide +kernel)
theorem sX11_setUp_132 : kt_sg cX11_setUp 132 [4, 167, 0, 4, 3, 62, 42, 180, 0, 33, 21, 5, 21, 4, 79, 132, 4, 1, 167, 255, 148, 29, 172] = true := by decide +kernel
theorem dX11_setUp_132 : decode cX11_setUp 132 = .ok (.iconst 1, 1) := kt_o4 (j := 0) sX11_setUp_132 rfl
theorem dX11_setUp_133 : decode cX11_setUp 133 = .ok (.goto 4, 3) := kt_o167 (j := 1) sX11_setUp_132 rfl (by decide +kernel)
theorem dX11_setUp_136 : decode cX11_setUp 136 = .ok (.iconst 0, 1) := kt_o3 (j := 4) sX11_setUp_132 rfl
theorem dX11_setUp_137 : decode cX11_setUp 137 = .ok (.istore_n 3, 1) := kt_o62 (j := 5) sX11_setUp_132 rfl
theorem dX11_setUp_138 : decode cX11_setUp 138 = .ok (.aload_n 0, 1) := kt_o42 (j := 6) sX11_setUp_132 rfl
theorem dX11_setUp_139 : decode cX11_setUp 139 = .ok (.getfield 33, 3) := kt_o180 (j := 7) sX11_setUp_132 rfl rfl
theorem dX11_setUp_142 : decode cX11_setUp 142 = .ok (.iload 5, 2) := kt_o21 (j := 10) sX11_setUp_132 rfl
theorem dX11_setUp_144 : decode cX11_setUp 144 = .ok (.iload 4, 2) := kt_o21 (j := 12) sX11_setUp_132 rfl
theorem dX11_setUp_146 : decode cX11_setUp 146 = .ok (.iastore, 1) := kt_o79 (j := 14) sX11_setUp_132 rfl
theorem dX11_setUp_147 : decode cX11_setUp 147 = .ok (.iinc 4 1, 3) := kt_o132 (j := 15) sX11_setUp_132 rfl (by decide +kernel)
theorem dX11_setUp_150 : decode cX11_setUp 150 = .ok (.goto (-108), 3) := kt_o167 (j := 18) sX11_setUp_132 rfl (by decide +kernel)
theorem dX11_setUp_153 : decode cX11_setUp 153 = .ok (.iload_n 3, 1) := kt_o29 (j := 21) sX11_setUp_132 rfl
theorem dX11_setUp_154 : decode cX11_setUp 154 = .ok (.ireturn, 1) := kt_o172 (j := 22) sX11_setUp_132 rfl
theorem kt_wp_X11_number__X110 {w : Cond} (h : w ∈ wsX110) : w ∈ wsX11_number := List.mem_cons_of_mem _ (List.mem_append_right _ (h))
set_option maxRecDepth 20000 in
theorem ggX11_number_X11_fields : GoodIn wsX11_number wsX11_fields := goodIn_sub (kt_wf1 (List.mem_cons_of_mem _ (List.mem_append_left _ (List.mem_cons_of_mem _ (List.mem_cons_of_mem _ (List.mem_cons_of_mem _ (List.mem_cons_of_mem _ (List.mem_cons_of_mem _ (List.mem_cons_of_mem _ (List.mem_cons_of_mem _ (List.Mem.head _)))))))))) (kt_wfa (kt_wf1 (List.mem_cons_of_mem _ (List.mem_append_left _ (List.mem_cons_of_mem _ (List.mem_cons_of_mem _ (List.mem_cons_of_mem _ (List.mem_cons_of_mem _ (List.mem_cons_of_mem _ (List.mem_cons_of_mem _ (List.mem_cons_of_mem _ (List.mem_cons_of_mem _ (List.Mem.head _))))))))))) (kt_wf1 (List.mem_cons_of_mem _ (List.mem_append_left _ (List.mem_cons_of_mem _ (List.mem_cons_of_mem _ (List.mem_cons_of_mem _ (List.mem_cons_of_mem _ (List.mem_cons_of_mem _ (List.mem_cons_of_mem _ (List.mem_cons_of_mem _ (List.mem_cons_of_mem _ (List.mem_cons_of_mem _ (List.Mem.head _)))))))))))) kt_wf0)) (fun _ h => kt_wp_X11_number__X110 h))) kt_wg_X11_fields
set_option maxRecDepth 20000 in
theorem gX11_number_X11_fields : GoodIn wsX11_number (wsV RX11 88 RX11 yX11_fields wsX11_fields) := goodIn_app (a := [.methodLink RX11 88 yX11_fields, .instanceMethod yX11_fields, .selects RX11 yX11_fields yX11_fields, .initialized RX11]) (goodIn_sub (kt_wf1 (List.mem_cons_of_mem _ (List.mem_append_left _ (List.mem_cons_of_mem _ (List.mem_cons_of_mem _ (List.mem_cons_of_mem _ (List.Mem.head _)))))) (kt_wf1 (List.mem_cons_of_mem _ (List.mem_append_left _ (List.mem_cons_of_mem _ (List.mem_cons_of_mem _ (List.mem_cons_of_mem _ (List.mem_cons_of_mem _ (List.Mem.head _))))))) (kt_wf1 (List.mem_cons_of_mem _ (List.mem_append_left _ (List.mem_cons_of_mem _ (List.mem_cons_of_mem _ (List.mem_cons_of_mem _ (List.mem_cons_of_mem _ (List.mem_cons_of_mem _ (List.Mem.head _)))))))) (kt_wf1 (List.mem_cons_of_mem _ (List.mem_append_left _ (List.mem_cons_of_mem _ (List.mem_cons_of_mem _ (List.mem_cons_of_mem _ (List.mem_cons_of_mem _ (List.mem_cons_of_mem _ (List.mem_cons_of_mem _ (List.Mem.head _))))))))) kt_wf0)))) (by decide +kernel)) ggX11_number_X11_fields
theorem sX11_number_0 : kt_sg cX11_number 0 [3, 60, 42, 180, 0, 103, 4, 100, 61, 28, 155, 0, 42, 27, 42, 182, 0, 88, 4, 96, 104, 42, 180, 0, 30, 28, 46, 2, 160, 0, 10, 42, 182, 0, 88, 167, 0, 9, 42, 180, 0, 30, 28, 46, 96, 60, 132, 2, 255, 167, 255, 216, 5, 27, 104, 42, 180, 0, 126, 96, 172] = true := by decide +kernel
theorem dX11_number_0 : decode cX11_number 0 = .ok (.iconst 0, 1) := kt_o3 (j := 0) sX11_number_0 rfl
theorem dX11_number_1 : decode cX11_number 1 = .ok (.istore_n 1, 1) := kt_o60 (j := 1) sX11_number_0 rfl
theorem dX11_number_2 : decode cX11_number 2 = .ok (.aload_n 0, 1) := kt_o42 (j := 2) sX11_number_0 rfl
theorem dX11_number_3 : decode cX11_number 3 = .ok (.getfield 103, 3) := kt_o180 (j := 3) sX11_number_0 rfl rfl
theorem dX11_number_6 : decode cX11_number 6 = .ok (.iconst 1, 1) := kt_o4 (j := 6) sX11_number_0 rfl
theorem dX11_number_7 : decode cX11_number 7 = .ok (.isub, 1) := kt_o100 (j := 7) sX11_number_0 rfl
theorem dX11_number_8 : decode cX11_number 8 = .ok (.istore_n 2, 1) := kt_o61 (j := 8) sX11_number_0 rfl
theorem dX11_number_9 : decode cX11_number 9 = .ok (.iload_n 2, 1) := kt_o28 (j := 9) sX11_number_0 rfl
theorem dX11_number_10 : decode cX11_number 10 = .ok (.ifCond .lt 42, 3) := kt_o155 (j := 10) sX11_number_0 rfl (by decide +kernel)
theorem dX11_number_13 : decode cX11_number 13 = .ok (.iload_n 1, 1) := kt_o27 (j := 13) sX11_number_0 rfl
theorem dX11_number_14 : decode cX11_number 14 = .ok (.aload_n 0, 1) := kt_o42 (j := 14) sX11_number_0 rfl
theorem dX11_number_15 : decode cX11_number 15 = .ok (.invokevirtual 88, 3) := kt_o182 (j := 15) sX11_number_0 rfl rfl
theorem dX11_number_18 : decode cX11_number 18 = .ok (.iconst 1, 1) := kt_o4 (j := 18) sX11_number_0 rfl
theorem dX11_number_19 : decode cX11_number 19 = .ok (.iadd, 1) := kt_o96 (j := 19) sX11_number_0 rfl
theorem dX11_number_20 : decode cX11_number 20 = .ok (.imul, 1) := kt_o104 (j := 20) sX11_number_0 rfl
theorem dX11_number_21 : decode cX11_number 21 = .ok (.aload_n 0, 1) := kt_o42 (j := 21) sX11_number_0 rfl
theorem dX11_number_22 : decode cX11_number 22 = .ok (.getfield 30, 3) := kt_o180 (j := 22) sX11_number_0 rfl rfl
theorem dX11_number_25 : decode cX11_number 25 = .ok (.iload_n 2, 1) := kt_o28 (j := 25) sX11_number_0 rfl
theorem dX11_number_26 : decode cX11_number 26 = .ok (.iaload, 1) := kt_o46 (j := 26) sX11_number_0 rfl
theorem dX11_number_27 : decode cX11_number 27 = .ok (.iconst (-1), 1) := kt_o2 (j := 27) sX11_number_0 rfl
theorem dX11_number_28 : decode cX11_number 28 = .ok (.if_icmp .ne 10, 3) := kt_o160 (j := 28) sX11_number_0 rfl (by decide +kernel)
theorem dX11_number_31 : decode cX11_number 31 = .ok (.aload_n 0, 1) := kt_o42 (j := 31) sX11_number_0 rfl
theorem dX11_number_32 : decode cX11_number 32 = .ok (.invokevirtual 88, 3) := kt_o182 (j := 32) sX11_number_0 rfl rfl
theorem dX11_number_35 : decode cX11_number 35 = .ok (.goto 9, 3) := kt_o167 (j := 35) sX11_number_0 rfl (by decide +kernel)
theorem dX11_number_38 : decode cX11_number 38 = .ok (.aload_n 0, 1) := kt_o42 (j := 38) sX11_number_0 rfl
theorem dX11_number_39 : decode cX11_number 39 = .ok (.getfield 30, 3) := kt_o180 (j := 39) sX11_number_0 rfl rfl
theorem dX11_number_42 : decode cX11_number 42 = .ok (.iload_n 2, 1) := kt_o28 (j := 42) sX11_number_0 rfl
theorem dX11_number_43 : decode cX11_number 43 = .ok (.iaload, 1) := kt_o46 (j := 43) sX11_number_0 rfl
theorem dX11_number_44 : decode cX11_number 44 = .ok (.iadd, 1) := kt_o96 (j := 44) sX11_number_0 rfl
theorem dX11_number_45 : decode cX11_number 45 = .ok (.istore_n 1, 1) := kt_o60 (j := 45) sX11_number_0 rfl
theorem dX11_number_46 : decode cX11_number 46 = .ok (.iinc 2 (-1), 3) := kt_o132 (j := 46) sX11_number_0 rfl (by decide +kernel)
theorem dX11_number_49 : decode cX11_number 49 = .ok (.goto (-40), 3) := kt_o167 (j := 49) sX11_number_0 rfl (by decide +kernel)
theorem dX11_number_52 : decode cX11_number 52 = .ok (.iconst 2, 1) := kt_o5 (j := 52) sX11_number_0 rfl
theorem dX11_number_53 : decode cX11_number 53 = .ok (.iload_n 1, 1) := kt_o27 (j := 53) sX11_number_0 rfl
theorem dX11_number_54 : decode cX11_number 54 = .ok (.imul, 1) := kt_o104 (j := 54) sX11_number_0 rfl
theorem dX11_number_55 : decode cX11_number 55 = .ok (.aload_n 0, 1) := kt_o42 (j := 55) sX11_number_0 rfl
theorem dX11_number_56 : decode cX11_number 56 = .ok (.getfield 126, 3) := kt_o180 (j := 56) sX11_number_0 rfl rfl
theorem dX11_number_59 : decode cX11_number 59 = .ok (.iadd, 1) := kt_o96 (j := 59) sX11_number_0 rfl
theorem dX11_number_60 : decode cX11_number 60 = .ok (.ireturn, 1) := kt_o172 (j := 60) sX11_number_0 rfl
theorem kt_wp_X11_endOf__X11_endOf_r1 {w : Cond} (h : w ∈ wsX11_endOf_r1) : w ∈ wsX11_endOf := List.mem_cons_of_mem _ (List.mem_append_left _ (List.mem_append_left _ (h)))
theorem kt_wp_X11_endOf__X11_endOf_r2 {w : Cond} (h : w ∈ wsX11_endOf_r2) : w ∈ wsX11_endOf := List.mem_cons_of_mem _ (List.mem_append_left _ (List.mem_append_right _ (h)))
theorem kt_wp_X11_endOf__X110 {w : Cond} (h : w ∈ wsX110) : w ∈ wsX11_endOf := List.mem_cons_of_mem _ (List.mem_append_right _ (h))
set_option maxRecDepth 20000 in
theorem ggX11_endOf_X11_isGoal : GoodIn wsX11_endOf wsX11_isGoal := goodIn_sub (kt_wf1 (kt_wp_X11_endOf__X11_endOf_r1 kt_wm7) (kt_wfa (kt_wf1 (kt_wp_X11_endOf__X11_endOf_r1 kt_wm8) (kt_wf1 (kt_wp_X11_endOf__X11_endOf_r1 kt_wm9) (kt_wf1 (kt_wp_X11_endOf__X11_endOf_r1 kt_wm10) (kt_wf1 (kt_wp_X11_endOf__X11_endOf_r1 kt_wm11) (kt_wf1 (kt_wp_X11_endOf__X11_endOf_r1 kt_wm12) (kt_wf1 (kt_wp_X11_endOf__X11_endOf_r1 kt_wm13) (kt_wf1 (kt_wp_X11_endOf__X11_endOf_r1 kt_wm6) (kt_wf1 (kt_wp_X11_endOf__X11_endOf_r1 kt_wm14) (kt_wf1 (kt_wp_X11_endOf__X11_endOf_r1 kt_wm15) kt_wf0))))))))) (fun _ h => kt_wp_X11_endOf__X110 h))) kt_wg_X11_isGoal
set_option maxRecDepth 20000 in
theorem gX11_endOf_X11_isGoal : GoodIn wsX11_endOf (wsV RX11 148 RX11 yX11_isGoal wsX11_isGoal) := goodIn_app (a := [.methodLink RX11 148 yX11_isGoal, .instanceMethod yX11_isGoal, .selects RX11 yX11_isGoal yX11_isGoal, .initialized RX11]) (goodIn_sub (kt_wf1 (kt_wp_X11_endOf__X11_endOf_r1 kt_wm3) (kt_wf1 (kt_wp_X11_endOf__X11_endOf_r1 kt_wm4) (kt_wf1 (kt_wp_X11_endOf__X11_endOf_r1 kt_wm5) (kt_wf1 (kt_wp_X11_endOf__X11_endOf_r1 kt_wm6) kt_wf0)))) (by decide +kernel)) ggX11_endOf_X11_isGoal
set_option maxRecDepth 20000 in
theorem ggX11_endOf_X11_canGo : GoodIn wsX11_endOf wsX11_canGo := goodIn_sub (kt_wf1 (kt_wp_X11_endOf__X11_endOf_r1 kt_wm19) (kt_wfa (kt_wfa (kt_wf1 (kt_wp_X11_endOf__X11_endOf_r1 kt_wm20) (kt_wf1 (kt_wp_X11_endOf__X11_endOf_r1 kt_wm21) (kt_wf1 (kt_wp_X11_endOf__X11_endOf_r1 kt_wm22) (kt_wf1 (kt_wp_X11_endOf__X11_endOf_r1 kt_wm23) (kt_wf1 (kt_wp_X11_endOf__X11_endOf_r1 kt_wm6) (kt_wf1 (kt_wp_X11_endOf__X11_endOf_r2 kt_wm0) (kt_wf1 (kt_wp_X11_endOf__X11_endOf_r2 kt_wm1) (kt_wf1 (kt_wp_X11_endOf__X11_endOf_r2 kt_wm2) (kt_wf1 (kt_wp_X11_endOf__X11_endOf_r2 kt_wm3) (kt_wf1 (kt_wp_X11_endOf__X11_endOf_r2 kt_wm4) (kt_wf1 (kt_wp_X11_endOf__X11_endOf_r2 kt_wm5) (kt_wf1 (kt_wp_X11_endOf__X11_endOf_r1 kt_wm0) (kt_wf1 (kt_wp_X11_endOf__X11_endOf_r2 kt_wm6) (kt_wf1 (kt_wp_X11_endOf__X11_endOf_r2 kt_wm7) (kt_wf1 (kt_wp_X11_endOf__X11_endOf_r2 kt_wm8) (kt_wf1 (kt_wp_X11_endOf__X11_endOf_r2 kt_wm9) (kt_wf1 (kt_wp_X11_endOf__X11_endOf_r2 kt_wm10) (kt_wf1 (kt_wp_X11_endOf__X11_endOf_r2 kt_wm11) (kt_wf1 (kt_wp_X11_endOf__X11_endOf_r2 kt_wm12) (kt_wf1 (kt_wp_X11_endOf__X11_endOf_r2 kt_wm13) (kt_wf1 (kt_wp_X11_endOf__X11_endOf_r2 kt_wm14) (kt_wf1 (kt_wp_X11_endOf__X11_endOf_r2 kt_wm15) (kt_wf1 (kt_wp_X11_endOf__X11_endOf_r1 kt_wm10) (kt_wf1 (kt_wp_X11_endOf__X11_endOf_r1 kt_wm15) kt_wf0)))))))))))))))))))))))) (kt_wf1 (kt_wp_X11_endOf__X11_endOf_r2 kt_wm16) (kt_wf1 (kt_wp_X11_endOf__X11_endOf_r2 kt_wm17) (kt_wf1 (kt_wp_X11_endOf__X11_endOf_r2 kt_wm18) (kt_wf1 (kt_wp_X11_endOf__X11_endOf_r2 kt_wm19) (kt_wf1 (kt_wp_X11_endOf__X11_endOf_r1 kt_wm9) kt_wf0)))))) (fun _ h => kt_wp_X11_endOf__X110 h))) kt_wg_X11_canGo
set_option maxRecDepth 20000 in
theorem gX11_endOf_X11_canGo : GoodIn wsX11_endOf (wsV RX11 151 RX11 yX11_canGo wsX11_canGo) := goodIn_app (a := [.methodLink RX11 151 yX11_canGo, .instanceMethod yX11_canGo, .selects RX11 yX11_canGo yX11_canGo, .initialized RX11]) (goodIn_sub (kt_wf1 (kt_wp_X11_endOf__X11_endOf_r1 kt_wm16) (kt_wf1 (kt_wp_X11_endOf__X11_endOf_r1 kt_wm17) (kt_wf1 (kt_wp_X11_endOf__X11_endOf_r1 kt_wm18) (kt_wf1 (kt_wp_X11_endOf__X11_endOf_r1 kt_wm6) kt_wf0)))) (by decide +kernel)) ggX11_endOf_X11_canGo
theorem sX11_endOf_0 : kt_sg cX11_endOf 0 [42, 180, 0, 30, 42, 180, 0, 135, 46, 2, 160, 0, 7, 4, 167, 0, 44, 42, 42, 180, 0, 30, 42, 180, 0, 135, 46, 182, 0, 148, 153, 0, 7, 3, 167, 0, 24, 42, 42, 180, 0, 126, 182, 0, 151, 153, 0, 7, 6, 167, 0, 9, 4, 42, 180, 0, 126, 100, 172] = true := by decide +kernel
theorem dX11_endOf_0 : decode cX11_endOf 0 = .ok (.aload_n 0, 1) := kt_o42 (j := 0) sX11_endOf_0 rfl
theorem dX11_endOf_1 : decode cX11_endOf 1 = .ok (.getfield 30, 3) := kt_o180 (j := 1) sX11_endOf_0 rfl rfl
theorem dX11_endOf_4 : decode cX11_endOf 4 = .ok (.aload_n 0, 1) := kt_o42 (j := 4) sX11_endOf_0 rfl
theorem dX11_endOf_5 : decode cX11_endOf 5 = .ok (.getfield 135, 3) := kt_o180 (j := 5) sX11_endOf_0 rfl rfl
theorem dX11_endOf_8 : decode cX11_endOf 8 = .ok (.iaload, 1) := kt_o46 (j := 8) sX11_endOf_0 rfl
theorem dX11_endOf_9 : decode cX11_endOf 9 = .ok (.iconst (-1), 1) := kt_o2 (j := 9) sX11_endOf_0 rfl
theorem dX11_endOf_10 : decode cX11_endOf 10 = .ok (.if_icmp .ne 7, 3) := kt_o160 (j := 10) sX11_endOf_0 rfl (by decide +kernel)
theorem dX11_endOf_13 : decode cX11_endOf 13 = .ok (.iconst 1, 1) := kt_o4 (j := 13) sX11_endOf_0 rfl
theorem dX11_endOf_14 : decode cX11_endOf 14 = .ok (.goto 44, 3) := kt_o167 (j := 14) sX11_endOf_0 rfl (by decide +kernel)
theorem dX11_endOf_17 : decode cX11_endOf 17 = .ok (.aload_n 0, 1) := kt_o42 (j := 17) sX11_endOf_0 rfl
theorem dX11_endOf_18 : decode cX11_endOf 18 = .ok (.aload_n 0, 1) := kt_o42 (j := 18) sX11_endOf_0 rfl
theorem dX11_endOf_19 : decode cX11_endOf 19 = .ok (.getfield 30, 3) := kt_o180 (j := 19) sX11_endOf_0 rfl rfl
theorem dX11_endOf_22 : decode cX11_endOf 22 = .ok (.aload_n 0, 1) := kt_o42 (j := 22) sX11_endOf_0 rfl
theorem dX11_endOf_23 : decode cX11_endOf 23 = .ok (.getfield 135, 3) := kt_o180 (j := 23) sX11_endOf_0 rfl rfl
theorem dX11_endOf_26 : decode cX11_endOf 26 = .ok (.iaload, 1) := kt_o46 (j := 26) sX11_endOf_0 rfl
theorem dX11_endOf_27 : decode cX11_endOf 27 = .ok (.invokevirtual 148, 3) := kt_o182 (j := 27) sX11_endOf_0 rfl rfl
theorem dX11_endOf_30 : decode cX11_endOf 30 = .ok (.ifCond .eq 7, 3) := kt_o153 (j := 30) sX11_endOf_0 rfl (by decide +kernel)
theorem dX11_endOf_33 : decode cX11_endOf 33 = .ok (.iconst 0, 1) := kt_o3 (j := 33) sX11_endOf_0 rfl
theorem dX11_endOf_34 : decode cX11_endOf 34 = .ok (.goto 24, 3) := kt_o167 (j := 34) sX11_endOf_0 rfl (by decide +kernel)
theorem dX11_endOf_37 : decode cX11_endOf 37 = .ok (.aload_n 0, 1) := kt_o42 (j := 37) sX11_endOf_0 rfl
theorem dX11_endOf_38 : decode cX11_endOf 38 = .ok (.aload_n 0, 1) := kt_o42 (j := 38) sX11_endOf_0 rfl
theorem dX11_endOf_39 : decode cX11_endOf 39 = .ok (.getfield 126, 3) := kt_o180 (j := 39) sX11_endOf_0 rfl rfl
theorem dX11_endOf_42 : decode cX11_endOf 42 = .ok (.invokevirtual 151, 3) := kt_o182 (j := 42) sX11_endOf_0 rfl rfl
theorem dX11_endOf_45 : decode cX11_endOf 45 = .ok (.ifCond .eq 7, 3) := kt_o153 (j := 45) sX11_endOf_0 rfl (by decide +kernel)
theorem dX11_endOf_48 : decode cX11_endOf 48 = .ok (.iconst 3, 1) := kt_o6 (j := 48) sX11_endOf_0 rfl
theorem dX11_endOf_49 : decode cX11_endOf 49 = .ok (.goto 9, 3) := kt_o167 (j := 49) sX11_endOf_0 rfl (by decide +kernel)
theorem dX11_endOf_52 : decode cX11_endOf 52 = .ok (.iconst 1, 1) := kt_o4 (j := 52) sX11_endOf_0 rfl
theorem dX11_endOf_53 : decode cX11_endOf 53 = .ok (.aload_n 0, 1) := kt_o42 (j := 53) sX11_endOf_0 rfl
theorem dX11_endOf_54 : decode cX11_endOf 54 = .ok (.getfield 126, 3) := kt_o180 (j := 54) sX11_endOf_0 rfl rfl
theorem dX11_endOf_57 : decode cX11_endOf 57 = .ok (.isub, 1) := kt_o100 (j := 57) sX11_endOf_0 rfl
theorem dX11_endOf_58 : decode cX11_endOf 58 = .ok (.ireturn, 1) := kt_o172 (j := 58) sX11_endOf_0 rfl
theorem kt_wp_X11_solve__X11_solve_r1 {w : Cond} (h : w ∈ wsX11_solve_r1) : w ∈ wsX11_solve := List.mem_cons_of_mem _ (List.mem_append_left _ (List.mem_append_left _ (h)))
theorem kt_wp_X11_solve__X11_solve_r2 {w : Cond} (h : w ∈ wsX11_solve_r2) : w ∈ wsX11_solve := List.mem_cons_of_mem _ (List.mem_append_left _ (List.mem_append_right _ (List.mem_append_left _ (h))))
theorem kt_wp_X11_solve__X11_solve_r3 {w : Cond} (h : w ∈ wsX11_solve_r3) : w ∈ wsX11_solve := List.mem_cons_of_mem _ (List.mem_append_left _ (List.mem_append_right _ (List.mem_append_right _ (List.mem_append_left _ (h)))))
theorem kt_wp_X11_solve__X11_solve_r4 {w : Cond} (h : w ∈ wsX11_solve_r4) : w ∈ wsX11_solve := List.mem_cons_of_mem _ (List.mem_append_left _ (List.mem_append_right _ (List.mem_append_right _ (List.mem_append_right _ (List.mem_append_left _ (h))))))
theorem kt_wp_X11_solve__X11_solve_r5 {w : Cond} (h : w ∈ wsX11_solve_r5) : w ∈ wsX11_solve := List.mem_cons_of_mem _ (List.mem_append_left _ (List.mem_append_right _ (List.mem_append_right _ (List.mem_append_right _ (List.mem_append_right _ (h))))))
theorem kt_wp_X11_solve__X110 {w : Cond} (h : w ∈ wsX110) : w ∈ wsX11_solve := List.mem_cons_of_mem _ (List.mem_append_right _ (h))
set_option maxRecDepth 20000 in
theorem kt_wg_X11_stands : wsX11_stands.all goodWord = true := by decide +kernel
set_option maxRecDepth 20000 in
theorem ggX11_solve_X11_stands : GoodIn wsX11_solve wsX11_stands := goodIn_sub (kt_wf1 (kt_wp_X11_solve__X11_solve_r1 kt_wm11) (kt_wfa (kt_wf1 (kt_wp_X11_solve__X11_solve_r1 kt_wm12) (kt_wf1 (kt_wp_X11_solve__X11_solve_r1 kt_wm13) (kt_wf1 (kt_wp_X11_solve__X11_solve_r1 kt_wm1) (kt_wf1 (kt_wp_X11_solve__X11_solve_r1 kt_wm14) (kt_wf1 (kt_wp_X11_solve__X11_solve_r1 kt_wm15) (kt_wf1 (kt_wp_X11_solve__X11_solve_r1 kt_wm16) (kt_wf1 (kt_wp_X11_solve__X11_solve_r1 kt_wm10) (kt_wf1 (kt_wp_X11_solve__X11_solve_r1 kt_wm17) (kt_wf1 (kt_wp_X11_solve__X11_solve_r1 kt_wm18) (kt_wf1 (kt_wp_X11_solve__X11_solve_r1 kt_wm19) kt_wf0)))))))))) (fun _ h => kt_wp_X11_solve__X110 h))) kt_wg_X11_stands
set_option maxRecDepth 20000 in
theorem gX11_solve_X11_stands : GoodIn wsX11_solve (wsV RX11 184 RX11 yX11_stands wsX11_stands) := goodIn_app (a := [.methodLink RX11 184 yX11_stands, .instanceMethod yX11_stands, .selects RX11 yX11_stands yX11_stands, .initialized RX11]) (goodIn_sub (kt_wf1 (kt_wp_X11_solve__X11_solve_r1 kt_wm7) (kt_wf1 (kt_wp_X11_solve__X11_solve_r1 kt_wm8) (kt_wf1 (kt_wp_X11_solve__X11_solve_r1 kt_wm9) (kt_wf1 (kt_wp_X11_solve__X11_solve_r1 kt_wm10) kt_wf0)))) (by decide +kernel)) ggX11_solve_X11_stands
set_option maxRecDepth 20000 in
theorem kt_wg_X11_setUp : wsX11_setUp.all goodWord = true := by decide +kernel
set_option maxRecDepth 20000 in
theorem ggX11_solve_X11_setUp : GoodIn wsX11_solve wsX11_setUp := goodIn_sub (kt_wf1 (kt_wp_X11_solve__X11_solve_r1 kt_wm23) (kt_wfa (kt_wf1 (kt_wp_X11_solve__X11_solve_r2 kt_wm0) (kt_wf1 (kt_wp_X11_solve__X11_solve_r2 kt_wm1) (kt_wf1 (kt_wp_X11_solve__X11_solve_r1 kt_wm13) (kt_wf1 (kt_wp_X11_solve__X11_solve_r2 kt_wm2) (kt_wf1 (kt_wp_X11_solve__X11_solve_r1 kt_wm14) (kt_wf1 (kt_wp_X11_solve__X11_solve_r1 kt_wm15) (kt_wf1 (kt_wp_X11_solve__X11_solve_r1 kt_wm16) (kt_wf1 (kt_wp_X11_solve__X11_solve_r1 kt_wm10) (kt_wf1 (kt_wp_X11_solve__X11_solve_r1 kt_wm17) (kt_wf1 (kt_wp_X11_solve__X11_solve_r1 kt_wm18) (kt_wf1 (kt_wp_X11_solve__X11_solve_r1 kt_wm19) (kt_wf1 (kt_wp_X11_solve__X11_solve_r2 kt_wm3) (kt_wf1 (kt_wp_X11_solve__X11_solve_r2 kt_wm4) (kt_wf1 (kt_wp_X11_solve__X11_solve_r2 kt_wm5) (kt_wf1 (kt_wp_X11_solve__X11_solve_r2 kt_wm6) (kt_wf1 (kt_wp_X11_solve__X11_solve_r2 kt_wm7) (kt_wf1 (kt_wp_X11_solve__X11_solve_r2 kt_wm8) kt_wf0))))))))))))))))) (fun _ h => kt_wp_X11_solve__X110 h))) kt_wg_X11_setUp
set_option maxRecDepth 20000 in
theorem gX11_solve_X11_setUp : GoodIn wsX11_solve (wsV RX11 188 RX11 yX11_setUp wsX11_setUp) := goodIn_app (a := [.methodLink RX11 188 yX11_setUp, .instanceMethod yX11_setUp, .selects RX11 yX11_setUp yX11_setUp, .initialized RX11]) (goodIn_sub (kt_wf1 (kt_wp_X11_solve__X11_solve_r1 kt_wm20) (kt_wf1 (kt_wp_X11_solve__X11_solve_r1 kt_wm21) (kt_wf1 (kt_wp_X11_solve__X11_solve_r1 kt_wm22) (kt_wf1 (kt_wp_X11_solve__X11_solve_r1 kt_wm10) kt_wf0)))) (by decide +kernel)) ggX11_solve_X11_setUp
set_option maxRecDepth 20000 in
theorem kt_wg_X11_endOf : wsX11_endOf.all goodWord = true := by decide +kernel
set_option maxRecDepth 20000 in
theorem ggX11_solve_X11_endOf : GoodIn wsX11_solve wsX11_endOf := goodIn_sub (kt_wf1 (kt_wp_X11_solve__X11_solve_r2 kt_wm12) (kt_wfa (kt_wfa (kt_wf1 (kt_wp_X11_solve__X11_solve_r2 kt_wm2) (kt_wf1 (kt_wp_X11_solve__X11_solve_r2 kt_wm13) (kt_wf1 (kt_wp_X11_solve__X11_solve_r2 kt_wm0) (kt_wf1 (kt_wp_X11_solve__X11_solve_r2 kt_wm14) (kt_wf1 (kt_wp_X11_solve__X11_solve_r2 kt_wm15) (kt_wf1 (kt_wp_X11_solve__X11_solve_r2 kt_wm16) (kt_wf1 (kt_wp_X11_solve__X11_solve_r1 kt_wm10) (kt_wf1 (kt_wp_X11_solve__X11_solve_r2 kt_wm17) (kt_wf1 (kt_wp_X11_solve__X11_solve_r2 kt_wm18) (kt_wf1 (kt_wp_X11_solve__X11_solve_r2 kt_wm7) (kt_wf1 (kt_wp_X11_solve__X11_solve_r1 kt_wm19) (kt_wf1 (kt_wp_X11_solve__X11_solve_r1 kt_wm14) (kt_wf1 (kt_wp_X11_solve__X11_solve_r1 kt_wm15) (kt_wf1 (kt_wp_X11_solve__X11_solve_r1 kt_wm16) (kt_wf1 (kt_wp_X11_solve__X11_solve_r1 kt_wm17) (kt_wf1 (kt_wp_X11_solve__X11_solve_r1 kt_wm18) (kt_wf1 (kt_wp_X11_solve__X11_solve_r2 kt_wm19) (kt_wf1 (kt_wp_X11_solve__X11_solve_r2 kt_wm20) (kt_wf1 (kt_wp_X11_solve__X11_solve_r2 kt_wm21) (kt_wf1 (kt_wp_X11_solve__X11_solve_r2 kt_wm22) (kt_wf1 (kt_wp_X11_solve__X11_solve_r1 kt_wm13) (kt_wf1 (kt_wp_X11_solve__X11_solve_r2 kt_wm23) (kt_wf1 (kt_wp_X11_solve__X11_solve_r3 kt_wm0) (kt_wf1 (kt_wp_X11_solve__X11_solve_r3 kt_wm1) kt_wf0)))))))))))))))))))))))) (kt_wf1 (kt_wp_X11_solve__X11_solve_r3 kt_wm2) (kt_wf1 (kt_wp_X11_solve__X11_solve_r2 kt_wm8) (kt_wf1 (kt_wp_X11_solve__X11_solve_r3 kt_wm3) (kt_wf1 (kt_wp_X11_solve__X11_solve_r3 kt_wm4) (kt_wf1 (kt_wp_X11_solve__X11_solve_r3 kt_wm5) (kt_wf1 (kt_wp_X11_solve__X11_solve_r3 kt_wm6) (kt_wf1 (kt_wp_X11_solve__X11_solve_r3 kt_wm7) (kt_wf1 (kt_wp_X11_solve__X11_solve_r3 kt_wm8) (kt_wf1 (kt_wp_X11_solve__X11_solve_r3 kt_wm9) (kt_wf1 (kt_wp_X11_solve__X11_solve_r3 kt_wm10) (kt_wf1 (kt_wp_X11_solve__X11_solve_r3 kt_wm11) (kt_wf1 (kt_wp_X11_solve__X11_solve_r2 kt_wm1) (kt_wf1 (kt_wp_X11_solve__X11_solve_r3 kt_wm12) (kt_wf1 (kt_wp_X11_solve__X11_solve_r3 kt_wm13) (kt_wf1 (kt_wp_X11_solve__X11_solve_r3 kt_wm14) (kt_wf1 (kt_wp_X11_solve__X11_solve_r3 kt_wm15) (kt_wf1 (kt_wp_X11_solve__X11_solve_r2 kt_wm3) (kt_wf1 (kt_wp_X11_solve__X11_solve_r2 kt_wm4) (kt_wf1 (kt_wp_X11_solve__X11_solve_r2 kt_wm5) (kt_wf1 (kt_wp_X11_solve__X11_solve_r2 kt_wm6) kt_wf0))))))))))))))))))))) (fun _ h => kt_wp_X11_solve__X110 h))) kt_wg_X11_endOf
set_option maxRecDepth 20000 in
theorem gX11_solve_X11_endOf : GoodIn wsX11_solve (wsV RX11 191 RX11 yX11_endOf wsX11_endOf) := goodIn_app (a := [.methodLink RX11 191 yX11_endOf, .instanceMethod yX11_endOf, .selects RX11 yX11_endOf yX11_endOf, .initialized RX11]) (goodIn_sub (kt_wf1 (kt_wp_X11_solve__X11_solve_r2 kt_wm9) (kt_wf1 (kt_wp_X11_solve__X11_solve_r2 kt_wm10) (kt_wf1 (kt_wp_X11_solve__X11_solve_r2 kt_wm11) (kt_wf1 (kt_wp_X11_solve__X11_solve_r1 kt_wm10) kt_wf0)))) (by decide +kernel)) ggX11_solve_X11_endOf
set_option maxRecDepth 20000 in
theorem kt_wg_X11_tried : wsX11_tried.all goodWord = true := by decide +kernel
set_option maxRecDepth 20000 in
theorem ggX11_solve_X11_tried : GoodIn wsX11_solve wsX11_tried := goodIn_sub (kt_wf1 (kt_wp_X11_solve__X11_solve_r3 kt_wm19) (kt_wfa (kt_wfa (kt_wf1 (kt_wp_X11_solve__X11_solve_r1 kt_wm13) (kt_wf1 (kt_wp_X11_solve__X11_solve_r2 kt_wm2) (kt_wf1 (kt_wp_X11_solve__X11_solve_r1 kt_wm2) (kt_wf1 (kt_wp_X11_solve__X11_solve_r1 kt_wm20) (kt_wf1 (kt_wp_X11_solve__X11_solve_r1 kt_wm21) (kt_wf1 (kt_wp_X11_solve__X11_solve_r1 kt_wm22) (kt_wf1 (kt_wp_X11_solve__X11_solve_r1 kt_wm10) (kt_wf1 (kt_wp_X11_solve__X11_solve_r1 kt_wm23) (kt_wf1 (kt_wp_X11_solve__X11_solve_r2 kt_wm0) (kt_wf1 (kt_wp_X11_solve__X11_solve_r2 kt_wm1) (kt_wf1 (kt_wp_X11_solve__X11_solve_r1 kt_wm14) (kt_wf1 (kt_wp_X11_solve__X11_solve_r1 kt_wm15) (kt_wf1 (kt_wp_X11_solve__X11_solve_r1 kt_wm16) (kt_wf1 (kt_wp_X11_solve__X11_solve_r1 kt_wm17) (kt_wf1 (kt_wp_X11_solve__X11_solve_r1 kt_wm18) (kt_wf1 (kt_wp_X11_solve__X11_solve_r1 kt_wm19) (kt_wf1 (kt_wp_X11_solve__X11_solve_r2 kt_wm3) (kt_wf1 (kt_wp_X11_solve__X11_solve_r2 kt_wm4) (kt_wf1 (kt_wp_X11_solve__X11_solve_r2 kt_wm5) (kt_wf1 (kt_wp_X11_solve__X11_solve_r2 kt_wm6) (kt_wf1 (kt_wp_X11_solve__X11_solve_r2 kt_wm7) (kt_wf1 (kt_wp_X11_solve__X11_solve_r2 kt_wm8) (kt_wf1 (kt_wp_X11_solve__X11_solve_r2 kt_wm23) (kt_wf1 (kt_wp_X11_solve__X11_solve_r3 kt_wm0) kt_wf0)))))))))))))))))))))))) (kt_wfa (kt_wf1 (kt_wp_X11_solve__X11_solve_r3 kt_wm1) (kt_wf1 (kt_wp_X11_solve__X11_solve_r3 kt_wm2) (kt_wf1 (kt_wp_X11_solve__X11_solve_r3 kt_wm7) (kt_wf1 (kt_wp_X11_solve__X11_solve_r3 kt_wm8) (kt_wf1 (kt_wp_X11_solve__X11_solve_r3 kt_wm9) (kt_wf1 (kt_wp_X11_solve__X11_solve_r3 kt_wm10) (kt_wf1 (kt_wp_X11_solve__X11_solve_r3 kt_wm11) (kt_wf1 (kt_wp_X11_solve__X11_solve_r3 kt_wm12) (kt_wf1 (kt_wp_X11_solve__X11_solve_r3 kt_wm13) (kt_wf1 (kt_wp_X11_solve__X11_solve_r3 kt_wm14) (kt_wf1 (kt_wp_X11_solve__X11_solve_r3 kt_wm15) (kt_wf1 (kt_wp_X11_solve__X11_solve_r3 kt_wm20) (kt_wf1 (kt_wp_X11_solve__X11_solve_r3 kt_wm21) (kt_wf1 (kt_wp_X11_solve__X11_solve_r3 kt_wm22) (kt_wf1 (kt_wp_X11_solve__X11_solve_r3 kt_wm23) (kt_wf1 (kt_wp_X11_solve__X11_solve_r4 kt_wm0) (kt_wf1 (kt_wp_X11_solve__X11_solve_r4 kt_wm1) (kt_wf1 (kt_wp_X11_solve__X11_solve_r4 kt_wm2) (kt_wf1 (kt_wp_X11_solve__X11_solve_r4 kt_wm3) (kt_wf1 (kt_wp_X11_solve__X11_solve_r4 kt_wm4) (kt_wf1 (kt_wp_X11_solve__X11_solve_r4 kt_wm5) (kt_wf1 (kt_wp_X11_solve__X11_solve_r4 kt_wm6) (kt_wf1 (kt_wp_X11_solve__X11_solve_r4 kt_wm7) (kt_wf1 (kt_wp_X11_solve__X11_solve_r4 kt_wm8) kt_wf0)))))))))))))))))))))))) (kt_wf1 (kt_wp_X11_solve__X11_solve_r4 kt_wm9) (kt_wf1 (kt_wp_X11_solve__X11_solve_r4 kt_wm10) (kt_wf1 (kt_wp_X11_solve__X11_solve_r4 kt_wm11) (kt_wf1 (kt_wp_X11_solve__X11_solve_r4 kt_wm12) (kt_wf1 (kt_wp_X11_solve__X11_solve_r4 kt_wm13) (kt_wf1 (kt_wp_X11_solve__X11_solve_r4 kt_wm14) (kt_wf1 (kt_wp_X11_solve__X11_solve_r4 kt_wm15) (kt_wf1 (kt_wp_X11_solve__X11_solve_r4 kt_wm16) (kt_wf1 (kt_wp_X11_solve__X11_solve_r4 kt_wm17) (kt_wf1 (kt_wp_X11_solve__X11_solve_r4 kt_wm18) (kt_wf1 (kt_wp_X11_solve__X11_solve_r4 kt_wm19) kt_wf0))))))))))))) (fun _ h => kt_wp_X11_solve__X110 h))) kt_wg_X11_tried
set_option maxRecDepth 20000 in
theorem gX11_solve_X11_tried : GoodIn wsX11_solve (wsV RX11 194 RX11 yX11_tried wsX11_tried) := goodIn_app (a := [.methodLink RX11 194 yX11_tried, .instanceMethod yX11_tried, .selects RX11 yX11_tried yX11_tried, .initialized RX11]) (goodIn_sub (kt_wf1 (kt_wp_X11_solve__X11_solve_r3 kt_wm16) (kt_wf1 (kt_wp_X11_solve__X11_solve_r3 kt_wm17) (kt_wf1 (kt_wp_X11_solve__X11_solve_r3 kt_wm18) (kt_wf1 (kt_wp_X11_solve__X11_solve_r1 kt_wm10) kt_wf0)))) (by decide +kernel)) ggX11_solve_X11_tried
set_option maxRecDepth 20000 in
theorem ggX11_solve_X11_read : GoodIn wsX11_solve wsX11_read := goodIn_sub (kt_wf1 (kt_wp_X11_solve__X11_solve_r4 kt_wm23) (kt_wfa (kt_wf1 (kt_wp_X11_solve__X11_solve_r2 kt_wm1) (kt_wf1 (kt_wp_X11_solve__X11_solve_r1 kt_wm13) (kt_wf1 (kt_wp_X11_solve__X11_solve_r2 kt_wm2) (kt_wf1 (kt_wp_X11_solve__X11_solve_r5 kt_wm0) (kt_wf1 (kt_wp_X11_solve__X11_solve_r2 kt_wm0) (kt_wf1 (kt_wp_X11_solve__X11_solve_r5 kt_wm1) (kt_wf1 (kt_wp_X11_solve__X11_solve_r5 kt_wm2) (kt_wf1 (kt_wp_X11_solve__X11_solve_r5 kt_wm3) (kt_wf1 (kt_wp_X11_solve__X11_solve_r1 kt_wm10) (kt_wf1 (kt_wp_X11_solve__X11_solve_r5 kt_wm4) kt_wf0)))))))))) (fun _ h => kt_wp_X11_solve__X110 h))) kt_wg_X11_read
set_option maxRecDepth 20000 in
theorem gX11_solve_X11_read : GoodIn wsX11_solve (wsV RX11 161 RX11 yX11_read wsX11_read) := goodIn_app (a := [.methodLink RX11 161 yX11_read, .instanceMethod yX11_read, .selects RX11 yX11_read yX11_read, .initialized RX11]) (goodIn_sub (kt_wf1 (kt_wp_X11_solve__X11_solve_r4 kt_wm20) (kt_wf1 (kt_wp_X11_solve__X11_solve_r4 kt_wm21) (kt_wf1 (kt_wp_X11_solve__X11_solve_r4 kt_wm22) (kt_wf1 (kt_wp_X11_solve__X11_solve_r1 kt_wm10) kt_wf0)))) (by decide +kernel)) ggX11_solve_X11_read
set_option maxRecDepth 20000 in
theorem ggX11_solve_X11_lookAgain : GoodIn wsX11_solve wsX11_lookAgain := goodIn_sub (kt_wf1 (kt_wp_X11_solve__X11_solve_r5 kt_wm8) (kt_wfa (kt_wf1 (kt_wp_X11_solve__X11_solve_r1 kt_wm5) (kt_wf1 (kt_wp_X11_solve__X11_solve_r4 kt_wm1) (kt_wf1 (kt_wp_X11_solve__X11_solve_r1 kt_wm13) (kt_wf1 (kt_wp_X11_solve__X11_solve_r4 kt_wm0) (kt_wf1 (kt_wp_X11_solve__X11_solve_r5 kt_wm0) (kt_wf1 (kt_wp_X11_solve__X11_solve_r5 kt_wm1) (kt_wf1 (kt_wp_X11_solve__X11_solve_r5 kt_wm2) (kt_wf1 (kt_wp_X11_solve__X11_solve_r5 kt_wm3) (kt_wf1 (kt_wp_X11_solve__X11_solve_r1 kt_wm10) (kt_wf1 (kt_wp_X11_solve__X11_solve_r5 kt_wm4) kt_wf0)))))))))) (fun _ h => kt_wp_X11_solve__X110 h))) kt_wg_X11_lookAgain
set_option maxRecDepth 20000 in
theorem gX11_solve_X11_lookAgain : GoodIn wsX11_solve (wsV RX11 164 RX11 yX11_lookAgain wsX11_lookAgain) := goodIn_app (a := [.methodLink RX11 164 yX11_lookAgain, .instanceMethod yX11_lookAgain, .selects RX11 yX11_lookAgain yX11_lookAgain, .initialized RX11]) (goodIn_sub (kt_wf1 (kt_wp_X11_solve__X11_solve_r5 kt_wm5) (kt_wf1 (kt_wp_X11_solve__X11_solve_r5 kt_wm6) (kt_wf1 (kt_wp_X11_solve__X11_solve_r5 kt_wm7) (kt_wf1 (kt_wp_X11_solve__X11_solve_r1 kt_wm10) kt_wf0)))) (by decide +kernel)) ggX11_solve_X11_lookAgain
theorem sX11_solve_0 : kt_sg cX11_solve 0 [42, 180, 0, 73, 153, 0, 14, 42, 182, 0, 184, 20, 0, 182, 148, 158, 0, 5, 2, 172, 42, 182, 0, 184, 136, 60, 3, 61, 3, 62, 29, 27, 162, 0, 50, 42, 29, 182, 0, 188, 54, 4, 42, 180, 0, 57, 29, 21, 4, 153, 0, 10, 42, 182, 0, 191, 167, 0, 4, 7, 79, 42, 180, 0, 60] = true := by decide +kernel
theorem dX11_solve_0 : decode cX11_solve 0 = .ok (.aload_n 0, 1) := kt_o42 (j := 0) sX11_solve_0 rfl
theorem dX11_solve_1 : decode cX11_solve 1 = .ok (.getfield 73, 3) := kt_o180 (j := 1) sX11_solve_0 rfl rfl
theorem dX11_solve_4 : decode cX11_solve 4 = .ok (.ifCond .eq 14, 3) := kt_o153 (j := 4) sX11_solve_0 rfl (by decide +kernel)
theorem dX11_solve_7 : decode cX11_solve 7 = .ok (.aload_n 0, 1) := kt_o42 (j := 7) sX11_solve_0 rfl
theorem dX11_solve_8 : decode cX11_solve 8 = .ok (.invokevirtual 184, 3) := kt_o182 (j := 8) sX11_solve_0 rfl rfl
theorem dX11_solve_11 : decode cX11_solve 11 = .ok (.ldc2_w 182, 3) := kt_o20 (j := 11) sX11_solve_0 rfl rfl
theorem dX11_solve_14 : decode cX11_solve 14 = .ok (.lcmp, 1) := kt_o148 (j := 14) sX11_solve_0 rfl
theorem dX11_solve_15 : decode cX11_solve 15 = .ok (.ifCond .le 5, 3) := kt_o158 (j := 15) sX11_solve_0 rfl (by decide +kernel)
theorem dX11_solve_18 : decode cX11_solve 18 = .ok (.iconst (-1), 1) := kt_o2 (j := 18) sX11_solve_0 rfl
theorem dX11_solve_19 : decode cX11_solve 19 = .ok (.ireturn, 1) := kt_o172 (j := 19) sX11_solve_0 rfl
theorem dX11_solve_20 : decode cX11_solve 20 = .ok (.aload_n 0, 1) := kt_o42 (j := 20) sX11_solve_0 rfl
theorem dX11_solve_21 : decode cX11_solve 21 = .ok (.invokevirtual 184, 3) := kt_o182 (j := 21) sX11_solve_0 rfl rfl
theorem dX11_solve_24 : decode cX11_solve 24 = .ok (.l2i, 1) := kt_o136 (j := 24) sX11_solve_0 rfl
theorem dX11_solve_25 : decode cX11_solve 25 = .ok (.istore_n 1, 1) := kt_o60 (j := 25) sX11_solve_0 rfl
theorem dX11_solve_26 : decode cX11_solve 26 = .ok (.iconst 0, 1) := kt_o3 (j := 26) sX11_solve_0 rfl
theorem dX11_solve_27 : decode cX11_solve 27 = .ok (.istore_n 2, 1) := kt_o61 (j := 27) sX11_solve_0 rfl
theorem dX11_solve_28 : decode cX11_solve 28 = .ok (.iconst 0, 1) := kt_o3 (j := 28) sX11_solve_0 rfl
theorem dX11_solve_29 : decode cX11_solve 29 = .ok (.istore_n 3, 1) := kt_o62 (j := 29) sX11_solve_0 rfl
theorem dX11_solve_30 : decode cX11_solve 30 = .ok (.iload_n 3, 1) := kt_o29 (j := 30) sX11_solve_0 rfl
theorem dX11_solve_31 : decode cX11_solve 31 = .ok (.iload_n 1, 1) := kt_o27 (j := 31) sX11_solve_0 rfl
theorem dX11_solve_32 : decode cX11_solve 32 = .ok (.if_icmp .ge 50, 3) := kt_o162 (j := 32) sX11_solve_0 rfl (by decide +kernel)
theorem dX11_solve_35 : decode cX11_solve 35 = .ok (.aload_n 0, 1) := kt_o42 (j := 35) sX11_solve_0 rfl
theorem dX11_solve_36 : decode cX11_solve 36 = .ok (.iload_n 3, 1) := kt_o29 (j := 36) sX11_solve_0 rfl
theorem dX11_solve_37 : decode cX11_solve 37 = .ok (.invokevirtual 188, 3) := kt_o182 (j := 37) sX11_solve_0 rfl rfl
theorem dX11_solve_40 : decode cX11_solve 40 = .ok (.istore 4, 2) := kt_o54 (j := 40) sX11_solve_0 rfl
theorem dX11_solve_42 : decode cX11_solve 42 = .ok (.aload_n 0, 1) := kt_o42 (j := 42) sX11_solve_0 rfl
theorem dX11_solve_43 : decode cX11_solve 43 = .ok (.getfield 57, 3) := kt_o180 (j := 43) sX11_solve_0 rfl rfl
theorem dX11_solve_46 : decode cX11_solve 46 = .ok (.iload_n 3, 1) := kt_o29 (j := 46) sX11_solve_0 rfl
theorem dX11_solve_47 : decode cX11_solve 47 = .ok (.iload 4, 2) := kt_o21 (j := 47) sX11_solve_0 rfl
theorem dX11_solve_49 : decode cX11_solve 49 = .ok (.ifCond .eq 10, 3) := kt_o153 (j := 49) sX11_solve_0 rfl (by decide +kernel)
theorem dX11_solve_52 : decode cX11_solve 52 = .ok (.aload_n 0, 1) := kt_o42 (j := 52) sX11_solve_0 rfl
theorem dX11_solve_53 : decode cX11_solve 53 = .ok (.invokevirtual 191, 3) := kt_o182 (j := 53) sX11_solve_0 rfl rfl
theorem dX11_solve_56 : decode cX11_solve 56 = .ok (.goto 4, 3) := kt_o167 (j := 56) sX11_solve_0 rfl (by decide +kernel)
theorem dX11_solve_59 : decode cX11_solve 59 = .ok (.iconst 4, 1) := kt_o7 (j := 59) sX11_solve_0 rfl
theorem dX11_solve_60 : decode cX11_solve 60 = .ok (.iastore, 1) := kt_o79 (j := 60) sX11_solve_0 rfl
theorem dX11_solve_61 : decode cX11_solve 61 = .ok (.aload_n 0, 1) := kt_o42 (j := 61) sX11_solve_0 rfl
theorem dX11_solve_62 : decode cX11_solve 62 = .ok (.getfield 60, 3) := kt_o180 (j := 62) sX11_solve_0 rfl rfl
theorem sX11_solve_65 : kt_sg cX11_solve 65 [29, 3, 79, 21, 4, 153, 0, 6, 132, 2, 1, 132, 3, 1, 167, 255, 207, 4, 62, 4, 54, 4, 29, 153, 0, 108, 3, 62, 3, 54, 5, 21, 5, 27, 162, 0, 37, 42, 180, 0, 66, 21, 5, 42, 180, 0, 57, 21, 5, 46, 6, 160, 0, 12, 42, 21, 5, 182, 0, 194, 167, 0, 4, 6] = true := by decide +kernel
theorem dX11_solve_65 : decode cX11_solve 65 = .ok (.iload_n 3, 1) := kt_o29 (j := 0) sX11_solve_65 rfl
theorem dX11_solve_66 : decode cX11_solve 66 = .ok (.iconst 0, 1) := kt_o3 (j := 1) sX11_solve_65 rfl
theorem dX11_solve_67 : decode cX11_solve 67 = .ok (.iastore, 1) := kt_o79 (j := 2) sX11_solve_65 rfl
theorem dX11_solve_68 : decode cX11_solve 68 = .ok (.iload 4, 2) := kt_o21 (j := 3) sX11_solve_65 rfl
theorem dX11_solve_70 : decode cX11_solve 70 = .ok (.ifCond .eq 6, 3) := kt_o153 (j := 5) sX11_solve_65 rfl (by decide +kernel)
theorem dX11_solve_73 : decode cX11_solve 73 = .ok (.iinc 2 1, 3) := kt_o132 (j := 8) sX11_solve_65 rfl (by decide +kernel)
theorem dX11_solve_76 : decode cX11_solve 76 = .ok (.iinc 3 1, 3) := kt_o132 (j := 11) sX11_solve_65 rfl (by decide +kernel)
theorem dX11_solve_79 : decode cX11_solve 79 = .ok (.goto (-49), 3) := kt_o167 (j := 14) sX11_solve_65 rfl (by decide +kernel)
theorem dX11_solve_82 : decode cX11_solve 82 = .ok (.iconst 1, 1) := kt_o4 (j := 17) sX11_solve_65 rfl
theorem dX11_solve_83 : decode cX11_solve 83 = .ok (.istore_n 3, 1) := kt_o62 (j := 18) sX11_solve_65 rfl
theorem dX11_solve_84 : decode cX11_solve 84 = .ok (.iconst 1, 1) := kt_o4 (j := 19) sX11_solve_65 rfl
theorem dX11_solve_85 : decode cX11_solve 85 = .ok (.istore 4, 2) := kt_o54 (j := 20) sX11_solve_65 rfl
theorem dX11_solve_87 : decode cX11_solve 87 = .ok (.iload_n 3, 1) := kt_o29 (j := 22) sX11_solve_65 rfl
theorem dX11_solve_88 : decode cX11_solve 88 = .ok (.ifCond .eq 108, 3) := kt_o153 (j := 23) sX11_solve_65 rfl (by decide +kernel)
theorem dX11_solve_91 : decode cX11_solve 91 = .ok (.iconst 0, 1) := kt_o3 (j := 26) sX11_solve_65 rfl
theorem dX11_solve_92 : decode cX11_solve 92 = .ok (.istore_n 3, 1) := kt_o62 (j := 27) sX11_solve_65 rfl
theorem dX11_solve_93 : decode cX11_solve 93 = .ok (.iconst 0, 1) := kt_o3 (j := 28) sX11_solve_65 rfl
theorem dX11_solve_94 : decode cX11_solve 94 = .ok (.istore 5, 2) := kt_o54 (j := 29) sX11_solve_65 rfl
theorem dX11_solve_96 : decode cX11_solve 96 = .ok (.iload 5, 2) := kt_o21 (j := 31) sX11_solve_65 rfl
theorem dX11_solve_98 : decode cX11_solve 98 = .ok (.iload_n 1, 1) := kt_o27 (j := 33) sX11_solve_65 rfl
theorem dX11_solve_99 : decode cX11_solve 99 = .ok (.if_icmp .ge 37, 3) := kt_o162 (j := 34) sX11_solve_65 rfl (by decide +kernel)
theorem dX11_solve_102 : decode cX11_solve 102 = .ok (.aload_n 0, 1) := kt_o42 (j := 37) sX11_solve_65 rfl
theorem dX11_solve_103 : decode cX11_solve 103 = .ok (.getfield 66, 3) := kt_o180 (j := 38) sX11_solve_65 rfl rfl
theorem dX11_solve_106 : decode cX11_solve 106 = .ok (.iload 5, 2) := kt_o21 (j := 41) sX11_solve_65 rfl
theorem dX11_solve_108 : decode cX11_solve 108 = .ok (.aload_n 0, 1) := kt_o42 (j := 43) sX11_solve_65 rfl
theorem dX11_solve_109 : decode cX11_solve 109 = .ok (.getfield 57, 3) := kt_o180 (j := 44) sX11_solve_65 rfl rfl
theorem dX11_solve_112 : decode cX11_solve 112 = .ok (.iload 5, 2) := kt_o21 (j := 47) sX11_solve_65 rfl
theorem dX11_solve_114 : decode cX11_solve 114 = .ok (.iaload, 1) := kt_o46 (j := 49) sX11_solve_65 rfl
theorem dX11_solve_115 : decode cX11_solve 115 = .ok (.iconst 3, 1) := kt_o6 (j := 50) sX11_solve_65 rfl
theorem dX11_solve_116 : decode cX11_solve 116 = .ok (.if_icmp .ne 12, 3) := kt_o160 (j := 51) sX11_solve_65 rfl (by decide +kernel)
theorem dX11_solve_119 : decode cX11_solve 119 = .ok (.aload_n 0, 1) := kt_o42 (j := 54) sX11_solve_65 rfl
theorem dX11_solve_120 : decode cX11_solve 120 = .ok (.iload 5, 2) := kt_o21 (j := 55) sX11_solve_65 rfl
theorem dX11_solve_122 : decode cX11_solve 122 = .ok (.invokevirtual 194, 3) := kt_o182 (j := 57) sX11_solve_65 rfl rfl
theorem dX11_solve_125 : decode cX11_solve 125 = .ok (.goto 4, 3) := kt_o167 (j := 60) sX11_solve_65 rfl (by decide +kernel)
theorem dX11_solve_128 : decode cX11_solve 128 = .ok (.iconst 3, 1) := kt_o6 (j := 63) sX11_solve_65 rfl
theorem sX11_solve_129 : kt_sg cX11_solve 129 [79, 132, 5, 1, 167, 255, 219, 3, 54, 5, 21, 5, 27, 162, 0, 48, 42, 180, 0, 66, 21, 5, 46, 6, 160, 0, 6, 167, 0, 28, 42, 180, 0, 57, 21, 5, 42, 180, 0, 66, 21, 5, 46, 79, 42, 180, 0, 60, 21, 5, 21, 4, 79, 4, 62, 132, 5, 1, 167, 255, 208, 132, 4, 1] = true := by decide +kernel
theorem dX11_solve_129 : decode cX11_solve 129 = .ok (.iastore, 1) := kt_o79 (j := 0) sX11_solve_129 rfl
theorem dX11_solve_130 : decode cX11_solve 130 = .ok (.iinc 5 1, 3) := kt_o132 (j := 1) sX11_solve_129 rfl (by decide +kernel)
theorem dX11_solve_133 : decode cX11_solve 133 = .ok (.goto (-37), 3) := kt_o167 (j := 4) sX11_solve_129 rfl (by decide +kernel)
theorem dX11_solve_136 : decode cX11_solve 136 = .ok (.iconst 0, 1) := kt_o3 (j := 7) sX11_solve_129 rfl
theorem dX11_solve_137 : decode cX11_solve 137 = .ok (.istore 5, 2) := kt_o54 (j := 8) sX11_solve_129 rfl
theorem dX11_solve_139 : decode cX11_solve 139 = .ok (.iload 5, 2) := kt_o21 (j := 10) sX11_solve_129 rfl
theorem dX11_solve_141 : decode cX11_solve 141 = .ok (.iload_n 1, 1) := kt_o27 (j := 12) sX11_solve_129 rfl
theorem dX11_solve_142 : decode cX11_solve 142 = .ok (.if_icmp .ge 48, 3) := kt_o162 (j := 13) sX11_solve_129 rfl (by decide +kernel)
theorem dX11_solve_145 : decode cX11_solve 145 = .ok (.aload_n 0, 1) := kt_o42 (j := 16) sX11_solve_129 rfl
theorem dX11_solve_146 : decode cX11_solve 146 = .ok (.getfield 66, 3) := kt_o180 (j := 17) sX11_solve_129 rfl rfl
theorem dX11_solve_149 : decode cX11_solve 149 = .ok (.iload 5, 2) := kt_o21 (j := 20) sX11_solve_129 rfl
theorem dX11_solve_151 : decode cX11_solve 151 = .ok (.iaload, 1) := kt_o46 (j := 22) sX11_solve_129 rfl
theorem dX11_solve_152 : decode cX11_solve 152 = .ok (.iconst 3, 1) := kt_o6 (j := 23) sX11_solve_129 rfl
theorem dX11_solve_153 : decode cX11_solve 153 = .ok (.if_icmp .ne 6, 3) := kt_o160 (j := 24) sX11_solve_129 rfl (by decide +kernel)
theorem dX11_solve_156 : decode cX11_solve 156 = .ok (.goto 28, 3) := kt_o167 (j := 27) sX11_solve_129 rfl (by decide +kernel)
theorem dX11_solve_159 : decode cX11_solve 159 = .ok (.aload_n 0, 1) := kt_o42 (j := 30) sX11_solve_129 rfl
theorem dX11_solve_160 : decode cX11_solve 160 = .ok (.getfield 57, 3) := kt_o180 (j := 31) sX11_solve_129 rfl rfl
theorem dX11_solve_163 : decode cX11_solve 163 = .ok (.iload 5, 2) := kt_o21 (j := 34) sX11_solve_129 rfl
theorem dX11_solve_165 : decode cX11_solve 165 = .ok (.aload_n 0, 1) := kt_o42 (j := 36) sX11_solve_129 rfl
theorem dX11_solve_166 : decode cX11_solve 166 = .ok (.getfield 66, 3) := kt_o180 (j := 37) sX11_solve_129 rfl rfl
theorem dX11_solve_169 : decode cX11_solve 169 = .ok (.iload 5, 2) := kt_o21 (j := 40) sX11_solve_129 rfl
theorem dX11_solve_171 : decode cX11_solve 171 = .ok (.iaload, 1) := kt_o46 (j := 42) sX11_solve_129 rfl
theorem dX11_solve_172 : decode cX11_solve 172 = .ok (.iastore, 1) := kt_o79 (j := 43) sX11_solve_129 rfl
theorem dX11_solve_173 : decode cX11_solve 173 = .ok (.aload_n 0, 1) := kt_o42 (j := 44) sX11_solve_129 rfl
theorem dX11_solve_174 : decode cX11_solve 174 = .ok (.getfield 60, 3) := kt_o180 (j := 45) sX11_solve_129 rfl rfl
theorem dX11_solve_177 : decode cX11_solve 177 = .ok (.iload 5, 2) := kt_o21 (j := 48) sX11_solve_129 rfl
theorem dX11_solve_179 : decode cX11_solve 179 = .ok (.iload 4, 2) := kt_o21 (j := 50) sX11_solve_129 rfl
theorem dX11_solve_181 : decode cX11_solve 181 = .ok (.iastore, 1) := kt_o79 (j := 52) sX11_solve_129 rfl
theorem dX11_solve_182 : decode cX11_solve 182 = .ok (.iconst 1, 1) := kt_o4 (j := 53) sX11_solve_129 rfl
theorem dX11_solve_183 : decode cX11_solve 183 = .ok (.istore_n 3, 1) := kt_o62 (j := 54) sX11_solve_129 rfl
theorem dX11_solve_184 : decode cX11_solve 184 = .ok (.iinc 5 1, 3) := kt_o132 (j := 55) sX11_solve_129 rfl (by decide +kernel)
theorem dX11_solve_187 : decode cX11_solve 187 = .ok (.goto (-48), 3) := kt_o167 (j := 58) sX11_solve_129 rfl (by decide +kernel)
theorem dX11_solve_190 : decode cX11_solve 190 = .ok (.iinc 4 1, 3) := kt_o132 (j := 61) sX11_solve_129 rfl (by decide +kernel)
theorem sX11_solve_193 : kt_sg cX11_solve 193 [167, 255, 150, 3, 54, 4, 21, 4, 27, 162, 0, 28, 42, 180, 0, 57, 21, 4, 46, 6, 160, 0, 11, 42, 180, 0, 57, 21, 4, 5, 79, 132, 4, 1, 167, 255, 228, 42, 42, 180, 0, 138, 182, 0, 161, 42, 182, 0, 164, 42, 4, 181, 0, 76, 28, 172] = true := by decide +kernel
theorem dX11_solve_193 : decode cX11_solve 193 = .ok (.goto (-106), 3) := kt_o167 (j := 0) sX11_solve_193 rfl (by decide +kernel)
theorem dX11_solve_196 : decode cX11_solve 196 = .ok (.iconst 0, 1) := kt_o3 (j := 3) sX11_solve_193 rfl
theorem dX11_solve_197 : decode cX11_solve 197 = .ok (.istore 4, 2) := kt_o54 (j := 4) sX11_solve_193 rfl
theorem dX11_solve_199 : decode cX11_solve 199 = .ok (.iload 4, 2) := kt_o21 (j := 6) sX11_solve_193 rfl
theorem dX11_solve_201 : decode cX11_solve 201 = .ok (.iload_n 1, 1) := kt_o27 (j := 8) sX11_solve_193 rfl
theorem dX11_solve_202 : decode cX11_solve 202 = .ok (.if_icmp .ge 28, 3) := kt_o162 (j := 9) sX11_solve_193 rfl (by decide +kernel)
theorem dX11_solve_205 : decode cX11_solve 205 = .ok (.aload_n 0, 1) := kt_o42 (j := 12) sX11_solve_193 rfl
theorem dX11_solve_206 : decode cX11_solve 206 = .ok (.getfield 57, 3) := kt_o180 (j := 13) sX11_solve_193 rfl rfl
theorem dX11_solve_209 : decode cX11_solve 209 = .ok (.iload 4, 2) := kt_o21 (j := 16) sX11_solve_193 rfl
theorem dX11_solve_211 : decode cX11_solve 211 = .ok (.iaload, 1) := kt_o46 (j := 18) sX11_solve_193 rfl
theorem dX11_solve_212 : decode cX11_solve 212 = .ok (.iconst 3, 1) := kt_o6 (j := 19) sX11_solve_193 rfl
theorem dX11_solve_213 : decode cX11_solve 213 = .ok (.if_icmp .ne 11, 3) := kt_o160 (j := 20) sX11_solve_193 rfl (by decide +kernel)
theorem dX11_solve_216 : decode cX11_solve 216 = .ok (.aload_n 0, 1) := kt_o42 (j := 23) sX11_solve_193 rfl
theorem dX11_solve_217 : decode cX11_solve 217 = .ok (.getfield 57, 3) := kt_o180 (j := 24) sX11_solve_193 rfl rfl
theorem dX11_solve_220 : decode cX11_solve 220 = .ok (.iload 4, 2) := kt_o21 (j := 27) sX11_solve_193 rfl
theorem dX11_solve_222 : decode cX11_solve 222 = .ok (.iconst 2, 1) := kt_o5 (j := 29) sX11_solve_193 rfl
theorem dX11_solve_223 : decode cX11_solve 223 = .ok (.iastore, 1) := kt_o79 (j := 30) sX11_solve_193 rfl
theorem dX11_solve_224 : decode cX11_solve 224 = .ok (.iinc 4 1, 3) := kt_o132 (j := 31) sX11_solve_193 rfl (by decide +kernel)
theorem dX11_solve_227 : decode cX11_solve 227 = .ok (.goto (-28), 3) := kt_o167 (j := 34) sX11_solve_193 rfl (by decide +kernel)
theorem dX11_solve_230 : decode cX11_solve 230 = .ok (.aload_n 0, 1) := kt_o42 (j := 37) sX11_solve_193 rfl
theorem dX11_solve_231 : decode cX11_solve 231 = .ok (.aload_n 0, 1) := kt_o42 (j := 38) sX11_solve_193 rfl
theorem dX11_solve_232 : decode cX11_solve 232 = .ok (.getfield 138, 3) := kt_o180 (j := 39) sX11_solve_193 rfl rfl
theorem dX11_solve_235 : decode cX11_solve 235 = .ok (.invokevirtual 161, 3) := kt_o182 (j := 42) sX11_solve_193 rfl rfl
theorem dX11_solve_238 : decode cX11_solve 238 = .ok (.aload_n 0, 1) := kt_o42 (j := 45) sX11_solve_193 rfl
theorem dX11_solve_239 : decode cX11_solve 239 = .ok (.invokevirtual 164, 3) := kt_o182 (j := 46) sX11_solve_193 rfl rfl
theorem dX11_solve_242 : decode cX11_solve 242 = .ok (.aload_n 0, 1) := kt_o42 (j := 49) sX11_solve_193 rfl
theorem dX11_solve_243 : decode cX11_solve 243 = .ok (.iconst 1, 1) := kt_o4 (j := 50) sX11_solve_193 rfl
theorem dX11_solve_244 : decode cX11_solve 244 = .ok (.putfield 76, 3) := kt_o181 (j := 51) sX11_solve_193 rfl rfl
theorem dX11_solve_247 : decode cX11_solve 247 = .ok (.iload_n 2, 1) := kt_o28 (j := 54) sX11_solve_193 rfl
theorem dX11_solve_248 : decode cX11_solve 248 = .ok (.ireturn, 1) := kt_o172 (j := 55) sX11_solve_193 rfl
theorem kt_wp_X11_tried__X11_tried_r1 {w : Cond} (h : w ∈ wsX11_tried_r1) : w ∈ wsX11_tried := List.mem_cons_of_mem _ (List.mem_append_left _ (List.mem_append_left _ (h)))
theorem kt_wp_X11_tried__X11_tried_r2 {w : Cond} (h : w ∈ wsX11_tried_r2) : w ∈ wsX11_tried := List.mem_cons_of_mem _ (List.mem_append_left _ (List.mem_append_right _ (List.mem_append_left _ (h))))
theorem kt_wp_X11_tried__X11_tried_r3 {w : Cond} (h : w ∈ wsX11_tried_r3) : w ∈ wsX11_tried := List.mem_cons_of_mem _ (List.mem_append_left _ (List.mem_append_right _ (List.mem_append_right _ (h))))
theorem kt_wp_X11_tried__X110 {w : Cond} (h : w ∈ wsX110) : w ∈ wsX11_tried := List.mem_cons_of_mem _ (List.mem_append_right _ (h))
set_option maxRecDepth 20000 in
theorem ggX11_tried_X11_setUp : GoodIn wsX11_tried wsX11_setUp := goodIn_sub (kt_wf1 (kt_wp_X11_tried__X11_tried_r1 kt_wm7) (kt_wfa (kt_wf1 (kt_wp_X11_tried__X11_tried_r1 kt_wm8) (kt_wf1 (kt_wp_X11_tried__X11_tried_r1 kt_wm9) (kt_wf1 (kt_wp_X11_tried__X11_tried_r1 kt_wm0) (kt_wf1 (kt_wp_X11_tried__X11_tried_r1 kt_wm1) (kt_wf1 (kt_wp_X11_tried__X11_tried_r1 kt_wm10) (kt_wf1 (kt_wp_X11_tried__X11_tried_r1 kt_wm11) (kt_wf1 (kt_wp_X11_tried__X11_tried_r1 kt_wm12) (kt_wf1 (kt_wp_X11_tried__X11_tried_r1 kt_wm6) (kt_wf1 (kt_wp_X11_tried__X11_tried_r1 kt_wm13) (kt_wf1 (kt_wp_X11_tried__X11_tried_r1 kt_wm14) (kt_wf1 (kt_wp_X11_tried__X11_tried_r1 kt_wm15) (kt_wf1 (kt_wp_X11_tried__X11_tried_r1 kt_wm16) (kt_wf1 (kt_wp_X11_tried__X11_tried_r1 kt_wm17) (kt_wf1 (kt_wp_X11_tried__X11_tried_r1 kt_wm18) (kt_wf1 (kt_wp_X11_tried__X11_tried_r1 kt_wm19) (kt_wf1 (kt_wp_X11_tried__X11_tried_r1 kt_wm20) (kt_wf1 (kt_wp_X11_tried__X11_tried_r1 kt_wm21) kt_wf0))))))))))))))))) (fun _ h => kt_wp_X11_tried__X110 h))) kt_wg_X11_setUp
set_option maxRecDepth 20000 in
theorem gX11_tried_X11_setUp : GoodIn wsX11_tried (wsV RX11 188 RX11 yX11_setUp wsX11_setUp) := goodIn_app (a := [.methodLink RX11 188 yX11_setUp, .instanceMethod yX11_setUp, .selects RX11 yX11_setUp yX11_setUp, .initialized RX11]) (goodIn_sub (kt_wf1 (kt_wp_X11_tried__X11_tried_r1 kt_wm3) (kt_wf1 (kt_wp_X11_tried__X11_tried_r1 kt_wm4) (kt_wf1 (kt_wp_X11_tried__X11_tried_r1 kt_wm5) (kt_wf1 (kt_wp_X11_tried__X11_tried_r1 kt_wm6) kt_wf0)))) (by decide +kernel)) ggX11_tried_X11_setUp
set_option maxRecDepth 20000 in
theorem ggX11_tried_X11_sideOf : GoodIn wsX11_tried wsX11_sideOf := goodIn_sub (kt_wf1 (kt_wp_X11_tried__X11_tried_r2 kt_wm1) (kt_wfa (kt_wf1 (kt_wp_X11_tried__X11_tried_r1 kt_wm21) kt_wf0) (fun _ h => kt_wp_X11_tried__X110 h))) kt_wg_X11_sideOf
set_option maxRecDepth 20000 in
theorem gX11_tried_X11_sideOf : GoodIn wsX11_tried (wsV RX11 106 RX11 yX11_sideOf wsX11_sideOf) := goodIn_app (a := [.methodLink RX11 106 yX11_sideOf, .instanceMethod yX11_sideOf, .selects RX11 yX11_sideOf yX11_sideOf, .initialized RX11]) (goodIn_sub (kt_wf1 (kt_wp_X11_tried__X11_tried_r1 kt_wm22) (kt_wf1 (kt_wp_X11_tried__X11_tried_r1 kt_wm23) (kt_wf1 (kt_wp_X11_tried__X11_tried_r2 kt_wm0) (kt_wf1 (kt_wp_X11_tried__X11_tried_r1 kt_wm6) kt_wf0)))) (by decide +kernel)) ggX11_tried_X11_sideOf
set_option maxRecDepth 20000 in
theorem ggX11_tried_X11_bar : GoodIn wsX11_tried wsX11_bar := goodIn_sub (kt_wf1 (kt_wp_X11_tried__X11_tried_r2 kt_wm5) (kt_wfa (kt_wf1 (kt_wp_X11_tried__X11_tried_r1 kt_wm1) (kt_wf1 (kt_wp_X11_tried__X11_tried_r1 kt_wm21) (kt_wf1 (kt_wp_X11_tried__X11_tried_r2 kt_wm6) (kt_wf1 (kt_wp_X11_tried__X11_tried_r1 kt_wm9) (kt_wf1 (kt_wp_X11_tried__X11_tried_r2 kt_wm7) (kt_wf1 (kt_wp_X11_tried__X11_tried_r2 kt_wm8) (kt_wf1 (kt_wp_X11_tried__X11_tried_r2 kt_wm9) (kt_wf1 (kt_wp_X11_tried__X11_tried_r1 kt_wm6) (kt_wf1 (kt_wp_X11_tried__X11_tried_r2 kt_wm10) (kt_wf1 (kt_wp_X11_tried__X11_tried_r1 kt_wm15) (kt_wf1 (kt_wp_X11_tried__X11_tried_r1 kt_wm14) (kt_wf1 (kt_wp_X11_tried__X11_tried_r1 kt_wm16) (kt_wf1 (kt_wp_X11_tried__X11_tried_r1 kt_wm17) (kt_wf1 (kt_wp_X11_tried__X11_tried_r1 kt_wm18) (kt_wf1 (kt_wp_X11_tried__X11_tried_r1 kt_wm19) (kt_wf1 (kt_wp_X11_tried__X11_tried_r1 kt_wm20) kt_wf0)))))))))))))))) (fun _ h => kt_wp_X11_tried__X110 h))) kt_wg_X11_bar
set_option maxRecDepth 20000 in
theorem gX11_tried_X11_bar : GoodIn wsX11_tried (wsV RX11 100 RX11 yX11_bar wsX11_bar) := goodIn_app (a := [.methodLink RX11 100 yX11_bar, .instanceMethod yX11_bar, .selects RX11 yX11_bar yX11_bar, .initialized RX11]) (goodIn_sub (kt_wf1 (kt_wp_X11_tried__X11_tried_r2 kt_wm2) (kt_wf1 (kt_wp_X11_tried__X11_tried_r2 kt_wm3) (kt_wf1 (kt_wp_X11_tried__X11_tried_r2 kt_wm4) (kt_wf1 (kt_wp_X11_tried__X11_tried_r1 kt_wm6) kt_wf0)))) (by decide +kernel)) ggX11_tried_X11_bar
set_option maxRecDepth 20000 in
theorem ggX11_tried_X11_make : GoodIn wsX11_tried wsX11_make := goodIn_sub (kt_wf1 (kt_wp_X11_tried__X11_tried_r2 kt_wm14) (kt_wfa (kt_wfa (kt_wf1 (kt_wp_X11_tried__X11_tried_r1 kt_wm1) (kt_wf1 (kt_wp_X11_tried__X11_tried_r1 kt_wm9) (kt_wf1 (kt_wp_X11_tried__X11_tried_r1 kt_wm0) (kt_wf1 (kt_wp_X11_tried__X11_tried_r2 kt_wm15) (kt_wf1 (kt_wp_X11_tried__X11_tried_r2 kt_wm16) (kt_wf1 (kt_wp_X11_tried__X11_tried_r1 kt_wm8) (kt_wf1 (kt_wp_X11_tried__X11_tried_r2 kt_wm7) (kt_wf1 (kt_wp_X11_tried__X11_tried_r2 kt_wm8) (kt_wf1 (kt_wp_X11_tried__X11_tried_r2 kt_wm9) (kt_wf1 (kt_wp_X11_tried__X11_tried_r1 kt_wm6) (kt_wf1 (kt_wp_X11_tried__X11_tried_r2 kt_wm10) (kt_wf1 (kt_wp_X11_tried__X11_tried_r1 kt_wm15) (kt_wf1 (kt_wp_X11_tried__X11_tried_r1 kt_wm14) (kt_wf1 (kt_wp_X11_tried__X11_tried_r2 kt_wm17) (kt_wf1 (kt_wp_X11_tried__X11_tried_r2 kt_wm18) (kt_wf1 (kt_wp_X11_tried__X11_tried_r2 kt_wm19) (kt_wf1 (kt_wp_X11_tried__X11_tried_r2 kt_wm20) (kt_wf1 (kt_wp_X11_tried__X11_tried_r1 kt_wm21) (kt_wf1 (kt_wp_X11_tried__X11_tried_r2 kt_wm21) (kt_wf1 (kt_wp_X11_tried__X11_tried_r1 kt_wm22) (kt_wf1 (kt_wp_X11_tried__X11_tried_r1 kt_wm23) (kt_wf1 (kt_wp_X11_tried__X11_tried_r2 kt_wm0) (kt_wf1 (kt_wp_X11_tried__X11_tried_r2 kt_wm1) (kt_wf1 (kt_wp_X11_tried__X11_tried_r2 kt_wm22) kt_wf0)))))))))))))))))))))))) (kt_wf1 (kt_wp_X11_tried__X11_tried_r2 kt_wm23) (kt_wf1 (kt_wp_X11_tried__X11_tried_r3 kt_wm0) (kt_wf1 (kt_wp_X11_tried__X11_tried_r3 kt_wm1) (kt_wf1 (kt_wp_X11_tried__X11_tried_r3 kt_wm2) (kt_wf1 (kt_wp_X11_tried__X11_tried_r3 kt_wm3) (kt_wf1 (kt_wp_X11_tried__X11_tried_r3 kt_wm4) (kt_wf1 (kt_wp_X11_tried__X11_tried_r3 kt_wm5) (kt_wf1 (kt_wp_X11_tried__X11_tried_r3 kt_wm6) (kt_wf1 (kt_wp_X11_tried__X11_tried_r1 kt_wm20) kt_wf0)))))))))) (fun _ h => kt_wp_X11_tried__X110 h))) kt_wg_X11_make
set_option maxRecDepth 20000 in
theorem gX11_tried_X11_make : GoodIn wsX11_tried (wsV RX11 154 RX11 yX11_make wsX11_make) := goodIn_app (a := [.methodLink RX11 154 yX11_make, .instanceMethod yX11_make, .selects RX11 yX11_make yX11_make, .initialized RX11]) (goodIn_sub (kt_wf1 (kt_wp_X11_tried__X11_tried_r2 kt_wm11) (kt_wf1 (kt_wp_X11_tried__X11_tried_r2 kt_wm12) (kt_wf1 (kt_wp_X11_tried__X11_tried_r2 kt_wm13) (kt_wf1 (kt_wp_X11_tried__X11_tried_r1 kt_wm6) kt_wf0)))) (by decide +kernel)) ggX11_tried_X11_make
set_option maxRecDepth 20000 in
theorem kt_wg_X11_number : wsX11_number.all goodWord = true := by decide +kernel
set_option maxRecDepth 20000 in
theorem ggX11_tried_X11_number : GoodIn wsX11_tried wsX11_number := goodIn_sub (kt_wf1 (kt_wp_X11_tried__X11_tried_r3 kt_wm10) (kt_wfa (kt_wf1 (kt_wp_X11_tried__X11_tried_r1 kt_wm0) (kt_wf1 (kt_wp_X11_tried__X11_tried_r1 kt_wm1) (kt_wf1 (kt_wp_X11_tried__X11_tried_r1 kt_wm8) (kt_wf1 (kt_wp_X11_tried__X11_tried_r1 kt_wm10) (kt_wf1 (kt_wp_X11_tried__X11_tried_r1 kt_wm11) (kt_wf1 (kt_wp_X11_tried__X11_tried_r1 kt_wm12) (kt_wf1 (kt_wp_X11_tried__X11_tried_r1 kt_wm6) (kt_wf1 (kt_wp_X11_tried__X11_tried_r1 kt_wm13) (kt_wf1 (kt_wp_X11_tried__X11_tried_r1 kt_wm14) (kt_wf1 (kt_wp_X11_tried__X11_tried_r1 kt_wm15) kt_wf0)))))))))) (fun _ h => kt_wp_X11_tried__X110 h))) kt_wg_X11_number
set_option maxRecDepth 20000 in
theorem gX11_tried_X11_number : GoodIn wsX11_tried (wsV RX11 197 RX11 yX11_number wsX11_number) := goodIn_app (a := [.methodLink RX11 197 yX11_number, .instanceMethod yX11_number, .selects RX11 yX11_number yX11_number, .initialized RX11]) (goodIn_sub (kt_wf1 (kt_wp_X11_tried__X11_tried_r3 kt_wm7) (kt_wf1 (kt_wp_X11_tried__X11_tried_r3 kt_wm8) (kt_wf1 (kt_wp_X11_tried__X11_tried_r3 kt_wm9) (kt_wf1 (kt_wp_X11_tried__X11_tried_r1 kt_wm6) kt_wf0)))) (by decide +kernel)) ggX11_tried_X11_number
theorem sX11_tried_0 : kt_sg cX11_tried 0 [27, 5, 112, 61, 4, 62, 42, 27, 182, 0, 188, 54, 4, 3, 54, 5, 21, 5, 42, 180, 0, 103, 162, 0, 137, 3, 54, 6, 21, 6, 16, 32, 162, 0, 121, 42, 180, 0, 30, 21, 5, 46, 2, 159, 0, 110, 42, 21, 5, 182, 0, 106, 28, 160, 0, 100, 42, 21, 5, 21, 6, 16, 8, 108] = true := by decide +kernel
theorem dX11_tried_0 : decode cX11_tried 0 = .ok (.iload_n 1, 1) := kt_o27 (j := 0) sX11_tried_0 rfl
theorem dX11_tried_1 : decode cX11_tried 1 = .ok (.iconst 2, 1) := kt_o5 (j := 1) sX11_tried_0 rfl
theorem dX11_tried_2 : decode cX11_tried 2 = .ok (.irem, 1) := kt_o112 (j := 2) sX11_tried_0 rfl
theorem dX11_tried_3 : decode cX11_tried 3 = .ok (.istore_n 2, 1) := kt_o61 (j := 3) sX11_tried_0 rfl
theorem dX11_tried_4 : decode cX11_tried 4 = .ok (.iconst 1, 1) := kt_o4 (j := 4) sX11_tried_0 rfl
theorem dX11_tried_5 : decode cX11_tried 5 = .ok (.istore_n 3, 1) := kt_o62 (j := 5) sX11_tried_0 rfl
theorem dX11_tried_6 : decode cX11_tried 6 = .ok (.aload_n 0, 1) := kt_o42 (j := 6) sX11_tried_0 rfl
theorem dX11_tried_7 : decode cX11_tried 7 = .ok (.iload_n 1, 1) := kt_o27 (j := 7) sX11_tried_0 rfl
theorem dX11_tried_8 : decode cX11_tried 8 = .ok (.invokevirtual 188, 3) := kt_o182 (j := 8) sX11_tried_0 rfl rfl
theorem dX11_tried_11 : decode cX11_tried 11 = .ok (.istore 4, 2) := kt_o54 (j := 11) sX11_tried_0 rfl
theorem dX11_tried_13 : decode cX11_tried 13 = .ok (.iconst 0, 1) := kt_o3 (j := 13) sX11_tried_0 rfl
theorem dX11_tried_14 : decode cX11_tried 14 = .ok (.istore 5, 2) := kt_o54 (j := 14) sX11_tried_0 rfl
theorem dX11_tried_16 : decode cX11_tried 16 = .ok (.iload 5, 2) := kt_o21 (j := 16) sX11_tried_0 rfl
theorem dX11_tried_18 : decode cX11_tried 18 = .ok (.aload_n 0, 1) := kt_o42 (j := 18) sX11_tried_0 rfl
theorem dX11_tried_19 : decode cX11_tried 19 = .ok (.getfield 103, 3) := kt_o180 (j := 19) sX11_tried_0 rfl rfl
theorem dX11_tried_22 : decode cX11_tried 22 = .ok (.if_icmp .ge 137, 3) := kt_o162 (j := 22) sX11_tried_0 rfl (by decide +kernel)
theorem dX11_tried_25 : decode cX11_tried 25 = .ok (.iconst 0, 1) := kt_o3 (j := 25) sX11_tried_0 rfl
theorem dX11_tried_26 : decode cX11_tried 26 = .ok (.istore 6, 2) := kt_o54 (j := 26) sX11_tried_0 rfl
theorem dX11_tried_28 : decode cX11_tried 28 = .ok (.iload 6, 2) := kt_o21 (j := 28) sX11_tried_0 rfl
theorem dX11_tried_30 : decode cX11_tried 30 = .ok (.bipush 32, 2) := kt_o16 (j := 30) sX11_tried_0 rfl (by decide +kernel)
theorem dX11_tried_32 : decode cX11_tried 32 = .ok (.if_icmp .ge 121, 3) := kt_o162 (j := 32) sX11_tried_0 rfl (by decide +kernel)
theorem dX11_tried_35 : decode cX11_tried 35 = .ok (.aload_n 0, 1) := kt_o42 (j := 35) sX11_tried_0 rfl
theorem dX11_tried_36 : decode cX11_tried 36 = .ok (.getfield 30, 3) := kt_o180 (j := 36) sX11_tried_0 rfl rfl
theorem dX11_tried_39 : decode cX11_tried 39 = .ok (.iload 5, 2) := kt_o21 (j := 39) sX11_tried_0 rfl
theorem dX11_tried_41 : decode cX11_tried 41 = .ok (.iaload, 1) := kt_o46 (j := 41) sX11_tried_0 rfl
theorem dX11_tried_42 : decode cX11_tried 42 = .ok (.iconst (-1), 1) := kt_o2 (j := 42) sX11_tried_0 rfl
theorem dX11_tried_43 : decode cX11_tried 43 = .ok (.if_icmp .eq 110, 3) := kt_o159 (j := 43) sX11_tried_0 rfl (by decide +kernel)
theorem dX11_tried_46 : decode cX11_tried 46 = .ok (.aload_n 0, 1) := kt_o42 (j := 46) sX11_tried_0 rfl
theorem dX11_tried_47 : decode cX11_tried 47 = .ok (.iload 5, 2) := kt_o21 (j := 47) sX11_tried_0 rfl
theorem dX11_tried_49 : decode cX11_tried 49 = .ok (.invokevirtual 106, 3) := kt_o182 (j := 49) sX11_tried_0 rfl rfl
theorem dX11_tried_52 : decode cX11_tried 52 = .ok (.iload_n 2, 1) := kt_o28 (j := 52) sX11_tried_0 rfl
theorem dX11_tried_53 : decode cX11_tried 53 = .ok (.if_icmp .ne 100, 3) := kt_o160 (j := 53) sX11_tried_0 rfl (by decide +kernel)
theorem dX11_tried_56 : decode cX11_tried 56 = .ok (.aload_n 0, 1) := kt_o42 (j := 56) sX11_tried_0 rfl
theorem dX11_tried_57 : decode cX11_tried 57 = .ok (.iload 5, 2) := kt_o21 (j := 57) sX11_tried_0 rfl
theorem dX11_tried_59 : decode cX11_tried 59 = .ok (.iload 6, 2) := kt_o21 (j := 59) sX11_tried_0 rfl
theorem dX11_tried_61 : decode cX11_tried 61 = .ok (.bipush 8, 2) := kt_o16 (j := 61) sX11_tried_0 rfl (by decide +kernel)
theorem dX11_tried_63 : decode cX11_tried 63 = .ok (.idiv, 1) := kt_o108 (j := 63) sX11_tried_0 rfl
theorem sX11_tried_64 : kt_sg cX11_tried 64 [21, 6, 16, 8, 112, 4, 96, 182, 0, 100, 153, 0, 6, 167, 0, 70, 42, 21, 5, 21, 6, 16, 8, 108, 21, 6, 16, 8, 112, 4, 96, 182, 0, 154, 42, 182, 0, 197, 54, 7, 42, 27, 182, 0, 188, 54, 4, 42, 180, 0, 57, 21, 7, 46, 28, 160, 0, 5, 28, 172, 29, 153, 0, 20] = true := by decide +kernel
theorem dX11_tried_64 : decode cX11_tried 64 = .ok (.iload 6, 2) := kt_o21 (j := 0) sX11_tried_64 rfl
theorem dX11_tried_66 : decode cX11_tried 66 = .ok (.bipush 8, 2) := kt_o16 (j := 2) sX11_tried_64 rfl (by decide +kernel)
theorem dX11_tried_68 : decode cX11_tried 68 = .ok (.irem, 1) := kt_o112 (j := 4) sX11_tried_64 rfl
theorem dX11_tried_69 : decode cX11_tried 69 = .ok (.iconst 1, 1) := kt_o4 (j := 5) sX11_tried_64 rfl
theorem dX11_tried_70 : decode cX11_tried 70 = .ok (.iadd, 1) := kt_o96 (j := 6) sX11_tried_64 rfl
theorem dX11_tried_71 : decode cX11_tried 71 = .ok (.invokevirtual 100, 3) := kt_o182 (j := 7) sX11_tried_64 rfl rfl
theorem dX11_tried_74 : decode cX11_tried 74 = .ok (.ifCond .eq 6, 3) := kt_o153 (j := 10) sX11_tried_64 rfl (by decide +kernel)
theorem dX11_tried_77 : decode cX11_tried 77 = .ok (.goto 70, 3) := kt_o167 (j := 13) sX11_tried_64 rfl (by decide +kernel)
theorem dX11_tried_80 : decode cX11_tried 80 = .ok (.aload_n 0, 1) := kt_o42 (j := 16) sX11_tried_64 rfl
theorem dX11_tried_81 : decode cX11_tried 81 = .ok (.iload 5, 2) := kt_o21 (j := 17) sX11_tried_64 rfl
theorem dX11_tried_83 : decode cX11_tried 83 = .ok (.iload 6, 2) := kt_o21 (j := 19) sX11_tried_64 rfl
theorem dX11_tried_85 : decode cX11_tried 85 = .ok (.bipush 8, 2) := kt_o16 (j := 21) sX11_tried_64 rfl (by decide +kernel)
theorem dX11_tried_87 : decode cX11_tried 87 = .ok (.idiv, 1) := kt_o108 (j := 23) sX11_tried_64 rfl
theorem dX11_tried_88 : decode cX11_tried 88 = .ok (.iload 6, 2) := kt_o21 (j := 24) sX11_tried_64 rfl
theorem dX11_tried_90 : decode cX11_tried 90 = .ok (.bipush 8, 2) := kt_o16 (j := 26) sX11_tried_64 rfl (by decide +kernel)
theorem dX11_tried_92 : decode cX11_tried 92 = .ok (.irem, 1) := kt_o112 (j := 28) sX11_tried_64 rfl
theorem dX11_tried_93 : decode cX11_tried 93 = .ok (.iconst 1, 1) := kt_o4 (j := 29) sX11_tried_64 rfl
theorem dX11_tried_94 : decode cX11_tried 94 = .ok (.iadd, 1) := kt_o96 (j := 30) sX11_tried_64 rfl
theorem dX11_tried_95 : decode cX11_tried 95 = .ok (.invokevirtual 154, 3) := kt_o182 (j := 31) sX11_tried_64 rfl rfl
theorem dX11_tried_98 : decode cX11_tried 98 = .ok (.aload_n 0, 1) := kt_o42 (j := 34) sX11_tried_64 rfl
theorem dX11_tried_99 : decode cX11_tried 99 = .ok (.invokevirtual 197, 3) := kt_o182 (j := 35) sX11_tried_64 rfl rfl
theorem dX11_tried_102 : decode cX11_tried 102 = .ok (.istore 7, 2) := kt_o54 (j := 38) sX11_tried_64 rfl
theorem dX11_tried_104 : decode cX11_tried 104 = .ok (.aload_n 0, 1) := kt_o42 (j := 40) sX11_tried_64 rfl
theorem dX11_tried_105 : decode cX11_tried 105 = .ok (.iload_n 1, 1) := kt_o27 (j := 41) sX11_tried_64 rfl
theorem dX11_tried_106 : decode cX11_tried 106 = .ok (.invokevirtual 188, 3) := kt_o182 (j := 42) sX11_tried_64 rfl rfl
theorem dX11_tried_109 : decode cX11_tried 109 = .ok (.istore 4, 2) := kt_o54 (j := 45) sX11_tried_64 rfl
theorem dX11_tried_111 : decode cX11_tried 111 = .ok (.aload_n 0, 1) := kt_o42 (j := 47) sX11_tried_64 rfl
theorem dX11_tried_112 : decode cX11_tried 112 = .ok (.getfield 57, 3) := kt_o180 (j := 48) sX11_tried_64 rfl rfl
theorem dX11_tried_115 : decode cX11_tried 115 = .ok (.iload 7, 2) := kt_o21 (j := 51) sX11_tried_64 rfl
theorem dX11_tried_117 : decode cX11_tried 117 = .ok (.iaload, 1) := kt_o46 (j := 53) sX11_tried_64 rfl
theorem dX11_tried_118 : decode cX11_tried 118 = .ok (.iload_n 2, 1) := kt_o28 (j := 54) sX11_tried_64 rfl
theorem dX11_tried_119 : decode cX11_tried 119 = .ok (.if_icmp .ne 5, 3) := kt_o160 (j := 55) sX11_tried_64 rfl (by decide +kernel)
theorem dX11_tried_122 : decode cX11_tried 122 = .ok (.iload_n 2, 1) := kt_o28 (j := 58) sX11_tried_64 rfl
theorem dX11_tried_123 : decode cX11_tried 123 = .ok (.ireturn, 1) := kt_o172 (j := 59) sX11_tried_64 rfl
theorem dX11_tried_124 : decode cX11_tried 124 = .ok (.iload_n 3, 1) := kt_o29 (j := 60) sX11_tried_64 rfl
theorem dX11_tried_125 : decode cX11_tried 125 = .ok (.ifCond .eq 20, 3) := kt_o153 (j := 61) sX11_tried_64 rfl (by decide +kernel)
theorem sX11_tried_128 : kt_sg cX11_tried 128 [42, 180, 0, 57, 21, 7, 46, 4, 28, 100, 160, 0, 7, 4, 167, 0, 4, 3, 62, 132, 6, 1, 167, 255, 134, 132, 5, 1, 167, 255, 116, 29, 153, 0, 9, 4, 28, 100, 167, 0, 4, 6, 172] = true := by decide +kernel
theorem dX11_tried_128 : decode cX11_tried 128 = .ok (.aload_n 0, 1) := kt_o42 (j := 0) sX11_tried_128 rfl
theorem dX11_tried_129 : decode cX11_tried 129 = .ok (.getfield 57, 3) := kt_o180 (j := 1) sX11_tried_128 rfl rfl
theorem dX11_tried_132 : decode cX11_tried 132 = .ok (.iload 7, 2) := kt_o21 (j := 4) sX11_tried_128 rfl
theorem dX11_tried_134 : decode cX11_tried 134 = .ok (.iaload, 1) := kt_o46 (j := 6) sX11_tried_128 rfl
theorem dX11_tried_135 : decode cX11_tried 135 = .ok (.iconst 1, 1) := kt_o4 (j := 7) sX11_tried_128 rfl
theorem dX11_tried_136 : decode cX11_tried 136 = .ok (.iload_n 2, 1) := kt_o28 (j := 8) sX11_tried_128 rfl
theorem dX11_tried_137 : decode cX11_tried 137 = .ok (.isub, 1) := kt_o100 (j := 9) sX11_tried_128 rfl
theorem dX11_tried_138 : decode cX11_tried 138 = .ok (.if_icmp .ne 7, 3) := kt_o160 (j := 10) sX11_tried_128 rfl (by decide +kernel)
theorem dX11_tried_141 : decode cX11_tried 141 = .ok (.iconst 1, 1) := kt_o4 (j := 13) sX11_tried_128 rfl
theorem dX11_tried_142 : decode cX11_tried 142 = .ok (.goto 4, 3) := kt_o167 (j := 14) sX11_tried_128 rfl (by decide +kernel)
theorem dX11_tried_145 : decode cX11_tried 145 = .ok (.iconst 0, 1) := kt_o3 (j := 17) sX11_tried_128 rfl
theorem dX11_tried_146 : decode cX11_tried 146 = .ok (.istore_n 3, 1) := kt_o62 (j := 18) sX11_tried_128 rfl
theorem dX11_tried_147 : decode cX11_tried 147 = .ok (.iinc 6 1, 3) := kt_o132 (j := 19) sX11_tried_128 rfl (by decide +kernel)
theorem dX11_tried_150 : decode cX11_tried 150 = .ok (.goto (-122), 3) := kt_o167 (j := 22) sX11_tried_128 rfl (by decide +kernel)
theorem dX11_tried_153 : decode cX11_tried 153 = .ok (.iinc 5 1, 3) := kt_o132 (j := 25) sX11_tried_128 rfl (by decide +kernel)
theorem dX11_tried_156 : decode cX11_tried 156 = .ok (.goto (-140), 3) := kt_o167 (j := 28) sX11_tried_128 rfl (by decide +kernel)
theorem dX11_tried_159 : decode cX11_tried 159 = .ok (.iload_n 3, 1) := kt_o29 (j := 31) sX11_tried_128 rfl
theorem dX11_tried_160 : decode cX11_tried 160 = .ok (.ifCond .eq 9, 3) := kt_o153 (j := 32) sX11_tried_128 rfl (by decide +kernel)
theorem dX11_tried_163 : decode cX11_tried 163 = .ok (.iconst 1, 1) := kt_o4 (j := 35) sX11_tried_128 rfl
theorem dX11_tried_164 : decode cX11_tried 164 = .ok (.iload_n 2, 1) := kt_o28 (j := 36) sX11_tried_128 rfl
theorem dX11_tried_165 : decode cX11_tried 165 = .ok (.isub, 1) := kt_o100 (j := 37) sX11_tried_128 rfl
theorem dX11_tried_166 : decode cX11_tried 166 = .ok (.goto 4, 3) := kt_o167 (j := 38) sX11_tried_128 rfl (by decide +kernel)
theorem dX11_tried_169 : decode cX11_tried 169 = .ok (.iconst 3, 1) := kt_o6 (j := 41) sX11_tried_128 rfl
theorem dX11_tried_170 : decode cX11_tried 170 = .ok (.ireturn, 1) := kt_o172 (j := 42) sX11_tried_128 rfl
theorem kt_wp_X11_leads__X11_leads_r1 {w : Cond} (h : w ∈ wsX11_leads_r1) : w ∈ wsX11_leads := List.mem_cons_of_mem _ (List.mem_append_left _ (List.mem_append_left _ (h)))
theorem kt_wp_X11_leads__X11_leads_r2 {w : Cond} (h : w ∈ wsX11_leads_r2) : w ∈ wsX11_leads := List.mem_cons_of_mem _ (List.mem_append_left _ (List.mem_append_right _ (List.mem_append_left _ (h))))
theorem kt_wp_X11_leads__X11_leads_r3 {w : Cond} (h : w ∈ wsX11_leads_r3) : w ∈ wsX11_leads := List.mem_cons_of_mem _ (List.mem_append_left _ (List.mem_append_right _ (List.mem_append_right _ (h))))
theorem kt_wp_X11_leads__X110 {w : Cond} (h : w ∈ wsX110) : w ∈ wsX11_leads := List.mem_cons_of_mem _ (List.mem_append_right _ (h))
set_option maxRecDepth 20000 in
theorem ggX11_leads_X11_setUp : GoodIn wsX11_leads wsX11_setUp := goodIn_sub (kt_wf1 (kt_wp_X11_leads__X11_leads_r1 kt_wm6) (kt_wfa (kt_wf1 (kt_wp_X11_leads__X11_leads_r1 kt_wm1) (kt_wf1 (kt_wp_X11_leads__X11_leads_r1 kt_wm7) (kt_wf1 (kt_wp_X11_leads__X11_leads_r1 kt_wm8) (kt_wf1 (kt_wp_X11_leads__X11_leads_r1 kt_wm0) (kt_wf1 (kt_wp_X11_leads__X11_leads_r1 kt_wm9) (kt_wf1 (kt_wp_X11_leads__X11_leads_r1 kt_wm10) (kt_wf1 (kt_wp_X11_leads__X11_leads_r1 kt_wm11) (kt_wf1 (kt_wp_X11_leads__X11_leads_r1 kt_wm5) (kt_wf1 (kt_wp_X11_leads__X11_leads_r1 kt_wm12) (kt_wf1 (kt_wp_X11_leads__X11_leads_r1 kt_wm13) (kt_wf1 (kt_wp_X11_leads__X11_leads_r1 kt_wm14) (kt_wf1 (kt_wp_X11_leads__X11_leads_r1 kt_wm15) (kt_wf1 (kt_wp_X11_leads__X11_leads_r1 kt_wm16) (kt_wf1 (kt_wp_X11_leads__X11_leads_r1 kt_wm17) (kt_wf1 (kt_wp_X11_leads__X11_leads_r1 kt_wm18) (kt_wf1 (kt_wp_X11_leads__X11_leads_r1 kt_wm19) (kt_wf1 (kt_wp_X11_leads__X11_leads_r1 kt_wm20) kt_wf0))))))))))))))))) (fun _ h => kt_wp_X11_leads__X110 h))) kt_wg_X11_setUp
set_option maxRecDepth 20000 in
theorem gX11_leads_X11_setUp : GoodIn wsX11_leads (wsV RX11 188 RX11 yX11_setUp wsX11_setUp) := goodIn_app (a := [.methodLink RX11 188 yX11_setUp, .instanceMethod yX11_setUp, .selects RX11 yX11_setUp yX11_setUp, .initialized RX11]) (goodIn_sub (kt_wf1 (kt_wp_X11_leads__X11_leads_r1 kt_wm2) (kt_wf1 (kt_wp_X11_leads__X11_leads_r1 kt_wm3) (kt_wf1 (kt_wp_X11_leads__X11_leads_r1 kt_wm4) (kt_wf1 (kt_wp_X11_leads__X11_leads_r1 kt_wm5) kt_wf0)))) (by decide +kernel)) ggX11_leads_X11_setUp
set_option maxRecDepth 20000 in
theorem ggX11_leads_X11_sideOf : GoodIn wsX11_leads wsX11_sideOf := goodIn_sub (kt_wf1 (kt_wp_X11_leads__X11_leads_r2 kt_wm0) (kt_wfa (kt_wf1 (kt_wp_X11_leads__X11_leads_r1 kt_wm20) kt_wf0) (fun _ h => kt_wp_X11_leads__X110 h))) kt_wg_X11_sideOf
set_option maxRecDepth 20000 in
theorem gX11_leads_X11_sideOf : GoodIn wsX11_leads (wsV RX11 106 RX11 yX11_sideOf wsX11_sideOf) := goodIn_app (a := [.methodLink RX11 106 yX11_sideOf, .instanceMethod yX11_sideOf, .selects RX11 yX11_sideOf yX11_sideOf, .initialized RX11]) (goodIn_sub (kt_wf1 (kt_wp_X11_leads__X11_leads_r1 kt_wm21) (kt_wf1 (kt_wp_X11_leads__X11_leads_r1 kt_wm22) (kt_wf1 (kt_wp_X11_leads__X11_leads_r1 kt_wm23) (kt_wf1 (kt_wp_X11_leads__X11_leads_r1 kt_wm5) kt_wf0)))) (by decide +kernel)) ggX11_leads_X11_sideOf
set_option maxRecDepth 20000 in
theorem ggX11_leads_X11_bar : GoodIn wsX11_leads wsX11_bar := goodIn_sub (kt_wf1 (kt_wp_X11_leads__X11_leads_r2 kt_wm4) (kt_wfa (kt_wf1 (kt_wp_X11_leads__X11_leads_r1 kt_wm0) (kt_wf1 (kt_wp_X11_leads__X11_leads_r1 kt_wm20) (kt_wf1 (kt_wp_X11_leads__X11_leads_r2 kt_wm5) (kt_wf1 (kt_wp_X11_leads__X11_leads_r1 kt_wm7) (kt_wf1 (kt_wp_X11_leads__X11_leads_r2 kt_wm6) (kt_wf1 (kt_wp_X11_leads__X11_leads_r2 kt_wm7) (kt_wf1 (kt_wp_X11_leads__X11_leads_r2 kt_wm8) (kt_wf1 (kt_wp_X11_leads__X11_leads_r1 kt_wm5) (kt_wf1 (kt_wp_X11_leads__X11_leads_r2 kt_wm9) (kt_wf1 (kt_wp_X11_leads__X11_leads_r1 kt_wm14) (kt_wf1 (kt_wp_X11_leads__X11_leads_r1 kt_wm13) (kt_wf1 (kt_wp_X11_leads__X11_leads_r1 kt_wm15) (kt_wf1 (kt_wp_X11_leads__X11_leads_r1 kt_wm16) (kt_wf1 (kt_wp_X11_leads__X11_leads_r1 kt_wm17) (kt_wf1 (kt_wp_X11_leads__X11_leads_r1 kt_wm18) (kt_wf1 (kt_wp_X11_leads__X11_leads_r1 kt_wm19) kt_wf0)))))))))))))))) (fun _ h => kt_wp_X11_leads__X110 h))) kt_wg_X11_bar
set_option maxRecDepth 20000 in
theorem gX11_leads_X11_bar : GoodIn wsX11_leads (wsV RX11 100 RX11 yX11_bar wsX11_bar) := goodIn_app (a := [.methodLink RX11 100 yX11_bar, .instanceMethod yX11_bar, .selects RX11 yX11_bar yX11_bar, .initialized RX11]) (goodIn_sub (kt_wf1 (kt_wp_X11_leads__X11_leads_r2 kt_wm1) (kt_wf1 (kt_wp_X11_leads__X11_leads_r2 kt_wm2) (kt_wf1 (kt_wp_X11_leads__X11_leads_r2 kt_wm3) (kt_wf1 (kt_wp_X11_leads__X11_leads_r1 kt_wm5) kt_wf0)))) (by decide +kernel)) ggX11_leads_X11_bar
set_option maxRecDepth 20000 in
theorem ggX11_leads_X11_make : GoodIn wsX11_leads wsX11_make := goodIn_sub (kt_wf1 (kt_wp_X11_leads__X11_leads_r2 kt_wm13) (kt_wfa (kt_wfa (kt_wf1 (kt_wp_X11_leads__X11_leads_r1 kt_wm0) (kt_wf1 (kt_wp_X11_leads__X11_leads_r1 kt_wm7) (kt_wf1 (kt_wp_X11_leads__X11_leads_r1 kt_wm8) (kt_wf1 (kt_wp_X11_leads__X11_leads_r2 kt_wm14) (kt_wf1 (kt_wp_X11_leads__X11_leads_r2 kt_wm15) (kt_wf1 (kt_wp_X11_leads__X11_leads_r1 kt_wm1) (kt_wf1 (kt_wp_X11_leads__X11_leads_r2 kt_wm6) (kt_wf1 (kt_wp_X11_leads__X11_leads_r2 kt_wm7) (kt_wf1 (kt_wp_X11_leads__X11_leads_r2 kt_wm8) (kt_wf1 (kt_wp_X11_leads__X11_leads_r1 kt_wm5) (kt_wf1 (kt_wp_X11_leads__X11_leads_r2 kt_wm9) (kt_wf1 (kt_wp_X11_leads__X11_leads_r1 kt_wm14) (kt_wf1 (kt_wp_X11_leads__X11_leads_r1 kt_wm13) (kt_wf1 (kt_wp_X11_leads__X11_leads_r2 kt_wm16) (kt_wf1 (kt_wp_X11_leads__X11_leads_r2 kt_wm17) (kt_wf1 (kt_wp_X11_leads__X11_leads_r2 kt_wm18) (kt_wf1 (kt_wp_X11_leads__X11_leads_r2 kt_wm19) (kt_wf1 (kt_wp_X11_leads__X11_leads_r1 kt_wm20) (kt_wf1 (kt_wp_X11_leads__X11_leads_r2 kt_wm20) (kt_wf1 (kt_wp_X11_leads__X11_leads_r1 kt_wm21) (kt_wf1 (kt_wp_X11_leads__X11_leads_r1 kt_wm22) (kt_wf1 (kt_wp_X11_leads__X11_leads_r1 kt_wm23) (kt_wf1 (kt_wp_X11_leads__X11_leads_r2 kt_wm0) (kt_wf1 (kt_wp_X11_leads__X11_leads_r2 kt_wm21) kt_wf0)))))))))))))))))))))))) (kt_wf1 (kt_wp_X11_leads__X11_leads_r2 kt_wm22) (kt_wf1 (kt_wp_X11_leads__X11_leads_r2 kt_wm23) (kt_wf1 (kt_wp_X11_leads__X11_leads_r3 kt_wm0) (kt_wf1 (kt_wp_X11_leads__X11_leads_r3 kt_wm1) (kt_wf1 (kt_wp_X11_leads__X11_leads_r3 kt_wm2) (kt_wf1 (kt_wp_X11_leads__X11_leads_r3 kt_wm3) (kt_wf1 (kt_wp_X11_leads__X11_leads_r3 kt_wm4) (kt_wf1 (kt_wp_X11_leads__X11_leads_r3 kt_wm5) (kt_wf1 (kt_wp_X11_leads__X11_leads_r1 kt_wm19) kt_wf0)))))))))) (fun _ h => kt_wp_X11_leads__X110 h))) kt_wg_X11_make
set_option maxRecDepth 20000 in
theorem gX11_leads_X11_make : GoodIn wsX11_leads (wsV RX11 154 RX11 yX11_make wsX11_make) := goodIn_app (a := [.methodLink RX11 154 yX11_make, .instanceMethod yX11_make, .selects RX11 yX11_make yX11_make, .initialized RX11]) (goodIn_sub (kt_wf1 (kt_wp_X11_leads__X11_leads_r2 kt_wm10) (kt_wf1 (kt_wp_X11_leads__X11_leads_r2 kt_wm11) (kt_wf1 (kt_wp_X11_leads__X11_leads_r2 kt_wm12) (kt_wf1 (kt_wp_X11_leads__X11_leads_r1 kt_wm5) kt_wf0)))) (by decide +kernel)) ggX11_leads_X11_make
set_option maxRecDepth 20000 in
theorem ggX11_leads_X11_number : GoodIn wsX11_leads wsX11_number := goodIn_sub (kt_wf1 (kt_wp_X11_leads__X11_leads_r3 kt_wm9) (kt_wfa (kt_wf1 (kt_wp_X11_leads__X11_leads_r1 kt_wm8) (kt_wf1 (kt_wp_X11_leads__X11_leads_r1 kt_wm0) (kt_wf1 (kt_wp_X11_leads__X11_leads_r1 kt_wm1) (kt_wf1 (kt_wp_X11_leads__X11_leads_r1 kt_wm9) (kt_wf1 (kt_wp_X11_leads__X11_leads_r1 kt_wm10) (kt_wf1 (kt_wp_X11_leads__X11_leads_r1 kt_wm11) (kt_wf1 (kt_wp_X11_leads__X11_leads_r1 kt_wm5) (kt_wf1 (kt_wp_X11_leads__X11_leads_r1 kt_wm12) (kt_wf1 (kt_wp_X11_leads__X11_leads_r1 kt_wm13) (kt_wf1 (kt_wp_X11_leads__X11_leads_r1 kt_wm14) kt_wf0)))))))))) (fun _ h => kt_wp_X11_leads__X110 h))) kt_wg_X11_number
set_option maxRecDepth 20000 in
theorem gX11_leads_X11_number : GoodIn wsX11_leads (wsV RX11 197 RX11 yX11_number wsX11_number) := goodIn_app (a := [.methodLink RX11 197 yX11_number, .instanceMethod yX11_number, .selects RX11 yX11_number yX11_number, .initialized RX11]) (goodIn_sub (kt_wf1 (kt_wp_X11_leads__X11_leads_r3 kt_wm6) (kt_wf1 (kt_wp_X11_leads__X11_leads_r3 kt_wm7) (kt_wf1 (kt_wp_X11_leads__X11_leads_r3 kt_wm8) (kt_wf1 (kt_wp_X11_leads__X11_leads_r1 kt_wm5) kt_wf0)))) (by decide +kernel)) ggX11_leads_X11_number
theorem sX11_leads_0 : kt_sg cX11_leads 0 [42, 27, 182, 0, 188, 62, 28, 16, 32, 108, 54, 4, 42, 180, 0, 30, 21, 4, 46, 2, 159, 0, 37, 42, 21, 4, 182, 0, 106, 42, 180, 0, 126, 160, 0, 24, 42, 21, 4, 28, 16, 8, 108, 7, 112, 28, 16, 8, 112, 4, 96, 182, 0, 100, 153, 0, 5, 2, 172, 42, 21, 4, 28, 16, 8] = true := by decide +kernel
theorem dX11_leads_0 : decode cX11_leads 0 = .ok (.aload_n 0, 1) := kt_o42 (j := 0) sX11_leads_0 rfl
theorem dX11_leads_1 : decode cX11_leads 1 = .ok (.iload_n 1, 1) := kt_o27 (j := 1) sX11_leads_0 rfl
theorem dX11_leads_2 : decode cX11_leads 2 = .ok (.invokevirtual 188, 3) := kt_o182 (j := 2) sX11_leads_0 rfl rfl
theorem dX11_leads_5 : decode cX11_leads 5 = .ok (.istore_n 3, 1) := kt_o62 (j := 5) sX11_leads_0 rfl
theorem dX11_leads_6 : decode cX11_leads 6 = .ok (.iload_n 2, 1) := kt_o28 (j := 6) sX11_leads_0 rfl
theorem dX11_leads_7 : decode cX11_leads 7 = .ok (.bipush 32, 2) := kt_o16 (j := 7) sX11_leads_0 rfl (by decide +kernel)
theorem dX11_leads_9 : decode cX11_leads 9 = .ok (.idiv, 1) := kt_o108 (j := 9) sX11_leads_0 rfl
theorem dX11_leads_10 : decode cX11_leads 10 = .ok (.istore 4, 2) := kt_o54 (j := 10) sX11_leads_0 rfl
theorem dX11_leads_12 : decode cX11_leads 12 = .ok (.aload_n 0, 1) := kt_o42 (j := 12) sX11_leads_0 rfl
theorem dX11_leads_13 : decode cX11_leads 13 = .ok (.getfield 30, 3) := kt_o180 (j := 13) sX11_leads_0 rfl rfl
theorem dX11_leads_16 : decode cX11_leads 16 = .ok (.iload 4, 2) := kt_o21 (j := 16) sX11_leads_0 rfl
theorem dX11_leads_18 : decode cX11_leads 18 = .ok (.iaload, 1) := kt_o46 (j := 18) sX11_leads_0 rfl
theorem dX11_leads_19 : decode cX11_leads 19 = .ok (.iconst (-1), 1) := kt_o2 (j := 19) sX11_leads_0 rfl
theorem dX11_leads_20 : decode cX11_leads 20 = .ok (.if_icmp .eq 37, 3) := kt_o159 (j := 20) sX11_leads_0 rfl (by decide +kernel)
theorem dX11_leads_23 : decode cX11_leads 23 = .ok (.aload_n 0, 1) := kt_o42 (j := 23) sX11_leads_0 rfl
theorem dX11_leads_24 : decode cX11_leads 24 = .ok (.iload 4, 2) := kt_o21 (j := 24) sX11_leads_0 rfl
theorem dX11_leads_26 : decode cX11_leads 26 = .ok (.invokevirtual 106, 3) := kt_o182 (j := 26) sX11_leads_0 rfl rfl
theorem dX11_leads_29 : decode cX11_leads 29 = .ok (.aload_n 0, 1) := kt_o42 (j := 29) sX11_leads_0 rfl
theorem dX11_leads_30 : decode cX11_leads 30 = .ok (.getfield 126, 3) := kt_o180 (j := 30) sX11_leads_0 rfl rfl
theorem dX11_leads_33 : decode cX11_leads 33 = .ok (.if_icmp .ne 24, 3) := kt_o160 (j := 33) sX11_leads_0 rfl (by decide +kernel)
theorem dX11_leads_36 : decode cX11_leads 36 = .ok (.aload_n 0, 1) := kt_o42 (j := 36) sX11_leads_0 rfl
theorem dX11_leads_37 : decode cX11_leads 37 = .ok (.iload 4, 2) := kt_o21 (j := 37) sX11_leads_0 rfl
theorem dX11_leads_39 : decode cX11_leads 39 = .ok (.iload_n 2, 1) := kt_o28 (j := 39) sX11_leads_0 rfl
theorem dX11_leads_40 : decode cX11_leads 40 = .ok (.bipush 8, 2) := kt_o16 (j := 40) sX11_leads_0 rfl (by decide +kernel)
theorem dX11_leads_42 : decode cX11_leads 42 = .ok (.idiv, 1) := kt_o108 (j := 42) sX11_leads_0 rfl
theorem dX11_leads_43 : decode cX11_leads 43 = .ok (.iconst 4, 1) := kt_o7 (j := 43) sX11_leads_0 rfl
theorem dX11_leads_44 : decode cX11_leads 44 = .ok (.irem, 1) := kt_o112 (j := 44) sX11_leads_0 rfl
theorem dX11_leads_45 : decode cX11_leads 45 = .ok (.iload_n 2, 1) := kt_o28 (j := 45) sX11_leads_0 rfl
theorem dX11_leads_46 : decode cX11_leads 46 = .ok (.bipush 8, 2) := kt_o16 (j := 46) sX11_leads_0 rfl (by decide +kernel)
theorem dX11_leads_48 : decode cX11_leads 48 = .ok (.irem, 1) := kt_o112 (j := 48) sX11_leads_0 rfl
theorem dX11_leads_49 : decode cX11_leads 49 = .ok (.iconst 1, 1) := kt_o4 (j := 49) sX11_leads_0 rfl
theorem dX11_leads_50 : decode cX11_leads 50 = .ok (.iadd, 1) := kt_o96 (j := 50) sX11_leads_0 rfl
theorem dX11_leads_51 : decode cX11_leads 51 = .ok (.invokevirtual 100, 3) := kt_o182 (j := 51) sX11_leads_0 rfl rfl
theorem dX11_leads_54 : decode cX11_leads 54 = .ok (.ifCond .eq 5, 3) := kt_o153 (j := 54) sX11_leads_0 rfl (by decide +kernel)
theorem dX11_leads_57 : decode cX11_leads 57 = .ok (.iconst (-1), 1) := kt_o2 (j := 57) sX11_leads_0 rfl
theorem dX11_leads_58 : decode cX11_leads 58 = .ok (.ireturn, 1) := kt_o172 (j := 58) sX11_leads_0 rfl
theorem dX11_leads_59 : decode cX11_leads 59 = .ok (.aload_n 0, 1) := kt_o42 (j := 59) sX11_leads_0 rfl
theorem dX11_leads_60 : decode cX11_leads 60 = .ok (.iload 4, 2) := kt_o21 (j := 60) sX11_leads_0 rfl
theorem dX11_leads_62 : decode cX11_leads 62 = .ok (.iload_n 2, 1) := kt_o28 (j := 62) sX11_leads_0 rfl
theorem dX11_leads_63 : decode cX11_leads 63 = .ok (.bipush 8, 2) := kt_o16 (j := 63) sX11_leads_0 rfl (by decide +kernel)
theorem sX11_leads_65 : kt_sg cX11_leads 65 [108, 7, 112, 28, 16, 8, 112, 4, 96, 182, 0, 154, 42, 182, 0, 197, 172] = true := by decide +kernel
theorem dX11_leads_65 : decode cX11_leads 65 = .ok (.idiv, 1) := kt_o108 (j := 0) sX11_leads_65 rfl
theorem dX11_leads_66 : decode cX11_leads 66 = .ok (.iconst 4, 1) := kt_o7 (j := 1) sX11_leads_65 rfl
theorem dX11_leads_67 : decode cX11_leads 67 = .ok (.irem, 1) := kt_o112 (j := 2) sX11_leads_65 rfl
theorem dX11_leads_68 : decode cX11_leads 68 = .ok (.iload_n 2, 1) := kt_o28 (j := 3) sX11_leads_65 rfl
theorem dX11_leads_69 : decode cX11_leads 69 = .ok (.bipush 8, 2) := kt_o16 (j := 4) sX11_leads_65 rfl (by decide +kernel)
theorem dX11_leads_71 : decode cX11_leads 71 = .ok (.irem, 1) := kt_o112 (j := 6) sX11_leads_65 rfl
theorem dX11_leads_72 : decode cX11_leads 72 = .ok (.iconst 1, 1) := kt_o4 (j := 7) sX11_leads_65 rfl
theorem dX11_leads_73 : decode cX11_leads 73 = .ok (.iadd, 1) := kt_o96 (j := 8) sX11_leads_65 rfl
theorem dX11_leads_74 : decode cX11_leads 74 = .ok (.invokevirtual 154, 3) := kt_o182 (j := 9) sX11_leads_65 rfl rfl
theorem dX11_leads_77 : decode cX11_leads 77 = .ok (.aload_n 0, 1) := kt_o42 (j := 12) sX11_leads_65 rfl
theorem dX11_leads_78 : decode cX11_leads 78 = .ok (.invokevirtual 197, 3) := kt_o182 (j := 13) sX11_leads_65 rfl rfl
theorem dX11_leads_81 : decode cX11_leads 81 = .ok (.ireturn, 1) := kt_o172 (j := 16) sX11_leads_65 rfl
theorem kt_wp_X11_worth__X110 {w : Cond} (h : w ∈ wsX110) : w ∈ wsX11_worth := List.mem_cons_of_mem _ (List.mem_append_right _ (h))
set_option maxRecDepth 20000 in
theorem ggX11_worth_X11_number : GoodIn wsX11_worth wsX11_number := goodIn_sub (kt_wf1 (List.mem_cons_of_mem _ (List.mem_append_left _ (List.mem_cons_of_mem _ (List.mem_cons_of_mem _ (List.mem_cons_of_mem _ (List.mem_cons_of_mem _ (List.mem_cons_of_mem _ (List.mem_cons_of_mem _ (List.Mem.head _))))))))) (kt_wfa (kt_wf1 (List.mem_cons_of_mem _ (List.mem_append_left _ (List.mem_cons_of_mem _ (List.mem_cons_of_mem _ (List.mem_cons_of_mem _ (List.mem_cons_of_mem _ (List.mem_cons_of_mem _ (List.mem_cons_of_mem _ (List.mem_cons_of_mem _ (List.Mem.head _)))))))))) (kt_wf1 (List.mem_cons_of_mem _ (List.mem_append_left _ (List.mem_cons_of_mem _ (List.mem_cons_of_mem _ (List.mem_cons_of_mem _ (List.mem_cons_of_mem _ (List.mem_cons_of_mem _ (List.mem_cons_of_mem _ (List.mem_cons_of_mem _ (List.mem_cons_of_mem _ (List.Mem.head _))))))))))) (kt_wf1 (List.mem_cons_of_mem _ (List.mem_append_left _ (List.mem_cons_of_mem _ (List.mem_cons_of_mem _ (List.mem_cons_of_mem _ (List.mem_cons_of_mem _ (List.mem_cons_of_mem _ (List.mem_cons_of_mem _ (List.mem_cons_of_mem _ (List.mem_cons_of_mem _ (List.mem_cons_of_mem _ (List.Mem.head _)))))))))))) (kt_wf1 (List.mem_cons_of_mem _ (List.mem_append_left _ (List.mem_cons_of_mem _ (List.mem_cons_of_mem _ (List.mem_cons_of_mem _ (List.mem_cons_of_mem _ (List.mem_cons_of_mem _ (List.mem_cons_of_mem _ (List.mem_cons_of_mem _ (List.mem_cons_of_mem _ (List.mem_cons_of_mem _ (List.mem_cons_of_mem _ (List.Mem.head _))))))))))))) (kt_wf1 (List.mem_cons_of_mem _ (List.mem_append_left _ (List.mem_cons_of_mem _ (List.mem_cons_of_mem _ (List.mem_cons_of_mem _ (List.mem_cons_of_mem _ (List.mem_cons_of_mem _ (List.mem_cons_of_mem _ (List.mem_cons_of_mem _ (List.mem_cons_of_mem _ (List.mem_cons_of_mem _ (List.mem_cons_of_mem _ (List.mem_cons_of_mem _ (List.Mem.head _)))))))))))))) (kt_wf1 (List.mem_cons_of_mem _ (List.mem_append_left _ (List.mem_cons_of_mem _ (List.mem_cons_of_mem _ (List.mem_cons_of_mem _ (List.mem_cons_of_mem _ (List.mem_cons_of_mem _ (List.mem_cons_of_mem _ (List.mem_cons_of_mem _ (List.mem_cons_of_mem _ (List.mem_cons_of_mem _ (List.mem_cons_of_mem _ (List.mem_cons_of_mem _ (List.mem_cons_of_mem _ (List.Mem.head _))))))))))))))) (kt_wf1 (List.mem_cons_of_mem _ (List.mem_append_left _ (List.mem_cons_of_mem _ (List.mem_cons_of_mem _ (List.mem_cons_of_mem _ (List.mem_cons_of_mem _ (List.mem_cons_of_mem _ (List.Mem.head _)))))))) (kt_wf1 (List.mem_cons_of_mem _ (List.mem_append_left _ (List.mem_cons_of_mem _ (List.mem_cons_of_mem _ (List.mem_cons_of_mem _ (List.mem_cons_of_mem _ (List.mem_cons_of_mem _ (List.mem_cons_of_mem _ (List.mem_cons_of_mem _ (List.mem_cons_of_mem _ (List.mem_cons_of_mem _ (List.mem_cons_of_mem _ (List.mem_cons_of_mem _ (List.mem_cons_of_mem _ (List.mem_cons_of_mem _ (List.Mem.head _)))))))))))))))) (kt_wf1 (List.mem_cons_of_mem _ (List.mem_append_left _ (List.mem_cons_of_mem _ (List.mem_cons_of_mem _ (List.mem_cons_of_mem _ (List.mem_cons_of_mem _ (List.mem_cons_of_mem _ (List.mem_cons_of_mem _ (List.mem_cons_of_mem _ (List.mem_cons_of_mem _ (List.mem_cons_of_mem _ (List.mem_cons_of_mem _ (List.mem_cons_of_mem _ (List.mem_cons_of_mem _ (List.mem_cons_of_mem _ (List.mem_cons_of_mem _ (List.Mem.head _))))))))))))))))) (kt_wf1 (List.mem_cons_of_mem _ (List.mem_append_left _ (List.mem_cons_of_mem _ (List.mem_cons_of_mem _ (List.mem_cons_of_mem _ (List.mem_cons_of_mem _ (List.mem_cons_of_mem _ (List.mem_cons_of_mem _ (List.mem_cons_of_mem _ (List.mem_cons_of_mem _ (List.mem_cons_of_mem _ (List.mem_cons_of_mem _ (List.mem_cons_of_mem _ (List.mem_cons_of_mem _ (List.mem_cons_of_mem _ (List.mem_cons_of_mem _ (List.mem_cons_of_mem _ (List.Mem.head _)))))))))))))))))) kt_wf0)))))))))) (fun _ h => kt_wp_X11_worth__X110 h))) kt_wg_X11_number
set_option maxRecDepth 20000 in
theorem gX11_worth_X11_number : GoodIn wsX11_worth (wsV RX11 197 RX11 yX11_number wsX11_number) := goodIn_app (a := [.methodLink RX11 197 yX11_number, .instanceMethod yX11_number, .selects RX11 yX11_number yX11_number, .initialized RX11]) (goodIn_sub (kt_wf1 (List.mem_cons_of_mem _ (List.mem_append_left _ (List.mem_cons_of_mem _ (List.mem_cons_of_mem _ (List.Mem.head _))))) (kt_wf1 (List.mem_cons_of_mem _ (List.mem_append_left _ (List.mem_cons_of_mem _ (List.mem_cons_of_mem _ (List.mem_cons_of_mem _ (List.Mem.head _)))))) (kt_wf1 (List.mem_cons_of_mem _ (List.mem_append_left _ (List.mem_cons_of_mem _ (List.mem_cons_of_mem _ (List.mem_cons_of_mem _ (List.mem_cons_of_mem _ (List.Mem.head _))))))) (kt_wf1 (List.mem_cons_of_mem _ (List.mem_append_left _ (List.mem_cons_of_mem _ (List.mem_cons_of_mem _ (List.mem_cons_of_mem _ (List.mem_cons_of_mem _ (List.mem_cons_of_mem _ (List.Mem.head _)))))))) kt_wf0)))) (by decide +kernel)) ggX11_worth_X11_number
theorem sX11_worth_0 : kt_sg cX11_worth 0 [42, 180, 0, 76, 153, 0, 15, 42, 180, 0, 57, 42, 182, 0, 197, 46, 167, 0, 4, 2, 172] = true := by decide +kernel
theorem dX11_worth_0 : decode cX11_worth 0 = .ok (.aload_n 0, 1) := kt_o42 (j := 0) sX11_worth_0 rfl
theorem dX11_worth_1 : decode cX11_worth 1 = .ok (.getfield 76, 3) := kt_o180 (j := 1) sX11_worth_0 rfl rfl
theorem dX11_worth_4 : decode cX11_worth 4 = .ok (.ifCond .eq 15, 3) := kt_o153 (j := 4) sX11_worth_0 rfl (by decide +kernel)
theorem dX11_worth_7 : decode cX11_worth 7 = .ok (.aload_n 0, 1) := kt_o42 (j := 7) sX11_worth_0 rfl
theorem dX11_worth_8 : decode cX11_worth 8 = .ok (.getfield 57, 3) := kt_o180 (j := 8) sX11_worth_0 rfl rfl
theorem dX11_worth_11 : decode cX11_worth 11 = .ok (.aload_n 0, 1) := kt_o42 (j := 11) sX11_worth_0 rfl
theorem dX11_worth_12 : decode cX11_worth 12 = .ok (.invokevirtual 197, 3) := kt_o182 (j := 12) sX11_worth_0 rfl rfl
theorem dX11_worth_15 : decode cX11_worth 15 = .ok (.iaload, 1) := kt_o46 (j := 15) sX11_worth_0 rfl
theorem dX11_worth_16 : decode cX11_worth 16 = .ok (.goto 4, 3) := kt_o167 (j := 16) sX11_worth_0 rfl (by decide +kernel)
theorem dX11_worth_19 : decode cX11_worth 19 = .ok (.iconst (-1), 1) := kt_o2 (j := 19) sX11_worth_0 rfl
theorem dX11_worth_20 : decode cX11_worth 20 = .ok (.ireturn, 1) := kt_o172 (j := 20) sX11_worth_0 rfl
theorem kt_wp_X11_deep__X110 {w : Cond} (h : w ∈ wsX110) : w ∈ wsX11_deep := List.mem_cons_of_mem _ (List.mem_append_right _ (h))
set_option maxRecDepth 20000 in
theorem ggX11_deep_X11_number : GoodIn wsX11_deep wsX11_number := goodIn_sub (kt_wf1 (List.mem_cons_of_mem _ (List.mem_append_left _ (List.mem_cons_of_mem _ (List.mem_cons_of_mem _ (List.mem_cons_of_mem _ (List.mem_cons_of_mem _ (List.mem_cons_of_mem _ (List.mem_cons_of_mem _ (List.Mem.head _))))))))) (kt_wfa (kt_wf1 (List.mem_cons_of_mem _ (List.mem_append_left _ (List.mem_cons_of_mem _ (List.mem_cons_of_mem _ (List.mem_cons_of_mem _ (List.mem_cons_of_mem _ (List.mem_cons_of_mem _ (List.mem_cons_of_mem _ (List.mem_cons_of_mem _ (List.Mem.head _)))))))))) (kt_wf1 (List.mem_cons_of_mem _ (List.mem_append_left _ (List.mem_cons_of_mem _ (List.mem_cons_of_mem _ (List.mem_cons_of_mem _ (List.mem_cons_of_mem _ (List.mem_cons_of_mem _ (List.mem_cons_of_mem _ (List.mem_cons_of_mem _ (List.mem_cons_of_mem _ (List.Mem.head _))))))))))) (kt_wf1 (List.mem_cons_of_mem _ (List.mem_append_left _ (List.mem_cons_of_mem _ (List.mem_cons_of_mem _ (List.mem_cons_of_mem _ (List.mem_cons_of_mem _ (List.mem_cons_of_mem _ (List.mem_cons_of_mem _ (List.mem_cons_of_mem _ (List.mem_cons_of_mem _ (List.mem_cons_of_mem _ (List.Mem.head _)))))))))))) (kt_wf1 (List.mem_cons_of_mem _ (List.mem_append_left _ (List.mem_cons_of_mem _ (List.mem_cons_of_mem _ (List.mem_cons_of_mem _ (List.mem_cons_of_mem _ (List.mem_cons_of_mem _ (List.mem_cons_of_mem _ (List.mem_cons_of_mem _ (List.mem_cons_of_mem _ (List.mem_cons_of_mem _ (List.mem_cons_of_mem _ (List.Mem.head _))))))))))))) (kt_wf1 (List.mem_cons_of_mem _ (List.mem_append_left _ (List.mem_cons_of_mem _ (List.mem_cons_of_mem _ (List.mem_cons_of_mem _ (List.mem_cons_of_mem _ (List.mem_cons_of_mem _ (List.mem_cons_of_mem _ (List.mem_cons_of_mem _ (List.mem_cons_of_mem _ (List.mem_cons_of_mem _ (List.mem_cons_of_mem _ (List.mem_cons_of_mem _ (List.Mem.head _)))))))))))))) (kt_wf1 (List.mem_cons_of_mem _ (List.mem_append_left _ (List.mem_cons_of_mem _ (List.mem_cons_of_mem _ (List.mem_cons_of_mem _ (List.mem_cons_of_mem _ (List.mem_cons_of_mem _ (List.mem_cons_of_mem _ (List.mem_cons_of_mem _ (List.mem_cons_of_mem _ (List.mem_cons_of_mem _ (List.mem_cons_of_mem _ (List.mem_cons_of_mem _ (List.mem_cons_of_mem _ (List.Mem.head _))))))))))))))) (kt_wf1 (List.mem_cons_of_mem _ (List.mem_append_left _ (List.mem_cons_of_mem _ (List.mem_cons_of_mem _ (List.mem_cons_of_mem _ (List.mem_cons_of_mem _ (List.mem_cons_of_mem _ (List.Mem.head _)))))))) (kt_wf1 (List.mem_cons_of_mem _ (List.mem_append_left _ (List.mem_cons_of_mem _ (List.mem_cons_of_mem _ (List.mem_cons_of_mem _ (List.mem_cons_of_mem _ (List.mem_cons_of_mem _ (List.mem_cons_of_mem _ (List.mem_cons_of_mem _ (List.mem_cons_of_mem _ (List.mem_cons_of_mem _ (List.mem_cons_of_mem _ (List.mem_cons_of_mem _ (List.mem_cons_of_mem _ (List.mem_cons_of_mem _ (List.Mem.head _)))))))))))))))) (kt_wf1 (List.mem_cons_of_mem _ (List.mem_append_left _ (List.mem_cons_of_mem _ (List.mem_cons_of_mem _ (List.mem_cons_of_mem _ (List.mem_cons_of_mem _ (List.mem_cons_of_mem _ (List.mem_cons_of_mem _ (List.mem_cons_of_mem _ (List.mem_cons_of_mem _ (List.mem_cons_of_mem _ (List.mem_cons_of_mem _ (List.mem_cons_of_mem _ (List.mem_cons_of_mem _ (List.mem_cons_of_mem _ (List.mem_cons_of_mem _ (List.Mem.head _))))))))))))))))) (kt_wf1 (List.mem_cons_of_mem _ (List.mem_append_left _ (List.mem_cons_of_mem _ (List.mem_cons_of_mem _ (List.mem_cons_of_mem _ (List.mem_cons_of_mem _ (List.mem_cons_of_mem _ (List.mem_cons_of_mem _ (List.mem_cons_of_mem _ (List.mem_cons_of_mem _ (List.mem_cons_of_mem _ (List.mem_cons_of_mem _ (List.mem_cons_of_mem _ (List.mem_cons_of_mem _ (List.mem_cons_of_mem _ (List.mem_cons_of_mem _ (List.mem_cons_of_mem _ (List.Mem.head _)))))))))))))))))) kt_wf0)))))))))) (fun _ h => kt_wp_X11_deep__X110 h))) kt_wg_X11_number
set_option maxRecDepth 20000 in
theorem gX11_deep_X11_number : GoodIn wsX11_deep (wsV RX11 197 RX11 yX11_number wsX11_number) := goodIn_app (a := [.methodLink RX11 197 yX11_number, .instanceMethod yX11_number, .selects RX11 yX11_number yX11_number, .initialized RX11]) (goodIn_sub (kt_wf1 (List.mem_cons_of_mem _ (List.mem_append_left _ (List.mem_cons_of_mem _ (List.mem_cons_of_mem _ (List.Mem.head _))))) (kt_wf1 (List.mem_cons_of_mem _ (List.mem_append_left _ (List.mem_cons_of_mem _ (List.mem_cons_of_mem _ (List.mem_cons_of_mem _ (List.Mem.head _)))))) (kt_wf1 (List.mem_cons_of_mem _ (List.mem_append_left _ (List.mem_cons_of_mem _ (List.mem_cons_of_mem _ (List.mem_cons_of_mem _ (List.mem_cons_of_mem _ (List.Mem.head _))))))) (kt_wf1 (List.mem_cons_of_mem _ (List.mem_append_left _ (List.mem_cons_of_mem _ (List.mem_cons_of_mem _ (List.mem_cons_of_mem _ (List.mem_cons_of_mem _ (List.mem_cons_of_mem _ (List.Mem.head _)))))))) kt_wf0)))) (by decide +kernel)) ggX11_deep_X11_number
theorem sX11_deep_0 : kt_sg cX11_deep 0 [42, 180, 0, 76, 153, 0, 15, 42, 180, 0, 60, 42, 182, 0, 197, 46, 167, 0, 4, 2, 172] = true := by decide +kernel
theorem dX11_deep_0 : decode cX11_deep 0 = .ok (.aload_n 0, 1) := kt_o42 (j := 0) sX11_deep_0 rfl
theorem dX11_deep_1 : decode cX11_deep 1 = .ok (.getfield 76, 3) := kt_o180 (j := 1) sX11_deep_0 rfl rfl
theorem dX11_deep_4 : decode cX11_deep 4 = .ok (.ifCond .eq 15, 3) := kt_o153 (j := 4) sX11_deep_0 rfl (by decide +kernel)
theorem dX11_deep_7 : decode cX11_deep 7 = .ok (.aload_n 0, 1) := kt_o42 (j := 7) sX11_deep_0 rfl
theorem dX11_deep_8 : decode cX11_deep 8 = .ok (.getfield 60, 3) := kt_o180 (j := 8) sX11_deep_0 rfl rfl
theorem dX11_deep_11 : decode cX11_deep 11 = .ok (.aload_n 0, 1) := kt_o42 (j := 11) sX11_deep_0 rfl
theorem dX11_deep_12 : decode cX11_deep 12 = .ok (.invokevirtual 197, 3) := kt_o182 (j := 12) sX11_deep_0 rfl rfl
theorem dX11_deep_15 : decode cX11_deep 15 = .ok (.iaload, 1) := kt_o46 (j := 15) sX11_deep_0 rfl
theorem dX11_deep_16 : decode cX11_deep 16 = .ok (.goto 4, 3) := kt_o167 (j := 16) sX11_deep_0 rfl (by decide +kernel)
theorem dX11_deep_19 : decode cX11_deep 19 = .ok (.iconst (-1), 1) := kt_o2 (j := 19) sX11_deep_0 rfl
theorem dX11_deep_20 : decode cX11_deep 20 = .ok (.ireturn, 1) := kt_o172 (j := 20) sX11_deep_0 rfl
theorem kt_wp_X11_best__X11_best_r1 {w : Cond} (h : w ∈ wsX11_best_r1) : w ∈ wsX11_best := List.mem_cons_of_mem _ (List.mem_append_left _ (List.mem_append_left _ (h)))
theorem kt_wp_X11_best__X11_best_r2 {w : Cond} (h : w ∈ wsX11_best_r2) : w ∈ wsX11_best := List.mem_cons_of_mem _ (List.mem_append_left _ (List.mem_append_right _ (List.mem_append_left _ (h))))
theorem kt_wp_X11_best__X11_best_r3 {w : Cond} (h : w ∈ wsX11_best_r3) : w ∈ wsX11_best := List.mem_cons_of_mem _ (List.mem_append_left _ (List.mem_append_right _ (List.mem_append_right _ (List.mem_append_left _ (h)))))
theorem kt_wp_X11_best__X11_best_r4 {w : Cond} (h : w ∈ wsX11_best_r4) : w ∈ wsX11_best := List.mem_cons_of_mem _ (List.mem_append_left _ (List.mem_append_right _ (List.mem_append_right _ (List.mem_append_right _ (List.mem_append_left _ (h))))))
theorem kt_wp_X11_best__X11_best_r5 {w : Cond} (h : w ∈ wsX11_best_r5) : w ∈ wsX11_best := List.mem_cons_of_mem _ (List.mem_append_left _ (List.mem_append_right _ (List.mem_append_right _ (List.mem_append_right _ (List.mem_append_right _ (h))))))
theorem kt_wp_X11_best__X110 {w : Cond} (h : w ∈ wsX110) : w ∈ wsX11_best := List.mem_cons_of_mem _ (List.mem_append_right _ (h))
set_option maxRecDepth 20000 in
theorem ggX11_best_X11_number : GoodIn wsX11_best wsX11_number := goodIn_sub (kt_wf1 (kt_wp_X11_best__X11_best_r1 kt_wm9) (kt_wfa (kt_wf1 (kt_wp_X11_best__X11_best_r1 kt_wm1) (kt_wf1 (kt_wp_X11_best__X11_best_r1 kt_wm10) (kt_wf1 (kt_wp_X11_best__X11_best_r1 kt_wm11) (kt_wf1 (kt_wp_X11_best__X11_best_r1 kt_wm12) (kt_wf1 (kt_wp_X11_best__X11_best_r1 kt_wm13) (kt_wf1 (kt_wp_X11_best__X11_best_r1 kt_wm14) (kt_wf1 (kt_wp_X11_best__X11_best_r1 kt_wm8) (kt_wf1 (kt_wp_X11_best__X11_best_r1 kt_wm15) (kt_wf1 (kt_wp_X11_best__X11_best_r1 kt_wm16) (kt_wf1 (kt_wp_X11_best__X11_best_r1 kt_wm17) kt_wf0)))))))))) (fun _ h => kt_wp_X11_best__X110 h))) kt_wg_X11_number
set_option maxRecDepth 20000 in
theorem gX11_best_X11_number : GoodIn wsX11_best (wsV RX11 197 RX11 yX11_number wsX11_number) := goodIn_app (a := [.methodLink RX11 197 yX11_number, .instanceMethod yX11_number, .selects RX11 yX11_number yX11_number, .initialized RX11]) (goodIn_sub (kt_wf1 (kt_wp_X11_best__X11_best_r1 kt_wm5) (kt_wf1 (kt_wp_X11_best__X11_best_r1 kt_wm6) (kt_wf1 (kt_wp_X11_best__X11_best_r1 kt_wm7) (kt_wf1 (kt_wp_X11_best__X11_best_r1 kt_wm8) kt_wf0)))) (by decide +kernel)) ggX11_best_X11_number
set_option maxRecDepth 20000 in
theorem ggX11_best_X11_endOf : GoodIn wsX11_best wsX11_endOf := goodIn_sub (kt_wf1 (kt_wp_X11_best__X11_best_r1 kt_wm21) (kt_wfa (kt_wfa (kt_wf1 (kt_wp_X11_best__X11_best_r1 kt_wm10) (kt_wf1 (kt_wp_X11_best__X11_best_r1 kt_wm22) (kt_wf1 (kt_wp_X11_best__X11_best_r1 kt_wm11) (kt_wf1 (kt_wp_X11_best__X11_best_r1 kt_wm23) (kt_wf1 (kt_wp_X11_best__X11_best_r2 kt_wm0) (kt_wf1 (kt_wp_X11_best__X11_best_r2 kt_wm1) (kt_wf1 (kt_wp_X11_best__X11_best_r1 kt_wm8) (kt_wf1 (kt_wp_X11_best__X11_best_r2 kt_wm2) (kt_wf1 (kt_wp_X11_best__X11_best_r2 kt_wm3) (kt_wf1 (kt_wp_X11_best__X11_best_r2 kt_wm4) (kt_wf1 (kt_wp_X11_best__X11_best_r1 kt_wm17) (kt_wf1 (kt_wp_X11_best__X11_best_r1 kt_wm12) (kt_wf1 (kt_wp_X11_best__X11_best_r1 kt_wm13) (kt_wf1 (kt_wp_X11_best__X11_best_r1 kt_wm14) (kt_wf1 (kt_wp_X11_best__X11_best_r1 kt_wm15) (kt_wf1 (kt_wp_X11_best__X11_best_r1 kt_wm16) (kt_wf1 (kt_wp_X11_best__X11_best_r2 kt_wm5) (kt_wf1 (kt_wp_X11_best__X11_best_r2 kt_wm6) (kt_wf1 (kt_wp_X11_best__X11_best_r2 kt_wm7) (kt_wf1 (kt_wp_X11_best__X11_best_r2 kt_wm8) (kt_wf1 (kt_wp_X11_best__X11_best_r1 kt_wm1) (kt_wf1 (kt_wp_X11_best__X11_best_r2 kt_wm9) (kt_wf1 (kt_wp_X11_best__X11_best_r2 kt_wm10) (kt_wf1 (kt_wp_X11_best__X11_best_r2 kt_wm11) kt_wf0)))))))))))))))))))))))) (kt_wf1 (kt_wp_X11_best__X11_best_r2 kt_wm12) (kt_wf1 (kt_wp_X11_best__X11_best_r2 kt_wm13) (kt_wf1 (kt_wp_X11_best__X11_best_r2 kt_wm14) (kt_wf1 (kt_wp_X11_best__X11_best_r2 kt_wm15) (kt_wf1 (kt_wp_X11_best__X11_best_r2 kt_wm16) (kt_wf1 (kt_wp_X11_best__X11_best_r2 kt_wm17) (kt_wf1 (kt_wp_X11_best__X11_best_r2 kt_wm18) (kt_wf1 (kt_wp_X11_best__X11_best_r2 kt_wm19) (kt_wf1 (kt_wp_X11_best__X11_best_r2 kt_wm20) (kt_wf1 (kt_wp_X11_best__X11_best_r2 kt_wm21) (kt_wf1 (kt_wp_X11_best__X11_best_r2 kt_wm22) (kt_wf1 (kt_wp_X11_best__X11_best_r2 kt_wm23) (kt_wf1 (kt_wp_X11_best__X11_best_r3 kt_wm0) (kt_wf1 (kt_wp_X11_best__X11_best_r3 kt_wm1) (kt_wf1 (kt_wp_X11_best__X11_best_r3 kt_wm2) (kt_wf1 (kt_wp_X11_best__X11_best_r3 kt_wm3) (kt_wf1 (kt_wp_X11_best__X11_best_r3 kt_wm4) (kt_wf1 (kt_wp_X11_best__X11_best_r3 kt_wm5) (kt_wf1 (kt_wp_X11_best__X11_best_r3 kt_wm6) (kt_wf1 (kt_wp_X11_best__X11_best_r3 kt_wm7) kt_wf0))))))))))))))))))))) (fun _ h => kt_wp_X11_best__X110 h))) kt_wg_X11_endOf
set_option maxRecDepth 20000 in
theorem gX11_best_X11_endOf : GoodIn wsX11_best (wsV RX11 191 RX11 yX11_endOf wsX11_endOf) := goodIn_app (a := [.methodLink RX11 191 yX11_endOf, .instanceMethod yX11_endOf, .selects RX11 yX11_endOf yX11_endOf, .initialized RX11]) (goodIn_sub (kt_wf1 (kt_wp_X11_best__X11_best_r1 kt_wm18) (kt_wf1 (kt_wp_X11_best__X11_best_r1 kt_wm19) (kt_wf1 (kt_wp_X11_best__X11_best_r1 kt_wm20) (kt_wf1 (kt_wp_X11_best__X11_best_r1 kt_wm8) kt_wf0)))) (by decide +kernel)) ggX11_best_X11_endOf
set_option maxRecDepth 20000 in
theorem kt_wg_X11_leads : wsX11_leads.all goodWord = true := by decide +kernel
set_option maxRecDepth 20000 in
theorem ggX11_best_X11_leads : GoodIn wsX11_best wsX11_leads := goodIn_sub (kt_wf1 (kt_wp_X11_best__X11_best_r3 kt_wm11) (kt_wfa (kt_wfa (kt_wf1 (kt_wp_X11_best__X11_best_r1 kt_wm10) (kt_wf1 (kt_wp_X11_best__X11_best_r1 kt_wm11) (kt_wf1 (kt_wp_X11_best__X11_best_r3 kt_wm12) (kt_wf1 (kt_wp_X11_best__X11_best_r3 kt_wm13) (kt_wf1 (kt_wp_X11_best__X11_best_r3 kt_wm14) (kt_wf1 (kt_wp_X11_best__X11_best_r1 kt_wm8) (kt_wf1 (kt_wp_X11_best__X11_best_r3 kt_wm15) (kt_wf1 (kt_wp_X11_best__X11_best_r2 kt_wm23) (kt_wf1 (kt_wp_X11_best__X11_best_r1 kt_wm1) (kt_wf1 (kt_wp_X11_best__X11_best_r1 kt_wm12) (kt_wf1 (kt_wp_X11_best__X11_best_r1 kt_wm13) (kt_wf1 (kt_wp_X11_best__X11_best_r1 kt_wm14) (kt_wf1 (kt_wp_X11_best__X11_best_r1 kt_wm15) (kt_wf1 (kt_wp_X11_best__X11_best_r1 kt_wm16) (kt_wf1 (kt_wp_X11_best__X11_best_r1 kt_wm17) (kt_wf1 (kt_wp_X11_best__X11_best_r3 kt_wm4) (kt_wf1 (kt_wp_X11_best__X11_best_r3 kt_wm5) (kt_wf1 (kt_wp_X11_best__X11_best_r3 kt_wm6) (kt_wf1 (kt_wp_X11_best__X11_best_r3 kt_wm7) (kt_wf1 (kt_wp_X11_best__X11_best_r2 kt_wm4) (kt_wf1 (kt_wp_X11_best__X11_best_r2 kt_wm13) (kt_wf1 (kt_wp_X11_best__X11_best_r2 kt_wm9) (kt_wf1 (kt_wp_X11_best__X11_best_r2 kt_wm10) (kt_wf1 (kt_wp_X11_best__X11_best_r2 kt_wm11) kt_wf0)))))))))))))))))))))))) (kt_wfa (kt_wf1 (kt_wp_X11_best__X11_best_r2 kt_wm12) (kt_wf1 (kt_wp_X11_best__X11_best_r2 kt_wm18) (kt_wf1 (kt_wp_X11_best__X11_best_r2 kt_wm19) (kt_wf1 (kt_wp_X11_best__X11_best_r2 kt_wm20) (kt_wf1 (kt_wp_X11_best__X11_best_r2 kt_wm21) (kt_wf1 (kt_wp_X11_best__X11_best_r2 kt_wm22) (kt_wf1 (kt_wp_X11_best__X11_best_r3 kt_wm0) (kt_wf1 (kt_wp_X11_best__X11_best_r3 kt_wm1) (kt_wf1 (kt_wp_X11_best__X11_best_r3 kt_wm2) (kt_wf1 (kt_wp_X11_best__X11_best_r3 kt_wm3) (kt_wf1 (kt_wp_X11_best__X11_best_r3 kt_wm16) (kt_wf1 (kt_wp_X11_best__X11_best_r3 kt_wm17) (kt_wf1 (kt_wp_X11_best__X11_best_r3 kt_wm18) (kt_wf1 (kt_wp_X11_best__X11_best_r3 kt_wm19) (kt_wf1 (kt_wp_X11_best__X11_best_r3 kt_wm20) (kt_wf1 (kt_wp_X11_best__X11_best_r3 kt_wm21) (kt_wf1 (kt_wp_X11_best__X11_best_r3 kt_wm22) (kt_wf1 (kt_wp_X11_best__X11_best_r3 kt_wm23) (kt_wf1 (kt_wp_X11_best__X11_best_r4 kt_wm0) (kt_wf1 (kt_wp_X11_best__X11_best_r4 kt_wm1) (kt_wf1 (kt_wp_X11_best__X11_best_r4 kt_wm2) (kt_wf1 (kt_wp_X11_best__X11_best_r4 kt_wm3) (kt_wf1 (kt_wp_X11_best__X11_best_r4 kt_wm4) (kt_wf1 (kt_wp_X11_best__X11_best_r4 kt_wm5) kt_wf0)))))))))))))))))))))))) (kt_wf1 (kt_wp_X11_best__X11_best_r4 kt_wm6) (kt_wf1 (kt_wp_X11_best__X11_best_r4 kt_wm7) (kt_wf1 (kt_wp_X11_best__X11_best_r4 kt_wm8) (kt_wf1 (kt_wp_X11_best__X11_best_r4 kt_wm9) (kt_wf1 (kt_wp_X11_best__X11_best_r4 kt_wm10) (kt_wf1 (kt_wp_X11_best__X11_best_r4 kt_wm11) (kt_wf1 (kt_wp_X11_best__X11_best_r1 kt_wm5) (kt_wf1 (kt_wp_X11_best__X11_best_r1 kt_wm6) (kt_wf1 (kt_wp_X11_best__X11_best_r1 kt_wm7) (kt_wf1 (kt_wp_X11_best__X11_best_r1 kt_wm9) kt_wf0)))))))))))) (fun _ h => kt_wp_X11_best__X110 h))) kt_wg_X11_leads
set_option maxRecDepth 20000 in
theorem gX11_best_X11_leads : GoodIn wsX11_best (wsV RX11 200 RX11 yX11_leads wsX11_leads) := goodIn_app (a := [.methodLink RX11 200 yX11_leads, .instanceMethod yX11_leads, .selects RX11 yX11_leads yX11_leads, .initialized RX11]) (goodIn_sub (kt_wf1 (kt_wp_X11_best__X11_best_r3 kt_wm8) (kt_wf1 (kt_wp_X11_best__X11_best_r3 kt_wm9) (kt_wf1 (kt_wp_X11_best__X11_best_r3 kt_wm10) (kt_wf1 (kt_wp_X11_best__X11_best_r1 kt_wm8) kt_wf0)))) (by decide +kernel)) ggX11_best_X11_leads
set_option maxRecDepth 20000 in
theorem ggX11_best_X11_read : GoodIn wsX11_best wsX11_read := goodIn_sub (kt_wf1 (kt_wp_X11_best__X11_best_r4 kt_wm15) (kt_wfa (kt_wf1 (kt_wp_X11_best__X11_best_r2 kt_wm23) (kt_wf1 (kt_wp_X11_best__X11_best_r1 kt_wm1) (kt_wf1 (kt_wp_X11_best__X11_best_r1 kt_wm10) (kt_wf1 (kt_wp_X11_best__X11_best_r4 kt_wm16) (kt_wf1 (kt_wp_X11_best__X11_best_r1 kt_wm11) (kt_wf1 (kt_wp_X11_best__X11_best_r4 kt_wm17) (kt_wf1 (kt_wp_X11_best__X11_best_r4 kt_wm18) (kt_wf1 (kt_wp_X11_best__X11_best_r4 kt_wm19) (kt_wf1 (kt_wp_X11_best__X11_best_r1 kt_wm8) (kt_wf1 (kt_wp_X11_best__X11_best_r4 kt_wm20) kt_wf0)))))))))) (fun _ h => kt_wp_X11_best__X110 h))) kt_wg_X11_read
set_option maxRecDepth 20000 in
theorem gX11_best_X11_read : GoodIn wsX11_best (wsV RX11 161 RX11 yX11_read wsX11_read) := goodIn_app (a := [.methodLink RX11 161 yX11_read, .instanceMethod yX11_read, .selects RX11 yX11_read yX11_read, .initialized RX11]) (goodIn_sub (kt_wf1 (kt_wp_X11_best__X11_best_r4 kt_wm12) (kt_wf1 (kt_wp_X11_best__X11_best_r4 kt_wm13) (kt_wf1 (kt_wp_X11_best__X11_best_r4 kt_wm14) (kt_wf1 (kt_wp_X11_best__X11_best_r1 kt_wm8) kt_wf0)))) (by decide +kernel)) ggX11_best_X11_read
set_option maxRecDepth 20000 in
theorem ggX11_best_X11_lookAgain : GoodIn wsX11_best wsX11_lookAgain := goodIn_sub (kt_wf1 (kt_wp_X11_best__X11_best_r5 kt_wm0) (kt_wfa (kt_wf1 (kt_wp_X11_best__X11_best_r1 kt_wm4) (kt_wf1 (kt_wp_X11_best__X11_best_r3 kt_wm21) (kt_wf1 (kt_wp_X11_best__X11_best_r1 kt_wm1) (kt_wf1 (kt_wp_X11_best__X11_best_r3 kt_wm20) (kt_wf1 (kt_wp_X11_best__X11_best_r4 kt_wm16) (kt_wf1 (kt_wp_X11_best__X11_best_r4 kt_wm17) (kt_wf1 (kt_wp_X11_best__X11_best_r4 kt_wm18) (kt_wf1 (kt_wp_X11_best__X11_best_r4 kt_wm19) (kt_wf1 (kt_wp_X11_best__X11_best_r1 kt_wm8) (kt_wf1 (kt_wp_X11_best__X11_best_r4 kt_wm20) kt_wf0)))))))))) (fun _ h => kt_wp_X11_best__X110 h))) kt_wg_X11_lookAgain
set_option maxRecDepth 20000 in
theorem gX11_best_X11_lookAgain : GoodIn wsX11_best (wsV RX11 164 RX11 yX11_lookAgain wsX11_lookAgain) := goodIn_app (a := [.methodLink RX11 164 yX11_lookAgain, .instanceMethod yX11_lookAgain, .selects RX11 yX11_lookAgain yX11_lookAgain, .initialized RX11]) (goodIn_sub (kt_wf1 (kt_wp_X11_best__X11_best_r4 kt_wm21) (kt_wf1 (kt_wp_X11_best__X11_best_r4 kt_wm22) (kt_wf1 (kt_wp_X11_best__X11_best_r4 kt_wm23) (kt_wf1 (kt_wp_X11_best__X11_best_r1 kt_wm8) kt_wf0)))) (by decide +kernel)) ggX11_best_X11_lookAgain
theorem sX11_best_0 : kt_sg cX11_best 0 [42, 180, 0, 76, 154, 0, 5, 2, 172, 42, 182, 0, 197, 60, 42, 182, 0, 191, 6, 159, 0, 7, 4, 167, 0, 4, 3, 61, 2, 62, 3, 54, 4, 27, 5, 112, 54, 5, 3, 54, 6, 21, 6, 16, 32, 42, 180, 0, 103, 104, 162, 0, 127, 28, 154, 0, 123, 42, 27, 21, 6, 182, 0, 200] = true := by decide +kernel
theorem dX11_best_0 : decode cX11_best 0 = .ok (.aload_n 0, 1) := kt_o42 (j := 0) sX11_best_0 rfl
theorem dX11_best_1 : decode cX11_best 1 = .ok (.getfield 76, 3) := kt_o180 (j := 1) sX11_best_0 rfl rfl
theorem dX11_best_4 : decode cX11_best 4 = .ok (.ifCond .ne 5, 3) := kt_o154 (j := 4) sX11_best_0 rfl (by decide +kernel)
theorem dX11_best_7 : decode cX11_best 7 = .ok (.iconst (-1), 1) := kt_o2 (j := 7) sX11_best_0 rfl
theorem dX11_best_8 : decode cX11_best 8 = .ok (.ireturn, 1) := kt_o172 (j := 8) sX11_best_0 rfl
theorem dX11_best_9 : decode cX11_best 9 = .ok (.aload_n 0, 1) := kt_o42 (j := 9) sX11_best_0 rfl
theorem dX11_best_10 : decode cX11_best 10 = .ok (.invokevirtual 197, 3) := kt_o182 (j := 10) sX11_best_0 rfl rfl
theorem dX11_best_13 : decode cX11_best 13 = .ok (.istore_n 1, 1) := kt_o60 (j := 13) sX11_best_0 rfl
theorem dX11_best_14 : decode cX11_best 14 = .ok (.aload_n 0, 1) := kt_o42 (j := 14) sX11_best_0 rfl
theorem dX11_best_15 : decode cX11_best 15 = .ok (.invokevirtual 191, 3) := kt_o182 (j := 15) sX11_best_0 rfl rfl
theorem dX11_best_18 : decode cX11_best 18 = .ok (.iconst 3, 1) := kt_o6 (j := 18) sX11_best_0 rfl
theorem dX11_best_19 : decode cX11_best 19 = .ok (.if_icmp .eq 7, 3) := kt_o159 (j := 19) sX11_best_0 rfl (by decide +kernel)
theorem dX11_best_22 : decode cX11_best 22 = .ok (.iconst 1, 1) := kt_o4 (j := 22) sX11_best_0 rfl
theorem dX11_best_23 : decode cX11_best 23 = .ok (.goto 4, 3) := kt_o167 (j := 23) sX11_best_0 rfl (by decide +kernel)
theorem dX11_best_26 : decode cX11_best 26 = .ok (.iconst 0, 1) := kt_o3 (j := 26) sX11_best_0 rfl
theorem dX11_best_27 : decode cX11_best 27 = .ok (.istore_n 2, 1) := kt_o61 (j := 27) sX11_best_0 rfl
theorem dX11_best_28 : decode cX11_best 28 = .ok (.iconst (-1), 1) := kt_o2 (j := 28) sX11_best_0 rfl
theorem dX11_best_29 : decode cX11_best 29 = .ok (.istore_n 3, 1) := kt_o62 (j := 29) sX11_best_0 rfl
