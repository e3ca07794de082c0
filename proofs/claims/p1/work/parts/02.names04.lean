theorem dX0_init_0 : decode cX0_init 0 = .ok (.aload_n 0, 1) := by decide +kernel
theorem dX0_init_1 : decode cX0_init 1 = .ok (.invokespecial 3, 3) := by decide +kernel
theorem dX0_init_4 : decode cX0_init 4 = .ok (.aload_n 0, 1) := by decide +kernel
theorem dX0_init_5 : decode cX0_init 5 = .ok (.bipush 81, 2) := by decide +kernel
theorem dX0_init_7 : decode cX0_init 7 = .ok (.newarray .int, 2) := by decide +kernel
theorem dX0_init_9 : decode cX0_init 9 = .ok (.putfield 9, 3) := by decide +kernel
theorem dX0_init_12 : decode cX0_init 12 = .ok (.aload_n 0, 1) := by decide +kernel
theorem dX0_init_13 : decode cX0_init 13 = .ok (.bipush 81, 2) := by decide +kernel
theorem dX0_init_15 : decode cX0_init 15 = .ok (.newarray .boolean, 2) := by decide +kernel
theorem dX0_init_17 : decode cX0_init 17 = .ok (.putfield 15, 3) := by decide +kernel
theorem dX0_init_20 : decode cX0_init 20 = .ok (.aload_n 0, 1) := by decide +kernel
theorem dX0_init_21 : decode cX0_init 21 = .ok (.sipush 324, 3) := by decide +kernel
theorem dX0_init_24 : decode cX0_init 24 = .ok (.newarray .int, 2) := by decide +kernel
theorem dX0_init_26 : decode cX0_init 26 = .ok (.putfield 19, 3) := by decide +kernel
theorem dX0_init_29 : decode cX0_init 29 = .ok (.return_, 1) := by decide +kernel
theorem dX1_init_0 : decode cX1_init 0 = .ok (.aload_n 0, 1) := by decide +kernel
theorem dX1_init_1 : decode cX1_init 1 = .ok (.invokespecial 1, 3) := by decide +kernel
theorem dX1_init_4 : decode cX1_init 4 = .ok (.aload_n 0, 1) := by decide +kernel
theorem dX1_init_5 : decode cX1_init 5 = .ok (.iconst 0, 1) := by decide +kernel
theorem dX1_init_6 : decode cX1_init 6 = .ok (.putfield 7, 3) := by decide +kernel
theorem dX1_init_9 : decode cX1_init 9 = .ok (.aload_n 0, 1) := by decide +kernel
theorem dX1_init_10 : decode cX1_init 10 = .ok (.iconst 4, 1) := by decide +kernel
theorem dX1_init_11 : decode cX1_init 11 = .ok (.putfield 13, 3) := by decide +kernel
theorem dX1_init_14 : decode cX1_init 14 = .ok (.aload_n 0, 1) := by decide +kernel
theorem dX1_init_15 : decode cX1_init 15 = .ok (.iconst 1, 1) := by decide +kernel
theorem dX1_init_16 : decode cX1_init 16 = .ok (.putfield 16, 3) := by decide +kernel
theorem dX1_init_19 : decode cX1_init 19 = .ok (.aload_n 0, 1) := by decide +kernel
theorem dX1_init_20 : decode cX1_init 20 = .ok (.iconst 0, 1) := by decide +kernel
theorem dX1_init_21 : decode cX1_init 21 = .ok (.putfield 20, 3) := by decide +kernel
theorem dX1_init_24 : decode cX1_init 24 = .ok (.aload_n 0, 1) := by decide +kernel
theorem dX1_init_25 : decode cX1_init 25 = .ok (.iconst 0, 1) := by decide +kernel
theorem dX1_init_26 : decode cX1_init 26 = .ok (.putfield 23, 3) := by decide +kernel
theorem dX1_init_29 : decode cX1_init 29 = .ok (.return_, 1) := by decide +kernel
theorem dX1_change_0 : decode cX1_change 0 = .ok (.iload_n 1, 1) := by decide +kernel
theorem dX1_change_1 : decode cX1_change 1 = .ok (.ifCond .eq 8, 3) := by decide +kernel
theorem dX1_change_4 : decode cX1_change 4 = .ok (.iload_n 1, 1) := by decide +kernel
theorem dX1_change_5 : decode cX1_change 5 = .ok (.iconst 1, 1) := by decide +kernel
theorem dX1_change_6 : decode cX1_change 6 = .ok (.if_icmp .ne 40, 3) := by decide +kernel
theorem dX1_change_9 : decode cX1_change 9 = .ok (.iload_n 2, 1) := by decide +kernel
theorem dX1_change_10 : decode cX1_change 10 = .ok (.iconst 2, 1) := by decide +kernel
theorem dX1_change_11 : decode cX1_change 11 = .ok (.if_icmp .eq 8, 3) := by decide +kernel
theorem dX1_change_14 : decode cX1_change 14 = .ok (.iload_n 2, 1) := by decide +kernel
theorem dX1_change_15 : decode cX1_change 15 = .ok (.iconst 4, 1) := by decide +kernel
theorem dX1_change_16 : decode cX1_change 16 = .ok (.if_icmp .ne 30, 3) := by decide +kernel
theorem dX1_change_19 : decode cX1_change 19 = .ok (.iload 4, 2) := by decide +kernel
theorem dX1_change_21 : decode cX1_change 21 = .ok (.ifCond .lt 25, 3) := by decide +kernel
theorem dX1_change_24 : decode cX1_change 24 = .ok (.iload 4, 2) := by decide +kernel
theorem dX1_change_26 : decode cX1_change 26 = .ok (.bipush 8, 2) := by decide +kernel
theorem dX1_change_28 : decode cX1_change 28 = .ok (.if_icmp .gt 18, 3) := by decide +kernel
theorem dX1_change_31 : decode cX1_change 31 = .ok (.iload 5, 2) := by decide +kernel
theorem dX1_change_33 : decode cX1_change 33 = .ok (.ifCond .eq 9, 3) := by decide +kernel
theorem dX1_change_36 : decode cX1_change 36 = .ok (.iload 5, 2) := by decide +kernel
theorem dX1_change_38 : decode cX1_change 38 = .ok (.iconst 1, 1) := by decide +kernel
theorem dX1_change_39 : decode cX1_change 39 = .ok (.if_icmp .ne 7, 3) := by decide +kernel
theorem dX1_change_42 : decode cX1_change 42 = .ok (.iconst 1, 1) := by decide +kernel
theorem dX1_change_43 : decode cX1_change 43 = .ok (.goto 4, 3) := by decide +kernel
theorem dX1_change_46 : decode cX1_change 46 = .ok (.iconst 0, 1) := by decide +kernel
theorem dX1_change_47 : decode cX1_change 47 = .ok (.istore 6, 2) := by decide +kernel
theorem dX1_change_49 : decode cX1_change 49 = .ok (.iload 6, 2) := by decide +kernel
theorem dX1_change_51 : decode cX1_change 51 = .ok (.ifCond .ne 5, 3) := by decide +kernel
theorem dX1_change_54 : decode cX1_change 54 = .ok (.iconst 0, 1) := by decide +kernel
theorem dX1_change_55 : decode cX1_change 55 = .ok (.ireturn, 1) := by decide +kernel
theorem dX1_change_56 : decode cX1_change 56 = .ok (.aload_n 0, 1) := by decide +kernel
theorem dX1_change_57 : decode cX1_change 57 = .ok (.iload_n 1, 1) := by decide +kernel
theorem dX1_change_58 : decode cX1_change 58 = .ok (.putfield 7, 3) := by decide +kernel
theorem dX1_change_61 : decode cX1_change 61 = .ok (.aload_n 0, 1) := by decide +kernel
theorem dX1_change_62 : decode cX1_change 62 = .ok (.iload_n 2, 1) := by decide +kernel
theorem dX1_change_63 : decode cX1_change 63 = .ok (.putfield 13, 3) := by decide +kernel
theorem dX1_change_66 : decode cX1_change 66 = .ok (.aload_n 0, 1) := by decide +kernel
theorem dX1_change_67 : decode cX1_change 67 = .ok (.iload_n 3, 1) := by decide +kernel
theorem dX1_change_68 : decode cX1_change 68 = .ok (.putfield 16, 3) := by decide +kernel
theorem dX1_change_71 : decode cX1_change 71 = .ok (.aload_n 0, 1) := by decide +kernel
theorem dX1_change_72 : decode cX1_change 72 = .ok (.iload 4, 2) := by decide +kernel
theorem dX1_change_74 : decode cX1_change 74 = .ok (.putfield 20, 3) := by decide +kernel
theorem dX1_change_77 : decode cX1_change 77 = .ok (.aload_n 0, 1) := by decide +kernel
theorem dX1_change_78 : decode cX1_change 78 = .ok (.iload 5, 2) := by decide +kernel
theorem dX1_change_80 : decode cX1_change 80 = .ok (.putfield 23, 3) := by decide +kernel
theorem dX1_change_83 : decode cX1_change 83 = .ok (.iconst 1, 1) := by decide +kernel
theorem dX1_change_84 : decode cX1_change 84 = .ok (.ireturn, 1) := by decide +kernel
theorem dX2_init_0 : decode cX2_init 0 = .ok (.aload_n 0, 1) := by decide +kernel
theorem dX2_init_1 : decode cX2_init 1 = .ok (.invokespecial 3, 3) := by decide +kernel
theorem dX2_init_4 : decode cX2_init 4 = .ok (.aload_n 0, 1) := by decide +kernel
theorem dX2_init_5 : decode cX2_init 5 = .ok (.iconst 0, 1) := by decide +kernel
theorem dX2_init_6 : decode cX2_init 6 = .ok (.newarray .int, 2) := by decide +kernel
theorem dX2_init_8 : decode cX2_init 8 = .ok (.putfield 9, 3) := by decide +kernel
theorem dX2_init_11 : decode cX2_init 11 = .ok (.aload_n 0, 1) := by decide +kernel
theorem dX2_init_12 : decode cX2_init 12 = .ok (.iconst 0, 1) := by decide +kernel
theorem dX2_init_13 : decode cX2_init 13 = .ok (.newarray .int, 2) := by decide +kernel
theorem dX2_init_15 : decode cX2_init 15 = .ok (.putfield 15, 3) := by decide +kernel
theorem dX2_init_18 : decode cX2_init 18 = .ok (.aload_n 0, 1) := by decide +kernel
theorem dX2_init_19 : decode cX2_init 19 = .ok (.iconst 0, 1) := by decide +kernel
theorem dX2_init_20 : decode cX2_init 20 = .ok (.newarray .int, 2) := by decide +kernel
theorem dX2_init_22 : decode cX2_init 22 = .ok (.putfield 18, 3) := by decide +kernel
theorem dX2_init_25 : decode cX2_init 25 = .ok (.return_, 1) := by decide +kernel
theorem dX3_init_0 : decode cX3_init 0 = .ok (.aload_n 0, 1) := by decide +kernel
theorem dX3_init_1 : decode cX3_init 1 = .ok (.invokespecial 3, 3) := by decide +kernel
theorem dX3_init_4 : decode cX3_init 4 = .ok (.aload_n 0, 1) := by decide +kernel
theorem dX3_init_5 : decode cX3_init 5 = .ok (.sipush 512, 3) := by decide +kernel
theorem dX3_init_8 : decode cX3_init 8 = .ok (.newarray .int, 2) := by decide +kernel
theorem dX3_init_10 : decode cX3_init 10 = .ok (.putfield 9, 3) := by decide +kernel
theorem dX3_init_13 : decode cX3_init 13 = .ok (.aload_n 0, 1) := by decide +kernel
theorem dX3_init_14 : decode cX3_init 14 = .ok (.sipush 512, 3) := by decide +kernel
theorem dX3_init_17 : decode cX3_init 17 = .ok (.newarray .int, 2) := by decide +kernel
theorem dX3_init_19 : decode cX3_init 19 = .ok (.putfield 15, 3) := by decide +kernel
theorem dX3_init_22 : decode cX3_init 22 = .ok (.aload_n 0, 1) := by decide +kernel
theorem dX3_init_23 : decode cX3_init 23 = .ok (.sipush 512, 3) := by decide +kernel
theorem dX3_init_26 : decode cX3_init 26 = .ok (.newarray .int, 2) := by decide +kernel
theorem dX3_init_28 : decode cX3_init 28 = .ok (.putfield 18, 3) := by decide +kernel
theorem dX3_init_31 : decode cX3_init 31 = .ok (.aload_n 0, 1) := by decide +kernel
theorem dX3_init_32 : decode cX3_init 32 = .ok (.sipush 512, 3) := by decide +kernel
theorem dX3_init_35 : decode cX3_init 35 = .ok (.newarray .int, 2) := by decide +kernel
theorem dX3_init_37 : decode cX3_init 37 = .ok (.putfield 21, 3) := by decide +kernel
theorem dX3_init_40 : decode cX3_init 40 = .ok (.aload_n 0, 1) := by decide +kernel
theorem dX3_init_41 : decode cX3_init 41 = .ok (.sipush 2048, 3) := by decide +kernel
theorem dX3_init_44 : decode cX3_init 44 = .ok (.newarray .int, 2) := by decide +kernel
theorem dX3_init_46 : decode cX3_init 46 = .ok (.putfield 24, 3) := by decide +kernel
theorem dX3_init_49 : decode cX3_init 49 = .ok (.aload_n 0, 1) := by decide +kernel
theorem dX3_init_50 : decode cX3_init 50 = .ok (.sipush 2048, 3) := by decide +kernel
theorem dX3_init_53 : decode cX3_init 53 = .ok (.newarray .int, 2) := by decide +kernel
theorem dX3_init_55 : decode cX3_init 55 = .ok (.putfield 27, 3) := by decide +kernel
theorem dX3_init_58 : decode cX3_init 58 = .ok (.aload_n 0, 1) := by decide +kernel
theorem dX3_init_59 : decode cX3_init 59 = .ok (.bipush 40, 2) := by decide +kernel
theorem dX3_init_61 : decode cX3_init 61 = .ok (.newarray .int, 2) := by decide +kernel
theorem dX3_init_63 : decode cX3_init 63 = .ok (.putfield 30, 3) := by decide +kernel
theorem dX3_init_66 : decode cX3_init 66 = .ok (.return_, 1) := by decide +kernel
theorem dX3_clear_0 : decode cX3_clear 0 = .ok (.aload_n 0, 1) := by decide +kernel
theorem dX3_clear_1 : decode cX3_clear 1 = .ok (.iconst 0, 1) := by decide +kernel
theorem dX3_clear_2 : decode cX3_clear 2 = .ok (.putfield 33, 3) := by decide +kernel
theorem dX3_clear_5 : decode cX3_clear 5 = .ok (.aload_n 0, 1) := by decide +kernel
theorem dX3_clear_6 : decode cX3_clear 6 = .ok (.iconst 0, 1) := by decide +kernel
theorem dX3_clear_7 : decode cX3_clear 7 = .ok (.putfield 37, 3) := by decide +kernel
theorem dX3_clear_10 : decode cX3_clear 10 = .ok (.return_, 1) := by decide +kernel
theorem dX3_latestTakings_0 : decode cX3_latestTakings 0 = .ok (.aload_n 0, 1) := by decide +kernel
theorem dX3_latestTakings_1 : decode cX3_latestTakings 1 = .ok (.getfield 33, 3) := by decide +kernel
theorem dX3_latestTakings_4 : decode cX3_latestTakings 4 = .ok (.ifCond .le 17, 3) := by decide +kernel
theorem dX3_latestTakings_21 : decode cX3_latestTakings 21 = .ok (.iconst (-1), 1) := by decide +kernel
theorem dX3_latestTakings_22 : decode cX3_latestTakings 22 = .ok (.ireturn, 1) := by decide +kernel
theorem dX3_latestVictim_0 : decode cX3_latestVictim 0 = .ok (.aload_n 0, 1) := by decide +kernel
theorem dX3_latestVictim_1 : decode cX3_latestVictim 1 = .ok (.getfield 33, 3) := by decide +kernel
theorem dX3_latestVictim_4 : decode cX3_latestVictim 4 = .ok (.ifCond .le 26, 3) := by decide +kernel
theorem dX3_latestVictim_30 : decode cX3_latestVictim 30 = .ok (.iconst 0, 1) := by decide +kernel
theorem dX3_latestVictim_31 : decode cX3_latestVictim 31 = .ok (.istore_n 2, 1) := by decide +kernel
theorem dX3_latestVictim_32 : decode cX3_latestVictim 32 = .ok (.iload_n 2, 1) := by decide +kernel
theorem dX3_latestVictim_33 : decode cX3_latestVictim 33 = .ok (.ifCond .eq 21, 3) := by decide +kernel
theorem dX3_latestVictim_54 : decode cX3_latestVictim 54 = .ok (.iconst (-1), 1) := by decide +kernel
theorem dX3_latestVictim_55 : decode cX3_latestVictim 55 = .ok (.ireturn, 1) := by decide +kernel
set_option maxRecDepth 20000 in
theorem ggX4_init_X8_init : GoodIn wsX4_init wsX8_init := goodIn_r _ [17, 18, 2, 3, 19, 20, 21, 22, 23, 24, 6, 25, 26, 27, 28, 29, 30, 41, 42, 43] (by decide +kernel) (by decide +kernel)
set_option maxRecDepth 20000 in
theorem gX4_init_X8_init : GoodIn wsX4_init (wsX8_init) := ggX4_init_X8_init
set_option maxRecDepth 20000 in
theorem ggX4_init_X3_init : GoodIn wsX4_init wsX3_init := goodIn_r _ [32, 33, 2, 3, 19, 34, 35, 36, 37, 38, 39, 40, 49, 50, 51, 52, 53, 54, 55, 56, 57] (by decide +kernel) (by decide +kernel)
set_option maxRecDepth 20000 in
theorem gX4_init_X3_init_n20 : GoodIn wsX4_init (wsX3_init) := ggX4_init_X3_init
theorem dX4_init_0 : decode cX4_init 0 = .ok (.aload_n 0, 1) := by decide +kernel
theorem dX4_init_1 : decode cX4_init 1 = .ok (.invokespecial 3, 3) := by decide +kernel
theorem dX4_init_4 : decode cX4_init 4 = .ok (.aload_n 0, 1) := by decide +kernel
theorem dX4_init_5 : decode cX4_init 5 = .ok (.new 9, 3) := by decide +kernel
theorem dX4_init_8 : decode cX4_init 8 = .ok (.dup, 1) := by decide +kernel
theorem dX4_init_9 : decode cX4_init 9 = .ok (.invokespecial 11, 3) := by decide +kernel
theorem dX4_init_12 : decode cX4_init 12 = .ok (.putfield 12, 3) := by decide +kernel
theorem dX4_init_15 : decode cX4_init 15 = .ok (.aload_n 0, 1) := by decide +kernel
theorem dX4_init_16 : decode cX4_init 16 = .ok (.new 18, 3) := by decide +kernel
theorem dX4_init_19 : decode cX4_init 19 = .ok (.dup, 1) := by decide +kernel
theorem dX4_init_20 : decode cX4_init 20 = .ok (.invokespecial 20, 3) := by decide +kernel
theorem dX4_init_23 : decode cX4_init 23 = .ok (.putfield 21, 3) := by decide +kernel
theorem dX4_init_26 : decode cX4_init 26 = .ok (.aload_n 0, 1) := by decide +kernel
theorem dX4_init_27 : decode cX4_init 27 = .ok (.iconst 0, 1) := by decide +kernel
theorem dX4_init_28 : decode cX4_init 28 = .ok (.putfield 25, 3) := by decide +kernel
theorem dX4_init_31 : decode cX4_init 31 = .ok (.aload_n 0, 1) := by decide +kernel
theorem dX4_init_32 : decode cX4_init 32 = .ok (.aload_n 1, 1) := by decide +kernel
theorem dX4_init_33 : decode cX4_init 33 = .ok (.putfield 29, 3) := by decide +kernel
theorem dX4_init_36 : decode cX4_init 36 = .ok (.aload_n 0, 1) := by decide +kernel
theorem dX4_init_37 : decode cX4_init 37 = .ok (.aload_n 2, 1) := by decide +kernel
theorem dX4_init_38 : decode cX4_init 38 = .ok (.putfield 33, 3) := by decide +kernel
theorem dX4_init_41 : decode cX4_init 41 = .ok (.return_, 1) := by decide +kernel
theorem dX4_isThere_0 : decode cX4_isThere 0 = .ok (.aload_n 0, 1) := by decide +kernel
theorem dX4_isThere_1 : decode cX4_isThere 1 = .ok (.getfield 25, 3) := by decide +kernel
theorem dX4_isThere_4 : decode cX4_isThere 4 = .ok (.ifCond .eq 7, 3) := by decide +kernel
theorem dX4_isThere_11 : decode cX4_isThere 11 = .ok (.iconst 0, 1) := by decide +kernel
theorem dX4_isThere_12 : decode cX4_isThere 12 = .ok (.ireturn, 1) := by decide +kernel
set_option maxRecDepth 20000 in
theorem ggX4_finish_X6_dismiss : GoodIn wsX4_finish wsX6_dismiss := goodIn_r _ [9, 10, 11, 36, 37, 38, 39, 40, 41, 42, 43, 44] (by decide +kernel) (by decide +kernel)
set_option maxRecDepth 20000 in
theorem gX4_finish_X6_dismiss : GoodIn wsX4_finish (wsV RX4 89 RX6 yX6_dismiss wsX6_dismiss) := goodIn_app (goodIn_of _ (by decide +kernel)) ggX4_finish_X6_dismiss
set_option maxRecDepth 20000 in
theorem ggX4_finish_X8_clear : GoodIn wsX4_finish wsX8_clear := goodIn_r _ [16, 17, 18, 19, 20, 21, 22, 23, 45, 46, 47] (by decide +kernel) (by decide +kernel)
set_option maxRecDepth 20000 in
theorem gX4_finish_X8_clear : GoodIn wsX4_finish (wsV RX4 92 RX8 yX8_clear wsX8_clear) := goodIn_app (goodIn_of _ (by decide +kernel)) ggX4_finish_X8_clear
set_option maxRecDepth 20000 in
theorem ggX4_finish_X3_clear : GoodIn wsX4_finish wsX3_clear := goodIn_r _ [28, 29, 30, 48, 49, 50, 51, 52, 53, 54, 55, 56] (by decide +kernel) (by decide +kernel)
set_option maxRecDepth 20000 in
theorem gX4_finish_X3_clear : GoodIn wsX4_finish (wsV RX4 95 RX3 yX3_clear wsX3_clear) := goodIn_app (goodIn_of _ (by decide +kernel)) ggX4_finish_X3_clear
theorem dX4_finish_0 : decode cX4_finish 0 = .ok (.aload_n 0, 1) := by decide +kernel
theorem dX4_finish_1 : decode cX4_finish 1 = .ok (.iconst 0, 1) := by decide +kernel
theorem dX4_finish_2 : decode cX4_finish 2 = .ok (.putfield 25, 3) := by decide +kernel
theorem dX4_finish_5 : decode cX4_finish 5 = .ok (.aload_n 0, 1) := by decide +kernel
theorem dX4_finish_6 : decode cX4_finish 6 = .ok (.getfield 33, 3) := by decide +kernel
theorem dX4_finish_9 : decode cX4_finish 9 = .ok (.invokevirtual 89, 3) := by decide +kernel
theorem dX4_finish_12 : decode cX4_finish 12 = .ok (.aload_n 0, 1) := by decide +kernel
theorem dX4_finish_13 : decode cX4_finish 13 = .ok (.getfield 12, 3) := by decide +kernel
theorem dX4_finish_16 : decode cX4_finish 16 = .ok (.invokevirtual 92, 3) := by decide +kernel
theorem dX4_finish_19 : decode cX4_finish 19 = .ok (.aload_n 0, 1) := by decide +kernel
theorem dX4_finish_20 : decode cX4_finish 20 = .ok (.getfield 21, 3) := by decide +kernel
theorem dX4_finish_23 : decode cX4_finish 23 = .ok (.invokevirtual 95, 3) := by decide +kernel
theorem dX4_finish_26 : decode cX4_finish 26 = .ok (.return_, 1) := by decide +kernel
theorem dX4_sideOnTurn_0 : decode cX4_sideOnTurn 0 = .ok (.aload_n 0, 1) := by decide +kernel
theorem dX4_sideOnTurn_1 : decode cX4_sideOnTurn 1 = .ok (.getfield 25, 3) := by decide +kernel
theorem dX4_sideOnTurn_4 : decode cX4_sideOnTurn 4 = .ok (.iconst 1, 1) := by decide +kernel
theorem dX4_sideOnTurn_5 : decode cX4_sideOnTurn 5 = .ok (.if_icmp .ne 13, 3) := by decide +kernel
theorem dX4_sideOnTurn_18 : decode cX4_sideOnTurn 18 = .ok (.iconst (-1), 1) := by decide +kernel
theorem dX4_sideOnTurn_19 : decode cX4_sideOnTurn 19 = .ok (.ireturn, 1) := by decide +kernel
theorem dX4_lost_0 : decode cX4_lost 0 = .ok (.iconst 0, 1) := by decide +kernel
theorem dX4_lost_1 : decode cX4_lost 1 = .ok (.istore_n 1, 1) := by decide +kernel
theorem dX4_lost_2 : decode cX4_lost 2 = .ok (.iconst 0, 1) := by decide +kernel
theorem dX4_lost_3 : decode cX4_lost 3 = .ok (.istore_n 2, 1) := by decide +kernel
theorem dX4_lost_4 : decode cX4_lost 4 = .ok (.iload_n 2, 1) := by decide +kernel
theorem dX4_lost_5 : decode cX4_lost 5 = .ok (.aload_n 0, 1) := by decide +kernel
theorem dX4_lost_6 : decode cX4_lost 6 = .ok (.getfield 33, 3) := by decide +kernel
theorem dX4_lost_9 : decode cX4_lost 9 = .ok (.getfield 71, 3) := by decide +kernel
theorem dX4_lost_12 : decode cX4_lost 12 = .ok (.if_icmp .ge 29, 3) := by decide +kernel
theorem dX4_lost_41 : decode cX4_lost 41 = .ok (.iload_n 1, 1) := by decide +kernel
theorem dX4_lost_42 : decode cX4_lost 42 = .ok (.ireturn, 1) := by decide +kernel
theorem dX4_reason_0 : decode cX4_reason 0 = .ok (.aload_n 0, 1) := by decide +kernel
theorem dX4_reason_1 : decode cX4_reason 1 = .ok (.getfield 25, 3) := by decide +kernel
theorem dX4_reason_4 : decode cX4_reason 4 = .ok (.iconst 1, 1) := by decide +kernel
theorem dX4_reason_5 : decode cX4_reason 5 = .ok (.if_icmp .eq 5, 3) := by decide +kernel
theorem dX4_reason_8 : decode cX4_reason 8 = .ok (.iconst 1, 1) := by decide +kernel
theorem dX4_reason_9 : decode cX4_reason 9 = .ok (.ireturn, 1) := by decide +kernel
set_option maxRecDepth 20000 in
theorem ggX4_tryMove_X4_reason : GoodIn wsX4_tryMove wsX4_reason := goodIn_r _ [8, 9, 2, 3, 10, 11, 12, 13, 14, 15, 16, 17, 18, 19, 20, 21, 22, 23, 24, 25, 26, 27, 28, 29, 30, 31, 32, 33, 34, 35, 36, 37, 38, 39, 40, 41, 42, 7, 43, 44, 45, 46, 47, 48, 49, 50, 51, 52, 53, 54, 55, 56, 57, 58, 1, 59, 60, 61, 62, 63, 64, 65, 66, 67, 68, 69, 70, 71, 72, 73, 74, 75, 76, 77, 78, 79, 80, 81, 82, 83, 84, 85, 86, 87, 88, 89, 90, 91, 92, 93, 94, 95, 96, 97, 98, 99, 100, 101, 102, 150, 151, 152, 153, 154, 164, 165, 166, 167, 168, 169, 170, 171, 172, 173, 174, 175, 176, 177, 178, 179, 180, 181, 182, 183, 184, 185, 155, 156, 157, 158, 159, 160, 161, 162, 163] (by decide +kernel) (by decide +kernel)
set_option maxRecDepth 20000 in
theorem gX4_tryMove_X4_reason : GoodIn wsX4_tryMove (wsV RX4 152 RX4 yX4_reason wsX4_reason) := goodIn_app (goodIn_of _ (by decide +kernel)) ggX4_tryMove_X4_reason
theorem dX4_tryMove_0 : decode cX4_tryMove 0 = .ok (.aload_n 0, 1) := by decide +kernel
theorem dX4_tryMove_1 : decode cX4_tryMove 1 = .ok (.iload_n 1, 1) := by decide +kernel
theorem dX4_tryMove_2 : decode cX4_tryMove 2 = .ok (.iload_n 2, 1) := by decide +kernel
theorem dX4_tryMove_3 : decode cX4_tryMove 3 = .ok (.iload_n 3, 1) := by decide +kernel
theorem dX4_tryMove_4 : decode cX4_tryMove 4 = .ok (.invokevirtual 152, 3) := by decide +kernel
theorem dX4_tryMove_7 : decode cX4_tryMove 7 = .ok (.ifCond .ne 13, 3) := by decide +kernel
theorem dX4_tryMove_20 : decode cX4_tryMove 20 = .ok (.iconst (-1), 1) := by decide +kernel
theorem dX4_tryMove_21 : decode cX4_tryMove 21 = .ok (.ireturn, 1) := by decide +kernel
theorem dX4_takeBack_0 : decode cX4_takeBack 0 = .ok (.aload_n 0, 1) := by decide +kernel
theorem dX4_takeBack_1 : decode cX4_takeBack 1 = .ok (.getfield 21, 3) := by decide +kernel
theorem dX4_takeBack_4 : decode cX4_takeBack 4 = .ok (.getfield 159, 3) := by decide +kernel
theorem dX4_takeBack_7 : decode cX4_takeBack 7 = .ok (.ifCond .ne 5, 3) := by decide +kernel
theorem dX4_takeBack_10 : decode cX4_takeBack 10 = .ok (.iconst 0, 1) := by decide +kernel
theorem dX4_takeBack_11 : decode cX4_takeBack 11 = .ok (.ireturn, 1) := by decide +kernel
theorem dX4_redo_0 : decode cX4_redo 0 = .ok (.aload_n 0, 1) := by decide +kernel
theorem dX4_redo_1 : decode cX4_redo 1 = .ok (.getfield 21, 3) := by decide +kernel
theorem dX4_redo_4 : decode cX4_redo 4 = .ok (.getfield 159, 3) := by decide +kernel
theorem dX4_redo_7 : decode cX4_redo 7 = .ok (.aload_n 0, 1) := by decide +kernel
theorem dX4_redo_8 : decode cX4_redo 8 = .ok (.getfield 21, 3) := by decide +kernel
theorem dX4_redo_11 : decode cX4_redo 11 = .ok (.getfield 162, 3) := by decide +kernel
theorem dX4_redo_14 : decode cX4_redo 14 = .ok (.if_icmp .ge 13, 3) := by decide +kernel
theorem dX4_redo_27 : decode cX4_redo 27 = .ok (.iconst 0, 1) := by decide +kernel
theorem dX4_redo_28 : decode cX4_redo 28 = .ok (.ireturn, 1) := by decide +kernel
theorem dX5_init_0 : decode cX5_init 0 = .ok (.aload_n 0, 1) := by decide +kernel
theorem dX5_init_1 : decode cX5_init 1 = .ok (.invokespecial 3, 3) := by decide +kernel
theorem dX5_init_4 : decode cX5_init 4 = .ok (.aload_n 0, 1) := by decide +kernel
theorem dX5_init_5 : decode cX5_init 5 = .ok (.bipush 81, 2) := by decide +kernel
theorem dX5_init_7 : decode cX5_init 7 = .ok (.newarray .int, 2) := by decide +kernel
theorem dX5_init_9 : decode cX5_init 9 = .ok (.putfield 9, 3) := by decide +kernel
theorem dX5_init_12 : decode cX5_init 12 = .ok (.aload_n 0, 1) := by decide +kernel
theorem dX5_init_13 : decode cX5_init 13 = .ok (.bipush 81, 2) := by decide +kernel
theorem dX5_init_15 : decode cX5_init 15 = .ok (.newarray .boolean, 2) := by decide +kernel
theorem dX5_init_17 : decode cX5_init 17 = .ok (.putfield 15, 3) := by decide +kernel
theorem dX5_init_20 : decode cX5_init 20 = .ok (.aload_n 0, 1) := by decide +kernel
theorem dX5_init_21 : decode cX5_init 21 = .ok (.aload_n 1, 1) := by decide +kernel
theorem dX5_init_22 : decode cX5_init 22 = .ok (.putfield 19, 3) := by decide +kernel
theorem dX5_init_25 : decode cX5_init 25 = .ok (.return_, 1) := by decide +kernel
set_option maxRecDepth 20000 in
theorem ggX5_holds_X8_fieldOf : GoodIn wsX5_holds wsX8_fieldOf := goodIn_r _ [8, 9, 50, 51, 52] (by decide +kernel) (by decide +kernel)
set_option maxRecDepth 20000 in
theorem gX5_holds_X8_fieldOf : GoodIn wsX5_holds (wsV RX5 29 RX8 yX8_fieldOf wsX8_fieldOf) := goodIn_app (goodIn_of _ (by decide +kernel)) ggX5_holds_X8_fieldOf
theorem dX5_holds_0 : decode cX5_holds 0 = .ok (.aload_n 1, 1) := by decide +kernel
theorem dX5_holds_1 : decode cX5_holds 1 = .ok (.aload_n 0, 1) := by decide +kernel
theorem dX5_holds_2 : decode cX5_holds 2 = .ok (.getfield 19, 3) := by decide +kernel
theorem dX5_holds_5 : decode cX5_holds 5 = .ok (.getfield 23, 3) := by decide +kernel
theorem dX5_holds_8 : decode cX5_holds 8 = .ok (.invokevirtual 29, 3) := by decide +kernel
theorem dX5_holds_11 : decode cX5_holds 11 = .ok (.istore_n 3, 1) := by decide +kernel
theorem dX5_holds_12 : decode cX5_holds 12 = .ok (.iload_n 3, 1) := by decide +kernel
theorem dX5_holds_13 : decode cX5_holds 13 = .ok (.ifCond .lt 20, 3) := by decide +kernel
theorem dX5_holds_33 : decode cX5_holds 33 = .ok (.iconst 0, 1) := by decide +kernel
theorem dX5_holds_34 : decode cX5_holds 34 = .ok (.ireturn, 1) := by decide +kernel
set_option maxRecDepth 20000 in
theorem ggX6_init_X0_init : GoodIn wsX6_init wsX0_init := goodIn_r _ [17, 18, 2, 3, 8, 19, 11, 20, 21, 22, 23, 24, 25, 26] (by decide +kernel) (by decide +kernel)
set_option maxRecDepth 20000 in
theorem gX6_init_X0_init_n11 : GoodIn wsX6_init (wsX0_init) := ggX6_init_X0_init
theorem dX6_init_0 : decode cX6_init 0 = .ok (.aload_n 0, 1) := by decide +kernel
theorem dX6_init_1 : decode cX6_init 1 = .ok (.invokespecial 3, 3) := by decide +kernel
theorem dX6_init_4 : decode cX6_init 4 = .ok (.aload_n 0, 1) := by decide +kernel
theorem dX6_init_5 : decode cX6_init 5 = .ok (.new 9, 3) := by decide +kernel
theorem dX6_init_8 : decode cX6_init 8 = .ok (.dup, 1) := by decide +kernel
theorem dX6_init_9 : decode cX6_init 9 = .ok (.invokespecial 11, 3) := by decide +kernel
theorem dX6_init_12 : decode cX6_init 12 = .ok (.putfield 12, 3) := by decide +kernel
theorem dX6_init_15 : decode cX6_init 15 = .ok (.aload_n 0, 1) := by decide +kernel
theorem dX6_init_16 : decode cX6_init 16 = .ok (.bipush 40, 2) := by decide +kernel
theorem dX6_init_18 : decode cX6_init 18 = .ok (.newarray .int, 2) := by decide +kernel
theorem dX6_init_20 : decode cX6_init 20 = .ok (.putfield 18, 3) := by decide +kernel
theorem dX6_init_23 : decode cX6_init 23 = .ok (.aload_n 0, 1) := by decide +kernel
theorem dX6_init_24 : decode cX6_init 24 = .ok (.bipush 40, 2) := by decide +kernel
theorem dX6_init_26 : decode cX6_init 26 = .ok (.newarray .int, 2) := by decide +kernel
theorem dX6_init_28 : decode cX6_init 28 = .ok (.putfield 22, 3) := by decide +kernel
theorem dX6_init_31 : decode cX6_init 31 = .ok (.aload_n 0, 1) := by decide +kernel
theorem dX6_init_32 : decode cX6_init 32 = .ok (.bipush 40, 2) := by decide +kernel
theorem dX6_init_34 : decode cX6_init 34 = .ok (.newarray .boolean, 2) := by decide +kernel
theorem dX6_init_36 : decode cX6_init 36 = .ok (.putfield 25, 3) := by decide +kernel
theorem dX6_init_39 : decode cX6_init 39 = .ok (.aload_n 0, 1) := by decide +kernel
theorem dX6_init_40 : decode cX6_init 40 = .ok (.iconst (-1), 1) := by decide +kernel
theorem dX6_init_41 : decode cX6_init 41 = .ok (.putfield 29, 3) := by decide +kernel
theorem dX6_init_44 : decode cX6_init 44 = .ok (.aload_n 0, 1) := by decide +kernel
theorem dX6_init_45 : decode cX6_init 45 = .ok (.iconst 4, 1) := by decide +kernel
theorem dX6_init_46 : decode cX6_init 46 = .ok (.newarray .int, 2) := by decide +kernel
theorem dX6_init_48 : decode cX6_init 48 = .ok (.putfield 33, 3) := by decide +kernel
theorem dX6_init_51 : decode cX6_init 51 = .ok (.aload_n 0, 1) := by decide +kernel
theorem dX6_init_52 : decode cX6_init 52 = .ok (.aload_n 1, 1) := by decide +kernel
theorem dX6_init_53 : decode cX6_init 53 = .ok (.putfield 36, 3) := by decide +kernel
theorem dX6_init_56 : decode cX6_init 56 = .ok (.return_, 1) := by decide +kernel
theorem dX6_dismiss_0 : decode cX6_dismiss 0 = .ok (.aload_n 0, 1) := by decide +kernel
theorem dX6_dismiss_1 : decode cX6_dismiss 1 = .ok (.iconst 0, 1) := by decide +kernel
theorem dX6_dismiss_2 : decode cX6_dismiss 2 = .ok (.putfield 40, 3) := by decide +kernel
theorem dX6_dismiss_5 : decode cX6_dismiss 5 = .ok (.aload_n 0, 1) := by decide +kernel
theorem dX6_dismiss_6 : decode cX6_dismiss 6 = .ok (.iconst (-1), 1) := by decide +kernel
theorem dX6_dismiss_7 : decode cX6_dismiss 7 = .ok (.putfield 29, 3) := by decide +kernel
theorem dX6_dismiss_10 : decode cX6_dismiss 10 = .ok (.return_, 1) := by decide +kernel
theorem dX6_isPiece_0 : decode cX6_isPiece 0 = .ok (.iload_n 1, 1) := by decide +kernel
theorem dX6_isPiece_1 : decode cX6_isPiece 1 = .ok (.ifCond .lt 15, 3) := by decide +kernel
theorem dX6_isPiece_4 : decode cX6_isPiece 4 = .ok (.iload_n 1, 1) := by decide +kernel
theorem dX6_isPiece_5 : decode cX6_isPiece 5 = .ok (.aload_n 0, 1) := by decide +kernel
theorem dX6_isPiece_6 : decode cX6_isPiece 6 = .ok (.getfield 40, 3) := by decide +kernel
theorem dX6_isPiece_9 : decode cX6_isPiece 9 = .ok (.if_icmp .ge 7, 3) := by decide +kernel
theorem dX6_isPiece_16 : decode cX6_isPiece 16 = .ok (.iconst 0, 1) := by decide +kernel
theorem dX6_isPiece_17 : decode cX6_isPiece 17 = .ok (.ireturn, 1) := by decide +kernel
set_option maxRecDepth 20000 in
theorem ggX7_init_X8_init : GoodIn wsX7_init wsX8_init := goodIn_r _ [24, 25, 2, 3, 12, 26, 27, 28, 29, 30, 6, 31, 32, 33, 34, 35, 36, 43, 44, 45] (by decide +kernel) (by decide +kernel)
set_option maxRecDepth 20000 in
theorem gX7_init_X8_init : GoodIn wsX7_init (wsX8_init) := ggX7_init_X8_init
set_option maxRecDepth 20000 in
theorem ggX7_init_X2_init : GoodIn wsX7_init wsX2_init := goodIn_r _ [38, 39, 2, 3, 12, 40, 41, 42, 61, 62, 63, 64] (by decide +kernel) (by decide +kernel)
set_option maxRecDepth 20000 in
theorem gX7_init_X2_init_n20 : GoodIn wsX7_init (wsX2_init) := ggX7_init_X2_init
theorem dX7_init_0 : decode cX7_init 0 = .ok (.aload_n 0, 1) := by decide +kernel
theorem dX7_init_1 : decode cX7_init 1 = .ok (.invokespecial 3, 3) := by decide +kernel
theorem dX7_init_4 : decode cX7_init 4 = .ok (.aload_n 0, 1) := by decide +kernel
theorem dX7_init_5 : decode cX7_init 5 = .ok (.new 9, 3) := by decide +kernel
theorem dX7_init_8 : decode cX7_init 8 = .ok (.dup, 1) := by decide +kernel
theorem dX7_init_9 : decode cX7_init 9 = .ok (.invokespecial 11, 3) := by decide +kernel
theorem dX7_init_12 : decode cX7_init 12 = .ok (.putfield 12, 3) := by decide +kernel
theorem dX7_init_15 : decode cX7_init 15 = .ok (.aload_n 0, 1) := by decide +kernel
theorem dX7_init_16 : decode cX7_init 16 = .ok (.new 18, 3) := by decide +kernel
theorem dX7_init_19 : decode cX7_init 19 = .ok (.dup, 1) := by decide +kernel
theorem dX7_init_20 : decode cX7_init 20 = .ok (.invokespecial 20, 3) := by decide +kernel
theorem dX7_init_23 : decode cX7_init 23 = .ok (.putfield 21, 3) := by decide +kernel
theorem dX7_init_26 : decode cX7_init 26 = .ok (.aload_n 0, 1) := by decide +kernel
theorem dX7_init_27 : decode cX7_init 27 = .ok (.bipush 40, 2) := by decide +kernel
theorem dX7_init_29 : decode cX7_init 29 = .ok (.newarray .int, 2) := by decide +kernel
theorem dX7_init_31 : decode cX7_init 31 = .ok (.putfield 25, 3) := by decide +kernel
theorem dX7_init_34 : decode cX7_init 34 = .ok (.aload_n 0, 1) := by decide +kernel
theorem dX7_init_35 : decode cX7_init 35 = .ok (.bipush 40, 2) := by decide +kernel
theorem dX7_init_37 : decode cX7_init 37 = .ok (.newarray .int, 2) := by decide +kernel
theorem dX7_init_39 : decode cX7_init 39 = .ok (.putfield 29, 3) := by decide +kernel
theorem dX7_init_42 : decode cX7_init 42 = .ok (.aload_n 0, 1) := by decide +kernel
theorem dX7_init_43 : decode cX7_init 43 = .ok (.bipush 6, 2) := by decide +kernel
theorem dX7_init_45 : decode cX7_init 45 = .ok (.newarray .int, 2) := by decide +kernel
theorem dX7_init_47 : decode cX7_init 47 = .ok (.putfield 32, 3) := by decide +kernel
theorem dX7_init_50 : decode cX7_init 50 = .ok (.aload_n 0, 1) := by decide +kernel
theorem dX7_init_51 : decode cX7_init 51 = .ok (.iconst 2, 1) := by decide +kernel
theorem dX7_init_52 : decode cX7_init 52 = .ok (.newarray .int, 2) := by decide +kernel
theorem dX7_init_54 : decode cX7_init 54 = .ok (.putfield 35, 3) := by decide +kernel
theorem dX7_init_57 : decode cX7_init 57 = .ok (.aload_n 0, 1) := by decide +kernel
theorem dX7_init_58 : decode cX7_init 58 = .ok (.iconst 0, 1) := by decide +kernel
theorem dX7_init_59 : decode cX7_init 59 = .ok (.newarray .int, 2) := by decide +kernel
theorem dX7_init_61 : decode cX7_init 61 = .ok (.putfield 38, 3) := by decide +kernel
theorem dX7_init_64 : decode cX7_init 64 = .ok (.aload_n 0, 1) := by decide +kernel
theorem dX7_init_65 : decode cX7_init 65 = .ok (.iconst 0, 1) := by decide +kernel
theorem dX7_init_66 : decode cX7_init 66 = .ok (.newarray .int, 2) := by decide +kernel
theorem dX7_init_68 : decode cX7_init 68 = .ok (.putfield 41, 3) := by decide +kernel
theorem dX7_init_71 : decode cX7_init 71 = .ok (.aload_n 0, 1) := by decide +kernel
theorem dX7_init_72 : decode cX7_init 72 = .ok (.iconst 0, 1) := by decide +kernel
theorem dX7_init_73 : decode cX7_init 73 = .ok (.newarray .int, 2) := by decide +kernel
theorem dX7_init_75 : decode cX7_init 75 = .ok (.putfield 44, 3) := by decide +kernel
theorem dX7_init_78 : decode cX7_init 78 = .ok (.aload_n 0, 1) := by decide +kernel
theorem dX7_init_79 : decode cX7_init 79 = .ok (.iconst 0, 1) := by decide +kernel
theorem dX7_init_80 : decode cX7_init 80 = .ok (.newarray .int, 2) := by decide +kernel
theorem dX7_init_82 : decode cX7_init 82 = .ok (.putfield 47, 3) := by decide +kernel
theorem dX7_init_85 : decode cX7_init 85 = .ok (.aload_n 0, 1) := by decide +kernel
theorem dX7_init_86 : decode cX7_init 86 = .ok (.aload_n 1, 1) := by decide +kernel
theorem dX7_init_87 : decode cX7_init 87 = .ok (.putfield 50, 3) := by decide +kernel
theorem dX7_init_90 : decode cX7_init 90 = .ok (.return_, 1) := by decide +kernel
theorem dX7_forget_0 : decode cX7_forget 0 = .ok (.aload_n 0, 1) := by decide +kernel
theorem dX7_forget_1 : decode cX7_forget 1 = .ok (.iconst 0, 1) := by decide +kernel
theorem dX7_forget_2 : decode cX7_forget 2 = .ok (.putfield 54, 3) := by decide +kernel
theorem dX7_forget_5 : decode cX7_forget 5 = .ok (.return_, 1) := by decide +kernel
theorem dX7_indexOf_0 : decode cX7_indexOf 0 = .ok (.aload_n 0, 1) := by decide +kernel
theorem dX7_indexOf_1 : decode cX7_indexOf 1 = .ok (.getfield 54, 3) := by decide +kernel
theorem dX7_indexOf_4 : decode cX7_indexOf 4 = .ok (.ifCond .ne 5, 3) := by decide +kernel
theorem dX7_indexOf_7 : decode cX7_indexOf 7 = .ok (.iconst (-1), 1) := by decide +kernel
theorem dX7_indexOf_8 : decode cX7_indexOf 8 = .ok (.ireturn, 1) := by decide +kernel
set_option maxRecDepth 20000 in
theorem ggX7_worthOf_X7_indexOf : GoodIn wsX7_worthOf wsX7_indexOf := goodIn_r _ [6, 7, 8, 9, 10, 11, 12, 13, 14, 15, 16, 17, 18, 19, 20, 21, 22, 23, 24, 25, 26, 27, 28, 29, 30, 31, 32, 33, 34, 35, 36, 37, 38, 39, 40, 41, 42, 43, 44, 45, 46, 47, 48] (by decide +kernel) (by decide +kernel)
set_option maxRecDepth 20000 in
theorem gX7_worthOf_X7_indexOf : GoodIn wsX7_worthOf (wsV RX7 200 RX7 yX7_indexOf wsX7_indexOf) := goodIn_app (goodIn_of _ (by decide +kernel)) ggX7_worthOf_X7_indexOf
theorem dX7_worthOf_0 : decode cX7_worthOf 0 = .ok (.aload_n 0, 1) := by decide +kernel
theorem dX7_worthOf_1 : decode cX7_worthOf 1 = .ok (.aload_n 1, 1) := by decide +kernel
theorem dX7_worthOf_2 : decode cX7_worthOf 2 = .ok (.invokevirtual 200, 3) := by decide +kernel
theorem dX7_worthOf_5 : decode cX7_worthOf 5 = .ok (.istore_n 2, 1) := by decide +kernel
theorem dX7_worthOf_6 : decode cX7_worthOf 6 = .ok (.iload_n 2, 1) := by decide +kernel
theorem dX7_worthOf_7 : decode cX7_worthOf 7 = .ok (.iconst (-1), 1) := by decide +kernel
theorem dX7_worthOf_8 : decode cX7_worthOf 8 = .ok (.if_icmp .ne 7, 3) := by decide +kernel
theorem dX7_worthOf_11 : decode cX7_worthOf 11 = .ok (.iconst (-1), 1) := by decide +kernel
theorem dX7_worthOf_12 : decode cX7_worthOf 12 = .ok (.goto 9, 3) := by decide +kernel
theorem dX7_worthOf_21 : decode cX7_worthOf 21 = .ok (.ireturn, 1) := by decide +kernel
set_option maxRecDepth 20000 in
theorem ggX7_deepOf_X7_indexOf : GoodIn wsX7_deepOf wsX7_indexOf := goodIn_r _ [6, 7, 8, 9, 10, 11, 12, 13, 14, 15, 16, 17, 18, 19, 20, 21, 22, 23, 24, 25, 26, 27, 28, 29, 30, 31, 32, 33, 34, 35, 36, 37, 38, 39, 40, 41, 42, 43, 44, 45, 46, 47, 48] (by decide +kernel) (by decide +kernel)
set_option maxRecDepth 20000 in
theorem gX7_deepOf_X7_indexOf : GoodIn wsX7_deepOf (wsV RX7 200 RX7 yX7_indexOf wsX7_indexOf) := goodIn_app (goodIn_of _ (by decide +kernel)) ggX7_deepOf_X7_indexOf
theorem dX7_deepOf_0 : decode cX7_deepOf 0 = .ok (.aload_n 0, 1) := by decide +kernel
theorem dX7_deepOf_1 : decode cX7_deepOf 1 = .ok (.aload_n 1, 1) := by decide +kernel
theorem dX7_deepOf_2 : decode cX7_deepOf 2 = .ok (.invokevirtual 200, 3) := by decide +kernel
theorem dX7_deepOf_5 : decode cX7_deepOf 5 = .ok (.istore_n 2, 1) := by decide +kernel
theorem dX7_deepOf_6 : decode cX7_deepOf 6 = .ok (.iload_n 2, 1) := by decide +kernel
theorem dX7_deepOf_7 : decode cX7_deepOf 7 = .ok (.iconst (-1), 1) := by decide +kernel
theorem dX7_deepOf_8 : decode cX7_deepOf 8 = .ok (.if_icmp .ne 7, 3) := by decide +kernel
theorem dX7_deepOf_11 : decode cX7_deepOf 11 = .ok (.iconst (-1), 1) := by decide +kernel
theorem dX7_deepOf_12 : decode cX7_deepOf 12 = .ok (.goto 9, 3) := by decide +kernel
theorem dX7_deepOf_21 : decode cX7_deepOf 21 = .ok (.ireturn, 1) := by decide +kernel
set_option maxRecDepth 20000 in
theorem ggX7_bestMove_X7_indexOf : GoodIn wsX7_bestMove wsX7_indexOf := goodIn_r _ [8, 9, 3, 10, 11, 12, 13, 14, 15, 16, 17, 87, 88, 89, 90, 91, 92, 93, 94, 95, 96, 97, 98, 99, 100, 101, 102, 103, 104, 105, 106, 107, 108, 109, 110, 114, 115, 116, 117, 118, 111, 112, 113] (by decide +kernel) (by decide +kernel)
set_option maxRecDepth 20000 in
theorem gX7_bestMove_X7_indexOf : GoodIn wsX7_bestMove (wsV RX7 200 RX7 yX7_indexOf wsX7_indexOf) := goodIn_app (goodIn_of _ (by decide +kernel)) ggX7_bestMove_X7_indexOf
theorem dX7_bestMove_0 : decode cX7_bestMove 0 = .ok (.aload_n 0, 1) := by decide +kernel
theorem dX7_bestMove_1 : decode cX7_bestMove 1 = .ok (.aload_n 1, 1) := by decide +kernel
theorem dX7_bestMove_2 : decode cX7_bestMove 2 = .ok (.invokevirtual 200, 3) := by decide +kernel
theorem dX7_bestMove_5 : decode cX7_bestMove 5 = .ok (.istore_n 2, 1) := by decide +kernel
theorem dX7_bestMove_6 : decode cX7_bestMove 6 = .ok (.iload_n 2, 1) := by decide +kernel
theorem dX7_bestMove_7 : decode cX7_bestMove 7 = .ok (.iconst (-1), 1) := by decide +kernel
theorem dX7_bestMove_8 : decode cX7_bestMove 8 = .ok (.if_icmp .eq 22, 3) := by decide +kernel
theorem dX7_bestMove_30 : decode cX7_bestMove 30 = .ok (.iconst (-1), 1) := by decide +kernel
theorem dX7_bestMove_31 : decode cX7_bestMove 31 = .ok (.ireturn, 1) := by decide +kernel
theorem dX7_tally_0 : decode cX7_tally 0 = .ok (.aload_n 0, 1) := by decide +kernel
theorem dX7_tally_1 : decode cX7_tally 1 = .ok (.getfield 54, 3) := by decide +kernel
theorem dX7_tally_4 : decode cX7_tally 4 = .ok (.ifCond .eq 19, 3) := by decide +kernel
theorem dX7_tally_23 : decode cX7_tally 23 = .ok (.iconst (-1), 1) := by decide +kernel
theorem dX7_tally_24 : decode cX7_tally 24 = .ok (.ireturn, 1) := by decide +kernel
theorem dX7_greatestDeep_0 : decode cX7_greatestDeep 0 = .ok (.aload_n 0, 1) := by decide +kernel
theorem dX7_greatestDeep_1 : decode cX7_greatestDeep 1 = .ok (.getfield 54, 3) := by decide +kernel
theorem dX7_greatestDeep_4 : decode cX7_greatestDeep 4 = .ok (.ifCond .eq 19, 3) := by decide +kernel
theorem dX7_greatestDeep_23 : decode cX7_greatestDeep 23 = .ok (.iconst (-1), 1) := by decide +kernel
theorem dX7_greatestDeep_24 : decode cX7_greatestDeep 24 = .ok (.ireturn, 1) := by decide +kernel
theorem dX7_worthAt_0 : decode cX7_worthAt 0 = .ok (.aload_n 0, 1) := by decide +kernel
theorem dX7_worthAt_1 : decode cX7_worthAt 1 = .ok (.getfield 54, 3) := by decide +kernel
theorem dX7_worthAt_4 : decode cX7_worthAt 4 = .ok (.ifCond .eq 26, 3) := by decide +kernel
theorem dX7_worthAt_30 : decode cX7_worthAt 30 = .ok (.iconst 0, 1) := by decide +kernel
theorem dX7_worthAt_31 : decode cX7_worthAt 31 = .ok (.istore_n 3, 1) := by decide +kernel
theorem dX7_worthAt_32 : decode cX7_worthAt 32 = .ok (.iload_n 3, 1) := by decide +kernel
theorem dX7_worthAt_33 : decode cX7_worthAt 33 = .ok (.ifCond .eq 16, 3) := by decide +kernel
theorem dX7_worthAt_49 : decode cX7_worthAt 49 = .ok (.iconst (-1), 1) := by decide +kernel
theorem dX7_worthAt_50 : decode cX7_worthAt 50 = .ok (.ireturn, 1) := by decide +kernel
set_option maxRecDepth 20000 in
theorem ggX8_init_X8_clear : GoodIn wsX8_init wsX8_clear := goodIn_r _ [11, 5, 6, 12, 13, 14, 15, 16, 17, 18, 19] (by decide +kernel) (by decide +kernel)
set_option maxRecDepth 20000 in
theorem gX8_init_X8_clear : GoodIn wsX8_init (wsV RX8 18 RX8 yX8_clear wsX8_clear) := goodIn_app (goodIn_of _ (by decide +kernel)) ggX8_init_X8_clear
theorem dX8_init_0 : decode cX8_init 0 = .ok (.aload_n 0, 1) := by decide +kernel
theorem dX8_init_1 : decode cX8_init 1 = .ok (.invokespecial 3, 3) := by decide +kernel
theorem dX8_init_4 : decode cX8_init 4 = .ok (.aload_n 0, 1) := by decide +kernel
theorem dX8_init_5 : decode cX8_init 5 = .ok (.bipush 40, 2) := by decide +kernel
theorem dX8_init_7 : decode cX8_init 7 = .ok (.newarray .int, 2) := by decide +kernel
theorem dX8_init_9 : decode cX8_init 9 = .ok (.putfield 9, 3) := by decide +kernel
theorem dX8_init_12 : decode cX8_init 12 = .ok (.aload_n 0, 1) := by decide +kernel
theorem dX8_init_13 : decode cX8_init 13 = .ok (.bipush 81, 2) := by decide +kernel
theorem dX8_init_15 : decode cX8_init 15 = .ok (.newarray .int, 2) := by decide +kernel
theorem dX8_init_17 : decode cX8_init 17 = .ok (.putfield 15, 3) := by decide +kernel
theorem dX8_init_20 : decode cX8_init 20 = .ok (.aload_n 0, 1) := by decide +kernel
theorem dX8_init_21 : decode cX8_init 21 = .ok (.invokevirtual 18, 3) := by decide +kernel
theorem dX8_init_24 : decode cX8_init 24 = .ok (.return_, 1) := by decide +kernel
set_option maxRecDepth 20000 in
theorem ggX8_clear_J7_fill_53178 : GoodIn wsX8_clear wsJ7_fill_53178 := goodIn_r _ [7] (by decide +kernel) (by decide +kernel)
set_option maxRecDepth 20000 in
theorem gX8_clear_J7_fill_53178 : GoodIn wsX8_clear (va_wsS RX8 21 yJ7_fill_53178 wsJ7_fill_53178) := goodIn_app (goodIn_of _ (by decide +kernel)) ggX8_clear_J7_fill_53178
theorem dX8_clear_0 : decode cX8_clear 0 = .ok (.aload_n 0, 1) := by decide +kernel
theorem dX8_clear_1 : decode cX8_clear 1 = .ok (.getfield 9, 3) := by decide +kernel
theorem dX8_clear_4 : decode cX8_clear 4 = .ok (.iconst (-1), 1) := by decide +kernel
theorem dX8_clear_5 : decode cX8_clear 5 = .ok (.invokestatic 21, 3) := by decide +kernel
theorem dX8_clear_8 : decode cX8_clear 8 = .ok (.aload_n 0, 1) := by decide +kernel
theorem dX8_clear_9 : decode cX8_clear 9 = .ok (.getfield 15, 3) := by decide +kernel
theorem dX8_clear_12 : decode cX8_clear 12 = .ok (.iconst (-1), 1) := by decide +kernel
theorem dX8_clear_13 : decode cX8_clear 13 = .ok (.invokestatic 21, 3) := by decide +kernel
theorem dX8_clear_16 : decode cX8_clear 16 = .ok (.aload_n 0, 1) := by decide +kernel
theorem dX8_clear_17 : decode cX8_clear 17 = .ok (.iconst 0, 1) := by decide +kernel
theorem dX8_clear_18 : decode cX8_clear 18 = .ok (.putfield 27, 3) := by decide +kernel
theorem dX8_clear_21 : decode cX8_clear 21 = .ok (.return_, 1) := by decide +kernel
theorem dX8_fieldOf_0 : decode cX8_fieldOf 0 = .ok (.iload_n 1, 1) := by decide +kernel
theorem dX8_fieldOf_1 : decode cX8_fieldOf 1 = .ok (.ifCond .lt 18, 3) := by decide +kernel
theorem dX8_fieldOf_4 : decode cX8_fieldOf 4 = .ok (.iload_n 1, 1) := by decide +kernel
theorem dX8_fieldOf_5 : decode cX8_fieldOf 5 = .ok (.bipush 40, 2) := by decide +kernel
theorem dX8_fieldOf_7 : decode cX8_fieldOf 7 = .ok (.if_icmp .ge 12, 3) := by decide +kernel
theorem dX8_fieldOf_10 : decode cX8_fieldOf 10 = .ok (.aload_n 0, 1) := by decide +kernel
theorem dX8_fieldOf_11 : decode cX8_fieldOf 11 = .ok (.getfield 9, 3) := by decide +kernel
theorem dX8_fieldOf_14 : decode cX8_fieldOf 14 = .ok (.iload_n 1, 1) := by decide +kernel
theorem dX8_fieldOf_15 : decode cX8_fieldOf 15 = .ok (.iaload, 1) := by decide +kernel
theorem dX8_fieldOf_16 : decode cX8_fieldOf 16 = .ok (.goto 4, 3) := by decide +kernel
theorem dX8_fieldOf_19 : decode cX8_fieldOf 19 = .ok (.iconst (-1), 1) := by decide +kernel
theorem dX8_fieldOf_20 : decode cX8_fieldOf 20 = .ok (.ireturn, 1) := by decide +kernel
theorem dX8_holderOf_0 : decode cX8_holderOf 0 = .ok (.iload_n 1, 1) := by decide +kernel
theorem dX8_holderOf_1 : decode cX8_holderOf 1 = .ok (.ifCond .lt 18, 3) := by decide +kernel
theorem dX8_holderOf_4 : decode cX8_holderOf 4 = .ok (.iload_n 1, 1) := by decide +kernel
theorem dX8_holderOf_5 : decode cX8_holderOf 5 = .ok (.bipush 81, 2) := by decide +kernel
theorem dX8_holderOf_7 : decode cX8_holderOf 7 = .ok (.if_icmp .ge 12, 3) := by decide +kernel
theorem dX8_holderOf_10 : decode cX8_holderOf 10 = .ok (.aload_n 0, 1) := by decide +kernel
theorem dX8_holderOf_11 : decode cX8_holderOf 11 = .ok (.getfield 15, 3) := by decide +kernel
theorem dX8_holderOf_14 : decode cX8_holderOf 14 = .ok (.iload_n 1, 1) := by decide +kernel
theorem dX8_holderOf_15 : decode cX8_holderOf 15 = .ok (.iaload, 1) := by decide +kernel
theorem dX8_holderOf_16 : decode cX8_holderOf 16 = .ok (.goto 4, 3) := by decide +kernel
theorem dX8_holderOf_19 : decode cX8_holderOf 19 = .ok (.iconst (-1), 1) := by decide +kernel
theorem dX8_holderOf_20 : decode cX8_holderOf 20 = .ok (.ireturn, 1) := by decide +kernel
theorem dX9_init_0 : decode cX9_init 0 = .ok (.aload_n 0, 1) := by decide +kernel
theorem dX9_init_1 : decode cX9_init 1 = .ok (.invokespecial 3, 3) := by decide +kernel
theorem dX9_init_4 : decode cX9_init 4 = .ok (.aload_n 0, 1) := by decide +kernel
theorem dX9_init_5 : decode cX9_init 5 = .ok (.bipush 81, 2) := by decide +kernel
theorem dX9_init_7 : decode cX9_init 7 = .ok (.newarray .int, 2) := by decide +kernel
theorem dX9_init_9 : decode cX9_init 9 = .ok (.putfield 9, 3) := by decide +kernel
theorem dX9_init_12 : decode cX9_init 12 = .ok (.aload_n 0, 1) := by decide +kernel
theorem dX9_init_13 : decode cX9_init 13 = .ok (.iconst 3, 1) := by decide +kernel
theorem dX9_init_14 : decode cX9_init 14 = .ok (.putfield 15, 3) := by decide +kernel
theorem dX9_init_17 : decode cX9_init 17 = .ok (.aload_n 0, 1) := by decide +kernel
theorem dX9_init_18 : decode cX9_init 18 = .ok (.iconst 3, 1) := by decide +kernel
theorem dX9_init_19 : decode cX9_init 19 = .ok (.putfield 19, 3) := by decide +kernel
theorem dX9_init_22 : decode cX9_init 22 = .ok (.return_, 1) := by decide +kernel
theorem dX9_size_0 : decode cX9_size 0 = .ok (.aload_n 0, 1) := by decide +kernel
theorem dX9_size_1 : decode cX9_size 1 = .ok (.getfield 15, 3) := by decide +kernel
theorem dX9_size_4 : decode cX9_size 4 = .ok (.aload_n 0, 1) := by decide +kernel
theorem dX9_size_5 : decode cX9_size 5 = .ok (.getfield 19, 3) := by decide +kernel
theorem dX9_size_8 : decode cX9_size 8 = .ok (.imul, 1) := by decide +kernel
theorem dX9_size_9 : decode cX9_size 9 = .ok (.ireturn, 1) := by decide +kernel
set_option maxRecDepth 20000 in
theorem ggX9_renew_X9_isSpan : GoodIn wsX9_renew wsX9_isSpan := goodIn_r _ [7] (by decide +kernel) (by decide +kernel)
set_option maxRecDepth 20000 in
theorem gX9_renew_X9_isSpan : GoodIn wsX9_renew (va_wsS RX9 22 yX9_isSpan wsX9_isSpan) := goodIn_app (goodIn_of _ (by decide +kernel)) ggX9_renew_X9_isSpan
set_option maxRecDepth 20000 in
theorem ggX9_renew_J7_fill_53178 : GoodIn wsX9_renew wsJ7_fill_53178 := goodIn_r _ [11] (by decide +kernel) (by decide +kernel)
set_option maxRecDepth 20000 in
theorem gX9_renew_J7_fill_53178 : GoodIn wsX9_renew (va_wsS RX9 26 yJ7_fill_53178 wsJ7_fill_53178) := goodIn_app (goodIn_of _ (by decide +kernel)) ggX9_renew_J7_fill_53178
theorem dX9_renew_0 : decode cX9_renew 0 = .ok (.iload_n 1, 1) := by decide +kernel
theorem dX9_renew_1 : decode cX9_renew 1 = .ok (.invokestatic 22, 3) := by decide +kernel
theorem dX9_renew_4 : decode cX9_renew 4 = .ok (.ifCond .eq 10, 3) := by decide +kernel
theorem dX9_renew_7 : decode cX9_renew 7 = .ok (.iload_n 2, 1) := by decide +kernel
theorem dX9_renew_8 : decode cX9_renew 8 = .ok (.invokestatic 22, 3) := by decide +kernel
theorem dX9_renew_11 : decode cX9_renew 11 = .ok (.ifCond .ne 5, 3) := by decide +kernel
theorem dX9_renew_14 : decode cX9_renew 14 = .ok (.iconst 0, 1) := by decide +kernel
theorem dX9_renew_15 : decode cX9_renew 15 = .ok (.ireturn, 1) := by decide +kernel
theorem dX9_renew_16 : decode cX9_renew 16 = .ok (.aload_n 0, 1) := by decide +kernel
theorem dX9_renew_17 : decode cX9_renew 17 = .ok (.iload_n 1, 1) := by decide +kernel
theorem dX9_renew_18 : decode cX9_renew 18 = .ok (.putfield 15, 3) := by decide +kernel
theorem dX9_renew_21 : decode cX9_renew 21 = .ok (.aload_n 0, 1) := by decide +kernel
theorem dX9_renew_22 : decode cX9_renew 22 = .ok (.iload_n 2, 1) := by decide +kernel
theorem dX9_renew_23 : decode cX9_renew 23 = .ok (.putfield 19, 3) := by decide +kernel
theorem dX9_renew_26 : decode cX9_renew 26 = .ok (.aload_n 0, 1) := by decide +kernel
theorem dX9_renew_27 : decode cX9_renew 27 = .ok (.getfield 9, 3) := by decide +kernel
theorem dX9_renew_30 : decode cX9_renew 30 = .ok (.iconst 0, 1) := by decide +kernel
theorem dX9_renew_31 : decode cX9_renew 31 = .ok (.invokestatic 26, 3) := by decide +kernel
theorem dX9_renew_34 : decode cX9_renew 34 = .ok (.iconst 1, 1) := by decide +kernel
theorem dX9_renew_35 : decode cX9_renew 35 = .ok (.ireturn, 1) := by decide +kernel
theorem dX9_isSpan_0 : decode cX9_isSpan 0 = .ok (.iload_n 0, 1) := by decide +kernel
theorem dX9_isSpan_1 : decode cX9_isSpan 1 = .ok (.iconst 2, 1) := by decide +kernel
theorem dX9_isSpan_2 : decode cX9_isSpan 2 = .ok (.if_icmp .lt 13, 3) := by decide +kernel
theorem dX9_isSpan_5 : decode cX9_isSpan 5 = .ok (.iload_n 0, 1) := by decide +kernel
theorem dX9_isSpan_6 : decode cX9_isSpan 6 = .ok (.bipush 9, 2) := by decide +kernel
theorem dX9_isSpan_8 : decode cX9_isSpan 8 = .ok (.if_icmp .gt 7, 3) := by decide +kernel
theorem dX9_isSpan_11 : decode cX9_isSpan 11 = .ok (.iconst 1, 1) := by decide +kernel
theorem dX9_isSpan_12 : decode cX9_isSpan 12 = .ok (.goto 4, 3) := by decide +kernel
theorem dX9_isSpan_15 : decode cX9_isSpan 15 = .ok (.iconst 0, 1) := by decide +kernel
theorem dX9_isSpan_16 : decode cX9_isSpan 16 = .ok (.ireturn, 1) := by decide +kernel
theorem dX9_tell_0 : decode cX9_tell 0 = .ok (.iload_n 1, 1) := by decide +kernel
theorem dX9_tell_1 : decode cX9_tell 1 = .ok (.ifCond .lt 23, 3) := by decide +kernel
theorem dX9_tell_4 : decode cX9_tell 4 = .ok (.iload_n 1, 1) := by decide +kernel
theorem dX9_tell_5 : decode cX9_tell 5 = .ok (.aload_n 0, 1) := by decide +kernel
theorem dX9_tell_6 : decode cX9_tell 6 = .ok (.getfield 15, 3) := by decide +kernel
theorem dX9_tell_9 : decode cX9_tell 9 = .ok (.if_icmp .ge 15, 3) := by decide +kernel
theorem dX9_tell_12 : decode cX9_tell 12 = .ok (.iload_n 2, 1) := by decide +kernel
theorem dX9_tell_13 : decode cX9_tell 13 = .ok (.ifCond .lt 11, 3) := by decide +kernel
theorem dX9_tell_16 : decode cX9_tell 16 = .ok (.iload_n 2, 1) := by decide +kernel
theorem dX9_tell_17 : decode cX9_tell 17 = .ok (.aload_n 0, 1) := by decide +kernel
theorem dX9_tell_18 : decode cX9_tell 18 = .ok (.getfield 19, 3) := by decide +kernel
theorem dX9_tell_21 : decode cX9_tell 21 = .ok (.if_icmp .le 5, 3) := by decide +kernel
theorem dX9_tell_24 : decode cX9_tell 24 = .ok (.iconst 0, 1) := by decide +kernel
theorem dX9_tell_25 : decode cX9_tell 25 = .ok (.ireturn, 1) := by decide +kernel
theorem dX9_tell_26 : decode cX9_tell 26 = .ok (.iconst 0, 1) := by decide +kernel
theorem dX9_tell_27 : decode cX9_tell 27 = .ok (.istore 4, 2) := by decide +kernel
theorem dX9_tell_29 : decode cX9_tell 29 = .ok (.iload 4, 2) := by decide +kernel
theorem dX9_tell_31 : decode cX9_tell 31 = .ok (.aload_n 0, 1) := by decide +kernel
theorem dX9_tell_32 : decode cX9_tell 32 = .ok (.getfield 19, 3) := by decide +kernel
theorem dX9_tell_35 : decode cX9_tell 35 = .ok (.if_icmp .ge 42, 3) := by decide +kernel
theorem dX9_tell_38 : decode cX9_tell 38 = .ok (.aload_n 0, 1) := by decide +kernel
theorem dX9_tell_39 : decode cX9_tell 39 = .ok (.getfield 9, 3) := by decide +kernel
theorem dX9_tell_42 : decode cX9_tell 42 = .ok (.iload_n 1, 1) := by decide +kernel
theorem dX9_tell_43 : decode cX9_tell 43 = .ok (.aload_n 0, 1) := by decide +kernel
theorem dX9_tell_44 : decode cX9_tell 44 = .ok (.getfield 19, 3) := by decide +kernel
theorem dX9_tell_47 : decode cX9_tell 47 = .ok (.imul, 1) := by decide +kernel
theorem dX9_tell_48 : decode cX9_tell 48 = .ok (.iload 4, 2) := by decide +kernel
theorem dX9_tell_50 : decode cX9_tell 50 = .ok (.iadd, 1) := by decide +kernel
theorem dX9_tell_51 : decode cX9_tell 51 = .ok (.iload 4, 2) := by decide +kernel
theorem dX9_tell_53 : decode cX9_tell 53 = .ok (.iload_n 2, 1) := by decide +kernel
theorem dX9_tell_54 : decode cX9_tell 54 = .ok (.if_icmp .ge 15, 3) := by decide +kernel
theorem dX9_tell_57 : decode cX9_tell 57 = .ok (.iload_n 3, 1) := by decide +kernel
theorem dX9_tell_58 : decode cX9_tell 58 = .ok (.iconst 3, 1) := by decide +kernel
theorem dX9_tell_59 : decode cX9_tell 59 = .ok (.iload 4, 2) := by decide +kernel
theorem dX9_tell_61 : decode cX9_tell 61 = .ok (.imul, 1) := by decide +kernel
theorem dX9_tell_62 : decode cX9_tell 62 = .ok (.ishr, 1) := by decide +kernel
theorem dX9_tell_63 : decode cX9_tell 63 = .ok (.bipush 7, 2) := by decide +kernel
theorem dX9_tell_65 : decode cX9_tell 65 = .ok (.iand, 1) := by decide +kernel
theorem dX9_tell_66 : decode cX9_tell 66 = .ok (.goto 4, 3) := by decide +kernel
theorem dX9_tell_69 : decode cX9_tell 69 = .ok (.iconst 0, 1) := by decide +kernel
theorem dX9_tell_70 : decode cX9_tell 70 = .ok (.iastore, 1) := by decide +kernel
theorem dX9_tell_71 : decode cX9_tell 71 = .ok (.iinc 4 1, 3) := by decide +kernel
theorem dX9_tell_74 : decode cX9_tell 74 = .ok (.goto (-45), 3) := by decide +kernel
theorem dX9_tell_77 : decode cX9_tell 77 = .ok (.iconst 1, 1) := by decide +kernel
theorem dX9_tell_78 : decode cX9_tell 78 = .ok (.ireturn, 1) := by decide +kernel
set_option maxRecDepth 20000 in
theorem ggX9_canBegin_X9_size : GoodIn wsX9_canBegin wsX9_size := goodIn_r _ [6, 7, 8, 14, 15, 16] (by decide +kernel) (by decide +kernel)
set_option maxRecDepth 20000 in
theorem gX9_canBegin_X9_size : GoodIn wsX9_canBegin (wsV RX9 32 RX9 yX9_size wsX9_size) := goodIn_app (goodIn_of _ (by decide +kernel)) ggX9_canBegin_X9_size
set_option maxRecDepth 20000 in
theorem ggX9_canBegin_X10_kindOfSign : GoodIn wsX9_canBegin wsX10_kindOfSign := goodIn_r _ [11] (by decide +kernel) (by decide +kernel)
set_option maxRecDepth 20000 in
theorem gX9_canBegin_X10_kindOfSign_n36 : GoodIn wsX9_canBegin (wsX10_kindOfSign) := ggX9_canBegin_X10_kindOfSign
set_option maxRecDepth 20000 in
theorem ggX9_canBegin_X10_typeOfSign : GoodIn wsX9_canBegin wsX10_typeOfSign := goodIn_r _ [13] (by decide +kernel) (by decide +kernel)
set_option maxRecDepth 20000 in
theorem gX9_canBegin_X10_typeOfSign_n40 : GoodIn wsX9_canBegin (wsX10_typeOfSign) := ggX9_canBegin_X10_typeOfSign
theorem dX9_canBegin_0 : decode cX9_canBegin 0 = .ok (.iconst 0, 1) := by decide +kernel
theorem dX9_canBegin_1 : decode cX9_canBegin 1 = .ok (.istore_n 1, 1) := by decide +kernel
theorem dX9_canBegin_2 : decode cX9_canBegin 2 = .ok (.iconst 0, 1) := by decide +kernel
theorem dX9_canBegin_3 : decode cX9_canBegin 3 = .ok (.istore_n 2, 1) := by decide +kernel
theorem dX9_canBegin_4 : decode cX9_canBegin 4 = .ok (.iconst 0, 1) := by decide +kernel
theorem dX9_canBegin_5 : decode cX9_canBegin 5 = .ok (.istore_n 3, 1) := by decide +kernel
theorem dX9_canBegin_6 : decode cX9_canBegin 6 = .ok (.iconst 0, 1) := by decide +kernel
theorem dX9_canBegin_7 : decode cX9_canBegin 7 = .ok (.istore 4, 2) := by decide +kernel
theorem dX9_canBegin_9 : decode cX9_canBegin 9 = .ok (.aload_n 0, 1) := by decide +kernel
theorem dX9_canBegin_10 : decode cX9_canBegin 10 = .ok (.invokevirtual 32, 3) := by decide +kernel
theorem dX9_canBegin_13 : decode cX9_canBegin 13 = .ok (.istore 5, 2) := by decide +kernel
theorem dX9_canBegin_15 : decode cX9_canBegin 15 = .ok (.iconst 0, 1) := by decide +kernel
theorem dX9_canBegin_16 : decode cX9_canBegin 16 = .ok (.istore 6, 2) := by decide +kernel
theorem dX9_canBegin_18 : decode cX9_canBegin 18 = .ok (.iload 6, 2) := by decide +kernel
theorem dX9_canBegin_20 : decode cX9_canBegin 20 = .ok (.iload 5, 2) := by decide +kernel
theorem dX9_canBegin_22 : decode cX9_canBegin 22 = .ok (.if_icmp .ge 92, 3) := by decide +kernel
theorem dX9_canBegin_25 : decode cX9_canBegin 25 = .ok (.aload_n 0, 1) := by decide +kernel
theorem dX9_canBegin_26 : decode cX9_canBegin 26 = .ok (.getfield 9, 3) := by decide +kernel
theorem dX9_canBegin_29 : decode cX9_canBegin 29 = .ok (.iload 6, 2) := by decide +kernel
theorem dX9_canBegin_31 : decode cX9_canBegin 31 = .ok (.iaload, 1) := by decide +kernel
theorem dX9_canBegin_32 : decode cX9_canBegin 32 = .ok (.invokestatic 36, 3) := by decide +kernel
theorem dX9_canBegin_35 : decode cX9_canBegin 35 = .ok (.istore 7, 2) := by decide +kernel
theorem dX9_canBegin_37 : decode cX9_canBegin 37 = .ok (.iload_n 1, 1) := by decide +kernel
theorem dX9_canBegin_38 : decode cX9_canBegin 38 = .ok (.iload 7, 2) := by decide +kernel
theorem dX9_canBegin_40 : decode cX9_canBegin 40 = .ok (.iconst 2, 1) := by decide +kernel
theorem dX9_canBegin_41 : decode cX9_canBegin 41 = .ok (.if_icmp .ne 7, 3) := by decide +kernel
theorem dX9_canBegin_48 : decode cX9_canBegin 48 = .ok (.iconst 0, 1) := by decide +kernel
theorem dX9_canBegin_49 : decode cX9_canBegin 49 = .ok (.iadd, 1) := by decide +kernel
theorem dX9_canBegin_50 : decode cX9_canBegin 50 = .ok (.istore_n 1, 1) := by decide +kernel
theorem dX9_canBegin_51 : decode cX9_canBegin 51 = .ok (.iload_n 2, 1) := by decide +kernel
theorem dX9_canBegin_52 : decode cX9_canBegin 52 = .ok (.iload 7, 2) := by decide +kernel
theorem dX9_canBegin_54 : decode cX9_canBegin 54 = .ok (.iconst 3, 1) := by decide +kernel
theorem dX9_canBegin_55 : decode cX9_canBegin 55 = .ok (.if_icmp .eq 9, 3) := by decide +kernel
theorem dX9_canBegin_58 : decode cX9_canBegin 58 = .ok (.iload 7, 2) := by decide +kernel
theorem dX9_canBegin_60 : decode cX9_canBegin 60 = .ok (.iconst 4, 1) := by decide +kernel
theorem dX9_canBegin_61 : decode cX9_canBegin 61 = .ok (.if_icmp .ne 7, 3) := by decide +kernel
theorem dX9_canBegin_68 : decode cX9_canBegin 68 = .ok (.iconst 0, 1) := by decide +kernel
theorem dX9_canBegin_69 : decode cX9_canBegin 69 = .ok (.iadd, 1) := by decide +kernel
theorem dX9_canBegin_70 : decode cX9_canBegin 70 = .ok (.istore_n 2, 1) := by decide +kernel
theorem dX9_canBegin_71 : decode cX9_canBegin 71 = .ok (.iload_n 3, 1) := by decide +kernel
theorem dX9_canBegin_72 : decode cX9_canBegin 72 = .ok (.iload 7, 2) := by decide +kernel
theorem dX9_canBegin_74 : decode cX9_canBegin 74 = .ok (.ifCond .ne 7, 3) := by decide +kernel
theorem dX9_canBegin_77 : decode cX9_canBegin 77 = .ok (.iconst 0, 1) := by decide +kernel
theorem dX9_canBegin_78 : decode cX9_canBegin 78 = .ok (.goto 4, 3) := by decide +kernel
theorem dX9_canBegin_82 : decode cX9_canBegin 82 = .ok (.iadd, 1) := by decide +kernel
theorem dX9_canBegin_83 : decode cX9_canBegin 83 = .ok (.istore_n 3, 1) := by decide +kernel
theorem dX9_canBegin_84 : decode cX9_canBegin 84 = .ok (.iload 4, 2) := by decide +kernel
theorem dX9_canBegin_86 : decode cX9_canBegin 86 = .ok (.aload_n 0, 1) := by decide +kernel
theorem dX9_canBegin_87 : decode cX9_canBegin 87 = .ok (.getfield 9, 3) := by decide +kernel
theorem dX9_canBegin_90 : decode cX9_canBegin 90 = .ok (.iload 6, 2) := by decide +kernel
theorem dX9_canBegin_92 : decode cX9_canBegin 92 = .ok (.iaload, 1) := by decide +kernel
theorem dX9_canBegin_93 : decode cX9_canBegin 93 = .ok (.invokestatic 40, 3) := by decide +kernel
theorem dX9_canBegin_96 : decode cX9_canBegin 96 = .ok (.iconst 1, 1) := by decide +kernel
theorem dX9_canBegin_97 : decode cX9_canBegin 97 = .ok (.if_icmp .ne 7, 3) := by decide +kernel
theorem dX9_canBegin_104 : decode cX9_canBegin 104 = .ok (.iconst 0, 1) := by decide +kernel
theorem dX9_canBegin_105 : decode cX9_canBegin 105 = .ok (.iadd, 1) := by decide +kernel
theorem dX9_canBegin_106 : decode cX9_canBegin 106 = .ok (.istore 4, 2) := by decide +kernel
theorem dX9_canBegin_108 : decode cX9_canBegin 108 = .ok (.iinc 6 1, 3) := by decide +kernel
theorem dX9_canBegin_111 : decode cX9_canBegin 111 = .ok (.goto (-93), 3) := by decide +kernel
theorem dX9_canBegin_114 : decode cX9_canBegin 114 = .ok (.iload_n 1, 1) := by decide +kernel
theorem dX9_canBegin_115 : decode cX9_canBegin 115 = .ok (.iconst 1, 1) := by decide +kernel
theorem dX9_canBegin_116 : decode cX9_canBegin 116 = .ok (.if_icmp .ne 24, 3) := by decide +kernel
theorem dX9_canBegin_140 : decode cX9_canBegin 140 = .ok (.iconst 0, 1) := by decide +kernel
theorem dX9_canBegin_141 : decode cX9_canBegin 141 = .ok (.ireturn, 1) := by decide +kernel
set_option maxRecDepth 20000 in
theorem ggX10_init_X9_init : GoodIn wsX10_init wsX9_init := goodIn_r _ [29, 30, 2, 3, 31, 32, 33, 34, 137, 138, 139] (by decide +kernel) (by decide +kernel)
set_option maxRecDepth 20000 in
theorem gX10_init_X9_init_n9 : GoodIn wsX10_init (wsX9_init) := ggX10_init_X9_init
set_option maxRecDepth 20000 in
theorem ggX10_init_X1_init : GoodIn wsX10_init wsX1_init := goodIn_r _ [36, 37, 2, 3, 38, 39, 40, 41, 42, 146, 147, 148, 149, 150] (by decide +kernel) (by decide +kernel)
set_option maxRecDepth 20000 in
theorem gX10_init_X1_init_n18 : GoodIn wsX10_init (wsX1_init) := ggX10_init_X1_init
set_option maxRecDepth 20000 in
theorem ggX10_init_X6_init : GoodIn wsX10_init wsX6_init := goodIn_r _ [45, 46, 2, 3, 47, 48, 49, 50, 31, 51, 52, 53, 54, 55, 56, 57, 58, 59, 60, 61, 62, 63, 183, 184, 185, 186, 187, 151, 152, 153, 154, 155, 156, 157, 158, 159] (by decide +kernel) (by decide +kernel)
set_option maxRecDepth 20000 in
theorem gX10_init_X6_init : GoodIn wsX10_init (wsX6_init) := ggX10_init_X6_init
set_option maxRecDepth 20000 in
theorem ggX10_init_X4_init : GoodIn wsX10_init wsX4_init := goodIn_r _ [66, 67, 2, 3, 68, 69, 70, 71, 72, 73, 74, 75, 76, 77, 78, 79, 80, 81, 82, 31, 83, 84, 85, 86, 87, 88, 89, 90, 91, 92, 93, 94, 95, 96, 97, 98, 99, 100, 101, 102, 103, 188, 189, 190, 160, 161, 162, 163, 164, 191, 192, 193, 194, 195, 196, 197, 198, 199] (by decide +kernel) (by decide +kernel)
set_option maxRecDepth 20000 in
theorem gX10_init_X4_init : GoodIn wsX10_init (wsX4_init) := ggX10_init_X4_init
set_option maxRecDepth 20000 in
theorem ggX10_init_X5_init : GoodIn wsX10_init wsX5_init := goodIn_r _ [106, 107, 2, 3, 31, 108, 53, 109, 110, 165, 166, 167] (by decide +kernel) (by decide +kernel)
set_option maxRecDepth 20000 in
theorem gX10_init_X5_init : GoodIn wsX10_init (wsX5_init) := ggX10_init_X5_init
set_option maxRecDepth 20000 in
theorem ggX10_init_X7_init : GoodIn wsX10_init wsX7_init := goodIn_r _ [113, 114, 2, 3, 115, 69, 70, 116, 117, 118, 119, 120, 31, 121, 122, 123, 124, 125, 126, 127, 128, 129, 130, 80, 81, 82, 83, 84, 85, 86, 87, 88, 89, 90, 91, 92, 93, 131, 132, 133, 134, 135, 136, 188, 189, 190, 168, 169, 170, 171, 172, 173, 174, 175, 176, 177, 178, 179, 180, 181, 182, 200, 201, 202, 203] (by decide +kernel) (by decide +kernel)
set_option maxRecDepth 20000 in
theorem gX10_init_X7_init : GoodIn wsX10_init (wsX7_init) := ggX10_init_X7_init
theorem dX10_init_0 : decode cX10_init 0 = .ok (.aload_n 0, 1) := by decide +kernel
theorem dX10_init_1 : decode cX10_init 1 = .ok (.invokespecial 1, 3) := by decide +kernel
theorem dX10_init_4 : decode cX10_init 4 = .ok (.aload_n 0, 1) := by decide +kernel
theorem dX10_init_5 : decode cX10_init 5 = .ok (.new 7, 3) := by decide +kernel
theorem dX10_init_8 : decode cX10_init 8 = .ok (.dup, 1) := by decide +kernel
theorem dX10_init_9 : decode cX10_init 9 = .ok (.invokespecial 9, 3) := by decide +kernel
theorem dX10_init_12 : decode cX10_init 12 = .ok (.putfield 10, 3) := by decide +kernel
theorem dX10_init_15 : decode cX10_init 15 = .ok (.aload_n 0, 1) := by decide +kernel
theorem dX10_init_16 : decode cX10_init 16 = .ok (.new 16, 3) := by decide +kernel
theorem dX10_init_19 : decode cX10_init 19 = .ok (.dup, 1) := by decide +kernel
theorem dX10_init_20 : decode cX10_init 20 = .ok (.invokespecial 18, 3) := by decide +kernel
theorem dX10_init_23 : decode cX10_init 23 = .ok (.putfield 19, 3) := by decide +kernel
theorem dX10_init_26 : decode cX10_init 26 = .ok (.aload_n 0, 1) := by decide +kernel
theorem dX10_init_27 : decode cX10_init 27 = .ok (.new 23, 3) := by decide +kernel
theorem dX10_init_30 : decode cX10_init 30 = .ok (.dup, 1) := by decide +kernel
theorem dX10_init_31 : decode cX10_init 31 = .ok (.aload_n 0, 1) := by decide +kernel
theorem dX10_init_32 : decode cX10_init 32 = .ok (.getfield 19, 3) := by decide +kernel
theorem dX10_init_35 : decode cX10_init 35 = .ok (.invokespecial 25, 3) := by decide +kernel
theorem dX10_init_38 : decode cX10_init 38 = .ok (.putfield 28, 3) := by decide +kernel
theorem dX10_init_41 : decode cX10_init 41 = .ok (.aload_n 0, 1) := by decide +kernel
theorem dX10_init_42 : decode cX10_init 42 = .ok (.new 32, 3) := by decide +kernel
theorem dX10_init_45 : decode cX10_init 45 = .ok (.dup, 1) := by decide +kernel
theorem dX10_init_46 : decode cX10_init 46 = .ok (.aload_n 0, 1) := by decide +kernel
theorem dX10_init_47 : decode cX10_init 47 = .ok (.getfield 19, 3) := by decide +kernel
theorem dX10_init_50 : decode cX10_init 50 = .ok (.aload_n 0, 1) := by decide +kernel
theorem dX10_init_51 : decode cX10_init 51 = .ok (.getfield 28, 3) := by decide +kernel
theorem dX10_init_54 : decode cX10_init 54 = .ok (.invokespecial 34, 3) := by decide +kernel
theorem dX10_init_57 : decode cX10_init 57 = .ok (.putfield 37, 3) := by decide +kernel
theorem dX10_init_60 : decode cX10_init 60 = .ok (.aload_n 0, 1) := by decide +kernel
theorem dX10_init_61 : decode cX10_init 61 = .ok (.new 41, 3) := by decide +kernel
theorem dX10_init_64 : decode cX10_init 64 = .ok (.dup, 1) := by decide +kernel
theorem dX10_init_65 : decode cX10_init 65 = .ok (.aload_n 0, 1) := by decide +kernel
theorem dX10_init_66 : decode cX10_init 66 = .ok (.getfield 28, 3) := by decide +kernel
theorem dX10_init_69 : decode cX10_init 69 = .ok (.invokespecial 43, 3) := by decide +kernel
theorem dX10_init_72 : decode cX10_init 72 = .ok (.putfield 46, 3) := by decide +kernel
theorem dX10_init_75 : decode cX10_init 75 = .ok (.aload_n 0, 1) := by decide +kernel
theorem dX10_init_76 : decode cX10_init 76 = .ok (.new 50, 3) := by decide +kernel
theorem dX10_init_79 : decode cX10_init 79 = .ok (.dup, 1) := by decide +kernel
theorem dX10_init_80 : decode cX10_init 80 = .ok (.aload_n 0, 1) := by decide +kernel
theorem dX10_init_81 : decode cX10_init 81 = .ok (.getfield 28, 3) := by decide +kernel
theorem dX10_init_84 : decode cX10_init 84 = .ok (.invokespecial 52, 3) := by decide +kernel
theorem dX10_init_87 : decode cX10_init 87 = .ok (.putfield 53, 3) := by decide +kernel
theorem dX10_init_90 : decode cX10_init 90 = .ok (.return_, 1) := by decide +kernel
set_option maxRecDepth 20000 in
theorem ggX10_board_X9_renew : GoodIn wsX10_board wsX9_renew := goodIn_r _ [6, 7, 8, 9, 10, 11, 5, 12, 13, 14, 15, 16, 68, 69, 70] (by decide +kernel) (by decide +kernel)
set_option maxRecDepth 20000 in
theorem gX10_board_X9_renew : GoodIn wsX10_board (wsV RX10 57 RX9 yX9_renew wsX9_renew) := goodIn_app (goodIn_of _ (by decide +kernel)) ggX10_board_X9_renew
set_option maxRecDepth 20000 in
theorem ggX10_board_X10_endPlay : GoodIn wsX10_board wsX10_endPlay := goodIn_r _ [21, 22, 23, 24, 25, 26, 27, 28, 29, 30, 31, 32, 33, 34, 35, 36, 37, 38, 39, 40, 41, 42, 43, 44, 45, 46, 47, 48, 14, 15, 16, 49, 50, 51, 52, 53, 54, 55, 56, 57, 58, 59, 60, 61, 62, 63, 64, 65, 66, 67, 71, 72, 73, 74, 75, 76, 77, 78, 79, 80, 81, 82, 83, 84, 85, 86, 87, 88, 89, 90, 91, 92, 93, 94, 95, 96, 97, 98, 99, 100, 101, 102, 103, 104, 105, 106, 107, 108, 109, 110, 111] (by decide +kernel) (by decide +kernel)
set_option maxRecDepth 20000 in
theorem gX10_board_X10_endPlay : GoodIn wsX10_board (wsV RX10 61 RX10 yX10_endPlay wsX10_endPlay) := goodIn_app (goodIn_of _ (by decide +kernel)) ggX10_board_X10_endPlay
theorem dX10_board_0 : decode cX10_board 0 = .ok (.aload_n 0, 1) := by decide +kernel
theorem dX10_board_1 : decode cX10_board 1 = .ok (.getfield 10, 3) := by decide +kernel
theorem dX10_board_4 : decode cX10_board 4 = .ok (.iload_n 1, 1) := by decide +kernel
theorem dX10_board_5 : decode cX10_board 5 = .ok (.iload_n 2, 1) := by decide +kernel
theorem dX10_board_6 : decode cX10_board 6 = .ok (.invokevirtual 57, 3) := by decide +kernel
theorem dX10_board_9 : decode cX10_board 9 = .ok (.ifCond .ne 5, 3) := by decide +kernel
theorem dX10_board_12 : decode cX10_board 12 = .ok (.iconst 0, 1) := by decide +kernel
theorem dX10_board_13 : decode cX10_board 13 = .ok (.ireturn, 1) := by decide +kernel
theorem dX10_board_14 : decode cX10_board 14 = .ok (.aload_n 0, 1) := by decide +kernel
theorem dX10_board_15 : decode cX10_board 15 = .ok (.invokevirtual 61, 3) := by decide +kernel
theorem dX10_board_18 : decode cX10_board 18 = .ok (.iconst 1, 1) := by decide +kernel
theorem dX10_board_19 : decode cX10_board 19 = .ok (.ireturn, 1) := by decide +kernel
set_option maxRecDepth 20000 in
theorem ggX10_line_X4_isThere : GoodIn wsX10_line wsX4_isThere := goodIn_r _ [7, 8, 23, 24, 25, 26, 27] (by decide +kernel) (by decide +kernel)
set_option maxRecDepth 20000 in
theorem gX10_line_X4_isThere : GoodIn wsX10_line (wsV RX10 64 RX4 yX4_isThere wsX4_isThere) := goodIn_app (goodIn_of _ (by decide +kernel)) ggX10_line_X4_isThere
set_option maxRecDepth 20000 in
theorem ggX10_line_X9_tell : GoodIn wsX10_line wsX9_tell := goodIn_r _ [13, 14, 15, 16, 28, 29, 30] (by decide +kernel) (by decide +kernel)
set_option maxRecDepth 20000 in
theorem gX10_line_X9_tell : GoodIn wsX10_line (wsV RX10 68 RX9 yX9_tell wsX9_tell) := goodIn_app (goodIn_of _ (by decide +kernel)) ggX10_line_X9_tell
theorem dX10_line_0 : decode cX10_line 0 = .ok (.aload_n 0, 1) := by decide +kernel
theorem dX10_line_1 : decode cX10_line 1 = .ok (.getfield 37, 3) := by decide +kernel
theorem dX10_line_4 : decode cX10_line 4 = .ok (.invokevirtual 64, 3) := by decide +kernel
theorem dX10_line_7 : decode cX10_line 7 = .ok (.ifCond .ne 20, 3) := by decide +kernel
theorem dX10_line_10 : decode cX10_line 10 = .ok (.aload_n 0, 1) := by decide +kernel
theorem dX10_line_11 : decode cX10_line 11 = .ok (.getfield 10, 3) := by decide +kernel
theorem dX10_line_14 : decode cX10_line 14 = .ok (.iload_n 1, 1) := by decide +kernel
theorem dX10_line_15 : decode cX10_line 15 = .ok (.iload_n 2, 1) := by decide +kernel
theorem dX10_line_16 : decode cX10_line 16 = .ok (.iload_n 3, 1) := by decide +kernel
theorem dX10_line_17 : decode cX10_line 17 = .ok (.invokevirtual 68, 3) := by decide +kernel
theorem dX10_line_20 : decode cX10_line 20 = .ok (.ifCond .eq 7, 3) := by decide +kernel
theorem dX10_line_23 : decode cX10_line 23 = .ok (.iconst 1, 1) := by decide +kernel
theorem dX10_line_24 : decode cX10_line 24 = .ok (.goto 4, 3) := by decide +kernel
theorem dX10_line_27 : decode cX10_line 27 = .ok (.iconst 0, 1) := by decide +kernel
theorem dX10_line_28 : decode cX10_line 28 = .ok (.ireturn, 1) := by decide +kernel
set_option maxRecDepth 20000 in
theorem ggX10_law_X4_isThere : GoodIn wsX10_law wsX4_isThere := goodIn_r _ [7, 8, 25, 26, 27, 28, 29] (by decide +kernel) (by decide +kernel)
set_option maxRecDepth 20000 in
theorem gX10_law_X4_isThere : GoodIn wsX10_law (wsV RX10 64 RX4 yX4_isThere wsX4_isThere) := goodIn_app (goodIn_of _ (by decide +kernel)) ggX10_law_X4_isThere
set_option maxRecDepth 20000 in
theorem ggX10_law_X1_change : GoodIn wsX10_law wsX1_change := goodIn_r _ [13, 14, 15, 16, 17, 18, 30, 31, 32, 33, 34] (by decide +kernel) (by decide +kernel)
set_option maxRecDepth 20000 in
theorem gX10_law_X1_change : GoodIn wsX10_law (wsV RX10 72 RX1 yX1_change wsX1_change) := goodIn_app (goodIn_of _ (by decide +kernel)) ggX10_law_X1_change
theorem dX10_law_0 : decode cX10_law 0 = .ok (.aload_n 0, 1) := by decide +kernel
theorem dX10_law_1 : decode cX10_law 1 = .ok (.getfield 37, 3) := by decide +kernel
theorem dX10_law_4 : decode cX10_law 4 = .ok (.invokevirtual 64, 3) := by decide +kernel
theorem dX10_law_7 : decode cX10_law 7 = .ok (.ifCond .ne 24, 3) := by decide +kernel
theorem dX10_law_10 : decode cX10_law 10 = .ok (.aload_n 0, 1) := by decide +kernel
theorem dX10_law_11 : decode cX10_law 11 = .ok (.getfield 19, 3) := by decide +kernel
theorem dX10_law_14 : decode cX10_law 14 = .ok (.iload_n 1, 1) := by decide +kernel
theorem dX10_law_15 : decode cX10_law 15 = .ok (.iload_n 2, 1) := by decide +kernel
theorem dX10_law_16 : decode cX10_law 16 = .ok (.iload_n 3, 1) := by decide +kernel
theorem dX10_law_17 : decode cX10_law 17 = .ok (.iload 4, 2) := by decide +kernel
theorem dX10_law_19 : decode cX10_law 19 = .ok (.iload 5, 2) := by decide +kernel
theorem dX10_law_21 : decode cX10_law 21 = .ok (.invokevirtual 72, 3) := by decide +kernel
theorem dX10_law_24 : decode cX10_law 24 = .ok (.ifCond .eq 7, 3) := by decide +kernel
theorem dX10_law_27 : decode cX10_law 27 = .ok (.iconst 1, 1) := by decide +kernel
theorem dX10_law_28 : decode cX10_law 28 = .ok (.goto 4, 3) := by decide +kernel
theorem dX10_law_31 : decode cX10_law 31 = .ok (.iconst 0, 1) := by decide +kernel
theorem dX10_law_32 : decode cX10_law 32 = .ok (.ireturn, 1) := by decide +kernel
set_option maxRecDepth 20000 in
theorem ggX10_begin_X4_isThere : GoodIn wsX10_begin wsX4_isThere := goodIn_r _ [9, 10, 151, 152, 153, 154, 155] (by decide +kernel) (by decide +kernel)
set_option maxRecDepth 20000 in
theorem gX10_begin_X4_isThere : GoodIn wsX10_begin (wsV RX10 64 RX4 yX4_isThere wsX4_isThere) := goodIn_app (goodIn_of _ (by decide +kernel)) ggX10_begin_X4_isThere
set_option maxRecDepth 20000 in
theorem ggX10_begin_X10_isSide : GoodIn wsX10_begin wsX10_isSide := goodIn_r _ [14] (by decide +kernel) (by decide +kernel)
set_option maxRecDepth 20000 in
theorem gX10_begin_X10_isSide : GoodIn wsX10_begin (va_wsS RX10 76 yX10_isSide wsX10_isSide) := goodIn_app (goodIn_of _ (by decide +kernel)) ggX10_begin_X10_isSide
set_option maxRecDepth 20000 in
theorem ggX10_begin_X9_canBegin : GoodIn wsX10_begin wsX9_canBegin := goodIn_r _ [19, 20, 21, 22, 23, 18, 24, 25, 26, 27, 13, 28, 29, 30, 156, 157, 158] (by decide +kernel) (by decide +kernel)
set_option maxRecDepth 20000 in
theorem gX10_begin_X9_canBegin : GoodIn wsX10_begin (wsV RX10 80 RX9 yX9_canBegin wsX9_canBegin) := goodIn_app (goodIn_of _ (by decide +kernel)) ggX10_begin_X9_canBegin
theorem dX10_begin_0 : decode cX10_begin 0 = .ok (.aload_n 0, 1) := by decide +kernel
theorem dX10_begin_1 : decode cX10_begin 1 = .ok (.getfield 37, 3) := by decide +kernel
theorem dX10_begin_4 : decode cX10_begin 4 = .ok (.invokevirtual 64, 3) := by decide +kernel
theorem dX10_begin_7 : decode cX10_begin 7 = .ok (.ifCond .ne 20, 3) := by decide +kernel
theorem dX10_begin_10 : decode cX10_begin 10 = .ok (.iload_n 1, 1) := by decide +kernel
theorem dX10_begin_11 : decode cX10_begin 11 = .ok (.invokestatic 76, 3) := by decide +kernel
theorem dX10_begin_14 : decode cX10_begin 14 = .ok (.ifCond .eq 13, 3) := by decide +kernel
theorem dX10_begin_17 : decode cX10_begin 17 = .ok (.aload_n 0, 1) := by decide +kernel
theorem dX10_begin_18 : decode cX10_begin 18 = .ok (.getfield 10, 3) := by decide +kernel
theorem dX10_begin_21 : decode cX10_begin 21 = .ok (.invokevirtual 80, 3) := by decide +kernel
theorem dX10_begin_24 : decode cX10_begin 24 = .ok (.ifCond .ne 5, 3) := by decide +kernel
theorem dX10_begin_27 : decode cX10_begin 27 = .ok (.iconst (-1), 1) := by decide +kernel
theorem dX10_begin_28 : decode cX10_begin 28 = .ok (.ireturn, 1) := by decide +kernel
set_option maxRecDepth 20000 in
theorem ggX10_stop_X4_isThere : GoodIn wsX10_stop wsX4_isThere := goodIn_r _ [6, 7, 59, 60, 61, 62, 63] (by decide +kernel) (by decide +kernel)
set_option maxRecDepth 20000 in
theorem gX10_stop_X4_isThere : GoodIn wsX10_stop (wsV RX10 64 RX4 yX4_isThere wsX4_isThere) := goodIn_app (goodIn_of _ (by decide +kernel)) ggX10_stop_X4_isThere
theorem dX10_stop_0 : decode cX10_stop 0 = .ok (.aload_n 0, 1) := by decide +kernel
theorem dX10_stop_1 : decode cX10_stop 1 = .ok (.getfield 37, 3) := by decide +kernel
theorem dX10_stop_4 : decode cX10_stop 4 = .ok (.invokevirtual 64, 3) := by decide +kernel
theorem dX10_stop_7 : decode cX10_stop 7 = .ok (.ifCond .ne 5, 3) := by decide +kernel
theorem dX10_stop_10 : decode cX10_stop 10 = .ok (.iconst 0, 1) := by decide +kernel
theorem dX10_stop_11 : decode cX10_stop 11 = .ok (.ireturn, 1) := by decide +kernel
set_option maxRecDepth 20000 in
theorem ggX10_go_X4_tryMove : GoodIn wsX10_go wsX4_tryMove := goodIn_r _ [6, 7, 8, 9, 10, 11, 12, 5, 13, 14, 15, 16, 17, 18, 19, 20, 21, 22, 23, 24, 25, 26, 27, 28, 29, 30, 31, 32, 33, 34, 35, 36, 37, 38, 39, 40, 41, 42, 43, 44, 45, 46, 47, 48, 49, 50, 51, 52, 53, 54, 55, 56, 57, 58, 59, 60, 61, 62, 63, 64, 65, 66, 67, 68, 69, 70, 71, 72, 73, 74, 75, 76, 77, 78, 79, 80, 81, 82, 83, 84, 85, 86, 87, 88, 89, 90, 91, 92, 93, 94, 95, 96, 97, 98, 99, 100, 101, 102, 103, 104, 105, 106, 107, 108, 109, 110, 111, 112, 113, 114, 115, 116, 117, 118, 119, 120, 121, 122, 123, 124, 125, 126, 127, 128, 129, 130, 131, 132, 133, 134, 135, 136, 137, 138, 139, 140, 141, 142, 143, 144, 145, 146, 147, 148, 149, 150, 151, 152, 153, 154, 161, 162, 163, 164, 165, 166, 167, 168, 169, 170, 171, 172, 173, 174, 175, 176, 177, 178, 179, 180, 181, 182, 183, 184, 185, 186, 187, 188, 189, 190, 191, 192, 193, 194, 195, 196] (by decide +kernel) (by decide +kernel)
set_option maxRecDepth 20000 in
theorem gX10_go_X4_tryMove : GoodIn wsX10_go (wsV RX10 94 RX4 yX4_tryMove wsX4_tryMove) := goodIn_app (goodIn_of _ (by decide +kernel)) ggX10_go_X4_tryMove
theorem dX10_go_0 : decode cX10_go 0 = .ok (.aload_n 0, 1) := by decide +kernel
theorem dX10_go_1 : decode cX10_go 1 = .ok (.getfield 37, 3) := by decide +kernel
theorem dX10_go_4 : decode cX10_go 4 = .ok (.iload_n 1, 1) := by decide +kernel
theorem dX10_go_5 : decode cX10_go 5 = .ok (.iload_n 2, 1) := by decide +kernel
theorem dX10_go_6 : decode cX10_go 6 = .ok (.iload_n 3, 1) := by decide +kernel
theorem dX10_go_7 : decode cX10_go 7 = .ok (.invokevirtual 94, 3) := by decide +kernel
theorem dX10_go_10 : decode cX10_go 10 = .ok (.ireturn, 1) := by decide +kernel
set_option maxRecDepth 20000 in
theorem ggX10_why_X4_reason : GoodIn wsX10_why wsX4_reason := goodIn_r _ [6, 7, 8, 9, 10, 11, 12, 13, 14, 15, 16, 17, 18, 19, 20, 21, 22, 23, 24, 25, 26, 27, 28, 29, 30, 31, 32, 33, 34, 35, 36, 37, 38, 39, 40, 41, 42, 5, 43, 44, 45, 46, 47, 48, 49, 50, 51, 52, 53, 54, 55, 56, 57, 58, 59, 60, 61, 62, 63, 64, 65, 66, 67, 68, 69, 70, 71, 72, 73, 74, 75, 76, 77, 78, 79, 80, 81, 82, 83, 84, 85, 86, 87, 88, 89, 90, 91, 92, 93, 94, 95, 96, 97, 98, 99, 100, 101, 102, 103, 110, 111, 112, 113, 114, 115, 116, 117, 118, 119, 120, 121, 122, 123, 124, 125, 126, 127, 128, 129, 130, 131, 132, 133, 134, 135, 136, 137, 138, 139, 140, 141, 142, 143, 144, 145] (by decide +kernel) (by decide +kernel)
set_option maxRecDepth 20000 in
theorem gX10_why_X4_reason : GoodIn wsX10_why (wsV RX10 98 RX4 yX4_reason wsX4_reason) := goodIn_app (goodIn_of _ (by decide +kernel)) ggX10_why_X4_reason
theorem dX10_why_0 : decode cX10_why 0 = .ok (.aload_n 0, 1) := by decide +kernel
theorem dX10_why_1 : decode cX10_why 1 = .ok (.getfield 37, 3) := by decide +kernel
theorem dX10_why_4 : decode cX10_why 4 = .ok (.iload_n 1, 1) := by decide +kernel
theorem dX10_why_5 : decode cX10_why 5 = .ok (.iload_n 2, 1) := by decide +kernel
theorem dX10_why_6 : decode cX10_why 6 = .ok (.iload_n 3, 1) := by decide +kernel
theorem dX10_why_7 : decode cX10_why 7 = .ok (.invokevirtual 98, 3) := by decide +kernel
theorem dX10_why_10 : decode cX10_why 10 = .ok (.ireturn, 1) := by decide +kernel
set_option maxRecDepth 20000 in
theorem ggX10_about_X4_sideOnTurn : GoodIn wsX10_about wsX4_sideOnTurn := goodIn_r _ [8, 9, 10, 42, 43, 44, 45, 46, 68, 69, 70] (by decide +kernel) (by decide +kernel)
set_option maxRecDepth 20000 in
theorem gX10_about_X4_sideOnTurn : GoodIn wsX10_about (wsV RX10 104 RX4 yX4_sideOnTurn wsX4_sideOnTurn) := goodIn_app (goodIn_of _ (by decide +kernel)) ggX10_about_X4_sideOnTurn
set_option maxRecDepth 20000 in
theorem ggX10_about_X4_lost : GoodIn wsX10_about wsX4_lost := goodIn_r _ [14, 15, 10, 16, 17, 18, 19, 20, 21, 42, 43, 44, 45, 46, 47, 48, 49, 50, 51, 52, 53, 54, 55, 68, 69, 70] (by decide +kernel) (by decide +kernel)
set_option maxRecDepth 20000 in
theorem gX10_about_X4_lost : GoodIn wsX10_about (wsV RX10 108 RX4 yX4_lost wsX4_lost) := goodIn_app (goodIn_of _ (by decide +kernel)) ggX10_about_X4_lost
set_option maxRecDepth 20000 in
theorem ggX10_about_X9_size : GoodIn wsX10_about wsX9_size := goodIn_r _ [26, 27, 28, 65, 66, 67] (by decide +kernel) (by decide +kernel)
set_option maxRecDepth 20000 in
theorem gX10_about_X9_size : GoodIn wsX10_about (wsV RX10 120 RX9 yX9_size wsX9_size) := goodIn_app (goodIn_of _ (by decide +kernel)) ggX10_about_X9_size
set_option maxRecDepth 20000 in
theorem ggX10_about_X3_latestTakings : GoodIn wsX10_about wsX3_latestTakings := goodIn_r _ [33, 34, 35, 56, 57, 58, 59, 60, 61, 62, 63, 64] (by decide +kernel) (by decide +kernel)
set_option maxRecDepth 20000 in
theorem gX10_about_X3_latestTakings : GoodIn wsX10_about (wsV RX10 129 RX3 yX3_latestTakings wsX3_latestTakings) := goodIn_app (goodIn_of _ (by decide +kernel)) ggX10_about_X3_latestTakings
theorem dX10_about_0 : decode cX10_about 0 = .ok (.iload_n 1, 1) := by decide +kernel
theorem dX10_about_1 : decode cX10_about 1 = .ok (.tableswitch 143 0 8 #[51, 59, 67, 75, 83, 94, 102, 124, 132], 51) := by decide +kernel
theorem dX10_about_52 : decode cX10_about 52 = .ok (.aload_n 0, 1) := by decide +kernel
theorem dX10_about_53 : decode cX10_about 53 = .ok (.getfield 37, 3) := by decide +kernel
theorem dX10_about_56 : decode cX10_about 56 = .ok (.getfield 101, 3) := by decide +kernel
theorem dX10_about_59 : decode cX10_about 59 = .ok (.ireturn, 1) := by decide +kernel
theorem dX10_about_60 : decode cX10_about 60 = .ok (.aload_n 0, 1) := by decide +kernel
theorem dX10_about_61 : decode cX10_about 61 = .ok (.getfield 37, 3) := by decide +kernel
theorem dX10_about_64 : decode cX10_about 64 = .ok (.invokevirtual 104, 3) := by decide +kernel
theorem dX10_about_67 : decode cX10_about 67 = .ok (.ireturn, 1) := by decide +kernel
theorem dX10_about_68 : decode cX10_about 68 = .ok (.aload_n 0, 1) := by decide +kernel
theorem dX10_about_69 : decode cX10_about 69 = .ok (.getfield 28, 3) := by decide +kernel
theorem dX10_about_72 : decode cX10_about 72 = .ok (.getfield 90, 3) := by decide +kernel
theorem dX10_about_75 : decode cX10_about 75 = .ok (.ireturn, 1) := by decide +kernel
theorem dX10_about_76 : decode cX10_about 76 = .ok (.aload_n 0, 1) := by decide +kernel
theorem dX10_about_77 : decode cX10_about 77 = .ok (.getfield 37, 3) := by decide +kernel
theorem dX10_about_80 : decode cX10_about 80 = .ok (.invokevirtual 108, 3) := by decide +kernel
theorem dX10_about_83 : decode cX10_about 83 = .ok (.ireturn, 1) := by decide +kernel
theorem dX10_about_84 : decode cX10_about 84 = .ok (.aload_n 0, 1) := by decide +kernel
theorem dX10_about_85 : decode cX10_about 85 = .ok (.getfield 37, 3) := by decide +kernel
theorem dX10_about_88 : decode cX10_about 88 = .ok (.getfield 111, 3) := by decide +kernel
theorem dX10_about_91 : decode cX10_about 91 = .ok (.getfield 115, 3) := by decide +kernel
theorem dX10_about_94 : decode cX10_about 94 = .ok (.ireturn, 1) := by decide +kernel
theorem dX10_about_95 : decode cX10_about 95 = .ok (.aload_n 0, 1) := by decide +kernel
theorem dX10_about_96 : decode cX10_about 96 = .ok (.getfield 10, 3) := by decide +kernel
theorem dX10_about_99 : decode cX10_about 99 = .ok (.invokevirtual 120, 3) := by decide +kernel
theorem dX10_about_102 : decode cX10_about 102 = .ok (.ireturn, 1) := by decide +kernel
theorem dX10_about_103 : decode cX10_about 103 = .ok (.aload_n 0, 1) := by decide +kernel
theorem dX10_about_104 : decode cX10_about 104 = .ok (.getfield 37, 3) := by decide +kernel
theorem dX10_about_107 : decode cX10_about 107 = .ok (.getfield 111, 3) := by decide +kernel
theorem dX10_about_110 : decode cX10_about 110 = .ok (.getfield 123, 3) := by decide +kernel
theorem dX10_about_113 : decode cX10_about 113 = .ok (.aload_n 0, 1) := by decide +kernel
theorem dX10_about_114 : decode cX10_about 114 = .ok (.getfield 37, 3) := by decide +kernel
theorem dX10_about_117 : decode cX10_about 117 = .ok (.getfield 111, 3) := by decide +kernel
theorem dX10_about_120 : decode cX10_about 120 = .ok (.getfield 115, 3) := by decide +kernel
theorem dX10_about_123 : decode cX10_about 123 = .ok (.isub, 1) := by decide +kernel
theorem dX10_about_124 : decode cX10_about 124 = .ok (.ireturn, 1) := by decide +kernel
theorem dX10_about_125 : decode cX10_about 125 = .ok (.aload_n 0, 1) := by decide +kernel
theorem dX10_about_126 : decode cX10_about 126 = .ok (.getfield 10, 3) := by decide +kernel
theorem dX10_about_129 : decode cX10_about 129 = .ok (.getfield 126, 3) := by decide +kernel
theorem dX10_about_132 : decode cX10_about 132 = .ok (.ireturn, 1) := by decide +kernel
theorem dX10_about_133 : decode cX10_about 133 = .ok (.aload_n 0, 1) := by decide +kernel
theorem dX10_about_134 : decode cX10_about 134 = .ok (.getfield 37, 3) := by decide +kernel
theorem dX10_about_137 : decode cX10_about 137 = .ok (.getfield 111, 3) := by decide +kernel
theorem dX10_about_140 : decode cX10_about 140 = .ok (.invokevirtual 129, 3) := by decide +kernel
theorem dX10_about_143 : decode cX10_about 143 = .ok (.ireturn, 1) := by decide +kernel
theorem dX10_about_144 : decode cX10_about 144 = .ok (.iconst (-1), 1) := by decide +kernel
theorem dX10_about_145 : decode cX10_about 145 = .ok (.ireturn, 1) := by decide +kernel
set_option maxRecDepth 20000 in
theorem ggX10_piece_X6_isPiece : GoodIn wsX10_piece wsX6_isPiece := goodIn_r _ [7, 8, 62, 63, 64, 65, 66, 67, 68, 69, 70] (by decide +kernel) (by decide +kernel)
set_option maxRecDepth 20000 in
theorem gX10_piece_X6_isPiece : GoodIn wsX10_piece (wsV RX10 132 RX6 yX6_isPiece wsX6_isPiece) := goodIn_app (goodIn_of _ (by decide +kernel)) ggX10_piece_X6_isPiece
theorem dX10_piece_0 : decode cX10_piece 0 = .ok (.aload_n 0, 1) := by decide +kernel
theorem dX10_piece_1 : decode cX10_piece 1 = .ok (.getfield 28, 3) := by decide +kernel
theorem dX10_piece_4 : decode cX10_piece 4 = .ok (.iload_n 1, 1) := by decide +kernel
theorem dX10_piece_5 : decode cX10_piece 5 = .ok (.invokevirtual 132, 3) := by decide +kernel
theorem dX10_piece_8 : decode cX10_piece 8 = .ok (.ifCond .ne 5, 3) := by decide +kernel
theorem dX10_piece_11 : decode cX10_piece 11 = .ok (.iconst (-1), 1) := by decide +kernel
theorem dX10_piece_12 : decode cX10_piece 12 = .ok (.ireturn, 1) := by decide +kernel
set_option maxRecDepth 20000 in
theorem ggX10_on_X8_holderOf : GoodIn wsX10_on wsX8_holderOf := goodIn_r _ [6, 7, 19, 20, 21] (by decide +kernel) (by decide +kernel)
set_option maxRecDepth 20000 in
theorem gX10_on_X8_holderOf : GoodIn wsX10_on (wsV RX10 156 RX8 yX8_holderOf wsX8_holderOf) := goodIn_app (goodIn_of _ (by decide +kernel)) ggX10_on_X8_holderOf
theorem dX10_on_0 : decode cX10_on 0 = .ok (.aload_n 0, 1) := by decide +kernel
theorem dX10_on_1 : decode cX10_on 1 = .ok (.getfield 37, 3) := by decide +kernel
theorem dX10_on_4 : decode cX10_on 4 = .ok (.getfield 139, 3) := by decide +kernel
theorem dX10_on_7 : decode cX10_on 7 = .ok (.iload_n 1, 1) := by decide +kernel
theorem dX10_on_8 : decode cX10_on 8 = .ok (.invokevirtual 156, 3) := by decide +kernel
theorem dX10_on_11 : decode cX10_on 11 = .ok (.ireturn, 1) := by decide +kernel
set_option maxRecDepth 20000 in
theorem ggX10_field_X4_isThere : GoodIn wsX10_field wsX4_isThere := goodIn_r _ [8, 9, 37, 38, 39, 40, 41] (by decide +kernel) (by decide +kernel)
set_option maxRecDepth 20000 in
theorem gX10_field_X4_isThere : GoodIn wsX10_field (wsV RX10 64 RX4 yX4_isThere wsX4_isThere) := goodIn_app (goodIn_of _ (by decide +kernel)) ggX10_field_X4_isThere
theorem dX10_field_0 : decode cX10_field 0 = .ok (.aload_n 0, 1) := by decide +kernel
theorem dX10_field_1 : decode cX10_field 1 = .ok (.getfield 37, 3) := by decide +kernel
theorem dX10_field_4 : decode cX10_field 4 = .ok (.invokevirtual 64, 3) := by decide +kernel
theorem dX10_field_7 : decode cX10_field 7 = .ok (.ifCond .eq 18, 3) := by decide +kernel
theorem dX10_field_25 : decode cX10_field 25 = .ok (.iconst (-1), 1) := by decide +kernel
theorem dX10_field_26 : decode cX10_field 26 = .ok (.ireturn, 1) := by decide +kernel
set_option maxRecDepth 20000 in
theorem ggX10_took_X3_latestVictim : GoodIn wsX10_took wsX3_latestVictim := goodIn_r _ [6, 7, 8, 9, 21, 22, 23, 24, 25, 26, 27, 28, 29] (by decide +kernel) (by decide +kernel)
set_option maxRecDepth 20000 in
theorem gX10_took_X3_latestVictim : GoodIn wsX10_took (wsV RX10 171 RX3 yX3_latestVictim wsX3_latestVictim) := goodIn_app (goodIn_of _ (by decide +kernel)) ggX10_took_X3_latestVictim
theorem dX10_took_0 : decode cX10_took 0 = .ok (.aload_n 0, 1) := by decide +kernel
theorem dX10_took_1 : decode cX10_took 1 = .ok (.getfield 37, 3) := by decide +kernel
theorem dX10_took_4 : decode cX10_took 4 = .ok (.getfield 111, 3) := by decide +kernel
theorem dX10_took_7 : decode cX10_took 7 = .ok (.iload_n 1, 1) := by decide +kernel
theorem dX10_took_8 : decode cX10_took 8 = .ok (.invokevirtual 171, 3) := by decide +kernel
theorem dX10_took_11 : decode cX10_took 11 = .ok (.ireturn, 1) := by decide +kernel
set_option maxRecDepth 20000 in
theorem ggX10_ring_X5_holds : GoodIn wsX10_ring wsX5_holds := goodIn_r _ [7, 8, 9, 10, 11, 12, 13, 14, 15, 16, 17, 18, 19, 20, 21, 22, 23, 24, 25, 26, 27, 28, 29, 30, 31, 32, 6, 33, 34, 35, 36, 37, 38, 39, 40, 41, 42, 43, 55, 56, 57, 58, 59, 60, 61, 62, 63, 64, 65, 66, 67, 68, 69, 70, 71, 72, 73, 74] (by decide +kernel) (by decide +kernel)
set_option maxRecDepth 20000 in
theorem gX10_ring_X5_holds : GoodIn wsX10_ring (wsV RX10 174 RX5 yX5_holds wsX5_holds) := goodIn_app (goodIn_of _ (by decide +kernel)) ggX10_ring_X5_holds
theorem dX10_ring_0 : decode cX10_ring 0 = .ok (.aload_n 0, 1) := by decide +kernel
theorem dX10_ring_1 : decode cX10_ring 1 = .ok (.getfield 46, 3) := by decide +kernel
theorem dX10_ring_4 : decode cX10_ring 4 = .ok (.aload_n 0, 1) := by decide +kernel
theorem dX10_ring_5 : decode cX10_ring 5 = .ok (.getfield 37, 3) := by decide +kernel
theorem dX10_ring_8 : decode cX10_ring 8 = .ok (.getfield 139, 3) := by decide +kernel
theorem dX10_ring_11 : decode cX10_ring 11 = .ok (.iconst (-1), 1) := by decide +kernel
theorem dX10_ring_12 : decode cX10_ring 12 = .ok (.invokevirtual 174, 3) := by decide +kernel
theorem dX10_ring_15 : decode cX10_ring 15 = .ok (.ireturn, 1) := by decide +kernel
set_option maxRecDepth 20000 in
theorem ggX10_needed_X6_isPiece : GoodIn wsX10_needed wsX6_isPiece := goodIn_r _ [8, 9, 52, 53, 54, 55, 56, 57, 58, 59, 60] (by decide +kernel) (by decide +kernel)
set_option maxRecDepth 20000 in
theorem gX10_needed_X6_isPiece : GoodIn wsX10_needed (wsV RX10 132 RX6 yX6_isPiece wsX6_isPiece) := goodIn_app (goodIn_of _ (by decide +kernel)) ggX10_needed_X6_isPiece
theorem dX10_needed_0 : decode cX10_needed 0 = .ok (.aload_n 0, 1) := by decide +kernel
theorem dX10_needed_1 : decode cX10_needed 1 = .ok (.getfield 28, 3) := by decide +kernel
theorem dX10_needed_4 : decode cX10_needed 4 = .ok (.iload_n 1, 1) := by decide +kernel
theorem dX10_needed_5 : decode cX10_needed 5 = .ok (.invokevirtual 132, 3) := by decide +kernel
theorem dX10_needed_8 : decode cX10_needed 8 = .ok (.ifCond .eq 56, 3) := by decide +kernel
theorem dX10_needed_64 : decode cX10_needed 64 = .ok (.iconst 0, 1) := by decide +kernel
theorem dX10_needed_65 : decode cX10_needed 65 = .ok (.ireturn, 1) := by decide +kernel
set_option maxRecDepth 20000 in
theorem ggX10_back_X4_takeBack : GoodIn wsX10_back wsX4_takeBack := goodIn_r _ [6, 7, 8, 9, 10, 11, 12, 13, 14, 15, 16, 17, 18, 19, 20, 21, 22, 23, 24, 25, 26, 27, 34, 35, 36, 37, 38, 39, 40, 41, 42, 43, 44, 45, 46, 47, 48, 49, 50] (by decide +kernel) (by decide +kernel)
set_option maxRecDepth 20000 in
theorem gX10_back_X4_takeBack : GoodIn wsX10_back (wsV RX10 181 RX4 yX4_takeBack wsX4_takeBack) := goodIn_app (goodIn_of _ (by decide +kernel)) ggX10_back_X4_takeBack
theorem dX10_back_0 : decode cX10_back 0 = .ok (.aload_n 0, 1) := by decide +kernel
theorem dX10_back_1 : decode cX10_back 1 = .ok (.getfield 37, 3) := by decide +kernel
theorem dX10_back_4 : decode cX10_back 4 = .ok (.invokevirtual 181, 3) := by decide +kernel
theorem dX10_back_7 : decode cX10_back 7 = .ok (.ireturn, 1) := by decide +kernel
set_option maxRecDepth 20000 in
theorem ggX10_again_X4_redo : GoodIn wsX10_again wsX4_redo := goodIn_r _ [6, 7, 8, 9, 10, 11, 12, 13, 14, 15, 16, 5, 17, 18, 19, 20, 21, 22, 23, 24, 25, 26, 27, 28, 29, 30, 31, 32, 33, 34, 35, 36, 37, 38, 39, 40, 41, 42, 43, 44, 45, 46, 47, 48, 49, 50, 51, 52, 53, 54, 55, 56, 57, 58, 59, 60, 61, 62, 63, 64, 65, 66, 67, 68, 69, 70, 71, 72, 73, 74, 75, 76, 77, 78, 79, 80, 81, 82, 83, 84, 85, 86, 87, 88, 89, 90, 91, 92, 93, 94, 95, 96, 97, 98, 99, 100, 101, 102, 103, 104, 105, 106, 107, 108, 109, 110, 111, 112, 113, 114, 115, 116, 117, 118, 119, 120, 121, 122, 123, 124, 125, 126, 127, 128, 135, 136, 137, 138, 139, 140, 141, 142, 143, 144, 145, 146, 147, 148, 149, 150, 151, 152, 153, 154, 155, 156, 157, 158, 159, 160, 161, 162, 163, 164, 165, 166, 167, 168, 169, 170] (by decide +kernel) (by decide +kernel)
set_option maxRecDepth 20000 in
theorem gX10_again_X4_redo : GoodIn wsX10_again (wsV RX10 184 RX4 yX4_redo wsX4_redo) := goodIn_app (goodIn_of _ (by decide +kernel)) ggX10_again_X4_redo
theorem dX10_again_0 : decode cX10_again 0 = .ok (.aload_n 0, 1) := by decide +kernel
theorem dX10_again_1 : decode cX10_again 1 = .ok (.getfield 37, 3) := by decide +kernel
theorem dX10_again_4 : decode cX10_again 4 = .ok (.invokevirtual 184, 3) := by decide +kernel
theorem dX10_again_7 : decode cX10_again 7 = .ok (.ireturn, 1) := by decide +kernel
set_option maxRecDepth 20000 in
theorem ggX10_solve_X4_isThere : GoodIn wsX10_solve wsX4_isThere := goodIn_r _ [7, 8, 195, 196, 197, 198, 199] (by decide +kernel) (by decide +kernel)
set_option maxRecDepth 20000 in
theorem gX10_solve_X4_isThere : GoodIn wsX10_solve (wsV RX10 64 RX4 yX4_isThere wsX4_isThere) := goodIn_app (goodIn_of _ (by decide +kernel)) ggX10_solve_X4_isThere
theorem dX10_solve_0 : decode cX10_solve 0 = .ok (.aload_n 0, 1) := by decide +kernel
theorem dX10_solve_1 : decode cX10_solve 1 = .ok (.getfield 37, 3) := by decide +kernel
theorem dX10_solve_4 : decode cX10_solve 4 = .ok (.invokevirtual 64, 3) := by decide +kernel
theorem dX10_solve_7 : decode cX10_solve 7 = .ok (.ifCond .eq 13, 3) := by decide +kernel
theorem dX10_solve_20 : decode cX10_solve 20 = .ok (.iconst (-1), 1) := by decide +kernel
theorem dX10_solve_21 : decode cX10_solve 21 = .ok (.ireturn, 1) := by decide +kernel
set_option maxRecDepth 20000 in
theorem ggX10_worth_X7_worthOf : GoodIn wsX10_worth wsX7_worthOf := goodIn_r _ [7, 8, 9, 10, 11, 6, 12, 13, 14, 15, 16, 17, 18, 19, 20, 21, 22, 34, 35, 36, 37, 38, 39, 40, 41, 42, 43, 44, 45, 46, 47, 48, 49, 50, 51, 52, 53, 54, 55, 56, 57, 58, 59, 60, 61, 62, 63, 64, 65] (by decide +kernel) (by decide +kernel)
set_option maxRecDepth 20000 in
theorem gX10_worth_X7_worthOf : GoodIn wsX10_worth (wsV RX10 190 RX7 yX7_worthOf wsX7_worthOf) := goodIn_app (goodIn_of _ (by decide +kernel)) ggX10_worth_X7_worthOf
theorem dX10_worth_0 : decode cX10_worth 0 = .ok (.aload_n 0, 1) := by decide +kernel
theorem dX10_worth_1 : decode cX10_worth 1 = .ok (.getfield 53, 3) := by decide +kernel
theorem dX10_worth_4 : decode cX10_worth 4 = .ok (.aload_n 0, 1) := by decide +kernel
theorem dX10_worth_5 : decode cX10_worth 5 = .ok (.getfield 37, 3) := by decide +kernel
theorem dX10_worth_8 : decode cX10_worth 8 = .ok (.getfield 139, 3) := by decide +kernel
theorem dX10_worth_11 : decode cX10_worth 11 = .ok (.invokevirtual 190, 3) := by decide +kernel
theorem dX10_worth_14 : decode cX10_worth 14 = .ok (.ireturn, 1) := by decide +kernel
set_option maxRecDepth 20000 in
theorem ggX10_deep_X7_deepOf : GoodIn wsX10_deep wsX7_deepOf := goodIn_r _ [7, 8, 9, 10, 11, 6, 12, 13, 14, 15, 16, 17, 18, 19, 20, 21, 22, 34, 35, 36, 37, 38, 39, 40, 41, 42, 43, 44, 45, 46, 47, 48, 49, 50, 51, 52, 53, 54, 55, 56, 57, 58, 59, 60, 61, 62, 63, 64, 65] (by decide +kernel) (by decide +kernel)
set_option maxRecDepth 20000 in
theorem gX10_deep_X7_deepOf : GoodIn wsX10_deep (wsV RX10 194 RX7 yX7_deepOf wsX7_deepOf) := goodIn_app (goodIn_of _ (by decide +kernel)) ggX10_deep_X7_deepOf
theorem dX10_deep_0 : decode cX10_deep 0 = .ok (.aload_n 0, 1) := by decide +kernel
theorem dX10_deep_1 : decode cX10_deep 1 = .ok (.getfield 53, 3) := by decide +kernel
theorem dX10_deep_4 : decode cX10_deep 4 = .ok (.aload_n 0, 1) := by decide +kernel
theorem dX10_deep_5 : decode cX10_deep 5 = .ok (.getfield 37, 3) := by decide +kernel
theorem dX10_deep_8 : decode cX10_deep 8 = .ok (.getfield 139, 3) := by decide +kernel
theorem dX10_deep_11 : decode cX10_deep 11 = .ok (.invokevirtual 194, 3) := by decide +kernel
theorem dX10_deep_14 : decode cX10_deep 14 = .ok (.ireturn, 1) := by decide +kernel
set_option maxRecDepth 20000 in
theorem ggX10_best_X7_bestMove : GoodIn wsX10_best wsX7_bestMove := goodIn_r _ [7, 8, 9, 10, 11, 12, 13, 6, 14, 15, 16, 17, 18, 19, 20, 21, 22, 23, 24, 25, 26, 27, 28, 29, 30, 31, 32, 33, 34, 35, 36, 37, 38, 39, 40, 41, 42, 43, 44, 45, 46, 47, 48, 49, 50, 51, 52, 53, 54, 55, 56, 57, 58, 59, 60, 61, 62, 63, 64, 65, 66, 67, 68, 69, 70, 71, 72, 73, 74, 75, 76, 77, 78, 79, 80, 81, 82, 83, 84, 85, 86, 87, 88, 89, 90, 91, 92, 104, 105, 106, 107, 108, 109, 110, 111, 112, 113, 114, 115, 116, 117, 118, 119, 120, 121, 122, 123, 124, 125, 126, 127, 128, 129, 130, 131, 132, 133, 134, 135, 136, 137, 138, 139, 140] (by decide +kernel) (by decide +kernel)
set_option maxRecDepth 20000 in
theorem gX10_best_X7_bestMove : GoodIn wsX10_best (wsV RX10 197 RX7 yX7_bestMove wsX7_bestMove) := goodIn_app (goodIn_of _ (by decide +kernel)) ggX10_best_X7_bestMove
theorem dX10_best_0 : decode cX10_best 0 = .ok (.aload_n 0, 1) := by decide +kernel
theorem dX10_best_1 : decode cX10_best 1 = .ok (.getfield 53, 3) := by decide +kernel
theorem dX10_best_4 : decode cX10_best 4 = .ok (.aload_n 0, 1) := by decide +kernel
theorem dX10_best_5 : decode cX10_best 5 = .ok (.getfield 37, 3) := by decide +kernel
theorem dX10_best_8 : decode cX10_best 8 = .ok (.getfield 139, 3) := by decide +kernel
theorem dX10_best_11 : decode cX10_best 11 = .ok (.invokevirtual 197, 3) := by decide +kernel
theorem dX10_best_14 : decode cX10_best 14 = .ok (.ireturn, 1) := by decide +kernel
set_option maxRecDepth 20000 in
theorem ggX10_count_X7_tally : GoodIn wsX10_count wsX7_tally := goodIn_r _ [6, 7, 8, 9, 10, 11, 18, 19, 20, 21, 22, 23, 24, 25, 26, 27, 28, 29, 30, 31, 32] (by decide +kernel) (by decide +kernel)
set_option maxRecDepth 20000 in
theorem gX10_count_X7_tally : GoodIn wsX10_count (wsV RX10 200 RX7 yX7_tally wsX7_tally) := goodIn_app (goodIn_of _ (by decide +kernel)) ggX10_count_X7_tally
theorem dX10_count_0 : decode cX10_count 0 = .ok (.aload_n 0, 1) := by decide +kernel
theorem dX10_count_1 : decode cX10_count 1 = .ok (.getfield 53, 3) := by decide +kernel
theorem dX10_count_4 : decode cX10_count 4 = .ok (.iload_n 1, 1) := by decide +kernel
theorem dX10_count_5 : decode cX10_count 5 = .ok (.iload_n 2, 1) := by decide +kernel
theorem dX10_count_6 : decode cX10_count 6 = .ok (.invokevirtual 200, 3) := by decide +kernel
theorem dX10_count_9 : decode cX10_count 9 = .ok (.ireturn, 1) := by decide +kernel
set_option maxRecDepth 20000 in
theorem ggX10_most_X7_greatestDeep : GoodIn wsX10_most wsX7_greatestDeep := goodIn_r _ [6, 7, 8, 9, 10, 11, 18, 19, 20, 21, 22, 23, 24, 25, 26, 27, 28, 29, 30, 31, 32] (by decide +kernel) (by decide +kernel)
set_option maxRecDepth 20000 in
theorem gX10_most_X7_greatestDeep : GoodIn wsX10_most (wsV RX10 204 RX7 yX7_greatestDeep wsX7_greatestDeep) := goodIn_app (goodIn_of _ (by decide +kernel)) ggX10_most_X7_greatestDeep
theorem dX10_most_0 : decode cX10_most 0 = .ok (.aload_n 0, 1) := by decide +kernel
theorem dX10_most_1 : decode cX10_most 1 = .ok (.getfield 53, 3) := by decide +kernel
theorem dX10_most_4 : decode cX10_most 4 = .ok (.iload_n 1, 1) := by decide +kernel
theorem dX10_most_5 : decode cX10_most 5 = .ok (.invokevirtual 204, 3) := by decide +kernel
theorem dX10_most_8 : decode cX10_most 8 = .ok (.ireturn, 1) := by decide +kernel
set_option maxRecDepth 20000 in
theorem ggX10_stand_X7_worthAt : GoodIn wsX10_stand wsX7_worthAt := goodIn_r _ [6, 7, 8, 9, 10, 11, 12, 19, 20, 21, 22, 23, 24, 25, 26, 27, 28, 29, 30, 31, 32, 33] (by decide +kernel) (by decide +kernel)
set_option maxRecDepth 20000 in
theorem gX10_stand_X7_worthAt : GoodIn wsX10_stand (wsV RX10 207 RX7 yX7_worthAt wsX7_worthAt) := goodIn_app (goodIn_of _ (by decide +kernel)) ggX10_stand_X7_worthAt
theorem dX10_stand_0 : decode cX10_stand 0 = .ok (.aload_n 0, 1) := by decide +kernel
theorem dX10_stand_1 : decode cX10_stand 1 = .ok (.getfield 53, 3) := by decide +kernel
theorem dX10_stand_4 : decode cX10_stand 4 = .ok (.iload_n 1, 1) := by decide +kernel
theorem dX10_stand_5 : decode cX10_stand 5 = .ok (.iload_n 2, 1) := by decide +kernel
theorem dX10_stand_6 : decode cX10_stand 6 = .ok (.invokevirtual 207, 3) := by decide +kernel
theorem dX10_stand_9 : decode cX10_stand 9 = .ok (.ireturn, 1) := by decide +kernel
set_option maxRecDepth 20000 in
theorem ggX10_endPlay_X4_finish : GoodIn wsX10_endPlay wsX4_finish := goodIn_r _ [7, 8, 9, 10, 11, 12, 13, 14, 15, 16, 17, 18, 19, 20, 21, 22, 23, 24, 25, 26, 27, 28, 29, 30, 31, 32, 33, 34, 35, 36, 37, 50, 51, 52, 53, 54, 55, 56, 57, 58, 59, 60, 61, 62, 63, 64, 65, 66, 67, 68, 69, 70, 71, 72, 73, 74, 75] (by decide +kernel) (by decide +kernel)
set_option maxRecDepth 20000 in
theorem gX10_endPlay_X4_finish : GoodIn wsX10_endPlay (wsV RX10 210 RX4 yX4_finish wsX4_finish) := goodIn_app (goodIn_of _ (by decide +kernel)) ggX10_endPlay_X4_finish
set_option maxRecDepth 20000 in
theorem ggX10_endPlay_X7_forget : GoodIn wsX10_endPlay wsX7_forget := goodIn_r _ [42, 43, 76, 77, 78, 79, 80, 81, 82, 83, 84, 85, 86, 87, 88, 89, 90] (by decide +kernel) (by decide +kernel)
set_option maxRecDepth 20000 in
theorem gX10_endPlay_X7_forget : GoodIn wsX10_endPlay (wsV RX10 83 RX7 yX7_forget wsX7_forget) := goodIn_app (goodIn_of _ (by decide +kernel)) ggX10_endPlay_X7_forget
theorem dX10_endPlay_0 : decode cX10_endPlay 0 = .ok (.aload_n 0, 1) := by decide +kernel
theorem dX10_endPlay_1 : decode cX10_endPlay 1 = .ok (.getfield 37, 3) := by decide +kernel
theorem dX10_endPlay_4 : decode cX10_endPlay 4 = .ok (.invokevirtual 210, 3) := by decide +kernel
theorem dX10_endPlay_7 : decode cX10_endPlay 7 = .ok (.aload_n 0, 1) := by decide +kernel
theorem dX10_endPlay_8 : decode cX10_endPlay 8 = .ok (.getfield 53, 3) := by decide +kernel
theorem dX10_endPlay_11 : decode cX10_endPlay 11 = .ok (.invokevirtual 83, 3) := by decide +kernel
theorem dX10_endPlay_14 : decode cX10_endPlay 14 = .ok (.return_, 1) := by decide +kernel
theorem dX10_isSide_0 : decode cX10_isSide 0 = .ok (.iload_n 0, 1) := by decide +kernel
theorem dX10_isSide_1 : decode cX10_isSide 1 = .ok (.ifCond .eq 8, 3) := by decide +kernel
theorem dX10_isSide_4 : decode cX10_isSide 4 = .ok (.iload_n 0, 1) := by decide +kernel
theorem dX10_isSide_5 : decode cX10_isSide 5 = .ok (.iconst 1, 1) := by decide +kernel
theorem dX10_isSide_6 : decode cX10_isSide 6 = .ok (.if_icmp .ne 7, 3) := by decide +kernel
theorem dX10_isSide_9 : decode cX10_isSide 9 = .ok (.iconst 1, 1) := by decide +kernel
theorem dX10_isSide_10 : decode cX10_isSide 10 = .ok (.goto 4, 3) := by decide +kernel
theorem dX10_isSide_13 : decode cX10_isSide 13 = .ok (.iconst 0, 1) := by decide +kernel
theorem dX10_isSide_14 : decode cX10_isSide 14 = .ok (.ireturn, 1) := by decide +kernel
theorem dX10_kindOfSign_0 : decode cX10_kindOfSign 0 = .ok (.iload_n 0, 1) := by decide +kernel
theorem dX10_kindOfSign_1 : decode cX10_kindOfSign 1 = .ok (.bipush 7, 2) := by decide +kernel
theorem dX10_kindOfSign_3 : decode cX10_kindOfSign 3 = .ok (.if_icmp .ne 5, 3) := by decide +kernel
theorem dX10_kindOfSign_8 : decode cX10_kindOfSign 8 = .ok (.iload_n 0, 1) := by decide +kernel
theorem dX10_kindOfSign_9 : decode cX10_kindOfSign 9 = .ok (.iconst 1, 1) := by decide +kernel
theorem dX10_kindOfSign_10 : decode cX10_kindOfSign 10 = .ok (.if_icmp .lt 12, 3) := by decide +kernel
theorem dX10_kindOfSign_22 : decode cX10_kindOfSign 22 = .ok (.iconst 0, 1) := by decide +kernel
theorem dX10_kindOfSign_23 : decode cX10_kindOfSign 23 = .ok (.ireturn, 1) := by decide +kernel
theorem dX10_typeOfSign_0 : decode cX10_typeOfSign 0 = .ok (.iload_n 0, 1) := by decide +kernel
theorem dX10_typeOfSign_1 : decode cX10_typeOfSign 1 = .ok (.iconst 5, 1) := by decide +kernel
theorem dX10_typeOfSign_2 : decode cX10_typeOfSign 2 = .ok (.if_icmp .eq 9, 3) := by decide +kernel
theorem dX10_typeOfSign_5 : decode cX10_typeOfSign 5 = .ok (.iload_n 0, 1) := by decide +kernel
theorem dX10_typeOfSign_6 : decode cX10_typeOfSign 6 = .ok (.bipush 7, 2) := by decide +kernel
theorem dX10_typeOfSign_8 : decode cX10_typeOfSign 8 = .ok (.if_icmp .ne 5, 3) := by decide +kernel
theorem dX10_typeOfSign_13 : decode cX10_typeOfSign 13 = .ok (.iload_n 0, 1) := by decide +kernel
theorem dX10_typeOfSign_14 : decode cX10_typeOfSign 14 = .ok (.bipush 6, 2) := by decide +kernel
theorem dX10_typeOfSign_16 : decode cX10_typeOfSign 16 = .ok (.if_icmp .ne 7, 3) := by decide +kernel
theorem dX10_typeOfSign_23 : decode cX10_typeOfSign 23 = .ok (.iconst 0, 1) := by decide +kernel
theorem dX10_typeOfSign_24 : decode cX10_typeOfSign 24 = .ok (.ireturn, 1) := by decide +kernel
theorem dX11_init_0 : decode cX11_init 0 = .ok (.aload_n 0, 1) := by decide +kernel
theorem dX11_init_1 : decode cX11_init 1 = .ok (.invokespecial 1, 3) := by decide +kernel
theorem dX11_init_4 : decode cX11_init 4 = .ok (.aload_n 0, 1) := by decide +kernel
theorem dX11_init_5 : decode cX11_init 5 = .ok (.iconst 3, 1) := by decide +kernel
theorem dX11_init_6 : decode cX11_init 6 = .ok (.putfield 7, 3) := by decide +kernel
theorem dX11_init_9 : decode cX11_init 9 = .ok (.aload_n 0, 1) := by decide +kernel
theorem dX11_init_10 : decode cX11_init 10 = .ok (.iconst 3, 1) := by decide +kernel
theorem dX11_init_11 : decode cX11_init 11 = .ok (.putfield 13, 3) := by decide +kernel
theorem dX11_init_14 : decode cX11_init 14 = .ok (.aload_n 0, 1) := by decide +kernel
theorem dX11_init_15 : decode cX11_init 15 = .ok (.bipush 81, 2) := by decide +kernel
theorem dX11_init_17 : decode cX11_init 17 = .ok (.newarray .int, 2) := by decide +kernel
theorem dX11_init_19 : decode cX11_init 19 = .ok (.putfield 16, 3) := by decide +kernel
theorem dX11_init_22 : decode cX11_init 22 = .ok (.aload_n 0, 1) := by decide +kernel
theorem dX11_init_23 : decode cX11_init 23 = .ok (.iconst 4, 1) := by decide +kernel
theorem dX11_init_24 : decode cX11_init 24 = .ok (.putfield 20, 3) := by decide +kernel
theorem dX11_init_27 : decode cX11_init 27 = .ok (.aload_n 0, 1) := by decide +kernel
theorem dX11_init_28 : decode cX11_init 28 = .ok (.iconst 1, 1) := by decide +kernel
theorem dX11_init_29 : decode cX11_init 29 = .ok (.putfield 23, 3) := by decide +kernel
theorem dX11_init_32 : decode cX11_init 32 = .ok (.aload_n 0, 1) := by decide +kernel
theorem dX11_init_33 : decode cX11_init 33 = .ok (.bipush 40, 2) := by decide +kernel
theorem dX11_init_35 : decode cX11_init 35 = .ok (.newarray .int, 2) := by decide +kernel
theorem dX11_init_37 : decode cX11_init 37 = .ok (.putfield 27, 3) := by decide +kernel
theorem dX11_init_40 : decode cX11_init 40 = .ok (.aload_n 0, 1) := by decide +kernel
theorem dX11_init_41 : decode cX11_init 41 = .ok (.bipush 40, 2) := by decide +kernel
theorem dX11_init_43 : decode cX11_init 43 = .ok (.newarray .int, 2) := by decide +kernel
theorem dX11_init_45 : decode cX11_init 45 = .ok (.putfield 30, 3) := by decide +kernel
theorem dX11_init_48 : decode cX11_init 48 = .ok (.aload_n 0, 1) := by decide +kernel
theorem dX11_init_49 : decode cX11_init 49 = .ok (.bipush 81, 2) := by decide +kernel
theorem dX11_init_51 : decode cX11_init 51 = .ok (.newarray .int, 2) := by decide +kernel
theorem dX11_init_53 : decode cX11_init 53 = .ok (.putfield 33, 3) := by decide +kernel
theorem dX11_init_56 : decode cX11_init 56 = .ok (.aload_n 0, 1) := by decide +kernel
theorem dX11_init_57 : decode cX11_init 57 = .ok (.bipush 81, 2) := by decide +kernel
theorem dX11_init_59 : decode cX11_init 59 = .ok (.newarray .int, 2) := by decide +kernel
theorem dX11_init_61 : decode cX11_init 61 = .ok (.putfield 36, 3) := by decide +kernel
theorem dX11_init_64 : decode cX11_init 64 = .ok (.aload_n 0, 1) := by decide +kernel
theorem dX11_init_65 : decode cX11_init 65 = .ok (.sipush 4200, 3) := by decide +kernel
theorem dX11_init_68 : decode cX11_init 68 = .ok (.newarray .int, 2) := by decide +kernel
theorem dX11_init_70 : decode cX11_init 70 = .ok (.putfield 39, 3) := by decide +kernel
theorem dX11_init_73 : decode cX11_init 73 = .ok (.aload_n 0, 1) := by decide +kernel
theorem dX11_init_74 : decode cX11_init 74 = .ok (.ldc 42, 2) := by decide +kernel
theorem dX11_init_76 : decode cX11_init 76 = .ok (.newarray .byte, 2) := by decide +kernel
theorem dX11_init_78 : decode cX11_init 78 = .ok (.putfield 43, 3) := by decide +kernel
theorem dX11_init_81 : decode cX11_init 81 = .ok (.aload_n 0, 1) := by decide +kernel
theorem dX11_init_82 : decode cX11_init 82 = .ok (.bipush 40, 2) := by decide +kernel
theorem dX11_init_84 : decode cX11_init 84 = .ok (.newarray .boolean, 2) := by decide +kernel
theorem dX11_init_86 : decode cX11_init 86 = .ok (.putfield 47, 3) := by decide +kernel
theorem dX11_init_89 : decode cX11_init 89 = .ok (.aload_n 0, 1) := by decide +kernel
theorem dX11_init_90 : decode cX11_init 90 = .ok (.bipush 81, 2) := by decide +kernel
theorem dX11_init_92 : decode cX11_init 92 = .ok (.newarray .boolean, 2) := by decide +kernel
theorem dX11_init_94 : decode cX11_init 94 = .ok (.putfield 51, 3) := by decide +kernel
theorem dX11_init_97 : decode cX11_init 97 = .ok (.aload_n 0, 1) := by decide +kernel
theorem dX11_init_98 : decode cX11_init 98 = .ok (.bipush 81, 2) := by decide +kernel
theorem dX11_init_100 : decode cX11_init 100 = .ok (.newarray .int, 2) := by decide +kernel
theorem dX11_init_102 : decode cX11_init 102 = .ok (.putfield 54, 3) := by decide +kernel
theorem dX11_init_105 : decode cX11_init 105 = .ok (.aload_n 0, 1) := by decide +kernel
theorem dX11_init_106 : decode cX11_init 106 = .ok (.sipush 10000, 3) := by decide +kernel
theorem dX11_init_109 : decode cX11_init 109 = .ok (.newarray .int, 2) := by decide +kernel
theorem dX11_init_111 : decode cX11_init 111 = .ok (.putfield 57, 3) := by decide +kernel
theorem dX11_init_114 : decode cX11_init 114 = .ok (.aload_n 0, 1) := by decide +kernel
theorem dX11_init_115 : decode cX11_init 115 = .ok (.sipush 10000, 3) := by decide +kernel
theorem dX11_init_118 : decode cX11_init 118 = .ok (.newarray .int, 2) := by decide +kernel
theorem dX11_init_120 : decode cX11_init 120 = .ok (.putfield 60, 3) := by decide +kernel
theorem dX11_init_123 : decode cX11_init 123 = .ok (.aload_n 0, 1) := by decide +kernel
theorem dX11_init_124 : decode cX11_init 124 = .ok (.sipush 10000, 3) := by decide +kernel
theorem dX11_init_127 : decode cX11_init 127 = .ok (.newarray .int, 2) := by decide +kernel
theorem dX11_init_129 : decode cX11_init 129 = .ok (.putfield 63, 3) := by decide +kernel
theorem dX11_init_132 : decode cX11_init 132 = .ok (.aload_n 0, 1) := by decide +kernel
theorem dX11_init_133 : decode cX11_init 133 = .ok (.sipush 10000, 3) := by decide +kernel
theorem dX11_init_136 : decode cX11_init 136 = .ok (.newarray .int, 2) := by decide +kernel
theorem dX11_init_138 : decode cX11_init 138 = .ok (.putfield 66, 3) := by decide +kernel
theorem dX11_init_141 : decode cX11_init 141 = .ok (.return_, 1) := by decide +kernel
theorem dX11_isIn_0 : decode cX11_isIn 0 = .ok (.iload_n 0, 1) := by decide +kernel
theorem dX11_isIn_1 : decode cX11_isIn 1 = .ok (.iload_n 1, 1) := by decide +kernel
theorem dX11_isIn_2 : decode cX11_isIn 2 = .ok (.if_icmp .lt 12, 3) := by decide +kernel
theorem dX11_isIn_5 : decode cX11_isIn 5 = .ok (.iload_n 0, 1) := by decide +kernel
theorem dX11_isIn_6 : decode cX11_isIn 6 = .ok (.iload_n 2, 1) := by decide +kernel
theorem dX11_isIn_7 : decode cX11_isIn 7 = .ok (.if_icmp .gt 7, 3) := by decide +kernel
theorem dX11_isIn_10 : decode cX11_isIn 10 = .ok (.iconst 1, 1) := by decide +kernel
theorem dX11_isIn_11 : decode cX11_isIn 11 = .ok (.goto 4, 3) := by decide +kernel
theorem dX11_isIn_14 : decode cX11_isIn 14 = .ok (.iconst 0, 1) := by decide +kernel
theorem dX11_isIn_15 : decode cX11_isIn 15 = .ok (.ireturn, 1) := by decide +kernel
theorem dX11_fields_0 : decode cX11_fields 0 = .ok (.aload_n 0, 1) := by decide +kernel
theorem dX11_fields_1 : decode cX11_fields 1 = .ok (.getfield 7, 3) := by decide +kernel
theorem dX11_fields_4 : decode cX11_fields 4 = .ok (.aload_n 0, 1) := by decide +kernel
theorem dX11_fields_5 : decode cX11_fields 5 = .ok (.getfield 13, 3) := by decide +kernel
theorem dX11_fields_8 : decode cX11_fields 8 = .ok (.imul, 1) := by decide +kernel
theorem dX11_fields_9 : decode cX11_fields 9 = .ok (.ireturn, 1) := by decide +kernel
set_option maxRecDepth 20000 in
theorem ggX11_board_X11_isIn : GoodIn wsX11_board wsX11_isIn := goodIn_r _ [9] (by decide +kernel) (by decide +kernel)
set_option maxRecDepth 20000 in
theorem gX11_board_X11_isIn : GoodIn wsX11_board (va_wsS RX11 69 yX11_isIn wsX11_isIn) := goodIn_app (goodIn_of _ (by decide +kernel)) ggX11_board_X11_isIn
theorem dX11_board_0 : decode cX11_board 0 = .ok (.iload_n 1, 1) := by decide +kernel
theorem dX11_board_1 : decode cX11_board 1 = .ok (.iconst 2, 1) := by decide +kernel
theorem dX11_board_2 : decode cX11_board 2 = .ok (.bipush 9, 2) := by decide +kernel
theorem dX11_board_4 : decode cX11_board 4 = .ok (.invokestatic 69, 3) := by decide +kernel
theorem dX11_board_7 : decode cX11_board 7 = .ok (.ifCond .eq 13, 3) := by decide +kernel
theorem dX11_board_10 : decode cX11_board 10 = .ok (.iload_n 2, 1) := by decide +kernel
theorem dX11_board_11 : decode cX11_board 11 = .ok (.iconst 2, 1) := by decide +kernel
theorem dX11_board_12 : decode cX11_board 12 = .ok (.bipush 9, 2) := by decide +kernel
theorem dX11_board_14 : decode cX11_board 14 = .ok (.invokestatic 69, 3) := by decide +kernel
theorem dX11_board_17 : decode cX11_board 17 = .ok (.ifCond .ne 5, 3) := by decide +kernel
theorem dX11_board_20 : decode cX11_board 20 = .ok (.iconst 0, 1) := by decide +kernel
theorem dX11_board_21 : decode cX11_board 21 = .ok (.ireturn, 1) := by decide +kernel
theorem dX11_board_22 : decode cX11_board 22 = .ok (.aload_n 0, 1) := by decide +kernel
theorem dX11_board_23 : decode cX11_board 23 = .ok (.iload_n 1, 1) := by decide +kernel
theorem dX11_board_24 : decode cX11_board 24 = .ok (.putfield 7, 3) := by decide +kernel
theorem dX11_board_27 : decode cX11_board 27 = .ok (.aload_n 0, 1) := by decide +kernel
theorem dX11_board_28 : decode cX11_board 28 = .ok (.iload_n 2, 1) := by decide +kernel
theorem dX11_board_29 : decode cX11_board 29 = .ok (.putfield 13, 3) := by decide +kernel
theorem dX11_board_32 : decode cX11_board 32 = .ok (.iconst 0, 1) := by decide +kernel
theorem dX11_board_33 : decode cX11_board 33 = .ok (.istore_n 3, 1) := by decide +kernel
theorem dX11_board_34 : decode cX11_board 34 = .ok (.iload_n 3, 1) := by decide +kernel
theorem dX11_board_35 : decode cX11_board 35 = .ok (.bipush 81, 2) := by decide +kernel
theorem dX11_board_37 : decode cX11_board 37 = .ok (.if_icmp .ge 16, 3) := by decide +kernel
theorem dX11_board_40 : decode cX11_board 40 = .ok (.aload_n 0, 1) := by decide +kernel
theorem dX11_board_41 : decode cX11_board 41 = .ok (.getfield 16, 3) := by decide +kernel
theorem dX11_board_44 : decode cX11_board 44 = .ok (.iload_n 3, 1) := by decide +kernel
theorem dX11_board_45 : decode cX11_board 45 = .ok (.iconst 0, 1) := by decide +kernel
theorem dX11_board_46 : decode cX11_board 46 = .ok (.iastore, 1) := by decide +kernel
theorem dX11_board_47 : decode cX11_board 47 = .ok (.iinc 3 1, 3) := by decide +kernel
theorem dX11_board_50 : decode cX11_board 50 = .ok (.goto (-16), 3) := by decide +kernel
theorem dX11_board_53 : decode cX11_board 53 = .ok (.aload_n 0, 1) := by decide +kernel
theorem dX11_board_54 : decode cX11_board 54 = .ok (.iconst 0, 1) := by decide +kernel
theorem dX11_board_55 : decode cX11_board 55 = .ok (.putfield 73, 3) := by decide +kernel
theorem dX11_board_58 : decode cX11_board 58 = .ok (.aload_n 0, 1) := by decide +kernel
theorem dX11_board_59 : decode cX11_board 59 = .ok (.iconst 0, 1) := by decide +kernel
theorem dX11_board_60 : decode cX11_board 60 = .ok (.putfield 76, 3) := by decide +kernel
theorem dX11_board_63 : decode cX11_board 63 = .ok (.iconst 1, 1) := by decide +kernel
theorem dX11_board_64 : decode cX11_board 64 = .ok (.ireturn, 1) := by decide +kernel
set_option maxRecDepth 20000 in
theorem ggX11_line_X11_isIn : GoodIn wsX11_line wsX11_isIn := goodIn_r _ [8] (by decide +kernel) (by decide +kernel)
set_option maxRecDepth 20000 in
theorem gX11_line_X11_isIn : GoodIn wsX11_line (va_wsS RX11 69 yX11_isIn wsX11_isIn) := goodIn_app (goodIn_of _ (by decide +kernel)) ggX11_line_X11_isIn
theorem dX11_line_0 : decode cX11_line 0 = .ok (.aload_n 0, 1) := by decide +kernel
theorem dX11_line_1 : decode cX11_line 1 = .ok (.getfield 73, 3) := by decide +kernel
theorem dX11_line_4 : decode cX11_line 4 = .ok (.ifCond .gt 29, 3) := by decide +kernel
theorem dX11_line_7 : decode cX11_line 7 = .ok (.iload_n 1, 1) := by decide +kernel
theorem dX11_line_8 : decode cX11_line 8 = .ok (.iconst 0, 1) := by decide +kernel
theorem dX11_line_9 : decode cX11_line 9 = .ok (.aload_n 0, 1) := by decide +kernel
theorem dX11_line_10 : decode cX11_line 10 = .ok (.getfield 7, 3) := by decide +kernel
theorem dX11_line_13 : decode cX11_line 13 = .ok (.iconst 1, 1) := by decide +kernel
theorem dX11_line_14 : decode cX11_line 14 = .ok (.isub, 1) := by decide +kernel
theorem dX11_line_15 : decode cX11_line 15 = .ok (.invokestatic 69, 3) := by decide +kernel
theorem dX11_line_18 : decode cX11_line 18 = .ok (.ifCond .eq 15, 3) := by decide +kernel
theorem dX11_line_21 : decode cX11_line 21 = .ok (.iload_n 2, 1) := by decide +kernel
theorem dX11_line_22 : decode cX11_line 22 = .ok (.iconst 0, 1) := by decide +kernel
theorem dX11_line_23 : decode cX11_line 23 = .ok (.aload_n 0, 1) := by decide +kernel
theorem dX11_line_24 : decode cX11_line 24 = .ok (.getfield 13, 3) := by decide +kernel
theorem dX11_line_27 : decode cX11_line 27 = .ok (.invokestatic 69, 3) := by decide +kernel
theorem dX11_line_30 : decode cX11_line 30 = .ok (.ifCond .ne 5, 3) := by decide +kernel
theorem dX11_line_33 : decode cX11_line 33 = .ok (.iconst 0, 1) := by decide +kernel
theorem dX11_line_34 : decode cX11_line 34 = .ok (.ireturn, 1) := by decide +kernel
theorem dX11_line_35 : decode cX11_line 35 = .ok (.iconst 0, 1) := by decide +kernel
theorem dX11_line_36 : decode cX11_line 36 = .ok (.istore 4, 2) := by decide +kernel
theorem dX11_line_38 : decode cX11_line 38 = .ok (.iload 4, 2) := by decide +kernel
theorem dX11_line_40 : decode cX11_line 40 = .ok (.aload_n 0, 1) := by decide +kernel
theorem dX11_line_41 : decode cX11_line 41 = .ok (.getfield 13, 3) := by decide +kernel
theorem dX11_line_44 : decode cX11_line 44 = .ok (.if_icmp .ge 42, 3) := by decide +kernel
theorem dX11_line_47 : decode cX11_line 47 = .ok (.aload_n 0, 1) := by decide +kernel
theorem dX11_line_48 : decode cX11_line 48 = .ok (.getfield 16, 3) := by decide +kernel
theorem dX11_line_51 : decode cX11_line 51 = .ok (.aload_n 0, 1) := by decide +kernel
theorem dX11_line_52 : decode cX11_line 52 = .ok (.getfield 13, 3) := by decide +kernel
theorem dX11_line_55 : decode cX11_line 55 = .ok (.iload_n 1, 1) := by decide +kernel
theorem dX11_line_56 : decode cX11_line 56 = .ok (.imul, 1) := by decide +kernel
theorem dX11_line_57 : decode cX11_line 57 = .ok (.iload 4, 2) := by decide +kernel
theorem dX11_line_59 : decode cX11_line 59 = .ok (.iadd, 1) := by decide +kernel
theorem dX11_line_60 : decode cX11_line 60 = .ok (.iload 4, 2) := by decide +kernel
theorem dX11_line_62 : decode cX11_line 62 = .ok (.iload_n 2, 1) := by decide +kernel
theorem dX11_line_63 : decode cX11_line 63 = .ok (.if_icmp .ge 15, 3) := by decide +kernel
theorem dX11_line_66 : decode cX11_line 66 = .ok (.iload_n 3, 1) := by decide +kernel
theorem dX11_line_67 : decode cX11_line 67 = .ok (.iconst 3, 1) := by decide +kernel
theorem dX11_line_68 : decode cX11_line 68 = .ok (.iload 4, 2) := by decide +kernel
theorem dX11_line_70 : decode cX11_line 70 = .ok (.imul, 1) := by decide +kernel
theorem dX11_line_71 : decode cX11_line 71 = .ok (.ishr, 1) := by decide +kernel
theorem dX11_line_72 : decode cX11_line 72 = .ok (.bipush 7, 2) := by decide +kernel
theorem dX11_line_74 : decode cX11_line 74 = .ok (.iand, 1) := by decide +kernel
theorem dX11_line_75 : decode cX11_line 75 = .ok (.goto 4, 3) := by decide +kernel
theorem dX11_line_78 : decode cX11_line 78 = .ok (.iconst 0, 1) := by decide +kernel
theorem dX11_line_79 : decode cX11_line 79 = .ok (.iastore, 1) := by decide +kernel
theorem dX11_line_80 : decode cX11_line 80 = .ok (.iinc 4 1, 3) := by decide +kernel
theorem dX11_line_83 : decode cX11_line 83 = .ok (.goto (-45), 3) := by decide +kernel
theorem dX11_line_86 : decode cX11_line 86 = .ok (.iconst 1, 1) := by decide +kernel
theorem dX11_line_87 : decode cX11_line 87 = .ok (.ireturn, 1) := by decide +kernel
set_option maxRecDepth 20000 in
theorem ggX11_law_X11_isIn : GoodIn wsX11_law wsX11_isIn := goodIn_r _ [10] (by decide +kernel) (by decide +kernel)
set_option maxRecDepth 20000 in
theorem gX11_law_X11_isIn : GoodIn wsX11_law (va_wsS RX11 69 yX11_isIn wsX11_isIn) := goodIn_app (goodIn_of _ (by decide +kernel)) ggX11_law_X11_isIn
theorem dX11_law_0 : decode cX11_law 0 = .ok (.aload_n 0, 1) := by decide +kernel
theorem dX11_law_1 : decode cX11_law 1 = .ok (.getfield 73, 3) := by decide +kernel
theorem dX11_law_4 : decode cX11_law 4 = .ok (.ifCond .gt 43, 3) := by decide +kernel
theorem dX11_law_7 : decode cX11_law 7 = .ok (.iload_n 1, 1) := by decide +kernel
theorem dX11_law_8 : decode cX11_law 8 = .ok (.iconst 0, 1) := by decide +kernel
theorem dX11_law_9 : decode cX11_law 9 = .ok (.iconst 1, 1) := by decide +kernel
theorem dX11_law_10 : decode cX11_law 10 = .ok (.invokestatic 69, 3) := by decide +kernel
theorem dX11_law_13 : decode cX11_law 13 = .ok (.ifCond .eq 34, 3) := by decide +kernel
theorem dX11_law_16 : decode cX11_law 16 = .ok (.iload_n 2, 1) := by decide +kernel
theorem dX11_law_17 : decode cX11_law 17 = .ok (.iconst 2, 1) := by decide +kernel
theorem dX11_law_18 : decode cX11_law 18 = .ok (.if_icmp .eq 8, 3) := by decide +kernel
theorem dX11_law_21 : decode cX11_law 21 = .ok (.iload_n 2, 1) := by decide +kernel
theorem dX11_law_22 : decode cX11_law 22 = .ok (.iconst 4, 1) := by decide +kernel
theorem dX11_law_23 : decode cX11_law 23 = .ok (.if_icmp .ne 24, 3) := by decide +kernel
theorem dX11_law_26 : decode cX11_law 26 = .ok (.iload 4, 2) := by decide +kernel
theorem dX11_law_28 : decode cX11_law 28 = .ok (.iconst 0, 1) := by decide +kernel
theorem dX11_law_29 : decode cX11_law 29 = .ok (.bipush 8, 2) := by decide +kernel
theorem dX11_law_31 : decode cX11_law 31 = .ok (.invokestatic 69, 3) := by decide +kernel
theorem dX11_law_34 : decode cX11_law 34 = .ok (.ifCond .eq 13, 3) := by decide +kernel
theorem dX11_law_37 : decode cX11_law 37 = .ok (.iload 5, 2) := by decide +kernel
theorem dX11_law_39 : decode cX11_law 39 = .ok (.iconst 0, 1) := by decide +kernel
theorem dX11_law_40 : decode cX11_law 40 = .ok (.iconst 1, 1) := by decide +kernel
theorem dX11_law_41 : decode cX11_law 41 = .ok (.invokestatic 69, 3) := by decide +kernel
theorem dX11_law_44 : decode cX11_law 44 = .ok (.ifCond .ne 5, 3) := by decide +kernel
theorem dX11_law_47 : decode cX11_law 47 = .ok (.iconst 0, 1) := by decide +kernel
theorem dX11_law_48 : decode cX11_law 48 = .ok (.ireturn, 1) := by decide +kernel
theorem dX11_law_49 : decode cX11_law 49 = .ok (.aload_n 0, 1) := by decide +kernel
theorem dX11_law_50 : decode cX11_law 50 = .ok (.iload_n 1, 1) := by decide +kernel
theorem dX11_law_51 : decode cX11_law 51 = .ok (.putfield 79, 3) := by decide +kernel
theorem dX11_law_54 : decode cX11_law 54 = .ok (.aload_n 0, 1) := by decide +kernel
theorem dX11_law_55 : decode cX11_law 55 = .ok (.iload_n 2, 1) := by decide +kernel
theorem dX11_law_56 : decode cX11_law 56 = .ok (.putfield 20, 3) := by decide +kernel
theorem dX11_law_59 : decode cX11_law 59 = .ok (.aload_n 0, 1) := by decide +kernel
theorem dX11_law_60 : decode cX11_law 60 = .ok (.iload_n 3, 1) := by decide +kernel
theorem dX11_law_61 : decode cX11_law 61 = .ok (.putfield 23, 3) := by decide +kernel
theorem dX11_law_64 : decode cX11_law 64 = .ok (.aload_n 0, 1) := by decide +kernel
theorem dX11_law_65 : decode cX11_law 65 = .ok (.iload 4, 2) := by decide +kernel
theorem dX11_law_67 : decode cX11_law 67 = .ok (.putfield 82, 3) := by decide +kernel
theorem dX11_law_70 : decode cX11_law 70 = .ok (.aload_n 0, 1) := by decide +kernel
theorem dX11_law_71 : decode cX11_law 71 = .ok (.iload 5, 2) := by decide +kernel
theorem dX11_law_73 : decode cX11_law 73 = .ok (.putfield 85, 3) := by decide +kernel
theorem dX11_law_76 : decode cX11_law 76 = .ok (.iconst 1, 1) := by decide +kernel
theorem dX11_law_77 : decode cX11_law 77 = .ok (.ireturn, 1) := by decide +kernel
set_option maxRecDepth 20000 in
theorem ggX11_begin_X11_isIn : GoodIn wsX11_begin wsX11_isIn := goodIn_r _ [17] (by decide +kernel) (by decide +kernel)
set_option maxRecDepth 20000 in
theorem gX11_begin_X11_isIn : GoodIn wsX11_begin (va_wsS RX11 69 yX11_isIn wsX11_isIn) := goodIn_app (goodIn_of _ (by decide +kernel)) ggX11_begin_X11_isIn
set_option maxRecDepth 20000 in
theorem ggX11_begin_X11_fields : GoodIn wsX11_begin wsX11_fields := goodIn_r _ [21, 22, 23, 63, 64, 65, 66, 67, 68, 69, 70, 71, 72, 73, 74, 75, 76, 77, 78, 79, 80, 81, 82, 83, 84, 85, 86, 87, 88, 89, 90, 91] (by decide +kernel) (by decide +kernel)
set_option maxRecDepth 20000 in
theorem gX11_begin_X11_fields : GoodIn wsX11_begin (wsV RX11 88 RX11 yX11_fields wsX11_fields) := goodIn_app (goodIn_of _ (by decide +kernel)) ggX11_begin_X11_fields
theorem dX11_begin_0 : decode cX11_begin 0 = .ok (.aload_n 0, 1) := by decide +kernel
theorem dX11_begin_1 : decode cX11_begin 1 = .ok (.getfield 73, 3) := by decide +kernel
theorem dX11_begin_4 : decode cX11_begin 4 = .ok (.ifCond .gt 12, 3) := by decide +kernel
theorem dX11_begin_7 : decode cX11_begin 7 = .ok (.iload_n 1, 1) := by decide +kernel
theorem dX11_begin_8 : decode cX11_begin 8 = .ok (.iconst 0, 1) := by decide +kernel
theorem dX11_begin_9 : decode cX11_begin 9 = .ok (.iconst 1, 1) := by decide +kernel
theorem dX11_begin_10 : decode cX11_begin 10 = .ok (.invokestatic 69, 3) := by decide +kernel
theorem dX11_begin_13 : decode cX11_begin 13 = .ok (.ifCond .ne 5, 3) := by decide +kernel
theorem dX11_begin_16 : decode cX11_begin 16 = .ok (.iconst (-1), 1) := by decide +kernel
theorem dX11_begin_17 : decode cX11_begin 17 = .ok (.ireturn, 1) := by decide +kernel
theorem dX11_begin_18 : decode cX11_begin 18 = .ok (.iconst 0, 1) := by decide +kernel
theorem dX11_begin_19 : decode cX11_begin 19 = .ok (.istore_n 2, 1) := by decide +kernel
theorem dX11_begin_20 : decode cX11_begin 20 = .ok (.iconst 0, 1) := by decide +kernel
theorem dX11_begin_21 : decode cX11_begin 21 = .ok (.istore_n 3, 1) := by decide +kernel
theorem dX11_begin_22 : decode cX11_begin 22 = .ok (.iconst 0, 1) := by decide +kernel
theorem dX11_begin_23 : decode cX11_begin 23 = .ok (.istore 4, 2) := by decide +kernel
theorem dX11_begin_25 : decode cX11_begin 25 = .ok (.iconst 0, 1) := by decide +kernel
theorem dX11_begin_26 : decode cX11_begin 26 = .ok (.istore 5, 2) := by decide +kernel
theorem dX11_begin_28 : decode cX11_begin 28 = .ok (.iconst 0, 1) := by decide +kernel
theorem dX11_begin_29 : decode cX11_begin 29 = .ok (.istore 6, 2) := by decide +kernel
theorem dX11_begin_31 : decode cX11_begin 31 = .ok (.iload 6, 2) := by decide +kernel
theorem dX11_begin_33 : decode cX11_begin 33 = .ok (.aload_n 0, 1) := by decide +kernel
theorem dX11_begin_34 : decode cX11_begin 34 = .ok (.invokevirtual 88, 3) := by decide +kernel
theorem dX11_begin_37 : decode cX11_begin 37 = .ok (.if_icmp .ge 110, 3) := by decide +kernel
theorem dX11_begin_40 : decode cX11_begin 40 = .ok (.aload_n 0, 1) := by decide +kernel
theorem dX11_begin_41 : decode cX11_begin 41 = .ok (.getfield 16, 3) := by decide +kernel
theorem dX11_begin_44 : decode cX11_begin 44 = .ok (.iload 6, 2) := by decide +kernel
theorem dX11_begin_46 : decode cX11_begin 46 = .ok (.iaload, 1) := by decide +kernel
theorem dX11_begin_47 : decode cX11_begin 47 = .ok (.istore 7, 2) := by decide +kernel
theorem dX11_begin_49 : decode cX11_begin 49 = .ok (.iload_n 2, 1) := by decide +kernel
theorem dX11_begin_50 : decode cX11_begin 50 = .ok (.iload 7, 2) := by decide +kernel
theorem dX11_begin_52 : decode cX11_begin 52 = .ok (.iconst 2, 1) := by decide +kernel
theorem dX11_begin_53 : decode cX11_begin 53 = .ok (.if_icmp .eq 10, 3) := by decide +kernel
theorem dX11_begin_56 : decode cX11_begin 56 = .ok (.iload 7, 2) := by decide +kernel
theorem dX11_begin_58 : decode cX11_begin 58 = .ok (.bipush 7, 2) := by decide +kernel
theorem dX11_begin_60 : decode cX11_begin 60 = .ok (.if_icmp .ne 7, 3) := by decide +kernel
theorem dX11_begin_67 : decode cX11_begin 67 = .ok (.iconst 0, 1) := by decide +kernel
theorem dX11_begin_68 : decode cX11_begin 68 = .ok (.iadd, 1) := by decide +kernel
theorem dX11_begin_69 : decode cX11_begin 69 = .ok (.istore_n 2, 1) := by decide +kernel
theorem dX11_begin_70 : decode cX11_begin 70 = .ok (.iload_n 3, 1) := by decide +kernel
theorem dX11_begin_71 : decode cX11_begin 71 = .ok (.iload 7, 2) := by decide +kernel
theorem dX11_begin_73 : decode cX11_begin 73 = .ok (.iconst 3, 1) := by decide +kernel
theorem dX11_begin_74 : decode cX11_begin 74 = .ok (.if_icmp .eq 9, 3) := by decide +kernel
theorem dX11_begin_77 : decode cX11_begin 77 = .ok (.iload 7, 2) := by decide +kernel
theorem dX11_begin_79 : decode cX11_begin 79 = .ok (.iconst 4, 1) := by decide +kernel
theorem dX11_begin_80 : decode cX11_begin 80 = .ok (.if_icmp .ne 7, 3) := by decide +kernel
theorem dX11_begin_87 : decode cX11_begin 87 = .ok (.iconst 0, 1) := by decide +kernel
theorem dX11_begin_88 : decode cX11_begin 88 = .ok (.iadd, 1) := by decide +kernel
theorem dX11_begin_89 : decode cX11_begin 89 = .ok (.istore_n 3, 1) := by decide +kernel
theorem dX11_begin_90 : decode cX11_begin 90 = .ok (.iload 4, 2) := by decide +kernel
theorem dX11_begin_92 : decode cX11_begin 92 = .ok (.iload 7, 2) := by decide +kernel
theorem dX11_begin_94 : decode cX11_begin 94 = .ok (.iconst 5, 1) := by decide +kernel
theorem dX11_begin_95 : decode cX11_begin 95 = .ok (.if_icmp .eq 10, 3) := by decide +kernel
theorem dX11_begin_98 : decode cX11_begin 98 = .ok (.iload 7, 2) := by decide +kernel
theorem dX11_begin_100 : decode cX11_begin 100 = .ok (.bipush 7, 2) := by decide +kernel
theorem dX11_begin_102 : decode cX11_begin 102 = .ok (.if_icmp .ne 7, 3) := by decide +kernel
theorem dX11_begin_109 : decode cX11_begin 109 = .ok (.iconst 0, 1) := by decide +kernel
theorem dX11_begin_110 : decode cX11_begin 110 = .ok (.iadd, 1) := by decide +kernel
theorem dX11_begin_111 : decode cX11_begin 111 = .ok (.istore 4, 2) := by decide +kernel
theorem dX11_begin_113 : decode cX11_begin 113 = .ok (.iload 5, 2) := by decide +kernel
theorem dX11_begin_115 : decode cX11_begin 115 = .ok (.iload 7, 2) := by decide +kernel
theorem dX11_begin_117 : decode cX11_begin 117 = .ok (.ifCond .eq 20, 3) := by decide +kernel
theorem dX11_begin_137 : decode cX11_begin 137 = .ok (.iconst 0, 1) := by decide +kernel
theorem dX11_begin_138 : decode cX11_begin 138 = .ok (.iadd, 1) := by decide +kernel
theorem dX11_begin_139 : decode cX11_begin 139 = .ok (.istore 5, 2) := by decide +kernel
theorem dX11_begin_141 : decode cX11_begin 141 = .ok (.iinc 6 1, 3) := by decide +kernel
theorem dX11_begin_144 : decode cX11_begin 144 = .ok (.goto (-113), 3) := by decide +kernel
theorem dX11_begin_147 : decode cX11_begin 147 = .ok (.iload_n 2, 1) := by decide +kernel
theorem dX11_begin_148 : decode cX11_begin 148 = .ok (.iconst 1, 1) := by decide +kernel
theorem dX11_begin_149 : decode cX11_begin 149 = .ok (.if_icmp .ne 20, 3) := by decide +kernel
theorem dX11_begin_169 : decode cX11_begin 169 = .ok (.iconst (-1), 1) := by decide +kernel
theorem dX11_begin_170 : decode cX11_begin 170 = .ok (.ireturn, 1) := by decide +kernel
theorem dX11_stop_0 : decode cX11_stop 0 = .ok (.aload_n 0, 1) := by decide +kernel
theorem dX11_stop_1 : decode cX11_stop 1 = .ok (.getfield 73, 3) := by decide +kernel
theorem dX11_stop_4 : decode cX11_stop 4 = .ok (.ifCond .ne 5, 3) := by decide +kernel
theorem dX11_stop_7 : decode cX11_stop 7 = .ok (.iconst 0, 1) := by decide +kernel
theorem dX11_stop_8 : decode cX11_stop 8 = .ok (.ireturn, 1) := by decide +kernel
theorem dX11_why_0 : decode cX11_why 0 = .ok (.aload_n 0, 1) := by decide +kernel
theorem dX11_why_1 : decode cX11_why 1 = .ok (.getfield 73, 3) := by decide +kernel
theorem dX11_why_4 : decode cX11_why 4 = .ok (.iconst 1, 1) := by decide +kernel
theorem dX11_why_5 : decode cX11_why 5 = .ok (.if_icmp .eq 5, 3) := by decide +kernel
theorem dX11_why_8 : decode cX11_why 8 = .ok (.iconst 1, 1) := by decide +kernel
theorem dX11_why_9 : decode cX11_why 9 = .ok (.ireturn, 1) := by decide +kernel
set_option maxRecDepth 20000 in
theorem ggX11_go_X11_why : GoodIn wsX11_go wsX11_why := goodIn_r _ [7, 8, 9, 10, 11, 12, 13, 14, 15, 6, 16, 17, 18, 19, 20, 21, 22, 23, 24, 25, 26, 27, 28, 29, 30, 31, 32, 33, 34, 35, 36, 37, 38, 39, 40, 41, 42, 43, 2, 44, 45, 46, 47, 48, 49, 50, 51, 52, 53, 54, 55, 56, 57, 58, 59, 60, 61, 62, 63, 64, 65, 66, 67, 68, 69, 70, 71, 72, 73, 74, 75, 76, 77, 78, 79, 80, 81, 82, 106, 107, 108, 109, 110, 111, 112, 113, 114, 115, 116, 117, 118, 119, 120, 121, 122, 123, 124, 125, 126, 127, 128, 129, 130, 131, 132, 133, 134] (by decide +kernel) (by decide +kernel)
set_option maxRecDepth 20000 in
theorem gX11_go_X11_why : GoodIn wsX11_go (wsV RX11 167 RX11 yX11_why wsX11_why) := goodIn_app (goodIn_of _ (by decide +kernel)) ggX11_go_X11_why
theorem dX11_go_0 : decode cX11_go 0 = .ok (.aload_n 0, 1) := by decide +kernel
theorem dX11_go_1 : decode cX11_go 1 = .ok (.iload_n 1, 1) := by decide +kernel
theorem dX11_go_2 : decode cX11_go 2 = .ok (.iload_n 2, 1) := by decide +kernel
theorem dX11_go_3 : decode cX11_go 3 = .ok (.iload_n 3, 1) := by decide +kernel
theorem dX11_go_4 : decode cX11_go 4 = .ok (.invokevirtual 167, 3) := by decide +kernel
theorem dX11_go_7 : decode cX11_go 7 = .ok (.ifCond .eq 5, 3) := by decide +kernel
theorem dX11_go_10 : decode cX11_go 10 = .ok (.iconst (-1), 1) := by decide +kernel
theorem dX11_go_11 : decode cX11_go 11 = .ok (.ireturn, 1) := by decide +kernel
theorem dX11_back_0 : decode cX11_back 0 = .ok (.aload_n 0, 1) := by decide +kernel
theorem dX11_back_1 : decode cX11_back 1 = .ok (.getfield 73, 3) := by decide +kernel
theorem dX11_back_4 : decode cX11_back 4 = .ok (.ifCond .eq 10, 3) := by decide +kernel
theorem dX11_back_14 : decode cX11_back 14 = .ok (.iconst 0, 1) := by decide +kernel
theorem dX11_back_15 : decode cX11_back 15 = .ok (.ireturn, 1) := by decide +kernel
theorem dX11_again_0 : decode cX11_again 0 = .ok (.aload_n 0, 1) := by decide +kernel
theorem dX11_again_1 : decode cX11_again 1 = .ok (.getfield 73, 3) := by decide +kernel
theorem dX11_again_4 : decode cX11_again 4 = .ok (.ifCond .eq 10, 3) := by decide +kernel
theorem dX11_again_14 : decode cX11_again 14 = .ok (.iconst 0, 1) := by decide +kernel
theorem dX11_again_15 : decode cX11_again 15 = .ok (.ireturn, 1) := by decide +kernel
set_option maxRecDepth 20000 in
theorem ggX11_about_X11_fields : GoodIn wsX11_about wsX11_fields := goodIn_r _ [13, 7, 14, 15, 16, 17, 18, 19, 20, 21, 22, 23, 24, 25, 26, 27, 28, 29, 30, 31, 32, 33, 34, 35, 36, 37, 38, 39, 40, 41, 42, 43] (by decide +kernel) (by decide +kernel)
set_option maxRecDepth 20000 in
theorem gX11_about_X11_fields : GoodIn wsX11_about (wsV RX11 88 RX11 yX11_fields wsX11_fields) := goodIn_app (goodIn_of _ (by decide +kernel)) ggX11_about_X11_fields
theorem dX11_about_0 : decode cX11_about 0 = .ok (.aload_n 0, 1) := by decide +kernel
theorem dX11_about_1 : decode cX11_about 1 = .ok (.getfield 73, 3) := by decide +kernel
theorem dX11_about_4 : decode cX11_about 4 = .ok (.ifCond .le 7, 3) := by decide +kernel
theorem dX11_about_11 : decode cX11_about 11 = .ok (.iconst 0, 1) := by decide +kernel
theorem dX11_about_12 : decode cX11_about 12 = .ok (.istore_n 2, 1) := by decide +kernel
theorem dX11_about_13 : decode cX11_about 13 = .ok (.iload_n 1, 1) := by decide +kernel
theorem dX11_about_14 : decode cX11_about 14 = .ok (.tableswitch 179 0 8 #[50, 55, 72, 85, 130, 143, 148, 161, 166], 50) := by decide +kernel
theorem dX11_about_64 : decode cX11_about 64 = .ok (.aload_n 0, 1) := by decide +kernel
theorem dX11_about_65 : decode cX11_about 65 = .ok (.getfield 73, 3) := by decide +kernel
theorem dX11_about_68 : decode cX11_about 68 = .ok (.ireturn, 1) := by decide +kernel
theorem dX11_about_69 : decode cX11_about 69 = .ok (.aload_n 0, 1) := by decide +kernel
theorem dX11_about_70 : decode cX11_about 70 = .ok (.getfield 73, 3) := by decide +kernel
theorem dX11_about_73 : decode cX11_about 73 = .ok (.iconst 1, 1) := by decide +kernel
theorem dX11_about_74 : decode cX11_about 74 = .ok (.if_icmp .ne 10, 3) := by decide +kernel
theorem dX11_about_84 : decode cX11_about 84 = .ok (.iconst (-1), 1) := by decide +kernel
theorem dX11_about_85 : decode cX11_about 85 = .ok (.ireturn, 1) := by decide +kernel
theorem dX11_about_86 : decode cX11_about 86 = .ok (.iload_n 2, 1) := by decide +kernel
theorem dX11_about_87 : decode cX11_about 87 = .ok (.ifCond .eq 10, 3) := by decide +kernel
theorem dX11_about_97 : decode cX11_about 97 = .ok (.iconst 0, 1) := by decide +kernel
theorem dX11_about_98 : decode cX11_about 98 = .ok (.ireturn, 1) := by decide +kernel
theorem dX11_about_99 : decode cX11_about 99 = .ok (.iconst 0, 1) := by decide +kernel
theorem dX11_about_100 : decode cX11_about 100 = .ok (.istore_n 3, 1) := by decide +kernel
theorem dX11_about_101 : decode cX11_about 101 = .ok (.iconst 0, 1) := by decide +kernel
theorem dX11_about_102 : decode cX11_about 102 = .ok (.istore 4, 2) := by decide +kernel
theorem dX11_about_104 : decode cX11_about 104 = .ok (.iload 4, 2) := by decide +kernel
theorem dX11_about_106 : decode cX11_about 106 = .ok (.aload_n 0, 1) := by decide +kernel
theorem dX11_about_107 : decode cX11_about 107 = .ok (.getfield 103, 3) := by decide +kernel
theorem dX11_about_110 : decode cX11_about 110 = .ok (.if_icmp .ge 32, 3) := by decide +kernel
theorem dX11_about_142 : decode cX11_about 142 = .ok (.iload_n 3, 1) := by decide +kernel
theorem dX11_about_143 : decode cX11_about 143 = .ok (.ireturn, 1) := by decide +kernel
theorem dX11_about_144 : decode cX11_about 144 = .ok (.iload_n 2, 1) := by decide +kernel
theorem dX11_about_145 : decode cX11_about 145 = .ok (.ifCond .eq 10, 3) := by decide +kernel
theorem dX11_about_155 : decode cX11_about 155 = .ok (.iconst 0, 1) := by decide +kernel
theorem dX11_about_156 : decode cX11_about 156 = .ok (.ireturn, 1) := by decide +kernel
theorem dX11_about_157 : decode cX11_about 157 = .ok (.aload_n 0, 1) := by decide +kernel
theorem dX11_about_158 : decode cX11_about 158 = .ok (.invokevirtual 88, 3) := by decide +kernel
theorem dX11_about_161 : decode cX11_about 161 = .ok (.ireturn, 1) := by decide +kernel
theorem dX11_about_162 : decode cX11_about 162 = .ok (.iload_n 2, 1) := by decide +kernel
theorem dX11_about_163 : decode cX11_about 163 = .ok (.ifCond .eq 10, 3) := by decide +kernel
theorem dX11_about_173 : decode cX11_about 173 = .ok (.iconst 0, 1) := by decide +kernel
theorem dX11_about_174 : decode cX11_about 174 = .ok (.ireturn, 1) := by decide +kernel
theorem dX11_about_175 : decode cX11_about 175 = .ok (.aload_n 0, 1) := by decide +kernel
theorem dX11_about_176 : decode cX11_about 176 = .ok (.getfield 7, 3) := by decide +kernel
theorem dX11_about_179 : decode cX11_about 179 = .ok (.ireturn, 1) := by decide +kernel
theorem dX11_about_180 : decode cX11_about 180 = .ok (.iload_n 2, 1) := by decide +kernel
theorem dX11_about_181 : decode cX11_about 181 = .ok (.ifCond .eq 10, 3) := by decide +kernel
theorem dX11_about_191 : decode cX11_about 191 = .ok (.iconst (-1), 1) := by decide +kernel
theorem dX11_about_192 : decode cX11_about 192 = .ok (.ireturn, 1) := by decide +kernel
theorem dX11_about_193 : decode cX11_about 193 = .ok (.iconst (-1), 1) := by decide +kernel
theorem dX11_about_194 : decode cX11_about 194 = .ok (.ireturn, 1) := by decide +kernel
theorem dX11_piece_0 : decode cX11_piece 0 = .ok (.aload_n 0, 1) := by decide +kernel
theorem dX11_piece_1 : decode cX11_piece 1 = .ok (.getfield 73, 3) := by decide +kernel
theorem dX11_piece_4 : decode cX11_piece 4 = .ok (.ifCond .eq 17, 3) := by decide +kernel
theorem dX11_piece_21 : decode cX11_piece 21 = .ok (.iconst (-1), 1) := by decide +kernel
theorem dX11_piece_22 : decode cX11_piece 22 = .ok (.ireturn, 1) := by decide +kernel
theorem dX11_on_0 : decode cX11_on 0 = .ok (.aload_n 0, 1) := by decide +kernel
theorem dX11_on_1 : decode cX11_on 1 = .ok (.getfield 73, 3) := by decide +kernel
theorem dX11_on_4 : decode cX11_on 4 = .ok (.ifCond .le 26, 3) := by decide +kernel
theorem dX11_on_30 : decode cX11_on 30 = .ok (.iconst (-1), 1) := by decide +kernel
theorem dX11_on_31 : decode cX11_on 31 = .ok (.ireturn, 1) := by decide +kernel
theorem dX11_field_0 : decode cX11_field 0 = .ok (.aload_n 0, 1) := by decide +kernel
theorem dX11_field_1 : decode cX11_field 1 = .ok (.getfield 73, 3) := by decide +kernel
theorem dX11_field_4 : decode cX11_field 4 = .ok (.ifCond .eq 17, 3) := by decide +kernel
theorem dX11_field_21 : decode cX11_field 21 = .ok (.iconst (-1), 1) := by decide +kernel
theorem dX11_field_22 : decode cX11_field 22 = .ok (.ireturn, 1) := by decide +kernel
theorem dX11_took_0 : decode cX11_took 0 = .ok (.aload_n 0, 1) := by decide +kernel
theorem dX11_took_1 : decode cX11_took 1 = .ok (.getfield 73, 3) := by decide +kernel
theorem dX11_took_4 : decode cX11_took 4 = .ok (.ifCond .eq 15, 3) := by decide +kernel
theorem dX11_took_19 : decode cX11_took 19 = .ok (.iconst (-1), 1) := by decide +kernel
theorem dX11_took_20 : decode cX11_took 20 = .ok (.ireturn, 1) := by decide +kernel
theorem dX11_ring_0 : decode cX11_ring 0 = .ok (.aload_n 0, 1) := by decide +kernel
theorem dX11_ring_1 : decode cX11_ring 1 = .ok (.getfield 73, 3) := by decide +kernel
theorem dX11_ring_4 : decode cX11_ring 4 = .ok (.ifCond .le 44, 3) := by decide +kernel
theorem dX11_ring_48 : decode cX11_ring 48 = .ok (.iconst 0, 1) := by decide +kernel
theorem dX11_ring_49 : decode cX11_ring 49 = .ok (.ireturn, 1) := by decide +kernel
set_option maxRecDepth 20000 in
theorem ggX11_needed_X11_ring : GoodIn wsX11_needed wsX11_ring := goodIn_r _ [7, 8, 2, 9, 10, 11, 12, 6, 13, 14, 15, 16, 17, 18, 19, 20, 21, 22, 23, 24, 25, 26, 27, 28, 29, 30, 31, 32, 41, 42, 43, 44, 45, 46, 47, 48, 49, 50, 51, 52, 53, 54, 55, 56, 57, 58, 59, 60, 61, 62, 63, 64, 65, 66, 67, 68, 69] (by decide +kernel) (by decide +kernel)
set_option maxRecDepth 20000 in
theorem gX11_needed_X11_ring : GoodIn wsX11_needed (wsV RX11 176 RX11 yX11_ring wsX11_ring) := goodIn_app (goodIn_of _ (by decide +kernel)) ggX11_needed_X11_ring
theorem dX11_needed_0 : decode cX11_needed 0 = .ok (.aload_n 0, 1) := by decide +kernel
theorem dX11_needed_1 : decode cX11_needed 1 = .ok (.invokevirtual 176, 3) := by decide +kernel
theorem dX11_needed_4 : decode cX11_needed 4 = .ok (.ifCond .eq 48, 3) := by decide +kernel
theorem dX11_needed_52 : decode cX11_needed 52 = .ok (.iconst 0, 1) := by decide +kernel
theorem dX11_needed_53 : decode cX11_needed 53 = .ok (.ireturn, 1) := by decide +kernel
theorem dX11_solve_0 : decode cX11_solve 0 = .ok (.aload_n 0, 1) := by decide +kernel
theorem dX11_solve_1 : decode cX11_solve 1 = .ok (.getfield 73, 3) := by decide +kernel
theorem dX11_solve_4 : decode cX11_solve 4 = .ok (.ifCond .eq 14, 3) := by decide +kernel
theorem dX11_solve_18 : decode cX11_solve 18 = .ok (.iconst (-1), 1) := by decide +kernel
theorem dX11_solve_19 : decode cX11_solve 19 = .ok (.ireturn, 1) := by decide +kernel
theorem dX11_worth_0 : decode cX11_worth 0 = .ok (.aload_n 0, 1) := by decide +kernel
theorem dX11_worth_1 : decode cX11_worth 1 = .ok (.getfield 76, 3) := by decide +kernel
theorem dX11_worth_4 : decode cX11_worth 4 = .ok (.ifCond .eq 15, 3) := by decide +kernel
theorem dX11_worth_19 : decode cX11_worth 19 = .ok (.iconst (-1), 1) := by decide +kernel
theorem dX11_worth_20 : decode cX11_worth 20 = .ok (.ireturn, 1) := by decide +kernel
theorem dX11_deep_0 : decode cX11_deep 0 = .ok (.aload_n 0, 1) := by decide +kernel
theorem dX11_deep_1 : decode cX11_deep 1 = .ok (.getfield 76, 3) := by decide +kernel
theorem dX11_deep_4 : decode cX11_deep 4 = .ok (.ifCond .eq 15, 3) := by decide +kernel
theorem dX11_deep_19 : decode cX11_deep 19 = .ok (.iconst (-1), 1) := by decide +kernel
theorem dX11_deep_20 : decode cX11_deep 20 = .ok (.ireturn, 1) := by decide +kernel
theorem dX11_best_0 : decode cX11_best 0 = .ok (.aload_n 0, 1) := by decide +kernel
theorem dX11_best_1 : decode cX11_best 1 = .ok (.getfield 76, 3) := by decide +kernel
theorem dX11_best_4 : decode cX11_best 4 = .ok (.ifCond .ne 5, 3) := by decide +kernel
theorem dX11_best_7 : decode cX11_best 7 = .ok (.iconst (-1), 1) := by decide +kernel
theorem dX11_best_8 : decode cX11_best 8 = .ok (.ireturn, 1) := by decide +kernel
theorem dX11_count_0 : decode cX11_count 0 = .ok (.aload_n 0, 1) := by decide +kernel
theorem dX11_count_1 : decode cX11_count 1 = .ok (.getfield 76, 3) := by decide +kernel
theorem dX11_count_4 : decode cX11_count 4 = .ok (.ifCond .eq 21, 3) := by decide +kernel
theorem dX11_count_25 : decode cX11_count 25 = .ok (.iconst (-1), 1) := by decide +kernel
theorem dX11_count_26 : decode cX11_count 26 = .ok (.ireturn, 1) := by decide +kernel
theorem dX11_most_0 : decode cX11_most 0 = .ok (.aload_n 0, 1) := by decide +kernel
theorem dX11_most_1 : decode cX11_most 1 = .ok (.getfield 76, 3) := by decide +kernel
theorem dX11_most_4 : decode cX11_most 4 = .ok (.ifCond .eq 12, 3) := by decide +kernel
theorem dX11_most_16 : decode cX11_most 16 = .ok (.iconst (-1), 1) := by decide +kernel
theorem dX11_most_17 : decode cX11_most 17 = .ok (.ireturn, 1) := by decide +kernel
theorem dX11_stand_0 : decode cX11_stand 0 = .ok (.aload_n 0, 1) := by decide +kernel
theorem dX11_stand_1 : decode cX11_stand 1 = .ok (.getfield 76, 3) := by decide +kernel
theorem dX11_stand_4 : decode cX11_stand 4 = .ok (.ifCond .eq 30, 3) := by decide +kernel
theorem dX11_stand_34 : decode cX11_stand 34 = .ok (.iconst (-1), 1) := by decide +kernel
theorem dX11_stand_35 : decode cX11_stand 35 = .ok (.ireturn, 1) := by decide +kernel
theorem dJ7_fill_53178_0 : decode cJ7_fill_53178 0 = .ok (.iconst 0, 1) := by decide +kernel
theorem dJ7_fill_53178_1 : decode cJ7_fill_53178 1 = .ok (.istore_n 2, 1) := by decide +kernel
theorem dJ7_fill_53178_2 : decode cJ7_fill_53178 2 = .ok (.aload_n 0, 1) := by decide +kernel
theorem dJ7_fill_53178_3 : decode cJ7_fill_53178 3 = .ok (.arraylength, 1) := by decide +kernel
theorem dJ7_fill_53178_4 : decode cJ7_fill_53178 4 = .ok (.istore_n 3, 1) := by decide +kernel
theorem dJ7_fill_53178_5 : decode cJ7_fill_53178 5 = .ok (.iload_n 2, 1) := by decide +kernel
theorem dJ7_fill_53178_6 : decode cJ7_fill_53178 6 = .ok (.iload_n 3, 1) := by decide +kernel
theorem dJ7_fill_53178_7 : decode cJ7_fill_53178 7 = .ok (.if_icmp .ge 13, 3) := by decide +kernel
theorem dJ7_fill_53178_10 : decode cJ7_fill_53178 10 = .ok (.aload_n 0, 1) := by decide +kernel
theorem dJ7_fill_53178_11 : decode cJ7_fill_53178 11 = .ok (.iload_n 2, 1) := by decide +kernel
theorem dJ7_fill_53178_12 : decode cJ7_fill_53178 12 = .ok (.iload_n 1, 1) := by decide +kernel
theorem dJ7_fill_53178_13 : decode cJ7_fill_53178 13 = .ok (.iastore, 1) := by decide +kernel
theorem dJ7_fill_53178_14 : decode cJ7_fill_53178 14 = .ok (.iinc 2 1, 3) := by decide +kernel
theorem dJ7_fill_53178_17 : decode cJ7_fill_53178 17 = .ok (.goto (-12), 3) := by decide +kernel
theorem dJ7_fill_53178_20 : decode cJ7_fill_53178 20 = .ok (.return_, 1) := by decide +kernel
abbrev vwCl : List vw_C := [(RX0, TX0, 5), (RX1, TX1, 5), (RX2, TX2, 4), (RX3, TX3, 9), (RX4, TX4, 5), (RX5, TX5, 3), (RX6, TX6, 9), (RX7, TX7, 15), (RX8, TX8, 3), (RX9, TX9, 3), (RX10, TX10, 6), (RX11, TX11, 29)]
