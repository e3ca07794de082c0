theorem dX11_bar_44 : decode cX11_bar 44 = .ok (.bipush 7, 2) := by decide +kernel
theorem dX11_bar_46 : decode cX11_bar 46 = .ok (.ireturn, 1) := by decide +kernel
theorem dX11_bar_47 : decode cX11_bar 47 = .ok (.iconst 1, 1) := by decide +kernel
theorem dX11_bar_48 : decode cX11_bar 48 = .ok (.istore 4, 2) := by decide +kernel
theorem dX11_bar_50 : decode cX11_bar 50 = .ok (.iload 4, 2) := by decide +kernel
theorem dX11_bar_52 : decode cX11_bar 52 = .ok (.iload_n 3, 1) := by decide +kernel
theorem dX11_bar_53 : decode cX11_bar 53 = .ok (.if_icmp .gt 51, 3) := by decide +kernel
theorem dX11_bar_56 : decode cX11_bar 56 = .ok (.aload_n 0, 1) := by decide +kernel
theorem dX11_bar_57 : decode cX11_bar 57 = .ok (.aload_n 0, 1) := by decide +kernel
theorem dX11_bar_58 : decode cX11_bar 58 = .ok (.getfield 30, 3) := by decide +kernel
theorem dX11_bar_61 : decode cX11_bar 61 = .ok (.iload_n 1, 1) := by decide +kernel
theorem dX11_bar_62 : decode cX11_bar 62 = .ok (.iaload, 1) := by decide +kernel
theorem dX11_bar_63 : decode cX11_bar 63 = .ok (.iload_n 2, 1) := by decide +kernel
theorem dX11_bar_64 : decode cX11_bar 64 = .ok (.iload 4, 2) := by decide +kernel
theorem dX11_bar_66 : decode cX11_bar 66 = .ok (.invokevirtual 92, 3) := by decide +kernel
theorem dX11_bar_69 : decode cX11_bar 69 = .ok (.istore 5, 2) := by decide +kernel
theorem dX11_bar_71 : decode cX11_bar 71 = .ok (.aload_n 0, 1) := by decide +kernel
theorem dX11_bar_72 : decode cX11_bar 72 = .ok (.getfield 33, 3) := by decide +kernel
theorem dX11_bar_75 : decode cX11_bar 75 = .ok (.iload 5, 2) := by decide +kernel
theorem dX11_bar_77 : decode cX11_bar 77 = .ok (.iaload, 1) := by decide +kernel
theorem dX11_bar_78 : decode cX11_bar 78 = .ok (.iconst (-1), 1) := by decide +kernel
theorem dX11_bar_79 : decode cX11_bar 79 = .ok (.if_icmp .eq 6, 3) := by decide +kernel
theorem dX11_bar_82 : decode cX11_bar 82 = .ok (.bipush 8, 2) := by decide +kernel
theorem dX11_bar_84 : decode cX11_bar 84 = .ok (.ireturn, 1) := by decide +kernel
theorem dX11_bar_85 : decode cX11_bar 85 = .ok (.aload_n 0, 1) := by decide +kernel
theorem dX11_bar_86 : decode cX11_bar 86 = .ok (.iload 5, 2) := by decide +kernel
theorem dX11_bar_88 : decode cX11_bar 88 = .ok (.iload_n 1, 1) := by decide +kernel
theorem dX11_bar_89 : decode cX11_bar 89 = .ok (.invokevirtual 96, 3) := by decide +kernel
theorem dX11_bar_92 : decode cX11_bar 92 = .ok (.ifCond .ne 6, 3) := by decide +kernel
theorem dX11_bar_95 : decode cX11_bar 95 = .ok (.bipush 9, 2) := by decide +kernel
theorem dX11_bar_97 : decode cX11_bar 97 = .ok (.ireturn, 1) := by decide +kernel
theorem dX11_bar_98 : decode cX11_bar 98 = .ok (.iinc 4 1, 3) := by decide +kernel
theorem dX11_bar_101 : decode cX11_bar 101 = .ok (.goto (-51), 3) := by decide +kernel
theorem dX11_bar_104 : decode cX11_bar 104 = .ok (.iconst 0, 1) := by decide +kernel
theorem dX11_bar_105 : decode cX11_bar 105 = .ok (.ireturn, 1) := by decide +kernel
set_option maxRecDepth 20000 in
theorem ggX11_movesOf_X11_bar : GoodIn wsX11_movesOf wsX11_bar := goodIn_r _ [6, 1, 7, 8, 9, 10, 11, 12, 5, 13, 14, 15, 16, 17, 18, 19, 20, 21, 22, 23, 24, 25, 26, 27, 28, 29, 30, 31, 32, 33, 34, 35, 36, 37, 38, 39, 40, 41, 42, 43, 44, 45, 46, 47, 48, 49] (by decide +kernel) (by decide +kernel)
set_option maxRecDepth 20000 in
theorem gX11_movesOf_X11_bar : GoodIn wsX11_movesOf (wsV RX11 100 RX11 yX11_bar wsX11_bar) := goodIn_app (goodIn_of _ (by decide +kernel)) ggX11_movesOf_X11_bar
theorem dX11_movesOf_0 : decode cX11_movesOf 0 = .ok (.iconst 0, 1) := by decide +kernel
theorem dX11_movesOf_1 : decode cX11_movesOf 1 = .ok (.istore_n 2, 1) := by decide +kernel
theorem dX11_movesOf_2 : decode cX11_movesOf 2 = .ok (.iconst 0, 1) := by decide +kernel
theorem dX11_movesOf_3 : decode cX11_movesOf 3 = .ok (.istore_n 3, 1) := by decide +kernel
theorem dX11_movesOf_4 : decode cX11_movesOf 4 = .ok (.iload_n 3, 1) := by decide +kernel
theorem dX11_movesOf_5 : decode cX11_movesOf 5 = .ok (.iconst 4, 1) := by decide +kernel
theorem dX11_movesOf_6 : decode cX11_movesOf 6 = .ok (.if_icmp .ge 54, 3) := by decide +kernel
theorem dX11_movesOf_9 : decode cX11_movesOf 9 = .ok (.aload_n 0, 1) := by decide +kernel
theorem dX11_movesOf_10 : decode cX11_movesOf 10 = .ok (.getfield 30, 3) := by decide +kernel
theorem dX11_movesOf_13 : decode cX11_movesOf 13 = .ok (.iload_n 1, 1) := by decide +kernel
theorem dX11_movesOf_14 : decode cX11_movesOf 14 = .ok (.iaload, 1) := by decide +kernel
theorem dX11_movesOf_15 : decode cX11_movesOf 15 = .ok (.iconst (-1), 1) := by decide +kernel
theorem dX11_movesOf_16 : decode cX11_movesOf 16 = .ok (.if_icmp .eq 44, 3) := by decide +kernel
theorem dX11_movesOf_19 : decode cX11_movesOf 19 = .ok (.iconst 1, 1) := by decide +kernel
theorem dX11_movesOf_20 : decode cX11_movesOf 20 = .ok (.istore 4, 2) := by decide +kernel
theorem dX11_movesOf_22 : decode cX11_movesOf 22 = .ok (.iload 4, 2) := by decide +kernel
theorem dX11_movesOf_24 : decode cX11_movesOf 24 = .ok (.bipush 9, 2) := by decide +kernel
theorem dX11_movesOf_26 : decode cX11_movesOf 26 = .ok (.if_icmp .ge 28, 3) := by decide +kernel
theorem dX11_movesOf_29 : decode cX11_movesOf 29 = .ok (.iload_n 2, 1) := by decide +kernel
theorem dX11_movesOf_30 : decode cX11_movesOf 30 = .ok (.aload_n 0, 1) := by decide +kernel
theorem dX11_movesOf_31 : decode cX11_movesOf 31 = .ok (.iload_n 1, 1) := by decide +kernel
theorem dX11_movesOf_32 : decode cX11_movesOf 32 = .ok (.iload_n 3, 1) := by decide +kernel
theorem dX11_movesOf_33 : decode cX11_movesOf 33 = .ok (.iload 4, 2) := by decide +kernel
theorem dX11_movesOf_35 : decode cX11_movesOf 35 = .ok (.invokevirtual 100, 3) := by decide +kernel
theorem dX11_movesOf_38 : decode cX11_movesOf 38 = .ok (.ifCond .ne 7, 3) := by decide +kernel
theorem dX11_movesOf_41 : decode cX11_movesOf 41 = .ok (.iconst 1, 1) := by decide +kernel
theorem dX11_movesOf_42 : decode cX11_movesOf 42 = .ok (.goto 4, 3) := by decide +kernel
theorem dX11_movesOf_45 : decode cX11_movesOf 45 = .ok (.iconst 0, 1) := by decide +kernel
theorem dX11_movesOf_46 : decode cX11_movesOf 46 = .ok (.iadd, 1) := by decide +kernel
theorem dX11_movesOf_47 : decode cX11_movesOf 47 = .ok (.istore_n 2, 1) := by decide +kernel
theorem dX11_movesOf_48 : decode cX11_movesOf 48 = .ok (.iinc 4 1, 3) := by decide +kernel
theorem dX11_movesOf_51 : decode cX11_movesOf 51 = .ok (.goto (-29), 3) := by decide +kernel
theorem dX11_movesOf_54 : decode cX11_movesOf 54 = .ok (.iinc 3 1, 3) := by decide +kernel
theorem dX11_movesOf_57 : decode cX11_movesOf 57 = .ok (.goto (-53), 3) := by decide +kernel
theorem dX11_movesOf_60 : decode cX11_movesOf 60 = .ok (.iload_n 2, 1) := by decide +kernel
theorem dX11_movesOf_61 : decode cX11_movesOf 61 = .ok (.ireturn, 1) := by decide +kernel
set_option maxRecDepth 20000 in
theorem ggX11_canGo_X11_sideOf : GoodIn wsX11_canGo wsX11_sideOf := goodIn_r _ [6, 7, 30, 31, 32, 33, 34, 35, 36, 37, 38, 39, 40, 41, 42, 43, 44, 45, 46, 47, 48, 49, 50, 51, 52, 53, 54, 55, 56, 57, 58] (by decide +kernel) (by decide +kernel)
set_option maxRecDepth 20000 in
theorem gX11_canGo_X11_sideOf : GoodIn wsX11_canGo (wsV RX11 106 RX11 yX11_sideOf wsX11_sideOf) := goodIn_app (goodIn_of _ (by decide +kernel)) ggX11_canGo_X11_sideOf
set_option maxRecDepth 20000 in
theorem ggX11_canGo_X11_movesOf : GoodIn wsX11_canGo wsX11_movesOf := goodIn_r _ [11, 12, 13, 14, 15, 5, 16, 7, 17, 18, 19, 20, 21, 22, 23, 24, 25, 26, 27, 28, 29, 30, 31, 32, 33, 34, 35, 36, 37, 38, 39, 40, 41, 42, 43, 44, 45, 46, 47, 48, 49, 50, 51, 52, 53, 54, 55, 56, 57, 58] (by decide +kernel) (by decide +kernel)
set_option maxRecDepth 20000 in
theorem gX11_canGo_X11_movesOf : GoodIn wsX11_canGo (wsV RX11 110 RX11 yX11_movesOf wsX11_movesOf) := goodIn_app (goodIn_of _ (by decide +kernel)) ggX11_canGo_X11_movesOf
theorem dX11_canGo_0 : decode cX11_canGo 0 = .ok (.iconst 0, 1) := by decide +kernel
theorem dX11_canGo_1 : decode cX11_canGo 1 = .ok (.istore_n 2, 1) := by decide +kernel
theorem dX11_canGo_2 : decode cX11_canGo 2 = .ok (.iconst 0, 1) := by decide +kernel
theorem dX11_canGo_3 : decode cX11_canGo 3 = .ok (.istore_n 3, 1) := by decide +kernel
theorem dX11_canGo_4 : decode cX11_canGo 4 = .ok (.iload_n 3, 1) := by decide +kernel
theorem dX11_canGo_5 : decode cX11_canGo 5 = .ok (.aload_n 0, 1) := by decide +kernel
theorem dX11_canGo_6 : decode cX11_canGo 6 = .ok (.getfield 103, 3) := by decide +kernel
theorem dX11_canGo_9 : decode cX11_canGo 9 = .ok (.if_icmp .ge 36, 3) := by decide +kernel
theorem dX11_canGo_12 : decode cX11_canGo 12 = .ok (.iload_n 2, 1) := by decide +kernel
theorem dX11_canGo_13 : decode cX11_canGo 13 = .ok (.ifCond .ne 32, 3) := by decide +kernel
theorem dX11_canGo_16 : decode cX11_canGo 16 = .ok (.aload_n 0, 1) := by decide +kernel
theorem dX11_canGo_17 : decode cX11_canGo 17 = .ok (.iload_n 3, 1) := by decide +kernel
theorem dX11_canGo_18 : decode cX11_canGo 18 = .ok (.invokevirtual 106, 3) := by decide +kernel
theorem dX11_canGo_21 : decode cX11_canGo 21 = .ok (.iload_n 1, 1) := by decide +kernel
theorem dX11_canGo_22 : decode cX11_canGo 22 = .ok (.if_icmp .ne 15, 3) := by decide +kernel
theorem dX11_canGo_25 : decode cX11_canGo 25 = .ok (.aload_n 0, 1) := by decide +kernel
theorem dX11_canGo_26 : decode cX11_canGo 26 = .ok (.iload_n 3, 1) := by decide +kernel
theorem dX11_canGo_27 : decode cX11_canGo 27 = .ok (.invokevirtual 110, 3) := by decide +kernel
theorem dX11_canGo_30 : decode cX11_canGo 30 = .ok (.ifCond .le 7, 3) := by decide +kernel
theorem dX11_canGo_33 : decode cX11_canGo 33 = .ok (.iconst 1, 1) := by decide +kernel
theorem dX11_canGo_34 : decode cX11_canGo 34 = .ok (.goto 4, 3) := by decide +kernel
theorem dX11_canGo_37 : decode cX11_canGo 37 = .ok (.iconst 0, 1) := by decide +kernel
theorem dX11_canGo_38 : decode cX11_canGo 38 = .ok (.istore_n 2, 1) := by decide +kernel
theorem dX11_canGo_39 : decode cX11_canGo 39 = .ok (.iinc 3 1, 3) := by decide +kernel
theorem dX11_canGo_42 : decode cX11_canGo 42 = .ok (.goto (-38), 3) := by decide +kernel
theorem dX11_canGo_45 : decode cX11_canGo 45 = .ok (.iload_n 2, 1) := by decide +kernel
theorem dX11_canGo_46 : decode cX11_canGo 46 = .ok (.ireturn, 1) := by decide +kernel
set_option maxRecDepth 20000 in
theorem ggX11_isFoe_X11_sideOf : GoodIn wsX11_isFoe wsX11_sideOf := goodIn_r _ [7, 8, 14, 15, 16, 17, 18, 19, 20, 21, 22, 23, 24, 25, 26, 27, 28, 29, 30, 31, 32, 33, 34, 35, 36, 37, 38, 39, 40, 41, 42] (by decide +kernel) (by decide +kernel)
set_option maxRecDepth 20000 in
theorem gX11_isFoe_X11_sideOf : GoodIn wsX11_isFoe (wsV RX11 106 RX11 yX11_sideOf wsX11_sideOf) := goodIn_app (goodIn_of _ (by decide +kernel)) ggX11_isFoe_X11_sideOf
set_option maxRecDepth 20000 in
theorem ggX11_isFoe_X11_takes : GoodIn wsX11_isFoe wsX11_takes := goodIn_r _ [12, 8, 13, 14, 15, 16, 17, 18, 19, 20, 21, 22, 23, 24, 25, 26, 27, 28, 29, 30, 31, 32, 33, 34, 35, 36, 37, 38, 39, 40, 41, 42] (by decide +kernel) (by decide +kernel)
set_option maxRecDepth 20000 in
theorem gX11_isFoe_X11_takes : GoodIn wsX11_isFoe (wsV RX11 113 RX11 yX11_takes wsX11_takes) := goodIn_app (goodIn_of _ (by decide +kernel)) ggX11_isFoe_X11_takes
theorem dX11_isFoe_0 : decode cX11_isFoe 0 = .ok (.iload_n 2, 1) := by decide +kernel
theorem dX11_isFoe_1 : decode cX11_isFoe 1 = .ok (.iconst (-1), 1) := by decide +kernel
theorem dX11_isFoe_2 : decode cX11_isFoe 2 = .ok (.if_icmp .ne 5, 3) := by decide +kernel
theorem dX11_isFoe_5 : decode cX11_isFoe 5 = .ok (.iconst 0, 1) := by decide +kernel
theorem dX11_isFoe_6 : decode cX11_isFoe 6 = .ok (.ireturn, 1) := by decide +kernel
theorem dX11_isFoe_7 : decode cX11_isFoe 7 = .ok (.aload_n 0, 1) := by decide +kernel
theorem dX11_isFoe_8 : decode cX11_isFoe 8 = .ok (.getfield 33, 3) := by decide +kernel
theorem dX11_isFoe_11 : decode cX11_isFoe 11 = .ok (.iload_n 2, 1) := by decide +kernel
theorem dX11_isFoe_12 : decode cX11_isFoe 12 = .ok (.iaload, 1) := by decide +kernel
theorem dX11_isFoe_13 : decode cX11_isFoe 13 = .ok (.iconst (-1), 1) := by decide +kernel
theorem dX11_isFoe_14 : decode cX11_isFoe 14 = .ok (.if_icmp .ne 20, 3) := by decide +kernel
theorem dX11_isFoe_17 : decode cX11_isFoe 17 = .ok (.aload_n 0, 1) := by decide +kernel
theorem dX11_isFoe_18 : decode cX11_isFoe 18 = .ok (.getfield 36, 3) := by decide +kernel
theorem dX11_isFoe_21 : decode cX11_isFoe 21 = .ok (.iload_n 2, 1) := by decide +kernel
theorem dX11_isFoe_22 : decode cX11_isFoe 22 = .ok (.iaload, 1) := by decide +kernel
theorem dX11_isFoe_23 : decode cX11_isFoe 23 = .ok (.bipush 6, 2) := by decide +kernel
theorem dX11_isFoe_25 : decode cX11_isFoe 25 = .ok (.if_icmp .ne 7, 3) := by decide +kernel
theorem dX11_isFoe_28 : decode cX11_isFoe 28 = .ok (.iconst 1, 1) := by decide +kernel
theorem dX11_isFoe_29 : decode cX11_isFoe 29 = .ok (.goto 4, 3) := by decide +kernel
theorem dX11_isFoe_32 : decode cX11_isFoe 32 = .ok (.iconst 0, 1) := by decide +kernel
theorem dX11_isFoe_33 : decode cX11_isFoe 33 = .ok (.ireturn, 1) := by decide +kernel
theorem dX11_isFoe_34 : decode cX11_isFoe 34 = .ok (.aload_n 0, 1) := by decide +kernel
theorem dX11_isFoe_35 : decode cX11_isFoe 35 = .ok (.aload_n 0, 1) := by decide +kernel
theorem dX11_isFoe_36 : decode cX11_isFoe 36 = .ok (.getfield 33, 3) := by decide +kernel
theorem dX11_isFoe_39 : decode cX11_isFoe 39 = .ok (.iload_n 2, 1) := by decide +kernel
theorem dX11_isFoe_40 : decode cX11_isFoe 40 = .ok (.iaload, 1) := by decide +kernel
theorem dX11_isFoe_41 : decode cX11_isFoe 41 = .ok (.invokevirtual 106, 3) := by decide +kernel
theorem dX11_isFoe_44 : decode cX11_isFoe 44 = .ok (.aload_n 0, 1) := by decide +kernel
theorem dX11_isFoe_45 : decode cX11_isFoe 45 = .ok (.iload_n 1, 1) := by decide +kernel
theorem dX11_isFoe_46 : decode cX11_isFoe 46 = .ok (.invokevirtual 106, 3) := by decide +kernel
theorem dX11_isFoe_49 : decode cX11_isFoe 49 = .ok (.if_icmp .eq 20, 3) := by decide +kernel
theorem dX11_isFoe_52 : decode cX11_isFoe 52 = .ok (.aload_n 0, 1) := by decide +kernel
theorem dX11_isFoe_53 : decode cX11_isFoe 53 = .ok (.aload_n 0, 1) := by decide +kernel
theorem dX11_isFoe_54 : decode cX11_isFoe 54 = .ok (.getfield 33, 3) := by decide +kernel
theorem dX11_isFoe_57 : decode cX11_isFoe 57 = .ok (.iload_n 2, 1) := by decide +kernel
theorem dX11_isFoe_58 : decode cX11_isFoe 58 = .ok (.iaload, 1) := by decide +kernel
theorem dX11_isFoe_59 : decode cX11_isFoe 59 = .ok (.invokevirtual 113, 3) := by decide +kernel
theorem dX11_isFoe_62 : decode cX11_isFoe 62 = .ok (.ifCond .eq 7, 3) := by decide +kernel
theorem dX11_isFoe_65 : decode cX11_isFoe 65 = .ok (.iconst 1, 1) := by decide +kernel
theorem dX11_isFoe_66 : decode cX11_isFoe 66 = .ok (.goto 4, 3) := by decide +kernel
theorem dX11_isFoe_69 : decode cX11_isFoe 69 = .ok (.iconst 0, 1) := by decide +kernel
theorem dX11_isFoe_70 : decode cX11_isFoe 70 = .ok (.ireturn, 1) := by decide +kernel
set_option maxRecDepth 20000 in
theorem ggX11_isTaken_X11_along : GoodIn wsX11_isTaken wsX11_along := goodIn_r _ [8, 9, 10, 26, 27, 28, 29, 30, 31, 32, 33, 34, 35, 36, 37, 38, 39, 40, 41, 42, 43, 44, 45, 46, 47, 48, 49, 50, 51, 52, 53, 54] (by decide +kernel) (by decide +kernel)
set_option maxRecDepth 20000 in
theorem gX11_isTaken_X11_along : GoodIn wsX11_isTaken (wsV RX11 92 RX11 yX11_along wsX11_along) := goodIn_app (goodIn_of _ (by decide +kernel)) ggX11_isTaken_X11_along
set_option maxRecDepth 20000 in
theorem ggX11_isTaken_X11_isFoe : GoodIn wsX11_isTaken wsX11_isFoe := goodIn_r _ [14, 15, 16, 17, 18, 19, 7, 20, 1, 21, 22, 23, 24, 25, 26, 27, 28, 29, 30, 31, 32, 33, 34, 35, 36, 37, 38, 39, 40, 41, 42, 43, 44, 45, 46, 47, 48, 49, 50, 51, 52, 53, 54] (by decide +kernel) (by decide +kernel)
set_option maxRecDepth 20000 in
theorem gX11_isTaken_X11_isFoe : GoodIn wsX11_isTaken (wsV RX11 117 RX11 yX11_isFoe wsX11_isFoe) := goodIn_app (goodIn_of _ (by decide +kernel)) ggX11_isTaken_X11_isFoe
theorem dX11_isTaken_0 : decode cX11_isTaken 0 = .ok (.aload_n 0, 1) := by decide +kernel
theorem dX11_isTaken_1 : decode cX11_isTaken 1 = .ok (.getfield 27, 3) := by decide +kernel
theorem dX11_isTaken_4 : decode cX11_isTaken 4 = .ok (.iload_n 1, 1) := by decide +kernel
theorem dX11_isTaken_5 : decode cX11_isTaken 5 = .ok (.iaload, 1) := by decide +kernel
theorem dX11_isTaken_6 : decode cX11_isTaken 6 = .ok (.iconst 4, 1) := by decide +kernel
theorem dX11_isTaken_7 : decode cX11_isTaken 7 = .ok (.if_icmp .eq 39, 3) := by decide +kernel
theorem dX11_isTaken_10 : decode cX11_isTaken 10 = .ok (.aload_n 0, 1) := by decide +kernel
theorem dX11_isTaken_11 : decode cX11_isTaken 11 = .ok (.getfield 27, 3) := by decide +kernel
theorem dX11_isTaken_14 : decode cX11_isTaken 14 = .ok (.iload_n 1, 1) := by decide +kernel
theorem dX11_isTaken_15 : decode cX11_isTaken 15 = .ok (.iaload, 1) := by decide +kernel
theorem dX11_isTaken_16 : decode cX11_isTaken 16 = .ok (.iconst 2, 1) := by decide +kernel
theorem dX11_isTaken_17 : decode cX11_isTaken 17 = .ok (.if_icmp .ne 11, 3) := by decide +kernel
theorem dX11_isTaken_20 : decode cX11_isTaken 20 = .ok (.aload_n 0, 1) := by decide +kernel
theorem dX11_isTaken_21 : decode cX11_isTaken 21 = .ok (.getfield 20, 3) := by decide +kernel
theorem dX11_isTaken_24 : decode cX11_isTaken 24 = .ok (.iconst 4, 1) := by decide +kernel
theorem dX11_isTaken_25 : decode cX11_isTaken 25 = .ok (.if_icmp .eq 21, 3) := by decide +kernel
theorem dX11_isTaken_28 : decode cX11_isTaken 28 = .ok (.aload_n 0, 1) := by decide +kernel
theorem dX11_isTaken_29 : decode cX11_isTaken 29 = .ok (.iload_n 1, 1) := by decide +kernel
theorem dX11_isTaken_30 : decode cX11_isTaken 30 = .ok (.aload_n 0, 1) := by decide +kernel
theorem dX11_isTaken_31 : decode cX11_isTaken 31 = .ok (.aload_n 0, 1) := by decide +kernel
theorem dX11_isTaken_32 : decode cX11_isTaken 32 = .ok (.getfield 30, 3) := by decide +kernel
theorem dX11_isTaken_35 : decode cX11_isTaken 35 = .ok (.iload_n 1, 1) := by decide +kernel
theorem dX11_isTaken_36 : decode cX11_isTaken 36 = .ok (.iaload, 1) := by decide +kernel
theorem dX11_isTaken_37 : decode cX11_isTaken 37 = .ok (.iload_n 2, 1) := by decide +kernel
theorem dX11_isTaken_38 : decode cX11_isTaken 38 = .ok (.iconst 1, 1) := by decide +kernel
theorem dX11_isTaken_39 : decode cX11_isTaken 39 = .ok (.invokevirtual 92, 3) := by decide +kernel
theorem dX11_isTaken_42 : decode cX11_isTaken 42 = .ok (.invokevirtual 117, 3) := by decide +kernel
theorem dX11_isTaken_45 : decode cX11_isTaken 45 = .ok (.ireturn, 1) := by decide +kernel
theorem dX11_isTaken_46 : decode cX11_isTaken 46 = .ok (.iconst 1, 1) := by decide +kernel
theorem dX11_isTaken_47 : decode cX11_isTaken 47 = .ok (.istore_n 3, 1) := by decide +kernel
theorem dX11_isTaken_48 : decode cX11_isTaken 48 = .ok (.iconst 0, 1) := by decide +kernel
theorem dX11_isTaken_49 : decode cX11_isTaken 49 = .ok (.istore 4, 2) := by decide +kernel
theorem dX11_isTaken_51 : decode cX11_isTaken 51 = .ok (.iload 4, 2) := by decide +kernel
theorem dX11_isTaken_53 : decode cX11_isTaken 53 = .ok (.iconst 4, 1) := by decide +kernel
theorem dX11_isTaken_54 : decode cX11_isTaken 54 = .ok (.if_icmp .ge 40, 3) := by decide +kernel
theorem dX11_isTaken_57 : decode cX11_isTaken 57 = .ok (.iload_n 3, 1) := by decide +kernel
theorem dX11_isTaken_58 : decode cX11_isTaken 58 = .ok (.ifCond .eq 28, 3) := by decide +kernel
theorem dX11_isTaken_61 : decode cX11_isTaken 61 = .ok (.aload_n 0, 1) := by decide +kernel
theorem dX11_isTaken_62 : decode cX11_isTaken 62 = .ok (.iload_n 1, 1) := by decide +kernel
theorem dX11_isTaken_63 : decode cX11_isTaken 63 = .ok (.aload_n 0, 1) := by decide +kernel
theorem dX11_isTaken_64 : decode cX11_isTaken 64 = .ok (.aload_n 0, 1) := by decide +kernel
theorem dX11_isTaken_65 : decode cX11_isTaken 65 = .ok (.getfield 30, 3) := by decide +kernel
theorem dX11_isTaken_68 : decode cX11_isTaken 68 = .ok (.iload_n 1, 1) := by decide +kernel
theorem dX11_isTaken_69 : decode cX11_isTaken 69 = .ok (.iaload, 1) := by decide +kernel
theorem dX11_isTaken_70 : decode cX11_isTaken 70 = .ok (.iload 4, 2) := by decide +kernel
theorem dX11_isTaken_72 : decode cX11_isTaken 72 = .ok (.iconst 1, 1) := by decide +kernel
theorem dX11_isTaken_73 : decode cX11_isTaken 73 = .ok (.invokevirtual 92, 3) := by decide +kernel
theorem dX11_isTaken_76 : decode cX11_isTaken 76 = .ok (.invokevirtual 117, 3) := by decide +kernel
theorem dX11_isTaken_79 : decode cX11_isTaken 79 = .ok (.ifCond .eq 7, 3) := by decide +kernel
theorem dX11_isTaken_82 : decode cX11_isTaken 82 = .ok (.iconst 1, 1) := by decide +kernel
theorem dX11_isTaken_83 : decode cX11_isTaken 83 = .ok (.goto 4, 3) := by decide +kernel
theorem dX11_isTaken_86 : decode cX11_isTaken 86 = .ok (.iconst 0, 1) := by decide +kernel
theorem dX11_isTaken_87 : decode cX11_isTaken 87 = .ok (.istore_n 3, 1) := by decide +kernel
theorem dX11_isTaken_88 : decode cX11_isTaken 88 = .ok (.iinc 4 1, 3) := by decide +kernel
theorem dX11_isTaken_91 : decode cX11_isTaken 91 = .ok (.goto (-40), 3) := by decide +kernel
theorem dX11_isTaken_94 : decode cX11_isTaken 94 = .ok (.iload_n 3, 1) := by decide +kernel
theorem dX11_isTaken_95 : decode cX11_isTaken 95 = .ok (.ireturn, 1) := by decide +kernel
set_option maxRecDepth 20000 in
theorem ggX11_make_X11_along : GoodIn wsX11_make wsX11_along := goodIn_r _ [11, 12, 13, 34, 35, 36, 37, 38, 39, 40, 41, 42, 43, 44, 45, 46, 47, 48, 49, 50, 51, 52, 53, 54, 55, 56, 57, 58, 59, 60, 61, 62] (by decide +kernel) (by decide +kernel)
set_option maxRecDepth 20000 in
theorem gX11_make_X11_along : GoodIn wsX11_make (wsV RX11 92 RX11 yX11_along wsX11_along) := goodIn_app (goodIn_of _ (by decide +kernel)) ggX11_make_X11_along
set_option maxRecDepth 20000 in
theorem ggX11_make_X11_takes : GoodIn wsX11_make wsX11_takes := goodIn_r _ [17, 18, 19, 34, 35, 36, 37, 38, 39, 40, 41, 42, 43, 44, 45, 46, 47, 48, 49, 50, 51, 52, 53, 54, 55, 56, 57, 58, 59, 60, 61, 62] (by decide +kernel) (by decide +kernel)
set_option maxRecDepth 20000 in
theorem gX11_make_X11_takes : GoodIn wsX11_make (wsV RX11 113 RX11 yX11_takes wsX11_takes) := goodIn_app (goodIn_of _ (by decide +kernel)) ggX11_make_X11_takes
set_option maxRecDepth 20000 in
theorem ggX11_make_X11_sideOf : GoodIn wsX11_make wsX11_sideOf := goodIn_r _ [23, 18, 34, 35, 36, 37, 38, 39, 40, 41, 42, 43, 44, 45, 46, 47, 48, 49, 50, 51, 52, 53, 54, 55, 56, 57, 58, 59, 60, 61, 62] (by decide +kernel) (by decide +kernel)
set_option maxRecDepth 20000 in
theorem gX11_make_X11_sideOf : GoodIn wsX11_make (wsV RX11 106 RX11 yX11_sideOf wsX11_sideOf) := goodIn_app (goodIn_of _ (by decide +kernel)) ggX11_make_X11_sideOf
set_option maxRecDepth 20000 in
theorem ggX11_make_X11_isTaken : GoodIn wsX11_make wsX11_isTaken := goodIn_r _ [27, 18, 28, 1, 7, 8, 9, 10, 11, 12, 13, 29, 30, 31, 32, 2, 33, 20, 21, 22, 23, 14, 15, 16, 17, 19, 34, 35, 36, 37, 38, 39, 40, 41, 42, 43, 44, 45, 46, 47, 48, 49, 50, 51, 52, 53, 54, 55, 56, 57, 58, 59, 60, 61, 62] (by decide +kernel) (by decide +kernel)
set_option maxRecDepth 20000 in
theorem gX11_make_X11_isTaken : GoodIn wsX11_make (wsV RX11 123 RX11 yX11_isTaken wsX11_isTaken) := goodIn_app (goodIn_of _ (by decide +kernel)) ggX11_make_X11_isTaken
theorem dX11_make_0 : decode cX11_make 0 = .ok (.aload_n 0, 1) := by decide +kernel
theorem dX11_make_1 : decode cX11_make 1 = .ok (.aload_n 0, 1) := by decide +kernel
theorem dX11_make_2 : decode cX11_make 2 = .ok (.getfield 30, 3) := by decide +kernel
theorem dX11_make_5 : decode cX11_make 5 = .ok (.iload_n 1, 1) := by decide +kernel
theorem dX11_make_6 : decode cX11_make 6 = .ok (.iaload, 1) := by decide +kernel
theorem dX11_make_7 : decode cX11_make 7 = .ok (.iload_n 2, 1) := by decide +kernel
theorem dX11_make_8 : decode cX11_make 8 = .ok (.iload_n 3, 1) := by decide +kernel
theorem dX11_make_9 : decode cX11_make 9 = .ok (.invokevirtual 92, 3) := by decide +kernel
theorem dX11_make_12 : decode cX11_make 12 = .ok (.istore 4, 2) := by decide +kernel
theorem dX11_make_14 : decode cX11_make 14 = .ok (.aload_n 0, 1) := by decide +kernel
theorem dX11_make_15 : decode cX11_make 15 = .ok (.getfield 33, 3) := by decide +kernel
theorem dX11_make_18 : decode cX11_make 18 = .ok (.aload_n 0, 1) := by decide +kernel
theorem dX11_make_19 : decode cX11_make 19 = .ok (.getfield 30, 3) := by decide +kernel
theorem dX11_make_22 : decode cX11_make 22 = .ok (.iload_n 1, 1) := by decide +kernel
theorem dX11_make_23 : decode cX11_make 23 = .ok (.iaload, 1) := by decide +kernel
theorem dX11_make_24 : decode cX11_make 24 = .ok (.iconst (-1), 1) := by decide +kernel
theorem dX11_make_25 : decode cX11_make 25 = .ok (.iastore, 1) := by decide +kernel
theorem dX11_make_26 : decode cX11_make 26 = .ok (.aload_n 0, 1) := by decide +kernel
theorem dX11_make_27 : decode cX11_make 27 = .ok (.getfield 30, 3) := by decide +kernel
theorem dX11_make_30 : decode cX11_make 30 = .ok (.iload_n 1, 1) := by decide +kernel
theorem dX11_make_31 : decode cX11_make 31 = .ok (.iload 4, 2) := by decide +kernel
theorem dX11_make_33 : decode cX11_make 33 = .ok (.iastore, 1) := by decide +kernel
theorem dX11_make_34 : decode cX11_make 34 = .ok (.aload_n 0, 1) := by decide +kernel
theorem dX11_make_35 : decode cX11_make 35 = .ok (.getfield 33, 3) := by decide +kernel
theorem dX11_make_38 : decode cX11_make 38 = .ok (.iload 4, 2) := by decide +kernel
theorem dX11_make_40 : decode cX11_make 40 = .ok (.iload_n 1, 1) := by decide +kernel
theorem dX11_make_41 : decode cX11_make 41 = .ok (.iastore, 1) := by decide +kernel
theorem dX11_make_42 : decode cX11_make 42 = .ok (.iconst 0, 1) := by decide +kernel
theorem dX11_make_43 : decode cX11_make 43 = .ok (.istore 5, 2) := by decide +kernel
theorem dX11_make_45 : decode cX11_make 45 = .ok (.iload 5, 2) := by decide +kernel
theorem dX11_make_47 : decode cX11_make 47 = .ok (.aload_n 0, 1) := by decide +kernel
theorem dX11_make_48 : decode cX11_make 48 = .ok (.getfield 103, 3) := by decide +kernel
theorem dX11_make_51 : decode cX11_make 51 = .ok (.if_icmp .ge 17, 3) := by decide +kernel
theorem dX11_make_54 : decode cX11_make 54 = .ok (.aload_n 0, 1) := by decide +kernel
theorem dX11_make_55 : decode cX11_make 55 = .ok (.getfield 47, 3) := by decide +kernel
theorem dX11_make_58 : decode cX11_make 58 = .ok (.iload 5, 2) := by decide +kernel
theorem dX11_make_60 : decode cX11_make 60 = .ok (.iconst 0, 1) := by decide +kernel
theorem dX11_make_61 : decode cX11_make 61 = .ok (.bastore, 1) := by decide +kernel
theorem dX11_make_62 : decode cX11_make 62 = .ok (.iinc 5 1, 3) := by decide +kernel
theorem dX11_make_65 : decode cX11_make 65 = .ok (.goto (-20), 3) := by decide +kernel
theorem dX11_make_68 : decode cX11_make 68 = .ok (.aload_n 0, 1) := by decide +kernel
theorem dX11_make_69 : decode cX11_make 69 = .ok (.iconst 0, 1) := by decide +kernel
theorem dX11_make_70 : decode cX11_make 70 = .ok (.putfield 120, 3) := by decide +kernel
theorem dX11_make_73 : decode cX11_make 73 = .ok (.iconst 0, 1) := by decide +kernel
theorem dX11_make_74 : decode cX11_make 74 = .ok (.istore 5, 2) := by decide +kernel
theorem dX11_make_76 : decode cX11_make 76 = .ok (.iload 5, 2) := by decide +kernel
theorem dX11_make_78 : decode cX11_make 78 = .ok (.iconst 4, 1) := by decide +kernel
theorem dX11_make_79 : decode cX11_make 79 = .ok (.if_icmp .ge 92, 3) := by decide +kernel
theorem dX11_make_82 : decode cX11_make 82 = .ok (.aload_n 0, 1) := by decide +kernel
theorem dX11_make_83 : decode cX11_make 83 = .ok (.iload_n 1, 1) := by decide +kernel
theorem dX11_make_84 : decode cX11_make 84 = .ok (.invokevirtual 113, 3) := by decide +kernel
theorem dX11_make_87 : decode cX11_make 87 = .ok (.ifCond .eq 84, 3) := by decide +kernel
theorem dX11_make_90 : decode cX11_make 90 = .ok (.aload_n 0, 1) := by decide +kernel
theorem dX11_make_91 : decode cX11_make 91 = .ok (.iload 4, 2) := by decide +kernel
theorem dX11_make_93 : decode cX11_make 93 = .ok (.iload 5, 2) := by decide +kernel
theorem dX11_make_95 : decode cX11_make 95 = .ok (.iconst 1, 1) := by decide +kernel
theorem dX11_make_96 : decode cX11_make 96 = .ok (.invokevirtual 92, 3) := by decide +kernel
theorem dX11_make_99 : decode cX11_make 99 = .ok (.istore 6, 2) := by decide +kernel
theorem dX11_make_101 : decode cX11_make 101 = .ok (.iload 6, 2) := by decide +kernel
theorem dX11_make_103 : decode cX11_make 103 = .ok (.iconst (-1), 1) := by decide +kernel
theorem dX11_make_104 : decode cX11_make 104 = .ok (.if_icmp .eq 61, 3) := by decide +kernel
theorem dX11_make_107 : decode cX11_make 107 = .ok (.aload_n 0, 1) := by decide +kernel
theorem dX11_make_108 : decode cX11_make 108 = .ok (.getfield 33, 3) := by decide +kernel
theorem dX11_make_111 : decode cX11_make 111 = .ok (.iload 6, 2) := by decide +kernel
theorem dX11_make_113 : decode cX11_make 113 = .ok (.iaload, 1) := by decide +kernel
theorem dX11_make_114 : decode cX11_make 114 = .ok (.iconst (-1), 1) := by decide +kernel
theorem dX11_make_115 : decode cX11_make 115 = .ok (.if_icmp .eq 50, 3) := by decide +kernel
theorem dX11_make_118 : decode cX11_make 118 = .ok (.aload_n 0, 1) := by decide +kernel
theorem dX11_make_119 : decode cX11_make 119 = .ok (.aload_n 0, 1) := by decide +kernel
theorem dX11_make_120 : decode cX11_make 120 = .ok (.getfield 33, 3) := by decide +kernel
theorem dX11_make_123 : decode cX11_make 123 = .ok (.iload 6, 2) := by decide +kernel
theorem dX11_make_125 : decode cX11_make 125 = .ok (.iaload, 1) := by decide +kernel
theorem dX11_make_126 : decode cX11_make 126 = .ok (.invokevirtual 106, 3) := by decide +kernel
theorem dX11_make_129 : decode cX11_make 129 = .ok (.aload_n 0, 1) := by decide +kernel
theorem dX11_make_130 : decode cX11_make 130 = .ok (.iload_n 1, 1) := by decide +kernel
theorem dX11_make_131 : decode cX11_make 131 = .ok (.invokevirtual 106, 3) := by decide +kernel
theorem dX11_make_134 : decode cX11_make 134 = .ok (.if_icmp .ne 6, 3) := by decide +kernel
theorem dX11_make_137 : decode cX11_make 137 = .ok (.goto 28, 3) := by decide +kernel
theorem dX11_make_140 : decode cX11_make 140 = .ok (.aload_n 0, 1) := by decide +kernel
theorem dX11_make_141 : decode cX11_make 141 = .ok (.getfield 47, 3) := by decide +kernel
theorem dX11_make_144 : decode cX11_make 144 = .ok (.aload_n 0, 1) := by decide +kernel
theorem dX11_make_145 : decode cX11_make 145 = .ok (.getfield 33, 3) := by decide +kernel
theorem dX11_make_148 : decode cX11_make 148 = .ok (.iload 6, 2) := by decide +kernel
theorem dX11_make_150 : decode cX11_make 150 = .ok (.iaload, 1) := by decide +kernel
theorem dX11_make_151 : decode cX11_make 151 = .ok (.aload_n 0, 1) := by decide +kernel
theorem dX11_make_152 : decode cX11_make 152 = .ok (.aload_n 0, 1) := by decide +kernel
theorem dX11_make_153 : decode cX11_make 153 = .ok (.getfield 33, 3) := by decide +kernel
theorem dX11_make_156 : decode cX11_make 156 = .ok (.iload 6, 2) := by decide +kernel
theorem dX11_make_158 : decode cX11_make 158 = .ok (.iaload, 1) := by decide +kernel
theorem dX11_make_159 : decode cX11_make 159 = .ok (.iload 5, 2) := by decide +kernel
theorem dX11_make_161 : decode cX11_make 161 = .ok (.invokevirtual 123, 3) := by decide +kernel
theorem dX11_make_164 : decode cX11_make 164 = .ok (.bastore, 1) := by decide +kernel
theorem dX11_make_165 : decode cX11_make 165 = .ok (.iinc 5 1, 3) := by decide +kernel
theorem dX11_make_168 : decode cX11_make 168 = .ok (.goto (-92), 3) := by decide +kernel
theorem dX11_make_171 : decode cX11_make 171 = .ok (.iconst 0, 1) := by decide +kernel
theorem dX11_make_172 : decode cX11_make 172 = .ok (.istore 5, 2) := by decide +kernel
theorem dX11_make_174 : decode cX11_make 174 = .ok (.iload 5, 2) := by decide +kernel
theorem dX11_make_176 : decode cX11_make 176 = .ok (.aload_n 0, 1) := by decide +kernel
theorem dX11_make_177 : decode cX11_make 177 = .ok (.getfield 103, 3) := by decide +kernel
theorem dX11_make_180 : decode cX11_make 180 = .ok (.if_icmp .ge 53, 3) := by decide +kernel
theorem dX11_make_183 : decode cX11_make 183 = .ok (.aload_n 0, 1) := by decide +kernel
theorem dX11_make_184 : decode cX11_make 184 = .ok (.getfield 47, 3) := by decide +kernel
theorem dX11_make_187 : decode cX11_make 187 = .ok (.iload 5, 2) := by decide +kernel
theorem dX11_make_189 : decode cX11_make 189 = .ok (.baload, 1) := by decide +kernel
theorem dX11_make_190 : decode cX11_make 190 = .ok (.ifCond .ne 6, 3) := by decide +kernel
theorem dX11_make_193 : decode cX11_make 193 = .ok (.goto 34, 3) := by decide +kernel
theorem dX11_make_196 : decode cX11_make 196 = .ok (.aload_n 0, 1) := by decide +kernel
theorem dX11_make_197 : decode cX11_make 197 = .ok (.getfield 33, 3) := by decide +kernel
theorem dX11_make_200 : decode cX11_make 200 = .ok (.aload_n 0, 1) := by decide +kernel
theorem dX11_make_201 : decode cX11_make 201 = .ok (.getfield 30, 3) := by decide +kernel
theorem dX11_make_204 : decode cX11_make 204 = .ok (.iload 5, 2) := by decide +kernel
theorem dX11_make_206 : decode cX11_make 206 = .ok (.iaload, 1) := by decide +kernel
theorem dX11_make_207 : decode cX11_make 207 = .ok (.iconst (-1), 1) := by decide +kernel
theorem dX11_make_208 : decode cX11_make 208 = .ok (.iastore, 1) := by decide +kernel
theorem dX11_make_209 : decode cX11_make 209 = .ok (.aload_n 0, 1) := by decide +kernel
theorem dX11_make_210 : decode cX11_make 210 = .ok (.getfield 30, 3) := by decide +kernel
theorem dX11_make_213 : decode cX11_make 213 = .ok (.iload 5, 2) := by decide +kernel
theorem dX11_make_215 : decode cX11_make 215 = .ok (.iconst (-1), 1) := by decide +kernel
theorem dX11_make_216 : decode cX11_make 216 = .ok (.iastore, 1) := by decide +kernel
theorem dX11_make_217 : decode cX11_make 217 = .ok (.aload_n 0, 1) := by decide +kernel
theorem dX11_make_218 : decode cX11_make 218 = .ok (.dup, 1) := by decide +kernel
theorem dX11_make_219 : decode cX11_make 219 = .ok (.getfield 120, 3) := by decide +kernel
theorem dX11_make_222 : decode cX11_make 222 = .ok (.iconst 1, 1) := by decide +kernel
theorem dX11_make_223 : decode cX11_make 223 = .ok (.iadd, 1) := by decide +kernel
theorem dX11_make_224 : decode cX11_make 224 = .ok (.putfield 120, 3) := by decide +kernel
theorem dX11_make_227 : decode cX11_make 227 = .ok (.iinc 5 1, 3) := by decide +kernel
theorem dX11_make_230 : decode cX11_make 230 = .ok (.goto (-56), 3) := by decide +kernel
theorem dX11_make_233 : decode cX11_make 233 = .ok (.aload_n 0, 1) := by decide +kernel
theorem dX11_make_234 : decode cX11_make 234 = .ok (.iconst 1, 1) := by decide +kernel
theorem dX11_make_235 : decode cX11_make 235 = .ok (.aload_n 0, 1) := by decide +kernel
theorem dX11_make_236 : decode cX11_make 236 = .ok (.getfield 126, 3) := by decide +kernel
theorem dX11_make_239 : decode cX11_make 239 = .ok (.isub, 1) := by decide +kernel
theorem dX11_make_240 : decode cX11_make 240 = .ok (.putfield 126, 3) := by decide +kernel
theorem dX11_make_243 : decode cX11_make 243 = .ok (.return_, 1) := by decide +kernel
theorem dX11_row_0 : decode cX11_row 0 = .ok (.bipush 41, 2) := by decide +kernel
theorem dX11_row_2 : decode cX11_row 2 = .ok (.iload_n 1, 1) := by decide +kernel
theorem dX11_row_3 : decode cX11_row 3 = .ok (.imul, 1) := by decide +kernel
theorem dX11_row_4 : decode cX11_row 4 = .ok (.ireturn, 1) := by decide +kernel
set_option maxRecDepth 20000 in
theorem ggX11_write_X11_row : GoodIn wsX11_write wsX11_row := goodIn_r _ [9] (by decide +kernel) (by decide +kernel)
set_option maxRecDepth 20000 in
theorem gX11_write_X11_row : GoodIn wsX11_write (wsV RX11 129 RX11 yX11_row wsX11_row) := goodIn_app (goodIn_of _ (by decide +kernel)) ggX11_write_X11_row
theorem dX11_write_0 : decode cX11_write 0 = .ok (.iconst 0, 1) := by decide +kernel
theorem dX11_write_1 : decode cX11_write 1 = .ok (.istore_n 2, 1) := by decide +kernel
theorem dX11_write_2 : decode cX11_write 2 = .ok (.iload_n 2, 1) := by decide +kernel
theorem dX11_write_3 : decode cX11_write 3 = .ok (.bipush 40, 2) := by decide +kernel
theorem dX11_write_5 : decode cX11_write 5 = .ok (.if_icmp .ge 40, 3) := by decide +kernel
theorem dX11_write_8 : decode cX11_write 8 = .ok (.aload_n 0, 1) := by decide +kernel
theorem dX11_write_9 : decode cX11_write 9 = .ok (.getfield 43, 3) := by decide +kernel
theorem dX11_write_12 : decode cX11_write 12 = .ok (.aload_n 0, 1) := by decide +kernel
theorem dX11_write_13 : decode cX11_write 13 = .ok (.iload_n 1, 1) := by decide +kernel
theorem dX11_write_14 : decode cX11_write 14 = .ok (.invokevirtual 129, 3) := by decide +kernel
theorem dX11_write_17 : decode cX11_write 17 = .ok (.iload_n 2, 1) := by decide +kernel
theorem dX11_write_18 : decode cX11_write 18 = .ok (.iadd, 1) := by decide +kernel
theorem dX11_write_19 : decode cX11_write 19 = .ok (.iload_n 2, 1) := by decide +kernel
theorem dX11_write_20 : decode cX11_write 20 = .ok (.aload_n 0, 1) := by decide +kernel
theorem dX11_write_21 : decode cX11_write 21 = .ok (.getfield 103, 3) := by decide +kernel
theorem dX11_write_24 : decode cX11_write 24 = .ok (.if_icmp .ge 12, 3) := by decide +kernel
theorem dX11_write_27 : decode cX11_write 27 = .ok (.aload_n 0, 1) := by decide +kernel
theorem dX11_write_28 : decode cX11_write 28 = .ok (.getfield 30, 3) := by decide +kernel
theorem dX11_write_31 : decode cX11_write 31 = .ok (.iload_n 2, 1) := by decide +kernel
theorem dX11_write_32 : decode cX11_write 32 = .ok (.iaload, 1) := by decide +kernel
theorem dX11_write_33 : decode cX11_write 33 = .ok (.goto 4, 3) := by decide +kernel
theorem dX11_write_36 : decode cX11_write 36 = .ok (.iconst (-1), 1) := by decide +kernel
theorem dX11_write_37 : decode cX11_write 37 = .ok (.i2b, 1) := by decide +kernel
theorem dX11_write_38 : decode cX11_write 38 = .ok (.bastore, 1) := by decide +kernel
theorem dX11_write_39 : decode cX11_write 39 = .ok (.iinc 2 1, 3) := by decide +kernel
theorem dX11_write_42 : decode cX11_write 42 = .ok (.goto (-40), 3) := by decide +kernel
theorem dX11_write_45 : decode cX11_write 45 = .ok (.aload_n 0, 1) := by decide +kernel
theorem dX11_write_46 : decode cX11_write 46 = .ok (.getfield 43, 3) := by decide +kernel
theorem dX11_write_49 : decode cX11_write 49 = .ok (.aload_n 0, 1) := by decide +kernel
theorem dX11_write_50 : decode cX11_write 50 = .ok (.iload_n 1, 1) := by decide +kernel
theorem dX11_write_51 : decode cX11_write 51 = .ok (.invokevirtual 129, 3) := by decide +kernel
theorem dX11_write_54 : decode cX11_write 54 = .ok (.bipush 40, 2) := by decide +kernel
theorem dX11_write_56 : decode cX11_write 56 = .ok (.iadd, 1) := by decide +kernel
theorem dX11_write_57 : decode cX11_write 57 = .ok (.aload_n 0, 1) := by decide +kernel
theorem dX11_write_58 : decode cX11_write 58 = .ok (.getfield 126, 3) := by decide +kernel
theorem dX11_write_61 : decode cX11_write 61 = .ok (.i2b, 1) := by decide +kernel
theorem dX11_write_62 : decode cX11_write 62 = .ok (.bastore, 1) := by decide +kernel
theorem dX11_write_63 : decode cX11_write 63 = .ok (.return_, 1) := by decide +kernel
set_option maxRecDepth 20000 in
theorem ggX11_read_X11_row : GoodIn wsX11_read wsX11_row := goodIn_r _ [10] (by decide +kernel) (by decide +kernel)
set_option maxRecDepth 20000 in
theorem gX11_read_X11_row : GoodIn wsX11_read (wsV RX11 129 RX11 yX11_row wsX11_row) := goodIn_app (goodIn_of _ (by decide +kernel)) ggX11_read_X11_row
theorem dX11_read_0 : decode cX11_read 0 = .ok (.iconst 0, 1) := by decide +kernel
theorem dX11_read_1 : decode cX11_read 1 = .ok (.istore_n 2, 1) := by decide +kernel
theorem dX11_read_2 : decode cX11_read 2 = .ok (.iload_n 2, 1) := by decide +kernel
theorem dX11_read_3 : decode cX11_read 3 = .ok (.bipush 81, 2) := by decide +kernel
theorem dX11_read_5 : decode cX11_read 5 = .ok (.if_icmp .ge 16, 3) := by decide +kernel
theorem dX11_read_8 : decode cX11_read 8 = .ok (.aload_n 0, 1) := by decide +kernel
theorem dX11_read_9 : decode cX11_read 9 = .ok (.getfield 33, 3) := by decide +kernel
theorem dX11_read_12 : decode cX11_read 12 = .ok (.iload_n 2, 1) := by decide +kernel
theorem dX11_read_13 : decode cX11_read 13 = .ok (.iconst (-1), 1) := by decide +kernel
theorem dX11_read_14 : decode cX11_read 14 = .ok (.iastore, 1) := by decide +kernel
theorem dX11_read_15 : decode cX11_read 15 = .ok (.iinc 2 1, 3) := by decide +kernel
theorem dX11_read_18 : decode cX11_read 18 = .ok (.goto (-16), 3) := by decide +kernel
theorem dX11_read_21 : decode cX11_read 21 = .ok (.iconst 0, 1) := by decide +kernel
theorem dX11_read_22 : decode cX11_read 22 = .ok (.istore_n 2, 1) := by decide +kernel
theorem dX11_read_23 : decode cX11_read 23 = .ok (.iload_n 2, 1) := by decide +kernel
theorem dX11_read_24 : decode cX11_read 24 = .ok (.aload_n 0, 1) := by decide +kernel
theorem dX11_read_25 : decode cX11_read 25 = .ok (.getfield 103, 3) := by decide +kernel
theorem dX11_read_28 : decode cX11_read 28 = .ok (.if_icmp .ge 49, 3) := by decide +kernel
theorem dX11_read_31 : decode cX11_read 31 = .ok (.aload_n 0, 1) := by decide +kernel
theorem dX11_read_32 : decode cX11_read 32 = .ok (.getfield 30, 3) := by decide +kernel
theorem dX11_read_35 : decode cX11_read 35 = .ok (.iload_n 2, 1) := by decide +kernel
theorem dX11_read_36 : decode cX11_read 36 = .ok (.aload_n 0, 1) := by decide +kernel
theorem dX11_read_37 : decode cX11_read 37 = .ok (.getfield 43, 3) := by decide +kernel
theorem dX11_read_40 : decode cX11_read 40 = .ok (.aload_n 0, 1) := by decide +kernel
theorem dX11_read_41 : decode cX11_read 41 = .ok (.iload_n 1, 1) := by decide +kernel
theorem dX11_read_42 : decode cX11_read 42 = .ok (.invokevirtual 129, 3) := by decide +kernel
theorem dX11_read_45 : decode cX11_read 45 = .ok (.iload_n 2, 1) := by decide +kernel
theorem dX11_read_46 : decode cX11_read 46 = .ok (.iadd, 1) := by decide +kernel
theorem dX11_read_47 : decode cX11_read 47 = .ok (.baload, 1) := by decide +kernel
theorem dX11_read_48 : decode cX11_read 48 = .ok (.iastore, 1) := by decide +kernel
theorem dX11_read_49 : decode cX11_read 49 = .ok (.aload_n 0, 1) := by decide +kernel
theorem dX11_read_50 : decode cX11_read 50 = .ok (.getfield 30, 3) := by decide +kernel
theorem dX11_read_53 : decode cX11_read 53 = .ok (.iload_n 2, 1) := by decide +kernel
theorem dX11_read_54 : decode cX11_read 54 = .ok (.iaload, 1) := by decide +kernel
theorem dX11_read_55 : decode cX11_read 55 = .ok (.iconst (-1), 1) := by decide +kernel
theorem dX11_read_56 : decode cX11_read 56 = .ok (.if_icmp .eq 15, 3) := by decide +kernel
theorem dX11_read_59 : decode cX11_read 59 = .ok (.aload_n 0, 1) := by decide +kernel
theorem dX11_read_60 : decode cX11_read 60 = .ok (.getfield 33, 3) := by decide +kernel
theorem dX11_read_63 : decode cX11_read 63 = .ok (.aload_n 0, 1) := by decide +kernel
theorem dX11_read_64 : decode cX11_read 64 = .ok (.getfield 30, 3) := by decide +kernel
theorem dX11_read_67 : decode cX11_read 67 = .ok (.iload_n 2, 1) := by decide +kernel
theorem dX11_read_68 : decode cX11_read 68 = .ok (.iaload, 1) := by decide +kernel
theorem dX11_read_69 : decode cX11_read 69 = .ok (.iload_n 2, 1) := by decide +kernel
theorem dX11_read_70 : decode cX11_read 70 = .ok (.iastore, 1) := by decide +kernel
theorem dX11_read_71 : decode cX11_read 71 = .ok (.iinc 2 1, 3) := by decide +kernel
theorem dX11_read_74 : decode cX11_read 74 = .ok (.goto (-51), 3) := by decide +kernel
theorem dX11_read_77 : decode cX11_read 77 = .ok (.aload_n 0, 1) := by decide +kernel
theorem dX11_read_78 : decode cX11_read 78 = .ok (.aload_n 0, 1) := by decide +kernel
theorem dX11_read_79 : decode cX11_read 79 = .ok (.getfield 43, 3) := by decide +kernel
theorem dX11_read_82 : decode cX11_read 82 = .ok (.aload_n 0, 1) := by decide +kernel
theorem dX11_read_83 : decode cX11_read 83 = .ok (.iload_n 1, 1) := by decide +kernel
theorem dX11_read_84 : decode cX11_read 84 = .ok (.invokevirtual 129, 3) := by decide +kernel
theorem dX11_read_87 : decode cX11_read 87 = .ok (.bipush 40, 2) := by decide +kernel
theorem dX11_read_89 : decode cX11_read 89 = .ok (.iadd, 1) := by decide +kernel
theorem dX11_read_90 : decode cX11_read 90 = .ok (.baload, 1) := by decide +kernel
theorem dX11_read_91 : decode cX11_read 91 = .ok (.putfield 126, 3) := by decide +kernel
theorem dX11_read_94 : decode cX11_read 94 = .ok (.return_, 1) := by decide +kernel
set_option maxRecDepth 20000 in
theorem ggX11_isAlike_X11_row : GoodIn wsX11_isAlike wsX11_row := goodIn_r _ [6] (by decide +kernel) (by decide +kernel)
set_option maxRecDepth 20000 in
theorem gX11_isAlike_X11_row : GoodIn wsX11_isAlike (wsV RX11 129 RX11 yX11_row wsX11_row) := goodIn_app (goodIn_of _ (by decide +kernel)) ggX11_isAlike_X11_row
theorem dX11_isAlike_0 : decode cX11_isAlike 0 = .ok (.iconst 1, 1) := by decide +kernel
theorem dX11_isAlike_1 : decode cX11_isAlike 1 = .ok (.istore_n 3, 1) := by decide +kernel
theorem dX11_isAlike_2 : decode cX11_isAlike 2 = .ok (.iconst 0, 1) := by decide +kernel
theorem dX11_isAlike_3 : decode cX11_isAlike 3 = .ok (.istore 4, 2) := by decide +kernel
theorem dX11_isAlike_5 : decode cX11_isAlike 5 = .ok (.iload 4, 2) := by decide +kernel
theorem dX11_isAlike_7 : decode cX11_isAlike 7 = .ok (.bipush 41, 2) := by decide +kernel
theorem dX11_isAlike_9 : decode cX11_isAlike 9 = .ok (.if_icmp .ge 48, 3) := by decide +kernel
theorem dX11_isAlike_12 : decode cX11_isAlike 12 = .ok (.iload_n 3, 1) := by decide +kernel
theorem dX11_isAlike_13 : decode cX11_isAlike 13 = .ok (.ifCond .eq 44, 3) := by decide +kernel
theorem dX11_isAlike_16 : decode cX11_isAlike 16 = .ok (.aload_n 0, 1) := by decide +kernel
theorem dX11_isAlike_17 : decode cX11_isAlike 17 = .ok (.getfield 43, 3) := by decide +kernel
theorem dX11_isAlike_20 : decode cX11_isAlike 20 = .ok (.aload_n 0, 1) := by decide +kernel
theorem dX11_isAlike_21 : decode cX11_isAlike 21 = .ok (.iload_n 1, 1) := by decide +kernel
theorem dX11_isAlike_22 : decode cX11_isAlike 22 = .ok (.invokevirtual 129, 3) := by decide +kernel
theorem dX11_isAlike_25 : decode cX11_isAlike 25 = .ok (.iload 4, 2) := by decide +kernel
theorem dX11_isAlike_27 : decode cX11_isAlike 27 = .ok (.iadd, 1) := by decide +kernel
theorem dX11_isAlike_28 : decode cX11_isAlike 28 = .ok (.baload, 1) := by decide +kernel
theorem dX11_isAlike_29 : decode cX11_isAlike 29 = .ok (.aload_n 0, 1) := by decide +kernel
theorem dX11_isAlike_30 : decode cX11_isAlike 30 = .ok (.getfield 43, 3) := by decide +kernel
theorem dX11_isAlike_33 : decode cX11_isAlike 33 = .ok (.aload_n 0, 1) := by decide +kernel
theorem dX11_isAlike_34 : decode cX11_isAlike 34 = .ok (.iload_n 2, 1) := by decide +kernel
theorem dX11_isAlike_35 : decode cX11_isAlike 35 = .ok (.invokevirtual 129, 3) := by decide +kernel
theorem dX11_isAlike_38 : decode cX11_isAlike 38 = .ok (.iload 4, 2) := by decide +kernel
theorem dX11_isAlike_40 : decode cX11_isAlike 40 = .ok (.iadd, 1) := by decide +kernel
theorem dX11_isAlike_41 : decode cX11_isAlike 41 = .ok (.baload, 1) := by decide +kernel
theorem dX11_isAlike_42 : decode cX11_isAlike 42 = .ok (.if_icmp .ne 7, 3) := by decide +kernel
theorem dX11_isAlike_45 : decode cX11_isAlike 45 = .ok (.iconst 1, 1) := by decide +kernel
theorem dX11_isAlike_46 : decode cX11_isAlike 46 = .ok (.goto 4, 3) := by decide +kernel
theorem dX11_isAlike_49 : decode cX11_isAlike 49 = .ok (.iconst 0, 1) := by decide +kernel
theorem dX11_isAlike_50 : decode cX11_isAlike 50 = .ok (.istore_n 3, 1) := by decide +kernel
theorem dX11_isAlike_51 : decode cX11_isAlike 51 = .ok (.iinc 4 1, 3) := by decide +kernel
theorem dX11_isAlike_54 : decode cX11_isAlike 54 = .ok (.goto (-49), 3) := by decide +kernel
theorem dX11_isAlike_57 : decode cX11_isAlike 57 = .ok (.iload_n 3, 1) := by decide +kernel
theorem dX11_isAlike_58 : decode cX11_isAlike 58 = .ok (.ireturn, 1) := by decide +kernel
set_option maxRecDepth 20000 in
theorem ggX11_cameBack_X11_isAlike : GoodIn wsX11_cameBack wsX11_isAlike := goodIn_r _ [5, 6, 7, 8, 9, 4, 10, 11, 12, 13, 14, 15, 16, 17, 18, 19, 20, 21, 22, 23, 24, 25, 26, 27, 28, 29, 30, 31, 32, 33, 34, 35, 36, 37, 38, 39] (by decide +kernel) (by decide +kernel)
set_option maxRecDepth 20000 in
theorem gX11_cameBack_X11_isAlike : GoodIn wsX11_cameBack (wsV RX11 132 RX11 yX11_isAlike wsX11_isAlike) := goodIn_app (goodIn_of _ (by decide +kernel)) ggX11_cameBack_X11_isAlike
theorem dX11_cameBack_0 : decode cX11_cameBack 0 = .ok (.iconst 0, 1) := by decide +kernel
theorem dX11_cameBack_1 : decode cX11_cameBack 1 = .ok (.istore_n 2, 1) := by decide +kernel
theorem dX11_cameBack_2 : decode cX11_cameBack 2 = .ok (.iconst 0, 1) := by decide +kernel
theorem dX11_cameBack_3 : decode cX11_cameBack 3 = .ok (.istore_n 3, 1) := by decide +kernel
theorem dX11_cameBack_4 : decode cX11_cameBack 4 = .ok (.iload_n 3, 1) := by decide +kernel
theorem dX11_cameBack_5 : decode cX11_cameBack 5 = .ok (.iload_n 1, 1) := by decide +kernel
theorem dX11_cameBack_6 : decode cX11_cameBack 6 = .ok (.if_icmp .ge 20, 3) := by decide +kernel
theorem dX11_cameBack_9 : decode cX11_cameBack 9 = .ok (.iload_n 2, 1) := by decide +kernel
theorem dX11_cameBack_10 : decode cX11_cameBack 10 = .ok (.ifCond .ne 16, 3) := by decide +kernel
theorem dX11_cameBack_13 : decode cX11_cameBack 13 = .ok (.aload_n 0, 1) := by decide +kernel
theorem dX11_cameBack_14 : decode cX11_cameBack 14 = .ok (.iload_n 3, 1) := by decide +kernel
theorem dX11_cameBack_15 : decode cX11_cameBack 15 = .ok (.iload_n 1, 1) := by decide +kernel
theorem dX11_cameBack_16 : decode cX11_cameBack 16 = .ok (.invokevirtual 132, 3) := by decide +kernel
theorem dX11_cameBack_19 : decode cX11_cameBack 19 = .ok (.istore_n 2, 1) := by decide +kernel
theorem dX11_cameBack_20 : decode cX11_cameBack 20 = .ok (.iinc 3 1, 3) := by decide +kernel
theorem dX11_cameBack_23 : decode cX11_cameBack 23 = .ok (.goto (-19), 3) := by decide +kernel
theorem dX11_cameBack_26 : decode cX11_cameBack 26 = .ok (.iload_n 2, 1) := by decide +kernel
theorem dX11_cameBack_27 : decode cX11_cameBack 27 = .ok (.ireturn, 1) := by decide +kernel
set_option maxRecDepth 20000 in
theorem ggX11_begin_X11_isIn : GoodIn wsX11_begin wsX11_isIn := goodIn_r _ [17] (by decide +kernel) (by decide +kernel)
set_option maxRecDepth 20000 in
theorem gX11_begin_X11_isIn : GoodIn wsX11_begin (va_wsS RX11 69 yX11_isIn wsX11_isIn) := goodIn_app (goodIn_of _ (by decide +kernel)) ggX11_begin_X11_isIn
set_option maxRecDepth 20000 in
theorem ggX11_begin_X11_fields : GoodIn wsX11_begin wsX11_fields := goodIn_r _ [21, 22, 23, 63, 64, 65, 66, 67, 68, 69, 70, 71, 72, 73, 74, 75, 76, 77, 78, 79, 80, 81, 82, 83, 84, 85, 86, 87, 88, 89, 90, 91] (by decide +kernel) (by decide +kernel)
set_option maxRecDepth 20000 in
theorem gX11_begin_X11_fields : GoodIn wsX11_begin (wsV RX11 88 RX11 yX11_fields wsX11_fields) := goodIn_app (goodIn_of _ (by decide +kernel)) ggX11_begin_X11_fields
set_option maxRecDepth 20000 in
theorem ggX11_begin_X11_write : GoodIn wsX11_begin wsX11_write := goodIn_r _ [27, 28, 3, 7, 9, 29, 30, 31, 16, 32, 63, 64, 65, 66, 67, 68, 69, 70, 71, 72, 73, 74, 75, 76, 77, 78, 79, 80, 81, 82, 83, 84, 85, 86, 87, 88, 89, 90, 91] (by decide +kernel) (by decide +kernel)
set_option maxRecDepth 20000 in
theorem gX11_begin_X11_write : GoodIn wsX11_begin (wsV RX11 144 RX11 yX11_write wsX11_write) := goodIn_app (goodIn_of _ (by decide +kernel)) ggX11_begin_X11_write
set_option maxRecDepth 20000 in
theorem ggX11_begin_X11_isGoal : GoodIn wsX11_begin wsX11_isGoal := goodIn_r _ [36, 37, 4, 23, 18, 19, 20, 16, 21, 22, 63, 64, 65, 66, 67, 68, 69, 70, 71, 72, 73, 74, 75, 76, 77, 78, 79, 80, 81, 82, 83, 84, 85, 86, 87, 88, 89, 90, 91] (by decide +kernel) (by decide +kernel)
set_option maxRecDepth 20000 in
theorem gX11_begin_X11_isGoal : GoodIn wsX11_begin (wsV RX11 148 RX11 yX11_isGoal wsX11_isGoal) := goodIn_app (goodIn_of _ (by decide +kernel)) ggX11_begin_X11_isGoal
set_option maxRecDepth 20000 in
theorem ggX11_begin_X11_canGo : GoodIn wsX11_begin wsX11_canGo := goodIn_r _ [41, 3, 42, 43, 44, 16, 45, 6, 46, 47, 48, 49, 7, 50, 51, 52, 53, 54, 5, 55, 56, 57, 58, 23, 22, 59, 60, 61, 62, 4, 63, 64, 65, 66, 67, 68, 69, 70, 71, 72, 73, 74, 75, 76, 77, 78, 79, 80, 81, 82, 83, 84, 85, 86, 87, 88, 89, 90, 91] (by decide +kernel) (by decide +kernel)
set_option maxRecDepth 20000 in
theorem gX11_begin_X11_canGo : GoodIn wsX11_begin (wsV RX11 151 RX11 yX11_canGo wsX11_canGo) := goodIn_app (goodIn_of _ (by decide +kernel)) ggX11_begin_X11_canGo
theorem dX11_begin_0 : decode cX11_begin 0 = .ok (.aload_n 0, 1) := by decide +kernel
theorem dX11_begin_1 : decode cX11_begin 1 = .ok (.getfield 73, 3) := by decide +kernel
theorem dX11_begin_4 : decode cX11_begin 4 = .ok (.ifCond .gt 12, 3) := by decide +kernel
theorem dX11_begin_7 : decode cX11_begin 7 = .ok (.iload_n 1, 1) := by decide +kernel
theorem dX11_begin_8 : decode cX11_begin 8 = .ok (.iconst 0, 1) := by decide +kernel
theorem dX11_begin_9 : decode cX11_begin 9 = .ok (.iconst 1, 1) := by decide +kernel
theorem dX11_begin_10 : decode cX11_begin 10 = .ok (.invokestatic 69, 3) := by decide +kernel
theorem dX11_begin_13 : decode cX11_begin 13 = .ok (.ifCond .ne 5, 3) := by decide +kernel
theorem dX11_begin_16 : decode cX11_begin 16 = .ok (.iconst (-1), 1) := by decide +kernel
theorem dX11_begin_17 : decode cX11_begin 17 = .ok (.ireturn, 1) := by decide +kernel
theorem dX11_begin_18 : decode cX11_begin 18 = .ok (.iconst 0, 1) := by decide +kernel
theorem dX11_begin_19 : decode cX11_begin 19 = .ok (.istore_n 2, 1) := by decide +kernel
theorem dX11_begin_20 : decode cX11_begin 20 = .ok (.iconst 0, 1) := by decide +kernel
theorem dX11_begin_21 : decode cX11_begin 21 = .ok (.istore_n 3, 1) := by decide +kernel
theorem dX11_begin_22 : decode cX11_begin 22 = .ok (.iconst 0, 1) := by decide +kernel
theorem dX11_begin_23 : decode cX11_begin 23 = .ok (.istore 4, 2) := by decide +kernel
theorem dX11_begin_25 : decode cX11_begin 25 = .ok (.iconst 0, 1) := by decide +kernel
theorem dX11_begin_26 : decode cX11_begin 26 = .ok (.istore 5, 2) := by decide +kernel
theorem dX11_begin_28 : decode cX11_begin 28 = .ok (.iconst 0, 1) := by decide +kernel
theorem dX11_begin_29 : decode cX11_begin 29 = .ok (.istore 6, 2) := by decide +kernel
theorem dX11_begin_31 : decode cX11_begin 31 = .ok (.iload 6, 2) := by decide +kernel
theorem dX11_begin_33 : decode cX11_begin 33 = .ok (.aload_n 0, 1) := by decide +kernel
theorem dX11_begin_34 : decode cX11_begin 34 = .ok (.invokevirtual 88, 3) := by decide +kernel
theorem dX11_begin_37 : decode cX11_begin 37 = .ok (.if_icmp .ge 110, 3) := by decide +kernel
theorem dX11_begin_40 : decode cX11_begin 40 = .ok (.aload_n 0, 1) := by decide +kernel
theorem dX11_begin_41 : decode cX11_begin 41 = .ok (.getfield 16, 3) := by decide +kernel
theorem dX11_begin_44 : decode cX11_begin 44 = .ok (.iload 6, 2) := by decide +kernel
theorem dX11_begin_46 : decode cX11_begin 46 = .ok (.iaload, 1) := by decide +kernel
theorem dX11_begin_47 : decode cX11_begin 47 = .ok (.istore 7, 2) := by decide +kernel
theorem dX11_begin_49 : decode cX11_begin 49 = .ok (.iload_n 2, 1) := by decide +kernel
theorem dX11_begin_50 : decode cX11_begin 50 = .ok (.iload 7, 2) := by decide +kernel
theorem dX11_begin_52 : decode cX11_begin 52 = .ok (.iconst 2, 1) := by decide +kernel
theorem dX11_begin_53 : decode cX11_begin 53 = .ok (.if_icmp .eq 10, 3) := by decide +kernel
theorem dX11_begin_56 : decode cX11_begin 56 = .ok (.iload 7, 2) := by decide +kernel
theorem dX11_begin_58 : decode cX11_begin 58 = .ok (.bipush 7, 2) := by decide +kernel
theorem dX11_begin_60 : decode cX11_begin 60 = .ok (.if_icmp .ne 7, 3) := by decide +kernel
theorem dX11_begin_63 : decode cX11_begin 63 = .ok (.iconst 1, 1) := by decide +kernel
theorem dX11_begin_64 : decode cX11_begin 64 = .ok (.goto 4, 3) := by decide +kernel
theorem dX11_begin_67 : decode cX11_begin 67 = .ok (.iconst 0, 1) := by decide +kernel
theorem dX11_begin_68 : decode cX11_begin 68 = .ok (.iadd, 1) := by decide +kernel
theorem dX11_begin_69 : decode cX11_begin 69 = .ok (.istore_n 2, 1) := by decide +kernel
theorem dX11_begin_70 : decode cX11_begin 70 = .ok (.iload_n 3, 1) := by decide +kernel
theorem dX11_begin_71 : decode cX11_begin 71 = .ok (.iload 7, 2) := by decide +kernel
theorem dX11_begin_73 : decode cX11_begin 73 = .ok (.iconst 3, 1) := by decide +kernel
theorem dX11_begin_74 : decode cX11_begin 74 = .ok (.if_icmp .eq 9, 3) := by decide +kernel
theorem dX11_begin_77 : decode cX11_begin 77 = .ok (.iload 7, 2) := by decide +kernel
theorem dX11_begin_79 : decode cX11_begin 79 = .ok (.iconst 4, 1) := by decide +kernel
theorem dX11_begin_80 : decode cX11_begin 80 = .ok (.if_icmp .ne 7, 3) := by decide +kernel
theorem dX11_begin_83 : decode cX11_begin 83 = .ok (.iconst 1, 1) := by decide +kernel
theorem dX11_begin_84 : decode cX11_begin 84 = .ok (.goto 4, 3) := by decide +kernel
theorem dX11_begin_87 : decode cX11_begin 87 = .ok (.iconst 0, 1) := by decide +kernel
theorem dX11_begin_88 : decode cX11_begin 88 = .ok (.iadd, 1) := by decide +kernel
theorem dX11_begin_89 : decode cX11_begin 89 = .ok (.istore_n 3, 1) := by decide +kernel
theorem dX11_begin_90 : decode cX11_begin 90 = .ok (.iload 4, 2) := by decide +kernel
theorem dX11_begin_92 : decode cX11_begin 92 = .ok (.iload 7, 2) := by decide +kernel
theorem dX11_begin_94 : decode cX11_begin 94 = .ok (.iconst 5, 1) := by decide +kernel
theorem dX11_begin_95 : decode cX11_begin 95 = .ok (.if_icmp .eq 10, 3) := by decide +kernel
theorem dX11_begin_98 : decode cX11_begin 98 = .ok (.iload 7, 2) := by decide +kernel
theorem dX11_begin_100 : decode cX11_begin 100 = .ok (.bipush 7, 2) := by decide +kernel
theorem dX11_begin_102 : decode cX11_begin 102 = .ok (.if_icmp .ne 7, 3) := by decide +kernel
theorem dX11_begin_105 : decode cX11_begin 105 = .ok (.iconst 1, 1) := by decide +kernel
theorem dX11_begin_106 : decode cX11_begin 106 = .ok (.goto 4, 3) := by decide +kernel
theorem dX11_begin_109 : decode cX11_begin 109 = .ok (.iconst 0, 1) := by decide +kernel
theorem dX11_begin_110 : decode cX11_begin 110 = .ok (.iadd, 1) := by decide +kernel
theorem dX11_begin_111 : decode cX11_begin 111 = .ok (.istore 4, 2) := by decide +kernel
theorem dX11_begin_113 : decode cX11_begin 113 = .ok (.iload 5, 2) := by decide +kernel
theorem dX11_begin_115 : decode cX11_begin 115 = .ok (.iload 7, 2) := by decide +kernel
theorem dX11_begin_117 : decode cX11_begin 117 = .ok (.ifCond .eq 20, 3) := by decide +kernel
theorem dX11_begin_120 : decode cX11_begin 120 = .ok (.iload 7, 2) := by decide +kernel
theorem dX11_begin_122 : decode cX11_begin 122 = .ok (.iconst 5, 1) := by decide +kernel
theorem dX11_begin_123 : decode cX11_begin 123 = .ok (.if_icmp .eq 14, 3) := by decide +kernel
theorem dX11_begin_126 : decode cX11_begin 126 = .ok (.iload 7, 2) := by decide +kernel
theorem dX11_begin_128 : decode cX11_begin 128 = .ok (.bipush 6, 2) := by decide +kernel
theorem dX11_begin_130 : decode cX11_begin 130 = .ok (.if_icmp .eq 7, 3) := by decide +kernel
theorem dX11_begin_133 : decode cX11_begin 133 = .ok (.iconst 1, 1) := by decide +kernel
theorem dX11_begin_134 : decode cX11_begin 134 = .ok (.goto 4, 3) := by decide +kernel
theorem dX11_begin_137 : decode cX11_begin 137 = .ok (.iconst 0, 1) := by decide +kernel
theorem dX11_begin_138 : decode cX11_begin 138 = .ok (.iadd, 1) := by decide +kernel
theorem dX11_begin_139 : decode cX11_begin 139 = .ok (.istore 5, 2) := by decide +kernel
theorem dX11_begin_141 : decode cX11_begin 141 = .ok (.iinc 6 1, 3) := by decide +kernel
theorem dX11_begin_144 : decode cX11_begin 144 = .ok (.goto (-113), 3) := by decide +kernel
theorem dX11_begin_147 : decode cX11_begin 147 = .ok (.iload_n 2, 1) := by decide +kernel
theorem dX11_begin_148 : decode cX11_begin 148 = .ok (.iconst 1, 1) := by decide +kernel
theorem dX11_begin_149 : decode cX11_begin 149 = .ok (.if_icmp .ne 20, 3) := by decide +kernel
theorem dX11_begin_152 : decode cX11_begin 152 = .ok (.iload_n 3, 1) := by decide +kernel
theorem dX11_begin_153 : decode cX11_begin 153 = .ok (.ifCond .eq 16, 3) := by decide +kernel
theorem dX11_begin_156 : decode cX11_begin 156 = .ok (.iload 5, 2) := by decide +kernel
theorem dX11_begin_158 : decode cX11_begin 158 = .ok (.bipush 40, 2) := by decide +kernel
theorem dX11_begin_160 : decode cX11_begin 160 = .ok (.if_icmp .gt 9, 3) := by decide +kernel
theorem dX11_begin_163 : decode cX11_begin 163 = .ok (.iload 4, 2) := by decide +kernel
theorem dX11_begin_165 : decode cX11_begin 165 = .ok (.iconst 1, 1) := by decide +kernel
theorem dX11_begin_166 : decode cX11_begin 166 = .ok (.if_icmp .le 5, 3) := by decide +kernel
theorem dX11_begin_169 : decode cX11_begin 169 = .ok (.iconst (-1), 1) := by decide +kernel
theorem dX11_begin_170 : decode cX11_begin 170 = .ok (.ireturn, 1) := by decide +kernel
theorem dX11_begin_171 : decode cX11_begin 171 = .ok (.aload_n 0, 1) := by decide +kernel
theorem dX11_begin_172 : decode cX11_begin 172 = .ok (.iconst 0, 1) := by decide +kernel
theorem dX11_begin_173 : decode cX11_begin 173 = .ok (.putfield 103, 3) := by decide +kernel
theorem dX11_begin_176 : decode cX11_begin 176 = .ok (.iconst 0, 1) := by decide +kernel
theorem dX11_begin_177 : decode cX11_begin 177 = .ok (.istore 6, 2) := by decide +kernel
theorem dX11_begin_179 : decode cX11_begin 179 = .ok (.iload 6, 2) := by decide +kernel
theorem dX11_begin_181 : decode cX11_begin 181 = .ok (.bipush 81, 2) := by decide +kernel
theorem dX11_begin_183 : decode cX11_begin 183 = .ok (.if_icmp .ge 172, 3) := by decide +kernel
theorem dX11_begin_186 : decode cX11_begin 186 = .ok (.iload 6, 2) := by decide +kernel
theorem dX11_begin_188 : decode cX11_begin 188 = .ok (.aload_n 0, 1) := by decide +kernel
theorem dX11_begin_189 : decode cX11_begin 189 = .ok (.invokevirtual 88, 3) := by decide +kernel
theorem dX11_begin_192 : decode cX11_begin 192 = .ok (.if_icmp .ge 13, 3) := by decide +kernel
theorem dX11_begin_195 : decode cX11_begin 195 = .ok (.aload_n 0, 1) := by decide +kernel
theorem dX11_begin_196 : decode cX11_begin 196 = .ok (.getfield 16, 3) := by decide +kernel
theorem dX11_begin_199 : decode cX11_begin 199 = .ok (.iload 6, 2) := by decide +kernel
theorem dX11_begin_201 : decode cX11_begin 201 = .ok (.iaload, 1) := by decide +kernel
theorem dX11_begin_202 : decode cX11_begin 202 = .ok (.goto 4, 3) := by decide +kernel
theorem dX11_begin_205 : decode cX11_begin 205 = .ok (.iconst 0, 1) := by decide +kernel
theorem dX11_begin_206 : decode cX11_begin 206 = .ok (.istore 7, 2) := by decide +kernel
theorem dX11_begin_208 : decode cX11_begin 208 = .ok (.aload_n 0, 1) := by decide +kernel
theorem dX11_begin_209 : decode cX11_begin 209 = .ok (.getfield 36, 3) := by decide +kernel
theorem dX11_begin_212 : decode cX11_begin 212 = .ok (.iload 6, 2) := by decide +kernel
theorem dX11_begin_214 : decode cX11_begin 214 = .ok (.iload 7, 2) := by decide +kernel
theorem dX11_begin_216 : decode cX11_begin 216 = .ok (.iconst 5, 1) := by decide +kernel
theorem dX11_begin_217 : decode cX11_begin 217 = .ok (.if_icmp .eq 10, 3) := by decide +kernel
theorem dX11_begin_220 : decode cX11_begin 220 = .ok (.iload 7, 2) := by decide +kernel
theorem dX11_begin_222 : decode cX11_begin 222 = .ok (.bipush 7, 2) := by decide +kernel
theorem dX11_begin_224 : decode cX11_begin 224 = .ok (.if_icmp .ne 7, 3) := by decide +kernel
theorem dX11_begin_227 : decode cX11_begin 227 = .ok (.iconst 5, 1) := by decide +kernel
theorem dX11_begin_228 : decode cX11_begin 228 = .ok (.goto 16, 3) := by decide +kernel
theorem dX11_begin_231 : decode cX11_begin 231 = .ok (.iload 7, 2) := by decide +kernel
theorem dX11_begin_233 : decode cX11_begin 233 = .ok (.bipush 6, 2) := by decide +kernel
theorem dX11_begin_235 : decode cX11_begin 235 = .ok (.if_icmp .ne 8, 3) := by decide +kernel
theorem dX11_begin_238 : decode cX11_begin 238 = .ok (.bipush 6, 2) := by decide +kernel
theorem dX11_begin_240 : decode cX11_begin 240 = .ok (.goto 4, 3) := by decide +kernel
theorem dX11_begin_243 : decode cX11_begin 243 = .ok (.iconst 0, 1) := by decide +kernel
theorem dX11_begin_244 : decode cX11_begin 244 = .ok (.iastore, 1) := by decide +kernel
theorem dX11_begin_245 : decode cX11_begin 245 = .ok (.aload_n 0, 1) := by decide +kernel
theorem dX11_begin_246 : decode cX11_begin 246 = .ok (.getfield 33, 3) := by decide +kernel
theorem dX11_begin_249 : decode cX11_begin 249 = .ok (.iload 6, 2) := by decide +kernel
theorem dX11_begin_251 : decode cX11_begin 251 = .ok (.iconst (-1), 1) := by decide +kernel
theorem dX11_begin_252 : decode cX11_begin 252 = .ok (.iastore, 1) := by decide +kernel
theorem dX11_begin_253 : decode cX11_begin 253 = .ok (.iload 7, 2) := by decide +kernel
theorem dX11_begin_255 : decode cX11_begin 255 = .ok (.ifCond .eq 94, 3) := by decide +kernel
theorem dX11_begin_258 : decode cX11_begin 258 = .ok (.iload 7, 2) := by decide +kernel
theorem dX11_begin_260 : decode cX11_begin 260 = .ok (.iconst 5, 1) := by decide +kernel
theorem dX11_begin_261 : decode cX11_begin 261 = .ok (.if_icmp .eq 88, 3) := by decide +kernel
theorem dX11_begin_264 : decode cX11_begin 264 = .ok (.iload 7, 2) := by decide +kernel
theorem dX11_begin_266 : decode cX11_begin 266 = .ok (.bipush 6, 2) := by decide +kernel
theorem dX11_begin_268 : decode cX11_begin 268 = .ok (.if_icmp .ne 6, 3) := by decide +kernel
theorem dX11_begin_271 : decode cX11_begin 271 = .ok (.goto 78, 3) := by decide +kernel
theorem dX11_begin_274 : decode cX11_begin 274 = .ok (.aload_n 0, 1) := by decide +kernel
theorem dX11_begin_275 : decode cX11_begin 275 = .ok (.getfield 27, 3) := by decide +kernel
theorem dX11_begin_278 : decode cX11_begin 278 = .ok (.aload_n 0, 1) := by decide +kernel
theorem dX11_begin_279 : decode cX11_begin 279 = .ok (.getfield 103, 3) := by decide +kernel
theorem dX11_begin_282 : decode cX11_begin 282 = .ok (.iload 7, 2) := by decide +kernel
theorem dX11_begin_284 : decode cX11_begin 284 = .ok (.bipush 7, 2) := by decide +kernel
theorem dX11_begin_286 : decode cX11_begin 286 = .ok (.if_icmp .ne 7, 3) := by decide +kernel
theorem dX11_begin_289 : decode cX11_begin 289 = .ok (.iconst 2, 1) := by decide +kernel
theorem dX11_begin_290 : decode cX11_begin 290 = .ok (.goto 5, 3) := by decide +kernel
theorem dX11_begin_293 : decode cX11_begin 293 = .ok (.iload 7, 2) := by decide +kernel
theorem dX11_begin_295 : decode cX11_begin 295 = .ok (.iastore, 1) := by decide +kernel
theorem dX11_begin_296 : decode cX11_begin 296 = .ok (.aload_n 0, 1) := by decide +kernel
theorem dX11_begin_297 : decode cX11_begin 297 = .ok (.getfield 30, 3) := by decide +kernel
theorem dX11_begin_300 : decode cX11_begin 300 = .ok (.aload_n 0, 1) := by decide +kernel
theorem dX11_begin_301 : decode cX11_begin 301 = .ok (.getfield 103, 3) := by decide +kernel
theorem dX11_begin_304 : decode cX11_begin 304 = .ok (.iload 6, 2) := by decide +kernel
theorem dX11_begin_306 : decode cX11_begin 306 = .ok (.iastore, 1) := by decide +kernel
theorem dX11_begin_307 : decode cX11_begin 307 = .ok (.aload_n 0, 1) := by decide +kernel
theorem dX11_begin_308 : decode cX11_begin 308 = .ok (.getfield 33, 3) := by decide +kernel
theorem dX11_begin_311 : decode cX11_begin 311 = .ok (.iload 6, 2) := by decide +kernel
theorem dX11_begin_313 : decode cX11_begin 313 = .ok (.aload_n 0, 1) := by decide +kernel
theorem dX11_begin_314 : decode cX11_begin 314 = .ok (.getfield 103, 3) := by decide +kernel
theorem dX11_begin_317 : decode cX11_begin 317 = .ok (.iastore, 1) := by decide +kernel
theorem dX11_begin_318 : decode cX11_begin 318 = .ok (.aload_n 0, 1) := by decide +kernel
theorem dX11_begin_319 : decode cX11_begin 319 = .ok (.getfield 27, 3) := by decide +kernel
theorem dX11_begin_322 : decode cX11_begin 322 = .ok (.aload_n 0, 1) := by decide +kernel
theorem dX11_begin_323 : decode cX11_begin 323 = .ok (.getfield 103, 3) := by decide +kernel
theorem dX11_begin_326 : decode cX11_begin 326 = .ok (.iaload, 1) := by decide +kernel
theorem dX11_begin_327 : decode cX11_begin 327 = .ok (.iconst 2, 1) := by decide +kernel
theorem dX11_begin_328 : decode cX11_begin 328 = .ok (.if_icmp .ne 11, 3) := by decide +kernel
theorem dX11_begin_331 : decode cX11_begin 331 = .ok (.aload_n 0, 1) := by decide +kernel
theorem dX11_begin_332 : decode cX11_begin 332 = .ok (.aload_n 0, 1) := by decide +kernel
theorem dX11_begin_333 : decode cX11_begin 333 = .ok (.getfield 103, 3) := by decide +kernel
theorem dX11_begin_336 : decode cX11_begin 336 = .ok (.putfield 135, 3) := by decide +kernel
theorem dX11_begin_339 : decode cX11_begin 339 = .ok (.aload_n 0, 1) := by decide +kernel
theorem dX11_begin_340 : decode cX11_begin 340 = .ok (.dup, 1) := by decide +kernel
theorem dX11_begin_341 : decode cX11_begin 341 = .ok (.getfield 103, 3) := by decide +kernel
theorem dX11_begin_344 : decode cX11_begin 344 = .ok (.iconst 1, 1) := by decide +kernel
theorem dX11_begin_345 : decode cX11_begin 345 = .ok (.iadd, 1) := by decide +kernel
theorem dX11_begin_346 : decode cX11_begin 346 = .ok (.putfield 103, 3) := by decide +kernel
theorem dX11_begin_349 : decode cX11_begin 349 = .ok (.iinc 6 1, 3) := by decide +kernel
theorem dX11_begin_352 : decode cX11_begin 352 = .ok (.goto (-173), 3) := by decide +kernel
theorem dX11_begin_355 : decode cX11_begin 355 = .ok (.aload_n 0, 1) := by decide +kernel
theorem dX11_begin_356 : decode cX11_begin 356 = .ok (.iload_n 1, 1) := by decide +kernel
theorem dX11_begin_357 : decode cX11_begin 357 = .ok (.putfield 126, 3) := by decide +kernel
theorem dX11_begin_360 : decode cX11_begin 360 = .ok (.aload_n 0, 1) := by decide +kernel
theorem dX11_begin_361 : decode cX11_begin 361 = .ok (.iconst 0, 1) := by decide +kernel
theorem dX11_begin_362 : decode cX11_begin 362 = .ok (.putfield 138, 3) := by decide +kernel
theorem dX11_begin_365 : decode cX11_begin 365 = .ok (.aload_n 0, 1) := by decide +kernel
theorem dX11_begin_366 : decode cX11_begin 366 = .ok (.iconst 0, 1) := by decide +kernel
theorem dX11_begin_367 : decode cX11_begin 367 = .ok (.putfield 141, 3) := by decide +kernel
theorem dX11_begin_370 : decode cX11_begin 370 = .ok (.aload_n 0, 1) := by decide +kernel
theorem dX11_begin_371 : decode cX11_begin 371 = .ok (.iconst (-1), 1) := by decide +kernel
theorem dX11_begin_372 : decode cX11_begin 372 = .ok (.putfield 120, 3) := by decide +kernel
theorem dX11_begin_375 : decode cX11_begin 375 = .ok (.aload_n 0, 1) := by decide +kernel
theorem dX11_begin_376 : decode cX11_begin 376 = .ok (.iconst 0, 1) := by decide +kernel
theorem dX11_begin_377 : decode cX11_begin 377 = .ok (.putfield 76, 3) := by decide +kernel
theorem dX11_begin_380 : decode cX11_begin 380 = .ok (.aload_n 0, 1) := by decide +kernel
theorem dX11_begin_381 : decode cX11_begin 381 = .ok (.iconst 0, 1) := by decide +kernel
theorem dX11_begin_382 : decode cX11_begin 382 = .ok (.invokevirtual 144, 3) := by decide +kernel
theorem dX11_begin_385 : decode cX11_begin 385 = .ok (.aload_n 0, 1) := by decide +kernel
theorem dX11_begin_386 : decode cX11_begin 386 = .ok (.aload_n 0, 1) := by decide +kernel
theorem dX11_begin_387 : decode cX11_begin 387 = .ok (.aload_n 0, 1) := by decide +kernel
theorem dX11_begin_388 : decode cX11_begin 388 = .ok (.getfield 30, 3) := by decide +kernel
theorem dX11_begin_391 : decode cX11_begin 391 = .ok (.aload_n 0, 1) := by decide +kernel
theorem dX11_begin_392 : decode cX11_begin 392 = .ok (.getfield 135, 3) := by decide +kernel
theorem dX11_begin_395 : decode cX11_begin 395 = .ok (.iaload, 1) := by decide +kernel
theorem dX11_begin_396 : decode cX11_begin 396 = .ok (.invokevirtual 148, 3) := by decide +kernel
theorem dX11_begin_399 : decode cX11_begin 399 = .ok (.ifCond .eq 7, 3) := by decide +kernel
theorem dX11_begin_402 : decode cX11_begin 402 = .ok (.iconst 2, 1) := by decide +kernel
theorem dX11_begin_403 : decode cX11_begin 403 = .ok (.goto 18, 3) := by decide +kernel
theorem dX11_begin_406 : decode cX11_begin 406 = .ok (.aload_n 0, 1) := by decide +kernel
theorem dX11_begin_407 : decode cX11_begin 407 = .ok (.iload_n 1, 1) := by decide +kernel
theorem dX11_begin_408 : decode cX11_begin 408 = .ok (.invokevirtual 151, 3) := by decide +kernel
theorem dX11_begin_411 : decode cX11_begin 411 = .ok (.ifCond .eq 7, 3) := by decide +kernel
theorem dX11_begin_414 : decode cX11_begin 414 = .ok (.iconst 1, 1) := by decide +kernel
theorem dX11_begin_415 : decode cX11_begin 415 = .ok (.goto 6, 3) := by decide +kernel
theorem dX11_begin_418 : decode cX11_begin 418 = .ok (.iconst 3, 1) := by decide +kernel
theorem dX11_begin_419 : decode cX11_begin 419 = .ok (.iload_n 1, 1) := by decide +kernel
theorem dX11_begin_420 : decode cX11_begin 420 = .ok (.isub, 1) := by decide +kernel
theorem dX11_begin_421 : decode cX11_begin 421 = .ok (.putfield 73, 3) := by decide +kernel
theorem dX11_begin_424 : decode cX11_begin 424 = .ok (.aload_n 0, 1) := by decide +kernel
theorem dX11_begin_425 : decode cX11_begin 425 = .ok (.getfield 103, 3) := by decide +kernel
theorem dX11_begin_428 : decode cX11_begin 428 = .ok (.ireturn, 1) := by decide +kernel
theorem dX11_stop_0 : decode cX11_stop 0 = .ok (.aload_n 0, 1) := by decide +kernel
theorem dX11_stop_1 : decode cX11_stop 1 = .ok (.getfield 73, 3) := by decide +kernel
theorem dX11_stop_4 : decode cX11_stop 4 = .ok (.ifCond .ne 5, 3) := by decide +kernel
theorem dX11_stop_7 : decode cX11_stop 7 = .ok (.iconst 0, 1) := by decide +kernel
theorem dX11_stop_8 : decode cX11_stop 8 = .ok (.ireturn, 1) := by decide +kernel
theorem dX11_stop_9 : decode cX11_stop 9 = .ok (.aload_n 0, 1) := by decide +kernel
theorem dX11_stop_10 : decode cX11_stop 10 = .ok (.iconst 0, 1) := by decide +kernel
theorem dX11_stop_11 : decode cX11_stop 11 = .ok (.putfield 73, 3) := by decide +kernel
theorem dX11_stop_14 : decode cX11_stop 14 = .ok (.aload_n 0, 1) := by decide +kernel
theorem dX11_stop_15 : decode cX11_stop 15 = .ok (.iconst 0, 1) := by decide +kernel
theorem dX11_stop_16 : decode cX11_stop 16 = .ok (.putfield 76, 3) := by decide +kernel
theorem dX11_stop_19 : decode cX11_stop 19 = .ok (.iconst 1, 1) := by decide +kernel
theorem dX11_stop_20 : decode cX11_stop 20 = .ok (.ireturn, 1) := by decide +kernel
set_option maxRecDepth 20000 in
theorem ggX11_why_X11_isIn : GoodIn wsX11_why wsX11_isIn := goodIn_r _ [10] (by decide +kernel) (by decide +kernel)
set_option maxRecDepth 20000 in
theorem gX11_why_X11_isIn : GoodIn wsX11_why (va_wsS RX11 69 yX11_isIn wsX11_isIn) := goodIn_app (goodIn_of _ (by decide +kernel)) ggX11_why_X11_isIn
set_option maxRecDepth 20000 in
theorem ggX11_why_X11_sideOf : GoodIn wsX11_why wsX11_sideOf := goodIn_r _ [14, 15, 78, 79, 80, 81, 82, 83, 84, 85, 86, 87, 88, 89, 90, 91, 92, 93, 94, 95, 96, 97, 98, 99, 100, 101, 102, 103, 104, 105, 106] (by decide +kernel) (by decide +kernel)
set_option maxRecDepth 20000 in
theorem gX11_why_X11_sideOf : GoodIn wsX11_why (wsV RX11 106 RX11 yX11_sideOf wsX11_sideOf) := goodIn_app (goodIn_of _ (by decide +kernel)) ggX11_why_X11_sideOf
set_option maxRecDepth 20000 in
theorem ggX11_why_X11_bar : GoodIn wsX11_why wsX11_bar := goodIn_r _ [19, 3, 15, 20, 21, 22, 23, 24, 9, 25, 26, 27, 28, 29, 30, 31, 32, 78, 79, 80, 81, 82, 83, 84, 85, 86, 87, 88, 89, 90, 91, 92, 93, 94, 95, 96, 97, 98, 99, 100, 101, 102, 103, 104, 105, 106] (by decide +kernel) (by decide +kernel)
set_option maxRecDepth 20000 in
theorem gX11_why_X11_bar : GoodIn wsX11_why (wsV RX11 100 RX11 yX11_bar wsX11_bar) := goodIn_app (goodIn_of _ (by decide +kernel)) ggX11_why_X11_bar
set_option maxRecDepth 20000 in
theorem ggX11_why_X11_make : GoodIn wsX11_why wsX11_make := goodIn_r _ [36, 3, 21, 2, 37, 38, 4, 22, 23, 24, 9, 25, 26, 27, 39, 40, 41, 42, 15, 43, 11, 12, 13, 14, 44, 45, 46, 47, 48, 49, 50, 51, 52, 32, 78, 79, 80, 81, 82, 83, 84, 85, 86, 87, 88, 89, 90, 91, 92, 93, 94, 95, 96, 97, 98, 99, 100, 101, 102, 103, 104, 105, 106] (by decide +kernel) (by decide +kernel)
set_option maxRecDepth 20000 in
theorem gX11_why_X11_make : GoodIn wsX11_why (wsV RX11 154 RX11 yX11_make wsX11_make) := goodIn_app (goodIn_of _ (by decide +kernel)) ggX11_why_X11_make
set_option maxRecDepth 20000 in
theorem ggX11_why_X11_write : GoodIn wsX11_why wsX11_write := goodIn_r _ [56, 57, 2, 3, 4, 58, 59, 60, 9, 61, 78, 79, 80, 81, 82, 83, 84, 85, 86, 87, 88, 89, 90, 91, 92, 93, 94, 95, 96, 97, 98, 99, 100, 101, 102, 103, 104, 105, 106] (by decide +kernel) (by decide +kernel)
set_option maxRecDepth 20000 in
theorem gX11_why_X11_write : GoodIn wsX11_why (wsV RX11 144 RX11 yX11_write wsX11_write) := goodIn_app (goodIn_of _ (by decide +kernel)) ggX11_why_X11_write
set_option maxRecDepth 20000 in
theorem ggX11_why_X11_cameBack : GoodIn wsX11_why wsX11_cameBack := goodIn_r _ [65, 66, 67, 68, 9, 69, 57, 58, 59, 60, 61, 78, 79, 80, 81, 82, 83, 84, 85, 86, 87, 88, 89, 90, 91, 92, 93, 94, 95, 96, 97, 98, 99, 100, 101, 102, 103, 104, 105, 106] (by decide +kernel) (by decide +kernel)
set_option maxRecDepth 20000 in
theorem gX11_why_X11_cameBack : GoodIn wsX11_why (wsV RX11 158 RX11 yX11_cameBack wsX11_cameBack) := goodIn_app (goodIn_of _ (by decide +kernel)) ggX11_why_X11_cameBack
set_option maxRecDepth 20000 in
theorem ggX11_why_X11_read : GoodIn wsX11_why wsX11_read := goodIn_r _ [73, 21, 2, 3, 57, 4, 58, 59, 60, 9, 61, 78, 79, 80, 81, 82, 83, 84, 85, 86, 87, 88, 89, 90, 91, 92, 93, 94, 95, 96, 97, 98, 99, 100, 101, 102, 103, 104, 105, 106] (by decide +kernel) (by decide +kernel)
set_option maxRecDepth 20000 in
theorem gX11_why_X11_read : GoodIn wsX11_why (wsV RX11 161 RX11 yX11_read wsX11_read) := goodIn_app (goodIn_of _ (by decide +kernel)) ggX11_why_X11_read
set_option maxRecDepth 20000 in
theorem ggX11_why_X11_lookAgain : GoodIn wsX11_why wsX11_lookAgain := goodIn_r _ [77, 6, 38, 2, 37, 57, 58, 59, 60, 9, 61, 78, 79, 80, 81, 82, 83, 84, 85, 86, 87, 88, 89, 90, 91, 92, 93, 94, 95, 96, 97, 98, 99, 100, 101, 102, 103, 104, 105, 106] (by decide +kernel) (by decide +kernel)
set_option maxRecDepth 20000 in
theorem gX11_why_X11_lookAgain : GoodIn wsX11_why (wsV RX11 164 RX11 yX11_lookAgain wsX11_lookAgain) := goodIn_app (goodIn_of _ (by decide +kernel)) ggX11_why_X11_lookAgain
theorem dX11_why_0 : decode cX11_why 0 = .ok (.aload_n 0, 1) := by decide +kernel
theorem dX11_why_1 : decode cX11_why 1 = .ok (.getfield 73, 3) := by decide +kernel
theorem dX11_why_4 : decode cX11_why 4 = .ok (.iconst 1, 1) := by decide +kernel
theorem dX11_why_5 : decode cX11_why 5 = .ok (.if_icmp .eq 5, 3) := by decide +kernel
theorem dX11_why_8 : decode cX11_why 8 = .ok (.iconst 1, 1) := by decide +kernel
theorem dX11_why_9 : decode cX11_why 9 = .ok (.ireturn, 1) := by decide +kernel
theorem dX11_why_10 : decode cX11_why 10 = .ok (.iload_n 1, 1) := by decide +kernel
theorem dX11_why_11 : decode cX11_why 11 = .ok (.iconst 0, 1) := by decide +kernel
theorem dX11_why_12 : decode cX11_why 12 = .ok (.aload_n 0, 1) := by decide +kernel
theorem dX11_why_13 : decode cX11_why 13 = .ok (.getfield 103, 3) := by decide +kernel
theorem dX11_why_16 : decode cX11_why 16 = .ok (.iconst 1, 1) := by decide +kernel
theorem dX11_why_17 : decode cX11_why 17 = .ok (.isub, 1) := by decide +kernel
theorem dX11_why_18 : decode cX11_why 18 = .ok (.invokestatic 69, 3) := by decide +kernel
theorem dX11_why_21 : decode cX11_why 21 = .ok (.ifCond .ne 5, 3) := by decide +kernel
theorem dX11_why_24 : decode cX11_why 24 = .ok (.iconst 2, 1) := by decide +kernel
theorem dX11_why_25 : decode cX11_why 25 = .ok (.ireturn, 1) := by decide +kernel
theorem dX11_why_26 : decode cX11_why 26 = .ok (.aload_n 0, 1) := by decide +kernel
theorem dX11_why_27 : decode cX11_why 27 = .ok (.getfield 30, 3) := by decide +kernel
theorem dX11_why_30 : decode cX11_why 30 = .ok (.iload_n 1, 1) := by decide +kernel
theorem dX11_why_31 : decode cX11_why 31 = .ok (.iaload, 1) := by decide +kernel
theorem dX11_why_32 : decode cX11_why 32 = .ok (.iconst (-1), 1) := by decide +kernel
theorem dX11_why_33 : decode cX11_why 33 = .ok (.if_icmp .ne 5, 3) := by decide +kernel
theorem dX11_why_36 : decode cX11_why 36 = .ok (.iconst 3, 1) := by decide +kernel
theorem dX11_why_37 : decode cX11_why 37 = .ok (.ireturn, 1) := by decide +kernel
theorem dX11_why_38 : decode cX11_why 38 = .ok (.aload_n 0, 1) := by decide +kernel
theorem dX11_why_39 : decode cX11_why 39 = .ok (.iload_n 1, 1) := by decide +kernel
theorem dX11_why_40 : decode cX11_why 40 = .ok (.invokevirtual 106, 3) := by decide +kernel
theorem dX11_why_43 : decode cX11_why 43 = .ok (.aload_n 0, 1) := by decide +kernel
theorem dX11_why_44 : decode cX11_why 44 = .ok (.getfield 126, 3) := by decide +kernel
theorem dX11_why_47 : decode cX11_why 47 = .ok (.if_icmp .eq 5, 3) := by decide +kernel
theorem dX11_why_50 : decode cX11_why 50 = .ok (.iconst 4, 1) := by decide +kernel
theorem dX11_why_51 : decode cX11_why 51 = .ok (.ireturn, 1) := by decide +kernel
theorem dX11_why_52 : decode cX11_why 52 = .ok (.iload_n 2, 1) := by decide +kernel
theorem dX11_why_53 : decode cX11_why 53 = .ok (.iconst 0, 1) := by decide +kernel
theorem dX11_why_54 : decode cX11_why 54 = .ok (.iconst 3, 1) := by decide +kernel
theorem dX11_why_55 : decode cX11_why 55 = .ok (.invokestatic 69, 3) := by decide +kernel
theorem dX11_why_58 : decode cX11_why 58 = .ok (.ifCond .eq 8, 3) := by decide +kernel
theorem dX11_why_61 : decode cX11_why 61 = .ok (.iload_n 3, 1) := by decide +kernel
theorem dX11_why_62 : decode cX11_why 62 = .ok (.iconst 1, 1) := by decide +kernel
theorem dX11_why_63 : decode cX11_why 63 = .ok (.if_icmp .ge 5, 3) := by decide +kernel
theorem dX11_why_66 : decode cX11_why 66 = .ok (.iconst 5, 1) := by decide +kernel
theorem dX11_why_67 : decode cX11_why 67 = .ok (.ireturn, 1) := by decide +kernel
theorem dX11_why_68 : decode cX11_why 68 = .ok (.aload_n 0, 1) := by decide +kernel
theorem dX11_why_69 : decode cX11_why 69 = .ok (.iload_n 1, 1) := by decide +kernel
theorem dX11_why_70 : decode cX11_why 70 = .ok (.iload_n 2, 1) := by decide +kernel
theorem dX11_why_71 : decode cX11_why 71 = .ok (.iload_n 3, 1) := by decide +kernel
theorem dX11_why_72 : decode cX11_why 72 = .ok (.invokevirtual 100, 3) := by decide +kernel
theorem dX11_why_75 : decode cX11_why 75 = .ok (.istore 4, 2) := by decide +kernel
theorem dX11_why_77 : decode cX11_why 77 = .ok (.iload 4, 2) := by decide +kernel
theorem dX11_why_79 : decode cX11_why 79 = .ok (.ifCond .ne 10, 3) := by decide +kernel
theorem dX11_why_82 : decode cX11_why 82 = .ok (.aload_n 0, 1) := by decide +kernel
theorem dX11_why_83 : decode cX11_why 83 = .ok (.getfield 85, 3) := by decide +kernel
theorem dX11_why_86 : decode cX11_why 86 = .ok (.ifCond .ne 6, 3) := by decide +kernel
theorem dX11_why_89 : decode cX11_why 89 = .ok (.iload 4, 2) := by decide +kernel
theorem dX11_why_91 : decode cX11_why 91 = .ok (.ireturn, 1) := by decide +kernel
theorem dX11_why_92 : decode cX11_why 92 = .ok (.aload_n 0, 1) := by decide +kernel
theorem dX11_why_93 : decode cX11_why 93 = .ok (.iload_n 1, 1) := by decide +kernel
theorem dX11_why_94 : decode cX11_why 94 = .ok (.iload_n 2, 1) := by decide +kernel
theorem dX11_why_95 : decode cX11_why 95 = .ok (.iload_n 3, 1) := by decide +kernel
theorem dX11_why_96 : decode cX11_why 96 = .ok (.invokevirtual 154, 3) := by decide +kernel
theorem dX11_why_99 : decode cX11_why 99 = .ok (.aload_n 0, 1) := by decide +kernel
theorem dX11_why_100 : decode cX11_why 100 = .ok (.aload_n 0, 1) := by decide +kernel
theorem dX11_why_101 : decode cX11_why 101 = .ok (.getfield 138, 3) := by decide +kernel
theorem dX11_why_104 : decode cX11_why 104 = .ok (.iconst 1, 1) := by decide +kernel
theorem dX11_why_105 : decode cX11_why 105 = .ok (.iadd, 1) := by decide +kernel
theorem dX11_why_106 : decode cX11_why 106 = .ok (.invokevirtual 144, 3) := by decide +kernel
theorem dX11_why_109 : decode cX11_why 109 = .ok (.aload_n 0, 1) := by decide +kernel
theorem dX11_why_110 : decode cX11_why 110 = .ok (.aload_n 0, 1) := by decide +kernel
theorem dX11_why_111 : decode cX11_why 111 = .ok (.getfield 138, 3) := by decide +kernel
theorem dX11_why_114 : decode cX11_why 114 = .ok (.iconst 1, 1) := by decide +kernel
theorem dX11_why_115 : decode cX11_why 115 = .ok (.iadd, 1) := by decide +kernel
theorem dX11_why_116 : decode cX11_why 116 = .ok (.invokevirtual 158, 3) := by decide +kernel
theorem dX11_why_119 : decode cX11_why 119 = .ok (.istore 5, 2) := by decide +kernel
theorem dX11_why_121 : decode cX11_why 121 = .ok (.aload_n 0, 1) := by decide +kernel
theorem dX11_why_122 : decode cX11_why 122 = .ok (.aload_n 0, 1) := by decide +kernel
theorem dX11_why_123 : decode cX11_why 123 = .ok (.getfield 138, 3) := by decide +kernel
theorem dX11_why_126 : decode cX11_why 126 = .ok (.invokevirtual 161, 3) := by decide +kernel
theorem dX11_why_129 : decode cX11_why 129 = .ok (.aload_n 0, 1) := by decide +kernel
theorem dX11_why_130 : decode cX11_why 130 = .ok (.invokevirtual 164, 3) := by decide +kernel
theorem dX11_why_133 : decode cX11_why 133 = .ok (.iload 5, 2) := by decide +kernel
theorem dX11_why_135 : decode cX11_why 135 = .ok (.ifCond .eq 8, 3) := by decide +kernel
theorem dX11_why_138 : decode cX11_why 138 = .ok (.bipush 10, 2) := by decide +kernel
theorem dX11_why_140 : decode cX11_why 140 = .ok (.goto 4, 3) := by decide +kernel
theorem dX11_why_143 : decode cX11_why 143 = .ok (.iconst 0, 1) := by decide +kernel
theorem dX11_why_144 : decode cX11_why 144 = .ok (.ireturn, 1) := by decide +kernel
set_option maxRecDepth 20000 in
theorem ggX11_lookAgain_X11_row : GoodIn wsX11_lookAgain wsX11_row := goodIn_r _ [10] (by decide +kernel) (by decide +kernel)
set_option maxRecDepth 20000 in
theorem gX11_lookAgain_X11_row : GoodIn wsX11_lookAgain (wsV RX11 129 RX11 yX11_row wsX11_row) := goodIn_app (goodIn_of _ (by decide +kernel)) ggX11_lookAgain_X11_row
theorem dX11_lookAgain_0 : decode cX11_lookAgain 0 = .ok (.aload_n 0, 1) := by decide +kernel
theorem dX11_lookAgain_1 : decode cX11_lookAgain 1 = .ok (.aload_n 0, 1) := by decide +kernel
theorem dX11_lookAgain_2 : decode cX11_lookAgain 2 = .ok (.getfield 138, 3) := by decide +kernel
theorem dX11_lookAgain_5 : decode cX11_lookAgain 5 = .ok (.ifCond .ne 7, 3) := by decide +kernel
theorem dX11_lookAgain_8 : decode cX11_lookAgain 8 = .ok (.iconst (-1), 1) := by decide +kernel
theorem dX11_lookAgain_9 : decode cX11_lookAgain 9 = .ok (.goto 4, 3) := by decide +kernel
theorem dX11_lookAgain_12 : decode cX11_lookAgain 12 = .ok (.iconst 0, 1) := by decide +kernel
theorem dX11_lookAgain_13 : decode cX11_lookAgain 13 = .ok (.putfield 120, 3) := by decide +kernel
theorem dX11_lookAgain_16 : decode cX11_lookAgain 16 = .ok (.iconst 0, 1) := by decide +kernel
theorem dX11_lookAgain_17 : decode cX11_lookAgain 17 = .ok (.istore_n 1, 1) := by decide +kernel
theorem dX11_lookAgain_18 : decode cX11_lookAgain 18 = .ok (.iload_n 1, 1) := by decide +kernel
theorem dX11_lookAgain_19 : decode cX11_lookAgain 19 = .ok (.aload_n 0, 1) := by decide +kernel
theorem dX11_lookAgain_20 : decode cX11_lookAgain 20 = .ok (.getfield 103, 3) := by decide +kernel
theorem dX11_lookAgain_23 : decode cX11_lookAgain 23 = .ok (.if_icmp .ge 86, 3) := by decide +kernel
theorem dX11_lookAgain_26 : decode cX11_lookAgain 26 = .ok (.aload_n 0, 1) := by decide +kernel
theorem dX11_lookAgain_27 : decode cX11_lookAgain 27 = .ok (.getfield 47, 3) := by decide +kernel
theorem dX11_lookAgain_30 : decode cX11_lookAgain 30 = .ok (.iload_n 1, 1) := by decide +kernel
theorem dX11_lookAgain_31 : decode cX11_lookAgain 31 = .ok (.aload_n 0, 1) := by decide +kernel
theorem dX11_lookAgain_32 : decode cX11_lookAgain 32 = .ok (.getfield 138, 3) := by decide +kernel
theorem dX11_lookAgain_35 : decode cX11_lookAgain 35 = .ok (.ifCond .le 47, 3) := by decide +kernel
theorem dX11_lookAgain_38 : decode cX11_lookAgain 38 = .ok (.aload_n 0, 1) := by decide +kernel
theorem dX11_lookAgain_39 : decode cX11_lookAgain 39 = .ok (.getfield 43, 3) := by decide +kernel
theorem dX11_lookAgain_42 : decode cX11_lookAgain 42 = .ok (.aload_n 0, 1) := by decide +kernel
theorem dX11_lookAgain_43 : decode cX11_lookAgain 43 = .ok (.aload_n 0, 1) := by decide +kernel
theorem dX11_lookAgain_44 : decode cX11_lookAgain 44 = .ok (.getfield 138, 3) := by decide +kernel
theorem dX11_lookAgain_47 : decode cX11_lookAgain 47 = .ok (.iconst 1, 1) := by decide +kernel
theorem dX11_lookAgain_48 : decode cX11_lookAgain 48 = .ok (.isub, 1) := by decide +kernel
theorem dX11_lookAgain_49 : decode cX11_lookAgain 49 = .ok (.invokevirtual 129, 3) := by decide +kernel
theorem dX11_lookAgain_52 : decode cX11_lookAgain 52 = .ok (.iload_n 1, 1) := by decide +kernel
theorem dX11_lookAgain_53 : decode cX11_lookAgain 53 = .ok (.iadd, 1) := by decide +kernel
theorem dX11_lookAgain_54 : decode cX11_lookAgain 54 = .ok (.baload, 1) := by decide +kernel
theorem dX11_lookAgain_55 : decode cX11_lookAgain 55 = .ok (.iconst (-1), 1) := by decide +kernel
theorem dX11_lookAgain_56 : decode cX11_lookAgain 56 = .ok (.if_icmp .eq 26, 3) := by decide +kernel
theorem dX11_lookAgain_59 : decode cX11_lookAgain 59 = .ok (.aload_n 0, 1) := by decide +kernel
theorem dX11_lookAgain_60 : decode cX11_lookAgain 60 = .ok (.getfield 43, 3) := by decide +kernel
theorem dX11_lookAgain_63 : decode cX11_lookAgain 63 = .ok (.aload_n 0, 1) := by decide +kernel
theorem dX11_lookAgain_64 : decode cX11_lookAgain 64 = .ok (.aload_n 0, 1) := by decide +kernel
theorem dX11_lookAgain_65 : decode cX11_lookAgain 65 = .ok (.getfield 138, 3) := by decide +kernel
theorem dX11_lookAgain_68 : decode cX11_lookAgain 68 = .ok (.invokevirtual 129, 3) := by decide +kernel
theorem dX11_lookAgain_71 : decode cX11_lookAgain 71 = .ok (.iload_n 1, 1) := by decide +kernel
theorem dX11_lookAgain_72 : decode cX11_lookAgain 72 = .ok (.iadd, 1) := by decide +kernel
theorem dX11_lookAgain_73 : decode cX11_lookAgain 73 = .ok (.baload, 1) := by decide +kernel
theorem dX11_lookAgain_74 : decode cX11_lookAgain 74 = .ok (.iconst (-1), 1) := by decide +kernel
theorem dX11_lookAgain_75 : decode cX11_lookAgain 75 = .ok (.if_icmp .ne 7, 3) := by decide +kernel
theorem dX11_lookAgain_78 : decode cX11_lookAgain 78 = .ok (.iconst 1, 1) := by decide +kernel
theorem dX11_lookAgain_79 : decode cX11_lookAgain 79 = .ok (.goto 4, 3) := by decide +kernel
theorem dX11_lookAgain_82 : decode cX11_lookAgain 82 = .ok (.iconst 0, 1) := by decide +kernel
theorem dX11_lookAgain_83 : decode cX11_lookAgain 83 = .ok (.bastore, 1) := by decide +kernel
theorem dX11_lookAgain_84 : decode cX11_lookAgain 84 = .ok (.aload_n 0, 1) := by decide +kernel
theorem dX11_lookAgain_85 : decode cX11_lookAgain 85 = .ok (.getfield 47, 3) := by decide +kernel
theorem dX11_lookAgain_88 : decode cX11_lookAgain 88 = .ok (.iload_n 1, 1) := by decide +kernel
theorem dX11_lookAgain_89 : decode cX11_lookAgain 89 = .ok (.baload, 1) := by decide +kernel
theorem dX11_lookAgain_90 : decode cX11_lookAgain 90 = .ok (.ifCond .eq 13, 3) := by decide +kernel
theorem dX11_lookAgain_93 : decode cX11_lookAgain 93 = .ok (.aload_n 0, 1) := by decide +kernel
theorem dX11_lookAgain_94 : decode cX11_lookAgain 94 = .ok (.dup, 1) := by decide +kernel
theorem dX11_lookAgain_95 : decode cX11_lookAgain 95 = .ok (.getfield 120, 3) := by decide +kernel
theorem dX11_lookAgain_98 : decode cX11_lookAgain 98 = .ok (.iconst 1, 1) := by decide +kernel
theorem dX11_lookAgain_99 : decode cX11_lookAgain 99 = .ok (.iadd, 1) := by decide +kernel
theorem dX11_lookAgain_100 : decode cX11_lookAgain 100 = .ok (.putfield 120, 3) := by decide +kernel
theorem dX11_lookAgain_103 : decode cX11_lookAgain 103 = .ok (.iinc 1 1, 3) := by decide +kernel
theorem dX11_lookAgain_106 : decode cX11_lookAgain 106 = .ok (.goto (-88), 3) := by decide +kernel
theorem dX11_lookAgain_109 : decode cX11_lookAgain 109 = .ok (.return_, 1) := by decide +kernel
set_option maxRecDepth 20000 in
theorem ggX11_doMove_X11_make : GoodIn wsX11_doMove wsX11_make := goodIn_r _ [12, 4, 13, 14, 15, 16, 1, 17, 18, 19, 11, 20, 21, 22, 23, 24, 25, 26, 27, 28, 29, 30, 31, 32, 33, 34, 35, 36, 37, 38, 39, 40, 41, 42, 86, 87, 88, 89, 90, 91, 92, 93, 94, 95, 96, 97, 98, 99, 100, 101, 102, 103, 104, 105, 106, 107, 108, 109, 110, 111, 112, 113, 114] (by decide +kernel) (by decide +kernel)
set_option maxRecDepth 20000 in
theorem gX11_doMove_X11_make : GoodIn wsX11_doMove (wsV RX11 154 RX11 yX11_make wsX11_make) := goodIn_app (goodIn_of _ (by decide +kernel)) ggX11_doMove_X11_make
set_option maxRecDepth 20000 in
theorem ggX11_doMove_X11_write : GoodIn wsX11_doMove wsX11_write := goodIn_r _ [46, 47, 14, 4, 1, 48, 49, 50, 11, 51, 86, 87, 88, 89, 90, 91, 92, 93, 94, 95, 96, 97, 98, 99, 100, 101, 102, 103, 104, 105, 106, 107, 108, 109, 110, 111, 112, 113, 114] (by decide +kernel) (by decide +kernel)
set_option maxRecDepth 20000 in
theorem gX11_doMove_X11_write : GoodIn wsX11_doMove (wsV RX11 144 RX11 yX11_write wsX11_write) := goodIn_app (goodIn_of _ (by decide +kernel)) ggX11_doMove_X11_write
set_option maxRecDepth 20000 in
theorem ggX11_doMove_X11_isGoal : GoodIn wsX11_doMove wsX11_isGoal := goodIn_r _ [55, 56, 42, 21, 57, 58, 59, 11, 60, 22, 86, 87, 88, 89, 90, 91, 92, 93, 94, 95, 96, 97, 98, 99, 100, 101, 102, 103, 104, 105, 106, 107, 108, 109, 110, 111, 112, 113, 114] (by decide +kernel) (by decide +kernel)
set_option maxRecDepth 20000 in
theorem gX11_doMove_X11_isGoal : GoodIn wsX11_doMove (wsV RX11 148 RX11 yX11_isGoal wsX11_isGoal) := goodIn_app (goodIn_of _ (by decide +kernel)) ggX11_doMove_X11_isGoal
set_option maxRecDepth 20000 in
theorem ggX11_doMove_X11_canGo : GoodIn wsX11_doMove wsX11_canGo := goodIn_r _ [64, 14, 29, 30, 31, 11, 32, 27, 65, 66, 67, 68, 4, 69, 70, 71, 72, 73, 13, 17, 18, 19, 20, 21, 22, 74, 75, 76, 77, 42, 86, 87, 88, 89, 90, 91, 92, 93, 94, 95, 96, 97, 98, 99, 100, 101, 102, 103, 104, 105, 106, 107, 108, 109, 110, 111, 112, 113, 114] (by decide +kernel) (by decide +kernel)
set_option maxRecDepth 20000 in
theorem gX11_doMove_X11_canGo : GoodIn wsX11_doMove (wsV RX11 151 RX11 yX11_canGo wsX11_canGo) := goodIn_app (goodIn_of _ (by decide +kernel)) ggX11_doMove_X11_canGo
set_option maxRecDepth 20000 in
theorem ggX11_doMove_X11_cameBack : GoodIn wsX11_doMove wsX11_cameBack := goodIn_r _ [81, 82, 83, 84, 11, 85, 47, 48, 49, 50, 51, 86, 87, 88, 89, 90, 91, 92, 93, 94, 95, 96, 97, 98, 99, 100, 101, 102, 103, 104, 105, 106, 107, 108, 109, 110, 111, 112, 113, 114] (by decide +kernel) (by decide +kernel)
set_option maxRecDepth 20000 in
theorem gX11_doMove_X11_cameBack : GoodIn wsX11_doMove (wsV RX11 158 RX11 yX11_cameBack wsX11_cameBack) := goodIn_app (goodIn_of _ (by decide +kernel)) ggX11_doMove_X11_cameBack
theorem dX11_doMove_0 : decode cX11_doMove 0 = .ok (.aload_n 0, 1) := by decide +kernel
theorem dX11_doMove_1 : decode cX11_doMove 1 = .ok (.getfield 126, 3) := by decide +kernel
theorem dX11_doMove_4 : decode cX11_doMove 4 = .ok (.istore_n 2, 1) := by decide +kernel
theorem dX11_doMove_5 : decode cX11_doMove 5 = .ok (.aload_n 0, 1) := by decide +kernel
theorem dX11_doMove_6 : decode cX11_doMove 6 = .ok (.iload_n 1, 1) := by decide +kernel
theorem dX11_doMove_7 : decode cX11_doMove 7 = .ok (.bipush 32, 2) := by decide +kernel
theorem dX11_doMove_9 : decode cX11_doMove 9 = .ok (.idiv, 1) := by decide +kernel
theorem dX11_doMove_10 : decode cX11_doMove 10 = .ok (.iload_n 1, 1) := by decide +kernel
theorem dX11_doMove_11 : decode cX11_doMove 11 = .ok (.bipush 8, 2) := by decide +kernel
theorem dX11_doMove_13 : decode cX11_doMove 13 = .ok (.idiv, 1) := by decide +kernel
theorem dX11_doMove_14 : decode cX11_doMove 14 = .ok (.iconst 4, 1) := by decide +kernel
theorem dX11_doMove_15 : decode cX11_doMove 15 = .ok (.irem, 1) := by decide +kernel
theorem dX11_doMove_16 : decode cX11_doMove 16 = .ok (.iload_n 1, 1) := by decide +kernel
theorem dX11_doMove_17 : decode cX11_doMove 17 = .ok (.bipush 8, 2) := by decide +kernel
theorem dX11_doMove_19 : decode cX11_doMove 19 = .ok (.irem, 1) := by decide +kernel
theorem dX11_doMove_20 : decode cX11_doMove 20 = .ok (.iconst 1, 1) := by decide +kernel
theorem dX11_doMove_21 : decode cX11_doMove 21 = .ok (.iadd, 1) := by decide +kernel
theorem dX11_doMove_22 : decode cX11_doMove 22 = .ok (.invokevirtual 154, 3) := by decide +kernel
theorem dX11_doMove_25 : decode cX11_doMove 25 = .ok (.aload_n 0, 1) := by decide +kernel
theorem dX11_doMove_26 : decode cX11_doMove 26 = .ok (.getfield 39, 3) := by decide +kernel
theorem dX11_doMove_29 : decode cX11_doMove 29 = .ok (.aload_n 0, 1) := by decide +kernel
theorem dX11_doMove_30 : decode cX11_doMove 30 = .ok (.getfield 138, 3) := by decide +kernel
theorem dX11_doMove_33 : decode cX11_doMove 33 = .ok (.iload_n 1, 1) := by decide +kernel
theorem dX11_doMove_34 : decode cX11_doMove 34 = .ok (.iastore, 1) := by decide +kernel
theorem dX11_doMove_35 : decode cX11_doMove 35 = .ok (.aload_n 0, 1) := by decide +kernel
theorem dX11_doMove_36 : decode cX11_doMove 36 = .ok (.dup, 1) := by decide +kernel
theorem dX11_doMove_37 : decode cX11_doMove 37 = .ok (.getfield 138, 3) := by decide +kernel
theorem dX11_doMove_40 : decode cX11_doMove 40 = .ok (.iconst 1, 1) := by decide +kernel
theorem dX11_doMove_41 : decode cX11_doMove 41 = .ok (.iadd, 1) := by decide +kernel
theorem dX11_doMove_42 : decode cX11_doMove 42 = .ok (.putfield 138, 3) := by decide +kernel
theorem dX11_doMove_45 : decode cX11_doMove 45 = .ok (.aload_n 0, 1) := by decide +kernel
theorem dX11_doMove_46 : decode cX11_doMove 46 = .ok (.aload_n 0, 1) := by decide +kernel
theorem dX11_doMove_47 : decode cX11_doMove 47 = .ok (.getfield 138, 3) := by decide +kernel
theorem dX11_doMove_50 : decode cX11_doMove 50 = .ok (.invokevirtual 144, 3) := by decide +kernel
theorem dX11_doMove_53 : decode cX11_doMove 53 = .ok (.aload_n 0, 1) := by decide +kernel
theorem dX11_doMove_54 : decode cX11_doMove 54 = .ok (.getfield 30, 3) := by decide +kernel
theorem dX11_doMove_57 : decode cX11_doMove 57 = .ok (.aload_n 0, 1) := by decide +kernel
theorem dX11_doMove_58 : decode cX11_doMove 58 = .ok (.getfield 135, 3) := by decide +kernel
theorem dX11_doMove_61 : decode cX11_doMove 61 = .ok (.iaload, 1) := by decide +kernel
theorem dX11_doMove_62 : decode cX11_doMove 62 = .ok (.iconst (-1), 1) := by decide +kernel
theorem dX11_doMove_63 : decode cX11_doMove 63 = .ok (.if_icmp .ne 11, 3) := by decide +kernel
theorem dX11_doMove_66 : decode cX11_doMove 66 = .ok (.aload_n 0, 1) := by decide +kernel
theorem dX11_doMove_67 : decode cX11_doMove 67 = .ok (.iconst 3, 1) := by decide +kernel
theorem dX11_doMove_68 : decode cX11_doMove 68 = .ok (.putfield 73, 3) := by decide +kernel
theorem dX11_doMove_71 : decode cX11_doMove 71 = .ok (.goto 78, 3) := by decide +kernel
theorem dX11_doMove_74 : decode cX11_doMove 74 = .ok (.iload_n 2, 1) := by decide +kernel
theorem dX11_doMove_75 : decode cX11_doMove 75 = .ok (.ifCond .ne 27, 3) := by decide +kernel
theorem dX11_doMove_78 : decode cX11_doMove 78 = .ok (.aload_n 0, 1) := by decide +kernel
theorem dX11_doMove_79 : decode cX11_doMove 79 = .ok (.aload_n 0, 1) := by decide +kernel
theorem dX11_doMove_80 : decode cX11_doMove 80 = .ok (.getfield 30, 3) := by decide +kernel
theorem dX11_doMove_83 : decode cX11_doMove 83 = .ok (.aload_n 0, 1) := by decide +kernel
theorem dX11_doMove_84 : decode cX11_doMove 84 = .ok (.getfield 135, 3) := by decide +kernel
theorem dX11_doMove_87 : decode cX11_doMove 87 = .ok (.iaload, 1) := by decide +kernel
theorem dX11_doMove_88 : decode cX11_doMove 88 = .ok (.invokevirtual 148, 3) := by decide +kernel
theorem dX11_doMove_91 : decode cX11_doMove 91 = .ok (.ifCond .eq 11, 3) := by decide +kernel
theorem dX11_doMove_94 : decode cX11_doMove 94 = .ok (.aload_n 0, 1) := by decide +kernel
theorem dX11_doMove_95 : decode cX11_doMove 95 = .ok (.iconst 2, 1) := by decide +kernel
theorem dX11_doMove_96 : decode cX11_doMove 96 = .ok (.putfield 73, 3) := by decide +kernel
theorem dX11_doMove_99 : decode cX11_doMove 99 = .ok (.goto 50, 3) := by decide +kernel
theorem dX11_doMove_102 : decode cX11_doMove 102 = .ok (.aload_n 0, 1) := by decide +kernel
theorem dX11_doMove_103 : decode cX11_doMove 103 = .ok (.aload_n 0, 1) := by decide +kernel
theorem dX11_doMove_104 : decode cX11_doMove 104 = .ok (.getfield 126, 3) := by decide +kernel
theorem dX11_doMove_107 : decode cX11_doMove 107 = .ok (.invokevirtual 151, 3) := by decide +kernel
theorem dX11_doMove_110 : decode cX11_doMove 110 = .ok (.ifCond .ne 16, 3) := by decide +kernel
theorem dX11_doMove_113 : decode cX11_doMove 113 = .ok (.aload_n 0, 1) := by decide +kernel
theorem dX11_doMove_114 : decode cX11_doMove 114 = .ok (.iconst 3, 1) := by decide +kernel
theorem dX11_doMove_115 : decode cX11_doMove 115 = .ok (.aload_n 0, 1) := by decide +kernel
theorem dX11_doMove_116 : decode cX11_doMove 116 = .ok (.getfield 126, 3) := by decide +kernel
theorem dX11_doMove_119 : decode cX11_doMove 119 = .ok (.isub, 1) := by decide +kernel
theorem dX11_doMove_120 : decode cX11_doMove 120 = .ok (.putfield 73, 3) := by decide +kernel
theorem dX11_doMove_123 : decode cX11_doMove 123 = .ok (.goto 26, 3) := by decide +kernel
theorem dX11_doMove_126 : decode cX11_doMove 126 = .ok (.aload_n 0, 1) := by decide +kernel
theorem dX11_doMove_127 : decode cX11_doMove 127 = .ok (.getfield 85, 3) := by decide +kernel
theorem dX11_doMove_130 : decode cX11_doMove 130 = .ok (.ifCond .ne 19, 3) := by decide +kernel
theorem dX11_doMove_133 : decode cX11_doMove 133 = .ok (.aload_n 0, 1) := by decide +kernel
theorem dX11_doMove_134 : decode cX11_doMove 134 = .ok (.aload_n 0, 1) := by decide +kernel
theorem dX11_doMove_135 : decode cX11_doMove 135 = .ok (.getfield 138, 3) := by decide +kernel
theorem dX11_doMove_138 : decode cX11_doMove 138 = .ok (.invokevirtual 158, 3) := by decide +kernel
theorem dX11_doMove_141 : decode cX11_doMove 141 = .ok (.ifCond .eq 8, 3) := by decide +kernel
theorem dX11_doMove_144 : decode cX11_doMove 144 = .ok (.aload_n 0, 1) := by decide +kernel
theorem dX11_doMove_145 : decode cX11_doMove 145 = .ok (.iconst 4, 1) := by decide +kernel
theorem dX11_doMove_146 : decode cX11_doMove 146 = .ok (.putfield 73, 3) := by decide +kernel
theorem dX11_doMove_149 : decode cX11_doMove 149 = .ok (.return_, 1) := by decide +kernel
set_option maxRecDepth 20000 in
theorem ggX11_go_X11_why : GoodIn wsX11_go wsX11_why := goodIn_r _ [7, 8, 9, 10, 11, 12, 13, 14, 15, 6, 16, 17, 18, 19, 20, 21, 22, 23, 24, 25, 26, 27, 28, 29, 30, 31, 32, 33, 34, 35, 36, 37, 38, 39, 40, 41, 42, 43, 2, 44, 45, 46, 47, 48, 49, 50, 51, 52, 53, 54, 55, 56, 57, 58, 59, 60, 61, 62, 63, 64, 65, 66, 67, 68, 69, 70, 71, 72, 73, 74, 75, 76, 77, 78, 79, 80, 81, 82, 106, 107, 108, 109, 110, 111, 112, 113, 114, 115, 116, 117, 118, 119, 120, 121, 122, 123, 124, 125, 126, 127, 128, 129, 130, 131, 132, 133, 134] (by decide +kernel) (by decide +kernel)
set_option maxRecDepth 20000 in
theorem gX11_go_X11_why : GoodIn wsX11_go (wsV RX11 167 RX11 yX11_why wsX11_why) := goodIn_app (goodIn_of _ (by decide +kernel)) ggX11_go_X11_why
set_option maxRecDepth 20000 in
theorem ggX11_go_X11_doMove : GoodIn wsX11_go wsX11_doMove := goodIn_r _ [86, 11, 87, 13, 10, 88, 8, 12, 39, 40, 41, 6, 42, 27, 9, 43, 2, 28, 29, 30, 31, 32, 33, 44, 45, 46, 47, 21, 48, 17, 18, 19, 20, 49, 50, 51, 52, 53, 54, 55, 56, 57, 38, 58, 59, 60, 61, 62, 63, 64, 65, 66, 89, 90, 91, 92, 93, 94, 95, 96, 97, 98, 99, 100, 101, 102, 103, 104, 105, 22, 23, 24, 25, 26, 34, 35, 36, 37, 67, 68, 69, 70, 71, 72, 73, 74, 106, 107, 108, 109, 110, 111, 112, 113, 114, 115, 116, 117, 118, 119, 120, 121, 122, 123, 124, 125, 126, 127, 128, 129, 130, 131, 132, 133, 134] (by decide +kernel) (by decide +kernel)
set_option maxRecDepth 20000 in
theorem gX11_go_X11_doMove : GoodIn wsX11_go (wsV RX11 170 RX11 yX11_doMove wsX11_doMove) := goodIn_app (goodIn_of _ (by decide +kernel)) ggX11_go_X11_doMove
theorem dX11_go_0 : decode cX11_go 0 = .ok (.aload_n 0, 1) := by decide +kernel
theorem dX11_go_1 : decode cX11_go 1 = .ok (.iload_n 1, 1) := by decide +kernel
theorem dX11_go_2 : decode cX11_go 2 = .ok (.iload_n 2, 1) := by decide +kernel
theorem dX11_go_3 : decode cX11_go 3 = .ok (.iload_n 3, 1) := by decide +kernel
theorem dX11_go_4 : decode cX11_go 4 = .ok (.invokevirtual 167, 3) := by decide +kernel
theorem dX11_go_7 : decode cX11_go 7 = .ok (.ifCond .eq 5, 3) := by decide +kernel
theorem dX11_go_10 : decode cX11_go 10 = .ok (.iconst (-1), 1) := by decide +kernel
theorem dX11_go_11 : decode cX11_go 11 = .ok (.ireturn, 1) := by decide +kernel
theorem dX11_go_12 : decode cX11_go 12 = .ok (.aload_n 0, 1) := by decide +kernel
theorem dX11_go_13 : decode cX11_go 13 = .ok (.bipush 32, 2) := by decide +kernel
theorem dX11_go_15 : decode cX11_go 15 = .ok (.iload_n 1, 1) := by decide +kernel
theorem dX11_go_16 : decode cX11_go 16 = .ok (.imul, 1) := by decide +kernel
theorem dX11_go_17 : decode cX11_go 17 = .ok (.bipush 8, 2) := by decide +kernel
theorem dX11_go_19 : decode cX11_go 19 = .ok (.iload_n 2, 1) := by decide +kernel
theorem dX11_go_20 : decode cX11_go 20 = .ok (.imul, 1) := by decide +kernel
theorem dX11_go_21 : decode cX11_go 21 = .ok (.iadd, 1) := by decide +kernel
theorem dX11_go_22 : decode cX11_go 22 = .ok (.iload_n 3, 1) := by decide +kernel
theorem dX11_go_23 : decode cX11_go 23 = .ok (.iadd, 1) := by decide +kernel
theorem dX11_go_24 : decode cX11_go 24 = .ok (.iconst 1, 1) := by decide +kernel
theorem dX11_go_25 : decode cX11_go 25 = .ok (.isub, 1) := by decide +kernel
theorem dX11_go_26 : decode cX11_go 26 = .ok (.invokevirtual 170, 3) := by decide +kernel
theorem dX11_go_29 : decode cX11_go 29 = .ok (.aload_n 0, 1) := by decide +kernel
theorem dX11_go_30 : decode cX11_go 30 = .ok (.iconst 0, 1) := by decide +kernel
theorem dX11_go_31 : decode cX11_go 31 = .ok (.putfield 141, 3) := by decide +kernel
theorem dX11_go_34 : decode cX11_go 34 = .ok (.aload_n 0, 1) := by decide +kernel
theorem dX11_go_35 : decode cX11_go 35 = .ok (.getfield 120, 3) := by decide +kernel
theorem dX11_go_38 : decode cX11_go 38 = .ok (.ireturn, 1) := by decide +kernel
set_option maxRecDepth 20000 in
theorem ggX11_back_X11_read : GoodIn wsX11_back wsX11_read := goodIn_r _ [8, 9, 10, 11, 12, 13, 14, 15, 16, 7, 17, 24, 25, 26, 27, 28, 29, 30, 31, 32, 33, 34, 35, 36, 37, 38, 39, 40, 41, 42, 43, 44, 45, 46, 47, 48, 49, 50, 51, 52] (by decide +kernel) (by decide +kernel)
set_option maxRecDepth 20000 in
theorem gX11_back_X11_read : GoodIn wsX11_back (wsV RX11 161 RX11 yX11_read wsX11_read) := goodIn_app (goodIn_of _ (by decide +kernel)) ggX11_back_X11_read
set_option maxRecDepth 20000 in
theorem ggX11_back_X11_lookAgain : GoodIn wsX11_back wsX11_lookAgain := goodIn_r _ [21, 2, 22, 10, 23, 12, 14, 15, 16, 7, 17, 24, 25, 26, 27, 28, 29, 30, 31, 32, 33, 34, 35, 36, 37, 38, 39, 40, 41, 42, 43, 44, 45, 46, 47, 48, 49, 50, 51, 52] (by decide +kernel) (by decide +kernel)
set_option maxRecDepth 20000 in
theorem gX11_back_X11_lookAgain : GoodIn wsX11_back (wsV RX11 164 RX11 yX11_lookAgain wsX11_lookAgain) := goodIn_app (goodIn_of _ (by decide +kernel)) ggX11_back_X11_lookAgain
theorem dX11_back_0 : decode cX11_back 0 = .ok (.aload_n 0, 1) := by decide +kernel
theorem dX11_back_1 : decode cX11_back 1 = .ok (.getfield 73, 3) := by decide +kernel
theorem dX11_back_4 : decode cX11_back 4 = .ok (.ifCond .eq 10, 3) := by decide +kernel
theorem dX11_back_7 : decode cX11_back 7 = .ok (.aload_n 0, 1) := by decide +kernel
theorem dX11_back_8 : decode cX11_back 8 = .ok (.getfield 138, 3) := by decide +kernel
theorem dX11_back_11 : decode cX11_back 11 = .ok (.ifCond .ne 5, 3) := by decide +kernel
theorem dX11_back_14 : decode cX11_back 14 = .ok (.iconst 0, 1) := by decide +kernel
theorem dX11_back_15 : decode cX11_back 15 = .ok (.ireturn, 1) := by decide +kernel
theorem dX11_back_16 : decode cX11_back 16 = .ok (.aload_n 0, 1) := by decide +kernel
theorem dX11_back_17 : decode cX11_back 17 = .ok (.dup, 1) := by decide +kernel
theorem dX11_back_18 : decode cX11_back 18 = .ok (.getfield 138, 3) := by decide +kernel
theorem dX11_back_21 : decode cX11_back 21 = .ok (.iconst 1, 1) := by decide +kernel
theorem dX11_back_22 : decode cX11_back 22 = .ok (.isub, 1) := by decide +kernel
theorem dX11_back_23 : decode cX11_back 23 = .ok (.putfield 138, 3) := by decide +kernel
theorem dX11_back_26 : decode cX11_back 26 = .ok (.aload_n 0, 1) := by decide +kernel
theorem dX11_back_27 : decode cX11_back 27 = .ok (.dup, 1) := by decide +kernel
theorem dX11_back_28 : decode cX11_back 28 = .ok (.getfield 141, 3) := by decide +kernel
theorem dX11_back_31 : decode cX11_back 31 = .ok (.iconst 1, 1) := by decide +kernel
theorem dX11_back_32 : decode cX11_back 32 = .ok (.iadd, 1) := by decide +kernel
theorem dX11_back_33 : decode cX11_back 33 = .ok (.putfield 141, 3) := by decide +kernel
theorem dX11_back_36 : decode cX11_back 36 = .ok (.aload_n 0, 1) := by decide +kernel
theorem dX11_back_37 : decode cX11_back 37 = .ok (.aload_n 0, 1) := by decide +kernel
theorem dX11_back_38 : decode cX11_back 38 = .ok (.getfield 138, 3) := by decide +kernel
theorem dX11_back_41 : decode cX11_back 41 = .ok (.invokevirtual 161, 3) := by decide +kernel
theorem dX11_back_44 : decode cX11_back 44 = .ok (.aload_n 0, 1) := by decide +kernel
theorem dX11_back_45 : decode cX11_back 45 = .ok (.invokevirtual 164, 3) := by decide +kernel
theorem dX11_back_48 : decode cX11_back 48 = .ok (.aload_n 0, 1) := by decide +kernel
theorem dX11_back_49 : decode cX11_back 49 = .ok (.iconst 1, 1) := by decide +kernel
theorem dX11_back_50 : decode cX11_back 50 = .ok (.putfield 73, 3) := by decide +kernel
theorem dX11_back_53 : decode cX11_back 53 = .ok (.iconst 1, 1) := by decide +kernel
theorem dX11_back_54 : decode cX11_back 54 = .ok (.ireturn, 1) := by decide +kernel
set_option maxRecDepth 20000 in
theorem ggX11_again_X11_doMove : GoodIn wsX11_again wsX11_doMove := goodIn_r _ [9, 10, 3, 4, 11, 12, 1, 13, 14, 15, 16, 8, 17, 18, 19, 20, 21, 22, 23, 24, 25, 26, 27, 28, 29, 30, 31, 32, 33, 34, 35, 36, 37, 38, 39, 40, 41, 42, 43, 44, 45, 46, 47, 48, 49, 50, 51, 52, 53, 54, 55, 56, 57, 58, 59, 60, 61, 62, 63, 64, 65, 66, 67, 68, 69, 70, 71, 72, 73, 74, 75, 76, 77, 78, 79, 80, 81, 82, 83, 84, 85, 86, 87, 88, 89, 90, 91, 92, 93, 94, 95, 96, 97, 98, 99, 100, 101, 102, 103, 104, 105, 106, 107, 108, 109, 110, 111, 112, 113, 114, 115, 116, 117, 118, 119] (by decide +kernel) (by decide +kernel)
set_option maxRecDepth 20000 in
theorem gX11_again_X11_doMove : GoodIn wsX11_again (wsV RX11 170 RX11 yX11_doMove wsX11_doMove) := goodIn_app (goodIn_of _ (by decide +kernel)) ggX11_again_X11_doMove
theorem dX11_again_0 : decode cX11_again 0 = .ok (.aload_n 0, 1) := by decide +kernel
theorem dX11_again_1 : decode cX11_again 1 = .ok (.getfield 73, 3) := by decide +kernel
theorem dX11_again_4 : decode cX11_again 4 = .ok (.ifCond .eq 10, 3) := by decide +kernel
theorem dX11_again_7 : decode cX11_again 7 = .ok (.aload_n 0, 1) := by decide +kernel
theorem dX11_again_8 : decode cX11_again 8 = .ok (.getfield 141, 3) := by decide +kernel
theorem dX11_again_11 : decode cX11_again 11 = .ok (.ifCond .ne 5, 3) := by decide +kernel
theorem dX11_again_14 : decode cX11_again 14 = .ok (.iconst 0, 1) := by decide +kernel
theorem dX11_again_15 : decode cX11_again 15 = .ok (.ireturn, 1) := by decide +kernel
theorem dX11_again_16 : decode cX11_again 16 = .ok (.aload_n 0, 1) := by decide +kernel
theorem dX11_again_17 : decode cX11_again 17 = .ok (.dup, 1) := by decide +kernel
theorem dX11_again_18 : decode cX11_again 18 = .ok (.getfield 141, 3) := by decide +kernel
theorem dX11_again_21 : decode cX11_again 21 = .ok (.iconst 1, 1) := by decide +kernel
theorem dX11_again_22 : decode cX11_again 22 = .ok (.isub, 1) := by decide +kernel
theorem dX11_again_23 : decode cX11_again 23 = .ok (.putfield 141, 3) := by decide +kernel
theorem dX11_again_26 : decode cX11_again 26 = .ok (.aload_n 0, 1) := by decide +kernel
theorem dX11_again_27 : decode cX11_again 27 = .ok (.aload_n 0, 1) := by decide +kernel
theorem dX11_again_28 : decode cX11_again 28 = .ok (.getfield 39, 3) := by decide +kernel
theorem dX11_again_31 : decode cX11_again 31 = .ok (.aload_n 0, 1) := by decide +kernel
theorem dX11_again_32 : decode cX11_again 32 = .ok (.getfield 138, 3) := by decide +kernel
theorem dX11_again_35 : decode cX11_again 35 = .ok (.iaload, 1) := by decide +kernel
theorem dX11_again_36 : decode cX11_again 36 = .ok (.invokevirtual 170, 3) := by decide +kernel
theorem dX11_again_39 : decode cX11_again 39 = .ok (.iconst 1, 1) := by decide +kernel
theorem dX11_again_40 : decode cX11_again 40 = .ok (.ireturn, 1) := by decide +kernel
set_option maxRecDepth 20000 in
theorem ggX11_about_X11_fields : GoodIn wsX11_about wsX11_fields := goodIn_r _ [13, 7, 14, 15, 16, 17, 18, 19, 20, 21, 22, 23, 24, 25, 26, 27, 28, 29, 30, 31, 32, 33, 34, 35, 36, 37, 38, 39, 40, 41, 42, 43] (by decide +kernel) (by decide +kernel)
set_option maxRecDepth 20000 in
theorem gX11_about_X11_fields : GoodIn wsX11_about (wsV RX11 88 RX11 yX11_fields wsX11_fields) := goodIn_app (goodIn_of _ (by decide +kernel)) ggX11_about_X11_fields
theorem dX11_about_0 : decode cX11_about 0 = .ok (.aload_n 0, 1) := by decide +kernel
theorem dX11_about_1 : decode cX11_about 1 = .ok (.getfield 73, 3) := by decide +kernel
theorem dX11_about_4 : decode cX11_about 4 = .ok (.ifCond .le 7, 3) := by decide +kernel
theorem dX11_about_7 : decode cX11_about 7 = .ok (.iconst 1, 1) := by decide +kernel
theorem dX11_about_8 : decode cX11_about 8 = .ok (.goto 4, 3) := by decide +kernel
theorem dX11_about_11 : decode cX11_about 11 = .ok (.iconst 0, 1) := by decide +kernel
theorem dX11_about_12 : decode cX11_about 12 = .ok (.istore_n 2, 1) := by decide +kernel
theorem dX11_about_13 : decode cX11_about 13 = .ok (.iload_n 1, 1) := by decide +kernel
theorem dX11_about_14 : decode cX11_about 14 = .ok (.tableswitch 179 0 8 #[50, 55, 72, 85, 130, 143, 148, 161, 166], 50) := by decide +kernel
theorem dX11_about_64 : decode cX11_about 64 = .ok (.aload_n 0, 1) := by decide +kernel
theorem dX11_about_65 : decode cX11_about 65 = .ok (.getfield 73, 3) := by decide +kernel
theorem dX11_about_68 : decode cX11_about 68 = .ok (.ireturn, 1) := by decide +kernel
theorem dX11_about_69 : decode cX11_about 69 = .ok (.aload_n 0, 1) := by decide +kernel
theorem dX11_about_70 : decode cX11_about 70 = .ok (.getfield 73, 3) := by decide +kernel
theorem dX11_about_73 : decode cX11_about 73 = .ok (.iconst 1, 1) := by decide +kernel
theorem dX11_about_74 : decode cX11_about 74 = .ok (.if_icmp .ne 10, 3) := by decide +kernel
theorem dX11_about_77 : decode cX11_about 77 = .ok (.aload_n 0, 1) := by decide +kernel
theorem dX11_about_78 : decode cX11_about 78 = .ok (.getfield 126, 3) := by decide +kernel
theorem dX11_about_81 : decode cX11_about 81 = .ok (.goto 4, 3) := by decide +kernel
theorem dX11_about_84 : decode cX11_about 84 = .ok (.iconst (-1), 1) := by decide +kernel
theorem dX11_about_85 : decode cX11_about 85 = .ok (.ireturn, 1) := by decide +kernel
theorem dX11_about_86 : decode cX11_about 86 = .ok (.iload_n 2, 1) := by decide +kernel
theorem dX11_about_87 : decode cX11_about 87 = .ok (.ifCond .eq 10, 3) := by decide +kernel
theorem dX11_about_90 : decode cX11_about 90 = .ok (.aload_n 0, 1) := by decide +kernel
theorem dX11_about_91 : decode cX11_about 91 = .ok (.getfield 103, 3) := by decide +kernel
theorem dX11_about_94 : decode cX11_about 94 = .ok (.goto 4, 3) := by decide +kernel
theorem dX11_about_97 : decode cX11_about 97 = .ok (.iconst 0, 1) := by decide +kernel
theorem dX11_about_98 : decode cX11_about 98 = .ok (.ireturn, 1) := by decide +kernel
theorem dX11_about_99 : decode cX11_about 99 = .ok (.iconst 0, 1) := by decide +kernel
theorem dX11_about_100 : decode cX11_about 100 = .ok (.istore_n 3, 1) := by decide +kernel
theorem dX11_about_101 : decode cX11_about 101 = .ok (.iconst 0, 1) := by decide +kernel
theorem dX11_about_102 : decode cX11_about 102 = .ok (.istore 4, 2) := by decide +kernel
theorem dX11_about_104 : decode cX11_about 104 = .ok (.iload 4, 2) := by decide +kernel
theorem dX11_about_106 : decode cX11_about 106 = .ok (.aload_n 0, 1) := by decide +kernel
theorem dX11_about_107 : decode cX11_about 107 = .ok (.getfield 103, 3) := by decide +kernel
theorem dX11_about_110 : decode cX11_about 110 = .ok (.if_icmp .ge 32, 3) := by decide +kernel
theorem dX11_about_113 : decode cX11_about 113 = .ok (.iload_n 2, 1) := by decide +kernel
theorem dX11_about_114 : decode cX11_about 114 = .ok (.ifCond .eq 28, 3) := by decide +kernel
theorem dX11_about_117 : decode cX11_about 117 = .ok (.iload_n 3, 1) := by decide +kernel
theorem dX11_about_118 : decode cX11_about 118 = .ok (.aload_n 0, 1) := by decide +kernel
theorem dX11_about_119 : decode cX11_about 119 = .ok (.getfield 30, 3) := by decide +kernel
theorem dX11_about_122 : decode cX11_about 122 = .ok (.iload 4, 2) := by decide +kernel
theorem dX11_about_124 : decode cX11_about 124 = .ok (.iaload, 1) := by decide +kernel
theorem dX11_about_125 : decode cX11_about 125 = .ok (.iconst (-1), 1) := by decide +kernel
theorem dX11_about_126 : decode cX11_about 126 = .ok (.if_icmp .ne 7, 3) := by decide +kernel
theorem dX11_about_129 : decode cX11_about 129 = .ok (.iconst 1, 1) := by decide +kernel
theorem dX11_about_130 : decode cX11_about 130 = .ok (.goto 4, 3) := by decide +kernel
theorem dX11_about_133 : decode cX11_about 133 = .ok (.iconst 0, 1) := by decide +kernel
theorem dX11_about_134 : decode cX11_about 134 = .ok (.iadd, 1) := by decide +kernel
theorem dX11_about_135 : decode cX11_about 135 = .ok (.istore_n 3, 1) := by decide +kernel
theorem dX11_about_136 : decode cX11_about 136 = .ok (.iinc 4 1, 3) := by decide +kernel
theorem dX11_about_139 : decode cX11_about 139 = .ok (.goto (-35), 3) := by decide +kernel
theorem dX11_about_142 : decode cX11_about 142 = .ok (.iload_n 3, 1) := by decide +kernel
theorem dX11_about_143 : decode cX11_about 143 = .ok (.ireturn, 1) := by decide +kernel
theorem dX11_about_144 : decode cX11_about 144 = .ok (.iload_n 2, 1) := by decide +kernel
theorem dX11_about_145 : decode cX11_about 145 = .ok (.ifCond .eq 10, 3) := by decide +kernel
theorem dX11_about_148 : decode cX11_about 148 = .ok (.aload_n 0, 1) := by decide +kernel
theorem dX11_about_149 : decode cX11_about 149 = .ok (.getfield 138, 3) := by decide +kernel
theorem dX11_about_152 : decode cX11_about 152 = .ok (.goto 4, 3) := by decide +kernel
theorem dX11_about_155 : decode cX11_about 155 = .ok (.iconst 0, 1) := by decide +kernel
theorem dX11_about_156 : decode cX11_about 156 = .ok (.ireturn, 1) := by decide +kernel
theorem dX11_about_157 : decode cX11_about 157 = .ok (.aload_n 0, 1) := by decide +kernel
theorem dX11_about_158 : decode cX11_about 158 = .ok (.invokevirtual 88, 3) := by decide +kernel
theorem dX11_about_161 : decode cX11_about 161 = .ok (.ireturn, 1) := by decide +kernel
theorem dX11_about_162 : decode cX11_about 162 = .ok (.iload_n 2, 1) := by decide +kernel
theorem dX11_about_163 : decode cX11_about 163 = .ok (.ifCond .eq 10, 3) := by decide +kernel
theorem dX11_about_166 : decode cX11_about 166 = .ok (.aload_n 0, 1) := by decide +kernel
theorem dX11_about_167 : decode cX11_about 167 = .ok (.getfield 141, 3) := by decide +kernel
theorem dX11_about_170 : decode cX11_about 170 = .ok (.goto 4, 3) := by decide +kernel
theorem dX11_about_173 : decode cX11_about 173 = .ok (.iconst 0, 1) := by decide +kernel
theorem dX11_about_174 : decode cX11_about 174 = .ok (.ireturn, 1) := by decide +kernel
theorem dX11_about_175 : decode cX11_about 175 = .ok (.aload_n 0, 1) := by decide +kernel
theorem dX11_about_176 : decode cX11_about 176 = .ok (.getfield 7, 3) := by decide +kernel
theorem dX11_about_179 : decode cX11_about 179 = .ok (.ireturn, 1) := by decide +kernel
theorem dX11_about_180 : decode cX11_about 180 = .ok (.iload_n 2, 1) := by decide +kernel
theorem dX11_about_181 : decode cX11_about 181 = .ok (.ifCond .eq 10, 3) := by decide +kernel
theorem dX11_about_184 : decode cX11_about 184 = .ok (.aload_n 0, 1) := by decide +kernel
theorem dX11_about_185 : decode cX11_about 185 = .ok (.getfield 120, 3) := by decide +kernel
theorem dX11_about_188 : decode cX11_about 188 = .ok (.goto 4, 3) := by decide +kernel
theorem dX11_about_191 : decode cX11_about 191 = .ok (.iconst (-1), 1) := by decide +kernel
theorem dX11_about_192 : decode cX11_about 192 = .ok (.ireturn, 1) := by decide +kernel
theorem dX11_about_193 : decode cX11_about 193 = .ok (.iconst (-1), 1) := by decide +kernel
theorem dX11_about_194 : decode cX11_about 194 = .ok (.ireturn, 1) := by decide +kernel
set_option maxRecDepth 20000 in
theorem ggX11_piece_X11_isIn : GoodIn wsX11_piece wsX11_isIn := goodIn_r _ [9] (by decide +kernel) (by decide +kernel)
set_option maxRecDepth 20000 in
theorem gX11_piece_X11_isIn : GoodIn wsX11_piece (va_wsS RX11 69 yX11_isIn wsX11_isIn) := goodIn_app (goodIn_of _ (by decide +kernel)) ggX11_piece_X11_isIn
set_option maxRecDepth 20000 in
theorem ggX11_piece_X11_sideOf : GoodIn wsX11_piece wsX11_sideOf := goodIn_r _ [13, 3, 40, 41, 42, 43, 44, 45, 46, 47, 48, 49, 50, 51, 52, 53, 54, 55, 56, 57, 58, 59, 60, 61, 62, 63, 64, 65, 66, 67, 68] (by decide +kernel) (by decide +kernel)
set_option maxRecDepth 20000 in
theorem gX11_piece_X11_sideOf : GoodIn wsX11_piece (wsV RX11 106 RX11 yX11_sideOf wsX11_sideOf) := goodIn_app (goodIn_of _ (by decide +kernel)) ggX11_piece_X11_sideOf
set_option maxRecDepth 20000 in
theorem ggX11_piece_X11_movesOf : GoodIn wsX11_piece wsX11_movesOf := goodIn_r _ [17, 4, 18, 19, 20, 8, 21, 3, 22, 23, 24, 25, 26, 27, 28, 29, 30, 31, 32, 33, 34, 40, 41, 42, 43, 44, 45, 46, 47, 48, 49, 50, 51, 52, 53, 54, 55, 56, 57, 58, 59, 60, 61, 62, 63, 64, 65, 66, 67, 68] (by decide +kernel) (by decide +kernel)
set_option maxRecDepth 20000 in
theorem gX11_piece_X11_movesOf : GoodIn wsX11_piece (wsV RX11 110 RX11 yX11_movesOf wsX11_movesOf) := goodIn_app (goodIn_of _ (by decide +kernel)) ggX11_piece_X11_movesOf
set_option maxRecDepth 20000 in
theorem ggX11_piece_X11_takes : GoodIn wsX11_piece wsX11_takes := goodIn_r _ [38, 3, 39, 40, 41, 42, 43, 44, 45, 46, 47, 48, 49, 50, 51, 52, 53, 54, 55, 56, 57, 58, 59, 60, 61, 62, 63, 64, 65, 66, 67, 68] (by decide +kernel) (by decide +kernel)
set_option maxRecDepth 20000 in
theorem gX11_piece_X11_takes : GoodIn wsX11_piece (wsV RX11 113 RX11 yX11_takes wsX11_takes) := goodIn_app (goodIn_of _ (by decide +kernel)) ggX11_piece_X11_takes
theorem dX11_piece_0 : decode cX11_piece 0 = .ok (.aload_n 0, 1) := by decide +kernel
theorem dX11_piece_1 : decode cX11_piece 1 = .ok (.getfield 73, 3) := by decide +kernel
theorem dX11_piece_4 : decode cX11_piece 4 = .ok (.ifCond .eq 17, 3) := by decide +kernel
theorem dX11_piece_7 : decode cX11_piece 7 = .ok (.iload_n 1, 1) := by decide +kernel
theorem dX11_piece_8 : decode cX11_piece 8 = .ok (.iconst 0, 1) := by decide +kernel
theorem dX11_piece_9 : decode cX11_piece 9 = .ok (.aload_n 0, 1) := by decide +kernel
theorem dX11_piece_10 : decode cX11_piece 10 = .ok (.getfield 103, 3) := by decide +kernel
theorem dX11_piece_13 : decode cX11_piece 13 = .ok (.iconst 1, 1) := by decide +kernel
theorem dX11_piece_14 : decode cX11_piece 14 = .ok (.isub, 1) := by decide +kernel
theorem dX11_piece_15 : decode cX11_piece 15 = .ok (.invokestatic 69, 3) := by decide +kernel
theorem dX11_piece_18 : decode cX11_piece 18 = .ok (.ifCond .ne 5, 3) := by decide +kernel
theorem dX11_piece_21 : decode cX11_piece 21 = .ok (.iconst (-1), 1) := by decide +kernel
theorem dX11_piece_22 : decode cX11_piece 22 = .ok (.ireturn, 1) := by decide +kernel
theorem dX11_piece_23 : decode cX11_piece 23 = .ok (.iload_n 2, 1) := by decide +kernel
theorem dX11_piece_24 : decode cX11_piece 24 = .ok (.tableswitch 90 0 3 #[32, 39, 46, 76], 32) := by decide +kernel
theorem dX11_piece_56 : decode cX11_piece 56 = .ok (.aload_n 0, 1) := by decide +kernel
theorem dX11_piece_57 : decode cX11_piece 57 = .ok (.getfield 27, 3) := by decide +kernel
theorem dX11_piece_60 : decode cX11_piece 60 = .ok (.iload_n 1, 1) := by decide +kernel
theorem dX11_piece_61 : decode cX11_piece 61 = .ok (.iaload, 1) := by decide +kernel
theorem dX11_piece_62 : decode cX11_piece 62 = .ok (.ireturn, 1) := by decide +kernel
theorem dX11_piece_63 : decode cX11_piece 63 = .ok (.aload_n 0, 1) := by decide +kernel
theorem dX11_piece_64 : decode cX11_piece 64 = .ok (.getfield 30, 3) := by decide +kernel
theorem dX11_piece_67 : decode cX11_piece 67 = .ok (.iload_n 1, 1) := by decide +kernel
theorem dX11_piece_68 : decode cX11_piece 68 = .ok (.iaload, 1) := by decide +kernel
theorem dX11_piece_69 : decode cX11_piece 69 = .ok (.ireturn, 1) := by decide +kernel
theorem dX11_piece_70 : decode cX11_piece 70 = .ok (.aload_n 0, 1) := by decide +kernel
theorem dX11_piece_71 : decode cX11_piece 71 = .ok (.getfield 73, 3) := by decide +kernel
theorem dX11_piece_74 : decode cX11_piece 74 = .ok (.iconst 1, 1) := by decide +kernel
theorem dX11_piece_75 : decode cX11_piece 75 = .ok (.if_icmp .ne 23, 3) := by decide +kernel
theorem dX11_piece_78 : decode cX11_piece 78 = .ok (.aload_n 0, 1) := by decide +kernel
theorem dX11_piece_79 : decode cX11_piece 79 = .ok (.iload_n 1, 1) := by decide +kernel
theorem dX11_piece_80 : decode cX11_piece 80 = .ok (.invokevirtual 106, 3) := by decide +kernel
theorem dX11_piece_83 : decode cX11_piece 83 = .ok (.aload_n 0, 1) := by decide +kernel
theorem dX11_piece_84 : decode cX11_piece 84 = .ok (.getfield 126, 3) := by decide +kernel
theorem dX11_piece_87 : decode cX11_piece 87 = .ok (.if_icmp .ne 11, 3) := by decide +kernel
theorem dX11_piece_90 : decode cX11_piece 90 = .ok (.aload_n 0, 1) := by decide +kernel
theorem dX11_piece_91 : decode cX11_piece 91 = .ok (.iload_n 1, 1) := by decide +kernel
theorem dX11_piece_92 : decode cX11_piece 92 = .ok (.invokevirtual 110, 3) := by decide +kernel
theorem dX11_piece_95 : decode cX11_piece 95 = .ok (.goto 4, 3) := by decide +kernel
theorem dX11_piece_98 : decode cX11_piece 98 = .ok (.iconst 0, 1) := by decide +kernel
theorem dX11_piece_99 : decode cX11_piece 99 = .ok (.ireturn, 1) := by decide +kernel
theorem dX11_piece_100 : decode cX11_piece 100 = .ok (.aload_n 0, 1) := by decide +kernel
theorem dX11_piece_101 : decode cX11_piece 101 = .ok (.iload_n 1, 1) := by decide +kernel
theorem dX11_piece_102 : decode cX11_piece 102 = .ok (.invokevirtual 113, 3) := by decide +kernel
theorem dX11_piece_105 : decode cX11_piece 105 = .ok (.ifCond .eq 7, 3) := by decide +kernel
theorem dX11_piece_108 : decode cX11_piece 108 = .ok (.iconst 1, 1) := by decide +kernel
theorem dX11_piece_109 : decode cX11_piece 109 = .ok (.goto 4, 3) := by decide +kernel
theorem dX11_piece_112 : decode cX11_piece 112 = .ok (.iconst 0, 1) := by decide +kernel
theorem dX11_piece_113 : decode cX11_piece 113 = .ok (.ireturn, 1) := by decide +kernel
theorem dX11_piece_114 : decode cX11_piece 114 = .ok (.iconst (-1), 1) := by decide +kernel
theorem dX11_piece_115 : decode cX11_piece 115 = .ok (.ireturn, 1) := by decide +kernel
set_option maxRecDepth 20000 in
theorem ggX11_on_X11_fields : GoodIn wsX11_on wsX11_fields := goodIn_r _ [7, 8, 9, 13, 14, 15, 16, 17, 18, 19, 20, 21, 22, 23, 24, 25, 26, 27, 28, 29, 30, 31, 32, 33, 34, 35, 36, 37, 38, 39, 40, 41] (by decide +kernel) (by decide +kernel)
set_option maxRecDepth 20000 in
theorem gX11_on_X11_fields : GoodIn wsX11_on (wsV RX11 88 RX11 yX11_fields wsX11_fields) := goodIn_app (goodIn_of _ (by decide +kernel)) ggX11_on_X11_fields
set_option maxRecDepth 20000 in
theorem ggX11_on_X11_isIn : GoodIn wsX11_on wsX11_isIn := goodIn_r _ [12] (by decide +kernel) (by decide +kernel)
set_option maxRecDepth 20000 in
theorem gX11_on_X11_isIn : GoodIn wsX11_on (va_wsS RX11 69 yX11_isIn wsX11_isIn) := goodIn_app (goodIn_of _ (by decide +kernel)) ggX11_on_X11_isIn
theorem dX11_on_0 : decode cX11_on 0 = .ok (.aload_n 0, 1) := by decide +kernel
theorem dX11_on_1 : decode cX11_on 1 = .ok (.getfield 73, 3) := by decide +kernel
theorem dX11_on_4 : decode cX11_on 4 = .ok (.ifCond .le 26, 3) := by decide +kernel
theorem dX11_on_7 : decode cX11_on 7 = .ok (.iload_n 1, 1) := by decide +kernel
theorem dX11_on_8 : decode cX11_on 8 = .ok (.iconst 0, 1) := by decide +kernel
theorem dX11_on_9 : decode cX11_on 9 = .ok (.aload_n 0, 1) := by decide +kernel
theorem dX11_on_10 : decode cX11_on 10 = .ok (.invokevirtual 88, 3) := by decide +kernel
theorem dX11_on_13 : decode cX11_on 13 = .ok (.iconst 1, 1) := by decide +kernel
theorem dX11_on_14 : decode cX11_on 14 = .ok (.isub, 1) := by decide +kernel
theorem dX11_on_15 : decode cX11_on 15 = .ok (.invokestatic 69, 3) := by decide +kernel
theorem dX11_on_18 : decode cX11_on 18 = .ok (.ifCond .eq 12, 3) := by decide +kernel
theorem dX11_on_21 : decode cX11_on 21 = .ok (.aload_n 0, 1) := by decide +kernel
theorem dX11_on_22 : decode cX11_on 22 = .ok (.getfield 33, 3) := by decide +kernel
theorem dX11_on_25 : decode cX11_on 25 = .ok (.iload_n 1, 1) := by decide +kernel
theorem dX11_on_26 : decode cX11_on 26 = .ok (.iaload, 1) := by decide +kernel
theorem dX11_on_27 : decode cX11_on 27 = .ok (.goto 4, 3) := by decide +kernel
theorem dX11_on_30 : decode cX11_on 30 = .ok (.iconst (-1), 1) := by decide +kernel
theorem dX11_on_31 : decode cX11_on 31 = .ok (.ireturn, 1) := by decide +kernel
set_option maxRecDepth 20000 in
theorem ggX11_field_X11_fields : GoodIn wsX11_field wsX11_fields := goodIn_r _ [7, 8, 9, 18, 19, 20, 21, 22, 23, 24, 25, 26, 27, 28, 29, 30, 31, 32, 33, 34, 35, 36, 37, 38, 39, 40, 41, 42, 43, 44, 45, 46] (by decide +kernel) (by decide +kernel)
set_option maxRecDepth 20000 in
theorem gX11_field_X11_fields : GoodIn wsX11_field (wsV RX11 88 RX11 yX11_fields wsX11_fields) := goodIn_app (goodIn_of _ (by decide +kernel)) ggX11_field_X11_fields
set_option maxRecDepth 20000 in
theorem ggX11_field_X11_isIn : GoodIn wsX11_field wsX11_isIn := goodIn_r _ [12] (by decide +kernel) (by decide +kernel)
set_option maxRecDepth 20000 in
theorem gX11_field_X11_isIn : GoodIn wsX11_field (va_wsS RX11 69 yX11_isIn wsX11_isIn) := goodIn_app (goodIn_of _ (by decide +kernel)) ggX11_field_X11_isIn
set_option maxRecDepth 20000 in
theorem ggX11_field_X11_isGoal : GoodIn wsX11_field wsX11_isGoal := goodIn_r _ [16, 17, 2, 9, 3, 4, 5, 6, 7, 8, 18, 19, 20, 21, 22, 23, 24, 25, 26, 27, 28, 29, 30, 31, 32, 33, 34, 35, 36, 37, 38, 39, 40, 41, 42, 43, 44, 45, 46] (by decide +kernel) (by decide +kernel)
set_option maxRecDepth 20000 in
theorem gX11_field_X11_isGoal : GoodIn wsX11_field (wsV RX11 148 RX11 yX11_isGoal wsX11_isGoal) := goodIn_app (goodIn_of _ (by decide +kernel)) ggX11_field_X11_isGoal
theorem dX11_field_0 : decode cX11_field 0 = .ok (.aload_n 0, 1) := by decide +kernel
theorem dX11_field_1 : decode cX11_field 1 = .ok (.getfield 73, 3) := by decide +kernel
theorem dX11_field_4 : decode cX11_field 4 = .ok (.ifCond .eq 17, 3) := by decide +kernel
theorem dX11_field_7 : decode cX11_field 7 = .ok (.iload_n 1, 1) := by decide +kernel
theorem dX11_field_8 : decode cX11_field 8 = .ok (.iconst 0, 1) := by decide +kernel
theorem dX11_field_9 : decode cX11_field 9 = .ok (.aload_n 0, 1) := by decide +kernel
theorem dX11_field_10 : decode cX11_field 10 = .ok (.invokevirtual 88, 3) := by decide +kernel
theorem dX11_field_13 : decode cX11_field 13 = .ok (.iconst 1, 1) := by decide +kernel
theorem dX11_field_14 : decode cX11_field 14 = .ok (.isub, 1) := by decide +kernel
theorem dX11_field_15 : decode cX11_field 15 = .ok (.invokestatic 69, 3) := by decide +kernel
theorem dX11_field_18 : decode cX11_field 18 = .ok (.ifCond .ne 5, 3) := by decide +kernel
theorem dX11_field_21 : decode cX11_field 21 = .ok (.iconst (-1), 1) := by decide +kernel
theorem dX11_field_22 : decode cX11_field 22 = .ok (.ireturn, 1) := by decide +kernel
theorem dX11_field_23 : decode cX11_field 23 = .ok (.aload_n 0, 1) := by decide +kernel
theorem dX11_field_24 : decode cX11_field 24 = .ok (.getfield 36, 3) := by decide +kernel
theorem dX11_field_27 : decode cX11_field 27 = .ok (.iload_n 1, 1) := by decide +kernel
theorem dX11_field_28 : decode cX11_field 28 = .ok (.iaload, 1) := by decide +kernel
theorem dX11_field_29 : decode cX11_field 29 = .ok (.iconst 5, 1) := by decide +kernel
theorem dX11_field_30 : decode cX11_field 30 = .ok (.if_icmp .ne 7, 3) := by decide +kernel
theorem dX11_field_33 : decode cX11_field 33 = .ok (.iconst 1, 1) := by decide +kernel
theorem dX11_field_34 : decode cX11_field 34 = .ok (.goto 19, 3) := by decide +kernel
theorem dX11_field_37 : decode cX11_field 37 = .ok (.aload_n 0, 1) := by decide +kernel
theorem dX11_field_38 : decode cX11_field 38 = .ok (.getfield 36, 3) := by decide +kernel
theorem dX11_field_41 : decode cX11_field 41 = .ok (.iload_n 1, 1) := by decide +kernel
theorem dX11_field_42 : decode cX11_field 42 = .ok (.iaload, 1) := by decide +kernel
theorem dX11_field_43 : decode cX11_field 43 = .ok (.bipush 6, 2) := by decide +kernel
theorem dX11_field_45 : decode cX11_field 45 = .ok (.if_icmp .ne 7, 3) := by decide +kernel
theorem dX11_field_48 : decode cX11_field 48 = .ok (.iconst 2, 1) := by decide +kernel
theorem dX11_field_49 : decode cX11_field 49 = .ok (.goto 4, 3) := by decide +kernel
theorem dX11_field_52 : decode cX11_field 52 = .ok (.iconst 0, 1) := by decide +kernel
theorem dX11_field_53 : decode cX11_field 53 = .ok (.aload_n 0, 1) := by decide +kernel
theorem dX11_field_54 : decode cX11_field 54 = .ok (.iload_n 1, 1) := by decide +kernel
theorem dX11_field_55 : decode cX11_field 55 = .ok (.invokevirtual 148, 3) := by decide +kernel
theorem dX11_field_58 : decode cX11_field 58 = .ok (.ifCond .eq 7, 3) := by decide +kernel
theorem dX11_field_61 : decode cX11_field 61 = .ok (.iconst 4, 1) := by decide +kernel
theorem dX11_field_62 : decode cX11_field 62 = .ok (.goto 4, 3) := by decide +kernel
theorem dX11_field_65 : decode cX11_field 65 = .ok (.iconst 0, 1) := by decide +kernel
theorem dX11_field_66 : decode cX11_field 66 = .ok (.iadd, 1) := by decide +kernel
theorem dX11_field_67 : decode cX11_field 67 = .ok (.ireturn, 1) := by decide +kernel
theorem dX11_took_0 : decode cX11_took 0 = .ok (.aload_n 0, 1) := by decide +kernel
theorem dX11_took_1 : decode cX11_took 1 = .ok (.getfield 73, 3) := by decide +kernel
theorem dX11_took_4 : decode cX11_took 4 = .ok (.ifCond .eq 15, 3) := by decide +kernel
theorem dX11_took_7 : decode cX11_took 7 = .ok (.iload_n 1, 1) := by decide +kernel
theorem dX11_took_8 : decode cX11_took 8 = .ok (.ifCond .lt 11, 3) := by decide +kernel
theorem dX11_took_11 : decode cX11_took 11 = .ok (.iload_n 1, 1) := by decide +kernel
theorem dX11_took_12 : decode cX11_took 12 = .ok (.aload_n 0, 1) := by decide +kernel
theorem dX11_took_13 : decode cX11_took 13 = .ok (.getfield 120, 3) := by decide +kernel
theorem dX11_took_16 : decode cX11_took 16 = .ok (.if_icmp .lt 5, 3) := by decide +kernel
theorem dX11_took_19 : decode cX11_took 19 = .ok (.iconst (-1), 1) := by decide +kernel
theorem dX11_took_20 : decode cX11_took 20 = .ok (.ireturn, 1) := by decide +kernel
theorem dX11_took_21 : decode cX11_took 21 = .ok (.iload_n 1, 1) := by decide +kernel
theorem dX11_took_22 : decode cX11_took 22 = .ok (.istore_n 2, 1) := by decide +kernel
theorem dX11_took_23 : decode cX11_took 23 = .ok (.iconst 0, 1) := by decide +kernel
theorem dX11_took_24 : decode cX11_took 24 = .ok (.istore_n 3, 1) := by decide +kernel
theorem dX11_took_25 : decode cX11_took 25 = .ok (.iload_n 3, 1) := by decide +kernel
theorem dX11_took_26 : decode cX11_took 26 = .ok (.aload_n 0, 1) := by decide +kernel
theorem dX11_took_27 : decode cX11_took 27 = .ok (.getfield 103, 3) := by decide +kernel
theorem dX11_took_30 : decode cX11_took 30 = .ok (.if_icmp .ge 30, 3) := by decide +kernel
theorem dX11_took_33 : decode cX11_took 33 = .ok (.aload_n 0, 1) := by decide +kernel
theorem dX11_took_34 : decode cX11_took 34 = .ok (.getfield 47, 3) := by decide +kernel
theorem dX11_took_37 : decode cX11_took 37 = .ok (.iload_n 3, 1) := by decide +kernel
theorem dX11_took_38 : decode cX11_took 38 = .ok (.baload, 1) := by decide +kernel
theorem dX11_took_39 : decode cX11_took 39 = .ok (.ifCond .ne 6, 3) := by decide +kernel
theorem dX11_took_42 : decode cX11_took 42 = .ok (.goto 12, 3) := by decide +kernel
theorem dX11_took_45 : decode cX11_took 45 = .ok (.iload_n 2, 1) := by decide +kernel
theorem dX11_took_46 : decode cX11_took 46 = .ok (.ifCond .ne 5, 3) := by decide +kernel
theorem dX11_took_49 : decode cX11_took 49 = .ok (.iload_n 3, 1) := by decide +kernel
theorem dX11_took_50 : decode cX11_took 50 = .ok (.ireturn, 1) := by decide +kernel
theorem dX11_took_51 : decode cX11_took 51 = .ok (.iinc 2 (-1), 3) := by decide +kernel
theorem dX11_took_54 : decode cX11_took 54 = .ok (.iinc 3 1, 3) := by decide +kernel
theorem dX11_took_57 : decode cX11_took 57 = .ok (.goto (-32), 3) := by decide +kernel
theorem dX11_took_60 : decode cX11_took 60 = .ok (.iconst (-1), 1) := by decide +kernel
theorem dX11_took_61 : decode cX11_took 61 = .ok (.ireturn, 1) := by decide +kernel
set_option maxRecDepth 20000 in
theorem ggX11_comesOut_X11_isGoal : GoodIn wsX11_comesOut wsX11_isGoal := goodIn_r _ [10, 11, 12, 13, 14, 15, 16, 9, 17, 18, 23, 24, 25, 26, 27, 28, 29, 30, 31, 32, 33, 34, 35, 36, 37, 38, 39, 40, 41, 42, 43, 44, 45, 46, 47, 48, 49, 50, 51] (by decide +kernel) (by decide +kernel)
set_option maxRecDepth 20000 in
theorem gX11_comesOut_X11_isGoal : GoodIn wsX11_comesOut (wsV RX11 148 RX11 yX11_isGoal wsX11_isGoal) := goodIn_app (goodIn_of _ (by decide +kernel)) ggX11_comesOut_X11_isGoal
set_option maxRecDepth 20000 in
theorem ggX11_comesOut_X11_along : GoodIn wsX11_comesOut wsX11_along := goodIn_r _ [22, 13, 18, 23, 24, 25, 26, 27, 28, 29, 30, 31, 32, 33, 34, 35, 36, 37, 38, 39, 40, 41, 42, 43, 44, 45, 46, 47, 48, 49, 50, 51] (by decide +kernel) (by decide +kernel)
set_option maxRecDepth 20000 in
theorem gX11_comesOut_X11_along : GoodIn wsX11_comesOut (wsV RX11 92 RX11 yX11_along wsX11_along) := goodIn_app (goodIn_of _ (by decide +kernel)) ggX11_comesOut_X11_along
theorem dX11_comesOut_0 : decode cX11_comesOut 0 = .ok (.iconst 0, 1) := by decide +kernel
theorem dX11_comesOut_1 : decode cX11_comesOut 1 = .ok (.istore_n 2, 1) := by decide +kernel
theorem dX11_comesOut_2 : decode cX11_comesOut 2 = .ok (.iload_n 2, 1) := by decide +kernel
theorem dX11_comesOut_3 : decode cX11_comesOut 3 = .ok (.bipush 81, 2) := by decide +kernel
theorem dX11_comesOut_5 : decode cX11_comesOut 5 = .ok (.if_icmp .ge 16, 3) := by decide +kernel
theorem dX11_comesOut_8 : decode cX11_comesOut 8 = .ok (.aload_n 0, 1) := by decide +kernel
theorem dX11_comesOut_9 : decode cX11_comesOut 9 = .ok (.getfield 51, 3) := by decide +kernel
theorem dX11_comesOut_12 : decode cX11_comesOut 12 = .ok (.iload_n 2, 1) := by decide +kernel
theorem dX11_comesOut_13 : decode cX11_comesOut 13 = .ok (.iconst 0, 1) := by decide +kernel
theorem dX11_comesOut_14 : decode cX11_comesOut 14 = .ok (.bastore, 1) := by decide +kernel
theorem dX11_comesOut_15 : decode cX11_comesOut 15 = .ok (.iinc 2 1, 3) := by decide +kernel
theorem dX11_comesOut_18 : decode cX11_comesOut 18 = .ok (.goto (-16), 3) := by decide +kernel
theorem dX11_comesOut_21 : decode cX11_comesOut 21 = .ok (.iconst 0, 1) := by decide +kernel
theorem dX11_comesOut_22 : decode cX11_comesOut 22 = .ok (.istore_n 2, 1) := by decide +kernel
theorem dX11_comesOut_23 : decode cX11_comesOut 23 = .ok (.iconst 1, 1) := by decide +kernel
theorem dX11_comesOut_24 : decode cX11_comesOut 24 = .ok (.istore_n 3, 1) := by decide +kernel
theorem dX11_comesOut_25 : decode cX11_comesOut 25 = .ok (.aload_n 0, 1) := by decide +kernel
theorem dX11_comesOut_26 : decode cX11_comesOut 26 = .ok (.getfield 54, 3) := by decide +kernel
theorem dX11_comesOut_29 : decode cX11_comesOut 29 = .ok (.iconst 0, 1) := by decide +kernel
theorem dX11_comesOut_30 : decode cX11_comesOut 30 = .ok (.aload_n 0, 1) := by decide +kernel
theorem dX11_comesOut_31 : decode cX11_comesOut 31 = .ok (.getfield 30, 3) := by decide +kernel
theorem dX11_comesOut_34 : decode cX11_comesOut 34 = .ok (.aload_n 0, 1) := by decide +kernel
theorem dX11_comesOut_35 : decode cX11_comesOut 35 = .ok (.getfield 135, 3) := by decide +kernel
theorem dX11_comesOut_38 : decode cX11_comesOut 38 = .ok (.iaload, 1) := by decide +kernel
theorem dX11_comesOut_39 : decode cX11_comesOut 39 = .ok (.iastore, 1) := by decide +kernel
theorem dX11_comesOut_40 : decode cX11_comesOut 40 = .ok (.aload_n 0, 1) := by decide +kernel
theorem dX11_comesOut_41 : decode cX11_comesOut 41 = .ok (.getfield 51, 3) := by decide +kernel
theorem dX11_comesOut_44 : decode cX11_comesOut 44 = .ok (.aload_n 0, 1) := by decide +kernel
theorem dX11_comesOut_45 : decode cX11_comesOut 45 = .ok (.getfield 30, 3) := by decide +kernel
theorem dX11_comesOut_48 : decode cX11_comesOut 48 = .ok (.aload_n 0, 1) := by decide +kernel
theorem dX11_comesOut_49 : decode cX11_comesOut 49 = .ok (.getfield 135, 3) := by decide +kernel
theorem dX11_comesOut_52 : decode cX11_comesOut 52 = .ok (.iaload, 1) := by decide +kernel
theorem dX11_comesOut_53 : decode cX11_comesOut 53 = .ok (.iconst 1, 1) := by decide +kernel
theorem dX11_comesOut_54 : decode cX11_comesOut 54 = .ok (.bastore, 1) := by decide +kernel
theorem dX11_comesOut_55 : decode cX11_comesOut 55 = .ok (.iload_n 2, 1) := by decide +kernel
theorem dX11_comesOut_56 : decode cX11_comesOut 56 = .ok (.iload_n 3, 1) := by decide +kernel
theorem dX11_comesOut_57 : decode cX11_comesOut 57 = .ok (.if_icmp .ge 114, 3) := by decide +kernel
theorem dX11_comesOut_60 : decode cX11_comesOut 60 = .ok (.aload_n 0, 1) := by decide +kernel
