set_option maxRecDepth 20000 in
theorem ggX5_isBarred_X8_holderOf : GoodIn wsX5_isBarred wsX8_holderOf := goodIn_r _ [6, 7, 26, 27, 28] (by decide +kernel) (by decide +kernel)
set_option maxRecDepth 20000 in
theorem gX5_isBarred_X8_holderOf : GoodIn wsX5_isBarred (wsV RX5 53 RX8 yX8_holderOf wsX8_holderOf) := goodIn_app (goodIn_of _ (by decide +kernel)) ggX5_isBarred_X8_holderOf
set_option maxRecDepth 20000 in
theorem ggX5_isBarred_X6_isPiece : GoodIn wsX5_isBarred wsX6_isPiece := goodIn_r _ [12, 13, 17, 18, 19, 20, 21, 22, 23, 24, 25] (by decide +kernel) (by decide +kernel)
set_option maxRecDepth 20000 in
theorem gX5_isBarred_X6_isPiece : GoodIn wsX5_isBarred (wsV RX5 56 RX6 yX6_isPiece wsX6_isPiece) := goodIn_app (goodIn_of _ (by decide +kernel)) ggX5_isBarred_X6_isPiece
theorem dX5_isBarred_0 : decode cX5_isBarred 0 = .ok (.aload_n 1, 1) := by decide +kernel
theorem dX5_isBarred_1 : decode cX5_isBarred 1 = .ok (.iload_n 2, 1) := by decide +kernel
theorem dX5_isBarred_2 : decode cX5_isBarred 2 = .ok (.invokevirtual 53, 3) := by decide +kernel
theorem dX5_isBarred_5 : decode cX5_isBarred 5 = .ok (.istore 4, 2) := by decide +kernel
theorem dX5_isBarred_7 : decode cX5_isBarred 7 = .ok (.aload_n 0, 1) := by decide +kernel
theorem dX5_isBarred_8 : decode cX5_isBarred 8 = .ok (.getfield 19, 3) := by decide +kernel
theorem dX5_isBarred_11 : decode cX5_isBarred 11 = .ok (.iload 4, 2) := by decide +kernel
theorem dX5_isBarred_13 : decode cX5_isBarred 13 = .ok (.invokevirtual 56, 3) := by decide +kernel
theorem dX5_isBarred_16 : decode cX5_isBarred 16 = .ok (.ifCond .eq 27, 3) := by decide +kernel
theorem dX5_isBarred_19 : decode cX5_isBarred 19 = .ok (.iload 4, 2) := by decide +kernel
theorem dX5_isBarred_21 : decode cX5_isBarred 21 = .ok (.iload_n 3, 1) := by decide +kernel
theorem dX5_isBarred_22 : decode cX5_isBarred 22 = .ok (.if_icmp .eq 21, 3) := by decide +kernel
theorem dX5_isBarred_25 : decode cX5_isBarred 25 = .ok (.aload_n 0, 1) := by decide +kernel
theorem dX5_isBarred_26 : decode cX5_isBarred 26 = .ok (.getfield 19, 3) := by decide +kernel
theorem dX5_isBarred_29 : decode cX5_isBarred 29 = .ok (.getfield 59, 3) := by decide +kernel
theorem dX5_isBarred_32 : decode cX5_isBarred 32 = .ok (.iload 4, 2) := by decide +kernel
theorem dX5_isBarred_34 : decode cX5_isBarred 34 = .ok (.iaload, 1) := by decide +kernel
theorem dX5_isBarred_35 : decode cX5_isBarred 35 = .ok (.iconst 1, 1) := by decide +kernel
theorem dX5_isBarred_36 : decode cX5_isBarred 36 = .ok (.if_icmp .ne 7, 3) := by decide +kernel
theorem dX5_isBarred_39 : decode cX5_isBarred 39 = .ok (.iconst 1, 1) := by decide +kernel
theorem dX5_isBarred_40 : decode cX5_isBarred 40 = .ok (.goto 4, 3) := by decide +kernel
theorem dX5_isBarred_43 : decode cX5_isBarred 43 = .ok (.iconst 0, 1) := by decide +kernel
theorem dX5_isBarred_44 : decode cX5_isBarred 44 = .ok (.ireturn, 1) := by decide +kernel
set_option maxRecDepth 20000 in
theorem ggX6_init_X0_init : GoodIn wsX6_init wsX0_init := goodIn_r _ [17, 18, 2, 3, 8, 19, 11, 20, 21, 22, 23, 24, 25, 26] (by decide +kernel) (by decide +kernel)
set_option maxRecDepth 20000 in
theorem gX6_init_X0_init_n11 : GoodIn wsX6_init (wsX0_init) := ggX6_init_X0_init
theorem dX6_init_0 : decode cX6_init 0 = .ok (.aload_n 0, 1) := by decide +kernel
theorem dX6_init_1 : decode cX6_init 1 = .ok (.invokespecial 3, 3) := by decide +kernel
theorem dX6_init_4 : decode cX6_init 4 = .ok (.aload_n 0, 1) := by decide +kernel
theorem dX6_init_5 : decode cX6_init 5 = .ok (.new 9, 3) := by decide +kernel
theorem dX6_init_8 : decode cX6_init 8 = .ok (.dup, 1) := by decide +kernel
theorem dX6_init_9 : decode cX6_init 9 = .ok (.invokespecial 11, 3) := by decide +kernel
theorem dX6_init_12 : decode cX6_init 12 = .ok (.putfield 12, 3) := by decide +kernel
theorem dX6_init_15 : decode cX6_init 15 = .ok (.aload_n 0, 1) := by decide +kernel
theorem dX6_init_16 : decode cX6_init 16 = .ok (.bipush 40, 2) := by decide +kernel
theorem dX6_init_18 : decode cX6_init 18 = .ok (.newarray .int, 2) := by decide +kernel
theorem dX6_init_20 : decode cX6_init 20 = .ok (.putfield 18, 3) := by decide +kernel
theorem dX6_init_23 : decode cX6_init 23 = .ok (.aload_n 0, 1) := by decide +kernel
theorem dX6_init_24 : decode cX6_init 24 = .ok (.bipush 40, 2) := by decide +kernel
theorem dX6_init_26 : decode cX6_init 26 = .ok (.newarray .int, 2) := by decide +kernel
theorem dX6_init_28 : decode cX6_init 28 = .ok (.putfield 22, 3) := by decide +kernel
theorem dX6_init_31 : decode cX6_init 31 = .ok (.aload_n 0, 1) := by decide +kernel
theorem dX6_init_32 : decode cX6_init 32 = .ok (.bipush 40, 2) := by decide +kernel
theorem dX6_init_34 : decode cX6_init 34 = .ok (.newarray .boolean, 2) := by decide +kernel
theorem dX6_init_36 : decode cX6_init 36 = .ok (.putfield 25, 3) := by decide +kernel
theorem dX6_init_39 : decode cX6_init 39 = .ok (.aload_n 0, 1) := by decide +kernel
theorem dX6_init_40 : decode cX6_init 40 = .ok (.iconst (-1), 1) := by decide +kernel
theorem dX6_init_41 : decode cX6_init 41 = .ok (.putfield 29, 3) := by decide +kernel
theorem dX6_init_44 : decode cX6_init 44 = .ok (.aload_n 0, 1) := by decide +kernel
theorem dX6_init_45 : decode cX6_init 45 = .ok (.iconst 4, 1) := by decide +kernel
theorem dX6_init_46 : decode cX6_init 46 = .ok (.newarray .int, 2) := by decide +kernel
theorem dX6_init_48 : decode cX6_init 48 = .ok (.putfield 33, 3) := by decide +kernel
theorem dX6_init_51 : decode cX6_init 51 = .ok (.aload_n 0, 1) := by decide +kernel
theorem dX6_init_52 : decode cX6_init 52 = .ok (.aload_n 1, 1) := by decide +kernel
theorem dX6_init_53 : decode cX6_init 53 = .ok (.putfield 36, 3) := by decide +kernel
theorem dX6_init_56 : decode cX6_init 56 = .ok (.return_, 1) := by decide +kernel
theorem dX6_enlist_0 : decode cX6_enlist 0 = .ok (.aload_n 0, 1) := by decide +kernel
theorem dX6_enlist_1 : decode cX6_enlist 1 = .ok (.getfield 40, 3) := by decide +kernel
theorem dX6_enlist_4 : decode cX6_enlist 4 = .ok (.bipush 40, 2) := by decide +kernel
theorem dX6_enlist_6 : decode cX6_enlist 6 = .ok (.if_icmp .lt 4, 3) := by decide +kernel
theorem dX6_enlist_9 : decode cX6_enlist 9 = .ok (.return_, 1) := by decide +kernel
theorem dX6_enlist_10 : decode cX6_enlist 10 = .ok (.iload_n 1, 1) := by decide +kernel
theorem dX6_enlist_11 : decode cX6_enlist 11 = .ok (.iconst 2, 1) := by decide +kernel
theorem dX6_enlist_12 : decode cX6_enlist 12 = .ok (.if_icmp .ne 11, 3) := by decide +kernel
theorem dX6_enlist_15 : decode cX6_enlist 15 = .ok (.aload_n 0, 1) := by decide +kernel
theorem dX6_enlist_16 : decode cX6_enlist 16 = .ok (.aload_n 0, 1) := by decide +kernel
theorem dX6_enlist_17 : decode cX6_enlist 17 = .ok (.getfield 40, 3) := by decide +kernel
theorem dX6_enlist_20 : decode cX6_enlist 20 = .ok (.putfield 29, 3) := by decide +kernel
theorem dX6_enlist_23 : decode cX6_enlist 23 = .ok (.aload_n 0, 1) := by decide +kernel
theorem dX6_enlist_24 : decode cX6_enlist 24 = .ok (.getfield 18, 3) := by decide +kernel
theorem dX6_enlist_27 : decode cX6_enlist 27 = .ok (.aload_n 0, 1) := by decide +kernel
theorem dX6_enlist_28 : decode cX6_enlist 28 = .ok (.getfield 40, 3) := by decide +kernel
theorem dX6_enlist_31 : decode cX6_enlist 31 = .ok (.iload_n 1, 1) := by decide +kernel
theorem dX6_enlist_32 : decode cX6_enlist 32 = .ok (.iastore, 1) := by decide +kernel
theorem dX6_enlist_33 : decode cX6_enlist 33 = .ok (.aload_n 0, 1) := by decide +kernel
theorem dX6_enlist_34 : decode cX6_enlist 34 = .ok (.getfield 22, 3) := by decide +kernel
theorem dX6_enlist_37 : decode cX6_enlist 37 = .ok (.aload_n 0, 1) := by decide +kernel
theorem dX6_enlist_38 : decode cX6_enlist 38 = .ok (.getfield 40, 3) := by decide +kernel
theorem dX6_enlist_41 : decode cX6_enlist 41 = .ok (.iload_n 1, 1) := by decide +kernel
theorem dX6_enlist_42 : decode cX6_enlist 42 = .ok (.iconst 2, 1) := by decide +kernel
theorem dX6_enlist_43 : decode cX6_enlist 43 = .ok (.if_icmp .eq 8, 3) := by decide +kernel
theorem dX6_enlist_46 : decode cX6_enlist 46 = .ok (.iload_n 1, 1) := by decide +kernel
theorem dX6_enlist_47 : decode cX6_enlist 47 = .ok (.iconst 1, 1) := by decide +kernel
theorem dX6_enlist_48 : decode cX6_enlist 48 = .ok (.if_icmp .ne 7, 3) := by decide +kernel
theorem dX6_enlist_51 : decode cX6_enlist 51 = .ok (.iconst 0, 1) := by decide +kernel
theorem dX6_enlist_52 : decode cX6_enlist 52 = .ok (.goto 4, 3) := by decide +kernel
theorem dX6_enlist_55 : decode cX6_enlist 55 = .ok (.iconst 1, 1) := by decide +kernel
theorem dX6_enlist_56 : decode cX6_enlist 56 = .ok (.iastore, 1) := by decide +kernel
theorem dX6_enlist_57 : decode cX6_enlist 57 = .ok (.aload_n 0, 1) := by decide +kernel
theorem dX6_enlist_58 : decode cX6_enlist 58 = .ok (.getfield 25, 3) := by decide +kernel
theorem dX6_enlist_61 : decode cX6_enlist 61 = .ok (.aload_n 0, 1) := by decide +kernel
theorem dX6_enlist_62 : decode cX6_enlist 62 = .ok (.getfield 40, 3) := by decide +kernel
theorem dX6_enlist_65 : decode cX6_enlist 65 = .ok (.iload_n 1, 1) := by decide +kernel
theorem dX6_enlist_66 : decode cX6_enlist 66 = .ok (.iconst 2, 1) := by decide +kernel
theorem dX6_enlist_67 : decode cX6_enlist 67 = .ok (.if_icmp .ne 13, 3) := by decide +kernel
theorem dX6_enlist_70 : decode cX6_enlist 70 = .ok (.aload_n 0, 1) := by decide +kernel
theorem dX6_enlist_71 : decode cX6_enlist 71 = .ok (.getfield 36, 3) := by decide +kernel
theorem dX6_enlist_74 : decode cX6_enlist 74 = .ok (.getfield 43, 3) := by decide +kernel
theorem dX6_enlist_77 : decode cX6_enlist 77 = .ok (.ifCond .eq 7, 3) := by decide +kernel
theorem dX6_enlist_80 : decode cX6_enlist 80 = .ok (.iconst 1, 1) := by decide +kernel
theorem dX6_enlist_81 : decode cX6_enlist 81 = .ok (.goto 4, 3) := by decide +kernel
theorem dX6_enlist_84 : decode cX6_enlist 84 = .ok (.iconst 0, 1) := by decide +kernel
theorem dX6_enlist_85 : decode cX6_enlist 85 = .ok (.bastore, 1) := by decide +kernel
theorem dX6_enlist_86 : decode cX6_enlist 86 = .ok (.aload_n 0, 1) := by decide +kernel
theorem dX6_enlist_87 : decode cX6_enlist 87 = .ok (.dup, 1) := by decide +kernel
theorem dX6_enlist_88 : decode cX6_enlist 88 = .ok (.getfield 40, 3) := by decide +kernel
theorem dX6_enlist_91 : decode cX6_enlist 91 = .ok (.iconst 1, 1) := by decide +kernel
theorem dX6_enlist_92 : decode cX6_enlist 92 = .ok (.iadd, 1) := by decide +kernel
theorem dX6_enlist_93 : decode cX6_enlist 93 = .ok (.putfield 40, 3) := by decide +kernel
theorem dX6_enlist_96 : decode cX6_enlist 96 = .ok (.return_, 1) := by decide +kernel
theorem dX6_dismiss_0 : decode cX6_dismiss 0 = .ok (.aload_n 0, 1) := by decide +kernel
theorem dX6_dismiss_1 : decode cX6_dismiss 1 = .ok (.iconst 0, 1) := by decide +kernel
theorem dX6_dismiss_2 : decode cX6_dismiss 2 = .ok (.putfield 40, 3) := by decide +kernel
theorem dX6_dismiss_5 : decode cX6_dismiss 5 = .ok (.aload_n 0, 1) := by decide +kernel
theorem dX6_dismiss_6 : decode cX6_dismiss 6 = .ok (.iconst (-1), 1) := by decide +kernel
theorem dX6_dismiss_7 : decode cX6_dismiss 7 = .ok (.putfield 29, 3) := by decide +kernel
theorem dX6_dismiss_10 : decode cX6_dismiss 10 = .ok (.return_, 1) := by decide +kernel
theorem dX6_isPiece_0 : decode cX6_isPiece 0 = .ok (.iload_n 1, 1) := by decide +kernel
theorem dX6_isPiece_1 : decode cX6_isPiece 1 = .ok (.ifCond .lt 15, 3) := by decide +kernel
theorem dX6_isPiece_4 : decode cX6_isPiece 4 = .ok (.iload_n 1, 1) := by decide +kernel
theorem dX6_isPiece_5 : decode cX6_isPiece 5 = .ok (.aload_n 0, 1) := by decide +kernel
theorem dX6_isPiece_6 : decode cX6_isPiece 6 = .ok (.getfield 40, 3) := by decide +kernel
theorem dX6_isPiece_9 : decode cX6_isPiece 9 = .ok (.if_icmp .ge 7, 3) := by decide +kernel
theorem dX6_isPiece_12 : decode cX6_isPiece 12 = .ok (.iconst 1, 1) := by decide +kernel
theorem dX6_isPiece_13 : decode cX6_isPiece 13 = .ok (.goto 4, 3) := by decide +kernel
theorem dX6_isPiece_16 : decode cX6_isPiece 16 = .ok (.iconst 0, 1) := by decide +kernel
theorem dX6_isPiece_17 : decode cX6_isPiece 17 = .ok (.ireturn, 1) := by decide +kernel
theorem dX6_bears_0 : decode cX6_bears 0 = .ok (.iload_n 2, 1) := by decide +kernel
theorem dX6_bears_1 : decode cX6_bears 1 = .ok (.aload_n 0, 1) := by decide +kernel
theorem dX6_bears_2 : decode cX6_bears 2 = .ok (.getfield 29, 3) := by decide +kernel
theorem dX6_bears_5 : decode cX6_bears 5 = .ok (.if_icmp .eq 30, 3) := by decide +kernel
theorem dX6_bears_8 : decode cX6_bears 8 = .ok (.iload_n 1, 1) := by decide +kernel
theorem dX6_bears_9 : decode cX6_bears 9 = .ok (.ifCond .lt 30, 3) := by decide +kernel
theorem dX6_bears_12 : decode cX6_bears 12 = .ok (.iload_n 1, 1) := by decide +kernel
theorem dX6_bears_13 : decode cX6_bears 13 = .ok (.aload_n 0, 1) := by decide +kernel
theorem dX6_bears_14 : decode cX6_bears 14 = .ok (.getfield 12, 3) := by decide +kernel
theorem dX6_bears_17 : decode cX6_bears 17 = .ok (.getfield 49, 3) := by decide +kernel
theorem dX6_bears_20 : decode cX6_bears 20 = .ok (.if_icmp .ge 19, 3) := by decide +kernel
theorem dX6_bears_23 : decode cX6_bears 23 = .ok (.aload_n 0, 1) := by decide +kernel
theorem dX6_bears_24 : decode cX6_bears 24 = .ok (.getfield 12, 3) := by decide +kernel
theorem dX6_bears_27 : decode cX6_bears 27 = .ok (.getfield 52, 3) := by decide +kernel
theorem dX6_bears_30 : decode cX6_bears 30 = .ok (.iload_n 1, 1) := by decide +kernel
theorem dX6_bears_31 : decode cX6_bears 31 = .ok (.iaload, 1) := by decide +kernel
theorem dX6_bears_32 : decode cX6_bears 32 = .ok (.ifCond .ne 7, 3) := by decide +kernel
theorem dX6_bears_35 : decode cX6_bears 35 = .ok (.iconst 1, 1) := by decide +kernel
theorem dX6_bears_36 : decode cX6_bears 36 = .ok (.goto 4, 3) := by decide +kernel
theorem dX6_bears_39 : decode cX6_bears 39 = .ok (.iconst 0, 1) := by decide +kernel
theorem dX6_bears_40 : decode cX6_bears 40 = .ok (.ireturn, 1) := by decide +kernel
theorem dX6_isGoal_0 : decode cX6_isGoal 0 = .ok (.iload_n 1, 1) := by decide +kernel
theorem dX6_isGoal_1 : decode cX6_isGoal 1 = .ok (.ifCond .lt 30, 3) := by decide +kernel
theorem dX6_isGoal_4 : decode cX6_isGoal 4 = .ok (.iload_n 1, 1) := by decide +kernel
theorem dX6_isGoal_5 : decode cX6_isGoal 5 = .ok (.aload_n 0, 1) := by decide +kernel
theorem dX6_isGoal_6 : decode cX6_isGoal 6 = .ok (.getfield 12, 3) := by decide +kernel
theorem dX6_isGoal_9 : decode cX6_isGoal 9 = .ok (.getfield 49, 3) := by decide +kernel
theorem dX6_isGoal_12 : decode cX6_isGoal 12 = .ok (.if_icmp .ge 19, 3) := by decide +kernel
theorem dX6_isGoal_15 : decode cX6_isGoal 15 = .ok (.aload_n 0, 1) := by decide +kernel
theorem dX6_isGoal_16 : decode cX6_isGoal 16 = .ok (.getfield 12, 3) := by decide +kernel
theorem dX6_isGoal_19 : decode cX6_isGoal 19 = .ok (.getfield 55, 3) := by decide +kernel
theorem dX6_isGoal_22 : decode cX6_isGoal 22 = .ok (.iload_n 1, 1) := by decide +kernel
theorem dX6_isGoal_23 : decode cX6_isGoal 23 = .ok (.baload, 1) := by decide +kernel
theorem dX6_isGoal_24 : decode cX6_isGoal 24 = .ok (.ifCond .eq 7, 3) := by decide +kernel
theorem dX6_isGoal_27 : decode cX6_isGoal 27 = .ok (.iconst 1, 1) := by decide +kernel
theorem dX6_isGoal_28 : decode cX6_isGoal 28 = .ok (.goto 4, 3) := by decide +kernel
theorem dX6_isGoal_31 : decode cX6_isGoal 31 = .ok (.iconst 0, 1) := by decide +kernel
theorem dX6_isGoal_32 : decode cX6_isGoal 32 = .ok (.ireturn, 1) := by decide +kernel
theorem dX6_isBeyondReach_0 : decode cX6_isBeyondReach 0 = .ok (.iload_n 1, 1) := by decide +kernel
theorem dX6_isBeyondReach_1 : decode cX6_isBeyondReach 1 = .ok (.aload_n 0, 1) := by decide +kernel
theorem dX6_isBeyondReach_2 : decode cX6_isBeyondReach 2 = .ok (.getfield 29, 3) := by decide +kernel
theorem dX6_isBeyondReach_5 : decode cX6_isBeyondReach 5 = .ok (.if_icmp .ne 28, 3) := by decide +kernel
theorem dX6_isBeyondReach_8 : decode cX6_isBeyondReach 8 = .ok (.aload_n 0, 1) := by decide +kernel
theorem dX6_isBeyondReach_9 : decode cX6_isBeyondReach 9 = .ok (.getfield 36, 3) := by decide +kernel
theorem dX6_isBeyondReach_12 : decode cX6_isBeyondReach 12 = .ok (.getfield 58, 3) := by decide +kernel
theorem dX6_isBeyondReach_15 : decode cX6_isBeyondReach 15 = .ok (.ifCond .le 18, 3) := by decide +kernel
theorem dX6_isBeyondReach_18 : decode cX6_isBeyondReach 18 = .ok (.iload_n 2, 1) := by decide +kernel
theorem dX6_isBeyondReach_19 : decode cX6_isBeyondReach 19 = .ok (.aload_n 0, 1) := by decide +kernel
theorem dX6_isBeyondReach_20 : decode cX6_isBeyondReach 20 = .ok (.getfield 36, 3) := by decide +kernel
theorem dX6_isBeyondReach_23 : decode cX6_isBeyondReach 23 = .ok (.getfield 58, 3) := by decide +kernel
theorem dX6_isBeyondReach_26 : decode cX6_isBeyondReach 26 = .ok (.if_icmp .le 7, 3) := by decide +kernel
theorem dX6_isBeyondReach_29 : decode cX6_isBeyondReach 29 = .ok (.iconst 1, 1) := by decide +kernel
theorem dX6_isBeyondReach_30 : decode cX6_isBeyondReach 30 = .ok (.goto 4, 3) := by decide +kernel
theorem dX6_isBeyondReach_33 : decode cX6_isBeyondReach 33 = .ok (.iconst 0, 1) := by decide +kernel
theorem dX6_isBeyondReach_34 : decode cX6_isBeyondReach 34 = .ok (.ireturn, 1) := by decide +kernel
set_option maxRecDepth 20000 in
theorem ggX6_room_X8_fieldOf : GoodIn wsX6_room wsX8_fieldOf := goodIn_r _ [8, 9, 41, 42, 43] (by decide +kernel) (by decide +kernel)
set_option maxRecDepth 20000 in
theorem gX6_room_X8_fieldOf : GoodIn wsX6_room (wsV RX6 61 RX8 yX8_fieldOf wsX8_fieldOf) := goodIn_app (goodIn_of _ (by decide +kernel)) ggX6_room_X8_fieldOf
set_option maxRecDepth 20000 in
theorem ggX6_room_X0_beside : GoodIn wsX6_room wsX0_beside := goodIn_r _ [14, 15, 16, 44, 45, 46, 47, 48] (by decide +kernel) (by decide +kernel)
set_option maxRecDepth 20000 in
theorem gX6_room_X0_beside : GoodIn wsX6_room (wsV RX6 67 RX0 yX0_beside wsX0_beside) := goodIn_app (goodIn_of _ (by decide +kernel)) ggX6_room_X0_beside
set_option maxRecDepth 20000 in
theorem ggX6_room_X8_holderOf : GoodIn wsX6_room wsX8_holderOf := goodIn_r _ [20, 21, 41, 42, 43] (by decide +kernel) (by decide +kernel)
set_option maxRecDepth 20000 in
theorem gX6_room_X8_holderOf : GoodIn wsX6_room (wsV RX6 71 RX8 yX8_holderOf wsX8_holderOf) := goodIn_app (goodIn_of _ (by decide +kernel)) ggX6_room_X8_holderOf
set_option maxRecDepth 20000 in
theorem ggX6_room_X6_bears : GoodIn wsX6_room wsX6_bears := goodIn_r _ [26, 1, 3, 27, 28, 29, 30, 31, 32, 33, 34, 35, 44, 45, 46, 47, 48] (by decide +kernel) (by decide +kernel)
set_option maxRecDepth 20000 in
theorem gX6_room_X6_bears : GoodIn wsX6_room (wsV RX6 74 RX6 yX6_bears wsX6_bears) := goodIn_app (goodIn_of _ (by decide +kernel)) ggX6_room_X6_bears
theorem dX6_room_0 : decode cX6_room 0 = .ok (.iload_n 2, 1) := by decide +kernel
theorem dX6_room_1 : decode cX6_room 1 = .ok (.aload_n 0, 1) := by decide +kernel
theorem dX6_room_2 : decode cX6_room 2 = .ok (.getfield 29, 3) := by decide +kernel
theorem dX6_room_5 : decode cX6_room 5 = .ok (.if_icmp .ne 23, 3) := by decide +kernel
theorem dX6_room_8 : decode cX6_room 8 = .ok (.aload_n 0, 1) := by decide +kernel
theorem dX6_room_9 : decode cX6_room 9 = .ok (.getfield 36, 3) := by decide +kernel
theorem dX6_room_12 : decode cX6_room 12 = .ok (.getfield 58, 3) := by decide +kernel
theorem dX6_room_15 : decode cX6_room 15 = .ok (.ifCond .le 13, 3) := by decide +kernel
theorem dX6_room_18 : decode cX6_room 18 = .ok (.aload_n 0, 1) := by decide +kernel
theorem dX6_room_19 : decode cX6_room 19 = .ok (.getfield 36, 3) := by decide +kernel
theorem dX6_room_22 : decode cX6_room 22 = .ok (.getfield 58, 3) := by decide +kernel
theorem dX6_room_25 : decode cX6_room 25 = .ok (.goto 5, 3) := by decide +kernel
theorem dX6_room_28 : decode cX6_room 28 = .ok (.bipush 9, 2) := by decide +kernel
theorem dX6_room_30 : decode cX6_room 30 = .ok (.istore 4, 2) := by decide +kernel
theorem dX6_room_32 : decode cX6_room 32 = .ok (.aload_n 0, 1) := by decide +kernel
theorem dX6_room_33 : decode cX6_room 33 = .ok (.getfield 12, 3) := by decide +kernel
theorem dX6_room_36 : decode cX6_room 36 = .ok (.aload_n 1, 1) := by decide +kernel
theorem dX6_room_37 : decode cX6_room 37 = .ok (.iload_n 2, 1) := by decide +kernel
theorem dX6_room_38 : decode cX6_room 38 = .ok (.invokevirtual 61, 3) := by decide +kernel
theorem dX6_room_41 : decode cX6_room 41 = .ok (.iload_n 3, 1) := by decide +kernel
theorem dX6_room_42 : decode cX6_room 42 = .ok (.invokevirtual 67, 3) := by decide +kernel
theorem dX6_room_45 : decode cX6_room 45 = .ok (.istore 5, 2) := by decide +kernel
theorem dX6_room_47 : decode cX6_room 47 = .ok (.iconst 0, 1) := by decide +kernel
theorem dX6_room_48 : decode cX6_room 48 = .ok (.istore 6, 2) := by decide +kernel
theorem dX6_room_50 : decode cX6_room 50 = .ok (.iload 6, 2) := by decide +kernel
theorem dX6_room_52 : decode cX6_room 52 = .ok (.iload 4, 2) := by decide +kernel
theorem dX6_room_54 : decode cX6_room 54 = .ok (.if_icmp .ge 47, 3) := by decide +kernel
theorem dX6_room_57 : decode cX6_room 57 = .ok (.iload 5, 2) := by decide +kernel
theorem dX6_room_59 : decode cX6_room 59 = .ok (.iconst (-1), 1) := by decide +kernel
theorem dX6_room_60 : decode cX6_room 60 = .ok (.if_icmp .eq 41, 3) := by decide +kernel
theorem dX6_room_63 : decode cX6_room 63 = .ok (.aload_n 1, 1) := by decide +kernel
theorem dX6_room_64 : decode cX6_room 64 = .ok (.iload 5, 2) := by decide +kernel
theorem dX6_room_66 : decode cX6_room 66 = .ok (.invokevirtual 71, 3) := by decide +kernel
theorem dX6_room_69 : decode cX6_room 69 = .ok (.iconst (-1), 1) := by decide +kernel
theorem dX6_room_70 : decode cX6_room 70 = .ok (.if_icmp .ne 31, 3) := by decide +kernel
theorem dX6_room_73 : decode cX6_room 73 = .ok (.aload_n 0, 1) := by decide +kernel
theorem dX6_room_74 : decode cX6_room 74 = .ok (.iload 5, 2) := by decide +kernel
theorem dX6_room_76 : decode cX6_room 76 = .ok (.iload_n 2, 1) := by decide +kernel
theorem dX6_room_77 : decode cX6_room 77 = .ok (.invokevirtual 74, 3) := by decide +kernel
theorem dX6_room_80 : decode cX6_room 80 = .ok (.ifCond .eq 21, 3) := by decide +kernel
theorem dX6_room_83 : decode cX6_room 83 = .ok (.iinc 6 1, 3) := by decide +kernel
theorem dX6_room_86 : decode cX6_room 86 = .ok (.aload_n 0, 1) := by decide +kernel
theorem dX6_room_87 : decode cX6_room 87 = .ok (.getfield 12, 3) := by decide +kernel
theorem dX6_room_90 : decode cX6_room 90 = .ok (.iload 5, 2) := by decide +kernel
theorem dX6_room_92 : decode cX6_room 92 = .ok (.iload_n 3, 1) := by decide +kernel
theorem dX6_room_93 : decode cX6_room 93 = .ok (.invokevirtual 67, 3) := by decide +kernel
theorem dX6_room_96 : decode cX6_room 96 = .ok (.istore 5, 2) := by decide +kernel
theorem dX6_room_98 : decode cX6_room 98 = .ok (.goto (-48), 3) := by decide +kernel
theorem dX6_room_101 : decode cX6_room 101 = .ok (.iload 6, 2) := by decide +kernel
theorem dX6_room_103 : decode cX6_room 103 = .ok (.ireturn, 1) := by decide +kernel
set_option maxRecDepth 20000 in
theorem ggX6_movesOf_X6_room : GoodIn wsX6_movesOf wsX6_room := goodIn_r _ [5, 6, 7, 8, 9, 10, 11, 12, 13, 14, 15, 16, 17, 18, 19, 20, 21, 22, 23, 24, 25, 26, 27, 28, 29, 4, 30, 31, 32, 33, 34, 35, 36, 37, 38, 39, 40, 41, 42, 43, 44, 45, 46, 47, 48, 49, 50, 51, 52] (by decide +kernel) (by decide +kernel)
set_option maxRecDepth 20000 in
theorem gX6_movesOf_X6_room : GoodIn wsX6_movesOf (wsV RX6 78 RX6 yX6_room wsX6_room) := goodIn_app (goodIn_of _ (by decide +kernel)) ggX6_movesOf_X6_room
theorem dX6_movesOf_0 : decode cX6_movesOf 0 = .ok (.iconst 0, 1) := by decide +kernel
theorem dX6_movesOf_1 : decode cX6_movesOf 1 = .ok (.istore_n 3, 1) := by decide +kernel
theorem dX6_movesOf_2 : decode cX6_movesOf 2 = .ok (.iconst 0, 1) := by decide +kernel
theorem dX6_movesOf_3 : decode cX6_movesOf 3 = .ok (.istore 4, 2) := by decide +kernel
theorem dX6_movesOf_5 : decode cX6_movesOf 5 = .ok (.iload 4, 2) := by decide +kernel
theorem dX6_movesOf_7 : decode cX6_movesOf 7 = .ok (.iconst 4, 1) := by decide +kernel
theorem dX6_movesOf_8 : decode cX6_movesOf 8 = .ok (.if_icmp .ge 20, 3) := by decide +kernel
theorem dX6_movesOf_11 : decode cX6_movesOf 11 = .ok (.iload_n 3, 1) := by decide +kernel
theorem dX6_movesOf_12 : decode cX6_movesOf 12 = .ok (.aload_n 0, 1) := by decide +kernel
theorem dX6_movesOf_13 : decode cX6_movesOf 13 = .ok (.aload_n 1, 1) := by decide +kernel
theorem dX6_movesOf_14 : decode cX6_movesOf 14 = .ok (.iload_n 2, 1) := by decide +kernel
theorem dX6_movesOf_15 : decode cX6_movesOf 15 = .ok (.iload 4, 2) := by decide +kernel
theorem dX6_movesOf_17 : decode cX6_movesOf 17 = .ok (.invokevirtual 78, 3) := by decide +kernel
theorem dX6_movesOf_20 : decode cX6_movesOf 20 = .ok (.iadd, 1) := by decide +kernel
theorem dX6_movesOf_21 : decode cX6_movesOf 21 = .ok (.istore_n 3, 1) := by decide +kernel
theorem dX6_movesOf_22 : decode cX6_movesOf 22 = .ok (.iinc 4 1, 3) := by decide +kernel
theorem dX6_movesOf_25 : decode cX6_movesOf 25 = .ok (.goto (-20), 3) := by decide +kernel
theorem dX6_movesOf_28 : decode cX6_movesOf 28 = .ok (.iload_n 3, 1) := by decide +kernel
theorem dX6_movesOf_29 : decode cX6_movesOf 29 = .ok (.ireturn, 1) := by decide +kernel
set_option maxRecDepth 20000 in
theorem ggX6_canGo_X6_room : GoodIn wsX6_canGo wsX6_room := goodIn_r _ [7, 8, 9, 10, 11, 12, 13, 14, 15, 16, 17, 18, 19, 20, 21, 22, 23, 24, 25, 26, 27, 28, 29, 30, 31, 6, 32, 33, 34, 35, 36, 37, 38, 39, 40, 41, 45, 46, 47, 48, 49, 42, 43, 44, 50, 51, 52, 53, 54] (by decide +kernel) (by decide +kernel)
set_option maxRecDepth 20000 in
theorem gX6_canGo_X6_room : GoodIn wsX6_canGo (wsV RX6 78 RX6 yX6_room wsX6_room) := goodIn_app (goodIn_of _ (by decide +kernel)) ggX6_canGo_X6_room
theorem dX6_canGo_0 : decode cX6_canGo 0 = .ok (.iconst 0, 1) := by decide +kernel
theorem dX6_canGo_1 : decode cX6_canGo 1 = .ok (.istore_n 2, 1) := by decide +kernel
theorem dX6_canGo_2 : decode cX6_canGo 2 = .ok (.iload_n 2, 1) := by decide +kernel
theorem dX6_canGo_3 : decode cX6_canGo 3 = .ok (.aload_n 0, 1) := by decide +kernel
theorem dX6_canGo_4 : decode cX6_canGo 4 = .ok (.getfield 40, 3) := by decide +kernel
theorem dX6_canGo_7 : decode cX6_canGo 7 = .ok (.if_icmp .ge 47, 3) := by decide +kernel
theorem dX6_canGo_10 : decode cX6_canGo 10 = .ok (.iconst 0, 1) := by decide +kernel
theorem dX6_canGo_11 : decode cX6_canGo 11 = .ok (.istore_n 3, 1) := by decide +kernel
theorem dX6_canGo_12 : decode cX6_canGo 12 = .ok (.aload_n 0, 1) := by decide +kernel
theorem dX6_canGo_13 : decode cX6_canGo 13 = .ok (.getfield 22, 3) := by decide +kernel
theorem dX6_canGo_16 : decode cX6_canGo 16 = .ok (.iload_n 2, 1) := by decide +kernel
theorem dX6_canGo_17 : decode cX6_canGo 17 = .ok (.iaload, 1) := by decide +kernel
theorem dX6_canGo_18 : decode cX6_canGo 18 = .ok (.aload_n 1, 1) := by decide +kernel
theorem dX6_canGo_19 : decode cX6_canGo 19 = .ok (.getfield 82, 3) := by decide +kernel
theorem dX6_canGo_22 : decode cX6_canGo 22 = .ok (.if_icmp .ne 26, 3) := by decide +kernel
theorem dX6_canGo_25 : decode cX6_canGo 25 = .ok (.iload_n 3, 1) := by decide +kernel
theorem dX6_canGo_26 : decode cX6_canGo 26 = .ok (.iconst 4, 1) := by decide +kernel
theorem dX6_canGo_27 : decode cX6_canGo 27 = .ok (.if_icmp .ge 21, 3) := by decide +kernel
theorem dX6_canGo_30 : decode cX6_canGo 30 = .ok (.aload_n 0, 1) := by decide +kernel
theorem dX6_canGo_31 : decode cX6_canGo 31 = .ok (.aload_n 1, 1) := by decide +kernel
theorem dX6_canGo_32 : decode cX6_canGo 32 = .ok (.iload_n 2, 1) := by decide +kernel
theorem dX6_canGo_33 : decode cX6_canGo 33 = .ok (.iload_n 3, 1) := by decide +kernel
theorem dX6_canGo_34 : decode cX6_canGo 34 = .ok (.invokevirtual 78, 3) := by decide +kernel
theorem dX6_canGo_37 : decode cX6_canGo 37 = .ok (.ifCond .le 5, 3) := by decide +kernel
theorem dX6_canGo_40 : decode cX6_canGo 40 = .ok (.iconst 1, 1) := by decide +kernel
theorem dX6_canGo_41 : decode cX6_canGo 41 = .ok (.ireturn, 1) := by decide +kernel
theorem dX6_canGo_42 : decode cX6_canGo 42 = .ok (.iinc 3 1, 3) := by decide +kernel
theorem dX6_canGo_45 : decode cX6_canGo 45 = .ok (.goto (-33), 3) := by decide +kernel
theorem dX6_canGo_48 : decode cX6_canGo 48 = .ok (.iinc 2 1, 3) := by decide +kernel
theorem dX6_canGo_51 : decode cX6_canGo 51 = .ok (.goto (-49), 3) := by decide +kernel
theorem dX6_canGo_54 : decode cX6_canGo 54 = .ok (.iconst 0, 1) := by decide +kernel
theorem dX6_canGo_55 : decode cX6_canGo 55 = .ok (.ireturn, 1) := by decide +kernel
set_option maxRecDepth 20000 in
theorem ggX6_winner_X8_fieldOf : GoodIn wsX6_winner wsX8_fieldOf := goodIn_r _ [6, 7, 50, 51, 52] (by decide +kernel) (by decide +kernel)
set_option maxRecDepth 20000 in
theorem gX6_winner_X8_fieldOf : GoodIn wsX6_winner (wsV RX6 61 RX8 yX8_fieldOf wsX8_fieldOf) := goodIn_app (goodIn_of _ (by decide +kernel)) ggX6_winner_X8_fieldOf
set_option maxRecDepth 20000 in
theorem ggX6_winner_X6_isGoal : GoodIn wsX6_winner wsX6_isGoal := goodIn_r _ [12, 13, 41, 42, 43, 44, 45, 46, 47, 48, 49, 53, 54, 55, 56, 57] (by decide +kernel) (by decide +kernel)
set_option maxRecDepth 20000 in
theorem gX6_winner_X6_isGoal : GoodIn wsX6_winner (wsV RX6 85 RX6 yX6_isGoal wsX6_isGoal) := goodIn_app (goodIn_of _ (by decide +kernel)) ggX6_winner_X6_isGoal
set_option maxRecDepth 20000 in
theorem ggX6_winner_X6_canGo : GoodIn wsX6_winner wsX6_canGo := goodIn_r _ [17, 18, 19, 20, 21, 22, 11, 23, 1, 24, 13, 2, 3, 4, 5, 6, 7, 25, 26, 27, 28, 29, 30, 31, 32, 33, 34, 35, 36, 37, 38, 39, 40, 41, 42, 43, 44, 45, 46, 47, 48, 49, 50, 51, 52, 58, 59, 60, 61, 62, 53, 54, 55, 56, 57] (by decide +kernel) (by decide +kernel)
set_option maxRecDepth 20000 in
theorem gX6_winner_X6_canGo : GoodIn wsX6_winner (wsV RX6 89 RX6 yX6_canGo wsX6_canGo) := goodIn_app (goodIn_of _ (by decide +kernel)) ggX6_winner_X6_canGo
theorem dX6_winner_0 : decode cX6_winner 0 = .ok (.aload_n 1, 1) := by decide +kernel
theorem dX6_winner_1 : decode cX6_winner 1 = .ok (.aload_n 0, 1) := by decide +kernel
theorem dX6_winner_2 : decode cX6_winner 2 = .ok (.getfield 29, 3) := by decide +kernel
theorem dX6_winner_5 : decode cX6_winner 5 = .ok (.invokevirtual 61, 3) := by decide +kernel
theorem dX6_winner_8 : decode cX6_winner 8 = .ok (.istore_n 2, 1) := by decide +kernel
theorem dX6_winner_9 : decode cX6_winner 9 = .ok (.iload_n 2, 1) := by decide +kernel
theorem dX6_winner_10 : decode cX6_winner 10 = .ok (.iconst (-1), 1) := by decide +kernel
theorem dX6_winner_11 : decode cX6_winner 11 = .ok (.if_icmp .ne 5, 3) := by decide +kernel
theorem dX6_winner_14 : decode cX6_winner 14 = .ok (.iconst 1, 1) := by decide +kernel
theorem dX6_winner_15 : decode cX6_winner 15 = .ok (.ireturn, 1) := by decide +kernel
theorem dX6_winner_16 : decode cX6_winner 16 = .ok (.aload_n 0, 1) := by decide +kernel
theorem dX6_winner_17 : decode cX6_winner 17 = .ok (.iload_n 2, 1) := by decide +kernel
theorem dX6_winner_18 : decode cX6_winner 18 = .ok (.invokevirtual 85, 3) := by decide +kernel
theorem dX6_winner_21 : decode cX6_winner 21 = .ok (.ifCond .eq 5, 3) := by decide +kernel
theorem dX6_winner_24 : decode cX6_winner 24 = .ok (.iconst 0, 1) := by decide +kernel
theorem dX6_winner_25 : decode cX6_winner 25 = .ok (.ireturn, 1) := by decide +kernel
theorem dX6_winner_26 : decode cX6_winner 26 = .ok (.aload_n 0, 1) := by decide +kernel
theorem dX6_winner_27 : decode cX6_winner 27 = .ok (.aload_n 1, 1) := by decide +kernel
theorem dX6_winner_28 : decode cX6_winner 28 = .ok (.invokevirtual 89, 3) := by decide +kernel
theorem dX6_winner_31 : decode cX6_winner 31 = .ok (.ifCond .eq 7, 3) := by decide +kernel
theorem dX6_winner_34 : decode cX6_winner 34 = .ok (.iconst (-1), 1) := by decide +kernel
theorem dX6_winner_35 : decode cX6_winner 35 = .ok (.goto 9, 3) := by decide +kernel
theorem dX6_winner_38 : decode cX6_winner 38 = .ok (.iconst 1, 1) := by decide +kernel
theorem dX6_winner_39 : decode cX6_winner 39 = .ok (.aload_n 1, 1) := by decide +kernel
theorem dX6_winner_40 : decode cX6_winner 40 = .ok (.getfield 82, 3) := by decide +kernel
theorem dX6_winner_43 : decode cX6_winner 43 = .ok (.isub, 1) := by decide +kernel
theorem dX6_winner_44 : decode cX6_winner 44 = .ok (.ireturn, 1) := by decide +kernel
set_option maxRecDepth 20000 in
theorem ggX6_findVictims_X6_isPiece : GoodIn wsX6_findVictims wsX6_isPiece := goodIn_r _ [9, 10, 49, 50, 51, 52, 53, 54, 55, 56, 57] (by decide +kernel) (by decide +kernel)
set_option maxRecDepth 20000 in
theorem gX6_findVictims_X6_isPiece : GoodIn wsX6_findVictims (wsV RX6 96 RX6 yX6_isPiece wsX6_isPiece) := goodIn_app (goodIn_of _ (by decide +kernel)) ggX6_findVictims_X6_isPiece
set_option maxRecDepth 20000 in
theorem ggX6_findVictims_X8_fieldOf : GoodIn wsX6_findVictims wsX8_fieldOf := goodIn_r _ [15, 16, 58, 59, 60] (by decide +kernel) (by decide +kernel)
set_option maxRecDepth 20000 in
theorem gX6_findVictims_X8_fieldOf : GoodIn wsX6_findVictims (wsV RX6 61 RX8 yX8_fieldOf wsX8_fieldOf) := goodIn_app (goodIn_of _ (by decide +kernel)) ggX6_findVictims_X8_fieldOf
set_option maxRecDepth 20000 in
theorem ggX6_findVictims_X8_place : GoodIn wsX6_findVictims wsX8_place := goodIn_r _ [20, 16, 21, 58, 59, 60] (by decide +kernel) (by decide +kernel)
set_option maxRecDepth 20000 in
theorem gX6_findVictims_X8_place : GoodIn wsX6_findVictims (wsV RX6 99 RX8 yX8_place wsX8_place) := goodIn_app (goodIn_of _ (by decide +kernel)) ggX6_findVictims_X8_place
set_option maxRecDepth 20000 in
theorem ggX6_findVictims_X0_beside : GoodIn wsX6_findVictims wsX0_beside := goodIn_r _ [26, 27, 28, 61, 62, 63, 64, 65] (by decide +kernel) (by decide +kernel)
set_option maxRecDepth 20000 in
theorem gX6_findVictims_X0_beside : GoodIn wsX6_findVictims (wsV RX6 67 RX0 yX0_beside wsX0_beside) := goodIn_app (goodIn_of _ (by decide +kernel)) ggX6_findVictims_X0_beside
set_option maxRecDepth 20000 in
theorem ggX6_findVictims_X8_holderOf : GoodIn wsX6_findVictims wsX8_holderOf := goodIn_r _ [32, 21, 58, 59, 60] (by decide +kernel) (by decide +kernel)
set_option maxRecDepth 20000 in
theorem gX6_findVictims_X8_holderOf : GoodIn wsX6_findVictims (wsV RX6 71 RX8 yX8_holderOf wsX8_holderOf) := goodIn_app (goodIn_of _ (by decide +kernel)) ggX6_findVictims_X8_holderOf
set_option maxRecDepth 20000 in
theorem ggX6_findVictims_X6_isCaught : GoodIn wsX6_findVictims wsX6_isCaught := goodIn_r _ [36, 37, 38, 39, 3, 4, 11, 12, 13, 14, 15, 16, 22, 23, 24, 25, 26, 27, 28, 40, 41, 42, 8, 43, 10, 2, 49, 50, 51, 52, 53, 54, 55, 56, 57, 66, 67, 68, 69, 70, 58, 59, 60, 61, 62, 63, 64, 65] (by decide +kernel) (by decide +kernel)
set_option maxRecDepth 20000 in
theorem gX6_findVictims_X6_isCaught : GoodIn wsX6_findVictims (wsV RX6 103 RX6 yX6_isCaught wsX6_isCaught) := goodIn_app (goodIn_of _ (by decide +kernel)) ggX6_findVictims_X6_isCaught
set_option maxRecDepth 20000 in
theorem ggX6_findVictims_X6_addVictim : GoodIn wsX6_findVictims wsX6_addVictim := goodIn_r _ [47, 1, 48, 49, 50, 51, 52, 53, 54, 55, 56, 57] (by decide +kernel) (by decide +kernel)
set_option maxRecDepth 20000 in
theorem gX6_findVictims_X6_addVictim : GoodIn wsX6_findVictims (wsV RX6 107 RX6 yX6_addVictim wsX6_addVictim) := goodIn_app (goodIn_of _ (by decide +kernel)) ggX6_findVictims_X6_addVictim
theorem dX6_findVictims_0 : decode cX6_findVictims 0 = .ok (.aload_n 0, 1) := by decide +kernel
theorem dX6_findVictims_1 : decode cX6_findVictims 1 = .ok (.iconst 0, 1) := by decide +kernel
theorem dX6_findVictims_2 : decode cX6_findVictims 2 = .ok (.putfield 93, 3) := by decide +kernel
theorem dX6_findVictims_5 : decode cX6_findVictims 5 = .ok (.aload_n 0, 1) := by decide +kernel
theorem dX6_findVictims_6 : decode cX6_findVictims 6 = .ok (.iload_n 2, 1) := by decide +kernel
theorem dX6_findVictims_7 : decode cX6_findVictims 7 = .ok (.invokevirtual 96, 3) := by decide +kernel
theorem dX6_findVictims_10 : decode cX6_findVictims 10 = .ok (.ifCond .eq 12, 3) := by decide +kernel
theorem dX6_findVictims_13 : decode cX6_findVictims 13 = .ok (.aload_n 0, 1) := by decide +kernel
theorem dX6_findVictims_14 : decode cX6_findVictims 14 = .ok (.getfield 25, 3) := by decide +kernel
theorem dX6_findVictims_17 : decode cX6_findVictims 17 = .ok (.iload_n 2, 1) := by decide +kernel
theorem dX6_findVictims_18 : decode cX6_findVictims 18 = .ok (.baload, 1) := by decide +kernel
theorem dX6_findVictims_19 : decode cX6_findVictims 19 = .ok (.ifCond .ne 5, 3) := by decide +kernel
theorem dX6_findVictims_22 : decode cX6_findVictims 22 = .ok (.iconst 0, 1) := by decide +kernel
theorem dX6_findVictims_23 : decode cX6_findVictims 23 = .ok (.ireturn, 1) := by decide +kernel
theorem dX6_findVictims_24 : decode cX6_findVictims 24 = .ok (.aload_n 1, 1) := by decide +kernel
theorem dX6_findVictims_25 : decode cX6_findVictims 25 = .ok (.iload_n 2, 1) := by decide +kernel
theorem dX6_findVictims_26 : decode cX6_findVictims 26 = .ok (.invokevirtual 61, 3) := by decide +kernel
theorem dX6_findVictims_29 : decode cX6_findVictims 29 = .ok (.istore 4, 2) := by decide +kernel
theorem dX6_findVictims_31 : decode cX6_findVictims 31 = .ok (.aload_n 1, 1) := by decide +kernel
theorem dX6_findVictims_32 : decode cX6_findVictims 32 = .ok (.iload_n 2, 1) := by decide +kernel
theorem dX6_findVictims_33 : decode cX6_findVictims 33 = .ok (.iload_n 3, 1) := by decide +kernel
theorem dX6_findVictims_34 : decode cX6_findVictims 34 = .ok (.invokevirtual 99, 3) := by decide +kernel
theorem dX6_findVictims_37 : decode cX6_findVictims 37 = .ok (.iconst 0, 1) := by decide +kernel
theorem dX6_findVictims_38 : decode cX6_findVictims 38 = .ok (.istore 5, 2) := by decide +kernel
theorem dX6_findVictims_40 : decode cX6_findVictims 40 = .ok (.iload 5, 2) := by decide +kernel
theorem dX6_findVictims_42 : decode cX6_findVictims 42 = .ok (.iconst 4, 1) := by decide +kernel
theorem dX6_findVictims_43 : decode cX6_findVictims 43 = .ok (.if_icmp .ge 72, 3) := by decide +kernel
theorem dX6_findVictims_46 : decode cX6_findVictims 46 = .ok (.aload_n 0, 1) := by decide +kernel
theorem dX6_findVictims_47 : decode cX6_findVictims 47 = .ok (.getfield 12, 3) := by decide +kernel
theorem dX6_findVictims_50 : decode cX6_findVictims 50 = .ok (.iload_n 3, 1) := by decide +kernel
theorem dX6_findVictims_51 : decode cX6_findVictims 51 = .ok (.iload 5, 2) := by decide +kernel
theorem dX6_findVictims_53 : decode cX6_findVictims 53 = .ok (.invokevirtual 67, 3) := by decide +kernel
theorem dX6_findVictims_56 : decode cX6_findVictims 56 = .ok (.istore 6, 2) := by decide +kernel
theorem dX6_findVictims_58 : decode cX6_findVictims 58 = .ok (.aload_n 1, 1) := by decide +kernel
theorem dX6_findVictims_59 : decode cX6_findVictims 59 = .ok (.iload 6, 2) := by decide +kernel
theorem dX6_findVictims_61 : decode cX6_findVictims 61 = .ok (.invokevirtual 71, 3) := by decide +kernel
theorem dX6_findVictims_64 : decode cX6_findVictims 64 = .ok (.istore 7, 2) := by decide +kernel
theorem dX6_findVictims_66 : decode cX6_findVictims 66 = .ok (.aload_n 0, 1) := by decide +kernel
theorem dX6_findVictims_67 : decode cX6_findVictims 67 = .ok (.iload 7, 2) := by decide +kernel
theorem dX6_findVictims_69 : decode cX6_findVictims 69 = .ok (.invokevirtual 96, 3) := by decide +kernel
theorem dX6_findVictims_72 : decode cX6_findVictims 72 = .ok (.ifCond .eq 37, 3) := by decide +kernel
theorem dX6_findVictims_75 : decode cX6_findVictims 75 = .ok (.aload_n 0, 1) := by decide +kernel
theorem dX6_findVictims_76 : decode cX6_findVictims 76 = .ok (.getfield 22, 3) := by decide +kernel
theorem dX6_findVictims_79 : decode cX6_findVictims 79 = .ok (.iload 7, 2) := by decide +kernel
theorem dX6_findVictims_81 : decode cX6_findVictims 81 = .ok (.iaload, 1) := by decide +kernel
theorem dX6_findVictims_82 : decode cX6_findVictims 82 = .ok (.aload_n 0, 1) := by decide +kernel
theorem dX6_findVictims_83 : decode cX6_findVictims 83 = .ok (.getfield 22, 3) := by decide +kernel
theorem dX6_findVictims_86 : decode cX6_findVictims 86 = .ok (.iload_n 2, 1) := by decide +kernel
theorem dX6_findVictims_87 : decode cX6_findVictims 87 = .ok (.iaload, 1) := by decide +kernel
theorem dX6_findVictims_88 : decode cX6_findVictims 88 = .ok (.if_icmp .eq 21, 3) := by decide +kernel
theorem dX6_findVictims_91 : decode cX6_findVictims 91 = .ok (.aload_n 0, 1) := by decide +kernel
theorem dX6_findVictims_92 : decode cX6_findVictims 92 = .ok (.aload_n 1, 1) := by decide +kernel
theorem dX6_findVictims_93 : decode cX6_findVictims 93 = .ok (.iload 7, 2) := by decide +kernel
theorem dX6_findVictims_95 : decode cX6_findVictims 95 = .ok (.iload 5, 2) := by decide +kernel
theorem dX6_findVictims_97 : decode cX6_findVictims 97 = .ok (.invokevirtual 103, 3) := by decide +kernel
theorem dX6_findVictims_100 : decode cX6_findVictims 100 = .ok (.ifCond .eq 9, 3) := by decide +kernel
theorem dX6_findVictims_103 : decode cX6_findVictims 103 = .ok (.aload_n 0, 1) := by decide +kernel
theorem dX6_findVictims_104 : decode cX6_findVictims 104 = .ok (.iload 7, 2) := by decide +kernel
theorem dX6_findVictims_106 : decode cX6_findVictims 106 = .ok (.invokevirtual 107, 3) := by decide +kernel
theorem dX6_findVictims_109 : decode cX6_findVictims 109 = .ok (.iinc 5 1, 3) := by decide +kernel
theorem dX6_findVictims_112 : decode cX6_findVictims 112 = .ok (.goto (-72), 3) := by decide +kernel
theorem dX6_findVictims_115 : decode cX6_findVictims 115 = .ok (.aload_n 1, 1) := by decide +kernel
theorem dX6_findVictims_116 : decode cX6_findVictims 116 = .ok (.iload_n 2, 1) := by decide +kernel
theorem dX6_findVictims_117 : decode cX6_findVictims 117 = .ok (.iload 4, 2) := by decide +kernel
theorem dX6_findVictims_119 : decode cX6_findVictims 119 = .ok (.invokevirtual 99, 3) := by decide +kernel
theorem dX6_findVictims_122 : decode cX6_findVictims 122 = .ok (.aload_n 0, 1) := by decide +kernel
theorem dX6_findVictims_123 : decode cX6_findVictims 123 = .ok (.getfield 93, 3) := by decide +kernel
theorem dX6_findVictims_126 : decode cX6_findVictims 126 = .ok (.ireturn, 1) := by decide +kernel
theorem dX6_addVictim_0 : decode cX6_addVictim 0 = .ok (.aload_n 0, 1) := by decide +kernel
theorem dX6_addVictim_1 : decode cX6_addVictim 1 = .ok (.getfield 93, 3) := by decide +kernel
theorem dX6_addVictim_4 : decode cX6_addVictim 4 = .ok (.istore_n 2, 1) := by decide +kernel
theorem dX6_addVictim_5 : decode cX6_addVictim 5 = .ok (.iload_n 2, 1) := by decide +kernel
theorem dX6_addVictim_6 : decode cX6_addVictim 6 = .ok (.iconst 4, 1) := by decide +kernel
theorem dX6_addVictim_7 : decode cX6_addVictim 7 = .ok (.if_icmp .lt 4, 3) := by decide +kernel
theorem dX6_addVictim_10 : decode cX6_addVictim 10 = .ok (.return_, 1) := by decide +kernel
theorem dX6_addVictim_11 : decode cX6_addVictim 11 = .ok (.iload_n 2, 1) := by decide +kernel
theorem dX6_addVictim_12 : decode cX6_addVictim 12 = .ok (.ifCond .le 35, 3) := by decide +kernel
theorem dX6_addVictim_15 : decode cX6_addVictim 15 = .ok (.aload_n 0, 1) := by decide +kernel
theorem dX6_addVictim_16 : decode cX6_addVictim 16 = .ok (.getfield 33, 3) := by decide +kernel
theorem dX6_addVictim_19 : decode cX6_addVictim 19 = .ok (.iload_n 2, 1) := by decide +kernel
theorem dX6_addVictim_20 : decode cX6_addVictim 20 = .ok (.iconst 1, 1) := by decide +kernel
theorem dX6_addVictim_21 : decode cX6_addVictim 21 = .ok (.isub, 1) := by decide +kernel
theorem dX6_addVictim_22 : decode cX6_addVictim 22 = .ok (.iaload, 1) := by decide +kernel
theorem dX6_addVictim_23 : decode cX6_addVictim 23 = .ok (.iload_n 1, 1) := by decide +kernel
theorem dX6_addVictim_24 : decode cX6_addVictim 24 = .ok (.if_icmp .le 23, 3) := by decide +kernel
theorem dX6_addVictim_27 : decode cX6_addVictim 27 = .ok (.aload_n 0, 1) := by decide +kernel
theorem dX6_addVictim_28 : decode cX6_addVictim 28 = .ok (.getfield 33, 3) := by decide +kernel
theorem dX6_addVictim_31 : decode cX6_addVictim 31 = .ok (.iload_n 2, 1) := by decide +kernel
theorem dX6_addVictim_32 : decode cX6_addVictim 32 = .ok (.aload_n 0, 1) := by decide +kernel
theorem dX6_addVictim_33 : decode cX6_addVictim 33 = .ok (.getfield 33, 3) := by decide +kernel
theorem dX6_addVictim_36 : decode cX6_addVictim 36 = .ok (.iload_n 2, 1) := by decide +kernel
theorem dX6_addVictim_37 : decode cX6_addVictim 37 = .ok (.iconst 1, 1) := by decide +kernel
theorem dX6_addVictim_38 : decode cX6_addVictim 38 = .ok (.isub, 1) := by decide +kernel
theorem dX6_addVictim_39 : decode cX6_addVictim 39 = .ok (.iaload, 1) := by decide +kernel
theorem dX6_addVictim_40 : decode cX6_addVictim 40 = .ok (.iastore, 1) := by decide +kernel
theorem dX6_addVictim_41 : decode cX6_addVictim 41 = .ok (.iinc 2 (-1), 3) := by decide +kernel
theorem dX6_addVictim_44 : decode cX6_addVictim 44 = .ok (.goto (-33), 3) := by decide +kernel
theorem dX6_addVictim_47 : decode cX6_addVictim 47 = .ok (.aload_n 0, 1) := by decide +kernel
theorem dX6_addVictim_48 : decode cX6_addVictim 48 = .ok (.getfield 33, 3) := by decide +kernel
theorem dX6_addVictim_51 : decode cX6_addVictim 51 = .ok (.iload_n 2, 1) := by decide +kernel
theorem dX6_addVictim_52 : decode cX6_addVictim 52 = .ok (.iload_n 1, 1) := by decide +kernel
theorem dX6_addVictim_53 : decode cX6_addVictim 53 = .ok (.iastore, 1) := by decide +kernel
theorem dX6_addVictim_54 : decode cX6_addVictim 54 = .ok (.aload_n 0, 1) := by decide +kernel
theorem dX6_addVictim_55 : decode cX6_addVictim 55 = .ok (.dup, 1) := by decide +kernel
theorem dX6_addVictim_56 : decode cX6_addVictim 56 = .ok (.getfield 93, 3) := by decide +kernel
theorem dX6_addVictim_59 : decode cX6_addVictim 59 = .ok (.iconst 1, 1) := by decide +kernel
theorem dX6_addVictim_60 : decode cX6_addVictim 60 = .ok (.iadd, 1) := by decide +kernel
theorem dX6_addVictim_61 : decode cX6_addVictim 61 = .ok (.putfield 93, 3) := by decide +kernel
theorem dX6_addVictim_64 : decode cX6_addVictim 64 = .ok (.return_, 1) := by decide +kernel
set_option maxRecDepth 20000 in
theorem ggX6_isCaught_X8_fieldOf : GoodIn wsX6_isCaught wsX8_fieldOf := goodIn_r _ [10, 11, 40, 41, 42] (by decide +kernel) (by decide +kernel)
set_option maxRecDepth 20000 in
theorem gX6_isCaught_X8_fieldOf : GoodIn wsX6_isCaught (wsV RX6 61 RX8 yX8_fieldOf wsX8_fieldOf) := goodIn_app (goodIn_of _ (by decide +kernel)) ggX6_isCaught_X8_fieldOf
set_option maxRecDepth 20000 in
theorem ggX6_isCaught_X0_beside : GoodIn wsX6_isCaught wsX0_beside := goodIn_r _ [16, 17, 18, 43, 44, 45, 46, 47] (by decide +kernel) (by decide +kernel)
set_option maxRecDepth 20000 in
theorem gX6_isCaught_X0_beside : GoodIn wsX6_isCaught (wsV RX6 67 RX0 yX0_beside wsX0_beside) := goodIn_app (goodIn_of _ (by decide +kernel)) ggX6_isCaught_X0_beside
set_option maxRecDepth 20000 in
theorem ggX6_isCaught_X6_isFoe : GoodIn wsX6_isCaught wsX6_isFoe := goodIn_r _ [23, 4, 24, 5, 25, 26, 27, 28, 29, 30, 31, 32, 33, 34, 43, 44, 45, 46, 47, 40, 41, 42] (by decide +kernel) (by decide +kernel)
set_option maxRecDepth 20000 in
theorem gX6_isCaught_X6_isFoe : GoodIn wsX6_isCaught (wsV RX6 114 RX6 yX6_isFoe wsX6_isFoe) := goodIn_app (goodIn_of _ (by decide +kernel)) ggX6_isCaught_X6_isFoe
theorem dX6_isCaught_0 : decode cX6_isCaught 0 = .ok (.aload_n 0, 1) := by decide +kernel
theorem dX6_isCaught_1 : decode cX6_isCaught 1 = .ok (.getfield 18, 3) := by decide +kernel
theorem dX6_isCaught_4 : decode cX6_isCaught 4 = .ok (.iload_n 2, 1) := by decide +kernel
theorem dX6_isCaught_5 : decode cX6_isCaught 5 = .ok (.iaload, 1) := by decide +kernel
theorem dX6_isCaught_6 : decode cX6_isCaught 6 = .ok (.iconst 4, 1) := by decide +kernel
theorem dX6_isCaught_7 : decode cX6_isCaught 7 = .ok (.if_icmp .eq 22, 3) := by decide +kernel
theorem dX6_isCaught_10 : decode cX6_isCaught 10 = .ok (.iload_n 2, 1) := by decide +kernel
theorem dX6_isCaught_11 : decode cX6_isCaught 11 = .ok (.aload_n 0, 1) := by decide +kernel
theorem dX6_isCaught_12 : decode cX6_isCaught 12 = .ok (.getfield 29, 3) := by decide +kernel
theorem dX6_isCaught_15 : decode cX6_isCaught 15 = .ok (.if_icmp .ne 18, 3) := by decide +kernel
theorem dX6_isCaught_18 : decode cX6_isCaught 18 = .ok (.aload_n 0, 1) := by decide +kernel
theorem dX6_isCaught_19 : decode cX6_isCaught 19 = .ok (.getfield 36, 3) := by decide +kernel
theorem dX6_isCaught_22 : decode cX6_isCaught 22 = .ok (.getfield 111, 3) := by decide +kernel
theorem dX6_isCaught_25 : decode cX6_isCaught 25 = .ok (.iconst 4, 1) := by decide +kernel
theorem dX6_isCaught_26 : decode cX6_isCaught 26 = .ok (.if_icmp .ne 7, 3) := by decide +kernel
theorem dX6_isCaught_29 : decode cX6_isCaught 29 = .ok (.iconst 1, 1) := by decide +kernel
theorem dX6_isCaught_30 : decode cX6_isCaught 30 = .ok (.goto 4, 3) := by decide +kernel
theorem dX6_isCaught_33 : decode cX6_isCaught 33 = .ok (.iconst 0, 1) := by decide +kernel
theorem dX6_isCaught_34 : decode cX6_isCaught 34 = .ok (.istore 4, 2) := by decide +kernel
theorem dX6_isCaught_36 : decode cX6_isCaught 36 = .ok (.aload_n 1, 1) := by decide +kernel
theorem dX6_isCaught_37 : decode cX6_isCaught 37 = .ok (.iload_n 2, 1) := by decide +kernel
theorem dX6_isCaught_38 : decode cX6_isCaught 38 = .ok (.invokevirtual 61, 3) := by decide +kernel
theorem dX6_isCaught_41 : decode cX6_isCaught 41 = .ok (.istore 5, 2) := by decide +kernel
theorem dX6_isCaught_43 : decode cX6_isCaught 43 = .ok (.iconst 0, 1) := by decide +kernel
theorem dX6_isCaught_44 : decode cX6_isCaught 44 = .ok (.istore 6, 2) := by decide +kernel
theorem dX6_isCaught_46 : decode cX6_isCaught 46 = .ok (.iload 6, 2) := by decide +kernel
theorem dX6_isCaught_48 : decode cX6_isCaught 48 = .ok (.iconst 4, 1) := by decide +kernel
theorem dX6_isCaught_49 : decode cX6_isCaught 49 = .ok (.if_icmp .ge 49, 3) := by decide +kernel
theorem dX6_isCaught_52 : decode cX6_isCaught 52 = .ok (.iload 4, 2) := by decide +kernel
theorem dX6_isCaught_54 : decode cX6_isCaught 54 = .ok (.ifCond .ne 9, 3) := by decide +kernel
theorem dX6_isCaught_57 : decode cX6_isCaught 57 = .ok (.iload 6, 2) := by decide +kernel
theorem dX6_isCaught_59 : decode cX6_isCaught 59 = .ok (.iload_n 3, 1) := by decide +kernel
theorem dX6_isCaught_60 : decode cX6_isCaught 60 = .ok (.if_icmp .ne 32, 3) := by decide +kernel
theorem dX6_isCaught_63 : decode cX6_isCaught 63 = .ok (.aload_n 0, 1) := by decide +kernel
theorem dX6_isCaught_64 : decode cX6_isCaught 64 = .ok (.aload_n 1, 1) := by decide +kernel
theorem dX6_isCaught_65 : decode cX6_isCaught 65 = .ok (.aload_n 0, 1) := by decide +kernel
theorem dX6_isCaught_66 : decode cX6_isCaught 66 = .ok (.getfield 12, 3) := by decide +kernel
theorem dX6_isCaught_69 : decode cX6_isCaught 69 = .ok (.iload 5, 2) := by decide +kernel
theorem dX6_isCaught_71 : decode cX6_isCaught 71 = .ok (.iload 6, 2) := by decide +kernel
theorem dX6_isCaught_73 : decode cX6_isCaught 73 = .ok (.invokevirtual 67, 3) := by decide +kernel
theorem dX6_isCaught_76 : decode cX6_isCaught 76 = .ok (.iconst 1, 1) := by decide +kernel
theorem dX6_isCaught_77 : decode cX6_isCaught 77 = .ok (.aload_n 0, 1) := by decide +kernel
theorem dX6_isCaught_78 : decode cX6_isCaught 78 = .ok (.getfield 22, 3) := by decide +kernel
theorem dX6_isCaught_81 : decode cX6_isCaught 81 = .ok (.iload_n 2, 1) := by decide +kernel
theorem dX6_isCaught_82 : decode cX6_isCaught 82 = .ok (.iaload, 1) := by decide +kernel
theorem dX6_isCaught_83 : decode cX6_isCaught 83 = .ok (.isub, 1) := by decide +kernel
theorem dX6_isCaught_84 : decode cX6_isCaught 84 = .ok (.invokevirtual 114, 3) := by decide +kernel
theorem dX6_isCaught_87 : decode cX6_isCaught 87 = .ok (.ifCond .ne 5, 3) := by decide +kernel
theorem dX6_isCaught_90 : decode cX6_isCaught 90 = .ok (.iconst 0, 1) := by decide +kernel
theorem dX6_isCaught_91 : decode cX6_isCaught 91 = .ok (.ireturn, 1) := by decide +kernel
theorem dX6_isCaught_92 : decode cX6_isCaught 92 = .ok (.iinc 6 1, 3) := by decide +kernel
theorem dX6_isCaught_95 : decode cX6_isCaught 95 = .ok (.goto (-49), 3) := by decide +kernel
theorem dX6_isCaught_98 : decode cX6_isCaught 98 = .ok (.iconst 1, 1) := by decide +kernel
theorem dX6_isCaught_99 : decode cX6_isCaught 99 = .ok (.ireturn, 1) := by decide +kernel
theorem dX6_isFoe_0 : decode cX6_isFoe 0 = .ok (.iload_n 2, 1) := by decide +kernel
theorem dX6_isFoe_1 : decode cX6_isFoe 1 = .ok (.ifCond .lt 14, 3) := by decide +kernel
theorem dX6_isFoe_4 : decode cX6_isFoe 4 = .ok (.iload_n 2, 1) := by decide +kernel
theorem dX6_isFoe_5 : decode cX6_isFoe 5 = .ok (.aload_n 0, 1) := by decide +kernel
theorem dX6_isFoe_6 : decode cX6_isFoe 6 = .ok (.getfield 12, 3) := by decide +kernel
theorem dX6_isFoe_9 : decode cX6_isFoe 9 = .ok (.getfield 49, 3) := by decide +kernel
theorem dX6_isFoe_12 : decode cX6_isFoe 12 = .ok (.if_icmp .lt 5, 3) := by decide +kernel
theorem dX6_isFoe_15 : decode cX6_isFoe 15 = .ok (.iconst 0, 1) := by decide +kernel
theorem dX6_isFoe_16 : decode cX6_isFoe 16 = .ok (.ireturn, 1) := by decide +kernel
theorem dX6_isFoe_17 : decode cX6_isFoe 17 = .ok (.aload_n 1, 1) := by decide +kernel
theorem dX6_isFoe_18 : decode cX6_isFoe 18 = .ok (.getfield 117, 3) := by decide +kernel
theorem dX6_isFoe_21 : decode cX6_isFoe 21 = .ok (.iload_n 2, 1) := by decide +kernel
theorem dX6_isFoe_22 : decode cX6_isFoe 22 = .ok (.iaload, 1) := by decide +kernel
theorem dX6_isFoe_23 : decode cX6_isFoe 23 = .ok (.istore 4, 2) := by decide +kernel
theorem dX6_isFoe_25 : decode cX6_isFoe 25 = .ok (.iload 4, 2) := by decide +kernel
theorem dX6_isFoe_27 : decode cX6_isFoe 27 = .ok (.ifCond .lt 12, 3) := by decide +kernel
theorem dX6_isFoe_30 : decode cX6_isFoe 30 = .ok (.iload 4, 2) := by decide +kernel
theorem dX6_isFoe_32 : decode cX6_isFoe 32 = .ok (.aload_n 0, 1) := by decide +kernel
theorem dX6_isFoe_33 : decode cX6_isFoe 33 = .ok (.getfield 40, 3) := by decide +kernel
theorem dX6_isFoe_36 : decode cX6_isFoe 36 = .ok (.if_icmp .lt 22, 3) := by decide +kernel
theorem dX6_isFoe_39 : decode cX6_isFoe 39 = .ok (.aload_n 0, 1) := by decide +kernel
theorem dX6_isFoe_40 : decode cX6_isFoe 40 = .ok (.getfield 12, 3) := by decide +kernel
theorem dX6_isFoe_43 : decode cX6_isFoe 43 = .ok (.getfield 52, 3) := by decide +kernel
theorem dX6_isFoe_46 : decode cX6_isFoe 46 = .ok (.iload_n 2, 1) := by decide +kernel
theorem dX6_isFoe_47 : decode cX6_isFoe 47 = .ok (.iaload, 1) := by decide +kernel
theorem dX6_isFoe_48 : decode cX6_isFoe 48 = .ok (.iconst 2, 1) := by decide +kernel
theorem dX6_isFoe_49 : decode cX6_isFoe 49 = .ok (.if_icmp .ne 7, 3) := by decide +kernel
theorem dX6_isFoe_52 : decode cX6_isFoe 52 = .ok (.iconst 1, 1) := by decide +kernel
theorem dX6_isFoe_53 : decode cX6_isFoe 53 = .ok (.goto 4, 3) := by decide +kernel
theorem dX6_isFoe_56 : decode cX6_isFoe 56 = .ok (.iconst 0, 1) := by decide +kernel
theorem dX6_isFoe_57 : decode cX6_isFoe 57 = .ok (.ireturn, 1) := by decide +kernel
theorem dX6_isFoe_58 : decode cX6_isFoe 58 = .ok (.aload_n 0, 1) := by decide +kernel
theorem dX6_isFoe_59 : decode cX6_isFoe 59 = .ok (.getfield 22, 3) := by decide +kernel
theorem dX6_isFoe_62 : decode cX6_isFoe 62 = .ok (.iload 4, 2) := by decide +kernel
theorem dX6_isFoe_64 : decode cX6_isFoe 64 = .ok (.iaload, 1) := by decide +kernel
theorem dX6_isFoe_65 : decode cX6_isFoe 65 = .ok (.iload_n 3, 1) := by decide +kernel
theorem dX6_isFoe_66 : decode cX6_isFoe 66 = .ok (.if_icmp .ne 17, 3) := by decide +kernel
theorem dX6_isFoe_69 : decode cX6_isFoe 69 = .ok (.aload_n 0, 1) := by decide +kernel
theorem dX6_isFoe_70 : decode cX6_isFoe 70 = .ok (.getfield 25, 3) := by decide +kernel
theorem dX6_isFoe_73 : decode cX6_isFoe 73 = .ok (.iload 4, 2) := by decide +kernel
theorem dX6_isFoe_75 : decode cX6_isFoe 75 = .ok (.baload, 1) := by decide +kernel
theorem dX6_isFoe_76 : decode cX6_isFoe 76 = .ok (.ifCond .eq 7, 3) := by decide +kernel
theorem dX6_isFoe_79 : decode cX6_isFoe 79 = .ok (.iconst 1, 1) := by decide +kernel
theorem dX6_isFoe_80 : decode cX6_isFoe 80 = .ok (.goto 4, 3) := by decide +kernel
theorem dX6_isFoe_83 : decode cX6_isFoe 83 = .ok (.iconst 0, 1) := by decide +kernel
theorem dX6_isFoe_84 : decode cX6_isFoe 84 = .ok (.ireturn, 1) := by decide +kernel
set_option maxRecDepth 20000 in
theorem ggX7_init_X8_init : GoodIn wsX7_init wsX8_init := goodIn_r _ [24, 25, 2, 3, 12, 26, 27, 28, 29, 30, 6, 31, 32, 33, 34, 35, 36, 43, 44, 45] (by decide +kernel) (by decide +kernel)
set_option maxRecDepth 20000 in
theorem gX7_init_X8_init : GoodIn wsX7_init (wsX8_init) := ggX7_init_X8_init
set_option maxRecDepth 20000 in
theorem ggX7_init_X2_init : GoodIn wsX7_init wsX2_init := goodIn_r _ [38, 39, 2, 3, 12, 40, 41, 42, 61, 62, 63, 64] (by decide +kernel) (by decide +kernel)
set_option maxRecDepth 20000 in
theorem gX7_init_X2_init_n20 : GoodIn wsX7_init (wsX2_init) := ggX7_init_X2_init
theorem dX7_init_0 : decode cX7_init 0 = .ok (.aload_n 0, 1) := by decide +kernel
theorem dX7_init_1 : decode cX7_init 1 = .ok (.invokespecial 3, 3) := by decide +kernel
theorem dX7_init_4 : decode cX7_init 4 = .ok (.aload_n 0, 1) := by decide +kernel
theorem dX7_init_5 : decode cX7_init 5 = .ok (.new 9, 3) := by decide +kernel
theorem dX7_init_8 : decode cX7_init 8 = .ok (.dup, 1) := by decide +kernel
theorem dX7_init_9 : decode cX7_init 9 = .ok (.invokespecial 11, 3) := by decide +kernel
theorem dX7_init_12 : decode cX7_init 12 = .ok (.putfield 12, 3) := by decide +kernel
theorem dX7_init_15 : decode cX7_init 15 = .ok (.aload_n 0, 1) := by decide +kernel
theorem dX7_init_16 : decode cX7_init 16 = .ok (.new 18, 3) := by decide +kernel
theorem dX7_init_19 : decode cX7_init 19 = .ok (.dup, 1) := by decide +kernel
theorem dX7_init_20 : decode cX7_init 20 = .ok (.invokespecial 20, 3) := by decide +kernel
theorem dX7_init_23 : decode cX7_init 23 = .ok (.putfield 21, 3) := by decide +kernel
theorem dX7_init_26 : decode cX7_init 26 = .ok (.aload_n 0, 1) := by decide +kernel
theorem dX7_init_27 : decode cX7_init 27 = .ok (.bipush 40, 2) := by decide +kernel
theorem dX7_init_29 : decode cX7_init 29 = .ok (.newarray .int, 2) := by decide +kernel
theorem dX7_init_31 : decode cX7_init 31 = .ok (.putfield 25, 3) := by decide +kernel
theorem dX7_init_34 : decode cX7_init 34 = .ok (.aload_n 0, 1) := by decide +kernel
theorem dX7_init_35 : decode cX7_init 35 = .ok (.bipush 40, 2) := by decide +kernel
theorem dX7_init_37 : decode cX7_init 37 = .ok (.newarray .int, 2) := by decide +kernel
theorem dX7_init_39 : decode cX7_init 39 = .ok (.putfield 29, 3) := by decide +kernel
theorem dX7_init_42 : decode cX7_init 42 = .ok (.aload_n 0, 1) := by decide +kernel
theorem dX7_init_43 : decode cX7_init 43 = .ok (.bipush 6, 2) := by decide +kernel
theorem dX7_init_45 : decode cX7_init 45 = .ok (.newarray .int, 2) := by decide +kernel
theorem dX7_init_47 : decode cX7_init 47 = .ok (.putfield 32, 3) := by decide +kernel
theorem dX7_init_50 : decode cX7_init 50 = .ok (.aload_n 0, 1) := by decide +kernel
theorem dX7_init_51 : decode cX7_init 51 = .ok (.iconst 2, 1) := by decide +kernel
theorem dX7_init_52 : decode cX7_init 52 = .ok (.newarray .int, 2) := by decide +kernel
theorem dX7_init_54 : decode cX7_init 54 = .ok (.putfield 35, 3) := by decide +kernel
theorem dX7_init_57 : decode cX7_init 57 = .ok (.aload_n 0, 1) := by decide +kernel
theorem dX7_init_58 : decode cX7_init 58 = .ok (.iconst 0, 1) := by decide +kernel
theorem dX7_init_59 : decode cX7_init 59 = .ok (.newarray .int, 2) := by decide +kernel
theorem dX7_init_61 : decode cX7_init 61 = .ok (.putfield 38, 3) := by decide +kernel
theorem dX7_init_64 : decode cX7_init 64 = .ok (.aload_n 0, 1) := by decide +kernel
theorem dX7_init_65 : decode cX7_init 65 = .ok (.iconst 0, 1) := by decide +kernel
theorem dX7_init_66 : decode cX7_init 66 = .ok (.newarray .int, 2) := by decide +kernel
theorem dX7_init_68 : decode cX7_init 68 = .ok (.putfield 41, 3) := by decide +kernel
theorem dX7_init_71 : decode cX7_init 71 = .ok (.aload_n 0, 1) := by decide +kernel
theorem dX7_init_72 : decode cX7_init 72 = .ok (.iconst 0, 1) := by decide +kernel
theorem dX7_init_73 : decode cX7_init 73 = .ok (.newarray .int, 2) := by decide +kernel
theorem dX7_init_75 : decode cX7_init 75 = .ok (.putfield 44, 3) := by decide +kernel
theorem dX7_init_78 : decode cX7_init 78 = .ok (.aload_n 0, 1) := by decide +kernel
theorem dX7_init_79 : decode cX7_init 79 = .ok (.iconst 0, 1) := by decide +kernel
theorem dX7_init_80 : decode cX7_init 80 = .ok (.newarray .int, 2) := by decide +kernel
theorem dX7_init_82 : decode cX7_init 82 = .ok (.putfield 47, 3) := by decide +kernel
theorem dX7_init_85 : decode cX7_init 85 = .ok (.aload_n 0, 1) := by decide +kernel
theorem dX7_init_86 : decode cX7_init 86 = .ok (.aload_n 1, 1) := by decide +kernel
theorem dX7_init_87 : decode cX7_init 87 = .ok (.putfield 50, 3) := by decide +kernel
theorem dX7_init_90 : decode cX7_init 90 = .ok (.return_, 1) := by decide +kernel
theorem dX7_forget_0 : decode cX7_forget 0 = .ok (.aload_n 0, 1) := by decide +kernel
theorem dX7_forget_1 : decode cX7_forget 1 = .ok (.iconst 0, 1) := by decide +kernel
theorem dX7_forget_2 : decode cX7_forget 2 = .ok (.putfield 54, 3) := by decide +kernel
theorem dX7_forget_5 : decode cX7_forget 5 = .ok (.return_, 1) := by decide +kernel
set_option maxRecDepth 20000 in
theorem ggX7_solveAll_X7_measure : GoodIn wsX7_solveAll wsX7_measure := goodIn_r _ [13, 5, 14, 3, 177, 178, 179, 180, 181, 182, 183, 184, 185, 186, 187, 188, 189, 190, 191, 192, 193, 194, 195, 196, 197, 198, 199, 200, 201, 202, 203, 204, 205] (by decide +kernel) (by decide +kernel)
set_option maxRecDepth 20000 in
theorem gX7_solveAll_X7_measure : GoodIn wsX7_solveAll (wsV RX7 62 RX7 yX7_measure wsX7_measure) := goodIn_app (goodIn_of _ (by decide +kernel)) ggX7_solveAll_X7_measure
set_option maxRecDepth 20000 in
theorem ggX7_solveAll_X7_makeRoom : GoodIn wsX7_solveAll wsX7_makeRoom := goodIn_r _ [18, 19, 20, 21, 22, 23, 24, 25, 26, 27, 28, 29, 30, 31, 32, 33, 34, 177, 178, 179, 180, 181, 182, 183, 184, 185, 186, 187, 188, 189, 190, 191] (by decide +kernel) (by decide +kernel)
set_option maxRecDepth 20000 in
theorem gX7_solveAll_X7_makeRoom : GoodIn wsX7_solveAll (wsV RX7 69 RX7 yX7_makeRoom wsX7_makeRoom) := goodIn_app (goodIn_of _ (by decide +kernel)) ggX7_solveAll_X7_makeRoom
set_option maxRecDepth 20000 in
theorem ggX7_solveAll_X2_renew : GoodIn wsX7_solveAll wsX2_renew := goodIn_r _ [38, 39, 20, 40, 41, 42, 43, 44, 25, 26, 27, 28, 29, 30, 31, 32, 33, 34, 45, 46, 47, 48, 206, 207, 208, 209] (by decide +kernel) (by decide +kernel)
set_option maxRecDepth 20000 in
theorem gX7_solveAll_X2_renew : GoodIn wsX7_solveAll (wsV RX7 87 RX2 yX2_renew wsX2_renew) := goodIn_app (goodIn_of _ (by decide +kernel)) ggX7_solveAll_X2_renew
set_option maxRecDepth 20000 in
theorem ggX7_solveAll_X8_clear : GoodIn wsX7_solveAll wsX8_clear := goodIn_r _ [53, 54, 55, 56, 57, 46, 47, 48, 210, 211, 212] (by decide +kernel) (by decide +kernel)
set_option maxRecDepth 20000 in
theorem gX7_solveAll_X8_clear : GoodIn wsX7_solveAll (wsV RX7 91 RX8 yX8_clear wsX8_clear) := goodIn_app (goodIn_of _ (by decide +kernel)) ggX7_solveAll_X8_clear
set_option maxRecDepth 20000 in
theorem ggX7_solveAll_J7_fill_53178 : GoodIn wsX7_solveAll wsJ7_fill_53178 := goodIn_r _ [48] (by decide +kernel) (by decide +kernel)
set_option maxRecDepth 20000 in
theorem gX7_solveAll_J7_fill_53178 : GoodIn wsX7_solveAll (va_wsS RX7 94 yJ7_fill_53178 wsJ7_fill_53178) := goodIn_app (goodIn_of _ (by decide +kernel)) ggX7_solveAll_J7_fill_53178
set_option maxRecDepth 20000 in
theorem ggX7_solveAll_X7_enter : GoodIn wsX7_solveAll wsX7_enter := goodIn_r _ [62, 19, 21, 22, 2, 6, 5, 63, 64, 65, 12, 66, 7, 67, 68, 69, 52, 70, 54, 55, 71, 72, 73, 74, 75, 76, 77, 78, 79, 80, 81, 82, 83, 84, 85, 86, 87, 88, 89, 90, 91, 92, 93, 94, 95, 96, 97, 98, 99, 100, 101, 102, 103, 104, 105, 106, 107, 108, 109, 110, 111, 112, 113, 114, 115, 116, 117, 8, 23, 118, 119, 120, 121, 4, 122, 123, 124, 125, 126, 127, 128, 129, 130, 131, 132, 133, 134, 135, 136, 137, 138, 139, 140, 141, 142, 143, 144, 145, 146, 147, 148, 149, 150, 151, 152, 153, 14, 154, 155, 156, 26, 157, 43, 40, 39, 42, 177, 178, 179, 180, 181, 182, 183, 184, 185, 186, 187, 188, 189, 190, 191, 210, 211, 212, 192, 193, 194, 195, 196, 197, 198, 199, 200, 201, 202, 203, 204, 205, 213, 214, 215, 216, 217, 206, 207, 208, 209] (by decide +kernel) (by decide +kernel)
set_option maxRecDepth 20000 in
theorem gX7_solveAll_X7_enter : GoodIn wsX7_solveAll (wsV RX7 103 RX7 yX7_enter wsX7_enter) := goodIn_app (goodIn_of _ (by decide +kernel)) ggX7_solveAll_X7_enter
set_option maxRecDepth 20000 in
theorem ggX7_solveAll_X7_nextDigits : GoodIn wsX7_solveAll wsX7_nextDigits := goodIn_r _ [161, 5, 7, 177, 178, 179, 180, 181, 182, 183, 184, 185, 186, 187, 188, 189, 190, 191, 192, 193, 194, 195, 196, 197, 198, 199, 200, 201, 202, 203, 204, 205] (by decide +kernel) (by decide +kernel)
set_option maxRecDepth 20000 in
theorem gX7_solveAll_X7_nextDigits : GoodIn wsX7_solveAll (wsV RX7 106 RX7 yX7_nextDigits wsX7_nextDigits) := goodIn_app (goodIn_of _ (by decide +kernel)) ggX7_solveAll_X7_nextDigits
set_option maxRecDepth 20000 in
theorem ggX7_solveAll_X7_spread : GoodIn wsX7_solveAll wsX7_spread := goodIn_r _ [165, 8, 23, 4, 19, 21, 166, 167, 168, 12, 169, 22, 114, 115, 116, 117, 177, 178, 179, 180, 181, 182, 183, 184, 185, 186, 187, 188, 189, 190, 191, 206, 207, 208, 209] (by decide +kernel) (by decide +kernel)
set_option maxRecDepth 20000 in
theorem gX7_solveAll_X7_spread : GoodIn wsX7_solveAll (wsV RX7 109 RX7 yX7_spread wsX7_spread) := goodIn_app (goodIn_of _ (by decide +kernel)) ggX7_solveAll_X7_spread
set_option maxRecDepth 20000 in
theorem ggX7_solveAll_X7_tallyUp : GoodIn wsX7_solveAll wsX7_tallyUp := goodIn_r _ [173, 174, 175, 3, 19, 21, 176, 33, 30, 34, 58, 46, 47, 48, 177, 178, 179, 180, 181, 182, 183, 184, 185, 186, 187, 188, 189, 190, 191] (by decide +kernel) (by decide +kernel)
set_option maxRecDepth 20000 in
theorem gX7_solveAll_X7_tallyUp : GoodIn wsX7_solveAll (wsV RX7 112 RX7 yX7_tallyUp wsX7_tallyUp) := goodIn_app (goodIn_of _ (by decide +kernel)) ggX7_solveAll_X7_tallyUp
theorem dX7_solveAll_0 : decode cX7_solveAll 0 = .ok (.aload_n 0, 1) := by decide +kernel
theorem dX7_solveAll_1 : decode cX7_solveAll 1 = .ok (.getfield 54, 3) := by decide +kernel
theorem dX7_solveAll_4 : decode cX7_solveAll 4 = .ok (.ifCond .eq 8, 3) := by decide +kernel
theorem dX7_solveAll_7 : decode cX7_solveAll 7 = .ok (.aload_n 0, 1) := by decide +kernel
theorem dX7_solveAll_8 : decode cX7_solveAll 8 = .ok (.getfield 58, 3) := by decide +kernel
theorem dX7_solveAll_11 : decode cX7_solveAll 11 = .ok (.ireturn, 1) := by decide +kernel
theorem dX7_solveAll_12 : decode cX7_solveAll 12 = .ok (.aload_n 0, 1) := by decide +kernel
theorem dX7_solveAll_13 : decode cX7_solveAll 13 = .ok (.invokevirtual 62, 3) := by decide +kernel
theorem dX7_solveAll_16 : decode cX7_solveAll 16 = .ok (.ifCond .ne 5, 3) := by decide +kernel
theorem dX7_solveAll_19 : decode cX7_solveAll 19 = .ok (.iconst (-1), 1) := by decide +kernel
theorem dX7_solveAll_20 : decode cX7_solveAll 20 = .ok (.ireturn, 1) := by decide +kernel
theorem dX7_solveAll_21 : decode cX7_solveAll 21 = .ok (.aload_n 0, 1) := by decide +kernel
theorem dX7_solveAll_22 : decode cX7_solveAll 22 = .ok (.iconst 2, 1) := by decide +kernel
theorem dX7_solveAll_23 : decode cX7_solveAll 23 = .ok (.aload_n 0, 1) := by decide +kernel
theorem dX7_solveAll_24 : decode cX7_solveAll 24 = .ok (.getfield 66, 3) := by decide +kernel
theorem dX7_solveAll_27 : decode cX7_solveAll 27 = .ok (.imul, 1) := by decide +kernel
theorem dX7_solveAll_28 : decode cX7_solveAll 28 = .ok (.invokevirtual 69, 3) := by decide +kernel
theorem dX7_solveAll_31 : decode cX7_solveAll 31 = .ok (.aload_n 0, 1) := by decide +kernel
theorem dX7_solveAll_32 : decode cX7_solveAll 32 = .ok (.getfield 21, 3) := by decide +kernel
theorem dX7_solveAll_35 : decode cX7_solveAll 35 = .ok (.iconst 2, 1) := by decide +kernel
theorem dX7_solveAll_36 : decode cX7_solveAll 36 = .ok (.aload_n 0, 1) := by decide +kernel
theorem dX7_solveAll_37 : decode cX7_solveAll 37 = .ok (.getfield 66, 3) := by decide +kernel
theorem dX7_solveAll_40 : decode cX7_solveAll 40 = .ok (.imul, 1) := by decide +kernel
theorem dX7_solveAll_41 : decode cX7_solveAll 41 = .ok (.aload_n 0, 1) := by decide +kernel
theorem dX7_solveAll_42 : decode cX7_solveAll 42 = .ok (.getfield 66, 3) := by decide +kernel
theorem dX7_solveAll_45 : decode cX7_solveAll 45 = .ok (.aload_n 0, 1) := by decide +kernel
theorem dX7_solveAll_46 : decode cX7_solveAll 46 = .ok (.getfield 50, 3) := by decide +kernel
theorem dX7_solveAll_49 : decode cX7_solveAll 49 = .ok (.getfield 73, 3) := by decide +kernel
theorem dX7_solveAll_52 : decode cX7_solveAll 52 = .ok (.imul, 1) := by decide +kernel
theorem dX7_solveAll_53 : decode cX7_solveAll 53 = .ok (.aload_n 0, 1) := by decide +kernel
theorem dX7_solveAll_54 : decode cX7_solveAll 54 = .ok (.getfield 50, 3) := by decide +kernel
theorem dX7_solveAll_57 : decode cX7_solveAll 57 = .ok (.getfield 78, 3) := by decide +kernel
theorem dX7_solveAll_60 : decode cX7_solveAll 60 = .ok (.getfield 82, 3) := by decide +kernel
theorem dX7_solveAll_63 : decode cX7_solveAll 63 = .ok (.imul, 1) := by decide +kernel
theorem dX7_solveAll_64 : decode cX7_solveAll 64 = .ok (.invokevirtual 87, 3) := by decide +kernel
theorem dX7_solveAll_67 : decode cX7_solveAll 67 = .ok (.aload_n 0, 1) := by decide +kernel
theorem dX7_solveAll_68 : decode cX7_solveAll 68 = .ok (.getfield 12, 3) := by decide +kernel
theorem dX7_solveAll_71 : decode cX7_solveAll 71 = .ok (.invokevirtual 91, 3) := by decide +kernel
theorem dX7_solveAll_74 : decode cX7_solveAll 74 = .ok (.aload_n 0, 1) := by decide +kernel
theorem dX7_solveAll_75 : decode cX7_solveAll 75 = .ok (.getfield 29, 3) := by decide +kernel
theorem dX7_solveAll_78 : decode cX7_solveAll 78 = .ok (.iconst 0, 1) := by decide +kernel
theorem dX7_solveAll_79 : decode cX7_solveAll 79 = .ok (.invokestatic 94, 3) := by decide +kernel
theorem dX7_solveAll_82 : decode cX7_solveAll 82 = .ok (.aload_n 0, 1) := by decide +kernel
theorem dX7_solveAll_83 : decode cX7_solveAll 83 = .ok (.iconst 0, 1) := by decide +kernel
theorem dX7_solveAll_84 : decode cX7_solveAll 84 = .ok (.putfield 100, 3) := by decide +kernel
theorem dX7_solveAll_87 : decode cX7_solveAll 87 = .ok (.aload_n 0, 1) := by decide +kernel
theorem dX7_solveAll_88 : decode cX7_solveAll 88 = .ok (.iconst 0, 1) := by decide +kernel
theorem dX7_solveAll_89 : decode cX7_solveAll 89 = .ok (.putfield 58, 3) := by decide +kernel
theorem dX7_solveAll_92 : decode cX7_solveAll 92 = .ok (.iconst 0, 1) := by decide +kernel
theorem dX7_solveAll_93 : decode cX7_solveAll 93 = .ok (.istore_n 1, 1) := by decide +kernel
theorem dX7_solveAll_94 : decode cX7_solveAll 94 = .ok (.iload_n 1, 1) := by decide +kernel
theorem dX7_solveAll_95 : decode cX7_solveAll 95 = .ok (.aload_n 0, 1) := by decide +kernel
theorem dX7_solveAll_96 : decode cX7_solveAll 96 = .ok (.getfield 66, 3) := by decide +kernel
theorem dX7_solveAll_99 : decode cX7_solveAll 99 = .ok (.if_icmp .ge 20, 3) := by decide +kernel
theorem dX7_solveAll_102 : decode cX7_solveAll 102 = .ok (.aload_n 0, 1) := by decide +kernel
theorem dX7_solveAll_103 : decode cX7_solveAll 103 = .ok (.iconst 2, 1) := by decide +kernel
theorem dX7_solveAll_104 : decode cX7_solveAll 104 = .ok (.iload_n 1, 1) := by decide +kernel
theorem dX7_solveAll_105 : decode cX7_solveAll 105 = .ok (.imul, 1) := by decide +kernel
theorem dX7_solveAll_106 : decode cX7_solveAll 106 = .ok (.invokevirtual 103, 3) := by decide +kernel
theorem dX7_solveAll_109 : decode cX7_solveAll 109 = .ok (.aload_n 0, 1) := by decide +kernel
theorem dX7_solveAll_110 : decode cX7_solveAll 110 = .ok (.invokevirtual 106, 3) := by decide +kernel
theorem dX7_solveAll_113 : decode cX7_solveAll 113 = .ok (.iinc 1 1, 3) := by decide +kernel
theorem dX7_solveAll_116 : decode cX7_solveAll 116 = .ok (.goto (-22), 3) := by decide +kernel
theorem dX7_solveAll_119 : decode cX7_solveAll 119 = .ok (.aload_n 0, 1) := by decide +kernel
theorem dX7_solveAll_120 : decode cX7_solveAll 120 = .ok (.invokevirtual 109, 3) := by decide +kernel
theorem dX7_solveAll_123 : decode cX7_solveAll 123 = .ok (.aload_n 0, 1) := by decide +kernel
theorem dX7_solveAll_124 : decode cX7_solveAll 124 = .ok (.invokevirtual 112, 3) := by decide +kernel
theorem dX7_solveAll_127 : decode cX7_solveAll 127 = .ok (.aload_n 0, 1) := by decide +kernel
theorem dX7_solveAll_128 : decode cX7_solveAll 128 = .ok (.iconst 1, 1) := by decide +kernel
theorem dX7_solveAll_129 : decode cX7_solveAll 129 = .ok (.putfield 54, 3) := by decide +kernel
theorem dX7_solveAll_132 : decode cX7_solveAll 132 = .ok (.aload_n 0, 1) := by decide +kernel
theorem dX7_solveAll_133 : decode cX7_solveAll 133 = .ok (.getfield 58, 3) := by decide +kernel
theorem dX7_solveAll_136 : decode cX7_solveAll 136 = .ok (.ireturn, 1) := by decide +kernel
theorem dX7_measure_0 : decode cX7_measure 0 = .ok (.iconst 1, 1) := by decide +kernel
theorem dX7_measure_1 : decode cX7_measure 1 = .ok (.istore_n 1, 1) := by decide +kernel
theorem dX7_measure_2 : decode cX7_measure 2 = .ok (.iconst 0, 1) := by decide +kernel
theorem dX7_measure_3 : decode cX7_measure 3 = .ok (.istore_n 2, 1) := by decide +kernel
theorem dX7_measure_4 : decode cX7_measure 4 = .ok (.iload_n 2, 1) := by decide +kernel
theorem dX7_measure_5 : decode cX7_measure 5 = .ok (.aload_n 0, 1) := by decide +kernel
theorem dX7_measure_6 : decode cX7_measure 6 = .ok (.getfield 50, 3) := by decide +kernel
theorem dX7_measure_9 : decode cX7_measure 9 = .ok (.getfield 73, 3) := by decide +kernel
theorem dX7_measure_12 : decode cX7_measure 12 = .ok (.if_icmp .ge 42, 3) := by decide +kernel
theorem dX7_measure_15 : decode cX7_measure 15 = .ok (.aload_n 0, 1) := by decide +kernel
theorem dX7_measure_16 : decode cX7_measure 16 = .ok (.getfield 25, 3) := by decide +kernel
theorem dX7_measure_19 : decode cX7_measure 19 = .ok (.iload_n 2, 1) := by decide +kernel
theorem dX7_measure_20 : decode cX7_measure 20 = .ok (.iload_n 1, 1) := by decide +kernel
theorem dX7_measure_21 : decode cX7_measure 21 = .ok (.iastore, 1) := by decide +kernel
theorem dX7_measure_22 : decode cX7_measure 22 = .ok (.iload_n 1, 1) := by decide +kernel
theorem dX7_measure_23 : decode cX7_measure 23 = .ok (.aload_n 0, 1) := by decide +kernel
theorem dX7_measure_24 : decode cX7_measure 24 = .ok (.getfield 50, 3) := by decide +kernel
theorem dX7_measure_27 : decode cX7_measure 27 = .ok (.getfield 78, 3) := by decide +kernel
theorem dX7_measure_30 : decode cX7_measure 30 = .ok (.getfield 115, 3) := by decide +kernel
theorem dX7_measure_33 : decode cX7_measure 33 = .ok (.iconst 1, 1) := by decide +kernel
theorem dX7_measure_34 : decode cX7_measure 34 = .ok (.iadd, 1) := by decide +kernel
theorem dX7_measure_35 : decode cX7_measure 35 = .ok (.imul, 1) := by decide +kernel
theorem dX7_measure_36 : decode cX7_measure 36 = .ok (.istore_n 1, 1) := by decide +kernel
theorem dX7_measure_37 : decode cX7_measure 37 = .ok (.iconst 2, 1) := by decide +kernel
theorem dX7_measure_38 : decode cX7_measure 38 = .ok (.iload_n 1, 1) := by decide +kernel
theorem dX7_measure_39 : decode cX7_measure 39 = .ok (.imul, 1) := by decide +kernel
theorem dX7_measure_40 : decode cX7_measure 40 = .ok (.sipush 10000, 3) := by decide +kernel
theorem dX7_measure_43 : decode cX7_measure 43 = .ok (.if_icmp .le 5, 3) := by decide +kernel
theorem dX7_measure_46 : decode cX7_measure 46 = .ok (.iconst 0, 1) := by decide +kernel
theorem dX7_measure_47 : decode cX7_measure 47 = .ok (.ireturn, 1) := by decide +kernel
theorem dX7_measure_48 : decode cX7_measure 48 = .ok (.iinc 2 1, 3) := by decide +kernel
theorem dX7_measure_51 : decode cX7_measure 51 = .ok (.goto (-47), 3) := by decide +kernel
theorem dX7_measure_54 : decode cX7_measure 54 = .ok (.aload_n 0, 1) := by decide +kernel
theorem dX7_measure_55 : decode cX7_measure 55 = .ok (.iload_n 1, 1) := by decide +kernel
theorem dX7_measure_56 : decode cX7_measure 56 = .ok (.putfield 66, 3) := by decide +kernel
theorem dX7_measure_59 : decode cX7_measure 59 = .ok (.iconst 1, 1) := by decide +kernel
theorem dX7_measure_60 : decode cX7_measure 60 = .ok (.ireturn, 1) := by decide +kernel
set_option maxRecDepth 20000 in
theorem ggX7_makeRoom_X2_roomFor : GoodIn wsX7_makeRoom wsX2_roomFor := goodIn_r _ [9, 10, 11, 12, 13, 14, 15, 16] (by decide +kernel) (by decide +kernel)
set_option maxRecDepth 20000 in
theorem gX7_makeRoom_X2_roomFor : GoodIn wsX7_makeRoom (va_wsS RX7 118 yX2_roomFor wsX2_roomFor) := goodIn_app (goodIn_of _ (by decide +kernel)) ggX7_makeRoom_X2_roomFor
theorem dX7_makeRoom_0 : decode cX7_makeRoom 0 = .ok (.aload_n 0, 1) := by decide +kernel
theorem dX7_makeRoom_1 : decode cX7_makeRoom 1 = .ok (.getfield 38, 3) := by decide +kernel
theorem dX7_makeRoom_4 : decode cX7_makeRoom 4 = .ok (.arraylength, 1) := by decide +kernel
theorem dX7_makeRoom_5 : decode cX7_makeRoom 5 = .ok (.iload_n 1, 1) := by decide +kernel
theorem dX7_makeRoom_6 : decode cX7_makeRoom 6 = .ok (.if_icmp .ge 44, 3) := by decide +kernel
theorem dX7_makeRoom_9 : decode cX7_makeRoom 9 = .ok (.iload_n 1, 1) := by decide +kernel
theorem dX7_makeRoom_10 : decode cX7_makeRoom 10 = .ok (.aload_n 0, 1) := by decide +kernel
theorem dX7_makeRoom_11 : decode cX7_makeRoom 11 = .ok (.getfield 38, 3) := by decide +kernel
theorem dX7_makeRoom_14 : decode cX7_makeRoom 14 = .ok (.arraylength, 1) := by decide +kernel
theorem dX7_makeRoom_15 : decode cX7_makeRoom 15 = .ok (.sipush 10000, 3) := by decide +kernel
theorem dX7_makeRoom_18 : decode cX7_makeRoom 18 = .ok (.invokestatic 118, 3) := by decide +kernel
theorem dX7_makeRoom_21 : decode cX7_makeRoom 21 = .ok (.istore_n 2, 1) := by decide +kernel
theorem dX7_makeRoom_22 : decode cX7_makeRoom 22 = .ok (.aload_n 0, 1) := by decide +kernel
theorem dX7_makeRoom_23 : decode cX7_makeRoom 23 = .ok (.iload_n 2, 1) := by decide +kernel
theorem dX7_makeRoom_24 : decode cX7_makeRoom 24 = .ok (.newarray .int, 2) := by decide +kernel
theorem dX7_makeRoom_26 : decode cX7_makeRoom 26 = .ok (.putfield 38, 3) := by decide +kernel
theorem dX7_makeRoom_29 : decode cX7_makeRoom 29 = .ok (.aload_n 0, 1) := by decide +kernel
theorem dX7_makeRoom_30 : decode cX7_makeRoom 30 = .ok (.iload_n 2, 1) := by decide +kernel
theorem dX7_makeRoom_31 : decode cX7_makeRoom 31 = .ok (.newarray .int, 2) := by decide +kernel
theorem dX7_makeRoom_33 : decode cX7_makeRoom 33 = .ok (.putfield 41, 3) := by decide +kernel
theorem dX7_makeRoom_36 : decode cX7_makeRoom 36 = .ok (.aload_n 0, 1) := by decide +kernel
theorem dX7_makeRoom_37 : decode cX7_makeRoom 37 = .ok (.iload_n 2, 1) := by decide +kernel
theorem dX7_makeRoom_38 : decode cX7_makeRoom 38 = .ok (.newarray .int, 2) := by decide +kernel
theorem dX7_makeRoom_40 : decode cX7_makeRoom 40 = .ok (.putfield 44, 3) := by decide +kernel
theorem dX7_makeRoom_43 : decode cX7_makeRoom 43 = .ok (.aload_n 0, 1) := by decide +kernel
theorem dX7_makeRoom_44 : decode cX7_makeRoom 44 = .ok (.iload_n 2, 1) := by decide +kernel
theorem dX7_makeRoom_45 : decode cX7_makeRoom 45 = .ok (.newarray .int, 2) := by decide +kernel
theorem dX7_makeRoom_47 : decode cX7_makeRoom 47 = .ok (.putfield 47, 3) := by decide +kernel
theorem dX7_makeRoom_50 : decode cX7_makeRoom 50 = .ok (.return_, 1) := by decide +kernel
theorem dX7_nextDigits_0 : decode cX7_nextDigits 0 = .ok (.iconst 0, 1) := by decide +kernel
theorem dX7_nextDigits_1 : decode cX7_nextDigits 1 = .ok (.istore_n 1, 1) := by decide +kernel
theorem dX7_nextDigits_2 : decode cX7_nextDigits 2 = .ok (.iload_n 1, 1) := by decide +kernel
theorem dX7_nextDigits_3 : decode cX7_nextDigits 3 = .ok (.aload_n 0, 1) := by decide +kernel
theorem dX7_nextDigits_4 : decode cX7_nextDigits 4 = .ok (.getfield 50, 3) := by decide +kernel
theorem dX7_nextDigits_7 : decode cX7_nextDigits 7 = .ok (.getfield 73, 3) := by decide +kernel
theorem dX7_nextDigits_10 : decode cX7_nextDigits 10 = .ok (.if_icmp .ge 46, 3) := by decide +kernel
theorem dX7_nextDigits_13 : decode cX7_nextDigits 13 = .ok (.aload_n 0, 1) := by decide +kernel
theorem dX7_nextDigits_14 : decode cX7_nextDigits 14 = .ok (.getfield 29, 3) := by decide +kernel
theorem dX7_nextDigits_17 : decode cX7_nextDigits 17 = .ok (.iload_n 1, 1) := by decide +kernel
theorem dX7_nextDigits_18 : decode cX7_nextDigits 18 = .ok (.dup2, 1) := by decide +kernel
theorem dX7_nextDigits_19 : decode cX7_nextDigits 19 = .ok (.iaload, 1) := by decide +kernel
theorem dX7_nextDigits_20 : decode cX7_nextDigits 20 = .ok (.iconst 1, 1) := by decide +kernel
theorem dX7_nextDigits_21 : decode cX7_nextDigits 21 = .ok (.iadd, 1) := by decide +kernel
theorem dX7_nextDigits_22 : decode cX7_nextDigits 22 = .ok (.iastore, 1) := by decide +kernel
theorem dX7_nextDigits_23 : decode cX7_nextDigits 23 = .ok (.aload_n 0, 1) := by decide +kernel
theorem dX7_nextDigits_24 : decode cX7_nextDigits 24 = .ok (.getfield 29, 3) := by decide +kernel
theorem dX7_nextDigits_27 : decode cX7_nextDigits 27 = .ok (.iload_n 1, 1) := by decide +kernel
theorem dX7_nextDigits_28 : decode cX7_nextDigits 28 = .ok (.iaload, 1) := by decide +kernel
theorem dX7_nextDigits_29 : decode cX7_nextDigits 29 = .ok (.aload_n 0, 1) := by decide +kernel
theorem dX7_nextDigits_30 : decode cX7_nextDigits 30 = .ok (.getfield 50, 3) := by decide +kernel
theorem dX7_nextDigits_33 : decode cX7_nextDigits 33 = .ok (.getfield 78, 3) := by decide +kernel
theorem dX7_nextDigits_36 : decode cX7_nextDigits 36 = .ok (.getfield 115, 3) := by decide +kernel
theorem dX7_nextDigits_39 : decode cX7_nextDigits 39 = .ok (.if_icmp .gt 4, 3) := by decide +kernel
theorem dX7_nextDigits_42 : decode cX7_nextDigits 42 = .ok (.return_, 1) := by decide +kernel
theorem dX7_nextDigits_43 : decode cX7_nextDigits 43 = .ok (.aload_n 0, 1) := by decide +kernel
theorem dX7_nextDigits_44 : decode cX7_nextDigits 44 = .ok (.getfield 29, 3) := by decide +kernel
theorem dX7_nextDigits_47 : decode cX7_nextDigits 47 = .ok (.iload_n 1, 1) := by decide +kernel
theorem dX7_nextDigits_48 : decode cX7_nextDigits 48 = .ok (.iconst 0, 1) := by decide +kernel
theorem dX7_nextDigits_49 : decode cX7_nextDigits 49 = .ok (.iastore, 1) := by decide +kernel
theorem dX7_nextDigits_50 : decode cX7_nextDigits 50 = .ok (.iinc 1 1, 3) := by decide +kernel
theorem dX7_nextDigits_53 : decode cX7_nextDigits 53 = .ok (.goto (-51), 3) := by decide +kernel
theorem dX7_nextDigits_56 : decode cX7_nextDigits 56 = .ok (.return_, 1) := by decide +kernel
set_option maxRecDepth 20000 in
theorem ggX7_enter_X7_setUp : GoodIn wsX7_enter wsX7_setUp := goodIn_r _ [11, 6, 5, 12, 13, 14, 15, 16, 17, 18, 19, 20, 21, 22, 23, 24, 25, 26, 27, 28, 29, 30, 116, 117, 118, 119, 120, 121, 122, 123, 124, 125, 126, 127, 128, 129, 130, 134, 135, 136, 137, 138, 139, 140, 141, 142, 143, 144, 145, 146, 147, 131, 132, 133] (by decide +kernel) (by decide +kernel)
set_option maxRecDepth 20000 in
theorem gX7_enter_X7_setUp : GoodIn wsX7_enter (wsV RX7 122 RX7 yX7_setUp wsX7_setUp) := goodIn_app (goodIn_of _ (by decide +kernel)) ggX7_enter_X7_setUp
set_option maxRecDepth 20000 in
theorem ggX7_enter_X6_winner : GoodIn wsX7_enter wsX6_winner := goodIn_r _ [34, 29, 35, 36, 37, 16, 38, 18, 39, 40, 41, 27, 42, 30, 43, 44, 45, 46, 47, 48, 49, 50, 51, 52, 53, 54, 55, 56, 57, 58, 59, 60, 61, 21, 22, 23, 19, 62, 25, 26, 28, 134, 135, 136, 137, 138, 139, 140, 141, 142, 131, 132, 133, 143, 144, 145, 146, 147, 148, 149, 150, 151, 152] (by decide +kernel) (by decide +kernel)
set_option maxRecDepth 20000 in
theorem gX7_enter_X6_winner : GoodIn wsX7_enter (wsV RX7 128 RX6 yX6_winner wsX6_winner) := goodIn_app (goodIn_of _ (by decide +kernel)) ggX7_enter_X6_winner
set_option maxRecDepth 20000 in
theorem ggX7_enter_X7_decide : GoodIn wsX7_enter wsX7_decide := goodIn_r _ [66, 67, 68, 1, 2, 116, 117, 118, 119, 120, 121, 122, 123, 124, 125, 126, 127, 128, 129, 130] (by decide +kernel) (by decide +kernel)
set_option maxRecDepth 20000 in
theorem gX7_enter_X7_decide : GoodIn wsX7_enter (wsV RX7 132 RX7 yX7_decide wsX7_decide) := goodIn_app (goodIn_of _ (by decide +kernel)) ggX7_enter_X7_decide
set_option maxRecDepth 20000 in
theorem ggX7_enter_X7_linkMoves : GoodIn wsX7_enter wsX7_linkMoves := goodIn_r _ [72, 6, 5, 73, 3, 74, 50, 51, 27, 52, 29, 53, 30, 35, 36, 37, 16, 38, 18, 54, 55, 56, 57, 58, 59, 60, 61, 21, 22, 23, 19, 62, 25, 26, 28, 75, 76, 77, 78, 79, 80, 81, 82, 48, 83, 84, 85, 86, 47, 87, 14, 15, 17, 88, 89, 90, 91, 92, 93, 94, 95, 96, 97, 98, 99, 100, 101, 102, 103, 104, 10, 105, 106, 107, 108, 109, 110, 111, 112, 113, 114, 115, 116, 117, 118, 119, 120, 121, 122, 123, 124, 125, 126, 127, 128, 129, 130, 134, 135, 136, 137, 138, 139, 140, 141, 142, 131, 132, 133, 148, 149, 150, 151, 152, 143, 144, 145, 146, 147, 153, 154, 155, 156] (by decide +kernel) (by decide +kernel)
set_option maxRecDepth 20000 in
theorem gX7_enter_X7_linkMoves : GoodIn wsX7_enter (wsV RX7 136 RX7 yX7_linkMoves wsX7_linkMoves) := goodIn_app (goodIn_of _ (by decide +kernel)) ggX7_enter_X7_linkMoves
theorem dX7_enter_0 : decode cX7_enter 0 = .ok (.aload_n 0, 1) := by decide +kernel
theorem dX7_enter_1 : decode cX7_enter 1 = .ok (.invokevirtual 122, 3) := by decide +kernel
theorem dX7_enter_4 : decode cX7_enter 4 = .ok (.istore_n 2, 1) := by decide +kernel
theorem dX7_enter_5 : decode cX7_enter 5 = .ok (.iconst 0, 1) := by decide +kernel
theorem dX7_enter_6 : decode cX7_enter 6 = .ok (.istore_n 3, 1) := by decide +kernel
theorem dX7_enter_7 : decode cX7_enter 7 = .ok (.iload_n 3, 1) := by decide +kernel
theorem dX7_enter_8 : decode cX7_enter 8 = .ok (.iconst 2, 1) := by decide +kernel
theorem dX7_enter_9 : decode cX7_enter 9 = .ok (.if_icmp .ge 108, 3) := by decide +kernel
theorem dX7_enter_12 : decode cX7_enter 12 = .ok (.iload_n 1, 1) := by decide +kernel
theorem dX7_enter_13 : decode cX7_enter 13 = .ok (.iload_n 3, 1) := by decide +kernel
theorem dX7_enter_14 : decode cX7_enter 14 = .ok (.iadd, 1) := by decide +kernel
theorem dX7_enter_15 : decode cX7_enter 15 = .ok (.istore 4, 2) := by decide +kernel
theorem dX7_enter_17 : decode cX7_enter 17 = .ok (.aload_n 0, 1) := by decide +kernel
theorem dX7_enter_18 : decode cX7_enter 18 = .ok (.getfield 38, 3) := by decide +kernel
theorem dX7_enter_21 : decode cX7_enter 21 = .ok (.iload 4, 2) := by decide +kernel
theorem dX7_enter_23 : decode cX7_enter 23 = .ok (.iload_n 2, 1) := by decide +kernel
theorem dX7_enter_24 : decode cX7_enter 24 = .ok (.ifCond .eq 7, 3) := by decide +kernel
theorem dX7_enter_27 : decode cX7_enter 27 = .ok (.iconst 2, 1) := by decide +kernel
theorem dX7_enter_28 : decode cX7_enter 28 = .ok (.goto 4, 3) := by decide +kernel
theorem dX7_enter_31 : decode cX7_enter 31 = .ok (.iconst (-1), 1) := by decide +kernel
theorem dX7_enter_32 : decode cX7_enter 32 = .ok (.iastore, 1) := by decide +kernel
theorem dX7_enter_33 : decode cX7_enter 33 = .ok (.aload_n 0, 1) := by decide +kernel
theorem dX7_enter_34 : decode cX7_enter 34 = .ok (.getfield 41, 3) := by decide +kernel
theorem dX7_enter_37 : decode cX7_enter 37 = .ok (.iload 4, 2) := by decide +kernel
theorem dX7_enter_39 : decode cX7_enter 39 = .ok (.iconst 0, 1) := by decide +kernel
theorem dX7_enter_40 : decode cX7_enter 40 = .ok (.iastore, 1) := by decide +kernel
theorem dX7_enter_41 : decode cX7_enter 41 = .ok (.aload_n 0, 1) := by decide +kernel
theorem dX7_enter_42 : decode cX7_enter 42 = .ok (.getfield 44, 3) := by decide +kernel
theorem dX7_enter_45 : decode cX7_enter 45 = .ok (.iload 4, 2) := by decide +kernel
theorem dX7_enter_47 : decode cX7_enter 47 = .ok (.iconst 0, 1) := by decide +kernel
theorem dX7_enter_48 : decode cX7_enter 48 = .ok (.iastore, 1) := by decide +kernel
theorem dX7_enter_49 : decode cX7_enter 49 = .ok (.iload_n 2, 1) := by decide +kernel
theorem dX7_enter_50 : decode cX7_enter 50 = .ok (.ifCond .ne 6, 3) := by decide +kernel
theorem dX7_enter_53 : decode cX7_enter 53 = .ok (.goto 58, 3) := by decide +kernel
theorem dX7_enter_56 : decode cX7_enter 56 = .ok (.aload_n 0, 1) := by decide +kernel
theorem dX7_enter_57 : decode cX7_enter 57 = .ok (.dup, 1) := by decide +kernel
theorem dX7_enter_58 : decode cX7_enter 58 = .ok (.getfield 58, 3) := by decide +kernel
theorem dX7_enter_61 : decode cX7_enter 61 = .ok (.iconst 1, 1) := by decide +kernel
theorem dX7_enter_62 : decode cX7_enter 62 = .ok (.iadd, 1) := by decide +kernel
theorem dX7_enter_63 : decode cX7_enter 63 = .ok (.putfield 58, 3) := by decide +kernel
theorem dX7_enter_66 : decode cX7_enter 66 = .ok (.aload_n 0, 1) := by decide +kernel
theorem dX7_enter_67 : decode cX7_enter 67 = .ok (.getfield 12, 3) := by decide +kernel
theorem dX7_enter_70 : decode cX7_enter 70 = .ok (.iload_n 3, 1) := by decide +kernel
theorem dX7_enter_71 : decode cX7_enter 71 = .ok (.putfield 125, 3) := by decide +kernel
theorem dX7_enter_74 : decode cX7_enter 74 = .ok (.aload_n 0, 1) := by decide +kernel
theorem dX7_enter_75 : decode cX7_enter 75 = .ok (.getfield 50, 3) := by decide +kernel
theorem dX7_enter_78 : decode cX7_enter 78 = .ok (.aload_n 0, 1) := by decide +kernel
theorem dX7_enter_79 : decode cX7_enter 79 = .ok (.getfield 12, 3) := by decide +kernel
theorem dX7_enter_82 : decode cX7_enter 82 = .ok (.invokevirtual 128, 3) := by decide +kernel
theorem dX7_enter_85 : decode cX7_enter 85 = .ok (.istore 5, 2) := by decide +kernel
theorem dX7_enter_87 : decode cX7_enter 87 = .ok (.iload 5, 2) := by decide +kernel
theorem dX7_enter_89 : decode cX7_enter 89 = .ok (.iconst (-1), 1) := by decide +kernel
theorem dX7_enter_90 : decode cX7_enter 90 = .ok (.if_icmp .eq 15, 3) := by decide +kernel
theorem dX7_enter_93 : decode cX7_enter 93 = .ok (.aload_n 0, 1) := by decide +kernel
theorem dX7_enter_94 : decode cX7_enter 94 = .ok (.iload 4, 2) := by decide +kernel
theorem dX7_enter_96 : decode cX7_enter 96 = .ok (.iload 5, 2) := by decide +kernel
theorem dX7_enter_98 : decode cX7_enter 98 = .ok (.iconst 0, 1) := by decide +kernel
theorem dX7_enter_99 : decode cX7_enter 99 = .ok (.invokevirtual 132, 3) := by decide +kernel
theorem dX7_enter_102 : decode cX7_enter 102 = .ok (.goto 9, 3) := by decide +kernel
theorem dX7_enter_105 : decode cX7_enter 105 = .ok (.aload_n 0, 1) := by decide +kernel
theorem dX7_enter_106 : decode cX7_enter 106 = .ok (.iload 4, 2) := by decide +kernel
theorem dX7_enter_108 : decode cX7_enter 108 = .ok (.invokevirtual 136, 3) := by decide +kernel
theorem dX7_enter_111 : decode cX7_enter 111 = .ok (.iinc 3 1, 3) := by decide +kernel
theorem dX7_enter_114 : decode cX7_enter 114 = .ok (.goto (-107), 3) := by decide +kernel
theorem dX7_enter_117 : decode cX7_enter 117 = .ok (.return_, 1) := by decide +kernel
set_option maxRecDepth 20000 in
theorem ggX7_setUp_X8_place : GoodIn wsX7_setUp wsX8_place := goodIn_r _ [8, 9, 10, 51, 52, 53] (by decide +kernel) (by decide +kernel)
set_option maxRecDepth 20000 in
theorem gX7_setUp_X8_place : GoodIn wsX7_setUp (wsV RX7 139 RX8 yX8_place wsX8_place) := goodIn_app (goodIn_of _ (by decide +kernel)) ggX7_setUp_X8_place
set_option maxRecDepth 20000 in
theorem ggX7_setUp_X8_holderOf : GoodIn wsX7_setUp wsX8_holderOf := goodIn_r _ [14, 10, 51, 52, 53] (by decide +kernel) (by decide +kernel)
set_option maxRecDepth 20000 in
theorem gX7_setUp_X8_holderOf : GoodIn wsX7_setUp (wsV RX7 142 RX8 yX8_holderOf wsX8_holderOf) := goodIn_app (goodIn_of _ (by decide +kernel)) ggX7_setUp_X8_holderOf
set_option maxRecDepth 20000 in
theorem ggX7_setUp_X6_bears : GoodIn wsX7_setUp wsX6_bears := goodIn_r _ [19, 20, 21, 37, 38, 39, 40, 41, 42, 43, 44, 45, 46, 47, 48, 49, 50] (by decide +kernel) (by decide +kernel)
set_option maxRecDepth 20000 in
theorem gX7_setUp_X6_bears : GoodIn wsX7_setUp (wsV RX7 146 RX6 yX6_bears wsX6_bears) := goodIn_app (goodIn_of _ (by decide +kernel)) ggX7_setUp_X6_bears
theorem dX7_setUp_0 : decode cX7_setUp 0 = .ok (.iconst 0, 1) := by decide +kernel
theorem dX7_setUp_1 : decode cX7_setUp 1 = .ok (.istore_n 1, 1) := by decide +kernel
theorem dX7_setUp_2 : decode cX7_setUp 2 = .ok (.iload_n 1, 1) := by decide +kernel
theorem dX7_setUp_3 : decode cX7_setUp 3 = .ok (.aload_n 0, 1) := by decide +kernel
theorem dX7_setUp_4 : decode cX7_setUp 4 = .ok (.getfield 50, 3) := by decide +kernel
theorem dX7_setUp_7 : decode cX7_setUp 7 = .ok (.getfield 73, 3) := by decide +kernel
theorem dX7_setUp_10 : decode cX7_setUp 10 = .ok (.if_icmp .ge 18, 3) := by decide +kernel
theorem dX7_setUp_13 : decode cX7_setUp 13 = .ok (.aload_n 0, 1) := by decide +kernel
theorem dX7_setUp_14 : decode cX7_setUp 14 = .ok (.getfield 12, 3) := by decide +kernel
theorem dX7_setUp_17 : decode cX7_setUp 17 = .ok (.iload_n 1, 1) := by decide +kernel
theorem dX7_setUp_18 : decode cX7_setUp 18 = .ok (.iconst (-1), 1) := by decide +kernel
theorem dX7_setUp_19 : decode cX7_setUp 19 = .ok (.invokevirtual 139, 3) := by decide +kernel
theorem dX7_setUp_22 : decode cX7_setUp 22 = .ok (.iinc 1 1, 3) := by decide +kernel
theorem dX7_setUp_25 : decode cX7_setUp 25 = .ok (.goto (-23), 3) := by decide +kernel
theorem dX7_setUp_28 : decode cX7_setUp 28 = .ok (.iconst 0, 1) := by decide +kernel
theorem dX7_setUp_29 : decode cX7_setUp 29 = .ok (.istore_n 1, 1) := by decide +kernel
theorem dX7_setUp_30 : decode cX7_setUp 30 = .ok (.iload_n 1, 1) := by decide +kernel
theorem dX7_setUp_31 : decode cX7_setUp 31 = .ok (.aload_n 0, 1) := by decide +kernel
theorem dX7_setUp_32 : decode cX7_setUp 32 = .ok (.getfield 50, 3) := by decide +kernel
theorem dX7_setUp_35 : decode cX7_setUp 35 = .ok (.getfield 73, 3) := by decide +kernel
theorem dX7_setUp_38 : decode cX7_setUp 38 = .ok (.if_icmp .ge 68, 3) := by decide +kernel
theorem dX7_setUp_41 : decode cX7_setUp 41 = .ok (.aload_n 0, 1) := by decide +kernel
theorem dX7_setUp_42 : decode cX7_setUp 42 = .ok (.getfield 29, 3) := by decide +kernel
theorem dX7_setUp_45 : decode cX7_setUp 45 = .ok (.iload_n 1, 1) := by decide +kernel
theorem dX7_setUp_46 : decode cX7_setUp 46 = .ok (.iaload, 1) := by decide +kernel
theorem dX7_setUp_47 : decode cX7_setUp 47 = .ok (.istore_n 2, 1) := by decide +kernel
theorem dX7_setUp_48 : decode cX7_setUp 48 = .ok (.iload_n 2, 1) := by decide +kernel
theorem dX7_setUp_49 : decode cX7_setUp 49 = .ok (.aload_n 0, 1) := by decide +kernel
theorem dX7_setUp_50 : decode cX7_setUp 50 = .ok (.getfield 50, 3) := by decide +kernel
theorem dX7_setUp_53 : decode cX7_setUp 53 = .ok (.getfield 78, 3) := by decide +kernel
theorem dX7_setUp_56 : decode cX7_setUp 56 = .ok (.getfield 115, 3) := by decide +kernel
theorem dX7_setUp_59 : decode cX7_setUp 59 = .ok (.if_icmp .lt 6, 3) := by decide +kernel
theorem dX7_setUp_62 : decode cX7_setUp 62 = .ok (.goto 38, 3) := by decide +kernel
theorem dX7_setUp_65 : decode cX7_setUp 65 = .ok (.aload_n 0, 1) := by decide +kernel
theorem dX7_setUp_66 : decode cX7_setUp 66 = .ok (.getfield 12, 3) := by decide +kernel
theorem dX7_setUp_69 : decode cX7_setUp 69 = .ok (.iload_n 2, 1) := by decide +kernel
theorem dX7_setUp_70 : decode cX7_setUp 70 = .ok (.invokevirtual 142, 3) := by decide +kernel
theorem dX7_setUp_73 : decode cX7_setUp 73 = .ok (.iconst (-1), 1) := by decide +kernel
theorem dX7_setUp_74 : decode cX7_setUp 74 = .ok (.if_icmp .ne 15, 3) := by decide +kernel
theorem dX7_setUp_77 : decode cX7_setUp 77 = .ok (.aload_n 0, 1) := by decide +kernel
theorem dX7_setUp_78 : decode cX7_setUp 78 = .ok (.getfield 50, 3) := by decide +kernel
theorem dX7_setUp_81 : decode cX7_setUp 81 = .ok (.iload_n 2, 1) := by decide +kernel
theorem dX7_setUp_82 : decode cX7_setUp 82 = .ok (.iload_n 1, 1) := by decide +kernel
theorem dX7_setUp_83 : decode cX7_setUp 83 = .ok (.invokevirtual 146, 3) := by decide +kernel
theorem dX7_setUp_86 : decode cX7_setUp 86 = .ok (.ifCond .ne 5, 3) := by decide +kernel
theorem dX7_setUp_89 : decode cX7_setUp 89 = .ok (.iconst 0, 1) := by decide +kernel
theorem dX7_setUp_90 : decode cX7_setUp 90 = .ok (.ireturn, 1) := by decide +kernel
theorem dX7_setUp_91 : decode cX7_setUp 91 = .ok (.aload_n 0, 1) := by decide +kernel
theorem dX7_setUp_92 : decode cX7_setUp 92 = .ok (.getfield 12, 3) := by decide +kernel
theorem dX7_setUp_95 : decode cX7_setUp 95 = .ok (.iload_n 1, 1) := by decide +kernel
theorem dX7_setUp_96 : decode cX7_setUp 96 = .ok (.iload_n 2, 1) := by decide +kernel
theorem dX7_setUp_97 : decode cX7_setUp 97 = .ok (.invokevirtual 139, 3) := by decide +kernel
theorem dX7_setUp_100 : decode cX7_setUp 100 = .ok (.iinc 1 1, 3) := by decide +kernel
theorem dX7_setUp_103 : decode cX7_setUp 103 = .ok (.goto (-73), 3) := by decide +kernel
theorem dX7_setUp_106 : decode cX7_setUp 106 = .ok (.iconst 1, 1) := by decide +kernel
theorem dX7_setUp_107 : decode cX7_setUp 107 = .ok (.ireturn, 1) := by decide +kernel
set_option maxRecDepth 20000 in
theorem ggX7_linkMoves_X6_room : GoodIn wsX7_linkMoves wsX6_room := goodIn_r _ [9, 10, 11, 12, 13, 14, 15, 16, 17, 18, 19, 20, 21, 22, 23, 24, 25, 26, 27, 28, 29, 30, 31, 32, 33, 8, 34, 97, 98, 99, 100, 101, 102, 103, 104, 105, 109, 110, 111, 112, 113, 106, 107, 108, 114, 115, 116, 117, 118] (by decide +kernel) (by decide +kernel)
set_option maxRecDepth 20000 in
theorem gX7_linkMoves_X6_room : GoodIn wsX7_linkMoves (wsV RX7 153 RX6 yX6_room wsX6_room) := goodIn_app (goodIn_of _ (by decide +kernel)) ggX7_linkMoves_X6_room
set_option maxRecDepth 20000 in
theorem ggX7_linkMoves_X8_fieldOf : GoodIn wsX7_linkMoves wsX8_fieldOf := goodIn_r _ [17, 18, 106, 107, 108] (by decide +kernel) (by decide +kernel)
set_option maxRecDepth 20000 in
theorem gX7_linkMoves_X8_fieldOf : GoodIn wsX7_linkMoves (wsV RX7 157 RX8 yX8_fieldOf wsX8_fieldOf) := goodIn_app (goodIn_of _ (by decide +kernel)) ggX7_linkMoves_X8_fieldOf
set_option maxRecDepth 20000 in
theorem ggX7_linkMoves_X0_beside : GoodIn wsX7_linkMoves wsX0_beside := goodIn_r _ [23, 24, 25, 114, 115, 116, 117, 118] (by decide +kernel) (by decide +kernel)
set_option maxRecDepth 20000 in
theorem gX7_linkMoves_X0_beside : GoodIn wsX7_linkMoves (wsV RX7 160 RX0 yX0_beside wsX0_beside) := goodIn_app (goodIn_of _ (by decide +kernel)) ggX7_linkMoves_X0_beside
set_option maxRecDepth 20000 in
theorem ggX7_linkMoves_X6_findVictims : GoodIn wsX7_linkMoves wsX6_findVictims := goodIn_r _ [40, 41, 42, 12, 43, 44, 45, 46, 8, 47, 48, 13, 14, 15, 16, 17, 18, 49, 50, 51, 52, 30, 19, 20, 21, 22, 23, 24, 25, 26, 27, 28, 29, 53, 54, 55, 56, 57, 10, 11, 58, 59, 60, 61, 62, 63, 64, 65, 66, 97, 98, 99, 100, 101, 102, 103, 104, 105, 106, 107, 108, 114, 115, 116, 117, 118, 109, 110, 111, 112, 113] (by decide +kernel) (by decide +kernel)
set_option maxRecDepth 20000 in
theorem gX7_linkMoves_X6_findVictims : GoodIn wsX7_linkMoves (wsV RX7 164 RX6 yX6_findVictims wsX6_findVictims) := goodIn_app (goodIn_of _ (by decide +kernel)) ggX7_linkMoves_X6_findVictims
set_option maxRecDepth 20000 in
theorem ggX7_linkMoves_X7_behindMove : GoodIn wsX7_linkMoves wsX7_behindMove := goodIn_r _ [71, 72, 1, 35, 14, 15, 16, 17, 18, 82, 83, 84, 85, 86, 87, 88, 89, 90, 91, 92, 93, 94, 95, 96, 97, 98, 99, 100, 101, 102, 103, 104, 105, 114, 115, 116, 117, 118, 106, 107, 108] (by decide +kernel) (by decide +kernel)
set_option maxRecDepth 20000 in
theorem gX7_linkMoves_X7_behindMove : GoodIn wsX7_linkMoves (wsV RX7 167 RX7 yX7_behindMove wsX7_behindMove) := goodIn_app (goodIn_of _ (by decide +kernel)) ggX7_linkMoves_X7_behindMove
set_option maxRecDepth 20000 in
theorem ggX7_linkMoves_X2_add : GoodIn wsX7_linkMoves wsX2_add := goodIn_r _ [77, 78, 79, 80, 81, 119, 120, 121, 122] (by decide +kernel) (by decide +kernel)
set_option maxRecDepth 20000 in
theorem gX7_linkMoves_X2_add : GoodIn wsX7_linkMoves (wsV RX7 171 RX2 yX2_add wsX2_add) := goodIn_app (goodIn_of _ (by decide +kernel)) ggX7_linkMoves_X2_add
theorem dX7_linkMoves_0 : decode cX7_linkMoves 0 = .ok (.iconst 0, 1) := by decide +kernel
theorem dX7_linkMoves_1 : decode cX7_linkMoves 1 = .ok (.istore_n 2, 1) := by decide +kernel
theorem dX7_linkMoves_2 : decode cX7_linkMoves 2 = .ok (.iload_n 2, 1) := by decide +kernel
theorem dX7_linkMoves_3 : decode cX7_linkMoves 3 = .ok (.aload_n 0, 1) := by decide +kernel
theorem dX7_linkMoves_4 : decode cX7_linkMoves 4 = .ok (.getfield 50, 3) := by decide +kernel
theorem dX7_linkMoves_7 : decode cX7_linkMoves 7 = .ok (.getfield 73, 3) := by decide +kernel
theorem dX7_linkMoves_10 : decode cX7_linkMoves 10 = .ok (.if_icmp .ge 145, 3) := by decide +kernel
theorem dX7_linkMoves_13 : decode cX7_linkMoves 13 = .ok (.aload_n 0, 1) := by decide +kernel
theorem dX7_linkMoves_14 : decode cX7_linkMoves 14 = .ok (.getfield 50, 3) := by decide +kernel
theorem dX7_linkMoves_17 : decode cX7_linkMoves 17 = .ok (.getfield 150, 3) := by decide +kernel
theorem dX7_linkMoves_20 : decode cX7_linkMoves 20 = .ok (.iload_n 2, 1) := by decide +kernel
theorem dX7_linkMoves_21 : decode cX7_linkMoves 21 = .ok (.iaload, 1) := by decide +kernel
theorem dX7_linkMoves_22 : decode cX7_linkMoves 22 = .ok (.aload_n 0, 1) := by decide +kernel
theorem dX7_linkMoves_23 : decode cX7_linkMoves 23 = .ok (.getfield 12, 3) := by decide +kernel
theorem dX7_linkMoves_26 : decode cX7_linkMoves 26 = .ok (.getfield 125, 3) := by decide +kernel
theorem dX7_linkMoves_29 : decode cX7_linkMoves 29 = .ok (.if_icmp .eq 6, 3) := by decide +kernel
theorem dX7_linkMoves_32 : decode cX7_linkMoves 32 = .ok (.goto 117, 3) := by decide +kernel
theorem dX7_linkMoves_35 : decode cX7_linkMoves 35 = .ok (.iconst 0, 1) := by decide +kernel
theorem dX7_linkMoves_36 : decode cX7_linkMoves 36 = .ok (.istore_n 3, 1) := by decide +kernel
theorem dX7_linkMoves_37 : decode cX7_linkMoves 37 = .ok (.iload_n 3, 1) := by decide +kernel
theorem dX7_linkMoves_38 : decode cX7_linkMoves 38 = .ok (.iconst 4, 1) := by decide +kernel
theorem dX7_linkMoves_39 : decode cX7_linkMoves 39 = .ok (.if_icmp .ge 110, 3) := by decide +kernel
theorem dX7_linkMoves_42 : decode cX7_linkMoves 42 = .ok (.aload_n 0, 1) := by decide +kernel
theorem dX7_linkMoves_43 : decode cX7_linkMoves 43 = .ok (.getfield 50, 3) := by decide +kernel
theorem dX7_linkMoves_46 : decode cX7_linkMoves 46 = .ok (.aload_n 0, 1) := by decide +kernel
theorem dX7_linkMoves_47 : decode cX7_linkMoves 47 = .ok (.getfield 12, 3) := by decide +kernel
theorem dX7_linkMoves_50 : decode cX7_linkMoves 50 = .ok (.iload_n 2, 1) := by decide +kernel
theorem dX7_linkMoves_51 : decode cX7_linkMoves 51 = .ok (.iload_n 3, 1) := by decide +kernel
theorem dX7_linkMoves_52 : decode cX7_linkMoves 52 = .ok (.invokevirtual 153, 3) := by decide +kernel
theorem dX7_linkMoves_55 : decode cX7_linkMoves 55 = .ok (.istore 4, 2) := by decide +kernel
theorem dX7_linkMoves_57 : decode cX7_linkMoves 57 = .ok (.aload_n 0, 1) := by decide +kernel
theorem dX7_linkMoves_58 : decode cX7_linkMoves 58 = .ok (.getfield 12, 3) := by decide +kernel
theorem dX7_linkMoves_61 : decode cX7_linkMoves 61 = .ok (.iload_n 2, 1) := by decide +kernel
theorem dX7_linkMoves_62 : decode cX7_linkMoves 62 = .ok (.invokevirtual 157, 3) := by decide +kernel
theorem dX7_linkMoves_65 : decode cX7_linkMoves 65 = .ok (.istore 5, 2) := by decide +kernel
theorem dX7_linkMoves_67 : decode cX7_linkMoves 67 = .ok (.iconst 1, 1) := by decide +kernel
theorem dX7_linkMoves_68 : decode cX7_linkMoves 68 = .ok (.istore 6, 2) := by decide +kernel
theorem dX7_linkMoves_70 : decode cX7_linkMoves 70 = .ok (.iload 6, 2) := by decide +kernel
theorem dX7_linkMoves_72 : decode cX7_linkMoves 72 = .ok (.iload 4, 2) := by decide +kernel
theorem dX7_linkMoves_74 : decode cX7_linkMoves 74 = .ok (.if_icmp .gt 69, 3) := by decide +kernel
theorem dX7_linkMoves_77 : decode cX7_linkMoves 77 = .ok (.aload_n 0, 1) := by decide +kernel
theorem dX7_linkMoves_78 : decode cX7_linkMoves 78 = .ok (.getfield 50, 3) := by decide +kernel
theorem dX7_linkMoves_81 : decode cX7_linkMoves 81 = .ok (.getfield 78, 3) := by decide +kernel
theorem dX7_linkMoves_84 : decode cX7_linkMoves 84 = .ok (.iload 5, 2) := by decide +kernel
theorem dX7_linkMoves_86 : decode cX7_linkMoves 86 = .ok (.iload_n 3, 1) := by decide +kernel
theorem dX7_linkMoves_87 : decode cX7_linkMoves 87 = .ok (.invokevirtual 160, 3) := by decide +kernel
theorem dX7_linkMoves_90 : decode cX7_linkMoves 90 = .ok (.istore 5, 2) := by decide +kernel
theorem dX7_linkMoves_92 : decode cX7_linkMoves 92 = .ok (.aload_n 0, 1) := by decide +kernel
theorem dX7_linkMoves_93 : decode cX7_linkMoves 93 = .ok (.getfield 50, 3) := by decide +kernel
theorem dX7_linkMoves_96 : decode cX7_linkMoves 96 = .ok (.aload_n 0, 1) := by decide +kernel
theorem dX7_linkMoves_97 : decode cX7_linkMoves 97 = .ok (.getfield 12, 3) := by decide +kernel
theorem dX7_linkMoves_100 : decode cX7_linkMoves 100 = .ok (.iload_n 2, 1) := by decide +kernel
theorem dX7_linkMoves_101 : decode cX7_linkMoves 101 = .ok (.iload 5, 2) := by decide +kernel
theorem dX7_linkMoves_103 : decode cX7_linkMoves 103 = .ok (.invokevirtual 164, 3) := by decide +kernel
theorem dX7_linkMoves_106 : decode cX7_linkMoves 106 = .ok (.pop, 1) := by decide +kernel
theorem dX7_linkMoves_107 : decode cX7_linkMoves 107 = .ok (.aload_n 0, 1) := by decide +kernel
theorem dX7_linkMoves_108 : decode cX7_linkMoves 108 = .ok (.getfield 21, 3) := by decide +kernel
theorem dX7_linkMoves_111 : decode cX7_linkMoves 111 = .ok (.iload_n 1, 1) := by decide +kernel
theorem dX7_linkMoves_112 : decode cX7_linkMoves 112 = .ok (.aload_n 0, 1) := by decide +kernel
theorem dX7_linkMoves_113 : decode cX7_linkMoves 113 = .ok (.aload_n 0, 1) := by decide +kernel
theorem dX7_linkMoves_114 : decode cX7_linkMoves 114 = .ok (.getfield 12, 3) := by decide +kernel
theorem dX7_linkMoves_117 : decode cX7_linkMoves 117 = .ok (.iload_n 1, 1) := by decide +kernel
theorem dX7_linkMoves_118 : decode cX7_linkMoves 118 = .ok (.iload_n 2, 1) := by decide +kernel
theorem dX7_linkMoves_119 : decode cX7_linkMoves 119 = .ok (.iload 5, 2) := by decide +kernel
theorem dX7_linkMoves_121 : decode cX7_linkMoves 121 = .ok (.invokevirtual 167, 3) := by decide +kernel
theorem dX7_linkMoves_124 : decode cX7_linkMoves 124 = .ok (.invokevirtual 171, 3) := by decide +kernel
theorem dX7_linkMoves_127 : decode cX7_linkMoves 127 = .ok (.aload_n 0, 1) := by decide +kernel
theorem dX7_linkMoves_128 : decode cX7_linkMoves 128 = .ok (.getfield 44, 3) := by decide +kernel
theorem dX7_linkMoves_131 : decode cX7_linkMoves 131 = .ok (.iload_n 1, 1) := by decide +kernel
theorem dX7_linkMoves_132 : decode cX7_linkMoves 132 = .ok (.dup2, 1) := by decide +kernel
theorem dX7_linkMoves_133 : decode cX7_linkMoves 133 = .ok (.iaload, 1) := by decide +kernel
theorem dX7_linkMoves_134 : decode cX7_linkMoves 134 = .ok (.iconst 1, 1) := by decide +kernel
theorem dX7_linkMoves_135 : decode cX7_linkMoves 135 = .ok (.iadd, 1) := by decide +kernel
theorem dX7_linkMoves_136 : decode cX7_linkMoves 136 = .ok (.iastore, 1) := by decide +kernel
theorem dX7_linkMoves_137 : decode cX7_linkMoves 137 = .ok (.iinc 6 1, 3) := by decide +kernel
theorem dX7_linkMoves_140 : decode cX7_linkMoves 140 = .ok (.goto (-70), 3) := by decide +kernel
theorem dX7_linkMoves_143 : decode cX7_linkMoves 143 = .ok (.iinc 3 1, 3) := by decide +kernel
theorem dX7_linkMoves_146 : decode cX7_linkMoves 146 = .ok (.goto (-109), 3) := by decide +kernel
theorem dX7_linkMoves_149 : decode cX7_linkMoves 149 = .ok (.iinc 2 1, 3) := by decide +kernel
theorem dX7_linkMoves_152 : decode cX7_linkMoves 152 = .ok (.goto (-150), 3) := by decide +kernel
theorem dX7_linkMoves_155 : decode cX7_linkMoves 155 = .ok (.return_, 1) := by decide +kernel
set_option maxRecDepth 20000 in
theorem ggX7_behindMove_X8_fieldOf : GoodIn wsX7_behindMove wsX8_fieldOf := goodIn_r _ [7, 8, 38, 39, 40] (by decide +kernel) (by decide +kernel)
set_option maxRecDepth 20000 in
theorem gX7_behindMove_X8_fieldOf : GoodIn wsX7_behindMove (wsV RX7 157 RX8 yX8_fieldOf wsX8_fieldOf) := goodIn_app (goodIn_of _ (by decide +kernel)) ggX7_behindMove_X8_fieldOf
theorem dX7_behindMove_0 : decode cX7_behindMove 0 = .ok (.iload 4, 2) := by decide +kernel
theorem dX7_behindMove_2 : decode cX7_behindMove 2 = .ok (.aload_n 1, 1) := by decide +kernel
theorem dX7_behindMove_3 : decode cX7_behindMove 3 = .ok (.iload_n 3, 1) := by decide +kernel
theorem dX7_behindMove_4 : decode cX7_behindMove 4 = .ok (.invokevirtual 157, 3) := by decide +kernel
theorem dX7_behindMove_7 : decode cX7_behindMove 7 = .ok (.isub, 1) := by decide +kernel
theorem dX7_behindMove_8 : decode cX7_behindMove 8 = .ok (.aload_n 0, 1) := by decide +kernel
theorem dX7_behindMove_9 : decode cX7_behindMove 9 = .ok (.getfield 25, 3) := by decide +kernel
theorem dX7_behindMove_12 : decode cX7_behindMove 12 = .ok (.iload_n 3, 1) := by decide +kernel
theorem dX7_behindMove_13 : decode cX7_behindMove 13 = .ok (.iaload, 1) := by decide +kernel
theorem dX7_behindMove_14 : decode cX7_behindMove 14 = .ok (.imul, 1) := by decide +kernel
theorem dX7_behindMove_15 : decode cX7_behindMove 15 = .ok (.istore 5, 2) := by decide +kernel
theorem dX7_behindMove_17 : decode cX7_behindMove 17 = .ok (.iconst 0, 1) := by decide +kernel
theorem dX7_behindMove_18 : decode cX7_behindMove 18 = .ok (.istore 6, 2) := by decide +kernel
theorem dX7_behindMove_20 : decode cX7_behindMove 20 = .ok (.iload 6, 2) := by decide +kernel
theorem dX7_behindMove_22 : decode cX7_behindMove 22 = .ok (.aload_n 0, 1) := by decide +kernel
theorem dX7_behindMove_23 : decode cX7_behindMove 23 = .ok (.getfield 50, 3) := by decide +kernel
theorem dX7_behindMove_26 : decode cX7_behindMove 26 = .ok (.getfield 174, 3) := by decide +kernel
theorem dX7_behindMove_29 : decode cX7_behindMove 29 = .ok (.if_icmp .ge 51, 3) := by decide +kernel
theorem dX7_behindMove_32 : decode cX7_behindMove 32 = .ok (.aload_n 0, 1) := by decide +kernel
theorem dX7_behindMove_33 : decode cX7_behindMove 33 = .ok (.getfield 50, 3) := by decide +kernel
theorem dX7_behindMove_36 : decode cX7_behindMove 36 = .ok (.getfield 177, 3) := by decide +kernel
theorem dX7_behindMove_39 : decode cX7_behindMove 39 = .ok (.iload 6, 2) := by decide +kernel
theorem dX7_behindMove_41 : decode cX7_behindMove 41 = .ok (.iaload, 1) := by decide +kernel
theorem dX7_behindMove_42 : decode cX7_behindMove 42 = .ok (.istore 7, 2) := by decide +kernel
theorem dX7_behindMove_44 : decode cX7_behindMove 44 = .ok (.iload 5, 2) := by decide +kernel
theorem dX7_behindMove_46 : decode cX7_behindMove 46 = .ok (.aload_n 0, 1) := by decide +kernel
theorem dX7_behindMove_47 : decode cX7_behindMove 47 = .ok (.getfield 50, 3) := by decide +kernel
theorem dX7_behindMove_50 : decode cX7_behindMove 50 = .ok (.getfield 78, 3) := by decide +kernel
theorem dX7_behindMove_53 : decode cX7_behindMove 53 = .ok (.getfield 115, 3) := by decide +kernel
theorem dX7_behindMove_56 : decode cX7_behindMove 56 = .ok (.aload_n 1, 1) := by decide +kernel
theorem dX7_behindMove_57 : decode cX7_behindMove 57 = .ok (.iload 7, 2) := by decide +kernel
theorem dX7_behindMove_59 : decode cX7_behindMove 59 = .ok (.invokevirtual 157, 3) := by decide +kernel
theorem dX7_behindMove_62 : decode cX7_behindMove 62 = .ok (.isub, 1) := by decide +kernel
theorem dX7_behindMove_63 : decode cX7_behindMove 63 = .ok (.aload_n 0, 1) := by decide +kernel
theorem dX7_behindMove_64 : decode cX7_behindMove 64 = .ok (.getfield 25, 3) := by decide +kernel
theorem dX7_behindMove_67 : decode cX7_behindMove 67 = .ok (.iload 7, 2) := by decide +kernel
theorem dX7_behindMove_69 : decode cX7_behindMove 69 = .ok (.iaload, 1) := by decide +kernel
theorem dX7_behindMove_70 : decode cX7_behindMove 70 = .ok (.imul, 1) := by decide +kernel
theorem dX7_behindMove_71 : decode cX7_behindMove 71 = .ok (.iadd, 1) := by decide +kernel
theorem dX7_behindMove_72 : decode cX7_behindMove 72 = .ok (.istore 5, 2) := by decide +kernel
theorem dX7_behindMove_74 : decode cX7_behindMove 74 = .ok (.iinc 6 1, 3) := by decide +kernel
theorem dX7_behindMove_77 : decode cX7_behindMove 77 = .ok (.goto (-57), 3) := by decide +kernel
theorem dX7_behindMove_80 : decode cX7_behindMove 80 = .ok (.iload_n 2, 1) := by decide +kernel
theorem dX7_behindMove_81 : decode cX7_behindMove 81 = .ok (.iconst 2, 1) := by decide +kernel
theorem dX7_behindMove_82 : decode cX7_behindMove 82 = .ok (.iload 5, 2) := by decide +kernel
theorem dX7_behindMove_84 : decode cX7_behindMove 84 = .ok (.imul, 1) := by decide +kernel
theorem dX7_behindMove_85 : decode cX7_behindMove 85 = .ok (.iadd, 1) := by decide +kernel
theorem dX7_behindMove_86 : decode cX7_behindMove 86 = .ok (.iconst 1, 1) := by decide +kernel
theorem dX7_behindMove_87 : decode cX7_behindMove 87 = .ok (.iadd, 1) := by decide +kernel
theorem dX7_behindMove_88 : decode cX7_behindMove 88 = .ok (.iconst 2, 1) := by decide +kernel
theorem dX7_behindMove_89 : decode cX7_behindMove 89 = .ok (.aload_n 1, 1) := by decide +kernel
theorem dX7_behindMove_90 : decode cX7_behindMove 90 = .ok (.getfield 125, 3) := by decide +kernel
theorem dX7_behindMove_93 : decode cX7_behindMove 93 = .ok (.imul, 1) := by decide +kernel
theorem dX7_behindMove_94 : decode cX7_behindMove 94 = .ok (.isub, 1) := by decide +kernel
theorem dX7_behindMove_95 : decode cX7_behindMove 95 = .ok (.ireturn, 1) := by decide +kernel
theorem dX7_decide_0 : decode cX7_decide 0 = .ok (.aload_n 0, 1) := by decide +kernel
theorem dX7_decide_1 : decode cX7_decide 1 = .ok (.getfield 100, 3) := by decide +kernel
theorem dX7_decide_4 : decode cX7_decide 4 = .ok (.aload_n 0, 1) := by decide +kernel
theorem dX7_decide_5 : decode cX7_decide 5 = .ok (.getfield 47, 3) := by decide +kernel
theorem dX7_decide_8 : decode cX7_decide 8 = .ok (.arraylength, 1) := by decide +kernel
theorem dX7_decide_9 : decode cX7_decide 9 = .ok (.if_icmp .lt 4, 3) := by decide +kernel
theorem dX7_decide_12 : decode cX7_decide 12 = .ok (.return_, 1) := by decide +kernel
theorem dX7_decide_13 : decode cX7_decide 13 = .ok (.aload_n 0, 1) := by decide +kernel
theorem dX7_decide_14 : decode cX7_decide 14 = .ok (.getfield 38, 3) := by decide +kernel
theorem dX7_decide_17 : decode cX7_decide 17 = .ok (.iload_n 1, 1) := by decide +kernel
theorem dX7_decide_18 : decode cX7_decide 18 = .ok (.iload_n 2, 1) := by decide +kernel
theorem dX7_decide_19 : decode cX7_decide 19 = .ok (.iastore, 1) := by decide +kernel
theorem dX7_decide_20 : decode cX7_decide 20 = .ok (.aload_n 0, 1) := by decide +kernel
theorem dX7_decide_21 : decode cX7_decide 21 = .ok (.getfield 41, 3) := by decide +kernel
theorem dX7_decide_24 : decode cX7_decide 24 = .ok (.iload_n 1, 1) := by decide +kernel
theorem dX7_decide_25 : decode cX7_decide 25 = .ok (.iload_n 3, 1) := by decide +kernel
theorem dX7_decide_26 : decode cX7_decide 26 = .ok (.iastore, 1) := by decide +kernel
theorem dX7_decide_27 : decode cX7_decide 27 = .ok (.aload_n 0, 1) := by decide +kernel
theorem dX7_decide_28 : decode cX7_decide 28 = .ok (.getfield 47, 3) := by decide +kernel
theorem dX7_decide_31 : decode cX7_decide 31 = .ok (.aload_n 0, 1) := by decide +kernel
theorem dX7_decide_32 : decode cX7_decide 32 = .ok (.getfield 100, 3) := by decide +kernel
theorem dX7_decide_35 : decode cX7_decide 35 = .ok (.iload_n 1, 1) := by decide +kernel
theorem dX7_decide_36 : decode cX7_decide 36 = .ok (.iastore, 1) := by decide +kernel
theorem dX7_decide_37 : decode cX7_decide 37 = .ok (.aload_n 0, 1) := by decide +kernel
theorem dX7_decide_38 : decode cX7_decide 38 = .ok (.dup, 1) := by decide +kernel
theorem dX7_decide_39 : decode cX7_decide 39 = .ok (.getfield 100, 3) := by decide +kernel
theorem dX7_decide_42 : decode cX7_decide 42 = .ok (.iconst 1, 1) := by decide +kernel
theorem dX7_decide_43 : decode cX7_decide 43 = .ok (.iadd, 1) := by decide +kernel
theorem dX7_decide_44 : decode cX7_decide 44 = .ok (.putfield 100, 3) := by decide +kernel
theorem dX7_decide_47 : decode cX7_decide 47 = .ok (.return_, 1) := by decide +kernel
set_option maxRecDepth 20000 in
theorem ggX7_spread_X7_inform : GoodIn wsX7_spread wsX7_inform := goodIn_r _ [10, 4, 11, 12, 13, 14, 9, 15, 1, 2, 5, 16, 17, 18, 19, 20, 21, 22, 23, 24, 25, 26, 27, 28, 29, 30] (by decide +kernel) (by decide +kernel)
set_option maxRecDepth 20000 in
theorem gX7_spread_X7_inform : GoodIn wsX7_spread (wsV RX7 189 RX7 yX7_inform wsX7_inform) := goodIn_app (goodIn_of _ (by decide +kernel)) ggX7_spread_X7_inform
theorem dX7_spread_0 : decode cX7_spread 0 = .ok (.iconst 0, 1) := by decide +kernel
theorem dX7_spread_1 : decode cX7_spread 1 = .ok (.istore_n 1, 1) := by decide +kernel
theorem dX7_spread_2 : decode cX7_spread 2 = .ok (.iload_n 1, 1) := by decide +kernel
theorem dX7_spread_3 : decode cX7_spread 3 = .ok (.aload_n 0, 1) := by decide +kernel
theorem dX7_spread_4 : decode cX7_spread 4 = .ok (.getfield 100, 3) := by decide +kernel
theorem dX7_spread_7 : decode cX7_spread 7 = .ok (.if_icmp .ge 98, 3) := by decide +kernel
theorem dX7_spread_10 : decode cX7_spread 10 = .ok (.iload_n 1, 1) := by decide +kernel
theorem dX7_spread_11 : decode cX7_spread 11 = .ok (.aload_n 0, 1) := by decide +kernel
theorem dX7_spread_12 : decode cX7_spread 12 = .ok (.getfield 47, 3) := by decide +kernel
theorem dX7_spread_15 : decode cX7_spread 15 = .ok (.arraylength, 1) := by decide +kernel
theorem dX7_spread_16 : decode cX7_spread 16 = .ok (.if_icmp .ge 89, 3) := by decide +kernel
theorem dX7_spread_19 : decode cX7_spread 19 = .ok (.aload_n 0, 1) := by decide +kernel
theorem dX7_spread_20 : decode cX7_spread 20 = .ok (.getfield 47, 3) := by decide +kernel
theorem dX7_spread_23 : decode cX7_spread 23 = .ok (.iload_n 1, 1) := by decide +kernel
theorem dX7_spread_24 : decode cX7_spread 24 = .ok (.iaload, 1) := by decide +kernel
theorem dX7_spread_25 : decode cX7_spread 25 = .ok (.istore_n 2, 1) := by decide +kernel
theorem dX7_spread_26 : decode cX7_spread 26 = .ok (.aload_n 0, 1) := by decide +kernel
theorem dX7_spread_27 : decode cX7_spread 27 = .ok (.getfield 21, 3) := by decide +kernel
theorem dX7_spread_30 : decode cX7_spread 30 = .ok (.getfield 180, 3) := by decide +kernel
theorem dX7_spread_33 : decode cX7_spread 33 = .ok (.iload_n 2, 1) := by decide +kernel
theorem dX7_spread_34 : decode cX7_spread 34 = .ok (.iaload, 1) := by decide +kernel
theorem dX7_spread_35 : decode cX7_spread 35 = .ok (.istore_n 3, 1) := by decide +kernel
theorem dX7_spread_36 : decode cX7_spread 36 = .ok (.iconst 0, 1) := by decide +kernel
theorem dX7_spread_37 : decode cX7_spread 37 = .ok (.istore 4, 2) := by decide +kernel
theorem dX7_spread_39 : decode cX7_spread 39 = .ok (.iload 4, 2) := by decide +kernel
theorem dX7_spread_41 : decode cX7_spread 41 = .ok (.aload_n 0, 1) := by decide +kernel
theorem dX7_spread_42 : decode cX7_spread 42 = .ok (.getfield 21, 3) := by decide +kernel
theorem dX7_spread_45 : decode cX7_spread 45 = .ok (.getfield 183, 3) := by decide +kernel
theorem dX7_spread_48 : decode cX7_spread 48 = .ok (.if_icmp .ge 51, 3) := by decide +kernel
theorem dX7_spread_51 : decode cX7_spread 51 = .ok (.iload_n 3, 1) := by decide +kernel
theorem dX7_spread_52 : decode cX7_spread 52 = .ok (.iconst (-1), 1) := by decide +kernel
theorem dX7_spread_53 : decode cX7_spread 53 = .ok (.if_icmp .eq 46, 3) := by decide +kernel
theorem dX7_spread_56 : decode cX7_spread 56 = .ok (.aload_n 0, 1) := by decide +kernel
theorem dX7_spread_57 : decode cX7_spread 57 = .ok (.aload_n 0, 1) := by decide +kernel
theorem dX7_spread_58 : decode cX7_spread 58 = .ok (.getfield 21, 3) := by decide +kernel
theorem dX7_spread_61 : decode cX7_spread 61 = .ok (.getfield 186, 3) := by decide +kernel
theorem dX7_spread_64 : decode cX7_spread 64 = .ok (.iload_n 3, 1) := by decide +kernel
theorem dX7_spread_65 : decode cX7_spread 65 = .ok (.iaload, 1) := by decide +kernel
theorem dX7_spread_66 : decode cX7_spread 66 = .ok (.aload_n 0, 1) := by decide +kernel
theorem dX7_spread_67 : decode cX7_spread 67 = .ok (.getfield 38, 3) := by decide +kernel
theorem dX7_spread_70 : decode cX7_spread 70 = .ok (.iload_n 2, 1) := by decide +kernel
theorem dX7_spread_71 : decode cX7_spread 71 = .ok (.iaload, 1) := by decide +kernel
theorem dX7_spread_72 : decode cX7_spread 72 = .ok (.aload_n 0, 1) := by decide +kernel
theorem dX7_spread_73 : decode cX7_spread 73 = .ok (.getfield 41, 3) := by decide +kernel
theorem dX7_spread_76 : decode cX7_spread 76 = .ok (.iload_n 2, 1) := by decide +kernel
theorem dX7_spread_77 : decode cX7_spread 77 = .ok (.iaload, 1) := by decide +kernel
theorem dX7_spread_78 : decode cX7_spread 78 = .ok (.iconst 1, 1) := by decide +kernel
theorem dX7_spread_79 : decode cX7_spread 79 = .ok (.iadd, 1) := by decide +kernel
theorem dX7_spread_80 : decode cX7_spread 80 = .ok (.invokevirtual 189, 3) := by decide +kernel
theorem dX7_spread_83 : decode cX7_spread 83 = .ok (.aload_n 0, 1) := by decide +kernel
theorem dX7_spread_84 : decode cX7_spread 84 = .ok (.getfield 21, 3) := by decide +kernel
theorem dX7_spread_87 : decode cX7_spread 87 = .ok (.getfield 192, 3) := by decide +kernel
theorem dX7_spread_90 : decode cX7_spread 90 = .ok (.iload_n 3, 1) := by decide +kernel
theorem dX7_spread_91 : decode cX7_spread 91 = .ok (.iaload, 1) := by decide +kernel
theorem dX7_spread_92 : decode cX7_spread 92 = .ok (.istore_n 3, 1) := by decide +kernel
theorem dX7_spread_93 : decode cX7_spread 93 = .ok (.iinc 4 1, 3) := by decide +kernel
theorem dX7_spread_96 : decode cX7_spread 96 = .ok (.goto (-57), 3) := by decide +kernel
theorem dX7_spread_99 : decode cX7_spread 99 = .ok (.iinc 1 1, 3) := by decide +kernel
theorem dX7_spread_102 : decode cX7_spread 102 = .ok (.goto (-100), 3) := by decide +kernel
theorem dX7_spread_105 : decode cX7_spread 105 = .ok (.return_, 1) := by decide +kernel
set_option maxRecDepth 20000 in
theorem ggX7_inform_X7_decide : GoodIn wsX7_inform wsX7_decide := goodIn_r _ [7, 8, 9, 1, 10, 11, 12, 13, 14, 15, 16, 17, 18, 19, 20, 21, 22, 23, 24, 25] (by decide +kernel) (by decide +kernel)
set_option maxRecDepth 20000 in
theorem gX7_inform_X7_decide : GoodIn wsX7_inform (wsV RX7 132 RX7 yX7_decide wsX7_decide) := goodIn_app (goodIn_of _ (by decide +kernel)) ggX7_inform_X7_decide
theorem dX7_inform_0 : decode cX7_inform 0 = .ok (.aload_n 0, 1) := by decide +kernel
theorem dX7_inform_1 : decode cX7_inform 1 = .ok (.getfield 38, 3) := by decide +kernel
theorem dX7_inform_4 : decode cX7_inform 4 = .ok (.iload_n 1, 1) := by decide +kernel
theorem dX7_inform_5 : decode cX7_inform 5 = .ok (.iaload, 1) := by decide +kernel
theorem dX7_inform_6 : decode cX7_inform 6 = .ok (.iconst 2, 1) := by decide +kernel
theorem dX7_inform_7 : decode cX7_inform 7 = .ok (.if_icmp .eq 4, 3) := by decide +kernel
theorem dX7_inform_10 : decode cX7_inform 10 = .ok (.return_, 1) := by decide +kernel
theorem dX7_inform_11 : decode cX7_inform 11 = .ok (.aload_n 0, 1) := by decide +kernel
theorem dX7_inform_12 : decode cX7_inform 12 = .ok (.getfield 44, 3) := by decide +kernel
theorem dX7_inform_15 : decode cX7_inform 15 = .ok (.iload_n 1, 1) := by decide +kernel
theorem dX7_inform_16 : decode cX7_inform 16 = .ok (.dup2, 1) := by decide +kernel
theorem dX7_inform_17 : decode cX7_inform 17 = .ok (.iaload, 1) := by decide +kernel
theorem dX7_inform_18 : decode cX7_inform 18 = .ok (.iconst 1, 1) := by decide +kernel
theorem dX7_inform_19 : decode cX7_inform 19 = .ok (.isub, 1) := by decide +kernel
theorem dX7_inform_20 : decode cX7_inform 20 = .ok (.iastore, 1) := by decide +kernel
theorem dX7_inform_21 : decode cX7_inform 21 = .ok (.iload_n 2, 1) := by decide +kernel
theorem dX7_inform_22 : decode cX7_inform 22 = .ok (.iload_n 1, 1) := by decide +kernel
theorem dX7_inform_23 : decode cX7_inform 23 = .ok (.iconst 1, 1) := by decide +kernel
theorem dX7_inform_24 : decode cX7_inform 24 = .ok (.iand, 1) := by decide +kernel
theorem dX7_inform_25 : decode cX7_inform 25 = .ok (.if_icmp .eq 12, 3) := by decide +kernel
theorem dX7_inform_28 : decode cX7_inform 28 = .ok (.aload_n 0, 1) := by decide +kernel
theorem dX7_inform_29 : decode cX7_inform 29 = .ok (.getfield 44, 3) := by decide +kernel
theorem dX7_inform_32 : decode cX7_inform 32 = .ok (.iload_n 1, 1) := by decide +kernel
theorem dX7_inform_33 : decode cX7_inform 33 = .ok (.iaload, 1) := by decide +kernel
theorem dX7_inform_34 : decode cX7_inform 34 = .ok (.ifCond .ne 10, 3) := by decide +kernel
theorem dX7_inform_37 : decode cX7_inform 37 = .ok (.aload_n 0, 1) := by decide +kernel
theorem dX7_inform_38 : decode cX7_inform 38 = .ok (.iload_n 1, 1) := by decide +kernel
theorem dX7_inform_39 : decode cX7_inform 39 = .ok (.iload_n 2, 1) := by decide +kernel
theorem dX7_inform_40 : decode cX7_inform 40 = .ok (.iload_n 3, 1) := by decide +kernel
theorem dX7_inform_41 : decode cX7_inform 41 = .ok (.invokevirtual 132, 3) := by decide +kernel
theorem dX7_inform_44 : decode cX7_inform 44 = .ok (.return_, 1) := by decide +kernel
set_option maxRecDepth 20000 in
theorem ggX7_tallyUp_J7_fill_53178 : GoodIn wsX7_tallyUp wsJ7_fill_53178 := goodIn_r _ [13] (by decide +kernel) (by decide +kernel)
set_option maxRecDepth 20000 in
theorem gX7_tallyUp_J7_fill_53178 : GoodIn wsX7_tallyUp (va_wsS RX7 94 yJ7_fill_53178 wsJ7_fill_53178) := goodIn_app (goodIn_of _ (by decide +kernel)) ggX7_tallyUp_J7_fill_53178
theorem dX7_tallyUp_0 : decode cX7_tallyUp 0 = .ok (.aload_n 0, 1) := by decide +kernel
theorem dX7_tallyUp_1 : decode cX7_tallyUp 1 = .ok (.getfield 32, 3) := by decide +kernel
theorem dX7_tallyUp_4 : decode cX7_tallyUp 4 = .ok (.iconst 0, 1) := by decide +kernel
theorem dX7_tallyUp_5 : decode cX7_tallyUp 5 = .ok (.invokestatic 94, 3) := by decide +kernel
theorem dX7_tallyUp_8 : decode cX7_tallyUp 8 = .ok (.aload_n 0, 1) := by decide +kernel
theorem dX7_tallyUp_9 : decode cX7_tallyUp 9 = .ok (.getfield 35, 3) := by decide +kernel
theorem dX7_tallyUp_12 : decode cX7_tallyUp 12 = .ok (.iconst (-1), 1) := by decide +kernel
theorem dX7_tallyUp_13 : decode cX7_tallyUp 13 = .ok (.invokestatic 94, 3) := by decide +kernel
theorem dX7_tallyUp_16 : decode cX7_tallyUp 16 = .ok (.iconst 0, 1) := by decide +kernel
theorem dX7_tallyUp_17 : decode cX7_tallyUp 17 = .ok (.istore_n 1, 1) := by decide +kernel
theorem dX7_tallyUp_18 : decode cX7_tallyUp 18 = .ok (.iload_n 1, 1) := by decide +kernel
theorem dX7_tallyUp_19 : decode cX7_tallyUp 19 = .ok (.iconst 2, 1) := by decide +kernel
theorem dX7_tallyUp_20 : decode cX7_tallyUp 20 = .ok (.aload_n 0, 1) := by decide +kernel
theorem dX7_tallyUp_21 : decode cX7_tallyUp 21 = .ok (.getfield 66, 3) := by decide +kernel
theorem dX7_tallyUp_24 : decode cX7_tallyUp 24 = .ok (.imul, 1) := by decide +kernel
theorem dX7_tallyUp_25 : decode cX7_tallyUp 25 = .ok (.if_icmp .ge 66, 3) := by decide +kernel
theorem dX7_tallyUp_28 : decode cX7_tallyUp 28 = .ok (.aload_n 0, 1) := by decide +kernel
theorem dX7_tallyUp_29 : decode cX7_tallyUp 29 = .ok (.getfield 38, 3) := by decide +kernel
theorem dX7_tallyUp_32 : decode cX7_tallyUp 32 = .ok (.iload_n 1, 1) := by decide +kernel
theorem dX7_tallyUp_33 : decode cX7_tallyUp 33 = .ok (.iaload, 1) := by decide +kernel
theorem dX7_tallyUp_34 : decode cX7_tallyUp 34 = .ok (.istore_n 2, 1) := by decide +kernel
theorem dX7_tallyUp_35 : decode cX7_tallyUp 35 = .ok (.iload_n 2, 1) := by decide +kernel
theorem dX7_tallyUp_36 : decode cX7_tallyUp 36 = .ok (.iconst (-1), 1) := by decide +kernel
theorem dX7_tallyUp_37 : decode cX7_tallyUp 37 = .ok (.if_icmp .ne 6, 3) := by decide +kernel
theorem dX7_tallyUp_40 : decode cX7_tallyUp 40 = .ok (.goto 45, 3) := by decide +kernel
theorem dX7_tallyUp_43 : decode cX7_tallyUp 43 = .ok (.aload_n 0, 1) := by decide +kernel
theorem dX7_tallyUp_44 : decode cX7_tallyUp 44 = .ok (.getfield 32, 3) := by decide +kernel
theorem dX7_tallyUp_47 : decode cX7_tallyUp 47 = .ok (.iload_n 2, 1) := by decide +kernel
theorem dX7_tallyUp_48 : decode cX7_tallyUp 48 = .ok (.iconst 2, 1) := by decide +kernel
theorem dX7_tallyUp_49 : decode cX7_tallyUp 49 = .ok (.imul, 1) := by decide +kernel
theorem dX7_tallyUp_50 : decode cX7_tallyUp 50 = .ok (.iload_n 1, 1) := by decide +kernel
theorem dX7_tallyUp_51 : decode cX7_tallyUp 51 = .ok (.iconst 1, 1) := by decide +kernel
theorem dX7_tallyUp_52 : decode cX7_tallyUp 52 = .ok (.iand, 1) := by decide +kernel
theorem dX7_tallyUp_53 : decode cX7_tallyUp 53 = .ok (.iadd, 1) := by decide +kernel
theorem dX7_tallyUp_54 : decode cX7_tallyUp 54 = .ok (.dup2, 1) := by decide +kernel
theorem dX7_tallyUp_55 : decode cX7_tallyUp 55 = .ok (.iaload, 1) := by decide +kernel
theorem dX7_tallyUp_56 : decode cX7_tallyUp 56 = .ok (.iconst 1, 1) := by decide +kernel
theorem dX7_tallyUp_57 : decode cX7_tallyUp 57 = .ok (.iadd, 1) := by decide +kernel
theorem dX7_tallyUp_58 : decode cX7_tallyUp 58 = .ok (.iastore, 1) := by decide +kernel
theorem dX7_tallyUp_59 : decode cX7_tallyUp 59 = .ok (.iload_n 2, 1) := by decide +kernel
theorem dX7_tallyUp_60 : decode cX7_tallyUp 60 = .ok (.iconst 2, 1) := by decide +kernel
theorem dX7_tallyUp_61 : decode cX7_tallyUp 61 = .ok (.if_icmp .eq 24, 3) := by decide +kernel
theorem dX7_tallyUp_64 : decode cX7_tallyUp 64 = .ok (.aload_n 0, 1) := by decide +kernel
theorem dX7_tallyUp_65 : decode cX7_tallyUp 65 = .ok (.getfield 35, 3) := by decide +kernel
theorem dX7_tallyUp_68 : decode cX7_tallyUp 68 = .ok (.iload_n 2, 1) := by decide +kernel
theorem dX7_tallyUp_69 : decode cX7_tallyUp 69 = .ok (.aload_n 0, 1) := by decide +kernel
theorem dX7_tallyUp_70 : decode cX7_tallyUp 70 = .ok (.getfield 35, 3) := by decide +kernel
theorem dX7_tallyUp_73 : decode cX7_tallyUp 73 = .ok (.iload_n 2, 1) := by decide +kernel
theorem dX7_tallyUp_74 : decode cX7_tallyUp 74 = .ok (.iaload, 1) := by decide +kernel
theorem dX7_tallyUp_75 : decode cX7_tallyUp 75 = .ok (.aload_n 0, 1) := by decide +kernel
theorem dX7_tallyUp_76 : decode cX7_tallyUp 76 = .ok (.getfield 41, 3) := by decide +kernel
theorem dX7_tallyUp_79 : decode cX7_tallyUp 79 = .ok (.iload_n 1, 1) := by decide +kernel
theorem dX7_tallyUp_80 : decode cX7_tallyUp 80 = .ok (.iaload, 1) := by decide +kernel
theorem dX7_tallyUp_81 : decode cX7_tallyUp 81 = .ok (.invokestatic 195, 3) := by decide +kernel
theorem dX7_tallyUp_84 : decode cX7_tallyUp 84 = .ok (.iastore, 1) := by decide +kernel
theorem dX7_tallyUp_85 : decode cX7_tallyUp 85 = .ok (.iinc 1 1, 3) := by decide +kernel
theorem dX7_tallyUp_88 : decode cX7_tallyUp 88 = .ok (.goto (-70), 3) := by decide +kernel
theorem dX7_tallyUp_91 : decode cX7_tallyUp 91 = .ok (.return_, 1) := by decide +kernel
set_option maxRecDepth 20000 in
theorem ggX7_indexOf_X8_fieldOf : GoodIn wsX7_indexOf wsX8_fieldOf := goodIn_r _ [9, 10, 40, 41, 42] (by decide +kernel) (by decide +kernel)
set_option maxRecDepth 20000 in
theorem gX7_indexOf_X8_fieldOf : GoodIn wsX7_indexOf (wsV RX7 157 RX8 yX8_fieldOf wsX8_fieldOf) := goodIn_app (goodIn_of _ (by decide +kernel)) ggX7_indexOf_X8_fieldOf
theorem dX7_indexOf_0 : decode cX7_indexOf 0 = .ok (.aload_n 0, 1) := by decide +kernel
theorem dX7_indexOf_1 : decode cX7_indexOf 1 = .ok (.getfield 54, 3) := by decide +kernel
theorem dX7_indexOf_4 : decode cX7_indexOf 4 = .ok (.ifCond .ne 5, 3) := by decide +kernel
theorem dX7_indexOf_7 : decode cX7_indexOf 7 = .ok (.iconst (-1), 1) := by decide +kernel
theorem dX7_indexOf_8 : decode cX7_indexOf 8 = .ok (.ireturn, 1) := by decide +kernel
theorem dX7_indexOf_9 : decode cX7_indexOf 9 = .ok (.iconst 0, 1) := by decide +kernel
theorem dX7_indexOf_10 : decode cX7_indexOf 10 = .ok (.istore_n 2, 1) := by decide +kernel
theorem dX7_indexOf_11 : decode cX7_indexOf 11 = .ok (.iconst 0, 1) := by decide +kernel
theorem dX7_indexOf_12 : decode cX7_indexOf 12 = .ok (.istore_n 3, 1) := by decide +kernel
theorem dX7_indexOf_13 : decode cX7_indexOf 13 = .ok (.iload_n 3, 1) := by decide +kernel
theorem dX7_indexOf_14 : decode cX7_indexOf 14 = .ok (.aload_n 0, 1) := by decide +kernel
theorem dX7_indexOf_15 : decode cX7_indexOf 15 = .ok (.getfield 50, 3) := by decide +kernel
theorem dX7_indexOf_18 : decode cX7_indexOf 18 = .ok (.getfield 73, 3) := by decide +kernel
theorem dX7_indexOf_21 : decode cX7_indexOf 21 = .ok (.if_icmp .ge 47, 3) := by decide +kernel
theorem dX7_indexOf_24 : decode cX7_indexOf 24 = .ok (.aload_n 1, 1) := by decide +kernel
theorem dX7_indexOf_25 : decode cX7_indexOf 25 = .ok (.iload_n 3, 1) := by decide +kernel
theorem dX7_indexOf_26 : decode cX7_indexOf 26 = .ok (.invokevirtual 157, 3) := by decide +kernel
theorem dX7_indexOf_29 : decode cX7_indexOf 29 = .ok (.istore 4, 2) := by decide +kernel
theorem dX7_indexOf_31 : decode cX7_indexOf 31 = .ok (.iload_n 2, 1) := by decide +kernel
theorem dX7_indexOf_32 : decode cX7_indexOf 32 = .ok (.iload 4, 2) := by decide +kernel
theorem dX7_indexOf_34 : decode cX7_indexOf 34 = .ok (.iconst (-1), 1) := by decide +kernel
theorem dX7_indexOf_35 : decode cX7_indexOf 35 = .ok (.if_icmp .ne 16, 3) := by decide +kernel
theorem dX7_indexOf_38 : decode cX7_indexOf 38 = .ok (.aload_n 0, 1) := by decide +kernel
theorem dX7_indexOf_39 : decode cX7_indexOf 39 = .ok (.getfield 50, 3) := by decide +kernel
theorem dX7_indexOf_42 : decode cX7_indexOf 42 = .ok (.getfield 78, 3) := by decide +kernel
theorem dX7_indexOf_45 : decode cX7_indexOf 45 = .ok (.getfield 115, 3) := by decide +kernel
theorem dX7_indexOf_48 : decode cX7_indexOf 48 = .ok (.goto 5, 3) := by decide +kernel
theorem dX7_indexOf_51 : decode cX7_indexOf 51 = .ok (.iload 4, 2) := by decide +kernel
theorem dX7_indexOf_53 : decode cX7_indexOf 53 = .ok (.aload_n 0, 1) := by decide +kernel
theorem dX7_indexOf_54 : decode cX7_indexOf 54 = .ok (.getfield 25, 3) := by decide +kernel
theorem dX7_indexOf_57 : decode cX7_indexOf 57 = .ok (.iload_n 3, 1) := by decide +kernel
theorem dX7_indexOf_58 : decode cX7_indexOf 58 = .ok (.iaload, 1) := by decide +kernel
theorem dX7_indexOf_59 : decode cX7_indexOf 59 = .ok (.imul, 1) := by decide +kernel
theorem dX7_indexOf_60 : decode cX7_indexOf 60 = .ok (.iadd, 1) := by decide +kernel
theorem dX7_indexOf_61 : decode cX7_indexOf 61 = .ok (.istore_n 2, 1) := by decide +kernel
theorem dX7_indexOf_62 : decode cX7_indexOf 62 = .ok (.iinc 3 1, 3) := by decide +kernel
theorem dX7_indexOf_65 : decode cX7_indexOf 65 = .ok (.goto (-52), 3) := by decide +kernel
theorem dX7_indexOf_68 : decode cX7_indexOf 68 = .ok (.iconst 2, 1) := by decide +kernel
theorem dX7_indexOf_69 : decode cX7_indexOf 69 = .ok (.iload_n 2, 1) := by decide +kernel
theorem dX7_indexOf_70 : decode cX7_indexOf 70 = .ok (.imul, 1) := by decide +kernel
theorem dX7_indexOf_71 : decode cX7_indexOf 71 = .ok (.aload_n 1, 1) := by decide +kernel
theorem dX7_indexOf_72 : decode cX7_indexOf 72 = .ok (.getfield 125, 3) := by decide +kernel
theorem dX7_indexOf_75 : decode cX7_indexOf 75 = .ok (.iadd, 1) := by decide +kernel
theorem dX7_indexOf_76 : decode cX7_indexOf 76 = .ok (.istore_n 3, 1) := by decide +kernel
theorem dX7_indexOf_77 : decode cX7_indexOf 77 = .ok (.iload_n 3, 1) := by decide +kernel
theorem dX7_indexOf_78 : decode cX7_indexOf 78 = .ok (.ifCond .lt 17, 3) := by decide +kernel
theorem dX7_indexOf_81 : decode cX7_indexOf 81 = .ok (.iload_n 3, 1) := by decide +kernel
theorem dX7_indexOf_82 : decode cX7_indexOf 82 = .ok (.iconst 2, 1) := by decide +kernel
theorem dX7_indexOf_83 : decode cX7_indexOf 83 = .ok (.aload_n 0, 1) := by decide +kernel
theorem dX7_indexOf_84 : decode cX7_indexOf 84 = .ok (.getfield 66, 3) := by decide +kernel
theorem dX7_indexOf_87 : decode cX7_indexOf 87 = .ok (.imul, 1) := by decide +kernel
theorem dX7_indexOf_88 : decode cX7_indexOf 88 = .ok (.if_icmp .ge 7, 3) := by decide +kernel
theorem dX7_indexOf_91 : decode cX7_indexOf 91 = .ok (.iload_n 3, 1) := by decide +kernel
theorem dX7_indexOf_92 : decode cX7_indexOf 92 = .ok (.goto 4, 3) := by decide +kernel
theorem dX7_indexOf_95 : decode cX7_indexOf 95 = .ok (.iconst (-1), 1) := by decide +kernel
theorem dX7_indexOf_96 : decode cX7_indexOf 96 = .ok (.ireturn, 1) := by decide +kernel
set_option maxRecDepth 20000 in
theorem ggX7_worthOf_X7_indexOf : GoodIn wsX7_worthOf wsX7_indexOf := goodIn_r _ [6, 7, 8, 9, 10, 11, 12, 13, 14, 15, 16, 17, 18, 19, 20, 21, 22, 23, 24, 25, 26, 27, 28, 29, 30, 31, 32, 33, 34, 35, 36, 37, 38, 39, 40, 41, 42, 43, 44, 45, 46, 47, 48] (by decide +kernel) (by decide +kernel)
set_option maxRecDepth 20000 in
theorem gX7_worthOf_X7_indexOf : GoodIn wsX7_worthOf (wsV RX7 200 RX7 yX7_indexOf wsX7_indexOf) := goodIn_app (goodIn_of _ (by decide +kernel)) ggX7_worthOf_X7_indexOf
theorem dX7_worthOf_0 : decode cX7_worthOf 0 = .ok (.aload_n 0, 1) := by decide +kernel
theorem dX7_worthOf_1 : decode cX7_worthOf 1 = .ok (.aload_n 1, 1) := by decide +kernel
theorem dX7_worthOf_2 : decode cX7_worthOf 2 = .ok (.invokevirtual 200, 3) := by decide +kernel
theorem dX7_worthOf_5 : decode cX7_worthOf 5 = .ok (.istore_n 2, 1) := by decide +kernel
theorem dX7_worthOf_6 : decode cX7_worthOf 6 = .ok (.iload_n 2, 1) := by decide +kernel
theorem dX7_worthOf_7 : decode cX7_worthOf 7 = .ok (.iconst (-1), 1) := by decide +kernel
theorem dX7_worthOf_8 : decode cX7_worthOf 8 = .ok (.if_icmp .ne 7, 3) := by decide +kernel
theorem dX7_worthOf_11 : decode cX7_worthOf 11 = .ok (.iconst (-1), 1) := by decide +kernel
theorem dX7_worthOf_12 : decode cX7_worthOf 12 = .ok (.goto 9, 3) := by decide +kernel
theorem dX7_worthOf_15 : decode cX7_worthOf 15 = .ok (.aload_n 0, 1) := by decide +kernel
theorem dX7_worthOf_16 : decode cX7_worthOf 16 = .ok (.getfield 38, 3) := by decide +kernel
theorem dX7_worthOf_19 : decode cX7_worthOf 19 = .ok (.iload_n 2, 1) := by decide +kernel
theorem dX7_worthOf_20 : decode cX7_worthOf 20 = .ok (.iaload, 1) := by decide +kernel
theorem dX7_worthOf_21 : decode cX7_worthOf 21 = .ok (.ireturn, 1) := by decide +kernel
set_option maxRecDepth 20000 in
theorem ggX7_deepOf_X7_indexOf : GoodIn wsX7_deepOf wsX7_indexOf := goodIn_r _ [6, 7, 8, 9, 10, 11, 12, 13, 14, 15, 16, 17, 18, 19, 20, 21, 22, 23, 24, 25, 26, 27, 28, 29, 30, 31, 32, 33, 34, 35, 36, 37, 38, 39, 40, 41, 42, 43, 44, 45, 46, 47, 48] (by decide +kernel) (by decide +kernel)
set_option maxRecDepth 20000 in
theorem gX7_deepOf_X7_indexOf : GoodIn wsX7_deepOf (wsV RX7 200 RX7 yX7_indexOf wsX7_indexOf) := goodIn_app (goodIn_of _ (by decide +kernel)) ggX7_deepOf_X7_indexOf
theorem dX7_deepOf_0 : decode cX7_deepOf 0 = .ok (.aload_n 0, 1) := by decide +kernel
theorem dX7_deepOf_1 : decode cX7_deepOf 1 = .ok (.aload_n 1, 1) := by decide +kernel
theorem dX7_deepOf_2 : decode cX7_deepOf 2 = .ok (.invokevirtual 200, 3) := by decide +kernel
theorem dX7_deepOf_5 : decode cX7_deepOf 5 = .ok (.istore_n 2, 1) := by decide +kernel
theorem dX7_deepOf_6 : decode cX7_deepOf 6 = .ok (.iload_n 2, 1) := by decide +kernel
theorem dX7_deepOf_7 : decode cX7_deepOf 7 = .ok (.iconst (-1), 1) := by decide +kernel
theorem dX7_deepOf_8 : decode cX7_deepOf 8 = .ok (.if_icmp .ne 7, 3) := by decide +kernel
theorem dX7_deepOf_11 : decode cX7_deepOf 11 = .ok (.iconst (-1), 1) := by decide +kernel
theorem dX7_deepOf_12 : decode cX7_deepOf 12 = .ok (.goto 9, 3) := by decide +kernel
theorem dX7_deepOf_15 : decode cX7_deepOf 15 = .ok (.aload_n 0, 1) := by decide +kernel
theorem dX7_deepOf_16 : decode cX7_deepOf 16 = .ok (.getfield 41, 3) := by decide +kernel
theorem dX7_deepOf_19 : decode cX7_deepOf 19 = .ok (.iload_n 2, 1) := by decide +kernel
theorem dX7_deepOf_20 : decode cX7_deepOf 20 = .ok (.iaload, 1) := by decide +kernel
theorem dX7_deepOf_21 : decode cX7_deepOf 21 = .ok (.ireturn, 1) := by decide +kernel
set_option maxRecDepth 20000 in
theorem ggX7_bestMove_X7_indexOf : GoodIn wsX7_bestMove wsX7_indexOf := goodIn_r _ [8, 9, 3, 10, 11, 12, 13, 14, 15, 16, 17, 87, 88, 89, 90, 91, 92, 93, 94, 95, 96, 97, 98, 99, 100, 101, 102, 103, 104, 105, 106, 107, 108, 109, 110, 114, 115, 116, 117, 118, 111, 112, 113] (by decide +kernel) (by decide +kernel)
set_option maxRecDepth 20000 in
theorem gX7_bestMove_X7_indexOf : GoodIn wsX7_bestMove (wsV RX7 200 RX7 yX7_indexOf wsX7_indexOf) := goodIn_app (goodIn_of _ (by decide +kernel)) ggX7_bestMove_X7_indexOf
set_option maxRecDepth 20000 in
theorem ggX7_bestMove_X7_deepKept : GoodIn wsX7_bestMove wsX7_deepKept := goodIn_r _ [21, 3, 11, 1, 2, 22, 23, 24, 25, 26, 27, 28, 29, 30, 31, 32, 33, 34, 35, 13, 14, 15, 16, 17, 36, 37, 38, 39, 40, 41, 42, 43, 44, 45, 46, 47, 48, 49, 50, 51, 12, 52, 53, 54, 55, 56, 57, 58, 59, 60, 61, 62, 63, 64, 65, 66, 67, 68, 69, 70, 71, 72, 73, 74, 75, 76, 77, 78, 79, 80, 81, 82, 83, 84, 85, 7, 86, 10, 87, 88, 89, 90, 91, 92, 93, 94, 95, 96, 97, 98, 99, 100, 101, 102, 103, 104, 105, 106, 107, 108, 109, 110, 111, 112, 113, 119, 120, 121, 122, 123, 114, 115, 116, 117, 118] (by decide +kernel) (by decide +kernel)
set_option maxRecDepth 20000 in
theorem gX7_bestMove_X7_deepKept : GoodIn wsX7_bestMove (wsV RX7 203 RX7 yX7_deepKept wsX7_deepKept) := goodIn_app (goodIn_of _ (by decide +kernel)) ggX7_bestMove_X7_deepKept
theorem dX7_bestMove_0 : decode cX7_bestMove 0 = .ok (.aload_n 0, 1) := by decide +kernel
theorem dX7_bestMove_1 : decode cX7_bestMove 1 = .ok (.aload_n 1, 1) := by decide +kernel
theorem dX7_bestMove_2 : decode cX7_bestMove 2 = .ok (.invokevirtual 200, 3) := by decide +kernel
theorem dX7_bestMove_5 : decode cX7_bestMove 5 = .ok (.istore_n 2, 1) := by decide +kernel
theorem dX7_bestMove_6 : decode cX7_bestMove 6 = .ok (.iload_n 2, 1) := by decide +kernel
theorem dX7_bestMove_7 : decode cX7_bestMove 7 = .ok (.iconst (-1), 1) := by decide +kernel
theorem dX7_bestMove_8 : decode cX7_bestMove 8 = .ok (.if_icmp .eq 22, 3) := by decide +kernel
theorem dX7_bestMove_11 : decode cX7_bestMove 11 = .ok (.aload_n 0, 1) := by decide +kernel
theorem dX7_bestMove_12 : decode cX7_bestMove 12 = .ok (.getfield 38, 3) := by decide +kernel
theorem dX7_bestMove_15 : decode cX7_bestMove 15 = .ok (.iload_n 2, 1) := by decide +kernel
theorem dX7_bestMove_16 : decode cX7_bestMove 16 = .ok (.iaload, 1) := by decide +kernel
theorem dX7_bestMove_17 : decode cX7_bestMove 17 = .ok (.iconst 2, 1) := by decide +kernel
theorem dX7_bestMove_18 : decode cX7_bestMove 18 = .ok (.if_icmp .eq 14, 3) := by decide +kernel
theorem dX7_bestMove_21 : decode cX7_bestMove 21 = .ok (.aload_n 0, 1) := by decide +kernel
theorem dX7_bestMove_22 : decode cX7_bestMove 22 = .ok (.getfield 41, 3) := by decide +kernel
theorem dX7_bestMove_25 : decode cX7_bestMove 25 = .ok (.iload_n 2, 1) := by decide +kernel
theorem dX7_bestMove_26 : decode cX7_bestMove 26 = .ok (.iaload, 1) := by decide +kernel
theorem dX7_bestMove_27 : decode cX7_bestMove 27 = .ok (.ifCond .ne 5, 3) := by decide +kernel
theorem dX7_bestMove_30 : decode cX7_bestMove 30 = .ok (.iconst (-1), 1) := by decide +kernel
theorem dX7_bestMove_31 : decode cX7_bestMove 31 = .ok (.ireturn, 1) := by decide +kernel
theorem dX7_bestMove_32 : decode cX7_bestMove 32 = .ok (.iconst (-1), 1) := by decide +kernel
theorem dX7_bestMove_33 : decode cX7_bestMove 33 = .ok (.istore_n 3, 1) := by decide +kernel
theorem dX7_bestMove_34 : decode cX7_bestMove 34 = .ok (.iconst (-1), 1) := by decide +kernel
theorem dX7_bestMove_35 : decode cX7_bestMove 35 = .ok (.istore 4, 2) := by decide +kernel
theorem dX7_bestMove_37 : decode cX7_bestMove 37 = .ok (.iconst 0, 1) := by decide +kernel
theorem dX7_bestMove_38 : decode cX7_bestMove 38 = .ok (.istore 5, 2) := by decide +kernel
theorem dX7_bestMove_40 : decode cX7_bestMove 40 = .ok (.iload 5, 2) := by decide +kernel
theorem dX7_bestMove_42 : decode cX7_bestMove 42 = .ok (.bipush 32, 2) := by decide +kernel
