theorem fX7_setUp_0 : DS.Facts cX7_setUp 0 [(.iconst 0, 1), (.istore_n 1, 1), (.iload_n 1, 1), (.aload_n 0, 1), (.getfield 50, 3), (.getfield 73, 3), (.if_icmp .ge 18, 3), (.aload_n 0, 1), (.getfield 12, 3), (.iload_n 1, 1), (.iconst (-1), 1), (.invokevirtual 139, 3), (.iinc 1 1, 3), (.goto (-23), 3), (.iconst 0, 1), (.istore_n 1, 1), (.iload_n 1, 1), (.aload_n 0, 1), (.getfield 50, 3), (.getfield 73, 3), (.if_icmp .ge 68, 3), (.aload_n 0, 1), (.getfield 29, 3), (.iload_n 1, 1)] := DS.facts 0 _ (by decide +kernel) (by decide +kernel)
theorem dX7_setUp_0 : decode cX7_setUp 0 = .ok (.iconst 0, 1) := fX7_setUp_0.1
theorem dX7_setUp_1 : decode cX7_setUp 1 = .ok (.istore_n 1, 1) := fX7_setUp_0.2.1
theorem dX7_setUp_2 : decode cX7_setUp 2 = .ok (.iload_n 1, 1) := fX7_setUp_0.2.2.1
theorem dX7_setUp_3 : decode cX7_setUp 3 = .ok (.aload_n 0, 1) := fX7_setUp_0.2.2.2.1
theorem dX7_setUp_4 : decode cX7_setUp 4 = .ok (.getfield 50, 3) := fX7_setUp_0.2.2.2.2.1
theorem dX7_setUp_7 : decode cX7_setUp 7 = .ok (.getfield 73, 3) := fX7_setUp_0.2.2.2.2.2.1
theorem dX7_setUp_10 : decode cX7_setUp 10 = .ok (.if_icmp .ge 18, 3) := fX7_setUp_0.2.2.2.2.2.2.1
theorem dX7_setUp_13 : decode cX7_setUp 13 = .ok (.aload_n 0, 1) := fX7_setUp_0.2.2.2.2.2.2.2.1
theorem dX7_setUp_14 : decode cX7_setUp 14 = .ok (.getfield 12, 3) := fX7_setUp_0.2.2.2.2.2.2.2.2.1
theorem dX7_setUp_17 : decode cX7_setUp 17 = .ok (.iload_n 1, 1) := fX7_setUp_0.2.2.2.2.2.2.2.2.2.1
theorem dX7_setUp_18 : decode cX7_setUp 18 = .ok (.iconst (-1), 1) := fX7_setUp_0.2.2.2.2.2.2.2.2.2.2.1
theorem dX7_setUp_19 : decode cX7_setUp 19 = .ok (.invokevirtual 139, 3) := fX7_setUp_0.2.2.2.2.2.2.2.2.2.2.2.1
theorem dX7_setUp_22 : decode cX7_setUp 22 = .ok (.iinc 1 1, 3) := fX7_setUp_0.2.2.2.2.2.2.2.2.2.2.2.2.1
theorem dX7_setUp_25 : decode cX7_setUp 25 = .ok (.goto (-23), 3) := fX7_setUp_0.2.2.2.2.2.2.2.2.2.2.2.2.2.1
theorem dX7_setUp_28 : decode cX7_setUp 28 = .ok (.iconst 0, 1) := fX7_setUp_0.2.2.2.2.2.2.2.2.2.2.2.2.2.2.1
theorem dX7_setUp_29 : decode cX7_setUp 29 = .ok (.istore_n 1, 1) := fX7_setUp_0.2.2.2.2.2.2.2.2.2.2.2.2.2.2.2.1
theorem dX7_setUp_30 : decode cX7_setUp 30 = .ok (.iload_n 1, 1) := fX7_setUp_0.2.2.2.2.2.2.2.2.2.2.2.2.2.2.2.2.1
theorem dX7_setUp_31 : decode cX7_setUp 31 = .ok (.aload_n 0, 1) := fX7_setUp_0.2.2.2.2.2.2.2.2.2.2.2.2.2.2.2.2.2.1
theorem dX7_setUp_32 : decode cX7_setUp 32 = .ok (.getfield 50, 3) := fX7_setUp_0.2.2.2.2.2.2.2.2.2.2.2.2.2.2.2.2.2.2.1
theorem dX7_setUp_35 : decode cX7_setUp 35 = .ok (.getfield 73, 3) := fX7_setUp_0.2.2.2.2.2.2.2.2.2.2.2.2.2.2.2.2.2.2.2.1
theorem dX7_setUp_38 : decode cX7_setUp 38 = .ok (.if_icmp .ge 68, 3) := fX7_setUp_0.2.2.2.2.2.2.2.2.2.2.2.2.2.2.2.2.2.2.2.2.1
theorem dX7_setUp_41 : decode cX7_setUp 41 = .ok (.aload_n 0, 1) := fX7_setUp_0.2.2.2.2.2.2.2.2.2.2.2.2.2.2.2.2.2.2.2.2.2.1
theorem dX7_setUp_42 : decode cX7_setUp 42 = .ok (.getfield 29, 3) := fX7_setUp_0.2.2.2.2.2.2.2.2.2.2.2.2.2.2.2.2.2.2.2.2.2.2.1
theorem dX7_setUp_45 : decode cX7_setUp 45 = .ok (.iload_n 1, 1) := fX7_setUp_0.2.2.2.2.2.2.2.2.2.2.2.2.2.2.2.2.2.2.2.2.2.2.2.1
theorem fX7_setUp_46 : DS.Facts cX7_setUp 46 [(.iaload, 1), (.istore_n 2, 1), (.iload_n 2, 1), (.aload_n 0, 1), (.getfield 50, 3), (.getfield 78, 3), (.getfield 115, 3), (.if_icmp .lt 6, 3), (.goto 38, 3), (.aload_n 0, 1), (.getfield 12, 3), (.iload_n 2, 1), (.invokevirtual 142, 3), (.iconst (-1), 1), (.if_icmp .ne 15, 3), (.aload_n 0, 1), (.getfield 50, 3), (.iload_n 2, 1), (.iload_n 1, 1), (.invokevirtual 146, 3), (.ifCond .ne 5, 3), (.iconst 0, 1), (.ireturn, 1), (.aload_n 0, 1)] := DS.facts 46 _ (by decide +kernel) (by decide +kernel)
theorem dX7_setUp_46 : decode cX7_setUp 46 = .ok (.iaload, 1) := fX7_setUp_46.1
theorem dX7_setUp_47 : decode cX7_setUp 47 = .ok (.istore_n 2, 1) := fX7_setUp_46.2.1
theorem dX7_setUp_48 : decode cX7_setUp 48 = .ok (.iload_n 2, 1) := fX7_setUp_46.2.2.1
theorem dX7_setUp_49 : decode cX7_setUp 49 = .ok (.aload_n 0, 1) := fX7_setUp_46.2.2.2.1
theorem dX7_setUp_50 : decode cX7_setUp 50 = .ok (.getfield 50, 3) := fX7_setUp_46.2.2.2.2.1
theorem dX7_setUp_53 : decode cX7_setUp 53 = .ok (.getfield 78, 3) := fX7_setUp_46.2.2.2.2.2.1
theorem dX7_setUp_56 : decode cX7_setUp 56 = .ok (.getfield 115, 3) := fX7_setUp_46.2.2.2.2.2.2.1
theorem dX7_setUp_59 : decode cX7_setUp 59 = .ok (.if_icmp .lt 6, 3) := fX7_setUp_46.2.2.2.2.2.2.2.1
theorem dX7_setUp_62 : decode cX7_setUp 62 = .ok (.goto 38, 3) := fX7_setUp_46.2.2.2.2.2.2.2.2.1
theorem dX7_setUp_65 : decode cX7_setUp 65 = .ok (.aload_n 0, 1) := fX7_setUp_46.2.2.2.2.2.2.2.2.2.1
theorem dX7_setUp_66 : decode cX7_setUp 66 = .ok (.getfield 12, 3) := fX7_setUp_46.2.2.2.2.2.2.2.2.2.2.1
theorem dX7_setUp_69 : decode cX7_setUp 69 = .ok (.iload_n 2, 1) := fX7_setUp_46.2.2.2.2.2.2.2.2.2.2.2.1
theorem dX7_setUp_70 : decode cX7_setUp 70 = .ok (.invokevirtual 142, 3) := fX7_setUp_46.2.2.2.2.2.2.2.2.2.2.2.2.1
theorem dX7_setUp_73 : decode cX7_setUp 73 = .ok (.iconst (-1), 1) := fX7_setUp_46.2.2.2.2.2.2.2.2.2.2.2.2.2.1
theorem dX7_setUp_74 : decode cX7_setUp 74 = .ok (.if_icmp .ne 15, 3) := fX7_setUp_46.2.2.2.2.2.2.2.2.2.2.2.2.2.2.1
theorem dX7_setUp_77 : decode cX7_setUp 77 = .ok (.aload_n 0, 1) := fX7_setUp_46.2.2.2.2.2.2.2.2.2.2.2.2.2.2.2.1
theorem dX7_setUp_78 : decode cX7_setUp 78 = .ok (.getfield 50, 3) := fX7_setUp_46.2.2.2.2.2.2.2.2.2.2.2.2.2.2.2.2.1
theorem dX7_setUp_81 : decode cX7_setUp 81 = .ok (.iload_n 2, 1) := fX7_setUp_46.2.2.2.2.2.2.2.2.2.2.2.2.2.2.2.2.2.1
theorem dX7_setUp_82 : decode cX7_setUp 82 = .ok (.iload_n 1, 1) := fX7_setUp_46.2.2.2.2.2.2.2.2.2.2.2.2.2.2.2.2.2.2.1
theorem dX7_setUp_83 : decode cX7_setUp 83 = .ok (.invokevirtual 146, 3) := fX7_setUp_46.2.2.2.2.2.2.2.2.2.2.2.2.2.2.2.2.2.2.2.1
theorem dX7_setUp_86 : decode cX7_setUp 86 = .ok (.ifCond .ne 5, 3) := fX7_setUp_46.2.2.2.2.2.2.2.2.2.2.2.2.2.2.2.2.2.2.2.2.1
theorem dX7_setUp_89 : decode cX7_setUp 89 = .ok (.iconst 0, 1) := fX7_setUp_46.2.2.2.2.2.2.2.2.2.2.2.2.2.2.2.2.2.2.2.2.2.1
theorem dX7_setUp_90 : decode cX7_setUp 90 = .ok (.ireturn, 1) := fX7_setUp_46.2.2.2.2.2.2.2.2.2.2.2.2.2.2.2.2.2.2.2.2.2.2.1
theorem dX7_setUp_91 : decode cX7_setUp 91 = .ok (.aload_n 0, 1) := fX7_setUp_46.2.2.2.2.2.2.2.2.2.2.2.2.2.2.2.2.2.2.2.2.2.2.2.1
theorem fX7_setUp_92 : DS.Facts cX7_setUp 92 [(.getfield 12, 3), (.iload_n 1, 1), (.iload_n 2, 1), (.invokevirtual 139, 3), (.iinc 1 1, 3), (.goto (-73), 3), (.iconst 1, 1), (.ireturn, 1)] := DS.facts 92 _ (by decide +kernel) (by decide +kernel)
theorem dX7_setUp_92 : decode cX7_setUp 92 = .ok (.getfield 12, 3) := fX7_setUp_92.1
theorem dX7_setUp_95 : decode cX7_setUp 95 = .ok (.iload_n 1, 1) := fX7_setUp_92.2.1
theorem dX7_setUp_96 : decode cX7_setUp 96 = .ok (.iload_n 2, 1) := fX7_setUp_92.2.2.1
theorem dX7_setUp_97 : decode cX7_setUp 97 = .ok (.invokevirtual 139, 3) := fX7_setUp_92.2.2.2.1
theorem dX7_setUp_100 : decode cX7_setUp 100 = .ok (.iinc 1 1, 3) := fX7_setUp_92.2.2.2.2.1
theorem dX7_setUp_103 : decode cX7_setUp 103 = .ok (.goto (-73), 3) := fX7_setUp_92.2.2.2.2.2.1
theorem dX7_setUp_106 : decode cX7_setUp 106 = .ok (.iconst 1, 1) := fX7_setUp_92.2.2.2.2.2.2.1
theorem dX7_setUp_107 : decode cX7_setUp 107 = .ok (.ireturn, 1) := fX7_setUp_92.2.2.2.2.2.2.2.1
set_option maxRecDepth 20000 in
theorem ggX7_linkMoves_X6_room : GoodIn wsX7_linkMoves wsX6_room := goodIn_r _ [9, 10, 11, 12, 13, 14, 15, 16, 17, 18, 19, 20, 21, 22, 23, 24, 25, 26, 27, 28, 29, 30, 31, 32, 33, 8, 34, 97, 98, 99, 100, 101, 102, 103, 104, 105, 109, 110, 111, 112, 113, 106, 107, 108, 114, 115, 116, 117, 118] (by decide +kernel) (by decide +kernel)
set_option maxRecDepth 20000 in
theorem gX7_linkMoves_X6_room : GoodIn wsX7_linkMoves (wsV RX7 153 RX6 yX6_room wsX6_room) := goodIn_app (goodIn_of _ (by decide +kernel)) ggX7_linkMoves_X6_room
set_option maxRecDepth 20000 in
theorem ggX7_linkMoves_X8_fieldOf : GoodIn wsX7_linkMoves wsX8_fieldOf := goodIn_r _ [17, 18, 106, 107, 108] (by decide +kernel) (by decide +kernel)
set_option maxRecDepth 20000 in
theorem gX7_linkMoves_X8_fieldOf : GoodIn wsX7_linkMoves (wsV RX7 157 RX8 yX8_fieldOf wsX8_fieldOf) := goodIn_app (goodIn_of _ (by decide +kernel)) ggX7_linkMoves_X8_fieldOf
set_option maxRecDepth 20000 in
theorem ggX7_linkMoves_X0_beside : GoodIn wsX7_linkMoves wsX0_beside := goodIn_r _ [23, 24, 25, 114, 115, 116, 117, 118] (by decide +kernel) (by decide +kernel)
set_option maxRecDepth 20000 in
theorem gX7_linkMoves_X0_beside : GoodIn wsX7_linkMoves (wsV RX7 160 RX0 yX0_beside wsX0_beside) := goodIn_app (goodIn_of _ (by decide +kernel)) ggX7_linkMoves_X0_beside
set_option maxRecDepth 20000 in
theorem ggX7_linkMoves_X6_findVictims : GoodIn wsX7_linkMoves wsX6_findVictims := goodIn_r _ [40, 41, 42, 12, 43, 44, 45, 46, 8, 47, 48, 13, 14, 15, 16, 17, 18, 49, 50, 51, 52, 30, 19, 20, 21, 22, 23, 24, 25, 26, 27, 28, 29, 53, 54, 55, 56, 57, 10, 11, 58, 59, 60, 61, 62, 63, 64, 65, 66, 97, 98, 99, 100, 101, 102, 103, 104, 105, 106, 107, 108, 114, 115, 116, 117, 118, 109, 110, 111, 112, 113] (by decide +kernel) (by decide +kernel)
set_option maxRecDepth 20000 in
theorem gX7_linkMoves_X6_findVictims : GoodIn wsX7_linkMoves (wsV RX7 164 RX6 yX6_findVictims wsX6_findVictims) := goodIn_app (goodIn_of _ (by decide +kernel)) ggX7_linkMoves_X6_findVictims
set_option maxRecDepth 20000 in
theorem ggX7_linkMoves_X7_behindMove : GoodIn wsX7_linkMoves wsX7_behindMove := goodIn_r _ [71, 72, 1, 35, 14, 15, 16, 17, 18, 82, 83, 84, 85, 86, 87, 88, 89, 90, 91, 92, 93, 94, 95, 96, 97, 98, 99, 100, 101, 102, 103, 104, 105, 114, 115, 116, 117, 118, 106, 107, 108] (by decide +kernel) (by decide +kernel)
set_option maxRecDepth 20000 in
theorem gX7_linkMoves_X7_behindMove : GoodIn wsX7_linkMoves (wsV RX7 167 RX7 yX7_behindMove wsX7_behindMove) := goodIn_app (goodIn_of _ (by decide +kernel)) ggX7_linkMoves_X7_behindMove
set_option maxRecDepth 20000 in
theorem ggX7_linkMoves_X2_add : GoodIn wsX7_linkMoves wsX2_add := goodIn_r _ [77, 78, 79, 80, 81, 119, 120, 121, 122] (by decide +kernel) (by decide +kernel)
set_option maxRecDepth 20000 in
theorem gX7_linkMoves_X2_add : GoodIn wsX7_linkMoves (wsV RX7 171 RX2 yX2_add wsX2_add) := goodIn_app (goodIn_of _ (by decide +kernel)) ggX7_linkMoves_X2_add
theorem fX7_linkMoves_0 : DS.Facts cX7_linkMoves 0 [(.iconst 0, 1), (.istore_n 2, 1), (.iload_n 2, 1), (.aload_n 0, 1), (.getfield 50, 3), (.getfield 73, 3), (.if_icmp .ge 145, 3), (.aload_n 0, 1), (.getfield 50, 3), (.getfield 150, 3), (.iload_n 2, 1), (.iaload, 1), (.aload_n 0, 1), (.getfield 12, 3), (.getfield 125, 3), (.if_icmp .eq 6, 3), (.goto 117, 3), (.iconst 0, 1), (.istore_n 3, 1), (.iload_n 3, 1), (.iconst 4, 1), (.if_icmp .ge 110, 3), (.aload_n 0, 1), (.getfield 50, 3)] := DS.facts 0 _ (by decide +kernel) (by decide +kernel)
theorem dX7_linkMoves_0 : decode cX7_linkMoves 0 = .ok (.iconst 0, 1) := fX7_linkMoves_0.1
theorem dX7_linkMoves_1 : decode cX7_linkMoves 1 = .ok (.istore_n 2, 1) := fX7_linkMoves_0.2.1
theorem dX7_linkMoves_2 : decode cX7_linkMoves 2 = .ok (.iload_n 2, 1) := fX7_linkMoves_0.2.2.1
theorem dX7_linkMoves_3 : decode cX7_linkMoves 3 = .ok (.aload_n 0, 1) := fX7_linkMoves_0.2.2.2.1
theorem dX7_linkMoves_4 : decode cX7_linkMoves 4 = .ok (.getfield 50, 3) := fX7_linkMoves_0.2.2.2.2.1
theorem dX7_linkMoves_7 : decode cX7_linkMoves 7 = .ok (.getfield 73, 3) := fX7_linkMoves_0.2.2.2.2.2.1
theorem dX7_linkMoves_10 : decode cX7_linkMoves 10 = .ok (.if_icmp .ge 145, 3) := fX7_linkMoves_0.2.2.2.2.2.2.1
theorem dX7_linkMoves_13 : decode cX7_linkMoves 13 = .ok (.aload_n 0, 1) := fX7_linkMoves_0.2.2.2.2.2.2.2.1
theorem dX7_linkMoves_14 : decode cX7_linkMoves 14 = .ok (.getfield 50, 3) := fX7_linkMoves_0.2.2.2.2.2.2.2.2.1
theorem dX7_linkMoves_17 : decode cX7_linkMoves 17 = .ok (.getfield 150, 3) := fX7_linkMoves_0.2.2.2.2.2.2.2.2.2.1
theorem dX7_linkMoves_20 : decode cX7_linkMoves 20 = .ok (.iload_n 2, 1) := fX7_linkMoves_0.2.2.2.2.2.2.2.2.2.2.1
theorem dX7_linkMoves_21 : decode cX7_linkMoves 21 = .ok (.iaload, 1) := fX7_linkMoves_0.2.2.2.2.2.2.2.2.2.2.2.1
theorem dX7_linkMoves_22 : decode cX7_linkMoves 22 = .ok (.aload_n 0, 1) := fX7_linkMoves_0.2.2.2.2.2.2.2.2.2.2.2.2.1
theorem dX7_linkMoves_23 : decode cX7_linkMoves 23 = .ok (.getfield 12, 3) := fX7_linkMoves_0.2.2.2.2.2.2.2.2.2.2.2.2.2.1
theorem dX7_linkMoves_26 : decode cX7_linkMoves 26 = .ok (.getfield 125, 3) := fX7_linkMoves_0.2.2.2.2.2.2.2.2.2.2.2.2.2.2.1
theorem dX7_linkMoves_29 : decode cX7_linkMoves 29 = .ok (.if_icmp .eq 6, 3) := fX7_linkMoves_0.2.2.2.2.2.2.2.2.2.2.2.2.2.2.2.1
theorem dX7_linkMoves_32 : decode cX7_linkMoves 32 = .ok (.goto 117, 3) := fX7_linkMoves_0.2.2.2.2.2.2.2.2.2.2.2.2.2.2.2.2.1
theorem dX7_linkMoves_35 : decode cX7_linkMoves 35 = .ok (.iconst 0, 1) := fX7_linkMoves_0.2.2.2.2.2.2.2.2.2.2.2.2.2.2.2.2.2.1
theorem dX7_linkMoves_36 : decode cX7_linkMoves 36 = .ok (.istore_n 3, 1) := fX7_linkMoves_0.2.2.2.2.2.2.2.2.2.2.2.2.2.2.2.2.2.2.1
theorem dX7_linkMoves_37 : decode cX7_linkMoves 37 = .ok (.iload_n 3, 1) := fX7_linkMoves_0.2.2.2.2.2.2.2.2.2.2.2.2.2.2.2.2.2.2.2.1
theorem dX7_linkMoves_38 : decode cX7_linkMoves 38 = .ok (.iconst 4, 1) := fX7_linkMoves_0.2.2.2.2.2.2.2.2.2.2.2.2.2.2.2.2.2.2.2.2.1
theorem dX7_linkMoves_39 : decode cX7_linkMoves 39 = .ok (.if_icmp .ge 110, 3) := fX7_linkMoves_0.2.2.2.2.2.2.2.2.2.2.2.2.2.2.2.2.2.2.2.2.2.1
theorem dX7_linkMoves_42 : decode cX7_linkMoves 42 = .ok (.aload_n 0, 1) := fX7_linkMoves_0.2.2.2.2.2.2.2.2.2.2.2.2.2.2.2.2.2.2.2.2.2.2.1
theorem dX7_linkMoves_43 : decode cX7_linkMoves 43 = .ok (.getfield 50, 3) := fX7_linkMoves_0.2.2.2.2.2.2.2.2.2.2.2.2.2.2.2.2.2.2.2.2.2.2.2.1
theorem fX7_linkMoves_46 : DS.Facts cX7_linkMoves 46 [(.aload_n 0, 1), (.getfield 12, 3), (.iload_n 2, 1), (.iload_n 3, 1), (.invokevirtual 153, 3), (.istore 4, 2), (.aload_n 0, 1), (.getfield 12, 3), (.iload_n 2, 1), (.invokevirtual 157, 3), (.istore 5, 2), (.iconst 1, 1), (.istore 6, 2), (.iload 6, 2), (.iload 4, 2), (.if_icmp .gt 69, 3), (.aload_n 0, 1), (.getfield 50, 3), (.getfield 78, 3), (.iload 5, 2), (.iload_n 3, 1), (.invokevirtual 160, 3), (.istore 5, 2), (.aload_n 0, 1)] := DS.facts 46 _ (by decide +kernel) (by decide +kernel)
theorem dX7_linkMoves_46 : decode cX7_linkMoves 46 = .ok (.aload_n 0, 1) := fX7_linkMoves_46.1
theorem dX7_linkMoves_47 : decode cX7_linkMoves 47 = .ok (.getfield 12, 3) := fX7_linkMoves_46.2.1
theorem dX7_linkMoves_50 : decode cX7_linkMoves 50 = .ok (.iload_n 2, 1) := fX7_linkMoves_46.2.2.1
theorem dX7_linkMoves_51 : decode cX7_linkMoves 51 = .ok (.iload_n 3, 1) := fX7_linkMoves_46.2.2.2.1
theorem dX7_linkMoves_52 : decode cX7_linkMoves 52 = .ok (.invokevirtual 153, 3) := fX7_linkMoves_46.2.2.2.2.1
theorem dX7_linkMoves_55 : decode cX7_linkMoves 55 = .ok (.istore 4, 2) := fX7_linkMoves_46.2.2.2.2.2.1
theorem dX7_linkMoves_57 : decode cX7_linkMoves 57 = .ok (.aload_n 0, 1) := fX7_linkMoves_46.2.2.2.2.2.2.1
theorem dX7_linkMoves_58 : decode cX7_linkMoves 58 = .ok (.getfield 12, 3) := fX7_linkMoves_46.2.2.2.2.2.2.2.1
theorem dX7_linkMoves_61 : decode cX7_linkMoves 61 = .ok (.iload_n 2, 1) := fX7_linkMoves_46.2.2.2.2.2.2.2.2.1
theorem dX7_linkMoves_62 : decode cX7_linkMoves 62 = .ok (.invokevirtual 157, 3) := fX7_linkMoves_46.2.2.2.2.2.2.2.2.2.1
theorem dX7_linkMoves_65 : decode cX7_linkMoves 65 = .ok (.istore 5, 2) := fX7_linkMoves_46.2.2.2.2.2.2.2.2.2.2.1
theorem dX7_linkMoves_67 : decode cX7_linkMoves 67 = .ok (.iconst 1, 1) := fX7_linkMoves_46.2.2.2.2.2.2.2.2.2.2.2.1
theorem dX7_linkMoves_68 : decode cX7_linkMoves 68 = .ok (.istore 6, 2) := fX7_linkMoves_46.2.2.2.2.2.2.2.2.2.2.2.2.1
theorem dX7_linkMoves_70 : decode cX7_linkMoves 70 = .ok (.iload 6, 2) := fX7_linkMoves_46.2.2.2.2.2.2.2.2.2.2.2.2.2.1
theorem dX7_linkMoves_72 : decode cX7_linkMoves 72 = .ok (.iload 4, 2) := fX7_linkMoves_46.2.2.2.2.2.2.2.2.2.2.2.2.2.2.1
theorem dX7_linkMoves_74 : decode cX7_linkMoves 74 = .ok (.if_icmp .gt 69, 3) := fX7_linkMoves_46.2.2.2.2.2.2.2.2.2.2.2.2.2.2.2.1
theorem dX7_linkMoves_77 : decode cX7_linkMoves 77 = .ok (.aload_n 0, 1) := fX7_linkMoves_46.2.2.2.2.2.2.2.2.2.2.2.2.2.2.2.2.1
theorem dX7_linkMoves_78 : decode cX7_linkMoves 78 = .ok (.getfield 50, 3) := fX7_linkMoves_46.2.2.2.2.2.2.2.2.2.2.2.2.2.2.2.2.2.1
theorem dX7_linkMoves_81 : decode cX7_linkMoves 81 = .ok (.getfield 78, 3) := fX7_linkMoves_46.2.2.2.2.2.2.2.2.2.2.2.2.2.2.2.2.2.2.1
theorem dX7_linkMoves_84 : decode cX7_linkMoves 84 = .ok (.iload 5, 2) := fX7_linkMoves_46.2.2.2.2.2.2.2.2.2.2.2.2.2.2.2.2.2.2.2.1
theorem dX7_linkMoves_86 : decode cX7_linkMoves 86 = .ok (.iload_n 3, 1) := fX7_linkMoves_46.2.2.2.2.2.2.2.2.2.2.2.2.2.2.2.2.2.2.2.2.1
theorem dX7_linkMoves_87 : decode cX7_linkMoves 87 = .ok (.invokevirtual 160, 3) := fX7_linkMoves_46.2.2.2.2.2.2.2.2.2.2.2.2.2.2.2.2.2.2.2.2.2.1
theorem dX7_linkMoves_90 : decode cX7_linkMoves 90 = .ok (.istore 5, 2) := fX7_linkMoves_46.2.2.2.2.2.2.2.2.2.2.2.2.2.2.2.2.2.2.2.2.2.2.1
theorem dX7_linkMoves_92 : decode cX7_linkMoves 92 = .ok (.aload_n 0, 1) := fX7_linkMoves_46.2.2.2.2.2.2.2.2.2.2.2.2.2.2.2.2.2.2.2.2.2.2.2.1
theorem fX7_linkMoves_93 : DS.Facts cX7_linkMoves 93 [(.getfield 50, 3), (.aload_n 0, 1), (.getfield 12, 3), (.iload_n 2, 1), (.iload 5, 2), (.invokevirtual 164, 3), (.pop, 1), (.aload_n 0, 1), (.getfield 21, 3), (.iload_n 1, 1), (.aload_n 0, 1), (.aload_n 0, 1), (.getfield 12, 3), (.iload_n 1, 1), (.iload_n 2, 1), (.iload 5, 2), (.invokevirtual 167, 3), (.invokevirtual 171, 3), (.aload_n 0, 1), (.getfield 44, 3), (.iload_n 1, 1), (.dup2, 1), (.iaload, 1), (.iconst 1, 1)] := DS.facts 93 _ (by decide +kernel) (by decide +kernel)
theorem dX7_linkMoves_93 : decode cX7_linkMoves 93 = .ok (.getfield 50, 3) := fX7_linkMoves_93.1
theorem dX7_linkMoves_96 : decode cX7_linkMoves 96 = .ok (.aload_n 0, 1) := fX7_linkMoves_93.2.1
theorem dX7_linkMoves_97 : decode cX7_linkMoves 97 = .ok (.getfield 12, 3) := fX7_linkMoves_93.2.2.1
theorem dX7_linkMoves_100 : decode cX7_linkMoves 100 = .ok (.iload_n 2, 1) := fX7_linkMoves_93.2.2.2.1
theorem dX7_linkMoves_101 : decode cX7_linkMoves 101 = .ok (.iload 5, 2) := fX7_linkMoves_93.2.2.2.2.1
theorem dX7_linkMoves_103 : decode cX7_linkMoves 103 = .ok (.invokevirtual 164, 3) := fX7_linkMoves_93.2.2.2.2.2.1
theorem dX7_linkMoves_106 : decode cX7_linkMoves 106 = .ok (.pop, 1) := fX7_linkMoves_93.2.2.2.2.2.2.1
theorem dX7_linkMoves_107 : decode cX7_linkMoves 107 = .ok (.aload_n 0, 1) := fX7_linkMoves_93.2.2.2.2.2.2.2.1
theorem dX7_linkMoves_108 : decode cX7_linkMoves 108 = .ok (.getfield 21, 3) := fX7_linkMoves_93.2.2.2.2.2.2.2.2.1
theorem dX7_linkMoves_111 : decode cX7_linkMoves 111 = .ok (.iload_n 1, 1) := fX7_linkMoves_93.2.2.2.2.2.2.2.2.2.1
theorem dX7_linkMoves_112 : decode cX7_linkMoves 112 = .ok (.aload_n 0, 1) := fX7_linkMoves_93.2.2.2.2.2.2.2.2.2.2.1
theorem dX7_linkMoves_113 : decode cX7_linkMoves 113 = .ok (.aload_n 0, 1) := fX7_linkMoves_93.2.2.2.2.2.2.2.2.2.2.2.1
theorem dX7_linkMoves_114 : decode cX7_linkMoves 114 = .ok (.getfield 12, 3) := fX7_linkMoves_93.2.2.2.2.2.2.2.2.2.2.2.2.1
theorem dX7_linkMoves_117 : decode cX7_linkMoves 117 = .ok (.iload_n 1, 1) := fX7_linkMoves_93.2.2.2.2.2.2.2.2.2.2.2.2.2.1
theorem dX7_linkMoves_118 : decode cX7_linkMoves 118 = .ok (.iload_n 2, 1) := fX7_linkMoves_93.2.2.2.2.2.2.2.2.2.2.2.2.2.2.1
theorem dX7_linkMoves_119 : decode cX7_linkMoves 119 = .ok (.iload 5, 2) := fX7_linkMoves_93.2.2.2.2.2.2.2.2.2.2.2.2.2.2.2.1
theorem dX7_linkMoves_121 : decode cX7_linkMoves 121 = .ok (.invokevirtual 167, 3) := fX7_linkMoves_93.2.2.2.2.2.2.2.2.2.2.2.2.2.2.2.2.1
theorem dX7_linkMoves_124 : decode cX7_linkMoves 124 = .ok (.invokevirtual 171, 3) := fX7_linkMoves_93.2.2.2.2.2.2.2.2.2.2.2.2.2.2.2.2.2.1
theorem dX7_linkMoves_127 : decode cX7_linkMoves 127 = .ok (.aload_n 0, 1) := fX7_linkMoves_93.2.2.2.2.2.2.2.2.2.2.2.2.2.2.2.2.2.2.1
theorem dX7_linkMoves_128 : decode cX7_linkMoves 128 = .ok (.getfield 44, 3) := fX7_linkMoves_93.2.2.2.2.2.2.2.2.2.2.2.2.2.2.2.2.2.2.2.1
theorem dX7_linkMoves_131 : decode cX7_linkMoves 131 = .ok (.iload_n 1, 1) := fX7_linkMoves_93.2.2.2.2.2.2.2.2.2.2.2.2.2.2.2.2.2.2.2.2.1
theorem dX7_linkMoves_132 : decode cX7_linkMoves 132 = .ok (.dup2, 1) := fX7_linkMoves_93.2.2.2.2.2.2.2.2.2.2.2.2.2.2.2.2.2.2.2.2.2.1
theorem dX7_linkMoves_133 : decode cX7_linkMoves 133 = .ok (.iaload, 1) := fX7_linkMoves_93.2.2.2.2.2.2.2.2.2.2.2.2.2.2.2.2.2.2.2.2.2.2.1
theorem dX7_linkMoves_134 : decode cX7_linkMoves 134 = .ok (.iconst 1, 1) := fX7_linkMoves_93.2.2.2.2.2.2.2.2.2.2.2.2.2.2.2.2.2.2.2.2.2.2.2.1
theorem fX7_linkMoves_135 : DS.Facts cX7_linkMoves 135 [(.iadd, 1), (.iastore, 1), (.iinc 6 1, 3), (.goto (-70), 3), (.iinc 3 1, 3), (.goto (-109), 3), (.iinc 2 1, 3), (.goto (-150), 3), (.return_, 1)] := DS.facts 135 _ (by decide +kernel) (by decide +kernel)
theorem dX7_linkMoves_135 : decode cX7_linkMoves 135 = .ok (.iadd, 1) := fX7_linkMoves_135.1
theorem dX7_linkMoves_136 : decode cX7_linkMoves 136 = .ok (.iastore, 1) := fX7_linkMoves_135.2.1
theorem dX7_linkMoves_137 : decode cX7_linkMoves 137 = .ok (.iinc 6 1, 3) := fX7_linkMoves_135.2.2.1
theorem dX7_linkMoves_140 : decode cX7_linkMoves 140 = .ok (.goto (-70), 3) := fX7_linkMoves_135.2.2.2.1
theorem dX7_linkMoves_143 : decode cX7_linkMoves 143 = .ok (.iinc 3 1, 3) := fX7_linkMoves_135.2.2.2.2.1
theorem dX7_linkMoves_146 : decode cX7_linkMoves 146 = .ok (.goto (-109), 3) := fX7_linkMoves_135.2.2.2.2.2.1
theorem dX7_linkMoves_149 : decode cX7_linkMoves 149 = .ok (.iinc 2 1, 3) := fX7_linkMoves_135.2.2.2.2.2.2.1
theorem dX7_linkMoves_152 : decode cX7_linkMoves 152 = .ok (.goto (-150), 3) := fX7_linkMoves_135.2.2.2.2.2.2.2.1
theorem dX7_linkMoves_155 : decode cX7_linkMoves 155 = .ok (.return_, 1) := fX7_linkMoves_135.2.2.2.2.2.2.2.2.1
set_option maxRecDepth 20000 in
theorem ggX7_behindMove_X8_fieldOf : GoodIn wsX7_behindMove wsX8_fieldOf := goodIn_r _ [7, 8, 38, 39, 40] (by decide +kernel) (by decide +kernel)
set_option maxRecDepth 20000 in
theorem gX7_behindMove_X8_fieldOf : GoodIn wsX7_behindMove (wsV RX7 157 RX8 yX8_fieldOf wsX8_fieldOf) := goodIn_app (goodIn_of _ (by decide +kernel)) ggX7_behindMove_X8_fieldOf
theorem fX7_behindMove_0 : DS.Facts cX7_behindMove 0 [(.iload 4, 2), (.aload_n 1, 1), (.iload_n 3, 1), (.invokevirtual 157, 3), (.isub, 1), (.aload_n 0, 1), (.getfield 25, 3), (.iload_n 3, 1), (.iaload, 1), (.imul, 1), (.istore 5, 2), (.iconst 0, 1), (.istore 6, 2), (.iload 6, 2), (.aload_n 0, 1), (.getfield 50, 3), (.getfield 174, 3), (.if_icmp .ge 51, 3), (.aload_n 0, 1), (.getfield 50, 3), (.getfield 177, 3), (.iload 6, 2), (.iaload, 1), (.istore 7, 2)] := DS.facts 0 _ (by decide +kernel) (by decide +kernel)
theorem dX7_behindMove_0 : decode cX7_behindMove 0 = .ok (.iload 4, 2) := fX7_behindMove_0.1
theorem dX7_behindMove_2 : decode cX7_behindMove 2 = .ok (.aload_n 1, 1) := fX7_behindMove_0.2.1
theorem dX7_behindMove_3 : decode cX7_behindMove 3 = .ok (.iload_n 3, 1) := fX7_behindMove_0.2.2.1
theorem dX7_behindMove_4 : decode cX7_behindMove 4 = .ok (.invokevirtual 157, 3) := fX7_behindMove_0.2.2.2.1
theorem dX7_behindMove_7 : decode cX7_behindMove 7 = .ok (.isub, 1) := fX7_behindMove_0.2.2.2.2.1
theorem dX7_behindMove_8 : decode cX7_behindMove 8 = .ok (.aload_n 0, 1) := fX7_behindMove_0.2.2.2.2.2.1
theorem dX7_behindMove_9 : decode cX7_behindMove 9 = .ok (.getfield 25, 3) := fX7_behindMove_0.2.2.2.2.2.2.1
theorem dX7_behindMove_12 : decode cX7_behindMove 12 = .ok (.iload_n 3, 1) := fX7_behindMove_0.2.2.2.2.2.2.2.1
theorem dX7_behindMove_13 : decode cX7_behindMove 13 = .ok (.iaload, 1) := fX7_behindMove_0.2.2.2.2.2.2.2.2.1
theorem dX7_behindMove_14 : decode cX7_behindMove 14 = .ok (.imul, 1) := fX7_behindMove_0.2.2.2.2.2.2.2.2.2.1
theorem dX7_behindMove_15 : decode cX7_behindMove 15 = .ok (.istore 5, 2) := fX7_behindMove_0.2.2.2.2.2.2.2.2.2.2.1
theorem dX7_behindMove_17 : decode cX7_behindMove 17 = .ok (.iconst 0, 1) := fX7_behindMove_0.2.2.2.2.2.2.2.2.2.2.2.1
theorem dX7_behindMove_18 : decode cX7_behindMove 18 = .ok (.istore 6, 2) := fX7_behindMove_0.2.2.2.2.2.2.2.2.2.2.2.2.1
theorem dX7_behindMove_20 : decode cX7_behindMove 20 = .ok (.iload 6, 2) := fX7_behindMove_0.2.2.2.2.2.2.2.2.2.2.2.2.2.1
theorem dX7_behindMove_22 : decode cX7_behindMove 22 = .ok (.aload_n 0, 1) := fX7_behindMove_0.2.2.2.2.2.2.2.2.2.2.2.2.2.2.1
theorem dX7_behindMove_23 : decode cX7_behindMove 23 = .ok (.getfield 50, 3) := fX7_behindMove_0.2.2.2.2.2.2.2.2.2.2.2.2.2.2.2.1
theorem dX7_behindMove_26 : decode cX7_behindMove 26 = .ok (.getfield 174, 3) := fX7_behindMove_0.2.2.2.2.2.2.2.2.2.2.2.2.2.2.2.2.1
theorem dX7_behindMove_29 : decode cX7_behindMove 29 = .ok (.if_icmp .ge 51, 3) := fX7_behindMove_0.2.2.2.2.2.2.2.2.2.2.2.2.2.2.2.2.2.1
theorem dX7_behindMove_32 : decode cX7_behindMove 32 = .ok (.aload_n 0, 1) := fX7_behindMove_0.2.2.2.2.2.2.2.2.2.2.2.2.2.2.2.2.2.2.1
theorem dX7_behindMove_33 : decode cX7_behindMove 33 = .ok (.getfield 50, 3) := fX7_behindMove_0.2.2.2.2.2.2.2.2.2.2.2.2.2.2.2.2.2.2.2.1
theorem dX7_behindMove_36 : decode cX7_behindMove 36 = .ok (.getfield 177, 3) := fX7_behindMove_0.2.2.2.2.2.2.2.2.2.2.2.2.2.2.2.2.2.2.2.2.1
theorem dX7_behindMove_39 : decode cX7_behindMove 39 = .ok (.iload 6, 2) := fX7_behindMove_0.2.2.2.2.2.2.2.2.2.2.2.2.2.2.2.2.2.2.2.2.2.1
theorem dX7_behindMove_41 : decode cX7_behindMove 41 = .ok (.iaload, 1) := fX7_behindMove_0.2.2.2.2.2.2.2.2.2.2.2.2.2.2.2.2.2.2.2.2.2.2.1
theorem dX7_behindMove_42 : decode cX7_behindMove 42 = .ok (.istore 7, 2) := fX7_behindMove_0.2.2.2.2.2.2.2.2.2.2.2.2.2.2.2.2.2.2.2.2.2.2.2.1
theorem fX7_behindMove_44 : DS.Facts cX7_behindMove 44 [(.iload 5, 2), (.aload_n 0, 1), (.getfield 50, 3), (.getfield 78, 3), (.getfield 115, 3), (.aload_n 1, 1), (.iload 7, 2), (.invokevirtual 157, 3), (.isub, 1), (.aload_n 0, 1), (.getfield 25, 3), (.iload 7, 2), (.iaload, 1), (.imul, 1), (.iadd, 1), (.istore 5, 2), (.iinc 6 1, 3), (.goto (-57), 3), (.iload_n 2, 1), (.iconst 2, 1), (.iload 5, 2), (.imul, 1), (.iadd, 1), (.iconst 1, 1)] := DS.facts 44 _ (by decide +kernel) (by decide +kernel)
theorem dX7_behindMove_44 : decode cX7_behindMove 44 = .ok (.iload 5, 2) := fX7_behindMove_44.1
theorem dX7_behindMove_46 : decode cX7_behindMove 46 = .ok (.aload_n 0, 1) := fX7_behindMove_44.2.1
theorem dX7_behindMove_47 : decode cX7_behindMove 47 = .ok (.getfield 50, 3) := fX7_behindMove_44.2.2.1
theorem dX7_behindMove_50 : decode cX7_behindMove 50 = .ok (.getfield 78, 3) := fX7_behindMove_44.2.2.2.1
theorem dX7_behindMove_53 : decode cX7_behindMove 53 = .ok (.getfield 115, 3) := fX7_behindMove_44.2.2.2.2.1
theorem dX7_behindMove_56 : decode cX7_behindMove 56 = .ok (.aload_n 1, 1) := fX7_behindMove_44.2.2.2.2.2.1
theorem dX7_behindMove_57 : decode cX7_behindMove 57 = .ok (.iload 7, 2) := fX7_behindMove_44.2.2.2.2.2.2.1
theorem dX7_behindMove_59 : decode cX7_behindMove 59 = .ok (.invokevirtual 157, 3) := fX7_behindMove_44.2.2.2.2.2.2.2.1
theorem dX7_behindMove_62 : decode cX7_behindMove 62 = .ok (.isub, 1) := fX7_behindMove_44.2.2.2.2.2.2.2.2.1
theorem dX7_behindMove_63 : decode cX7_behindMove 63 = .ok (.aload_n 0, 1) := fX7_behindMove_44.2.2.2.2.2.2.2.2.2.1
theorem dX7_behindMove_64 : decode cX7_behindMove 64 = .ok (.getfield 25, 3) := fX7_behindMove_44.2.2.2.2.2.2.2.2.2.2.1
theorem dX7_behindMove_67 : decode cX7_behindMove 67 = .ok (.iload 7, 2) := fX7_behindMove_44.2.2.2.2.2.2.2.2.2.2.2.1
theorem dX7_behindMove_69 : decode cX7_behindMove 69 = .ok (.iaload, 1) := fX7_behindMove_44.2.2.2.2.2.2.2.2.2.2.2.2.1
theorem dX7_behindMove_70 : decode cX7_behindMove 70 = .ok (.imul, 1) := fX7_behindMove_44.2.2.2.2.2.2.2.2.2.2.2.2.2.1
theorem dX7_behindMove_71 : decode cX7_behindMove 71 = .ok (.iadd, 1) := fX7_behindMove_44.2.2.2.2.2.2.2.2.2.2.2.2.2.2.1
theorem dX7_behindMove_72 : decode cX7_behindMove 72 = .ok (.istore 5, 2) := fX7_behindMove_44.2.2.2.2.2.2.2.2.2.2.2.2.2.2.2.1
theorem dX7_behindMove_74 : decode cX7_behindMove 74 = .ok (.iinc 6 1, 3) := fX7_behindMove_44.2.2.2.2.2.2.2.2.2.2.2.2.2.2.2.2.1
theorem dX7_behindMove_77 : decode cX7_behindMove 77 = .ok (.goto (-57), 3) := fX7_behindMove_44.2.2.2.2.2.2.2.2.2.2.2.2.2.2.2.2.2.1
theorem dX7_behindMove_80 : decode cX7_behindMove 80 = .ok (.iload_n 2, 1) := fX7_behindMove_44.2.2.2.2.2.2.2.2.2.2.2.2.2.2.2.2.2.2.1
theorem dX7_behindMove_81 : decode cX7_behindMove 81 = .ok (.iconst 2, 1) := fX7_behindMove_44.2.2.2.2.2.2.2.2.2.2.2.2.2.2.2.2.2.2.2.1
theorem dX7_behindMove_82 : decode cX7_behindMove 82 = .ok (.iload 5, 2) := fX7_behindMove_44.2.2.2.2.2.2.2.2.2.2.2.2.2.2.2.2.2.2.2.2.1
theorem dX7_behindMove_84 : decode cX7_behindMove 84 = .ok (.imul, 1) := fX7_behindMove_44.2.2.2.2.2.2.2.2.2.2.2.2.2.2.2.2.2.2.2.2.2.1
theorem dX7_behindMove_85 : decode cX7_behindMove 85 = .ok (.iadd, 1) := fX7_behindMove_44.2.2.2.2.2.2.2.2.2.2.2.2.2.2.2.2.2.2.2.2.2.2.1
theorem dX7_behindMove_86 : decode cX7_behindMove 86 = .ok (.iconst 1, 1) := fX7_behindMove_44.2.2.2.2.2.2.2.2.2.2.2.2.2.2.2.2.2.2.2.2.2.2.2.1
theorem fX7_behindMove_87 : DS.Facts cX7_behindMove 87 [(.iadd, 1), (.iconst 2, 1), (.aload_n 1, 1), (.getfield 125, 3), (.imul, 1), (.isub, 1), (.ireturn, 1)] := DS.facts 87 _ (by decide +kernel) (by decide +kernel)
theorem dX7_behindMove_87 : decode cX7_behindMove 87 = .ok (.iadd, 1) := fX7_behindMove_87.1
theorem dX7_behindMove_88 : decode cX7_behindMove 88 = .ok (.iconst 2, 1) := fX7_behindMove_87.2.1
theorem dX7_behindMove_89 : decode cX7_behindMove 89 = .ok (.aload_n 1, 1) := fX7_behindMove_87.2.2.1
theorem dX7_behindMove_90 : decode cX7_behindMove 90 = .ok (.getfield 125, 3) := fX7_behindMove_87.2.2.2.1
theorem dX7_behindMove_93 : decode cX7_behindMove 93 = .ok (.imul, 1) := fX7_behindMove_87.2.2.2.2.1
theorem dX7_behindMove_94 : decode cX7_behindMove 94 = .ok (.isub, 1) := fX7_behindMove_87.2.2.2.2.2.1
theorem dX7_behindMove_95 : decode cX7_behindMove 95 = .ok (.ireturn, 1) := fX7_behindMove_87.2.2.2.2.2.2.1
theorem fX7_decide_0 : DS.Facts cX7_decide 0 [(.aload_n 0, 1), (.getfield 100, 3), (.aload_n 0, 1), (.getfield 47, 3), (.arraylength, 1), (.if_icmp .lt 4, 3), (.return_, 1), (.aload_n 0, 1), (.getfield 38, 3), (.iload_n 1, 1), (.iload_n 2, 1), (.iastore, 1), (.aload_n 0, 1), (.getfield 41, 3), (.iload_n 1, 1), (.iload_n 3, 1), (.iastore, 1), (.aload_n 0, 1), (.getfield 47, 3), (.aload_n 0, 1), (.getfield 100, 3), (.iload_n 1, 1), (.iastore, 1), (.aload_n 0, 1)] := DS.facts 0 _ (by decide +kernel) (by decide +kernel)
theorem dX7_decide_0 : decode cX7_decide 0 = .ok (.aload_n 0, 1) := fX7_decide_0.1
theorem dX7_decide_1 : decode cX7_decide 1 = .ok (.getfield 100, 3) := fX7_decide_0.2.1
theorem dX7_decide_4 : decode cX7_decide 4 = .ok (.aload_n 0, 1) := fX7_decide_0.2.2.1
theorem dX7_decide_5 : decode cX7_decide 5 = .ok (.getfield 47, 3) := fX7_decide_0.2.2.2.1
theorem dX7_decide_8 : decode cX7_decide 8 = .ok (.arraylength, 1) := fX7_decide_0.2.2.2.2.1
theorem dX7_decide_9 : decode cX7_decide 9 = .ok (.if_icmp .lt 4, 3) := fX7_decide_0.2.2.2.2.2.1
theorem dX7_decide_12 : decode cX7_decide 12 = .ok (.return_, 1) := fX7_decide_0.2.2.2.2.2.2.1
theorem dX7_decide_13 : decode cX7_decide 13 = .ok (.aload_n 0, 1) := fX7_decide_0.2.2.2.2.2.2.2.1
theorem dX7_decide_14 : decode cX7_decide 14 = .ok (.getfield 38, 3) := fX7_decide_0.2.2.2.2.2.2.2.2.1
theorem dX7_decide_17 : decode cX7_decide 17 = .ok (.iload_n 1, 1) := fX7_decide_0.2.2.2.2.2.2.2.2.2.1
theorem dX7_decide_18 : decode cX7_decide 18 = .ok (.iload_n 2, 1) := fX7_decide_0.2.2.2.2.2.2.2.2.2.2.1
theorem dX7_decide_19 : decode cX7_decide 19 = .ok (.iastore, 1) := fX7_decide_0.2.2.2.2.2.2.2.2.2.2.2.1
theorem dX7_decide_20 : decode cX7_decide 20 = .ok (.aload_n 0, 1) := fX7_decide_0.2.2.2.2.2.2.2.2.2.2.2.2.1
theorem dX7_decide_21 : decode cX7_decide 21 = .ok (.getfield 41, 3) := fX7_decide_0.2.2.2.2.2.2.2.2.2.2.2.2.2.1
theorem dX7_decide_24 : decode cX7_decide 24 = .ok (.iload_n 1, 1) := fX7_decide_0.2.2.2.2.2.2.2.2.2.2.2.2.2.2.1
theorem dX7_decide_25 : decode cX7_decide 25 = .ok (.iload_n 3, 1) := fX7_decide_0.2.2.2.2.2.2.2.2.2.2.2.2.2.2.2.1
theorem dX7_decide_26 : decode cX7_decide 26 = .ok (.iastore, 1) := fX7_decide_0.2.2.2.2.2.2.2.2.2.2.2.2.2.2.2.2.1
theorem dX7_decide_27 : decode cX7_decide 27 = .ok (.aload_n 0, 1) := fX7_decide_0.2.2.2.2.2.2.2.2.2.2.2.2.2.2.2.2.2.1
theorem dX7_decide_28 : decode cX7_decide 28 = .ok (.getfield 47, 3) := fX7_decide_0.2.2.2.2.2.2.2.2.2.2.2.2.2.2.2.2.2.2.1
theorem dX7_decide_31 : decode cX7_decide 31 = .ok (.aload_n 0, 1) := fX7_decide_0.2.2.2.2.2.2.2.2.2.2.2.2.2.2.2.2.2.2.2.1
theorem dX7_decide_32 : decode cX7_decide 32 = .ok (.getfield 100, 3) := fX7_decide_0.2.2.2.2.2.2.2.2.2.2.2.2.2.2.2.2.2.2.2.2.1
theorem dX7_decide_35 : decode cX7_decide 35 = .ok (.iload_n 1, 1) := fX7_decide_0.2.2.2.2.2.2.2.2.2.2.2.2.2.2.2.2.2.2.2.2.2.1
theorem dX7_decide_36 : decode cX7_decide 36 = .ok (.iastore, 1) := fX7_decide_0.2.2.2.2.2.2.2.2.2.2.2.2.2.2.2.2.2.2.2.2.2.2.1
theorem dX7_decide_37 : decode cX7_decide 37 = .ok (.aload_n 0, 1) := fX7_decide_0.2.2.2.2.2.2.2.2.2.2.2.2.2.2.2.2.2.2.2.2.2.2.2.1
theorem fX7_decide_38 : DS.Facts cX7_decide 38 [(.dup, 1), (.getfield 100, 3), (.iconst 1, 1), (.iadd, 1), (.putfield 100, 3), (.return_, 1)] := DS.facts 38 _ (by decide +kernel) (by decide +kernel)
theorem dX7_decide_38 : decode cX7_decide 38 = .ok (.dup, 1) := fX7_decide_38.1
theorem dX7_decide_39 : decode cX7_decide 39 = .ok (.getfield 100, 3) := fX7_decide_38.2.1
theorem dX7_decide_42 : decode cX7_decide 42 = .ok (.iconst 1, 1) := fX7_decide_38.2.2.1
theorem dX7_decide_43 : decode cX7_decide 43 = .ok (.iadd, 1) := fX7_decide_38.2.2.2.1
theorem dX7_decide_44 : decode cX7_decide 44 = .ok (.putfield 100, 3) := fX7_decide_38.2.2.2.2.1
theorem dX7_decide_47 : decode cX7_decide 47 = .ok (.return_, 1) := fX7_decide_38.2.2.2.2.2.1
set_option maxRecDepth 20000 in
theorem ggX7_spread_X7_inform : GoodIn wsX7_spread wsX7_inform := goodIn_r _ [10, 4, 11, 12, 13, 14, 9, 15, 1, 2, 5, 16, 17, 18, 19, 20, 21, 22, 23, 24, 25, 26, 27, 28, 29, 30] (by decide +kernel) (by decide +kernel)
set_option maxRecDepth 20000 in
theorem gX7_spread_X7_inform : GoodIn wsX7_spread (wsV RX7 189 RX7 yX7_inform wsX7_inform) := goodIn_app (goodIn_of _ (by decide +kernel)) ggX7_spread_X7_inform
theorem fX7_spread_0 : DS.Facts cX7_spread 0 [(.iconst 0, 1), (.istore_n 1, 1), (.iload_n 1, 1), (.aload_n 0, 1), (.getfield 100, 3), (.if_icmp .ge 98, 3), (.iload_n 1, 1), (.aload_n 0, 1), (.getfield 47, 3), (.arraylength, 1), (.if_icmp .ge 89, 3), (.aload_n 0, 1), (.getfield 47, 3), (.iload_n 1, 1), (.iaload, 1), (.istore_n 2, 1), (.aload_n 0, 1), (.getfield 21, 3), (.getfield 180, 3), (.iload_n 2, 1), (.iaload, 1), (.istore_n 3, 1), (.iconst 0, 1), (.istore 4, 2)] := DS.facts 0 _ (by decide +kernel) (by decide +kernel)
theorem dX7_spread_0 : decode cX7_spread 0 = .ok (.iconst 0, 1) := fX7_spread_0.1
theorem dX7_spread_1 : decode cX7_spread 1 = .ok (.istore_n 1, 1) := fX7_spread_0.2.1
theorem dX7_spread_2 : decode cX7_spread 2 = .ok (.iload_n 1, 1) := fX7_spread_0.2.2.1
theorem dX7_spread_3 : decode cX7_spread 3 = .ok (.aload_n 0, 1) := fX7_spread_0.2.2.2.1
theorem dX7_spread_4 : decode cX7_spread 4 = .ok (.getfield 100, 3) := fX7_spread_0.2.2.2.2.1
theorem dX7_spread_7 : decode cX7_spread 7 = .ok (.if_icmp .ge 98, 3) := fX7_spread_0.2.2.2.2.2.1
theorem dX7_spread_10 : decode cX7_spread 10 = .ok (.iload_n 1, 1) := fX7_spread_0.2.2.2.2.2.2.1
theorem dX7_spread_11 : decode cX7_spread 11 = .ok (.aload_n 0, 1) := fX7_spread_0.2.2.2.2.2.2.2.1
theorem dX7_spread_12 : decode cX7_spread 12 = .ok (.getfield 47, 3) := fX7_spread_0.2.2.2.2.2.2.2.2.1
theorem dX7_spread_15 : decode cX7_spread 15 = .ok (.arraylength, 1) := fX7_spread_0.2.2.2.2.2.2.2.2.2.1
theorem dX7_spread_16 : decode cX7_spread 16 = .ok (.if_icmp .ge 89, 3) := fX7_spread_0.2.2.2.2.2.2.2.2.2.2.1
theorem dX7_spread_19 : decode cX7_spread 19 = .ok (.aload_n 0, 1) := fX7_spread_0.2.2.2.2.2.2.2.2.2.2.2.1
theorem dX7_spread_20 : decode cX7_spread 20 = .ok (.getfield 47, 3) := fX7_spread_0.2.2.2.2.2.2.2.2.2.2.2.2.1
theorem dX7_spread_23 : decode cX7_spread 23 = .ok (.iload_n 1, 1) := fX7_spread_0.2.2.2.2.2.2.2.2.2.2.2.2.2.1
theorem dX7_spread_24 : decode cX7_spread 24 = .ok (.iaload, 1) := fX7_spread_0.2.2.2.2.2.2.2.2.2.2.2.2.2.2.1
theorem dX7_spread_25 : decode cX7_spread 25 = .ok (.istore_n 2, 1) := fX7_spread_0.2.2.2.2.2.2.2.2.2.2.2.2.2.2.2.1
theorem dX7_spread_26 : decode cX7_spread 26 = .ok (.aload_n 0, 1) := fX7_spread_0.2.2.2.2.2.2.2.2.2.2.2.2.2.2.2.2.1
theorem dX7_spread_27 : decode cX7_spread 27 = .ok (.getfield 21, 3) := fX7_spread_0.2.2.2.2.2.2.2.2.2.2.2.2.2.2.2.2.2.1
theorem dX7_spread_30 : decode cX7_spread 30 = .ok (.getfield 180, 3) := fX7_spread_0.2.2.2.2.2.2.2.2.2.2.2.2.2.2.2.2.2.2.1
theorem dX7_spread_33 : decode cX7_spread 33 = .ok (.iload_n 2, 1) := fX7_spread_0.2.2.2.2.2.2.2.2.2.2.2.2.2.2.2.2.2.2.2.1
theorem dX7_spread_34 : decode cX7_spread 34 = .ok (.iaload, 1) := fX7_spread_0.2.2.2.2.2.2.2.2.2.2.2.2.2.2.2.2.2.2.2.2.1
theorem dX7_spread_35 : decode cX7_spread 35 = .ok (.istore_n 3, 1) := fX7_spread_0.2.2.2.2.2.2.2.2.2.2.2.2.2.2.2.2.2.2.2.2.2.1
theorem dX7_spread_36 : decode cX7_spread 36 = .ok (.iconst 0, 1) := fX7_spread_0.2.2.2.2.2.2.2.2.2.2.2.2.2.2.2.2.2.2.2.2.2.2.1
theorem dX7_spread_37 : decode cX7_spread 37 = .ok (.istore 4, 2) := fX7_spread_0.2.2.2.2.2.2.2.2.2.2.2.2.2.2.2.2.2.2.2.2.2.2.2.1
theorem fX7_spread_39 : DS.Facts cX7_spread 39 [(.iload 4, 2), (.aload_n 0, 1), (.getfield 21, 3), (.getfield 183, 3), (.if_icmp .ge 51, 3), (.iload_n 3, 1), (.iconst (-1), 1), (.if_icmp .eq 46, 3), (.aload_n 0, 1), (.aload_n 0, 1), (.getfield 21, 3), (.getfield 186, 3), (.iload_n 3, 1), (.iaload, 1), (.aload_n 0, 1), (.getfield 38, 3), (.iload_n 2, 1), (.iaload, 1), (.aload_n 0, 1), (.getfield 41, 3), (.iload_n 2, 1), (.iaload, 1), (.iconst 1, 1), (.iadd, 1)] := DS.facts 39 _ (by decide +kernel) (by decide +kernel)
theorem dX7_spread_39 : decode cX7_spread 39 = .ok (.iload 4, 2) := fX7_spread_39.1
theorem dX7_spread_41 : decode cX7_spread 41 = .ok (.aload_n 0, 1) := fX7_spread_39.2.1
theorem dX7_spread_42 : decode cX7_spread 42 = .ok (.getfield 21, 3) := fX7_spread_39.2.2.1
theorem dX7_spread_45 : decode cX7_spread 45 = .ok (.getfield 183, 3) := fX7_spread_39.2.2.2.1
theorem dX7_spread_48 : decode cX7_spread 48 = .ok (.if_icmp .ge 51, 3) := fX7_spread_39.2.2.2.2.1
theorem dX7_spread_51 : decode cX7_spread 51 = .ok (.iload_n 3, 1) := fX7_spread_39.2.2.2.2.2.1
theorem dX7_spread_52 : decode cX7_spread 52 = .ok (.iconst (-1), 1) := fX7_spread_39.2.2.2.2.2.2.1
theorem dX7_spread_53 : decode cX7_spread 53 = .ok (.if_icmp .eq 46, 3) := fX7_spread_39.2.2.2.2.2.2.2.1
theorem dX7_spread_56 : decode cX7_spread 56 = .ok (.aload_n 0, 1) := fX7_spread_39.2.2.2.2.2.2.2.2.1
theorem dX7_spread_57 : decode cX7_spread 57 = .ok (.aload_n 0, 1) := fX7_spread_39.2.2.2.2.2.2.2.2.2.1
theorem dX7_spread_58 : decode cX7_spread 58 = .ok (.getfield 21, 3) := fX7_spread_39.2.2.2.2.2.2.2.2.2.2.1
theorem dX7_spread_61 : decode cX7_spread 61 = .ok (.getfield 186, 3) := fX7_spread_39.2.2.2.2.2.2.2.2.2.2.2.1
theorem dX7_spread_64 : decode cX7_spread 64 = .ok (.iload_n 3, 1) := fX7_spread_39.2.2.2.2.2.2.2.2.2.2.2.2.1
theorem dX7_spread_65 : decode cX7_spread 65 = .ok (.iaload, 1) := fX7_spread_39.2.2.2.2.2.2.2.2.2.2.2.2.2.1
theorem dX7_spread_66 : decode cX7_spread 66 = .ok (.aload_n 0, 1) := fX7_spread_39.2.2.2.2.2.2.2.2.2.2.2.2.2.2.1
theorem dX7_spread_67 : decode cX7_spread 67 = .ok (.getfield 38, 3) := fX7_spread_39.2.2.2.2.2.2.2.2.2.2.2.2.2.2.2.1
theorem dX7_spread_70 : decode cX7_spread 70 = .ok (.iload_n 2, 1) := fX7_spread_39.2.2.2.2.2.2.2.2.2.2.2.2.2.2.2.2.1
theorem dX7_spread_71 : decode cX7_spread 71 = .ok (.iaload, 1) := fX7_spread_39.2.2.2.2.2.2.2.2.2.2.2.2.2.2.2.2.2.1
theorem dX7_spread_72 : decode cX7_spread 72 = .ok (.aload_n 0, 1) := fX7_spread_39.2.2.2.2.2.2.2.2.2.2.2.2.2.2.2.2.2.2.1
theorem dX7_spread_73 : decode cX7_spread 73 = .ok (.getfield 41, 3) := fX7_spread_39.2.2.2.2.2.2.2.2.2.2.2.2.2.2.2.2.2.2.2.1
theorem dX7_spread_76 : decode cX7_spread 76 = .ok (.iload_n 2, 1) := fX7_spread_39.2.2.2.2.2.2.2.2.2.2.2.2.2.2.2.2.2.2.2.2.1
theorem dX7_spread_77 : decode cX7_spread 77 = .ok (.iaload, 1) := fX7_spread_39.2.2.2.2.2.2.2.2.2.2.2.2.2.2.2.2.2.2.2.2.2.1
theorem dX7_spread_78 : decode cX7_spread 78 = .ok (.iconst 1, 1) := fX7_spread_39.2.2.2.2.2.2.2.2.2.2.2.2.2.2.2.2.2.2.2.2.2.2.1
theorem dX7_spread_79 : decode cX7_spread 79 = .ok (.iadd, 1) := fX7_spread_39.2.2.2.2.2.2.2.2.2.2.2.2.2.2.2.2.2.2.2.2.2.2.2.1
theorem fX7_spread_80 : DS.Facts cX7_spread 80 [(.invokevirtual 189, 3), (.aload_n 0, 1), (.getfield 21, 3), (.getfield 192, 3), (.iload_n 3, 1), (.iaload, 1), (.istore_n 3, 1), (.iinc 4 1, 3), (.goto (-57), 3), (.iinc 1 1, 3), (.goto (-100), 3), (.return_, 1)] := DS.facts 80 _ (by decide +kernel) (by decide +kernel)
theorem dX7_spread_80 : decode cX7_spread 80 = .ok (.invokevirtual 189, 3) := fX7_spread_80.1
theorem dX7_spread_83 : decode cX7_spread 83 = .ok (.aload_n 0, 1) := fX7_spread_80.2.1
theorem dX7_spread_84 : decode cX7_spread 84 = .ok (.getfield 21, 3) := fX7_spread_80.2.2.1
theorem dX7_spread_87 : decode cX7_spread 87 = .ok (.getfield 192, 3) := fX7_spread_80.2.2.2.1
theorem dX7_spread_90 : decode cX7_spread 90 = .ok (.iload_n 3, 1) := fX7_spread_80.2.2.2.2.1
theorem dX7_spread_91 : decode cX7_spread 91 = .ok (.iaload, 1) := fX7_spread_80.2.2.2.2.2.1
theorem dX7_spread_92 : decode cX7_spread 92 = .ok (.istore_n 3, 1) := fX7_spread_80.2.2.2.2.2.2.1
theorem dX7_spread_93 : decode cX7_spread 93 = .ok (.iinc 4 1, 3) := fX7_spread_80.2.2.2.2.2.2.2.1
theorem dX7_spread_96 : decode cX7_spread 96 = .ok (.goto (-57), 3) := fX7_spread_80.2.2.2.2.2.2.2.2.1
theorem dX7_spread_99 : decode cX7_spread 99 = .ok (.iinc 1 1, 3) := fX7_spread_80.2.2.2.2.2.2.2.2.2.1
theorem dX7_spread_102 : decode cX7_spread 102 = .ok (.goto (-100), 3) := fX7_spread_80.2.2.2.2.2.2.2.2.2.2.1
theorem dX7_spread_105 : decode cX7_spread 105 = .ok (.return_, 1) := fX7_spread_80.2.2.2.2.2.2.2.2.2.2.2.1
set_option maxRecDepth 20000 in
theorem ggX7_inform_X7_decide : GoodIn wsX7_inform wsX7_decide := goodIn_r _ [7, 8, 9, 1, 10, 11, 12, 13, 14, 15, 16, 17, 18, 19, 20, 21, 22, 23, 24, 25] (by decide +kernel) (by decide +kernel)
set_option maxRecDepth 20000 in
theorem gX7_inform_X7_decide : GoodIn wsX7_inform (wsV RX7 132 RX7 yX7_decide wsX7_decide) := goodIn_app (goodIn_of _ (by decide +kernel)) ggX7_inform_X7_decide
theorem fX7_inform_0 : DS.Facts cX7_inform 0 [(.aload_n 0, 1), (.getfield 38, 3), (.iload_n 1, 1), (.iaload, 1), (.iconst 2, 1), (.if_icmp .eq 4, 3), (.return_, 1), (.aload_n 0, 1), (.getfield 44, 3), (.iload_n 1, 1), (.dup2, 1), (.iaload, 1), (.iconst 1, 1), (.isub, 1), (.iastore, 1), (.iload_n 2, 1), (.iload_n 1, 1), (.iconst 1, 1), (.iand, 1), (.if_icmp .eq 12, 3), (.aload_n 0, 1), (.getfield 44, 3), (.iload_n 1, 1), (.iaload, 1)] := DS.facts 0 _ (by decide +kernel) (by decide +kernel)
theorem dX7_inform_0 : decode cX7_inform 0 = .ok (.aload_n 0, 1) := fX7_inform_0.1
theorem dX7_inform_1 : decode cX7_inform 1 = .ok (.getfield 38, 3) := fX7_inform_0.2.1
theorem dX7_inform_4 : decode cX7_inform 4 = .ok (.iload_n 1, 1) := fX7_inform_0.2.2.1
theorem dX7_inform_5 : decode cX7_inform 5 = .ok (.iaload, 1) := fX7_inform_0.2.2.2.1
theorem dX7_inform_6 : decode cX7_inform 6 = .ok (.iconst 2, 1) := fX7_inform_0.2.2.2.2.1
theorem dX7_inform_7 : decode cX7_inform 7 = .ok (.if_icmp .eq 4, 3) := fX7_inform_0.2.2.2.2.2.1
theorem dX7_inform_10 : decode cX7_inform 10 = .ok (.return_, 1) := fX7_inform_0.2.2.2.2.2.2.1
theorem dX7_inform_11 : decode cX7_inform 11 = .ok (.aload_n 0, 1) := fX7_inform_0.2.2.2.2.2.2.2.1
theorem dX7_inform_12 : decode cX7_inform 12 = .ok (.getfield 44, 3) := fX7_inform_0.2.2.2.2.2.2.2.2.1
theorem dX7_inform_15 : decode cX7_inform 15 = .ok (.iload_n 1, 1) := fX7_inform_0.2.2.2.2.2.2.2.2.2.1
theorem dX7_inform_16 : decode cX7_inform 16 = .ok (.dup2, 1) := fX7_inform_0.2.2.2.2.2.2.2.2.2.2.1
theorem dX7_inform_17 : decode cX7_inform 17 = .ok (.iaload, 1) := fX7_inform_0.2.2.2.2.2.2.2.2.2.2.2.1
theorem dX7_inform_18 : decode cX7_inform 18 = .ok (.iconst 1, 1) := fX7_inform_0.2.2.2.2.2.2.2.2.2.2.2.2.1
theorem dX7_inform_19 : decode cX7_inform 19 = .ok (.isub, 1) := fX7_inform_0.2.2.2.2.2.2.2.2.2.2.2.2.2.1
theorem dX7_inform_20 : decode cX7_inform 20 = .ok (.iastore, 1) := fX7_inform_0.2.2.2.2.2.2.2.2.2.2.2.2.2.2.1
theorem dX7_inform_21 : decode cX7_inform 21 = .ok (.iload_n 2, 1) := fX7_inform_0.2.2.2.2.2.2.2.2.2.2.2.2.2.2.2.1
theorem dX7_inform_22 : decode cX7_inform 22 = .ok (.iload_n 1, 1) := fX7_inform_0.2.2.2.2.2.2.2.2.2.2.2.2.2.2.2.2.1
theorem dX7_inform_23 : decode cX7_inform 23 = .ok (.iconst 1, 1) := fX7_inform_0.2.2.2.2.2.2.2.2.2.2.2.2.2.2.2.2.2.1
theorem dX7_inform_24 : decode cX7_inform 24 = .ok (.iand, 1) := fX7_inform_0.2.2.2.2.2.2.2.2.2.2.2.2.2.2.2.2.2.2.1
theorem dX7_inform_25 : decode cX7_inform 25 = .ok (.if_icmp .eq 12, 3) := fX7_inform_0.2.2.2.2.2.2.2.2.2.2.2.2.2.2.2.2.2.2.2.1
theorem dX7_inform_28 : decode cX7_inform 28 = .ok (.aload_n 0, 1) := fX7_inform_0.2.2.2.2.2.2.2.2.2.2.2.2.2.2.2.2.2.2.2.2.1
theorem dX7_inform_29 : decode cX7_inform 29 = .ok (.getfield 44, 3) := fX7_inform_0.2.2.2.2.2.2.2.2.2.2.2.2.2.2.2.2.2.2.2.2.2.1
theorem dX7_inform_32 : decode cX7_inform 32 = .ok (.iload_n 1, 1) := fX7_inform_0.2.2.2.2.2.2.2.2.2.2.2.2.2.2.2.2.2.2.2.2.2.2.1
theorem dX7_inform_33 : decode cX7_inform 33 = .ok (.iaload, 1) := fX7_inform_0.2.2.2.2.2.2.2.2.2.2.2.2.2.2.2.2.2.2.2.2.2.2.2.1
theorem fX7_inform_34 : DS.Facts cX7_inform 34 [(.ifCond .ne 10, 3), (.aload_n 0, 1), (.iload_n 1, 1), (.iload_n 2, 1), (.iload_n 3, 1), (.invokevirtual 132, 3), (.return_, 1)] := DS.facts 34 _ (by decide +kernel) (by decide +kernel)
theorem dX7_inform_34 : decode cX7_inform 34 = .ok (.ifCond .ne 10, 3) := fX7_inform_34.1
theorem dX7_inform_37 : decode cX7_inform 37 = .ok (.aload_n 0, 1) := fX7_inform_34.2.1
theorem dX7_inform_38 : decode cX7_inform 38 = .ok (.iload_n 1, 1) := fX7_inform_34.2.2.1
theorem dX7_inform_39 : decode cX7_inform 39 = .ok (.iload_n 2, 1) := fX7_inform_34.2.2.2.1
theorem dX7_inform_40 : decode cX7_inform 40 = .ok (.iload_n 3, 1) := fX7_inform_34.2.2.2.2.1
theorem dX7_inform_41 : decode cX7_inform 41 = .ok (.invokevirtual 132, 3) := fX7_inform_34.2.2.2.2.2.1
theorem dX7_inform_44 : decode cX7_inform 44 = .ok (.return_, 1) := fX7_inform_34.2.2.2.2.2.2.1
set_option maxRecDepth 20000 in
theorem ggX7_tallyUp_J7_fill_53178 : GoodIn wsX7_tallyUp wsJ7_fill_53178 := goodIn_r _ [13] (by decide +kernel) (by decide +kernel)
set_option maxRecDepth 20000 in
theorem gX7_tallyUp_J7_fill_53178 : GoodIn wsX7_tallyUp (va_wsS RX7 94 yJ7_fill_53178 wsJ7_fill_53178) := goodIn_app (goodIn_of _ (by decide +kernel)) ggX7_tallyUp_J7_fill_53178
theorem fX7_tallyUp_0 : DS.Facts cX7_tallyUp 0 [(.aload_n 0, 1), (.getfield 32, 3), (.iconst 0, 1), (.invokestatic 94, 3), (.aload_n 0, 1), (.getfield 35, 3), (.iconst (-1), 1), (.invokestatic 94, 3), (.iconst 0, 1), (.istore_n 1, 1), (.iload_n 1, 1), (.iconst 2, 1), (.aload_n 0, 1), (.getfield 66, 3), (.imul, 1), (.if_icmp .ge 66, 3), (.aload_n 0, 1), (.getfield 38, 3), (.iload_n 1, 1), (.iaload, 1), (.istore_n 2, 1), (.iload_n 2, 1), (.iconst (-1), 1), (.if_icmp .ne 6, 3)] := DS.facts 0 _ (by decide +kernel) (by decide +kernel)
theorem dX7_tallyUp_0 : decode cX7_tallyUp 0 = .ok (.aload_n 0, 1) := fX7_tallyUp_0.1
theorem dX7_tallyUp_1 : decode cX7_tallyUp 1 = .ok (.getfield 32, 3) := fX7_tallyUp_0.2.1
theorem dX7_tallyUp_4 : decode cX7_tallyUp 4 = .ok (.iconst 0, 1) := fX7_tallyUp_0.2.2.1
theorem dX7_tallyUp_5 : decode cX7_tallyUp 5 = .ok (.invokestatic 94, 3) := fX7_tallyUp_0.2.2.2.1
theorem dX7_tallyUp_8 : decode cX7_tallyUp 8 = .ok (.aload_n 0, 1) := fX7_tallyUp_0.2.2.2.2.1
theorem dX7_tallyUp_9 : decode cX7_tallyUp 9 = .ok (.getfield 35, 3) := fX7_tallyUp_0.2.2.2.2.2.1
theorem dX7_tallyUp_12 : decode cX7_tallyUp 12 = .ok (.iconst (-1), 1) := fX7_tallyUp_0.2.2.2.2.2.2.1
theorem dX7_tallyUp_13 : decode cX7_tallyUp 13 = .ok (.invokestatic 94, 3) := fX7_tallyUp_0.2.2.2.2.2.2.2.1
theorem dX7_tallyUp_16 : decode cX7_tallyUp 16 = .ok (.iconst 0, 1) := fX7_tallyUp_0.2.2.2.2.2.2.2.2.1
theorem dX7_tallyUp_17 : decode cX7_tallyUp 17 = .ok (.istore_n 1, 1) := fX7_tallyUp_0.2.2.2.2.2.2.2.2.2.1
theorem dX7_tallyUp_18 : decode cX7_tallyUp 18 = .ok (.iload_n 1, 1) := fX7_tallyUp_0.2.2.2.2.2.2.2.2.2.2.1
theorem dX7_tallyUp_19 : decode cX7_tallyUp 19 = .ok (.iconst 2, 1) := fX7_tallyUp_0.2.2.2.2.2.2.2.2.2.2.2.1
theorem dX7_tallyUp_20 : decode cX7_tallyUp 20 = .ok (.aload_n 0, 1) := fX7_tallyUp_0.2.2.2.2.2.2.2.2.2.2.2.2.1
theorem dX7_tallyUp_21 : decode cX7_tallyUp 21 = .ok (.getfield 66, 3) := fX7_tallyUp_0.2.2.2.2.2.2.2.2.2.2.2.2.2.1
theorem dX7_tallyUp_24 : decode cX7_tallyUp 24 = .ok (.imul, 1) := fX7_tallyUp_0.2.2.2.2.2.2.2.2.2.2.2.2.2.2.1
theorem dX7_tallyUp_25 : decode cX7_tallyUp 25 = .ok (.if_icmp .ge 66, 3) := fX7_tallyUp_0.2.2.2.2.2.2.2.2.2.2.2.2.2.2.2.1
theorem dX7_tallyUp_28 : decode cX7_tallyUp 28 = .ok (.aload_n 0, 1) := fX7_tallyUp_0.2.2.2.2.2.2.2.2.2.2.2.2.2.2.2.2.1
theorem dX7_tallyUp_29 : decode cX7_tallyUp 29 = .ok (.getfield 38, 3) := fX7_tallyUp_0.2.2.2.2.2.2.2.2.2.2.2.2.2.2.2.2.2.1
theorem dX7_tallyUp_32 : decode cX7_tallyUp 32 = .ok (.iload_n 1, 1) := fX7_tallyUp_0.2.2.2.2.2.2.2.2.2.2.2.2.2.2.2.2.2.2.1
theorem dX7_tallyUp_33 : decode cX7_tallyUp 33 = .ok (.iaload, 1) := fX7_tallyUp_0.2.2.2.2.2.2.2.2.2.2.2.2.2.2.2.2.2.2.2.1
theorem dX7_tallyUp_34 : decode cX7_tallyUp 34 = .ok (.istore_n 2, 1) := fX7_tallyUp_0.2.2.2.2.2.2.2.2.2.2.2.2.2.2.2.2.2.2.2.2.1
theorem dX7_tallyUp_35 : decode cX7_tallyUp 35 = .ok (.iload_n 2, 1) := fX7_tallyUp_0.2.2.2.2.2.2.2.2.2.2.2.2.2.2.2.2.2.2.2.2.2.1
theorem dX7_tallyUp_36 : decode cX7_tallyUp 36 = .ok (.iconst (-1), 1) := fX7_tallyUp_0.2.2.2.2.2.2.2.2.2.2.2.2.2.2.2.2.2.2.2.2.2.2.1
theorem dX7_tallyUp_37 : decode cX7_tallyUp 37 = .ok (.if_icmp .ne 6, 3) := fX7_tallyUp_0.2.2.2.2.2.2.2.2.2.2.2.2.2.2.2.2.2.2.2.2.2.2.2.1
theorem fX7_tallyUp_40 : DS.Facts cX7_tallyUp 40 [(.goto 45, 3), (.aload_n 0, 1), (.getfield 32, 3), (.iload_n 2, 1), (.iconst 2, 1), (.imul, 1), (.iload_n 1, 1), (.iconst 1, 1), (.iand, 1), (.iadd, 1), (.dup2, 1), (.iaload, 1), (.iconst 1, 1), (.iadd, 1), (.iastore, 1), (.iload_n 2, 1), (.iconst 2, 1), (.if_icmp .eq 24, 3), (.aload_n 0, 1), (.getfield 35, 3), (.iload_n 2, 1), (.aload_n 0, 1), (.getfield 35, 3), (.iload_n 2, 1)] := DS.facts 40 _ (by decide +kernel) (by decide +kernel)
theorem dX7_tallyUp_40 : decode cX7_tallyUp 40 = .ok (.goto 45, 3) := fX7_tallyUp_40.1
theorem dX7_tallyUp_43 : decode cX7_tallyUp 43 = .ok (.aload_n 0, 1) := fX7_tallyUp_40.2.1
theorem dX7_tallyUp_44 : decode cX7_tallyUp 44 = .ok (.getfield 32, 3) := fX7_tallyUp_40.2.2.1
theorem dX7_tallyUp_47 : decode cX7_tallyUp 47 = .ok (.iload_n 2, 1) := fX7_tallyUp_40.2.2.2.1
theorem dX7_tallyUp_48 : decode cX7_tallyUp 48 = .ok (.iconst 2, 1) := fX7_tallyUp_40.2.2.2.2.1
theorem dX7_tallyUp_49 : decode cX7_tallyUp 49 = .ok (.imul, 1) := fX7_tallyUp_40.2.2.2.2.2.1
theorem dX7_tallyUp_50 : decode cX7_tallyUp 50 = .ok (.iload_n 1, 1) := fX7_tallyUp_40.2.2.2.2.2.2.1
theorem dX7_tallyUp_51 : decode cX7_tallyUp 51 = .ok (.iconst 1, 1) := fX7_tallyUp_40.2.2.2.2.2.2.2.1
theorem dX7_tallyUp_52 : decode cX7_tallyUp 52 = .ok (.iand, 1) := fX7_tallyUp_40.2.2.2.2.2.2.2.2.1
theorem dX7_tallyUp_53 : decode cX7_tallyUp 53 = .ok (.iadd, 1) := fX7_tallyUp_40.2.2.2.2.2.2.2.2.2.1
theorem dX7_tallyUp_54 : decode cX7_tallyUp 54 = .ok (.dup2, 1) := fX7_tallyUp_40.2.2.2.2.2.2.2.2.2.2.1
theorem dX7_tallyUp_55 : decode cX7_tallyUp 55 = .ok (.iaload, 1) := fX7_tallyUp_40.2.2.2.2.2.2.2.2.2.2.2.1
theorem dX7_tallyUp_56 : decode cX7_tallyUp 56 = .ok (.iconst 1, 1) := fX7_tallyUp_40.2.2.2.2.2.2.2.2.2.2.2.2.1
theorem dX7_tallyUp_57 : decode cX7_tallyUp 57 = .ok (.iadd, 1) := fX7_tallyUp_40.2.2.2.2.2.2.2.2.2.2.2.2.2.1
theorem dX7_tallyUp_58 : decode cX7_tallyUp 58 = .ok (.iastore, 1) := fX7_tallyUp_40.2.2.2.2.2.2.2.2.2.2.2.2.2.2.1
theorem dX7_tallyUp_59 : decode cX7_tallyUp 59 = .ok (.iload_n 2, 1) := fX7_tallyUp_40.2.2.2.2.2.2.2.2.2.2.2.2.2.2.2.1
theorem dX7_tallyUp_60 : decode cX7_tallyUp 60 = .ok (.iconst 2, 1) := fX7_tallyUp_40.2.2.2.2.2.2.2.2.2.2.2.2.2.2.2.2.1
theorem dX7_tallyUp_61 : decode cX7_tallyUp 61 = .ok (.if_icmp .eq 24, 3) := fX7_tallyUp_40.2.2.2.2.2.2.2.2.2.2.2.2.2.2.2.2.2.1
theorem dX7_tallyUp_64 : decode cX7_tallyUp 64 = .ok (.aload_n 0, 1) := fX7_tallyUp_40.2.2.2.2.2.2.2.2.2.2.2.2.2.2.2.2.2.2.1
theorem dX7_tallyUp_65 : decode cX7_tallyUp 65 = .ok (.getfield 35, 3) := fX7_tallyUp_40.2.2.2.2.2.2.2.2.2.2.2.2.2.2.2.2.2.2.2.1
theorem dX7_tallyUp_68 : decode cX7_tallyUp 68 = .ok (.iload_n 2, 1) := fX7_tallyUp_40.2.2.2.2.2.2.2.2.2.2.2.2.2.2.2.2.2.2.2.2.1
theorem dX7_tallyUp_69 : decode cX7_tallyUp 69 = .ok (.aload_n 0, 1) := fX7_tallyUp_40.2.2.2.2.2.2.2.2.2.2.2.2.2.2.2.2.2.2.2.2.2.1
theorem dX7_tallyUp_70 : decode cX7_tallyUp 70 = .ok (.getfield 35, 3) := fX7_tallyUp_40.2.2.2.2.2.2.2.2.2.2.2.2.2.2.2.2.2.2.2.2.2.2.1
theorem dX7_tallyUp_73 : decode cX7_tallyUp 73 = .ok (.iload_n 2, 1) := fX7_tallyUp_40.2.2.2.2.2.2.2.2.2.2.2.2.2.2.2.2.2.2.2.2.2.2.2.1
theorem fX7_tallyUp_74 : DS.Facts cX7_tallyUp 74 [(.iaload, 1), (.aload_n 0, 1), (.getfield 41, 3), (.iload_n 1, 1), (.iaload, 1), (.invokestatic 195, 3), (.iastore, 1), (.iinc 1 1, 3), (.goto (-70), 3), (.return_, 1)] := DS.facts 74 _ (by decide +kernel) (by decide +kernel)
theorem dX7_tallyUp_74 : decode cX7_tallyUp 74 = .ok (.iaload, 1) := fX7_tallyUp_74.1
theorem dX7_tallyUp_75 : decode cX7_tallyUp 75 = .ok (.aload_n 0, 1) := fX7_tallyUp_74.2.1
theorem dX7_tallyUp_76 : decode cX7_tallyUp 76 = .ok (.getfield 41, 3) := fX7_tallyUp_74.2.2.1
theorem dX7_tallyUp_79 : decode cX7_tallyUp 79 = .ok (.iload_n 1, 1) := fX7_tallyUp_74.2.2.2.1
theorem dX7_tallyUp_80 : decode cX7_tallyUp 80 = .ok (.iaload, 1) := fX7_tallyUp_74.2.2.2.2.1
theorem dX7_tallyUp_81 : decode cX7_tallyUp 81 = .ok (.invokestatic 195, 3) := fX7_tallyUp_74.2.2.2.2.2.1
theorem dX7_tallyUp_84 : decode cX7_tallyUp 84 = .ok (.iastore, 1) := fX7_tallyUp_74.2.2.2.2.2.2.1
theorem dX7_tallyUp_85 : decode cX7_tallyUp 85 = .ok (.iinc 1 1, 3) := fX7_tallyUp_74.2.2.2.2.2.2.2.1
theorem dX7_tallyUp_88 : decode cX7_tallyUp 88 = .ok (.goto (-70), 3) := fX7_tallyUp_74.2.2.2.2.2.2.2.2.1
theorem dX7_tallyUp_91 : decode cX7_tallyUp 91 = .ok (.return_, 1) := fX7_tallyUp_74.2.2.2.2.2.2.2.2.2.1
set_option maxRecDepth 20000 in
theorem ggX7_indexOf_X8_fieldOf : GoodIn wsX7_indexOf wsX8_fieldOf := goodIn_r _ [9, 10, 40, 41, 42] (by decide +kernel) (by decide +kernel)
set_option maxRecDepth 20000 in
theorem gX7_indexOf_X8_fieldOf : GoodIn wsX7_indexOf (wsV RX7 157 RX8 yX8_fieldOf wsX8_fieldOf) := goodIn_app (goodIn_of _ (by decide +kernel)) ggX7_indexOf_X8_fieldOf
theorem fX7_indexOf_0 : DS.Facts cX7_indexOf 0 [(.aload_n 0, 1), (.getfield 54, 3), (.ifCond .ne 5, 3), (.iconst (-1), 1), (.ireturn, 1), (.iconst 0, 1), (.istore_n 2, 1), (.iconst 0, 1), (.istore_n 3, 1), (.iload_n 3, 1), (.aload_n 0, 1), (.getfield 50, 3), (.getfield 73, 3), (.if_icmp .ge 47, 3), (.aload_n 1, 1), (.iload_n 3, 1), (.invokevirtual 157, 3), (.istore 4, 2), (.iload_n 2, 1), (.iload 4, 2), (.iconst (-1), 1), (.if_icmp .ne 16, 3), (.aload_n 0, 1), (.getfield 50, 3)] := DS.facts 0 _ (by decide +kernel) (by decide +kernel)
theorem dX7_indexOf_0 : decode cX7_indexOf 0 = .ok (.aload_n 0, 1) := fX7_indexOf_0.1
theorem dX7_indexOf_1 : decode cX7_indexOf 1 = .ok (.getfield 54, 3) := fX7_indexOf_0.2.1
theorem dX7_indexOf_4 : decode cX7_indexOf 4 = .ok (.ifCond .ne 5, 3) := fX7_indexOf_0.2.2.1
theorem dX7_indexOf_7 : decode cX7_indexOf 7 = .ok (.iconst (-1), 1) := fX7_indexOf_0.2.2.2.1
theorem dX7_indexOf_8 : decode cX7_indexOf 8 = .ok (.ireturn, 1) := fX7_indexOf_0.2.2.2.2.1
theorem dX7_indexOf_9 : decode cX7_indexOf 9 = .ok (.iconst 0, 1) := fX7_indexOf_0.2.2.2.2.2.1
theorem dX7_indexOf_10 : decode cX7_indexOf 10 = .ok (.istore_n 2, 1) := fX7_indexOf_0.2.2.2.2.2.2.1
theorem dX7_indexOf_11 : decode cX7_indexOf 11 = .ok (.iconst 0, 1) := fX7_indexOf_0.2.2.2.2.2.2.2.1
theorem dX7_indexOf_12 : decode cX7_indexOf 12 = .ok (.istore_n 3, 1) := fX7_indexOf_0.2.2.2.2.2.2.2.2.1
theorem dX7_indexOf_13 : decode cX7_indexOf 13 = .ok (.iload_n 3, 1) := fX7_indexOf_0.2.2.2.2.2.2.2.2.2.1
theorem dX7_indexOf_14 : decode cX7_indexOf 14 = .ok (.aload_n 0, 1) := fX7_indexOf_0.2.2.2.2.2.2.2.2.2.2.1
theorem dX7_indexOf_15 : decode cX7_indexOf 15 = .ok (.getfield 50, 3) := fX7_indexOf_0.2.2.2.2.2.2.2.2.2.2.2.1
theorem dX7_indexOf_18 : decode cX7_indexOf 18 = .ok (.getfield 73, 3) := fX7_indexOf_0.2.2.2.2.2.2.2.2.2.2.2.2.1
theorem dX7_indexOf_21 : decode cX7_indexOf 21 = .ok (.if_icmp .ge 47, 3) := fX7_indexOf_0.2.2.2.2.2.2.2.2.2.2.2.2.2.1
theorem dX7_indexOf_24 : decode cX7_indexOf 24 = .ok (.aload_n 1, 1) := fX7_indexOf_0.2.2.2.2.2.2.2.2.2.2.2.2.2.2.1
theorem dX7_indexOf_25 : decode cX7_indexOf 25 = .ok (.iload_n 3, 1) := fX7_indexOf_0.2.2.2.2.2.2.2.2.2.2.2.2.2.2.2.1
theorem dX7_indexOf_26 : decode cX7_indexOf 26 = .ok (.invokevirtual 157, 3) := fX7_indexOf_0.2.2.2.2.2.2.2.2.2.2.2.2.2.2.2.2.1
theorem dX7_indexOf_29 : decode cX7_indexOf 29 = .ok (.istore 4, 2) := fX7_indexOf_0.2.2.2.2.2.2.2.2.2.2.2.2.2.2.2.2.2.1
theorem dX7_indexOf_31 : decode cX7_indexOf 31 = .ok (.iload_n 2, 1) := fX7_indexOf_0.2.2.2.2.2.2.2.2.2.2.2.2.2.2.2.2.2.2.1
theorem dX7_indexOf_32 : decode cX7_indexOf 32 = .ok (.iload 4, 2) := fX7_indexOf_0.2.2.2.2.2.2.2.2.2.2.2.2.2.2.2.2.2.2.2.1
theorem dX7_indexOf_34 : decode cX7_indexOf 34 = .ok (.iconst (-1), 1) := fX7_indexOf_0.2.2.2.2.2.2.2.2.2.2.2.2.2.2.2.2.2.2.2.2.1
theorem dX7_indexOf_35 : decode cX7_indexOf 35 = .ok (.if_icmp .ne 16, 3) := fX7_indexOf_0.2.2.2.2.2.2.2.2.2.2.2.2.2.2.2.2.2.2.2.2.2.1
theorem dX7_indexOf_38 : decode cX7_indexOf 38 = .ok (.aload_n 0, 1) := fX7_indexOf_0.2.2.2.2.2.2.2.2.2.2.2.2.2.2.2.2.2.2.2.2.2.2.1
theorem dX7_indexOf_39 : decode cX7_indexOf 39 = .ok (.getfield 50, 3) := fX7_indexOf_0.2.2.2.2.2.2.2.2.2.2.2.2.2.2.2.2.2.2.2.2.2.2.2.1
theorem fX7_indexOf_42 : DS.Facts cX7_indexOf 42 [(.getfield 78, 3), (.getfield 115, 3), (.goto 5, 3), (.iload 4, 2), (.aload_n 0, 1), (.getfield 25, 3), (.iload_n 3, 1), (.iaload, 1), (.imul, 1), (.iadd, 1), (.istore_n 2, 1), (.iinc 3 1, 3), (.goto (-52), 3), (.iconst 2, 1), (.iload_n 2, 1), (.imul, 1), (.aload_n 1, 1), (.getfield 125, 3), (.iadd, 1), (.istore_n 3, 1), (.iload_n 3, 1), (.ifCond .lt 17, 3), (.iload_n 3, 1), (.iconst 2, 1)] := DS.facts 42 _ (by decide +kernel) (by decide +kernel)
theorem dX7_indexOf_42 : decode cX7_indexOf 42 = .ok (.getfield 78, 3) := fX7_indexOf_42.1
theorem dX7_indexOf_45 : decode cX7_indexOf 45 = .ok (.getfield 115, 3) := fX7_indexOf_42.2.1
theorem dX7_indexOf_48 : decode cX7_indexOf 48 = .ok (.goto 5, 3) := fX7_indexOf_42.2.2.1
theorem dX7_indexOf_51 : decode cX7_indexOf 51 = .ok (.iload 4, 2) := fX7_indexOf_42.2.2.2.1
theorem dX7_indexOf_53 : decode cX7_indexOf 53 = .ok (.aload_n 0, 1) := fX7_indexOf_42.2.2.2.2.1
theorem dX7_indexOf_54 : decode cX7_indexOf 54 = .ok (.getfield 25, 3) := fX7_indexOf_42.2.2.2.2.2.1
theorem dX7_indexOf_57 : decode cX7_indexOf 57 = .ok (.iload_n 3, 1) := fX7_indexOf_42.2.2.2.2.2.2.1
theorem dX7_indexOf_58 : decode cX7_indexOf 58 = .ok (.iaload, 1) := fX7_indexOf_42.2.2.2.2.2.2.2.1
theorem dX7_indexOf_59 : decode cX7_indexOf 59 = .ok (.imul, 1) := fX7_indexOf_42.2.2.2.2.2.2.2.2.1
theorem dX7_indexOf_60 : decode cX7_indexOf 60 = .ok (.iadd, 1) := fX7_indexOf_42.2.2.2.2.2.2.2.2.2.1
theorem dX7_indexOf_61 : decode cX7_indexOf 61 = .ok (.istore_n 2, 1) := fX7_indexOf_42.2.2.2.2.2.2.2.2.2.2.1
theorem dX7_indexOf_62 : decode cX7_indexOf 62 = .ok (.iinc 3 1, 3) := fX7_indexOf_42.2.2.2.2.2.2.2.2.2.2.2.1
theorem dX7_indexOf_65 : decode cX7_indexOf 65 = .ok (.goto (-52), 3) := fX7_indexOf_42.2.2.2.2.2.2.2.2.2.2.2.2.1
theorem dX7_indexOf_68 : decode cX7_indexOf 68 = .ok (.iconst 2, 1) := fX7_indexOf_42.2.2.2.2.2.2.2.2.2.2.2.2.2.1
theorem dX7_indexOf_69 : decode cX7_indexOf 69 = .ok (.iload_n 2, 1) := fX7_indexOf_42.2.2.2.2.2.2.2.2.2.2.2.2.2.2.1
theorem dX7_indexOf_70 : decode cX7_indexOf 70 = .ok (.imul, 1) := fX7_indexOf_42.2.2.2.2.2.2.2.2.2.2.2.2.2.2.2.1
theorem dX7_indexOf_71 : decode cX7_indexOf 71 = .ok (.aload_n 1, 1) := fX7_indexOf_42.2.2.2.2.2.2.2.2.2.2.2.2.2.2.2.2.1
theorem dX7_indexOf_72 : decode cX7_indexOf 72 = .ok (.getfield 125, 3) := fX7_indexOf_42.2.2.2.2.2.2.2.2.2.2.2.2.2.2.2.2.2.1
theorem dX7_indexOf_75 : decode cX7_indexOf 75 = .ok (.iadd, 1) := fX7_indexOf_42.2.2.2.2.2.2.2.2.2.2.2.2.2.2.2.2.2.2.1
theorem dX7_indexOf_76 : decode cX7_indexOf 76 = .ok (.istore_n 3, 1) := fX7_indexOf_42.2.2.2.2.2.2.2.2.2.2.2.2.2.2.2.2.2.2.2.1
theorem dX7_indexOf_77 : decode cX7_indexOf 77 = .ok (.iload_n 3, 1) := fX7_indexOf_42.2.2.2.2.2.2.2.2.2.2.2.2.2.2.2.2.2.2.2.2.1
theorem dX7_indexOf_78 : decode cX7_indexOf 78 = .ok (.ifCond .lt 17, 3) := fX7_indexOf_42.2.2.2.2.2.2.2.2.2.2.2.2.2.2.2.2.2.2.2.2.2.1
theorem dX7_indexOf_81 : decode cX7_indexOf 81 = .ok (.iload_n 3, 1) := fX7_indexOf_42.2.2.2.2.2.2.2.2.2.2.2.2.2.2.2.2.2.2.2.2.2.2.1
theorem dX7_indexOf_82 : decode cX7_indexOf 82 = .ok (.iconst 2, 1) := fX7_indexOf_42.2.2.2.2.2.2.2.2.2.2.2.2.2.2.2.2.2.2.2.2.2.2.2.1
theorem fX7_indexOf_83 : DS.Facts cX7_indexOf 83 [(.aload_n 0, 1), (.getfield 66, 3), (.imul, 1), (.if_icmp .ge 7, 3), (.iload_n 3, 1), (.goto 4, 3), (.iconst (-1), 1), (.ireturn, 1)] := DS.facts 83 _ (by decide +kernel) (by decide +kernel)
theorem dX7_indexOf_83 : decode cX7_indexOf 83 = .ok (.aload_n 0, 1) := fX7_indexOf_83.1
theorem dX7_indexOf_84 : decode cX7_indexOf 84 = .ok (.getfield 66, 3) := fX7_indexOf_83.2.1
theorem dX7_indexOf_87 : decode cX7_indexOf 87 = .ok (.imul, 1) := fX7_indexOf_83.2.2.1
theorem dX7_indexOf_88 : decode cX7_indexOf 88 = .ok (.if_icmp .ge 7, 3) := fX7_indexOf_83.2.2.2.1
theorem dX7_indexOf_91 : decode cX7_indexOf 91 = .ok (.iload_n 3, 1) := fX7_indexOf_83.2.2.2.2.1
theorem dX7_indexOf_92 : decode cX7_indexOf 92 = .ok (.goto 4, 3) := fX7_indexOf_83.2.2.2.2.2.1
theorem dX7_indexOf_95 : decode cX7_indexOf 95 = .ok (.iconst (-1), 1) := fX7_indexOf_83.2.2.2.2.2.2.1
theorem dX7_indexOf_96 : decode cX7_indexOf 96 = .ok (.ireturn, 1) := fX7_indexOf_83.2.2.2.2.2.2.2.1
set_option maxRecDepth 20000 in
theorem ggX7_worthOf_X7_indexOf : GoodIn wsX7_worthOf wsX7_indexOf := goodIn_r _ [6, 7, 8, 9, 10, 11, 12, 13, 14, 15, 16, 17, 18, 19, 20, 21, 22, 23, 24, 25, 26, 27, 28, 29, 30, 31, 32, 33, 34, 35, 36, 37, 38, 39, 40, 41, 42, 43, 44, 45, 46, 47, 48] (by decide +kernel) (by decide +kernel)
set_option maxRecDepth 20000 in
theorem gX7_worthOf_X7_indexOf : GoodIn wsX7_worthOf (wsV RX7 200 RX7 yX7_indexOf wsX7_indexOf) := goodIn_app (goodIn_of _ (by decide +kernel)) ggX7_worthOf_X7_indexOf
theorem fX7_worthOf_0 : DS.Facts cX7_worthOf 0 [(.aload_n 0, 1), (.aload_n 1, 1), (.invokevirtual 200, 3), (.istore_n 2, 1), (.iload_n 2, 1), (.iconst (-1), 1), (.if_icmp .ne 7, 3), (.iconst (-1), 1), (.goto 9, 3), (.aload_n 0, 1), (.getfield 38, 3), (.iload_n 2, 1), (.iaload, 1), (.ireturn, 1)] := DS.facts 0 _ (by decide +kernel) (by decide +kernel)
theorem dX7_worthOf_0 : decode cX7_worthOf 0 = .ok (.aload_n 0, 1) := fX7_worthOf_0.1
theorem dX7_worthOf_1 : decode cX7_worthOf 1 = .ok (.aload_n 1, 1) := fX7_worthOf_0.2.1
theorem dX7_worthOf_2 : decode cX7_worthOf 2 = .ok (.invokevirtual 200, 3) := fX7_worthOf_0.2.2.1
theorem dX7_worthOf_5 : decode cX7_worthOf 5 = .ok (.istore_n 2, 1) := fX7_worthOf_0.2.2.2.1
theorem dX7_worthOf_6 : decode cX7_worthOf 6 = .ok (.iload_n 2, 1) := fX7_worthOf_0.2.2.2.2.1
theorem dX7_worthOf_7 : decode cX7_worthOf 7 = .ok (.iconst (-1), 1) := fX7_worthOf_0.2.2.2.2.2.1
theorem dX7_worthOf_8 : decode cX7_worthOf 8 = .ok (.if_icmp .ne 7, 3) := fX7_worthOf_0.2.2.2.2.2.2.1
theorem dX7_worthOf_11 : decode cX7_worthOf 11 = .ok (.iconst (-1), 1) := fX7_worthOf_0.2.2.2.2.2.2.2.1
theorem dX7_worthOf_12 : decode cX7_worthOf 12 = .ok (.goto 9, 3) := fX7_worthOf_0.2.2.2.2.2.2.2.2.1
theorem dX7_worthOf_15 : decode cX7_worthOf 15 = .ok (.aload_n 0, 1) := fX7_worthOf_0.2.2.2.2.2.2.2.2.2.1
theorem dX7_worthOf_16 : decode cX7_worthOf 16 = .ok (.getfield 38, 3) := fX7_worthOf_0.2.2.2.2.2.2.2.2.2.2.1
theorem dX7_worthOf_19 : decode cX7_worthOf 19 = .ok (.iload_n 2, 1) := fX7_worthOf_0.2.2.2.2.2.2.2.2.2.2.2.1
theorem dX7_worthOf_20 : decode cX7_worthOf 20 = .ok (.iaload, 1) := fX7_worthOf_0.2.2.2.2.2.2.2.2.2.2.2.2.1
theorem dX7_worthOf_21 : decode cX7_worthOf 21 = .ok (.ireturn, 1) := fX7_worthOf_0.2.2.2.2.2.2.2.2.2.2.2.2.2.1
set_option maxRecDepth 20000 in
theorem ggX7_deepOf_X7_indexOf : GoodIn wsX7_deepOf wsX7_indexOf := goodIn_r _ [6, 7, 8, 9, 10, 11, 12, 13, 14, 15, 16, 17, 18, 19, 20, 21, 22, 23, 24, 25, 26, 27, 28, 29, 30, 31, 32, 33, 34, 35, 36, 37, 38, 39, 40, 41, 42, 43, 44, 45, 46, 47, 48] (by decide +kernel) (by decide +kernel)
set_option maxRecDepth 20000 in
theorem gX7_deepOf_X7_indexOf : GoodIn wsX7_deepOf (wsV RX7 200 RX7 yX7_indexOf wsX7_indexOf) := goodIn_app (goodIn_of _ (by decide +kernel)) ggX7_deepOf_X7_indexOf
theorem fX7_deepOf_0 : DS.Facts cX7_deepOf 0 [(.aload_n 0, 1), (.aload_n 1, 1), (.invokevirtual 200, 3), (.istore_n 2, 1), (.iload_n 2, 1), (.iconst (-1), 1), (.if_icmp .ne 7, 3), (.iconst (-1), 1), (.goto 9, 3), (.aload_n 0, 1), (.getfield 41, 3), (.iload_n 2, 1), (.iaload, 1), (.ireturn, 1)] := DS.facts 0 _ (by decide +kernel) (by decide +kernel)
theorem dX7_deepOf_0 : decode cX7_deepOf 0 = .ok (.aload_n 0, 1) := fX7_deepOf_0.1
theorem dX7_deepOf_1 : decode cX7_deepOf 1 = .ok (.aload_n 1, 1) := fX7_deepOf_0.2.1
theorem dX7_deepOf_2 : decode cX7_deepOf 2 = .ok (.invokevirtual 200, 3) := fX7_deepOf_0.2.2.1
theorem dX7_deepOf_5 : decode cX7_deepOf 5 = .ok (.istore_n 2, 1) := fX7_deepOf_0.2.2.2.1
theorem dX7_deepOf_6 : decode cX7_deepOf 6 = .ok (.iload_n 2, 1) := fX7_deepOf_0.2.2.2.2.1
theorem dX7_deepOf_7 : decode cX7_deepOf 7 = .ok (.iconst (-1), 1) := fX7_deepOf_0.2.2.2.2.2.1
theorem dX7_deepOf_8 : decode cX7_deepOf 8 = .ok (.if_icmp .ne 7, 3) := fX7_deepOf_0.2.2.2.2.2.2.1
theorem dX7_deepOf_11 : decode cX7_deepOf 11 = .ok (.iconst (-1), 1) := fX7_deepOf_0.2.2.2.2.2.2.2.1
theorem dX7_deepOf_12 : decode cX7_deepOf 12 = .ok (.goto 9, 3) := fX7_deepOf_0.2.2.2.2.2.2.2.2.1
theorem dX7_deepOf_15 : decode cX7_deepOf 15 = .ok (.aload_n 0, 1) := fX7_deepOf_0.2.2.2.2.2.2.2.2.2.1
theorem dX7_deepOf_16 : decode cX7_deepOf 16 = .ok (.getfield 41, 3) := fX7_deepOf_0.2.2.2.2.2.2.2.2.2.2.1
theorem dX7_deepOf_19 : decode cX7_deepOf 19 = .ok (.iload_n 2, 1) := fX7_deepOf_0.2.2.2.2.2.2.2.2.2.2.2.1
theorem dX7_deepOf_20 : decode cX7_deepOf 20 = .ok (.iaload, 1) := fX7_deepOf_0.2.2.2.2.2.2.2.2.2.2.2.2.1
theorem dX7_deepOf_21 : decode cX7_deepOf 21 = .ok (.ireturn, 1) := fX7_deepOf_0.2.2.2.2.2.2.2.2.2.2.2.2.2.1
set_option maxRecDepth 20000 in
theorem ggX7_bestMove_X7_indexOf : GoodIn wsX7_bestMove wsX7_indexOf := goodIn_r _ [8, 9, 3, 10, 11, 12, 13, 14, 15, 16, 17, 87, 88, 89, 90, 91, 92, 93, 94, 95, 96, 97, 98, 99, 100, 101, 102, 103, 104, 105, 106, 107, 108, 109, 110, 114, 115, 116, 117, 118, 111, 112, 113] (by decide +kernel) (by decide +kernel)
set_option maxRecDepth 20000 in
theorem gX7_bestMove_X7_indexOf : GoodIn wsX7_bestMove (wsV RX7 200 RX7 yX7_indexOf wsX7_indexOf) := goodIn_app (goodIn_of _ (by decide +kernel)) ggX7_bestMove_X7_indexOf
set_option maxRecDepth 20000 in
theorem ggX7_bestMove_X7_deepKept : GoodIn wsX7_bestMove wsX7_deepKept := goodIn_r _ [21, 3, 11, 1, 2, 22, 23, 24, 25, 26, 27, 28, 29, 30, 31, 32, 33, 34, 35, 13, 14, 15, 16, 17, 36, 37, 38, 39, 40, 41, 42, 43, 44, 45, 46, 47, 48, 49, 50, 51, 12, 52, 53, 54, 55, 56, 57, 58, 59, 60, 61, 62, 63, 64, 65, 66, 67, 68, 69, 70, 71, 72, 73, 74, 75, 76, 77, 78, 79, 80, 81, 82, 83, 84, 85, 7, 86, 10, 87, 88, 89, 90, 91, 92, 93, 94, 95, 96, 97, 98, 99, 100, 101, 102, 103, 104, 105, 106, 107, 108, 109, 110, 111, 112, 113, 119, 120, 121, 122, 123, 114, 115, 116, 117, 118] (by decide +kernel) (by decide +kernel)
set_option maxRecDepth 20000 in
theorem gX7_bestMove_X7_deepKept : GoodIn wsX7_bestMove (wsV RX7 203 RX7 yX7_deepKept wsX7_deepKept) := goodIn_app (goodIn_of _ (by decide +kernel)) ggX7_bestMove_X7_deepKept
theorem fX7_bestMove_0 : DS.Facts cX7_bestMove 0 [(.aload_n 0, 1), (.aload_n 1, 1), (.invokevirtual 200, 3), (.istore_n 2, 1), (.iload_n 2, 1), (.iconst (-1), 1), (.if_icmp .eq 22, 3), (.aload_n 0, 1), (.getfield 38, 3), (.iload_n 2, 1), (.iaload, 1), (.iconst 2, 1), (.if_icmp .eq 14, 3), (.aload_n 0, 1), (.getfield 41, 3), (.iload_n 2, 1), (.iaload, 1), (.ifCond .ne 5, 3), (.iconst (-1), 1), (.ireturn, 1), (.iconst (-1), 1), (.istore_n 3, 1), (.iconst (-1), 1), (.istore 4, 2)] := DS.facts 0 _ (by decide +kernel) (by decide +kernel)
theorem dX7_bestMove_0 : decode cX7_bestMove 0 = .ok (.aload_n 0, 1) := fX7_bestMove_0.1
theorem dX7_bestMove_1 : decode cX7_bestMove 1 = .ok (.aload_n 1, 1) := fX7_bestMove_0.2.1
theorem dX7_bestMove_2 : decode cX7_bestMove 2 = .ok (.invokevirtual 200, 3) := fX7_bestMove_0.2.2.1
theorem dX7_bestMove_5 : decode cX7_bestMove 5 = .ok (.istore_n 2, 1) := fX7_bestMove_0.2.2.2.1
theorem dX7_bestMove_6 : decode cX7_bestMove 6 = .ok (.iload_n 2, 1) := fX7_bestMove_0.2.2.2.2.1
theorem dX7_bestMove_7 : decode cX7_bestMove 7 = .ok (.iconst (-1), 1) := fX7_bestMove_0.2.2.2.2.2.1
theorem dX7_bestMove_8 : decode cX7_bestMove 8 = .ok (.if_icmp .eq 22, 3) := fX7_bestMove_0.2.2.2.2.2.2.1
theorem dX7_bestMove_11 : decode cX7_bestMove 11 = .ok (.aload_n 0, 1) := fX7_bestMove_0.2.2.2.2.2.2.2.1
theorem dX7_bestMove_12 : decode cX7_bestMove 12 = .ok (.getfield 38, 3) := fX7_bestMove_0.2.2.2.2.2.2.2.2.1
theorem dX7_bestMove_15 : decode cX7_bestMove 15 = .ok (.iload_n 2, 1) := fX7_bestMove_0.2.2.2.2.2.2.2.2.2.1
theorem dX7_bestMove_16 : decode cX7_bestMove 16 = .ok (.iaload, 1) := fX7_bestMove_0.2.2.2.2.2.2.2.2.2.2.1
theorem dX7_bestMove_17 : decode cX7_bestMove 17 = .ok (.iconst 2, 1) := fX7_bestMove_0.2.2.2.2.2.2.2.2.2.2.2.1
theorem dX7_bestMove_18 : decode cX7_bestMove 18 = .ok (.if_icmp .eq 14, 3) := fX7_bestMove_0.2.2.2.2.2.2.2.2.2.2.2.2.1
theorem dX7_bestMove_21 : decode cX7_bestMove 21 = .ok (.aload_n 0, 1) := fX7_bestMove_0.2.2.2.2.2.2.2.2.2.2.2.2.2.1
theorem dX7_bestMove_22 : decode cX7_bestMove 22 = .ok (.getfield 41, 3) := fX7_bestMove_0.2.2.2.2.2.2.2.2.2.2.2.2.2.2.1
theorem dX7_bestMove_25 : decode cX7_bestMove 25 = .ok (.iload_n 2, 1) := fX7_bestMove_0.2.2.2.2.2.2.2.2.2.2.2.2.2.2.2.1
theorem dX7_bestMove_26 : decode cX7_bestMove 26 = .ok (.iaload, 1) := fX7_bestMove_0.2.2.2.2.2.2.2.2.2.2.2.2.2.2.2.2.1
theorem dX7_bestMove_27 : decode cX7_bestMove 27 = .ok (.ifCond .ne 5, 3) := fX7_bestMove_0.2.2.2.2.2.2.2.2.2.2.2.2.2.2.2.2.2.1
theorem dX7_bestMove_30 : decode cX7_bestMove 30 = .ok (.iconst (-1), 1) := fX7_bestMove_0.2.2.2.2.2.2.2.2.2.2.2.2.2.2.2.2.2.2.1
theorem dX7_bestMove_31 : decode cX7_bestMove 31 = .ok (.ireturn, 1) := fX7_bestMove_0.2.2.2.2.2.2.2.2.2.2.2.2.2.2.2.2.2.2.2.1
theorem dX7_bestMove_32 : decode cX7_bestMove 32 = .ok (.iconst (-1), 1) := fX7_bestMove_0.2.2.2.2.2.2.2.2.2.2.2.2.2.2.2.2.2.2.2.2.1
theorem dX7_bestMove_33 : decode cX7_bestMove 33 = .ok (.istore_n 3, 1) := fX7_bestMove_0.2.2.2.2.2.2.2.2.2.2.2.2.2.2.2.2.2.2.2.2.2.1
theorem dX7_bestMove_34 : decode cX7_bestMove 34 = .ok (.iconst (-1), 1) := fX7_bestMove_0.2.2.2.2.2.2.2.2.2.2.2.2.2.2.2.2.2.2.2.2.2.2.1
theorem dX7_bestMove_35 : decode cX7_bestMove 35 = .ok (.istore 4, 2) := fX7_bestMove_0.2.2.2.2.2.2.2.2.2.2.2.2.2.2.2.2.2.2.2.2.2.2.2.1
theorem fX7_bestMove_37 : DS.Facts cX7_bestMove 37 [(.iconst 0, 1), (.istore 5, 2), (.iload 5, 2), (.bipush 32, 2), (.aload_n 0, 1), (.getfield 50, 3), (.getfield 73, 3), (.imul, 1), (.if_icmp .ge 84, 3), (.aload_n 0, 1), (.aload_n 1, 1), (.iload_n 2, 1), (.iload 5, 2), (.invokevirtual 203, 3), (.istore 6, 2), (.aload_n 0, 1), (.getfield 38, 3), (.iload_n 2, 1), (.iaload, 1), (.aload_n 1, 1), (.getfield 125, 3), (.if_icmp .ne 18, 3), (.iload 6, 2), (.iload 4, 2)] := DS.facts 37 _ (by decide +kernel) (by decide +kernel)
theorem dX7_bestMove_37 : decode cX7_bestMove 37 = .ok (.iconst 0, 1) := fX7_bestMove_37.1
theorem dX7_bestMove_38 : decode cX7_bestMove 38 = .ok (.istore 5, 2) := fX7_bestMove_37.2.1
theorem dX7_bestMove_40 : decode cX7_bestMove 40 = .ok (.iload 5, 2) := fX7_bestMove_37.2.2.1
theorem dX7_bestMove_42 : decode cX7_bestMove 42 = .ok (.bipush 32, 2) := fX7_bestMove_37.2.2.2.1
theorem dX7_bestMove_44 : decode cX7_bestMove 44 = .ok (.aload_n 0, 1) := fX7_bestMove_37.2.2.2.2.1
theorem dX7_bestMove_45 : decode cX7_bestMove 45 = .ok (.getfield 50, 3) := fX7_bestMove_37.2.2.2.2.2.1
theorem dX7_bestMove_48 : decode cX7_bestMove 48 = .ok (.getfield 73, 3) := fX7_bestMove_37.2.2.2.2.2.2.1
theorem dX7_bestMove_51 : decode cX7_bestMove 51 = .ok (.imul, 1) := fX7_bestMove_37.2.2.2.2.2.2.2.1
theorem dX7_bestMove_52 : decode cX7_bestMove 52 = .ok (.if_icmp .ge 84, 3) := fX7_bestMove_37.2.2.2.2.2.2.2.2.1
theorem dX7_bestMove_55 : decode cX7_bestMove 55 = .ok (.aload_n 0, 1) := fX7_bestMove_37.2.2.2.2.2.2.2.2.2.1
theorem dX7_bestMove_56 : decode cX7_bestMove 56 = .ok (.aload_n 1, 1) := fX7_bestMove_37.2.2.2.2.2.2.2.2.2.2.1
theorem dX7_bestMove_57 : decode cX7_bestMove 57 = .ok (.iload_n 2, 1) := fX7_bestMove_37.2.2.2.2.2.2.2.2.2.2.2.1
theorem dX7_bestMove_58 : decode cX7_bestMove 58 = .ok (.iload 5, 2) := fX7_bestMove_37.2.2.2.2.2.2.2.2.2.2.2.2.1
theorem dX7_bestMove_60 : decode cX7_bestMove 60 = .ok (.invokevirtual 203, 3) := fX7_bestMove_37.2.2.2.2.2.2.2.2.2.2.2.2.2.1
theorem dX7_bestMove_63 : decode cX7_bestMove 63 = .ok (.istore 6, 2) := fX7_bestMove_37.2.2.2.2.2.2.2.2.2.2.2.2.2.2.1
theorem dX7_bestMove_65 : decode cX7_bestMove 65 = .ok (.aload_n 0, 1) := fX7_bestMove_37.2.2.2.2.2.2.2.2.2.2.2.2.2.2.2.1
theorem dX7_bestMove_66 : decode cX7_bestMove 66 = .ok (.getfield 38, 3) := fX7_bestMove_37.2.2.2.2.2.2.2.2.2.2.2.2.2.2.2.2.1
theorem dX7_bestMove_69 : decode cX7_bestMove 69 = .ok (.iload_n 2, 1) := fX7_bestMove_37.2.2.2.2.2.2.2.2.2.2.2.2.2.2.2.2.2.1
theorem dX7_bestMove_70 : decode cX7_bestMove 70 = .ok (.iaload, 1) := fX7_bestMove_37.2.2.2.2.2.2.2.2.2.2.2.2.2.2.2.2.2.2.1
theorem dX7_bestMove_71 : decode cX7_bestMove 71 = .ok (.aload_n 1, 1) := fX7_bestMove_37.2.2.2.2.2.2.2.2.2.2.2.2.2.2.2.2.2.2.2.1
theorem dX7_bestMove_72 : decode cX7_bestMove 72 = .ok (.getfield 125, 3) := fX7_bestMove_37.2.2.2.2.2.2.2.2.2.2.2.2.2.2.2.2.2.2.2.2.1
theorem dX7_bestMove_75 : decode cX7_bestMove 75 = .ok (.if_icmp .ne 18, 3) := fX7_bestMove_37.2.2.2.2.2.2.2.2.2.2.2.2.2.2.2.2.2.2.2.2.2.1
theorem dX7_bestMove_78 : decode cX7_bestMove 78 = .ok (.iload 6, 2) := fX7_bestMove_37.2.2.2.2.2.2.2.2.2.2.2.2.2.2.2.2.2.2.2.2.2.2.1
theorem dX7_bestMove_80 : decode cX7_bestMove 80 = .ok (.iload 4, 2) := fX7_bestMove_37.2.2.2.2.2.2.2.2.2.2.2.2.2.2.2.2.2.2.2.2.2.2.2.1
theorem fX7_bestMove_82 : DS.Facts cX7_bestMove 82 [(.if_icmp .ge 7, 3), (.iconst 1, 1), (.goto 19, 3), (.iconst 0, 1), (.goto 15, 3), (.iload 6, 2), (.iload 4, 2), (.if_icmp .le 7, 3), (.iconst 1, 1), (.goto 4, 3), (.iconst 0, 1), (.istore 7, 2), (.iload 6, 2), (.iconst (-1), 1), (.if_icmp .eq 20, 3), (.iload_n 3, 1), (.iconst (-1), 1), (.if_icmp .eq 8, 3), (.iload 7, 2), (.ifCond .eq 10, 3), (.iload 5, 2), (.istore_n 3, 1), (.iload 6, 2), (.istore 4, 2)] := DS.facts 82 _ (by decide +kernel) (by decide +kernel)
theorem dX7_bestMove_82 : decode cX7_bestMove 82 = .ok (.if_icmp .ge 7, 3) := fX7_bestMove_82.1
theorem dX7_bestMove_85 : decode cX7_bestMove 85 = .ok (.iconst 1, 1) := fX7_bestMove_82.2.1
theorem dX7_bestMove_86 : decode cX7_bestMove 86 = .ok (.goto 19, 3) := fX7_bestMove_82.2.2.1
theorem dX7_bestMove_89 : decode cX7_bestMove 89 = .ok (.iconst 0, 1) := fX7_bestMove_82.2.2.2.1
theorem dX7_bestMove_90 : decode cX7_bestMove 90 = .ok (.goto 15, 3) := fX7_bestMove_82.2.2.2.2.1
theorem dX7_bestMove_93 : decode cX7_bestMove 93 = .ok (.iload 6, 2) := fX7_bestMove_82.2.2.2.2.2.1
theorem dX7_bestMove_95 : decode cX7_bestMove 95 = .ok (.iload 4, 2) := fX7_bestMove_82.2.2.2.2.2.2.1
theorem dX7_bestMove_97 : decode cX7_bestMove 97 = .ok (.if_icmp .le 7, 3) := fX7_bestMove_82.2.2.2.2.2.2.2.1
theorem dX7_bestMove_100 : decode cX7_bestMove 100 = .ok (.iconst 1, 1) := fX7_bestMove_82.2.2.2.2.2.2.2.2.1
theorem dX7_bestMove_101 : decode cX7_bestMove 101 = .ok (.goto 4, 3) := fX7_bestMove_82.2.2.2.2.2.2.2.2.2.1
theorem dX7_bestMove_104 : decode cX7_bestMove 104 = .ok (.iconst 0, 1) := fX7_bestMove_82.2.2.2.2.2.2.2.2.2.2.1
theorem dX7_bestMove_105 : decode cX7_bestMove 105 = .ok (.istore 7, 2) := fX7_bestMove_82.2.2.2.2.2.2.2.2.2.2.2.1
theorem dX7_bestMove_107 : decode cX7_bestMove 107 = .ok (.iload 6, 2) := fX7_bestMove_82.2.2.2.2.2.2.2.2.2.2.2.2.1
theorem dX7_bestMove_109 : decode cX7_bestMove 109 = .ok (.iconst (-1), 1) := fX7_bestMove_82.2.2.2.2.2.2.2.2.2.2.2.2.2.1
theorem dX7_bestMove_110 : decode cX7_bestMove 110 = .ok (.if_icmp .eq 20, 3) := fX7_bestMove_82.2.2.2.2.2.2.2.2.2.2.2.2.2.2.1
theorem dX7_bestMove_113 : decode cX7_bestMove 113 = .ok (.iload_n 3, 1) := fX7_bestMove_82.2.2.2.2.2.2.2.2.2.2.2.2.2.2.2.1
theorem dX7_bestMove_114 : decode cX7_bestMove 114 = .ok (.iconst (-1), 1) := fX7_bestMove_82.2.2.2.2.2.2.2.2.2.2.2.2.2.2.2.2.1
theorem dX7_bestMove_115 : decode cX7_bestMove 115 = .ok (.if_icmp .eq 8, 3) := fX7_bestMove_82.2.2.2.2.2.2.2.2.2.2.2.2.2.2.2.2.2.1
theorem dX7_bestMove_118 : decode cX7_bestMove 118 = .ok (.iload 7, 2) := fX7_bestMove_82.2.2.2.2.2.2.2.2.2.2.2.2.2.2.2.2.2.2.1
theorem dX7_bestMove_120 : decode cX7_bestMove 120 = .ok (.ifCond .eq 10, 3) := fX7_bestMove_82.2.2.2.2.2.2.2.2.2.2.2.2.2.2.2.2.2.2.2.1
theorem dX7_bestMove_123 : decode cX7_bestMove 123 = .ok (.iload 5, 2) := fX7_bestMove_82.2.2.2.2.2.2.2.2.2.2.2.2.2.2.2.2.2.2.2.2.1
theorem dX7_bestMove_125 : decode cX7_bestMove 125 = .ok (.istore_n 3, 1) := fX7_bestMove_82.2.2.2.2.2.2.2.2.2.2.2.2.2.2.2.2.2.2.2.2.2.1
theorem dX7_bestMove_126 : decode cX7_bestMove 126 = .ok (.iload 6, 2) := fX7_bestMove_82.2.2.2.2.2.2.2.2.2.2.2.2.2.2.2.2.2.2.2.2.2.2.1
theorem dX7_bestMove_128 : decode cX7_bestMove 128 = .ok (.istore 4, 2) := fX7_bestMove_82.2.2.2.2.2.2.2.2.2.2.2.2.2.2.2.2.2.2.2.2.2.2.2.1
theorem fX7_bestMove_130 : DS.Facts cX7_bestMove 130 [(.iinc 5 1, 3), (.goto (-93), 3), (.iload_n 3, 1), (.ireturn, 1)] := DS.facts 130 _ (by decide +kernel) (by decide +kernel)
theorem dX7_bestMove_130 : decode cX7_bestMove 130 = .ok (.iinc 5 1, 3) := fX7_bestMove_130.1
theorem dX7_bestMove_133 : decode cX7_bestMove 133 = .ok (.goto (-93), 3) := fX7_bestMove_130.2.1
theorem dX7_bestMove_136 : decode cX7_bestMove 136 = .ok (.iload_n 3, 1) := fX7_bestMove_130.2.2.1
theorem dX7_bestMove_137 : decode cX7_bestMove 137 = .ok (.ireturn, 1) := fX7_bestMove_130.2.2.2.1
set_option maxRecDepth 20000 in
theorem ggX7_deepKept_X6_isPiece : GoodIn wsX7_deepKept wsX6_isPiece := goodIn_r _ [9, 10, 93, 94, 95, 96, 97, 98, 99, 100, 101] (by decide +kernel) (by decide +kernel)
set_option maxRecDepth 20000 in
theorem gX7_deepKept_X6_isPiece : GoodIn wsX7_deepKept (wsV RX7 206 RX6 yX6_isPiece wsX6_isPiece) := goodIn_app (goodIn_of _ (by decide +kernel)) ggX7_deepKept_X6_isPiece
set_option maxRecDepth 20000 in
theorem ggX7_deepKept_X6_room : GoodIn wsX7_deepKept wsX6_room := goodIn_r _ [14, 15, 16, 17, 18, 19, 20, 21, 22, 23, 24, 25, 26, 27, 28, 29, 30, 31, 32, 33, 34, 35, 36, 37, 38, 8, 39, 93, 94, 95, 96, 97, 98, 99, 100, 101, 105, 106, 107, 108, 109, 102, 103, 104, 110, 111, 112, 113, 114] (by decide +kernel) (by decide +kernel)
set_option maxRecDepth 20000 in
theorem gX7_deepKept_X6_room : GoodIn wsX7_deepKept (wsV RX7 153 RX6 yX6_room wsX6_room) := goodIn_app (goodIn_of _ (by decide +kernel)) ggX7_deepKept_X6_room
set_option maxRecDepth 20000 in
theorem ggX7_deepKept_X8_fieldOf : GoodIn wsX7_deepKept wsX8_fieldOf := goodIn_r _ [22, 23, 102, 103, 104] (by decide +kernel) (by decide +kernel)
set_option maxRecDepth 20000 in
theorem gX7_deepKept_X8_fieldOf : GoodIn wsX7_deepKept (wsV RX7 157 RX8 yX8_fieldOf wsX8_fieldOf) := goodIn_app (goodIn_of _ (by decide +kernel)) ggX7_deepKept_X8_fieldOf
set_option maxRecDepth 20000 in
theorem ggX7_deepKept_X0_away : GoodIn wsX7_deepKept wsX0_away := goodIn_r _ [44, 45, 25, 26, 27, 28, 29, 30, 110, 111, 112, 113, 114] (by decide +kernel) (by decide +kernel)
set_option maxRecDepth 20000 in
theorem gX7_deepKept_X0_away : GoodIn wsX7_deepKept (wsV RX7 210 RX0 yX0_away wsX0_away) := goodIn_app (goodIn_of _ (by decide +kernel)) ggX7_deepKept_X0_away
set_option maxRecDepth 20000 in
theorem ggX7_deepKept_X6_findVictims : GoodIn wsX7_deepKept wsX6_findVictims := goodIn_r _ [49, 50, 51, 17, 52, 53, 6, 7, 8, 9, 10, 18, 19, 20, 21, 22, 23, 54, 55, 56, 57, 35, 24, 25, 26, 27, 28, 29, 30, 31, 32, 33, 34, 58, 59, 60, 61, 62, 15, 16, 63, 64, 65, 66, 67, 68, 69, 70, 71, 93, 94, 95, 96, 97, 98, 99, 100, 101, 102, 103, 104, 110, 111, 112, 113, 114, 105, 106, 107, 108, 109] (by decide +kernel) (by decide +kernel)
set_option maxRecDepth 20000 in
theorem gX7_deepKept_X6_findVictims : GoodIn wsX7_deepKept (wsV RX7 164 RX6 yX6_findVictims wsX6_findVictims) := goodIn_app (goodIn_of _ (by decide +kernel)) ggX7_deepKept_X6_findVictims
set_option maxRecDepth 20000 in
theorem ggX7_deepKept_X7_behindMove : GoodIn wsX7_deepKept wsX7_behindMove := goodIn_r _ [76, 77, 1, 40, 19, 20, 21, 22, 23, 78, 79, 80, 81, 82, 83, 84, 85, 86, 87, 88, 89, 90, 91, 92, 93, 94, 95, 96, 97, 98, 99, 100, 101, 110, 111, 112, 113, 114, 102, 103, 104] (by decide +kernel) (by decide +kernel)
set_option maxRecDepth 20000 in
theorem gX7_deepKept_X7_behindMove : GoodIn wsX7_deepKept (wsV RX7 167 RX7 yX7_behindMove wsX7_behindMove) := goodIn_app (goodIn_of _ (by decide +kernel)) ggX7_deepKept_X7_behindMove
theorem fX7_deepKept_0 : DS.Facts cX7_deepKept 0 [(.iload_n 3, 1), (.bipush 32, 2), (.idiv, 1), (.istore 4, 2), (.iload_n 3, 1), (.bipush 32, 2), (.irem, 1), (.bipush 8, 2), (.idiv, 1), (.istore 5, 2), (.iload_n 3, 1), (.bipush 8, 2), (.irem, 1), (.iconst 1, 1), (.iadd, 1), (.istore 6, 2), (.aload_n 0, 1), (.getfield 50, 3), (.iload 4, 2), (.invokevirtual 206, 3), (.ifCond .eq 37, 3), (.aload_n 0, 1), (.getfield 50, 3), (.getfield 150, 3)] := DS.facts 0 _ (by decide +kernel) (by decide +kernel)
theorem dX7_deepKept_0 : decode cX7_deepKept 0 = .ok (.iload_n 3, 1) := fX7_deepKept_0.1
theorem dX7_deepKept_1 : decode cX7_deepKept 1 = .ok (.bipush 32, 2) := fX7_deepKept_0.2.1
theorem dX7_deepKept_3 : decode cX7_deepKept 3 = .ok (.idiv, 1) := fX7_deepKept_0.2.2.1
theorem dX7_deepKept_4 : decode cX7_deepKept 4 = .ok (.istore 4, 2) := fX7_deepKept_0.2.2.2.1
theorem dX7_deepKept_6 : decode cX7_deepKept 6 = .ok (.iload_n 3, 1) := fX7_deepKept_0.2.2.2.2.1
theorem dX7_deepKept_7 : decode cX7_deepKept 7 = .ok (.bipush 32, 2) := fX7_deepKept_0.2.2.2.2.2.1
theorem dX7_deepKept_9 : decode cX7_deepKept 9 = .ok (.irem, 1) := fX7_deepKept_0.2.2.2.2.2.2.1
theorem dX7_deepKept_10 : decode cX7_deepKept 10 = .ok (.bipush 8, 2) := fX7_deepKept_0.2.2.2.2.2.2.2.1
theorem dX7_deepKept_12 : decode cX7_deepKept 12 = .ok (.idiv, 1) := fX7_deepKept_0.2.2.2.2.2.2.2.2.1
theorem dX7_deepKept_13 : decode cX7_deepKept 13 = .ok (.istore 5, 2) := fX7_deepKept_0.2.2.2.2.2.2.2.2.2.1
theorem dX7_deepKept_15 : decode cX7_deepKept 15 = .ok (.iload_n 3, 1) := fX7_deepKept_0.2.2.2.2.2.2.2.2.2.2.1
theorem dX7_deepKept_16 : decode cX7_deepKept 16 = .ok (.bipush 8, 2) := fX7_deepKept_0.2.2.2.2.2.2.2.2.2.2.2.1
theorem dX7_deepKept_18 : decode cX7_deepKept 18 = .ok (.irem, 1) := fX7_deepKept_0.2.2.2.2.2.2.2.2.2.2.2.2.1
theorem dX7_deepKept_19 : decode cX7_deepKept 19 = .ok (.iconst 1, 1) := fX7_deepKept_0.2.2.2.2.2.2.2.2.2.2.2.2.2.1
theorem dX7_deepKept_20 : decode cX7_deepKept 20 = .ok (.iadd, 1) := fX7_deepKept_0.2.2.2.2.2.2.2.2.2.2.2.2.2.2.1
theorem dX7_deepKept_21 : decode cX7_deepKept 21 = .ok (.istore 6, 2) := fX7_deepKept_0.2.2.2.2.2.2.2.2.2.2.2.2.2.2.2.1
theorem dX7_deepKept_23 : decode cX7_deepKept 23 = .ok (.aload_n 0, 1) := fX7_deepKept_0.2.2.2.2.2.2.2.2.2.2.2.2.2.2.2.2.1
theorem dX7_deepKept_24 : decode cX7_deepKept 24 = .ok (.getfield 50, 3) := fX7_deepKept_0.2.2.2.2.2.2.2.2.2.2.2.2.2.2.2.2.2.1
theorem dX7_deepKept_27 : decode cX7_deepKept 27 = .ok (.iload 4, 2) := fX7_deepKept_0.2.2.2.2.2.2.2.2.2.2.2.2.2.2.2.2.2.2.1
theorem dX7_deepKept_29 : decode cX7_deepKept 29 = .ok (.invokevirtual 206, 3) := fX7_deepKept_0.2.2.2.2.2.2.2.2.2.2.2.2.2.2.2.2.2.2.2.1
theorem dX7_deepKept_32 : decode cX7_deepKept 32 = .ok (.ifCond .eq 37, 3) := fX7_deepKept_0.2.2.2.2.2.2.2.2.2.2.2.2.2.2.2.2.2.2.2.2.1
theorem dX7_deepKept_35 : decode cX7_deepKept 35 = .ok (.aload_n 0, 1) := fX7_deepKept_0.2.2.2.2.2.2.2.2.2.2.2.2.2.2.2.2.2.2.2.2.2.1
theorem dX7_deepKept_36 : decode cX7_deepKept 36 = .ok (.getfield 50, 3) := fX7_deepKept_0.2.2.2.2.2.2.2.2.2.2.2.2.2.2.2.2.2.2.2.2.2.2.1
theorem dX7_deepKept_39 : decode cX7_deepKept 39 = .ok (.getfield 150, 3) := fX7_deepKept_0.2.2.2.2.2.2.2.2.2.2.2.2.2.2.2.2.2.2.2.2.2.2.2.1
theorem fX7_deepKept_42 : DS.Facts cX7_deepKept 42 [(.iload 4, 2), (.iaload, 1), (.aload_n 1, 1), (.getfield 125, 3), (.if_icmp .ne 20, 3), (.iload 6, 2), (.aload_n 0, 1), (.getfield 50, 3), (.aload_n 1, 1), (.iload 4, 2), (.iload 5, 2), (.invokevirtual 153, 3), (.if_icmp .le 5, 3), (.iconst (-1), 1), (.ireturn, 1), (.aload_n 0, 1), (.getfield 50, 3), (.getfield 78, 3), (.aload_n 1, 1), (.iload 4, 2), (.invokevirtual 157, 3), (.iload 5, 2), (.iload 6, 2), (.invokevirtual 210, 3)] := DS.facts 42 _ (by decide +kernel) (by decide +kernel)
theorem dX7_deepKept_42 : decode cX7_deepKept 42 = .ok (.iload 4, 2) := fX7_deepKept_42.1
theorem dX7_deepKept_44 : decode cX7_deepKept 44 = .ok (.iaload, 1) := fX7_deepKept_42.2.1
theorem dX7_deepKept_45 : decode cX7_deepKept 45 = .ok (.aload_n 1, 1) := fX7_deepKept_42.2.2.1
theorem dX7_deepKept_46 : decode cX7_deepKept 46 = .ok (.getfield 125, 3) := fX7_deepKept_42.2.2.2.1
theorem dX7_deepKept_49 : decode cX7_deepKept 49 = .ok (.if_icmp .ne 20, 3) := fX7_deepKept_42.2.2.2.2.1
theorem dX7_deepKept_52 : decode cX7_deepKept 52 = .ok (.iload 6, 2) := fX7_deepKept_42.2.2.2.2.2.1
theorem dX7_deepKept_54 : decode cX7_deepKept 54 = .ok (.aload_n 0, 1) := fX7_deepKept_42.2.2.2.2.2.2.1
theorem dX7_deepKept_55 : decode cX7_deepKept 55 = .ok (.getfield 50, 3) := fX7_deepKept_42.2.2.2.2.2.2.2.1
theorem dX7_deepKept_58 : decode cX7_deepKept 58 = .ok (.aload_n 1, 1) := fX7_deepKept_42.2.2.2.2.2.2.2.2.1
theorem dX7_deepKept_59 : decode cX7_deepKept 59 = .ok (.iload 4, 2) := fX7_deepKept_42.2.2.2.2.2.2.2.2.2.1
theorem dX7_deepKept_61 : decode cX7_deepKept 61 = .ok (.iload 5, 2) := fX7_deepKept_42.2.2.2.2.2.2.2.2.2.2.1
theorem dX7_deepKept_63 : decode cX7_deepKept 63 = .ok (.invokevirtual 153, 3) := fX7_deepKept_42.2.2.2.2.2.2.2.2.2.2.2.1
theorem dX7_deepKept_66 : decode cX7_deepKept 66 = .ok (.if_icmp .le 5, 3) := fX7_deepKept_42.2.2.2.2.2.2.2.2.2.2.2.2.1
theorem dX7_deepKept_69 : decode cX7_deepKept 69 = .ok (.iconst (-1), 1) := fX7_deepKept_42.2.2.2.2.2.2.2.2.2.2.2.2.2.1
theorem dX7_deepKept_70 : decode cX7_deepKept 70 = .ok (.ireturn, 1) := fX7_deepKept_42.2.2.2.2.2.2.2.2.2.2.2.2.2.2.1
theorem dX7_deepKept_71 : decode cX7_deepKept 71 = .ok (.aload_n 0, 1) := fX7_deepKept_42.2.2.2.2.2.2.2.2.2.2.2.2.2.2.2.1
theorem dX7_deepKept_72 : decode cX7_deepKept 72 = .ok (.getfield 50, 3) := fX7_deepKept_42.2.2.2.2.2.2.2.2.2.2.2.2.2.2.2.2.1
theorem dX7_deepKept_75 : decode cX7_deepKept 75 = .ok (.getfield 78, 3) := fX7_deepKept_42.2.2.2.2.2.2.2.2.2.2.2.2.2.2.2.2.2.1
theorem dX7_deepKept_78 : decode cX7_deepKept 78 = .ok (.aload_n 1, 1) := fX7_deepKept_42.2.2.2.2.2.2.2.2.2.2.2.2.2.2.2.2.2.2.1
theorem dX7_deepKept_79 : decode cX7_deepKept 79 = .ok (.iload 4, 2) := fX7_deepKept_42.2.2.2.2.2.2.2.2.2.2.2.2.2.2.2.2.2.2.2.1
theorem dX7_deepKept_81 : decode cX7_deepKept 81 = .ok (.invokevirtual 157, 3) := fX7_deepKept_42.2.2.2.2.2.2.2.2.2.2.2.2.2.2.2.2.2.2.2.2.1
theorem dX7_deepKept_84 : decode cX7_deepKept 84 = .ok (.iload 5, 2) := fX7_deepKept_42.2.2.2.2.2.2.2.2.2.2.2.2.2.2.2.2.2.2.2.2.2.1
theorem dX7_deepKept_86 : decode cX7_deepKept 86 = .ok (.iload 6, 2) := fX7_deepKept_42.2.2.2.2.2.2.2.2.2.2.2.2.2.2.2.2.2.2.2.2.2.2.1
theorem dX7_deepKept_88 : decode cX7_deepKept 88 = .ok (.invokevirtual 210, 3) := fX7_deepKept_42.2.2.2.2.2.2.2.2.2.2.2.2.2.2.2.2.2.2.2.2.2.2.2.1
theorem fX7_deepKept_91 : DS.Facts cX7_deepKept 91 [(.istore 7, 2), (.aload_n 0, 1), (.getfield 50, 3), (.aload_n 1, 1), (.iload 4, 2), (.iload 7, 2), (.invokevirtual 164, 3), (.pop, 1), (.aload_n 0, 1), (.aload_n 1, 1), (.iload_n 2, 1), (.iload 4, 2), (.iload 7, 2), (.invokevirtual 167, 3), (.istore 8, 2), (.iload 8, 2), (.ifCond .lt 34, 3), (.iload 8, 2), (.iconst 2, 1), (.aload_n 0, 1), (.getfield 66, 3), (.imul, 1), (.if_icmp .ge 23, 3), (.aload_n 0, 1)] := DS.facts 91 _ (by decide +kernel) (by decide +kernel)
theorem dX7_deepKept_91 : decode cX7_deepKept 91 = .ok (.istore 7, 2) := fX7_deepKept_91.1
theorem dX7_deepKept_93 : decode cX7_deepKept 93 = .ok (.aload_n 0, 1) := fX7_deepKept_91.2.1
theorem dX7_deepKept_94 : decode cX7_deepKept 94 = .ok (.getfield 50, 3) := fX7_deepKept_91.2.2.1
theorem dX7_deepKept_97 : decode cX7_deepKept 97 = .ok (.aload_n 1, 1) := fX7_deepKept_91.2.2.2.1
theorem dX7_deepKept_98 : decode cX7_deepKept 98 = .ok (.iload 4, 2) := fX7_deepKept_91.2.2.2.2.1
theorem dX7_deepKept_100 : decode cX7_deepKept 100 = .ok (.iload 7, 2) := fX7_deepKept_91.2.2.2.2.2.1
theorem dX7_deepKept_102 : decode cX7_deepKept 102 = .ok (.invokevirtual 164, 3) := fX7_deepKept_91.2.2.2.2.2.2.1
theorem dX7_deepKept_105 : decode cX7_deepKept 105 = .ok (.pop, 1) := fX7_deepKept_91.2.2.2.2.2.2.2.1
theorem dX7_deepKept_106 : decode cX7_deepKept 106 = .ok (.aload_n 0, 1) := fX7_deepKept_91.2.2.2.2.2.2.2.2.1
theorem dX7_deepKept_107 : decode cX7_deepKept 107 = .ok (.aload_n 1, 1) := fX7_deepKept_91.2.2.2.2.2.2.2.2.2.1
theorem dX7_deepKept_108 : decode cX7_deepKept 108 = .ok (.iload_n 2, 1) := fX7_deepKept_91.2.2.2.2.2.2.2.2.2.2.1
theorem dX7_deepKept_109 : decode cX7_deepKept 109 = .ok (.iload 4, 2) := fX7_deepKept_91.2.2.2.2.2.2.2.2.2.2.2.1
theorem dX7_deepKept_111 : decode cX7_deepKept 111 = .ok (.iload 7, 2) := fX7_deepKept_91.2.2.2.2.2.2.2.2.2.2.2.2.1
theorem dX7_deepKept_113 : decode cX7_deepKept 113 = .ok (.invokevirtual 167, 3) := fX7_deepKept_91.2.2.2.2.2.2.2.2.2.2.2.2.2.1
theorem dX7_deepKept_116 : decode cX7_deepKept 116 = .ok (.istore 8, 2) := fX7_deepKept_91.2.2.2.2.2.2.2.2.2.2.2.2.2.2.1
theorem dX7_deepKept_118 : decode cX7_deepKept 118 = .ok (.iload 8, 2) := fX7_deepKept_91.2.2.2.2.2.2.2.2.2.2.2.2.2.2.2.1
theorem dX7_deepKept_120 : decode cX7_deepKept 120 = .ok (.ifCond .lt 34, 3) := fX7_deepKept_91.2.2.2.2.2.2.2.2.2.2.2.2.2.2.2.2.1
theorem dX7_deepKept_123 : decode cX7_deepKept 123 = .ok (.iload 8, 2) := fX7_deepKept_91.2.2.2.2.2.2.2.2.2.2.2.2.2.2.2.2.2.1
theorem dX7_deepKept_125 : decode cX7_deepKept 125 = .ok (.iconst 2, 1) := fX7_deepKept_91.2.2.2.2.2.2.2.2.2.2.2.2.2.2.2.2.2.2.1
theorem dX7_deepKept_126 : decode cX7_deepKept 126 = .ok (.aload_n 0, 1) := fX7_deepKept_91.2.2.2.2.2.2.2.2.2.2.2.2.2.2.2.2.2.2.2.1
theorem dX7_deepKept_127 : decode cX7_deepKept 127 = .ok (.getfield 66, 3) := fX7_deepKept_91.2.2.2.2.2.2.2.2.2.2.2.2.2.2.2.2.2.2.2.2.1
theorem dX7_deepKept_130 : decode cX7_deepKept 130 = .ok (.imul, 1) := fX7_deepKept_91.2.2.2.2.2.2.2.2.2.2.2.2.2.2.2.2.2.2.2.2.2.1
theorem dX7_deepKept_131 : decode cX7_deepKept 131 = .ok (.if_icmp .ge 23, 3) := fX7_deepKept_91.2.2.2.2.2.2.2.2.2.2.2.2.2.2.2.2.2.2.2.2.2.2.1
theorem dX7_deepKept_134 : decode cX7_deepKept 134 = .ok (.aload_n 0, 1) := fX7_deepKept_91.2.2.2.2.2.2.2.2.2.2.2.2.2.2.2.2.2.2.2.2.2.2.2.1
theorem fX7_deepKept_135 : DS.Facts cX7_deepKept 135 [(.getfield 38, 3), (.iload 8, 2), (.iaload, 1), (.aload_n 0, 1), (.getfield 38, 3), (.iload_n 2, 1), (.iaload, 1), (.if_icmp .ne 7, 3), (.iconst 1, 1), (.goto 4, 3), (.iconst 0, 1), (.istore 9, 2), (.iload 9, 2), (.ifCond .eq 13, 3), (.aload_n 0, 1), (.getfield 41, 3), (.iload 8, 2), (.iaload, 1), (.goto 4, 3), (.iconst (-1), 1), (.ireturn, 1)] := DS.facts 135 _ (by decide +kernel) (by decide +kernel)
theorem dX7_deepKept_135 : decode cX7_deepKept 135 = .ok (.getfield 38, 3) := fX7_deepKept_135.1
theorem dX7_deepKept_138 : decode cX7_deepKept 138 = .ok (.iload 8, 2) := fX7_deepKept_135.2.1
theorem dX7_deepKept_140 : decode cX7_deepKept 140 = .ok (.iaload, 1) := fX7_deepKept_135.2.2.1
theorem dX7_deepKept_141 : decode cX7_deepKept 141 = .ok (.aload_n 0, 1) := fX7_deepKept_135.2.2.2.1
theorem dX7_deepKept_142 : decode cX7_deepKept 142 = .ok (.getfield 38, 3) := fX7_deepKept_135.2.2.2.2.1
theorem dX7_deepKept_145 : decode cX7_deepKept 145 = .ok (.iload_n 2, 1) := fX7_deepKept_135.2.2.2.2.2.1
theorem dX7_deepKept_146 : decode cX7_deepKept 146 = .ok (.iaload, 1) := fX7_deepKept_135.2.2.2.2.2.2.1
theorem dX7_deepKept_147 : decode cX7_deepKept 147 = .ok (.if_icmp .ne 7, 3) := fX7_deepKept_135.2.2.2.2.2.2.2.1
theorem dX7_deepKept_150 : decode cX7_deepKept 150 = .ok (.iconst 1, 1) := fX7_deepKept_135.2.2.2.2.2.2.2.2.1
theorem dX7_deepKept_151 : decode cX7_deepKept 151 = .ok (.goto 4, 3) := fX7_deepKept_135.2.2.2.2.2.2.2.2.2.1
theorem dX7_deepKept_154 : decode cX7_deepKept 154 = .ok (.iconst 0, 1) := fX7_deepKept_135.2.2.2.2.2.2.2.2.2.2.1
theorem dX7_deepKept_155 : decode cX7_deepKept 155 = .ok (.istore 9, 2) := fX7_deepKept_135.2.2.2.2.2.2.2.2.2.2.2.1
theorem dX7_deepKept_157 : decode cX7_deepKept 157 = .ok (.iload 9, 2) := fX7_deepKept_135.2.2.2.2.2.2.2.2.2.2.2.2.1
theorem dX7_deepKept_159 : decode cX7_deepKept 159 = .ok (.ifCond .eq 13, 3) := fX7_deepKept_135.2.2.2.2.2.2.2.2.2.2.2.2.2.1
theorem dX7_deepKept_162 : decode cX7_deepKept 162 = .ok (.aload_n 0, 1) := fX7_deepKept_135.2.2.2.2.2.2.2.2.2.2.2.2.2.2.1
theorem dX7_deepKept_163 : decode cX7_deepKept 163 = .ok (.getfield 41, 3) := fX7_deepKept_135.2.2.2.2.2.2.2.2.2.2.2.2.2.2.2.1
theorem dX7_deepKept_166 : decode cX7_deepKept 166 = .ok (.iload 8, 2) := fX7_deepKept_135.2.2.2.2.2.2.2.2.2.2.2.2.2.2.2.2.1
theorem dX7_deepKept_168 : decode cX7_deepKept 168 = .ok (.iaload, 1) := fX7_deepKept_135.2.2.2.2.2.2.2.2.2.2.2.2.2.2.2.2.2.1
theorem dX7_deepKept_169 : decode cX7_deepKept 169 = .ok (.goto 4, 3) := fX7_deepKept_135.2.2.2.2.2.2.2.2.2.2.2.2.2.2.2.2.2.2.1
theorem dX7_deepKept_172 : decode cX7_deepKept 172 = .ok (.iconst (-1), 1) := fX7_deepKept_135.2.2.2.2.2.2.2.2.2.2.2.2.2.2.2.2.2.2.2.1
theorem dX7_deepKept_173 : decode cX7_deepKept 173 = .ok (.ireturn, 1) := fX7_deepKept_135.2.2.2.2.2.2.2.2.2.2.2.2.2.2.2.2.2.2.2.2.1
set_option maxRecDepth 20000 in
theorem ggX7_tally_X10_isSide : GoodIn wsX7_tally wsX10_isSide := goodIn_r _ [5] (by decide +kernel) (by decide +kernel)
set_option maxRecDepth 20000 in
theorem gX7_tally_X10_isSide_n213 : GoodIn wsX7_tally (wsX10_isSide) := ggX7_tally_X10_isSide
theorem fX7_tally_0 : DS.Facts cX7_tally 0 [(.aload_n 0, 1), (.getfield 54, 3), (.ifCond .eq 19, 3), (.iload_n 1, 1), (.ifCond .lt 15, 3), (.iload_n 1, 1), (.iconst 3, 1), (.if_icmp .ge 10, 3), (.iload_n 2, 1), (.invokestatic 213, 3), (.ifCond .ne 5, 3), (.iconst (-1), 1), (.ireturn, 1), (.aload_n 0, 1), (.getfield 32, 3), (.iload_n 1, 1), (.iconst 2, 1), (.imul, 1), (.iload_n 2, 1), (.iadd, 1), (.iaload, 1), (.ireturn, 1)] := DS.facts 0 _ (by decide +kernel) (by decide +kernel)
theorem dX7_tally_0 : decode cX7_tally 0 = .ok (.aload_n 0, 1) := fX7_tally_0.1
theorem dX7_tally_1 : decode cX7_tally 1 = .ok (.getfield 54, 3) := fX7_tally_0.2.1
theorem dX7_tally_4 : decode cX7_tally 4 = .ok (.ifCond .eq 19, 3) := fX7_tally_0.2.2.1
theorem dX7_tally_7 : decode cX7_tally 7 = .ok (.iload_n 1, 1) := fX7_tally_0.2.2.2.1
theorem dX7_tally_8 : decode cX7_tally 8 = .ok (.ifCond .lt 15, 3) := fX7_tally_0.2.2.2.2.1
theorem dX7_tally_11 : decode cX7_tally 11 = .ok (.iload_n 1, 1) := fX7_tally_0.2.2.2.2.2.1
theorem dX7_tally_12 : decode cX7_tally 12 = .ok (.iconst 3, 1) := fX7_tally_0.2.2.2.2.2.2.1
theorem dX7_tally_13 : decode cX7_tally 13 = .ok (.if_icmp .ge 10, 3) := fX7_tally_0.2.2.2.2.2.2.2.1
theorem dX7_tally_16 : decode cX7_tally 16 = .ok (.iload_n 2, 1) := fX7_tally_0.2.2.2.2.2.2.2.2.1
theorem dX7_tally_17 : decode cX7_tally 17 = .ok (.invokestatic 213, 3) := fX7_tally_0.2.2.2.2.2.2.2.2.2.1
theorem dX7_tally_20 : decode cX7_tally 20 = .ok (.ifCond .ne 5, 3) := fX7_tally_0.2.2.2.2.2.2.2.2.2.2.1
theorem dX7_tally_23 : decode cX7_tally 23 = .ok (.iconst (-1), 1) := fX7_tally_0.2.2.2.2.2.2.2.2.2.2.2.1
theorem dX7_tally_24 : decode cX7_tally 24 = .ok (.ireturn, 1) := fX7_tally_0.2.2.2.2.2.2.2.2.2.2.2.2.1
theorem dX7_tally_25 : decode cX7_tally 25 = .ok (.aload_n 0, 1) := fX7_tally_0.2.2.2.2.2.2.2.2.2.2.2.2.2.1
theorem dX7_tally_26 : decode cX7_tally 26 = .ok (.getfield 32, 3) := fX7_tally_0.2.2.2.2.2.2.2.2.2.2.2.2.2.2.1
theorem dX7_tally_29 : decode cX7_tally 29 = .ok (.iload_n 1, 1) := fX7_tally_0.2.2.2.2.2.2.2.2.2.2.2.2.2.2.2.1
theorem dX7_tally_30 : decode cX7_tally 30 = .ok (.iconst 2, 1) := fX7_tally_0.2.2.2.2.2.2.2.2.2.2.2.2.2.2.2.2.1
theorem dX7_tally_31 : decode cX7_tally 31 = .ok (.imul, 1) := fX7_tally_0.2.2.2.2.2.2.2.2.2.2.2.2.2.2.2.2.2.1
theorem dX7_tally_32 : decode cX7_tally 32 = .ok (.iload_n 2, 1) := fX7_tally_0.2.2.2.2.2.2.2.2.2.2.2.2.2.2.2.2.2.2.1
theorem dX7_tally_33 : decode cX7_tally 33 = .ok (.iadd, 1) := fX7_tally_0.2.2.2.2.2.2.2.2.2.2.2.2.2.2.2.2.2.2.2.1
theorem dX7_tally_34 : decode cX7_tally 34 = .ok (.iaload, 1) := fX7_tally_0.2.2.2.2.2.2.2.2.2.2.2.2.2.2.2.2.2.2.2.2.1
theorem dX7_tally_35 : decode cX7_tally 35 = .ok (.ireturn, 1) := fX7_tally_0.2.2.2.2.2.2.2.2.2.2.2.2.2.2.2.2.2.2.2.2.2.1
set_option maxRecDepth 20000 in
theorem ggX7_greatestDeep_X10_isSide : GoodIn wsX7_greatestDeep wsX10_isSide := goodIn_r _ [5] (by decide +kernel) (by decide +kernel)
set_option maxRecDepth 20000 in
theorem gX7_greatestDeep_X10_isSide_n213 : GoodIn wsX7_greatestDeep (wsX10_isSide) := ggX7_greatestDeep_X10_isSide
theorem fX7_greatestDeep_0 : DS.Facts cX7_greatestDeep 0 [(.aload_n 0, 1), (.getfield 54, 3), (.ifCond .eq 19, 3), (.iload_n 1, 1), (.invokestatic 213, 3), (.ifCond .eq 12, 3), (.aload_n 0, 1), (.getfield 35, 3), (.iload_n 1, 1), (.iaload, 1), (.goto 4, 3), (.iconst (-1), 1), (.ireturn, 1)] := DS.facts 0 _ (by decide +kernel) (by decide +kernel)
theorem dX7_greatestDeep_0 : decode cX7_greatestDeep 0 = .ok (.aload_n 0, 1) := fX7_greatestDeep_0.1
theorem dX7_greatestDeep_1 : decode cX7_greatestDeep 1 = .ok (.getfield 54, 3) := fX7_greatestDeep_0.2.1
theorem dX7_greatestDeep_4 : decode cX7_greatestDeep 4 = .ok (.ifCond .eq 19, 3) := fX7_greatestDeep_0.2.2.1
theorem dX7_greatestDeep_7 : decode cX7_greatestDeep 7 = .ok (.iload_n 1, 1) := fX7_greatestDeep_0.2.2.2.1
theorem dX7_greatestDeep_8 : decode cX7_greatestDeep 8 = .ok (.invokestatic 213, 3) := fX7_greatestDeep_0.2.2.2.2.1
theorem dX7_greatestDeep_11 : decode cX7_greatestDeep 11 = .ok (.ifCond .eq 12, 3) := fX7_greatestDeep_0.2.2.2.2.2.1
theorem dX7_greatestDeep_14 : decode cX7_greatestDeep 14 = .ok (.aload_n 0, 1) := fX7_greatestDeep_0.2.2.2.2.2.2.1
theorem dX7_greatestDeep_15 : decode cX7_greatestDeep 15 = .ok (.getfield 35, 3) := fX7_greatestDeep_0.2.2.2.2.2.2.2.1
theorem dX7_greatestDeep_18 : decode cX7_greatestDeep 18 = .ok (.iload_n 1, 1) := fX7_greatestDeep_0.2.2.2.2.2.2.2.2.1
theorem dX7_greatestDeep_19 : decode cX7_greatestDeep 19 = .ok (.iaload, 1) := fX7_greatestDeep_0.2.2.2.2.2.2.2.2.2.1
theorem dX7_greatestDeep_20 : decode cX7_greatestDeep 20 = .ok (.goto 4, 3) := fX7_greatestDeep_0.2.2.2.2.2.2.2.2.2.2.1
theorem dX7_greatestDeep_23 : decode cX7_greatestDeep 23 = .ok (.iconst (-1), 1) := fX7_greatestDeep_0.2.2.2.2.2.2.2.2.2.2.2.1
theorem dX7_greatestDeep_24 : decode cX7_greatestDeep 24 = .ok (.ireturn, 1) := fX7_greatestDeep_0.2.2.2.2.2.2.2.2.2.2.2.2.1
set_option maxRecDepth 20000 in
theorem ggX7_worthAt_X10_isSide : GoodIn wsX7_worthAt wsX10_isSide := goodIn_r _ [6] (by decide +kernel) (by decide +kernel)
set_option maxRecDepth 20000 in
theorem gX7_worthAt_X10_isSide_n213 : GoodIn wsX7_worthAt (wsX10_isSide) := ggX7_worthAt_X10_isSide
theorem fX7_worthAt_0 : DS.Facts cX7_worthAt 0 [(.aload_n 0, 1), (.getfield 54, 3), (.ifCond .eq 26, 3), (.iload_n 2, 1), (.invokestatic 213, 3), (.ifCond .eq 19, 3), (.iload_n 1, 1), (.ifCond .lt 15, 3), (.iload_n 1, 1), (.aload_n 0, 1), (.getfield 66, 3), (.if_icmp .ge 7, 3), (.iconst 1, 1), (.goto 4, 3), (.iconst 0, 1), (.istore_n 3, 1), (.iload_n 3, 1), (.ifCond .eq 16, 3), (.aload_n 0, 1), (.getfield 38, 3), (.iconst 2, 1), (.iload_n 1, 1), (.imul, 1), (.iload_n 2, 1)] := DS.facts 0 _ (by decide +kernel) (by decide +kernel)
theorem dX7_worthAt_0 : decode cX7_worthAt 0 = .ok (.aload_n 0, 1) := fX7_worthAt_0.1
theorem dX7_worthAt_1 : decode cX7_worthAt 1 = .ok (.getfield 54, 3) := fX7_worthAt_0.2.1
theorem dX7_worthAt_4 : decode cX7_worthAt 4 = .ok (.ifCond .eq 26, 3) := fX7_worthAt_0.2.2.1
theorem dX7_worthAt_7 : decode cX7_worthAt 7 = .ok (.iload_n 2, 1) := fX7_worthAt_0.2.2.2.1
theorem dX7_worthAt_8 : decode cX7_worthAt 8 = .ok (.invokestatic 213, 3) := fX7_worthAt_0.2.2.2.2.1
theorem dX7_worthAt_11 : decode cX7_worthAt 11 = .ok (.ifCond .eq 19, 3) := fX7_worthAt_0.2.2.2.2.2.1
theorem dX7_worthAt_14 : decode cX7_worthAt 14 = .ok (.iload_n 1, 1) := fX7_worthAt_0.2.2.2.2.2.2.1
theorem dX7_worthAt_15 : decode cX7_worthAt 15 = .ok (.ifCond .lt 15, 3) := fX7_worthAt_0.2.2.2.2.2.2.2.1
theorem dX7_worthAt_18 : decode cX7_worthAt 18 = .ok (.iload_n 1, 1) := fX7_worthAt_0.2.2.2.2.2.2.2.2.1
theorem dX7_worthAt_19 : decode cX7_worthAt 19 = .ok (.aload_n 0, 1) := fX7_worthAt_0.2.2.2.2.2.2.2.2.2.1
theorem dX7_worthAt_20 : decode cX7_worthAt 20 = .ok (.getfield 66, 3) := fX7_worthAt_0.2.2.2.2.2.2.2.2.2.2.1
theorem dX7_worthAt_23 : decode cX7_worthAt 23 = .ok (.if_icmp .ge 7, 3) := fX7_worthAt_0.2.2.2.2.2.2.2.2.2.2.2.1
theorem dX7_worthAt_26 : decode cX7_worthAt 26 = .ok (.iconst 1, 1) := fX7_worthAt_0.2.2.2.2.2.2.2.2.2.2.2.2.1
theorem dX7_worthAt_27 : decode cX7_worthAt 27 = .ok (.goto 4, 3) := fX7_worthAt_0.2.2.2.2.2.2.2.2.2.2.2.2.2.1
theorem dX7_worthAt_30 : decode cX7_worthAt 30 = .ok (.iconst 0, 1) := fX7_worthAt_0.2.2.2.2.2.2.2.2.2.2.2.2.2.2.1
theorem dX7_worthAt_31 : decode cX7_worthAt 31 = .ok (.istore_n 3, 1) := fX7_worthAt_0.2.2.2.2.2.2.2.2.2.2.2.2.2.2.2.1
theorem dX7_worthAt_32 : decode cX7_worthAt 32 = .ok (.iload_n 3, 1) := fX7_worthAt_0.2.2.2.2.2.2.2.2.2.2.2.2.2.2.2.2.1
theorem dX7_worthAt_33 : decode cX7_worthAt 33 = .ok (.ifCond .eq 16, 3) := fX7_worthAt_0.2.2.2.2.2.2.2.2.2.2.2.2.2.2.2.2.2.1
theorem dX7_worthAt_36 : decode cX7_worthAt 36 = .ok (.aload_n 0, 1) := fX7_worthAt_0.2.2.2.2.2.2.2.2.2.2.2.2.2.2.2.2.2.2.1
theorem dX7_worthAt_37 : decode cX7_worthAt 37 = .ok (.getfield 38, 3) := fX7_worthAt_0.2.2.2.2.2.2.2.2.2.2.2.2.2.2.2.2.2.2.2.1
theorem dX7_worthAt_40 : decode cX7_worthAt 40 = .ok (.iconst 2, 1) := fX7_worthAt_0.2.2.2.2.2.2.2.2.2.2.2.2.2.2.2.2.2.2.2.2.1
theorem dX7_worthAt_41 : decode cX7_worthAt 41 = .ok (.iload_n 1, 1) := fX7_worthAt_0.2.2.2.2.2.2.2.2.2.2.2.2.2.2.2.2.2.2.2.2.2.1
theorem dX7_worthAt_42 : decode cX7_worthAt 42 = .ok (.imul, 1) := fX7_worthAt_0.2.2.2.2.2.2.2.2.2.2.2.2.2.2.2.2.2.2.2.2.2.2.1
theorem dX7_worthAt_43 : decode cX7_worthAt 43 = .ok (.iload_n 2, 1) := fX7_worthAt_0.2.2.2.2.2.2.2.2.2.2.2.2.2.2.2.2.2.2.2.2.2.2.2.1
theorem fX7_worthAt_44 : DS.Facts cX7_worthAt 44 [(.iadd, 1), (.iaload, 1), (.goto 4, 3), (.iconst (-1), 1), (.ireturn, 1)] := DS.facts 44 _ (by decide +kernel) (by decide +kernel)
theorem dX7_worthAt_44 : decode cX7_worthAt 44 = .ok (.iadd, 1) := fX7_worthAt_44.1
theorem dX7_worthAt_45 : decode cX7_worthAt 45 = .ok (.iaload, 1) := fX7_worthAt_44.2.1
theorem dX7_worthAt_46 : decode cX7_worthAt 46 = .ok (.goto 4, 3) := fX7_worthAt_44.2.2.1
theorem dX7_worthAt_49 : decode cX7_worthAt 49 = .ok (.iconst (-1), 1) := fX7_worthAt_44.2.2.2.1
theorem dX7_worthAt_50 : decode cX7_worthAt 50 = .ok (.ireturn, 1) := fX7_worthAt_44.2.2.2.2.1
set_option maxRecDepth 20000 in
theorem ggX8_init_X8_clear : GoodIn wsX8_init wsX8_clear := goodIn_r _ [11, 5, 6, 12, 13, 14, 15, 16, 17, 18, 19] (by decide +kernel) (by decide +kernel)
set_option maxRecDepth 20000 in
theorem gX8_init_X8_clear : GoodIn wsX8_init (wsV RX8 18 RX8 yX8_clear wsX8_clear) := goodIn_app (goodIn_of _ (by decide +kernel)) ggX8_init_X8_clear
theorem fX8_init_0 : DS.Facts cX8_init 0 [(.aload_n 0, 1), (.invokespecial 3, 3), (.aload_n 0, 1), (.bipush 40, 2), (.newarray .int, 2), (.putfield 9, 3), (.aload_n 0, 1), (.bipush 81, 2), (.newarray .int, 2), (.putfield 15, 3), (.aload_n 0, 1), (.invokevirtual 18, 3), (.return_, 1)] := DS.facts 0 _ (by decide +kernel) (by decide +kernel)
theorem dX8_init_0 : decode cX8_init 0 = .ok (.aload_n 0, 1) := fX8_init_0.1
theorem dX8_init_1 : decode cX8_init 1 = .ok (.invokespecial 3, 3) := fX8_init_0.2.1
theorem dX8_init_4 : decode cX8_init 4 = .ok (.aload_n 0, 1) := fX8_init_0.2.2.1
theorem dX8_init_5 : decode cX8_init 5 = .ok (.bipush 40, 2) := fX8_init_0.2.2.2.1
theorem dX8_init_7 : decode cX8_init 7 = .ok (.newarray .int, 2) := fX8_init_0.2.2.2.2.1
theorem dX8_init_9 : decode cX8_init 9 = .ok (.putfield 9, 3) := fX8_init_0.2.2.2.2.2.1
theorem dX8_init_12 : decode cX8_init 12 = .ok (.aload_n 0, 1) := fX8_init_0.2.2.2.2.2.2.1
theorem dX8_init_13 : decode cX8_init 13 = .ok (.bipush 81, 2) := fX8_init_0.2.2.2.2.2.2.2.1
theorem dX8_init_15 : decode cX8_init 15 = .ok (.newarray .int, 2) := fX8_init_0.2.2.2.2.2.2.2.2.1
theorem dX8_init_17 : decode cX8_init 17 = .ok (.putfield 15, 3) := fX8_init_0.2.2.2.2.2.2.2.2.2.1
theorem dX8_init_20 : decode cX8_init 20 = .ok (.aload_n 0, 1) := fX8_init_0.2.2.2.2.2.2.2.2.2.2.1
theorem dX8_init_21 : decode cX8_init 21 = .ok (.invokevirtual 18, 3) := fX8_init_0.2.2.2.2.2.2.2.2.2.2.2.1
theorem dX8_init_24 : decode cX8_init 24 = .ok (.return_, 1) := fX8_init_0.2.2.2.2.2.2.2.2.2.2.2.2.1
set_option maxRecDepth 20000 in
theorem ggX8_clear_J7_fill_53178 : GoodIn wsX8_clear wsJ7_fill_53178 := goodIn_r _ [7] (by decide +kernel) (by decide +kernel)
set_option maxRecDepth 20000 in
theorem gX8_clear_J7_fill_53178 : GoodIn wsX8_clear (va_wsS RX8 21 yJ7_fill_53178 wsJ7_fill_53178) := goodIn_app (goodIn_of _ (by decide +kernel)) ggX8_clear_J7_fill_53178
theorem fX8_clear_0 : DS.Facts cX8_clear 0 [(.aload_n 0, 1), (.getfield 9, 3), (.iconst (-1), 1), (.invokestatic 21, 3), (.aload_n 0, 1), (.getfield 15, 3), (.iconst (-1), 1), (.invokestatic 21, 3), (.aload_n 0, 1), (.iconst 0, 1), (.putfield 27, 3), (.return_, 1)] := DS.facts 0 _ (by decide +kernel) (by decide +kernel)
theorem dX8_clear_0 : decode cX8_clear 0 = .ok (.aload_n 0, 1) := fX8_clear_0.1
theorem dX8_clear_1 : decode cX8_clear 1 = .ok (.getfield 9, 3) := fX8_clear_0.2.1
theorem dX8_clear_4 : decode cX8_clear 4 = .ok (.iconst (-1), 1) := fX8_clear_0.2.2.1
theorem dX8_clear_5 : decode cX8_clear 5 = .ok (.invokestatic 21, 3) := fX8_clear_0.2.2.2.1
theorem dX8_clear_8 : decode cX8_clear 8 = .ok (.aload_n 0, 1) := fX8_clear_0.2.2.2.2.1
theorem dX8_clear_9 : decode cX8_clear 9 = .ok (.getfield 15, 3) := fX8_clear_0.2.2.2.2.2.1
theorem dX8_clear_12 : decode cX8_clear 12 = .ok (.iconst (-1), 1) := fX8_clear_0.2.2.2.2.2.2.1
theorem dX8_clear_13 : decode cX8_clear 13 = .ok (.invokestatic 21, 3) := fX8_clear_0.2.2.2.2.2.2.2.1
theorem dX8_clear_16 : decode cX8_clear 16 = .ok (.aload_n 0, 1) := fX8_clear_0.2.2.2.2.2.2.2.2.1
theorem dX8_clear_17 : decode cX8_clear 17 = .ok (.iconst 0, 1) := fX8_clear_0.2.2.2.2.2.2.2.2.2.1
theorem dX8_clear_18 : decode cX8_clear 18 = .ok (.putfield 27, 3) := fX8_clear_0.2.2.2.2.2.2.2.2.2.2.1
theorem dX8_clear_21 : decode cX8_clear 21 = .ok (.return_, 1) := fX8_clear_0.2.2.2.2.2.2.2.2.2.2.2.1
theorem fX8_fieldOf_0 : DS.Facts cX8_fieldOf 0 [(.iload_n 1, 1), (.ifCond .lt 18, 3), (.iload_n 1, 1), (.bipush 40, 2), (.if_icmp .ge 12, 3), (.aload_n 0, 1), (.getfield 9, 3), (.iload_n 1, 1), (.iaload, 1), (.goto 4, 3), (.iconst (-1), 1), (.ireturn, 1)] := DS.facts 0 _ (by decide +kernel) (by decide +kernel)
theorem dX8_fieldOf_0 : decode cX8_fieldOf 0 = .ok (.iload_n 1, 1) := fX8_fieldOf_0.1
theorem dX8_fieldOf_1 : decode cX8_fieldOf 1 = .ok (.ifCond .lt 18, 3) := fX8_fieldOf_0.2.1
theorem dX8_fieldOf_4 : decode cX8_fieldOf 4 = .ok (.iload_n 1, 1) := fX8_fieldOf_0.2.2.1
theorem dX8_fieldOf_5 : decode cX8_fieldOf 5 = .ok (.bipush 40, 2) := fX8_fieldOf_0.2.2.2.1
theorem dX8_fieldOf_7 : decode cX8_fieldOf 7 = .ok (.if_icmp .ge 12, 3) := fX8_fieldOf_0.2.2.2.2.1
theorem dX8_fieldOf_10 : decode cX8_fieldOf 10 = .ok (.aload_n 0, 1) := fX8_fieldOf_0.2.2.2.2.2.1
theorem dX8_fieldOf_11 : decode cX8_fieldOf 11 = .ok (.getfield 9, 3) := fX8_fieldOf_0.2.2.2.2.2.2.1
theorem dX8_fieldOf_14 : decode cX8_fieldOf 14 = .ok (.iload_n 1, 1) := fX8_fieldOf_0.2.2.2.2.2.2.2.1
theorem dX8_fieldOf_15 : decode cX8_fieldOf 15 = .ok (.iaload, 1) := fX8_fieldOf_0.2.2.2.2.2.2.2.2.1
theorem dX8_fieldOf_16 : decode cX8_fieldOf 16 = .ok (.goto 4, 3) := fX8_fieldOf_0.2.2.2.2.2.2.2.2.2.1
theorem dX8_fieldOf_19 : decode cX8_fieldOf 19 = .ok (.iconst (-1), 1) := fX8_fieldOf_0.2.2.2.2.2.2.2.2.2.2.1
theorem dX8_fieldOf_20 : decode cX8_fieldOf 20 = .ok (.ireturn, 1) := fX8_fieldOf_0.2.2.2.2.2.2.2.2.2.2.2.1
theorem fX8_holderOf_0 : DS.Facts cX8_holderOf 0 [(.iload_n 1, 1), (.ifCond .lt 18, 3), (.iload_n 1, 1), (.bipush 81, 2), (.if_icmp .ge 12, 3), (.aload_n 0, 1), (.getfield 15, 3), (.iload_n 1, 1), (.iaload, 1), (.goto 4, 3), (.iconst (-1), 1), (.ireturn, 1)] := DS.facts 0 _ (by decide +kernel) (by decide +kernel)
theorem dX8_holderOf_0 : decode cX8_holderOf 0 = .ok (.iload_n 1, 1) := fX8_holderOf_0.1
theorem dX8_holderOf_1 : decode cX8_holderOf 1 = .ok (.ifCond .lt 18, 3) := fX8_holderOf_0.2.1
theorem dX8_holderOf_4 : decode cX8_holderOf 4 = .ok (.iload_n 1, 1) := fX8_holderOf_0.2.2.1
theorem dX8_holderOf_5 : decode cX8_holderOf 5 = .ok (.bipush 81, 2) := fX8_holderOf_0.2.2.2.1
theorem dX8_holderOf_7 : decode cX8_holderOf 7 = .ok (.if_icmp .ge 12, 3) := fX8_holderOf_0.2.2.2.2.1
theorem dX8_holderOf_10 : decode cX8_holderOf 10 = .ok (.aload_n 0, 1) := fX8_holderOf_0.2.2.2.2.2.1
theorem dX8_holderOf_11 : decode cX8_holderOf 11 = .ok (.getfield 15, 3) := fX8_holderOf_0.2.2.2.2.2.2.1
theorem dX8_holderOf_14 : decode cX8_holderOf 14 = .ok (.iload_n 1, 1) := fX8_holderOf_0.2.2.2.2.2.2.2.1
theorem dX8_holderOf_15 : decode cX8_holderOf 15 = .ok (.iaload, 1) := fX8_holderOf_0.2.2.2.2.2.2.2.2.1
theorem dX8_holderOf_16 : decode cX8_holderOf 16 = .ok (.goto 4, 3) := fX8_holderOf_0.2.2.2.2.2.2.2.2.2.1
theorem dX8_holderOf_19 : decode cX8_holderOf 19 = .ok (.iconst (-1), 1) := fX8_holderOf_0.2.2.2.2.2.2.2.2.2.2.1
theorem dX8_holderOf_20 : decode cX8_holderOf 20 = .ok (.ireturn, 1) := fX8_holderOf_0.2.2.2.2.2.2.2.2.2.2.2.1
theorem fX8_place_0 : DS.Facts cX8_place 0 [(.iload_n 1, 1), (.ifCond .lt 9, 3), (.iload_n 1, 1), (.bipush 40, 2), (.if_icmp .lt 4, 3), (.return_, 1), (.aload_n 0, 1), (.getfield 9, 3), (.iload_n 1, 1), (.iaload, 1), (.istore_n 3, 1), (.iload_n 3, 1), (.ifCond .lt 16, 3), (.iload_n 3, 1), (.bipush 81, 2), (.if_icmp .ge 10, 3), (.aload_n 0, 1), (.getfield 15, 3), (.iload_n 3, 1), (.iconst (-1), 1), (.iastore, 1), (.aload_n 0, 1), (.getfield 9, 3), (.iload_n 1, 1)] := DS.facts 0 _ (by decide +kernel) (by decide +kernel)
theorem dX8_place_0 : decode cX8_place 0 = .ok (.iload_n 1, 1) := fX8_place_0.1
theorem dX8_place_1 : decode cX8_place 1 = .ok (.ifCond .lt 9, 3) := fX8_place_0.2.1
theorem dX8_place_4 : decode cX8_place 4 = .ok (.iload_n 1, 1) := fX8_place_0.2.2.1
theorem dX8_place_5 : decode cX8_place 5 = .ok (.bipush 40, 2) := fX8_place_0.2.2.2.1
theorem dX8_place_7 : decode cX8_place 7 = .ok (.if_icmp .lt 4, 3) := fX8_place_0.2.2.2.2.1
theorem dX8_place_10 : decode cX8_place 10 = .ok (.return_, 1) := fX8_place_0.2.2.2.2.2.1
theorem dX8_place_11 : decode cX8_place 11 = .ok (.aload_n 0, 1) := fX8_place_0.2.2.2.2.2.2.1
theorem dX8_place_12 : decode cX8_place 12 = .ok (.getfield 9, 3) := fX8_place_0.2.2.2.2.2.2.2.1
theorem dX8_place_15 : decode cX8_place 15 = .ok (.iload_n 1, 1) := fX8_place_0.2.2.2.2.2.2.2.2.1
theorem dX8_place_16 : decode cX8_place 16 = .ok (.iaload, 1) := fX8_place_0.2.2.2.2.2.2.2.2.2.1
theorem dX8_place_17 : decode cX8_place 17 = .ok (.istore_n 3, 1) := fX8_place_0.2.2.2.2.2.2.2.2.2.2.1
theorem dX8_place_18 : decode cX8_place 18 = .ok (.iload_n 3, 1) := fX8_place_0.2.2.2.2.2.2.2.2.2.2.2.1
theorem dX8_place_19 : decode cX8_place 19 = .ok (.ifCond .lt 16, 3) := fX8_place_0.2.2.2.2.2.2.2.2.2.2.2.2.1
theorem dX8_place_22 : decode cX8_place 22 = .ok (.iload_n 3, 1) := fX8_place_0.2.2.2.2.2.2.2.2.2.2.2.2.2.1
theorem dX8_place_23 : decode cX8_place 23 = .ok (.bipush 81, 2) := fX8_place_0.2.2.2.2.2.2.2.2.2.2.2.2.2.2.1
theorem dX8_place_25 : decode cX8_place 25 = .ok (.if_icmp .ge 10, 3) := fX8_place_0.2.2.2.2.2.2.2.2.2.2.2.2.2.2.2.1
theorem dX8_place_28 : decode cX8_place 28 = .ok (.aload_n 0, 1) := fX8_place_0.2.2.2.2.2.2.2.2.2.2.2.2.2.2.2.2.1
theorem dX8_place_29 : decode cX8_place 29 = .ok (.getfield 15, 3) := fX8_place_0.2.2.2.2.2.2.2.2.2.2.2.2.2.2.2.2.2.1
theorem dX8_place_32 : decode cX8_place 32 = .ok (.iload_n 3, 1) := fX8_place_0.2.2.2.2.2.2.2.2.2.2.2.2.2.2.2.2.2.2.1
theorem dX8_place_33 : decode cX8_place 33 = .ok (.iconst (-1), 1) := fX8_place_0.2.2.2.2.2.2.2.2.2.2.2.2.2.2.2.2.2.2.2.1
theorem dX8_place_34 : decode cX8_place 34 = .ok (.iastore, 1) := fX8_place_0.2.2.2.2.2.2.2.2.2.2.2.2.2.2.2.2.2.2.2.2.1
theorem dX8_place_35 : decode cX8_place 35 = .ok (.aload_n 0, 1) := fX8_place_0.2.2.2.2.2.2.2.2.2.2.2.2.2.2.2.2.2.2.2.2.2.1
theorem dX8_place_36 : decode cX8_place 36 = .ok (.getfield 9, 3) := fX8_place_0.2.2.2.2.2.2.2.2.2.2.2.2.2.2.2.2.2.2.2.2.2.2.1
theorem dX8_place_39 : decode cX8_place 39 = .ok (.iload_n 1, 1) := fX8_place_0.2.2.2.2.2.2.2.2.2.2.2.2.2.2.2.2.2.2.2.2.2.2.2.1
theorem fX8_place_40 : DS.Facts cX8_place 40 [(.iload_n 2, 1), (.iastore, 1), (.iload_n 2, 1), (.ifCond .lt 16, 3), (.iload_n 2, 1), (.bipush 81, 2), (.if_icmp .ge 10, 3), (.aload_n 0, 1), (.getfield 15, 3), (.iload_n 2, 1), (.iload_n 1, 1), (.iastore, 1), (.return_, 1)] := DS.facts 40 _ (by decide +kernel) (by decide +kernel)
theorem dX8_place_40 : decode cX8_place 40 = .ok (.iload_n 2, 1) := fX8_place_40.1
theorem dX8_place_41 : decode cX8_place 41 = .ok (.iastore, 1) := fX8_place_40.2.1
theorem dX8_place_42 : decode cX8_place 42 = .ok (.iload_n 2, 1) := fX8_place_40.2.2.1
theorem dX8_place_43 : decode cX8_place 43 = .ok (.ifCond .lt 16, 3) := fX8_place_40.2.2.2.1
theorem dX8_place_46 : decode cX8_place 46 = .ok (.iload_n 2, 1) := fX8_place_40.2.2.2.2.1
theorem dX8_place_47 : decode cX8_place 47 = .ok (.bipush 81, 2) := fX8_place_40.2.2.2.2.2.1
theorem dX8_place_49 : decode cX8_place 49 = .ok (.if_icmp .ge 10, 3) := fX8_place_40.2.2.2.2.2.2.1
theorem dX8_place_52 : decode cX8_place 52 = .ok (.aload_n 0, 1) := fX8_place_40.2.2.2.2.2.2.2.1
theorem dX8_place_53 : decode cX8_place 53 = .ok (.getfield 15, 3) := fX8_place_40.2.2.2.2.2.2.2.2.1
theorem dX8_place_56 : decode cX8_place 56 = .ok (.iload_n 2, 1) := fX8_place_40.2.2.2.2.2.2.2.2.2.1
theorem dX8_place_57 : decode cX8_place 57 = .ok (.iload_n 1, 1) := fX8_place_40.2.2.2.2.2.2.2.2.2.2.1
theorem dX8_place_58 : decode cX8_place 58 = .ok (.iastore, 1) := fX8_place_40.2.2.2.2.2.2.2.2.2.2.2.1
theorem dX8_place_59 : decode cX8_place 59 = .ok (.return_, 1) := fX8_place_40.2.2.2.2.2.2.2.2.2.2.2.2.1
theorem fX9_init_0 : DS.Facts cX9_init 0 [(.aload_n 0, 1), (.invokespecial 3, 3), (.aload_n 0, 1), (.bipush 81, 2), (.newarray .int, 2), (.putfield 9, 3), (.aload_n 0, 1), (.iconst 3, 1), (.putfield 15, 3), (.aload_n 0, 1), (.iconst 3, 1), (.putfield 19, 3), (.return_, 1)] := DS.facts 0 _ (by decide +kernel) (by decide +kernel)
theorem dX9_init_0 : decode cX9_init 0 = .ok (.aload_n 0, 1) := fX9_init_0.1
theorem dX9_init_1 : decode cX9_init 1 = .ok (.invokespecial 3, 3) := fX9_init_0.2.1
theorem dX9_init_4 : decode cX9_init 4 = .ok (.aload_n 0, 1) := fX9_init_0.2.2.1
theorem dX9_init_5 : decode cX9_init 5 = .ok (.bipush 81, 2) := fX9_init_0.2.2.2.1
theorem dX9_init_7 : decode cX9_init 7 = .ok (.newarray .int, 2) := fX9_init_0.2.2.2.2.1
theorem dX9_init_9 : decode cX9_init 9 = .ok (.putfield 9, 3) := fX9_init_0.2.2.2.2.2.1
theorem dX9_init_12 : decode cX9_init 12 = .ok (.aload_n 0, 1) := fX9_init_0.2.2.2.2.2.2.1
theorem dX9_init_13 : decode cX9_init 13 = .ok (.iconst 3, 1) := fX9_init_0.2.2.2.2.2.2.2.1
theorem dX9_init_14 : decode cX9_init 14 = .ok (.putfield 15, 3) := fX9_init_0.2.2.2.2.2.2.2.2.1
theorem dX9_init_17 : decode cX9_init 17 = .ok (.aload_n 0, 1) := fX9_init_0.2.2.2.2.2.2.2.2.2.1
theorem dX9_init_18 : decode cX9_init 18 = .ok (.iconst 3, 1) := fX9_init_0.2.2.2.2.2.2.2.2.2.2.1
theorem dX9_init_19 : decode cX9_init 19 = .ok (.putfield 19, 3) := fX9_init_0.2.2.2.2.2.2.2.2.2.2.2.1
theorem dX9_init_22 : decode cX9_init 22 = .ok (.return_, 1) := fX9_init_0.2.2.2.2.2.2.2.2.2.2.2.2.1
theorem fX9_size_0 : DS.Facts cX9_size 0 [(.aload_n 0, 1), (.getfield 15, 3), (.aload_n 0, 1), (.getfield 19, 3), (.imul, 1), (.ireturn, 1)] := DS.facts 0 _ (by decide +kernel) (by decide +kernel)
theorem dX9_size_0 : decode cX9_size 0 = .ok (.aload_n 0, 1) := fX9_size_0.1
theorem dX9_size_1 : decode cX9_size 1 = .ok (.getfield 15, 3) := fX9_size_0.2.1
theorem dX9_size_4 : decode cX9_size 4 = .ok (.aload_n 0, 1) := fX9_size_0.2.2.1
theorem dX9_size_5 : decode cX9_size 5 = .ok (.getfield 19, 3) := fX9_size_0.2.2.2.1
theorem dX9_size_8 : decode cX9_size 8 = .ok (.imul, 1) := fX9_size_0.2.2.2.2.1
theorem dX9_size_9 : decode cX9_size 9 = .ok (.ireturn, 1) := fX9_size_0.2.2.2.2.2.1
set_option maxRecDepth 20000 in
theorem ggX9_renew_X9_isSpan : GoodIn wsX9_renew wsX9_isSpan := goodIn_r _ [7] (by decide +kernel) (by decide +kernel)
set_option maxRecDepth 20000 in
theorem gX9_renew_X9_isSpan : GoodIn wsX9_renew (va_wsS RX9 22 yX9_isSpan wsX9_isSpan) := goodIn_app (goodIn_of _ (by decide +kernel)) ggX9_renew_X9_isSpan
set_option maxRecDepth 20000 in
theorem ggX9_renew_J7_fill_53178 : GoodIn wsX9_renew wsJ7_fill_53178 := goodIn_r _ [11] (by decide +kernel) (by decide +kernel)
set_option maxRecDepth 20000 in
theorem gX9_renew_J7_fill_53178 : GoodIn wsX9_renew (va_wsS RX9 26 yJ7_fill_53178 wsJ7_fill_53178) := goodIn_app (goodIn_of _ (by decide +kernel)) ggX9_renew_J7_fill_53178
theorem fX9_renew_0 : DS.Facts cX9_renew 0 [(.iload_n 1, 1), (.invokestatic 22, 3), (.ifCond .eq 10, 3), (.iload_n 2, 1), (.invokestatic 22, 3), (.ifCond .ne 5, 3), (.iconst 0, 1), (.ireturn, 1), (.aload_n 0, 1), (.iload_n 1, 1), (.putfield 15, 3), (.aload_n 0, 1), (.iload_n 2, 1), (.putfield 19, 3), (.aload_n 0, 1), (.getfield 9, 3), (.iconst 0, 1), (.invokestatic 26, 3), (.iconst 1, 1), (.ireturn, 1)] := DS.facts 0 _ (by decide +kernel) (by decide +kernel)
theorem dX9_renew_0 : decode cX9_renew 0 = .ok (.iload_n 1, 1) := fX9_renew_0.1
theorem dX9_renew_1 : decode cX9_renew 1 = .ok (.invokestatic 22, 3) := fX9_renew_0.2.1
theorem dX9_renew_4 : decode cX9_renew 4 = .ok (.ifCond .eq 10, 3) := fX9_renew_0.2.2.1
theorem dX9_renew_7 : decode cX9_renew 7 = .ok (.iload_n 2, 1) := fX9_renew_0.2.2.2.1
theorem dX9_renew_8 : decode cX9_renew 8 = .ok (.invokestatic 22, 3) := fX9_renew_0.2.2.2.2.1
theorem dX9_renew_11 : decode cX9_renew 11 = .ok (.ifCond .ne 5, 3) := fX9_renew_0.2.2.2.2.2.1
theorem dX9_renew_14 : decode cX9_renew 14 = .ok (.iconst 0, 1) := fX9_renew_0.2.2.2.2.2.2.1
theorem dX9_renew_15 : decode cX9_renew 15 = .ok (.ireturn, 1) := fX9_renew_0.2.2.2.2.2.2.2.1
theorem dX9_renew_16 : decode cX9_renew 16 = .ok (.aload_n 0, 1) := fX9_renew_0.2.2.2.2.2.2.2.2.1
theorem dX9_renew_17 : decode cX9_renew 17 = .ok (.iload_n 1, 1) := fX9_renew_0.2.2.2.2.2.2.2.2.2.1
theorem dX9_renew_18 : decode cX9_renew 18 = .ok (.putfield 15, 3) := fX9_renew_0.2.2.2.2.2.2.2.2.2.2.1
theorem dX9_renew_21 : decode cX9_renew 21 = .ok (.aload_n 0, 1) := fX9_renew_0.2.2.2.2.2.2.2.2.2.2.2.1
theorem dX9_renew_22 : decode cX9_renew 22 = .ok (.iload_n 2, 1) := fX9_renew_0.2.2.2.2.2.2.2.2.2.2.2.2.1
theorem dX9_renew_23 : decode cX9_renew 23 = .ok (.putfield 19, 3) := fX9_renew_0.2.2.2.2.2.2.2.2.2.2.2.2.2.1
theorem dX9_renew_26 : decode cX9_renew 26 = .ok (.aload_n 0, 1) := fX9_renew_0.2.2.2.2.2.2.2.2.2.2.2.2.2.2.1
theorem dX9_renew_27 : decode cX9_renew 27 = .ok (.getfield 9, 3) := fX9_renew_0.2.2.2.2.2.2.2.2.2.2.2.2.2.2.2.1
theorem dX9_renew_30 : decode cX9_renew 30 = .ok (.iconst 0, 1) := fX9_renew_0.2.2.2.2.2.2.2.2.2.2.2.2.2.2.2.2.1
theorem dX9_renew_31 : decode cX9_renew 31 = .ok (.invokestatic 26, 3) := fX9_renew_0.2.2.2.2.2.2.2.2.2.2.2.2.2.2.2.2.2.1
theorem dX9_renew_34 : decode cX9_renew 34 = .ok (.iconst 1, 1) := fX9_renew_0.2.2.2.2.2.2.2.2.2.2.2.2.2.2.2.2.2.2.1
theorem dX9_renew_35 : decode cX9_renew 35 = .ok (.ireturn, 1) := fX9_renew_0.2.2.2.2.2.2.2.2.2.2.2.2.2.2.2.2.2.2.2.1
theorem fX9_isSpan_0 : DS.Facts cX9_isSpan 0 [(.iload_n 0, 1), (.iconst 2, 1), (.if_icmp .lt 13, 3), (.iload_n 0, 1), (.bipush 9, 2), (.if_icmp .gt 7, 3), (.iconst 1, 1), (.goto 4, 3), (.iconst 0, 1), (.ireturn, 1)] := DS.facts 0 _ (by decide +kernel) (by decide +kernel)
theorem dX9_isSpan_0 : decode cX9_isSpan 0 = .ok (.iload_n 0, 1) := fX9_isSpan_0.1
theorem dX9_isSpan_1 : decode cX9_isSpan 1 = .ok (.iconst 2, 1) := fX9_isSpan_0.2.1
theorem dX9_isSpan_2 : decode cX9_isSpan 2 = .ok (.if_icmp .lt 13, 3) := fX9_isSpan_0.2.2.1
theorem dX9_isSpan_5 : decode cX9_isSpan 5 = .ok (.iload_n 0, 1) := fX9_isSpan_0.2.2.2.1
theorem dX9_isSpan_6 : decode cX9_isSpan 6 = .ok (.bipush 9, 2) := fX9_isSpan_0.2.2.2.2.1
theorem dX9_isSpan_8 : decode cX9_isSpan 8 = .ok (.if_icmp .gt 7, 3) := fX9_isSpan_0.2.2.2.2.2.1
theorem dX9_isSpan_11 : decode cX9_isSpan 11 = .ok (.iconst 1, 1) := fX9_isSpan_0.2.2.2.2.2.2.1
theorem dX9_isSpan_12 : decode cX9_isSpan 12 = .ok (.goto 4, 3) := fX9_isSpan_0.2.2.2.2.2.2.2.1
theorem dX9_isSpan_15 : decode cX9_isSpan 15 = .ok (.iconst 0, 1) := fX9_isSpan_0.2.2.2.2.2.2.2.2.1
theorem dX9_isSpan_16 : decode cX9_isSpan 16 = .ok (.ireturn, 1) := fX9_isSpan_0.2.2.2.2.2.2.2.2.2.1
theorem fX9_tell_0 : DS.Facts cX9_tell 0 [(.iload_n 1, 1), (.ifCond .lt 23, 3), (.iload_n 1, 1), (.aload_n 0, 1), (.getfield 15, 3), (.if_icmp .ge 15, 3), (.iload_n 2, 1), (.ifCond .lt 11, 3), (.iload_n 2, 1), (.aload_n 0, 1), (.getfield 19, 3), (.if_icmp .le 5, 3), (.iconst 0, 1), (.ireturn, 1), (.iconst 0, 1), (.istore 4, 2), (.iload 4, 2), (.aload_n 0, 1), (.getfield 19, 3), (.if_icmp .ge 42, 3), (.aload_n 0, 1), (.getfield 9, 3), (.iload_n 1, 1), (.aload_n 0, 1)] := DS.facts 0 _ (by decide +kernel) (by decide +kernel)
theorem dX9_tell_0 : decode cX9_tell 0 = .ok (.iload_n 1, 1) := fX9_tell_0.1
theorem dX9_tell_1 : decode cX9_tell 1 = .ok (.ifCond .lt 23, 3) := fX9_tell_0.2.1
theorem dX9_tell_4 : decode cX9_tell 4 = .ok (.iload_n 1, 1) := fX9_tell_0.2.2.1
theorem dX9_tell_5 : decode cX9_tell 5 = .ok (.aload_n 0, 1) := fX9_tell_0.2.2.2.1
theorem dX9_tell_6 : decode cX9_tell 6 = .ok (.getfield 15, 3) := fX9_tell_0.2.2.2.2.1
theorem dX9_tell_9 : decode cX9_tell 9 = .ok (.if_icmp .ge 15, 3) := fX9_tell_0.2.2.2.2.2.1
theorem dX9_tell_12 : decode cX9_tell 12 = .ok (.iload_n 2, 1) := fX9_tell_0.2.2.2.2.2.2.1
theorem dX9_tell_13 : decode cX9_tell 13 = .ok (.ifCond .lt 11, 3) := fX9_tell_0.2.2.2.2.2.2.2.1
theorem dX9_tell_16 : decode cX9_tell 16 = .ok (.iload_n 2, 1) := fX9_tell_0.2.2.2.2.2.2.2.2.1
theorem dX9_tell_17 : decode cX9_tell 17 = .ok (.aload_n 0, 1) := fX9_tell_0.2.2.2.2.2.2.2.2.2.1
theorem dX9_tell_18 : decode cX9_tell 18 = .ok (.getfield 19, 3) := fX9_tell_0.2.2.2.2.2.2.2.2.2.2.1
theorem dX9_tell_21 : decode cX9_tell 21 = .ok (.if_icmp .le 5, 3) := fX9_tell_0.2.2.2.2.2.2.2.2.2.2.2.1
theorem dX9_tell_24 : decode cX9_tell 24 = .ok (.iconst 0, 1) := fX9_tell_0.2.2.2.2.2.2.2.2.2.2.2.2.1
theorem dX9_tell_25 : decode cX9_tell 25 = .ok (.ireturn, 1) := fX9_tell_0.2.2.2.2.2.2.2.2.2.2.2.2.2.1
theorem dX9_tell_26 : decode cX9_tell 26 = .ok (.iconst 0, 1) := fX9_tell_0.2.2.2.2.2.2.2.2.2.2.2.2.2.2.1
theorem dX9_tell_27 : decode cX9_tell 27 = .ok (.istore 4, 2) := fX9_tell_0.2.2.2.2.2.2.2.2.2.2.2.2.2.2.2.1
theorem dX9_tell_29 : decode cX9_tell 29 = .ok (.iload 4, 2) := fX9_tell_0.2.2.2.2.2.2.2.2.2.2.2.2.2.2.2.2.1
theorem dX9_tell_31 : decode cX9_tell 31 = .ok (.aload_n 0, 1) := fX9_tell_0.2.2.2.2.2.2.2.2.2.2.2.2.2.2.2.2.2.1
theorem dX9_tell_32 : decode cX9_tell 32 = .ok (.getfield 19, 3) := fX9_tell_0.2.2.2.2.2.2.2.2.2.2.2.2.2.2.2.2.2.2.1
theorem dX9_tell_35 : decode cX9_tell 35 = .ok (.if_icmp .ge 42, 3) := fX9_tell_0.2.2.2.2.2.2.2.2.2.2.2.2.2.2.2.2.2.2.2.1
theorem dX9_tell_38 : decode cX9_tell 38 = .ok (.aload_n 0, 1) := fX9_tell_0.2.2.2.2.2.2.2.2.2.2.2.2.2.2.2.2.2.2.2.2.1
theorem dX9_tell_39 : decode cX9_tell 39 = .ok (.getfield 9, 3) := fX9_tell_0.2.2.2.2.2.2.2.2.2.2.2.2.2.2.2.2.2.2.2.2.2.1
theorem dX9_tell_42 : decode cX9_tell 42 = .ok (.iload_n 1, 1) := fX9_tell_0.2.2.2.2.2.2.2.2.2.2.2.2.2.2.2.2.2.2.2.2.2.2.1
theorem dX9_tell_43 : decode cX9_tell 43 = .ok (.aload_n 0, 1) := fX9_tell_0.2.2.2.2.2.2.2.2.2.2.2.2.2.2.2.2.2.2.2.2.2.2.2.1
theorem fX9_tell_44 : DS.Facts cX9_tell 44 [(.getfield 19, 3), (.imul, 1), (.iload 4, 2), (.iadd, 1), (.iload 4, 2), (.iload_n 2, 1), (.if_icmp .ge 15, 3), (.iload_n 3, 1), (.iconst 3, 1), (.iload 4, 2), (.imul, 1), (.ishr, 1), (.bipush 7, 2), (.iand, 1), (.goto 4, 3), (.iconst 0, 1), (.iastore, 1), (.iinc 4 1, 3), (.goto (-45), 3), (.iconst 1, 1), (.ireturn, 1)] := DS.facts 44 _ (by decide +kernel) (by decide +kernel)
theorem dX9_tell_44 : decode cX9_tell 44 = .ok (.getfield 19, 3) := fX9_tell_44.1
theorem dX9_tell_47 : decode cX9_tell 47 = .ok (.imul, 1) := fX9_tell_44.2.1
theorem dX9_tell_48 : decode cX9_tell 48 = .ok (.iload 4, 2) := fX9_tell_44.2.2.1
theorem dX9_tell_50 : decode cX9_tell 50 = .ok (.iadd, 1) := fX9_tell_44.2.2.2.1
theorem dX9_tell_51 : decode cX9_tell 51 = .ok (.iload 4, 2) := fX9_tell_44.2.2.2.2.1
theorem dX9_tell_53 : decode cX9_tell 53 = .ok (.iload_n 2, 1) := fX9_tell_44.2.2.2.2.2.1
theorem dX9_tell_54 : decode cX9_tell 54 = .ok (.if_icmp .ge 15, 3) := fX9_tell_44.2.2.2.2.2.2.1
theorem dX9_tell_57 : decode cX9_tell 57 = .ok (.iload_n 3, 1) := fX9_tell_44.2.2.2.2.2.2.2.1
theorem dX9_tell_58 : decode cX9_tell 58 = .ok (.iconst 3, 1) := fX9_tell_44.2.2.2.2.2.2.2.2.1
theorem dX9_tell_59 : decode cX9_tell 59 = .ok (.iload 4, 2) := fX9_tell_44.2.2.2.2.2.2.2.2.2.1
theorem dX9_tell_61 : decode cX9_tell 61 = .ok (.imul, 1) := fX9_tell_44.2.2.2.2.2.2.2.2.2.2.1
theorem dX9_tell_62 : decode cX9_tell 62 = .ok (.ishr, 1) := fX9_tell_44.2.2.2.2.2.2.2.2.2.2.2.1
theorem dX9_tell_63 : decode cX9_tell 63 = .ok (.bipush 7, 2) := fX9_tell_44.2.2.2.2.2.2.2.2.2.2.2.2.1
theorem dX9_tell_65 : decode cX9_tell 65 = .ok (.iand, 1) := fX9_tell_44.2.2.2.2.2.2.2.2.2.2.2.2.2.1
theorem dX9_tell_66 : decode cX9_tell 66 = .ok (.goto 4, 3) := fX9_tell_44.2.2.2.2.2.2.2.2.2.2.2.2.2.2.1
theorem dX9_tell_69 : decode cX9_tell 69 = .ok (.iconst 0, 1) := fX9_tell_44.2.2.2.2.2.2.2.2.2.2.2.2.2.2.2.1
theorem dX9_tell_70 : decode cX9_tell 70 = .ok (.iastore, 1) := fX9_tell_44.2.2.2.2.2.2.2.2.2.2.2.2.2.2.2.2.1
theorem dX9_tell_71 : decode cX9_tell 71 = .ok (.iinc 4 1, 3) := fX9_tell_44.2.2.2.2.2.2.2.2.2.2.2.2.2.2.2.2.2.1
theorem dX9_tell_74 : decode cX9_tell 74 = .ok (.goto (-45), 3) := fX9_tell_44.2.2.2.2.2.2.2.2.2.2.2.2.2.2.2.2.2.2.1
theorem dX9_tell_77 : decode cX9_tell 77 = .ok (.iconst 1, 1) := fX9_tell_44.2.2.2.2.2.2.2.2.2.2.2.2.2.2.2.2.2.2.2.1
theorem dX9_tell_78 : decode cX9_tell 78 = .ok (.ireturn, 1) := fX9_tell_44.2.2.2.2.2.2.2.2.2.2.2.2.2.2.2.2.2.2.2.2.1
set_option maxRecDepth 20000 in
theorem ggX9_canBegin_X9_size : GoodIn wsX9_canBegin wsX9_size := goodIn_r _ [6, 7, 8, 14, 15, 16] (by decide +kernel) (by decide +kernel)
set_option maxRecDepth 20000 in
theorem gX9_canBegin_X9_size : GoodIn wsX9_canBegin (wsV RX9 32 RX9 yX9_size wsX9_size) := goodIn_app (goodIn_of _ (by decide +kernel)) ggX9_canBegin_X9_size
set_option maxRecDepth 20000 in
theorem ggX9_canBegin_X10_kindOfSign : GoodIn wsX9_canBegin wsX10_kindOfSign := goodIn_r _ [11] (by decide +kernel) (by decide +kernel)
set_option maxRecDepth 20000 in
theorem gX9_canBegin_X10_kindOfSign_n36 : GoodIn wsX9_canBegin (wsX10_kindOfSign) := ggX9_canBegin_X10_kindOfSign
set_option maxRecDepth 20000 in
theorem ggX9_canBegin_X10_typeOfSign : GoodIn wsX9_canBegin wsX10_typeOfSign := goodIn_r _ [13] (by decide +kernel) (by decide +kernel)
set_option maxRecDepth 20000 in
theorem gX9_canBegin_X10_typeOfSign_n40 : GoodIn wsX9_canBegin (wsX10_typeOfSign) := ggX9_canBegin_X10_typeOfSign
theorem fX9_canBegin_0 : DS.Facts cX9_canBegin 0 [(.iconst 0, 1), (.istore_n 1, 1), (.iconst 0, 1), (.istore_n 2, 1), (.iconst 0, 1), (.istore_n 3, 1), (.iconst 0, 1), (.istore 4, 2), (.aload_n 0, 1), (.invokevirtual 32, 3), (.istore 5, 2), (.iconst 0, 1), (.istore 6, 2), (.iload 6, 2), (.iload 5, 2), (.if_icmp .ge 92, 3), (.aload_n 0, 1), (.getfield 9, 3), (.iload 6, 2), (.iaload, 1), (.invokestatic 36, 3), (.istore 7, 2), (.iload_n 1, 1), (.iload 7, 2)] := DS.facts 0 _ (by decide +kernel) (by decide +kernel)
theorem dX9_canBegin_0 : decode cX9_canBegin 0 = .ok (.iconst 0, 1) := fX9_canBegin_0.1
theorem dX9_canBegin_1 : decode cX9_canBegin 1 = .ok (.istore_n 1, 1) := fX9_canBegin_0.2.1
theorem dX9_canBegin_2 : decode cX9_canBegin 2 = .ok (.iconst 0, 1) := fX9_canBegin_0.2.2.1
theorem dX9_canBegin_3 : decode cX9_canBegin 3 = .ok (.istore_n 2, 1) := fX9_canBegin_0.2.2.2.1
theorem dX9_canBegin_4 : decode cX9_canBegin 4 = .ok (.iconst 0, 1) := fX9_canBegin_0.2.2.2.2.1
theorem dX9_canBegin_5 : decode cX9_canBegin 5 = .ok (.istore_n 3, 1) := fX9_canBegin_0.2.2.2.2.2.1
theorem dX9_canBegin_6 : decode cX9_canBegin 6 = .ok (.iconst 0, 1) := fX9_canBegin_0.2.2.2.2.2.2.1
theorem dX9_canBegin_7 : decode cX9_canBegin 7 = .ok (.istore 4, 2) := fX9_canBegin_0.2.2.2.2.2.2.2.1
theorem dX9_canBegin_9 : decode cX9_canBegin 9 = .ok (.aload_n 0, 1) := fX9_canBegin_0.2.2.2.2.2.2.2.2.1
theorem dX9_canBegin_10 : decode cX9_canBegin 10 = .ok (.invokevirtual 32, 3) := fX9_canBegin_0.2.2.2.2.2.2.2.2.2.1
theorem dX9_canBegin_13 : decode cX9_canBegin 13 = .ok (.istore 5, 2) := fX9_canBegin_0.2.2.2.2.2.2.2.2.2.2.1
theorem dX9_canBegin_15 : decode cX9_canBegin 15 = .ok (.iconst 0, 1) := fX9_canBegin_0.2.2.2.2.2.2.2.2.2.2.2.1
theorem dX9_canBegin_16 : decode cX9_canBegin 16 = .ok (.istore 6, 2) := fX9_canBegin_0.2.2.2.2.2.2.2.2.2.2.2.2.1
theorem dX9_canBegin_18 : decode cX9_canBegin 18 = .ok (.iload 6, 2) := fX9_canBegin_0.2.2.2.2.2.2.2.2.2.2.2.2.2.1
theorem dX9_canBegin_20 : decode cX9_canBegin 20 = .ok (.iload 5, 2) := fX9_canBegin_0.2.2.2.2.2.2.2.2.2.2.2.2.2.2.1
theorem dX9_canBegin_22 : decode cX9_canBegin 22 = .ok (.if_icmp .ge 92, 3) := fX9_canBegin_0.2.2.2.2.2.2.2.2.2.2.2.2.2.2.2.1
theorem dX9_canBegin_25 : decode cX9_canBegin 25 = .ok (.aload_n 0, 1) := fX9_canBegin_0.2.2.2.2.2.2.2.2.2.2.2.2.2.2.2.2.1
theorem dX9_canBegin_26 : decode cX9_canBegin 26 = .ok (.getfield 9, 3) := fX9_canBegin_0.2.2.2.2.2.2.2.2.2.2.2.2.2.2.2.2.2.1
theorem dX9_canBegin_29 : decode cX9_canBegin 29 = .ok (.iload 6, 2) := fX9_canBegin_0.2.2.2.2.2.2.2.2.2.2.2.2.2.2.2.2.2.2.1
theorem dX9_canBegin_31 : decode cX9_canBegin 31 = .ok (.iaload, 1) := fX9_canBegin_0.2.2.2.2.2.2.2.2.2.2.2.2.2.2.2.2.2.2.2.1
theorem dX9_canBegin_32 : decode cX9_canBegin 32 = .ok (.invokestatic 36, 3) := fX9_canBegin_0.2.2.2.2.2.2.2.2.2.2.2.2.2.2.2.2.2.2.2.2.1
theorem dX9_canBegin_35 : decode cX9_canBegin 35 = .ok (.istore 7, 2) := fX9_canBegin_0.2.2.2.2.2.2.2.2.2.2.2.2.2.2.2.2.2.2.2.2.2.1
theorem dX9_canBegin_37 : decode cX9_canBegin 37 = .ok (.iload_n 1, 1) := fX9_canBegin_0.2.2.2.2.2.2.2.2.2.2.2.2.2.2.2.2.2.2.2.2.2.2.1
theorem dX9_canBegin_38 : decode cX9_canBegin 38 = .ok (.iload 7, 2) := fX9_canBegin_0.2.2.2.2.2.2.2.2.2.2.2.2.2.2.2.2.2.2.2.2.2.2.2.1
theorem fX9_canBegin_40 : DS.Facts cX9_canBegin 40 [(.iconst 2, 1), (.if_icmp .ne 7, 3), (.iconst 1, 1), (.goto 4, 3), (.iconst 0, 1), (.iadd, 1), (.istore_n 1, 1), (.iload_n 2, 1), (.iload 7, 2), (.iconst 3, 1), (.if_icmp .eq 9, 3), (.iload 7, 2), (.iconst 4, 1), (.if_icmp .ne 7, 3), (.iconst 1, 1), (.goto 4, 3), (.iconst 0, 1), (.iadd, 1), (.istore_n 2, 1), (.iload_n 3, 1), (.iload 7, 2), (.ifCond .ne 7, 3), (.iconst 0, 1), (.goto 4, 3)] := DS.facts 40 _ (by decide +kernel) (by decide +kernel)
theorem dX9_canBegin_40 : decode cX9_canBegin 40 = .ok (.iconst 2, 1) := fX9_canBegin_40.1
theorem dX9_canBegin_41 : decode cX9_canBegin 41 = .ok (.if_icmp .ne 7, 3) := fX9_canBegin_40.2.1
theorem dX9_canBegin_44 : decode cX9_canBegin 44 = .ok (.iconst 1, 1) := fX9_canBegin_40.2.2.1
theorem dX9_canBegin_45 : decode cX9_canBegin 45 = .ok (.goto 4, 3) := fX9_canBegin_40.2.2.2.1
theorem dX9_canBegin_48 : decode cX9_canBegin 48 = .ok (.iconst 0, 1) := fX9_canBegin_40.2.2.2.2.1
theorem dX9_canBegin_49 : decode cX9_canBegin 49 = .ok (.iadd, 1) := fX9_canBegin_40.2.2.2.2.2.1
theorem dX9_canBegin_50 : decode cX9_canBegin 50 = .ok (.istore_n 1, 1) := fX9_canBegin_40.2.2.2.2.2.2.1
theorem dX9_canBegin_51 : decode cX9_canBegin 51 = .ok (.iload_n 2, 1) := fX9_canBegin_40.2.2.2.2.2.2.2.1
theorem dX9_canBegin_52 : decode cX9_canBegin 52 = .ok (.iload 7, 2) := fX9_canBegin_40.2.2.2.2.2.2.2.2.1
theorem dX9_canBegin_54 : decode cX9_canBegin 54 = .ok (.iconst 3, 1) := fX9_canBegin_40.2.2.2.2.2.2.2.2.2.1
theorem dX9_canBegin_55 : decode cX9_canBegin 55 = .ok (.if_icmp .eq 9, 3) := fX9_canBegin_40.2.2.2.2.2.2.2.2.2.2.1
theorem dX9_canBegin_58 : decode cX9_canBegin 58 = .ok (.iload 7, 2) := fX9_canBegin_40.2.2.2.2.2.2.2.2.2.2.2.1
theorem dX9_canBegin_60 : decode cX9_canBegin 60 = .ok (.iconst 4, 1) := fX9_canBegin_40.2.2.2.2.2.2.2.2.2.2.2.2.1
theorem dX9_canBegin_61 : decode cX9_canBegin 61 = .ok (.if_icmp .ne 7, 3) := fX9_canBegin_40.2.2.2.2.2.2.2.2.2.2.2.2.2.1
theorem dX9_canBegin_64 : decode cX9_canBegin 64 = .ok (.iconst 1, 1) := fX9_canBegin_40.2.2.2.2.2.2.2.2.2.2.2.2.2.2.1
theorem dX9_canBegin_65 : decode cX9_canBegin 65 = .ok (.goto 4, 3) := fX9_canBegin_40.2.2.2.2.2.2.2.2.2.2.2.2.2.2.2.1
theorem dX9_canBegin_68 : decode cX9_canBegin 68 = .ok (.iconst 0, 1) := fX9_canBegin_40.2.2.2.2.2.2.2.2.2.2.2.2.2.2.2.2.1
theorem dX9_canBegin_69 : decode cX9_canBegin 69 = .ok (.iadd, 1) := fX9_canBegin_40.2.2.2.2.2.2.2.2.2.2.2.2.2.2.2.2.2.1
theorem dX9_canBegin_70 : decode cX9_canBegin 70 = .ok (.istore_n 2, 1) := fX9_canBegin_40.2.2.2.2.2.2.2.2.2.2.2.2.2.2.2.2.2.2.1
theorem dX9_canBegin_71 : decode cX9_canBegin 71 = .ok (.iload_n 3, 1) := fX9_canBegin_40.2.2.2.2.2.2.2.2.2.2.2.2.2.2.2.2.2.2.2.1
theorem dX9_canBegin_72 : decode cX9_canBegin 72 = .ok (.iload 7, 2) := fX9_canBegin_40.2.2.2.2.2.2.2.2.2.2.2.2.2.2.2.2.2.2.2.2.1
theorem dX9_canBegin_74 : decode cX9_canBegin 74 = .ok (.ifCond .ne 7, 3) := fX9_canBegin_40.2.2.2.2.2.2.2.2.2.2.2.2.2.2.2.2.2.2.2.2.2.1
theorem dX9_canBegin_77 : decode cX9_canBegin 77 = .ok (.iconst 0, 1) := fX9_canBegin_40.2.2.2.2.2.2.2.2.2.2.2.2.2.2.2.2.2.2.2.2.2.2.1
theorem dX9_canBegin_78 : decode cX9_canBegin 78 = .ok (.goto 4, 3) := fX9_canBegin_40.2.2.2.2.2.2.2.2.2.2.2.2.2.2.2.2.2.2.2.2.2.2.2.1
theorem fX9_canBegin_81 : DS.Facts cX9_canBegin 81 [(.iconst 1, 1), (.iadd, 1), (.istore_n 3, 1), (.iload 4, 2), (.aload_n 0, 1), (.getfield 9, 3), (.iload 6, 2), (.iaload, 1), (.invokestatic 40, 3), (.iconst 1, 1), (.if_icmp .ne 7, 3), (.iconst 1, 1), (.goto 4, 3), (.iconst 0, 1), (.iadd, 1), (.istore 4, 2), (.iinc 6 1, 3), (.goto (-93), 3), (.iload_n 1, 1), (.iconst 1, 1), (.if_icmp .ne 24, 3), (.iload_n 2, 1), (.iconst 1, 1), (.if_icmp .lt 19, 3)] := DS.facts 81 _ (by decide +kernel) (by decide +kernel)
theorem dX9_canBegin_81 : decode cX9_canBegin 81 = .ok (.iconst 1, 1) := fX9_canBegin_81.1
theorem dX9_canBegin_82 : decode cX9_canBegin 82 = .ok (.iadd, 1) := fX9_canBegin_81.2.1
theorem dX9_canBegin_83 : decode cX9_canBegin 83 = .ok (.istore_n 3, 1) := fX9_canBegin_81.2.2.1
theorem dX9_canBegin_84 : decode cX9_canBegin 84 = .ok (.iload 4, 2) := fX9_canBegin_81.2.2.2.1
theorem dX9_canBegin_86 : decode cX9_canBegin 86 = .ok (.aload_n 0, 1) := fX9_canBegin_81.2.2.2.2.1
theorem dX9_canBegin_87 : decode cX9_canBegin 87 = .ok (.getfield 9, 3) := fX9_canBegin_81.2.2.2.2.2.1
theorem dX9_canBegin_90 : decode cX9_canBegin 90 = .ok (.iload 6, 2) := fX9_canBegin_81.2.2.2.2.2.2.1
theorem dX9_canBegin_92 : decode cX9_canBegin 92 = .ok (.iaload, 1) := fX9_canBegin_81.2.2.2.2.2.2.2.1
theorem dX9_canBegin_93 : decode cX9_canBegin 93 = .ok (.invokestatic 40, 3) := fX9_canBegin_81.2.2.2.2.2.2.2.2.1
theorem dX9_canBegin_96 : decode cX9_canBegin 96 = .ok (.iconst 1, 1) := fX9_canBegin_81.2.2.2.2.2.2.2.2.2.1
theorem dX9_canBegin_97 : decode cX9_canBegin 97 = .ok (.if_icmp .ne 7, 3) := fX9_canBegin_81.2.2.2.2.2.2.2.2.2.2.1
theorem dX9_canBegin_100 : decode cX9_canBegin 100 = .ok (.iconst 1, 1) := fX9_canBegin_81.2.2.2.2.2.2.2.2.2.2.2.1
theorem dX9_canBegin_101 : decode cX9_canBegin 101 = .ok (.goto 4, 3) := fX9_canBegin_81.2.2.2.2.2.2.2.2.2.2.2.2.1
theorem dX9_canBegin_104 : decode cX9_canBegin 104 = .ok (.iconst 0, 1) := fX9_canBegin_81.2.2.2.2.2.2.2.2.2.2.2.2.2.1
theorem dX9_canBegin_105 : decode cX9_canBegin 105 = .ok (.iadd, 1) := fX9_canBegin_81.2.2.2.2.2.2.2.2.2.2.2.2.2.2.1
theorem dX9_canBegin_106 : decode cX9_canBegin 106 = .ok (.istore 4, 2) := fX9_canBegin_81.2.2.2.2.2.2.2.2.2.2.2.2.2.2.2.1
theorem dX9_canBegin_108 : decode cX9_canBegin 108 = .ok (.iinc 6 1, 3) := fX9_canBegin_81.2.2.2.2.2.2.2.2.2.2.2.2.2.2.2.2.1
theorem dX9_canBegin_111 : decode cX9_canBegin 111 = .ok (.goto (-93), 3) := fX9_canBegin_81.2.2.2.2.2.2.2.2.2.2.2.2.2.2.2.2.2.1
theorem dX9_canBegin_114 : decode cX9_canBegin 114 = .ok (.iload_n 1, 1) := fX9_canBegin_81.2.2.2.2.2.2.2.2.2.2.2.2.2.2.2.2.2.2.1
theorem dX9_canBegin_115 : decode cX9_canBegin 115 = .ok (.iconst 1, 1) := fX9_canBegin_81.2.2.2.2.2.2.2.2.2.2.2.2.2.2.2.2.2.2.2.1
theorem dX9_canBegin_116 : decode cX9_canBegin 116 = .ok (.if_icmp .ne 24, 3) := fX9_canBegin_81.2.2.2.2.2.2.2.2.2.2.2.2.2.2.2.2.2.2.2.2.1
theorem dX9_canBegin_119 : decode cX9_canBegin 119 = .ok (.iload_n 2, 1) := fX9_canBegin_81.2.2.2.2.2.2.2.2.2.2.2.2.2.2.2.2.2.2.2.2.2.1
theorem dX9_canBegin_120 : decode cX9_canBegin 120 = .ok (.iconst 1, 1) := fX9_canBegin_81.2.2.2.2.2.2.2.2.2.2.2.2.2.2.2.2.2.2.2.2.2.2.1
theorem dX9_canBegin_121 : decode cX9_canBegin 121 = .ok (.if_icmp .lt 19, 3) := fX9_canBegin_81.2.2.2.2.2.2.2.2.2.2.2.2.2.2.2.2.2.2.2.2.2.2.2.1
theorem fX9_canBegin_124 : DS.Facts cX9_canBegin 124 [(.iload_n 3, 1), (.bipush 40, 2), (.if_icmp .gt 13, 3), (.iload 4, 2), (.iconst 1, 1), (.if_icmp .gt 7, 3), (.iconst 1, 1), (.goto 4, 3), (.iconst 0, 1), (.ireturn, 1)] := DS.facts 124 _ (by decide +kernel) (by decide +kernel)
theorem dX9_canBegin_124 : decode cX9_canBegin 124 = .ok (.iload_n 3, 1) := fX9_canBegin_124.1
theorem dX9_canBegin_125 : decode cX9_canBegin 125 = .ok (.bipush 40, 2) := fX9_canBegin_124.2.1
theorem dX9_canBegin_127 : decode cX9_canBegin 127 = .ok (.if_icmp .gt 13, 3) := fX9_canBegin_124.2.2.1
theorem dX9_canBegin_130 : decode cX9_canBegin 130 = .ok (.iload 4, 2) := fX9_canBegin_124.2.2.2.1
theorem dX9_canBegin_132 : decode cX9_canBegin 132 = .ok (.iconst 1, 1) := fX9_canBegin_124.2.2.2.2.1
theorem dX9_canBegin_133 : decode cX9_canBegin 133 = .ok (.if_icmp .gt 7, 3) := fX9_canBegin_124.2.2.2.2.2.1
theorem dX9_canBegin_136 : decode cX9_canBegin 136 = .ok (.iconst 1, 1) := fX9_canBegin_124.2.2.2.2.2.2.1
theorem dX9_canBegin_137 : decode cX9_canBegin 137 = .ok (.goto 4, 3) := fX9_canBegin_124.2.2.2.2.2.2.2.1
theorem dX9_canBegin_140 : decode cX9_canBegin 140 = .ok (.iconst 0, 1) := fX9_canBegin_124.2.2.2.2.2.2.2.2.1
theorem dX9_canBegin_141 : decode cX9_canBegin 141 = .ok (.ireturn, 1) := fX9_canBegin_124.2.2.2.2.2.2.2.2.2.1
set_option maxRecDepth 20000 in
theorem ggX10_init_X9_init : GoodIn wsX10_init wsX9_init := goodIn_r _ [29, 30, 2, 3, 31, 32, 33, 34, 137, 138, 139] (by decide +kernel) (by decide +kernel)
set_option maxRecDepth 20000 in
theorem gX10_init_X9_init_n9 : GoodIn wsX10_init (wsX9_init) := ggX10_init_X9_init
set_option maxRecDepth 20000 in
theorem ggX10_init_X1_init : GoodIn wsX10_init wsX1_init := goodIn_r _ [36, 37, 2, 3, 38, 39, 40, 41, 42, 146, 147, 148, 149, 150] (by decide +kernel) (by decide +kernel)
set_option maxRecDepth 20000 in
theorem gX10_init_X1_init_n18 : GoodIn wsX10_init (wsX1_init) := ggX10_init_X1_init
set_option maxRecDepth 20000 in
theorem ggX10_init_X6_init : GoodIn wsX10_init wsX6_init := goodIn_r _ [45, 46, 2, 3, 47, 48, 49, 50, 31, 51, 52, 53, 54, 55, 56, 57, 58, 59, 60, 61, 62, 63, 183, 184, 185, 186, 187, 151, 152, 153, 154, 155, 156, 157, 158, 159] (by decide +kernel) (by decide +kernel)
set_option maxRecDepth 20000 in
theorem gX10_init_X6_init : GoodIn wsX10_init (wsX6_init) := ggX10_init_X6_init
set_option maxRecDepth 20000 in
theorem ggX10_init_X4_init : GoodIn wsX10_init wsX4_init := goodIn_r _ [66, 67, 2, 3, 68, 69, 70, 71, 72, 73, 74, 75, 76, 77, 78, 79, 80, 81, 82, 31, 83, 84, 85, 86, 87, 88, 89, 90, 91, 92, 93, 94, 95, 96, 97, 98, 99, 100, 101, 102, 103, 188, 189, 190, 160, 161, 162, 163, 164, 191, 192, 193, 194, 195, 196, 197, 198, 199] (by decide +kernel) (by decide +kernel)
set_option maxRecDepth 20000 in
theorem gX10_init_X4_init : GoodIn wsX10_init (wsX4_init) := ggX10_init_X4_init
set_option maxRecDepth 20000 in
theorem ggX10_init_X5_init : GoodIn wsX10_init wsX5_init := goodIn_r _ [106, 107, 2, 3, 31, 108, 53, 109, 110, 165, 166, 167] (by decide +kernel) (by decide +kernel)
set_option maxRecDepth 20000 in
theorem gX10_init_X5_init : GoodIn wsX10_init (wsX5_init) := ggX10_init_X5_init
set_option maxRecDepth 20000 in
theorem ggX10_init_X7_init : GoodIn wsX10_init wsX7_init := goodIn_r _ [113, 114, 2, 3, 115, 69, 70, 116, 117, 118, 119, 120, 31, 121, 122, 123, 124, 125, 126, 127, 128, 129, 130, 80, 81, 82, 83, 84, 85, 86, 87, 88, 89, 90, 91, 92, 93, 131, 132, 133, 134, 135, 136, 188, 189, 190, 168, 169, 170, 171, 172, 173, 174, 175, 176, 177, 178, 179, 180, 181, 182, 200, 201, 202, 203] (by decide +kernel) (by decide +kernel)
set_option maxRecDepth 20000 in
theorem gX10_init_X7_init : GoodIn wsX10_init (wsX7_init) := ggX10_init_X7_init
theorem fX10_init_0 : DS.Facts cX10_init 0 [(.aload_n 0, 1), (.invokespecial 1, 3), (.aload_n 0, 1), (.new 7, 3), (.dup, 1), (.invokespecial 9, 3), (.putfield 10, 3), (.aload_n 0, 1), (.new 16, 3), (.dup, 1), (.invokespecial 18, 3), (.putfield 19, 3), (.aload_n 0, 1), (.new 23, 3), (.dup, 1), (.aload_n 0, 1), (.getfield 19, 3), (.invokespecial 25, 3), (.putfield 28, 3), (.aload_n 0, 1), (.new 32, 3), (.dup, 1), (.aload_n 0, 1), (.getfield 19, 3)] := DS.facts 0 _ (by decide +kernel) (by decide +kernel)
theorem dX10_init_0 : decode cX10_init 0 = .ok (.aload_n 0, 1) := fX10_init_0.1
theorem dX10_init_1 : decode cX10_init 1 = .ok (.invokespecial 1, 3) := fX10_init_0.2.1
theorem dX10_init_4 : decode cX10_init 4 = .ok (.aload_n 0, 1) := fX10_init_0.2.2.1
theorem dX10_init_5 : decode cX10_init 5 = .ok (.new 7, 3) := fX10_init_0.2.2.2.1
theorem dX10_init_8 : decode cX10_init 8 = .ok (.dup, 1) := fX10_init_0.2.2.2.2.1
theorem dX10_init_9 : decode cX10_init 9 = .ok (.invokespecial 9, 3) := fX10_init_0.2.2.2.2.2.1
theorem dX10_init_12 : decode cX10_init 12 = .ok (.putfield 10, 3) := fX10_init_0.2.2.2.2.2.2.1
theorem dX10_init_15 : decode cX10_init 15 = .ok (.aload_n 0, 1) := fX10_init_0.2.2.2.2.2.2.2.1
theorem dX10_init_16 : decode cX10_init 16 = .ok (.new 16, 3) := fX10_init_0.2.2.2.2.2.2.2.2.1
theorem dX10_init_19 : decode cX10_init 19 = .ok (.dup, 1) := fX10_init_0.2.2.2.2.2.2.2.2.2.1
theorem dX10_init_20 : decode cX10_init 20 = .ok (.invokespecial 18, 3) := fX10_init_0.2.2.2.2.2.2.2.2.2.2.1
theorem dX10_init_23 : decode cX10_init 23 = .ok (.putfield 19, 3) := fX10_init_0.2.2.2.2.2.2.2.2.2.2.2.1
theorem dX10_init_26 : decode cX10_init 26 = .ok (.aload_n 0, 1) := fX10_init_0.2.2.2.2.2.2.2.2.2.2.2.2.1
theorem dX10_init_27 : decode cX10_init 27 = .ok (.new 23, 3) := fX10_init_0.2.2.2.2.2.2.2.2.2.2.2.2.2.1
theorem dX10_init_30 : decode cX10_init 30 = .ok (.dup, 1) := fX10_init_0.2.2.2.2.2.2.2.2.2.2.2.2.2.2.1
theorem dX10_init_31 : decode cX10_init 31 = .ok (.aload_n 0, 1) := fX10_init_0.2.2.2.2.2.2.2.2.2.2.2.2.2.2.2.1
theorem dX10_init_32 : decode cX10_init 32 = .ok (.getfield 19, 3) := fX10_init_0.2.2.2.2.2.2.2.2.2.2.2.2.2.2.2.2.1
theorem dX10_init_35 : decode cX10_init 35 = .ok (.invokespecial 25, 3) := fX10_init_0.2.2.2.2.2.2.2.2.2.2.2.2.2.2.2.2.2.1
theorem dX10_init_38 : decode cX10_init 38 = .ok (.putfield 28, 3) := fX10_init_0.2.2.2.2.2.2.2.2.2.2.2.2.2.2.2.2.2.2.1
theorem dX10_init_41 : decode cX10_init 41 = .ok (.aload_n 0, 1) := fX10_init_0.2.2.2.2.2.2.2.2.2.2.2.2.2.2.2.2.2.2.2.1
theorem dX10_init_42 : decode cX10_init 42 = .ok (.new 32, 3) := fX10_init_0.2.2.2.2.2.2.2.2.2.2.2.2.2.2.2.2.2.2.2.2.1
theorem dX10_init_45 : decode cX10_init 45 = .ok (.dup, 1) := fX10_init_0.2.2.2.2.2.2.2.2.2.2.2.2.2.2.2.2.2.2.2.2.2.1
theorem dX10_init_46 : decode cX10_init 46 = .ok (.aload_n 0, 1) := fX10_init_0.2.2.2.2.2.2.2.2.2.2.2.2.2.2.2.2.2.2.2.2.2.2.1
theorem dX10_init_47 : decode cX10_init 47 = .ok (.getfield 19, 3) := fX10_init_0.2.2.2.2.2.2.2.2.2.2.2.2.2.2.2.2.2.2.2.2.2.2.2.1
theorem fX10_init_50 : DS.Facts cX10_init 50 [(.aload_n 0, 1), (.getfield 28, 3), (.invokespecial 34, 3), (.putfield 37, 3), (.aload_n 0, 1), (.new 41, 3), (.dup, 1), (.aload_n 0, 1), (.getfield 28, 3), (.invokespecial 43, 3), (.putfield 46, 3), (.aload_n 0, 1), (.new 50, 3), (.dup, 1), (.aload_n 0, 1), (.getfield 28, 3), (.invokespecial 52, 3), (.putfield 53, 3), (.return_, 1)] := DS.facts 50 _ (by decide +kernel) (by decide +kernel)
theorem dX10_init_50 : decode cX10_init 50 = .ok (.aload_n 0, 1) := fX10_init_50.1
theorem dX10_init_51 : decode cX10_init 51 = .ok (.getfield 28, 3) := fX10_init_50.2.1
theorem dX10_init_54 : decode cX10_init 54 = .ok (.invokespecial 34, 3) := fX10_init_50.2.2.1
theorem dX10_init_57 : decode cX10_init 57 = .ok (.putfield 37, 3) := fX10_init_50.2.2.2.1
theorem dX10_init_60 : decode cX10_init 60 = .ok (.aload_n 0, 1) := fX10_init_50.2.2.2.2.1
theorem dX10_init_61 : decode cX10_init 61 = .ok (.new 41, 3) := fX10_init_50.2.2.2.2.2.1
theorem dX10_init_64 : decode cX10_init 64 = .ok (.dup, 1) := fX10_init_50.2.2.2.2.2.2.1
theorem dX10_init_65 : decode cX10_init 65 = .ok (.aload_n 0, 1) := fX10_init_50.2.2.2.2.2.2.2.1
theorem dX10_init_66 : decode cX10_init 66 = .ok (.getfield 28, 3) := fX10_init_50.2.2.2.2.2.2.2.2.1
theorem dX10_init_69 : decode cX10_init 69 = .ok (.invokespecial 43, 3) := fX10_init_50.2.2.2.2.2.2.2.2.2.1
theorem dX10_init_72 : decode cX10_init 72 = .ok (.putfield 46, 3) := fX10_init_50.2.2.2.2.2.2.2.2.2.2.1
theorem dX10_init_75 : decode cX10_init 75 = .ok (.aload_n 0, 1) := fX10_init_50.2.2.2.2.2.2.2.2.2.2.2.1
theorem dX10_init_76 : decode cX10_init 76 = .ok (.new 50, 3) := fX10_init_50.2.2.2.2.2.2.2.2.2.2.2.2.1
theorem dX10_init_79 : decode cX10_init 79 = .ok (.dup, 1) := fX10_init_50.2.2.2.2.2.2.2.2.2.2.2.2.2.1
theorem dX10_init_80 : decode cX10_init 80 = .ok (.aload_n 0, 1) := fX10_init_50.2.2.2.2.2.2.2.2.2.2.2.2.2.2.1
theorem dX10_init_81 : decode cX10_init 81 = .ok (.getfield 28, 3) := fX10_init_50.2.2.2.2.2.2.2.2.2.2.2.2.2.2.2.1
theorem dX10_init_84 : decode cX10_init 84 = .ok (.invokespecial 52, 3) := fX10_init_50.2.2.2.2.2.2.2.2.2.2.2.2.2.2.2.2.1
theorem dX10_init_87 : decode cX10_init 87 = .ok (.putfield 53, 3) := fX10_init_50.2.2.2.2.2.2.2.2.2.2.2.2.2.2.2.2.2.1
theorem dX10_init_90 : decode cX10_init 90 = .ok (.return_, 1) := fX10_init_50.2.2.2.2.2.2.2.2.2.2.2.2.2.2.2.2.2.2.1
set_option maxRecDepth 20000 in
theorem ggX10_board_X9_renew : GoodIn wsX10_board wsX9_renew := goodIn_r _ [6, 7, 8, 9, 10, 11, 5, 12, 13, 14, 15, 16, 68, 69, 70] (by decide +kernel) (by decide +kernel)
set_option maxRecDepth 20000 in
theorem gX10_board_X9_renew : GoodIn wsX10_board (wsV RX10 57 RX9 yX9_renew wsX9_renew) := goodIn_app (goodIn_of _ (by decide +kernel)) ggX10_board_X9_renew
set_option maxRecDepth 20000 in
theorem ggX10_board_X10_endPlay : GoodIn wsX10_board wsX10_endPlay := goodIn_r _ [21, 22, 23, 24, 25, 26, 27, 28, 29, 30, 31, 32, 33, 34, 35, 36, 37, 38, 39, 40, 41, 42, 43, 44, 45, 46, 47, 48, 14, 15, 16, 49, 50, 51, 52, 53, 54, 55, 56, 57, 58, 59, 60, 61, 62, 63, 64, 65, 66, 67, 71, 72, 73, 74, 75, 76, 77, 78, 79, 80, 81, 82, 83, 84, 85, 86, 87, 88, 89, 90, 91, 92, 93, 94, 95, 96, 97, 98, 99, 100, 101, 102, 103, 104, 105, 106, 107, 108, 109, 110, 111] (by decide +kernel) (by decide +kernel)
set_option maxRecDepth 20000 in
theorem gX10_board_X10_endPlay : GoodIn wsX10_board (wsV RX10 61 RX10 yX10_endPlay wsX10_endPlay) := goodIn_app (goodIn_of _ (by decide +kernel)) ggX10_board_X10_endPlay
theorem fX10_board_0 : DS.Facts cX10_board 0 [(.aload_n 0, 1), (.getfield 10, 3), (.iload_n 1, 1), (.iload_n 2, 1), (.invokevirtual 57, 3), (.ifCond .ne 5, 3), (.iconst 0, 1), (.ireturn, 1), (.aload_n 0, 1), (.invokevirtual 61, 3), (.iconst 1, 1), (.ireturn, 1)] := DS.facts 0 _ (by decide +kernel) (by decide +kernel)
theorem dX10_board_0 : decode cX10_board 0 = .ok (.aload_n 0, 1) := fX10_board_0.1
theorem dX10_board_1 : decode cX10_board 1 = .ok (.getfield 10, 3) := fX10_board_0.2.1
theorem dX10_board_4 : decode cX10_board 4 = .ok (.iload_n 1, 1) := fX10_board_0.2.2.1
theorem dX10_board_5 : decode cX10_board 5 = .ok (.iload_n 2, 1) := fX10_board_0.2.2.2.1
theorem dX10_board_6 : decode cX10_board 6 = .ok (.invokevirtual 57, 3) := fX10_board_0.2.2.2.2.1
theorem dX10_board_9 : decode cX10_board 9 = .ok (.ifCond .ne 5, 3) := fX10_board_0.2.2.2.2.2.1
theorem dX10_board_12 : decode cX10_board 12 = .ok (.iconst 0, 1) := fX10_board_0.2.2.2.2.2.2.1
theorem dX10_board_13 : decode cX10_board 13 = .ok (.ireturn, 1) := fX10_board_0.2.2.2.2.2.2.2.1
theorem dX10_board_14 : decode cX10_board 14 = .ok (.aload_n 0, 1) := fX10_board_0.2.2.2.2.2.2.2.2.1
theorem dX10_board_15 : decode cX10_board 15 = .ok (.invokevirtual 61, 3) := fX10_board_0.2.2.2.2.2.2.2.2.2.1
theorem dX10_board_18 : decode cX10_board 18 = .ok (.iconst 1, 1) := fX10_board_0.2.2.2.2.2.2.2.2.2.2.1
theorem dX10_board_19 : decode cX10_board 19 = .ok (.ireturn, 1) := fX10_board_0.2.2.2.2.2.2.2.2.2.2.2.1
set_option maxRecDepth 20000 in
theorem ggX10_line_X4_isThere : GoodIn wsX10_line wsX4_isThere := goodIn_r _ [7, 8, 23, 24, 25, 26, 27] (by decide +kernel) (by decide +kernel)
set_option maxRecDepth 20000 in
theorem gX10_line_X4_isThere : GoodIn wsX10_line (wsV RX10 64 RX4 yX4_isThere wsX4_isThere) := goodIn_app (goodIn_of _ (by decide +kernel)) ggX10_line_X4_isThere
set_option maxRecDepth 20000 in
theorem ggX10_line_X9_tell : GoodIn wsX10_line wsX9_tell := goodIn_r _ [13, 14, 15, 16, 28, 29, 30] (by decide +kernel) (by decide +kernel)
set_option maxRecDepth 20000 in
theorem gX10_line_X9_tell : GoodIn wsX10_line (wsV RX10 68 RX9 yX9_tell wsX9_tell) := goodIn_app (goodIn_of _ (by decide +kernel)) ggX10_line_X9_tell
theorem fX10_line_0 : DS.Facts cX10_line 0 [(.aload_n 0, 1), (.getfield 37, 3), (.invokevirtual 64, 3), (.ifCond .ne 20, 3), (.aload_n 0, 1), (.getfield 10, 3), (.iload_n 1, 1), (.iload_n 2, 1), (.iload_n 3, 1), (.invokevirtual 68, 3), (.ifCond .eq 7, 3), (.iconst 1, 1), (.goto 4, 3), (.iconst 0, 1), (.ireturn, 1)] := DS.facts 0 _ (by decide +kernel) (by decide +kernel)
theorem dX10_line_0 : decode cX10_line 0 = .ok (.aload_n 0, 1) := fX10_line_0.1
theorem dX10_line_1 : decode cX10_line 1 = .ok (.getfield 37, 3) := fX10_line_0.2.1
theorem dX10_line_4 : decode cX10_line 4 = .ok (.invokevirtual 64, 3) := fX10_line_0.2.2.1
theorem dX10_line_7 : decode cX10_line 7 = .ok (.ifCond .ne 20, 3) := fX10_line_0.2.2.2.1
theorem dX10_line_10 : decode cX10_line 10 = .ok (.aload_n 0, 1) := fX10_line_0.2.2.2.2.1
theorem dX10_line_11 : decode cX10_line 11 = .ok (.getfield 10, 3) := fX10_line_0.2.2.2.2.2.1
theorem dX10_line_14 : decode cX10_line 14 = .ok (.iload_n 1, 1) := fX10_line_0.2.2.2.2.2.2.1
theorem dX10_line_15 : decode cX10_line 15 = .ok (.iload_n 2, 1) := fX10_line_0.2.2.2.2.2.2.2.1
theorem dX10_line_16 : decode cX10_line 16 = .ok (.iload_n 3, 1) := fX10_line_0.2.2.2.2.2.2.2.2.1
theorem dX10_line_17 : decode cX10_line 17 = .ok (.invokevirtual 68, 3) := fX10_line_0.2.2.2.2.2.2.2.2.2.1
theorem dX10_line_20 : decode cX10_line 20 = .ok (.ifCond .eq 7, 3) := fX10_line_0.2.2.2.2.2.2.2.2.2.2.1
theorem dX10_line_23 : decode cX10_line 23 = .ok (.iconst 1, 1) := fX10_line_0.2.2.2.2.2.2.2.2.2.2.2.1
theorem dX10_line_24 : decode cX10_line 24 = .ok (.goto 4, 3) := fX10_line_0.2.2.2.2.2.2.2.2.2.2.2.2.1
theorem dX10_line_27 : decode cX10_line 27 = .ok (.iconst 0, 1) := fX10_line_0.2.2.2.2.2.2.2.2.2.2.2.2.2.1
theorem dX10_line_28 : decode cX10_line 28 = .ok (.ireturn, 1) := fX10_line_0.2.2.2.2.2.2.2.2.2.2.2.2.2.2.1
set_option maxRecDepth 20000 in
theorem ggX10_law_X4_isThere : GoodIn wsX10_law wsX4_isThere := goodIn_r _ [7, 8, 25, 26, 27, 28, 29] (by decide +kernel) (by decide +kernel)
set_option maxRecDepth 20000 in
theorem gX10_law_X4_isThere : GoodIn wsX10_law (wsV RX10 64 RX4 yX4_isThere wsX4_isThere) := goodIn_app (goodIn_of _ (by decide +kernel)) ggX10_law_X4_isThere
set_option maxRecDepth 20000 in
theorem ggX10_law_X1_change : GoodIn wsX10_law wsX1_change := goodIn_r _ [13, 14, 15, 16, 17, 18, 30, 31, 32, 33, 34] (by decide +kernel) (by decide +kernel)
set_option maxRecDepth 20000 in
theorem gX10_law_X1_change : GoodIn wsX10_law (wsV RX10 72 RX1 yX1_change wsX1_change) := goodIn_app (goodIn_of _ (by decide +kernel)) ggX10_law_X1_change
theorem fX10_law_0 : DS.Facts cX10_law 0 [(.aload_n 0, 1), (.getfield 37, 3), (.invokevirtual 64, 3), (.ifCond .ne 24, 3), (.aload_n 0, 1), (.getfield 19, 3), (.iload_n 1, 1), (.iload_n 2, 1), (.iload_n 3, 1), (.iload 4, 2), (.iload 5, 2), (.invokevirtual 72, 3), (.ifCond .eq 7, 3), (.iconst 1, 1), (.goto 4, 3), (.iconst 0, 1), (.ireturn, 1)] := DS.facts 0 _ (by decide +kernel) (by decide +kernel)
theorem dX10_law_0 : decode cX10_law 0 = .ok (.aload_n 0, 1) := fX10_law_0.1
theorem dX10_law_1 : decode cX10_law 1 = .ok (.getfield 37, 3) := fX10_law_0.2.1
theorem dX10_law_4 : decode cX10_law 4 = .ok (.invokevirtual 64, 3) := fX10_law_0.2.2.1
theorem dX10_law_7 : decode cX10_law 7 = .ok (.ifCond .ne 24, 3) := fX10_law_0.2.2.2.1
theorem dX10_law_10 : decode cX10_law 10 = .ok (.aload_n 0, 1) := fX10_law_0.2.2.2.2.1
theorem dX10_law_11 : decode cX10_law 11 = .ok (.getfield 19, 3) := fX10_law_0.2.2.2.2.2.1
theorem dX10_law_14 : decode cX10_law 14 = .ok (.iload_n 1, 1) := fX10_law_0.2.2.2.2.2.2.1
theorem dX10_law_15 : decode cX10_law 15 = .ok (.iload_n 2, 1) := fX10_law_0.2.2.2.2.2.2.2.1
theorem dX10_law_16 : decode cX10_law 16 = .ok (.iload_n 3, 1) := fX10_law_0.2.2.2.2.2.2.2.2.1
theorem dX10_law_17 : decode cX10_law 17 = .ok (.iload 4, 2) := fX10_law_0.2.2.2.2.2.2.2.2.2.1
theorem dX10_law_19 : decode cX10_law 19 = .ok (.iload 5, 2) := fX10_law_0.2.2.2.2.2.2.2.2.2.2.1
theorem dX10_law_21 : decode cX10_law 21 = .ok (.invokevirtual 72, 3) := fX10_law_0.2.2.2.2.2.2.2.2.2.2.2.1
theorem dX10_law_24 : decode cX10_law 24 = .ok (.ifCond .eq 7, 3) := fX10_law_0.2.2.2.2.2.2.2.2.2.2.2.2.1
theorem dX10_law_27 : decode cX10_law 27 = .ok (.iconst 1, 1) := fX10_law_0.2.2.2.2.2.2.2.2.2.2.2.2.2.1
theorem dX10_law_28 : decode cX10_law 28 = .ok (.goto 4, 3) := fX10_law_0.2.2.2.2.2.2.2.2.2.2.2.2.2.2.1
theorem dX10_law_31 : decode cX10_law 31 = .ok (.iconst 0, 1) := fX10_law_0.2.2.2.2.2.2.2.2.2.2.2.2.2.2.2.1
theorem dX10_law_32 : decode cX10_law 32 = .ok (.ireturn, 1) := fX10_law_0.2.2.2.2.2.2.2.2.2.2.2.2.2.2.2.2.1
set_option maxRecDepth 20000 in
theorem ggX10_begin_X4_isThere : GoodIn wsX10_begin wsX4_isThere := goodIn_r _ [9, 10, 151, 152, 153, 154, 155] (by decide +kernel) (by decide +kernel)
set_option maxRecDepth 20000 in
theorem gX10_begin_X4_isThere : GoodIn wsX10_begin (wsV RX10 64 RX4 yX4_isThere wsX4_isThere) := goodIn_app (goodIn_of _ (by decide +kernel)) ggX10_begin_X4_isThere
set_option maxRecDepth 20000 in
theorem ggX10_begin_X10_isSide : GoodIn wsX10_begin wsX10_isSide := goodIn_r _ [14] (by decide +kernel) (by decide +kernel)
set_option maxRecDepth 20000 in
theorem gX10_begin_X10_isSide : GoodIn wsX10_begin (va_wsS RX10 76 yX10_isSide wsX10_isSide) := goodIn_app (goodIn_of _ (by decide +kernel)) ggX10_begin_X10_isSide
set_option maxRecDepth 20000 in
theorem ggX10_begin_X9_canBegin : GoodIn wsX10_begin wsX9_canBegin := goodIn_r _ [19, 20, 21, 22, 23, 18, 24, 25, 26, 27, 13, 28, 29, 30, 156, 157, 158] (by decide +kernel) (by decide +kernel)
set_option maxRecDepth 20000 in
theorem gX10_begin_X9_canBegin : GoodIn wsX10_begin (wsV RX10 80 RX9 yX9_canBegin wsX9_canBegin) := goodIn_app (goodIn_of _ (by decide +kernel)) ggX10_begin_X9_canBegin
set_option maxRecDepth 20000 in
theorem ggX10_begin_X7_forget : GoodIn wsX10_begin wsX7_forget := goodIn_r _ [35, 36, 159, 160, 161, 162, 163, 164, 165, 166, 167, 168, 169, 170, 171, 172, 173] (by decide +kernel) (by decide +kernel)
set_option maxRecDepth 20000 in
theorem gX10_begin_X7_forget : GoodIn wsX10_begin (wsV RX10 83 RX7 yX7_forget wsX7_forget) := goodIn_app (goodIn_of _ (by decide +kernel)) ggX10_begin_X7_forget
set_option maxRecDepth 20000 in
theorem ggX10_begin_X4_start : GoodIn wsX10_begin wsX4_start := goodIn_r _ [40, 41, 42, 43, 44, 45, 46, 8, 47, 10, 48, 49, 50, 51, 52, 53, 54, 55, 56, 57, 58, 59, 60, 61, 62, 63, 64, 65, 66, 67, 68, 69, 70, 71, 72, 73, 74, 75, 76, 77, 78, 79, 80, 81, 82, 83, 84, 85, 22, 23, 18, 24, 25, 26, 29, 13, 30, 86, 27, 28, 87, 88, 89, 90, 91, 92, 93, 94, 95, 96, 97, 98, 99, 100, 101, 102, 103, 104, 105, 106, 107, 108, 109, 110, 111, 112, 113, 114, 115, 116, 117, 118, 119, 120, 121, 122, 123, 124, 125, 126, 127, 128, 129, 130, 131, 132, 133, 134, 135, 151, 152, 153, 154, 155, 142, 143, 144, 145, 146, 147, 148, 149, 150, 174, 175, 176, 177, 178, 156, 157, 158, 179, 180, 181, 182, 183, 184, 185, 186, 187, 188, 189, 190, 191, 192, 193, 194, 195] (by decide +kernel) (by decide +kernel)
set_option maxRecDepth 20000 in
theorem gX10_begin_X4_start : GoodIn wsX10_begin (wsV RX10 86 RX4 yX4_start wsX4_start) := goodIn_app (goodIn_of _ (by decide +kernel)) ggX10_begin_X4_start
theorem fX10_begin_0 : DS.Facts cX10_begin 0 [(.aload_n 0, 1), (.getfield 37, 3), (.invokevirtual 64, 3), (.ifCond .ne 20, 3), (.iload_n 1, 1), (.invokestatic 76, 3), (.ifCond .eq 13, 3), (.aload_n 0, 1), (.getfield 10, 3), (.invokevirtual 80, 3), (.ifCond .ne 5, 3), (.iconst (-1), 1), (.ireturn, 1), (.aload_n 0, 1), (.getfield 53, 3), (.invokevirtual 83, 3), (.aload_n 0, 1), (.getfield 37, 3), (.aload_n 0, 1), (.getfield 10, 3), (.iload_n 1, 1), (.invokevirtual 86, 3), (.aload_n 0, 1), (.getfield 28, 3)] := DS.facts 0 _ (by decide +kernel) (by decide +kernel)
theorem dX10_begin_0 : decode cX10_begin 0 = .ok (.aload_n 0, 1) := fX10_begin_0.1
theorem dX10_begin_1 : decode cX10_begin 1 = .ok (.getfield 37, 3) := fX10_begin_0.2.1
theorem dX10_begin_4 : decode cX10_begin 4 = .ok (.invokevirtual 64, 3) := fX10_begin_0.2.2.1
theorem dX10_begin_7 : decode cX10_begin 7 = .ok (.ifCond .ne 20, 3) := fX10_begin_0.2.2.2.1
theorem dX10_begin_10 : decode cX10_begin 10 = .ok (.iload_n 1, 1) := fX10_begin_0.2.2.2.2.1
theorem dX10_begin_11 : decode cX10_begin 11 = .ok (.invokestatic 76, 3) := fX10_begin_0.2.2.2.2.2.1
theorem dX10_begin_14 : decode cX10_begin 14 = .ok (.ifCond .eq 13, 3) := fX10_begin_0.2.2.2.2.2.2.1
theorem dX10_begin_17 : decode cX10_begin 17 = .ok (.aload_n 0, 1) := fX10_begin_0.2.2.2.2.2.2.2.1
theorem dX10_begin_18 : decode cX10_begin 18 = .ok (.getfield 10, 3) := fX10_begin_0.2.2.2.2.2.2.2.2.1
theorem dX10_begin_21 : decode cX10_begin 21 = .ok (.invokevirtual 80, 3) := fX10_begin_0.2.2.2.2.2.2.2.2.2.1
theorem dX10_begin_24 : decode cX10_begin 24 = .ok (.ifCond .ne 5, 3) := fX10_begin_0.2.2.2.2.2.2.2.2.2.2.1
theorem dX10_begin_27 : decode cX10_begin 27 = .ok (.iconst (-1), 1) := fX10_begin_0.2.2.2.2.2.2.2.2.2.2.2.1
theorem dX10_begin_28 : decode cX10_begin 28 = .ok (.ireturn, 1) := fX10_begin_0.2.2.2.2.2.2.2.2.2.2.2.2.1
theorem dX10_begin_29 : decode cX10_begin 29 = .ok (.aload_n 0, 1) := fX10_begin_0.2.2.2.2.2.2.2.2.2.2.2.2.2.1
theorem dX10_begin_30 : decode cX10_begin 30 = .ok (.getfield 53, 3) := fX10_begin_0.2.2.2.2.2.2.2.2.2.2.2.2.2.2.1
theorem dX10_begin_33 : decode cX10_begin 33 = .ok (.invokevirtual 83, 3) := fX10_begin_0.2.2.2.2.2.2.2.2.2.2.2.2.2.2.2.1
theorem dX10_begin_36 : decode cX10_begin 36 = .ok (.aload_n 0, 1) := fX10_begin_0.2.2.2.2.2.2.2.2.2.2.2.2.2.2.2.2.1
theorem dX10_begin_37 : decode cX10_begin 37 = .ok (.getfield 37, 3) := fX10_begin_0.2.2.2.2.2.2.2.2.2.2.2.2.2.2.2.2.2.1
theorem dX10_begin_40 : decode cX10_begin 40 = .ok (.aload_n 0, 1) := fX10_begin_0.2.2.2.2.2.2.2.2.2.2.2.2.2.2.2.2.2.2.1
theorem dX10_begin_41 : decode cX10_begin 41 = .ok (.getfield 10, 3) := fX10_begin_0.2.2.2.2.2.2.2.2.2.2.2.2.2.2.2.2.2.2.2.1
theorem dX10_begin_44 : decode cX10_begin 44 = .ok (.iload_n 1, 1) := fX10_begin_0.2.2.2.2.2.2.2.2.2.2.2.2.2.2.2.2.2.2.2.2.1
theorem dX10_begin_45 : decode cX10_begin 45 = .ok (.invokevirtual 86, 3) := fX10_begin_0.2.2.2.2.2.2.2.2.2.2.2.2.2.2.2.2.2.2.2.2.2.1
theorem dX10_begin_48 : decode cX10_begin 48 = .ok (.aload_n 0, 1) := fX10_begin_0.2.2.2.2.2.2.2.2.2.2.2.2.2.2.2.2.2.2.2.2.2.2.1
theorem dX10_begin_49 : decode cX10_begin 49 = .ok (.getfield 28, 3) := fX10_begin_0.2.2.2.2.2.2.2.2.2.2.2.2.2.2.2.2.2.2.2.2.2.2.2.1
theorem fX10_begin_52 : DS.Facts cX10_begin 52 [(.getfield 90, 3), (.ireturn, 1)] := DS.facts 52 _ (by decide +kernel) (by decide +kernel)
theorem dX10_begin_52 : decode cX10_begin 52 = .ok (.getfield 90, 3) := fX10_begin_52.1
theorem dX10_begin_55 : decode cX10_begin 55 = .ok (.ireturn, 1) := fX10_begin_52.2.1
set_option maxRecDepth 20000 in
theorem ggX10_stop_X4_isThere : GoodIn wsX10_stop wsX4_isThere := goodIn_r _ [6, 7, 59, 60, 61, 62, 63] (by decide +kernel) (by decide +kernel)
set_option maxRecDepth 20000 in
theorem gX10_stop_X4_isThere : GoodIn wsX10_stop (wsV RX10 64 RX4 yX4_isThere wsX4_isThere) := goodIn_app (goodIn_of _ (by decide +kernel)) ggX10_stop_X4_isThere
set_option maxRecDepth 20000 in
theorem ggX10_stop_X10_endPlay : GoodIn wsX10_stop wsX10_endPlay := goodIn_r _ [12, 1, 13, 14, 15, 16, 5, 17, 7, 18, 19, 20, 21, 22, 23, 24, 25, 26, 27, 28, 29, 30, 31, 32, 33, 34, 35, 36, 37, 38, 39, 40, 41, 42, 43, 44, 45, 46, 47, 48, 49, 50, 51, 52, 53, 54, 55, 56, 57, 58, 59, 60, 61, 62, 63, 64, 65, 66, 67, 68, 69, 70, 71, 72, 73, 74, 75, 76, 77, 78, 79, 80, 81, 82, 83, 84, 85, 86, 87, 88, 89, 90, 91, 92, 93, 94, 95, 96, 97, 98, 99] (by decide +kernel) (by decide +kernel)
set_option maxRecDepth 20000 in
theorem gX10_stop_X10_endPlay : GoodIn wsX10_stop (wsV RX10 61 RX10 yX10_endPlay wsX10_endPlay) := goodIn_app (goodIn_of _ (by decide +kernel)) ggX10_stop_X10_endPlay
theorem fX10_stop_0 : DS.Facts cX10_stop 0 [(.aload_n 0, 1), (.getfield 37, 3), (.invokevirtual 64, 3), (.ifCond .ne 5, 3), (.iconst 0, 1), (.ireturn, 1), (.aload_n 0, 1), (.invokevirtual 61, 3), (.iconst 1, 1), (.ireturn, 1)] := DS.facts 0 _ (by decide +kernel) (by decide +kernel)
theorem dX10_stop_0 : decode cX10_stop 0 = .ok (.aload_n 0, 1) := fX10_stop_0.1
theorem dX10_stop_1 : decode cX10_stop 1 = .ok (.getfield 37, 3) := fX10_stop_0.2.1
theorem dX10_stop_4 : decode cX10_stop 4 = .ok (.invokevirtual 64, 3) := fX10_stop_0.2.2.1
theorem dX10_stop_7 : decode cX10_stop 7 = .ok (.ifCond .ne 5, 3) := fX10_stop_0.2.2.2.1
theorem dX10_stop_10 : decode cX10_stop 10 = .ok (.iconst 0, 1) := fX10_stop_0.2.2.2.2.1
theorem dX10_stop_11 : decode cX10_stop 11 = .ok (.ireturn, 1) := fX10_stop_0.2.2.2.2.2.1
theorem dX10_stop_12 : decode cX10_stop 12 = .ok (.aload_n 0, 1) := fX10_stop_0.2.2.2.2.2.2.1
theorem dX10_stop_13 : decode cX10_stop 13 = .ok (.invokevirtual 61, 3) := fX10_stop_0.2.2.2.2.2.2.2.1
theorem dX10_stop_16 : decode cX10_stop 16 = .ok (.iconst 1, 1) := fX10_stop_0.2.2.2.2.2.2.2.2.1
theorem dX10_stop_17 : decode cX10_stop 17 = .ok (.ireturn, 1) := fX10_stop_0.2.2.2.2.2.2.2.2.2.1
set_option maxRecDepth 20000 in
theorem ggX10_go_X4_tryMove : GoodIn wsX10_go wsX4_tryMove := goodIn_r _ [6, 7, 8, 9, 10, 11, 12, 5, 13, 14, 15, 16, 17, 18, 19, 20, 21, 22, 23, 24, 25, 26, 27, 28, 29, 30, 31, 32, 33, 34, 35, 36, 37, 38, 39, 40, 41, 42, 43, 44, 45, 46, 47, 48, 49, 50, 51, 52, 53, 54, 55, 56, 57, 58, 59, 60, 61, 62, 63, 64, 65, 66, 67, 68, 69, 70, 71, 72, 73, 74, 75, 76, 77, 78, 79, 80, 81, 82, 83, 84, 85, 86, 87, 88, 89, 90, 91, 92, 93, 94, 95, 96, 97, 98, 99, 100, 101, 102, 103, 104, 105, 106, 107, 108, 109, 110, 111, 112, 113, 114, 115, 116, 117, 118, 119, 120, 121, 122, 123, 124, 125, 126, 127, 128, 129, 130, 131, 132, 133, 134, 135, 136, 137, 138, 139, 140, 141, 142, 143, 144, 145, 146, 147, 148, 149, 150, 151, 152, 153, 154, 161, 162, 163, 164, 165, 166, 167, 168, 169, 170, 171, 172, 173, 174, 175, 176, 177, 178, 179, 180, 181, 182, 183, 184, 185, 186, 187, 188, 189, 190, 191, 192, 193, 194, 195, 196] (by decide +kernel) (by decide +kernel)
set_option maxRecDepth 20000 in
theorem gX10_go_X4_tryMove : GoodIn wsX10_go (wsV RX10 94 RX4 yX4_tryMove wsX4_tryMove) := goodIn_app (goodIn_of _ (by decide +kernel)) ggX10_go_X4_tryMove
theorem fX10_go_0 : DS.Facts cX10_go 0 [(.aload_n 0, 1), (.getfield 37, 3), (.iload_n 1, 1), (.iload_n 2, 1), (.iload_n 3, 1), (.invokevirtual 94, 3), (.ireturn, 1)] := DS.facts 0 _ (by decide +kernel) (by decide +kernel)
theorem dX10_go_0 : decode cX10_go 0 = .ok (.aload_n 0, 1) := fX10_go_0.1
theorem dX10_go_1 : decode cX10_go 1 = .ok (.getfield 37, 3) := fX10_go_0.2.1
theorem dX10_go_4 : decode cX10_go 4 = .ok (.iload_n 1, 1) := fX10_go_0.2.2.1
theorem dX10_go_5 : decode cX10_go 5 = .ok (.iload_n 2, 1) := fX10_go_0.2.2.2.1
theorem dX10_go_6 : decode cX10_go 6 = .ok (.iload_n 3, 1) := fX10_go_0.2.2.2.2.1
theorem dX10_go_7 : decode cX10_go 7 = .ok (.invokevirtual 94, 3) := fX10_go_0.2.2.2.2.2.1
theorem dX10_go_10 : decode cX10_go 10 = .ok (.ireturn, 1) := fX10_go_0.2.2.2.2.2.2.1
set_option maxRecDepth 20000 in
theorem ggX10_why_X4_reason : GoodIn wsX10_why wsX4_reason := goodIn_r _ [6, 7, 8, 9, 10, 11, 12, 13, 14, 15, 16, 17, 18, 19, 20, 21, 22, 23, 24, 25, 26, 27, 28, 29, 30, 31, 32, 33, 34, 35, 36, 37, 38, 39, 40, 41, 42, 5, 43, 44, 45, 46, 47, 48, 49, 50, 51, 52, 53, 54, 55, 56, 57, 58, 59, 60, 61, 62, 63, 64, 65, 66, 67, 68, 69, 70, 71, 72, 73, 74, 75, 76, 77, 78, 79, 80, 81, 82, 83, 84, 85, 86, 87, 88, 89, 90, 91, 92, 93, 94, 95, 96, 97, 98, 99, 100, 101, 102, 103, 110, 111, 112, 113, 114, 115, 116, 117, 118, 119, 120, 121, 122, 123, 124, 125, 126, 127, 128, 129, 130, 131, 132, 133, 134, 135, 136, 137, 138, 139, 140, 141, 142, 143, 144, 145] (by decide +kernel) (by decide +kernel)
set_option maxRecDepth 20000 in
theorem gX10_why_X4_reason : GoodIn wsX10_why (wsV RX10 98 RX4 yX4_reason wsX4_reason) := goodIn_app (goodIn_of _ (by decide +kernel)) ggX10_why_X4_reason
theorem fX10_why_0 : DS.Facts cX10_why 0 [(.aload_n 0, 1), (.getfield 37, 3), (.iload_n 1, 1), (.iload_n 2, 1), (.iload_n 3, 1), (.invokevirtual 98, 3), (.ireturn, 1)] := DS.facts 0 _ (by decide +kernel) (by decide +kernel)
theorem dX10_why_0 : decode cX10_why 0 = .ok (.aload_n 0, 1) := fX10_why_0.1
theorem dX10_why_1 : decode cX10_why 1 = .ok (.getfield 37, 3) := fX10_why_0.2.1
theorem dX10_why_4 : decode cX10_why 4 = .ok (.iload_n 1, 1) := fX10_why_0.2.2.1
theorem dX10_why_5 : decode cX10_why 5 = .ok (.iload_n 2, 1) := fX10_why_0.2.2.2.1
theorem dX10_why_6 : decode cX10_why 6 = .ok (.iload_n 3, 1) := fX10_why_0.2.2.2.2.1
theorem dX10_why_7 : decode cX10_why 7 = .ok (.invokevirtual 98, 3) := fX10_why_0.2.2.2.2.2.1
theorem dX10_why_10 : decode cX10_why 10 = .ok (.ireturn, 1) := fX10_why_0.2.2.2.2.2.2.1
set_option maxRecDepth 20000 in
theorem ggX10_about_X4_sideOnTurn : GoodIn wsX10_about wsX4_sideOnTurn := goodIn_r _ [8, 9, 10, 42, 43, 44, 45, 46, 68, 69, 70] (by decide +kernel) (by decide +kernel)
set_option maxRecDepth 20000 in
theorem gX10_about_X4_sideOnTurn : GoodIn wsX10_about (wsV RX10 104 RX4 yX4_sideOnTurn wsX4_sideOnTurn) := goodIn_app (goodIn_of _ (by decide +kernel)) ggX10_about_X4_sideOnTurn
set_option maxRecDepth 20000 in
theorem ggX10_about_X4_lost : GoodIn wsX10_about wsX4_lost := goodIn_r _ [14, 15, 10, 16, 17, 18, 19, 20, 21, 42, 43, 44, 45, 46, 47, 48, 49, 50, 51, 52, 53, 54, 55, 68, 69, 70] (by decide +kernel) (by decide +kernel)
set_option maxRecDepth 20000 in
theorem gX10_about_X4_lost : GoodIn wsX10_about (wsV RX10 108 RX4 yX4_lost wsX4_lost) := goodIn_app (goodIn_of _ (by decide +kernel)) ggX10_about_X4_lost
set_option maxRecDepth 20000 in
theorem ggX10_about_X9_size : GoodIn wsX10_about wsX9_size := goodIn_r _ [26, 27, 28, 65, 66, 67] (by decide +kernel) (by decide +kernel)
set_option maxRecDepth 20000 in
theorem gX10_about_X9_size : GoodIn wsX10_about (wsV RX10 120 RX9 yX9_size wsX9_size) := goodIn_app (goodIn_of _ (by decide +kernel)) ggX10_about_X9_size
set_option maxRecDepth 20000 in
theorem ggX10_about_X3_latestTakings : GoodIn wsX10_about wsX3_latestTakings := goodIn_r _ [33, 34, 35, 56, 57, 58, 59, 60, 61, 62, 63, 64] (by decide +kernel) (by decide +kernel)
set_option maxRecDepth 20000 in
theorem gX10_about_X3_latestTakings : GoodIn wsX10_about (wsV RX10 129 RX3 yX3_latestTakings wsX3_latestTakings) := goodIn_app (goodIn_of _ (by decide +kernel)) ggX10_about_X3_latestTakings
theorem fX10_about_0 : DS.Facts cX10_about 0 [(.iload_n 1, 1), (.tableswitch 143 0 8 #[51, 59, 67, 75, 83, 94, 102, 124, 132], 51), (.aload_n 0, 1), (.getfield 37, 3), (.getfield 101, 3), (.ireturn, 1), (.aload_n 0, 1), (.getfield 37, 3), (.invokevirtual 104, 3), (.ireturn, 1), (.aload_n 0, 1), (.getfield 28, 3), (.getfield 90, 3), (.ireturn, 1), (.aload_n 0, 1), (.getfield 37, 3), (.invokevirtual 108, 3), (.ireturn, 1), (.aload_n 0, 1), (.getfield 37, 3), (.getfield 111, 3), (.getfield 115, 3), (.ireturn, 1), (.aload_n 0, 1)] := DS.facts 0 _ (by decide +kernel) (by decide +kernel)
theorem dX10_about_0 : decode cX10_about 0 = .ok (.iload_n 1, 1) := fX10_about_0.1
theorem dX10_about_1 : decode cX10_about 1 = .ok (.tableswitch 143 0 8 #[51, 59, 67, 75, 83, 94, 102, 124, 132], 51) := fX10_about_0.2.1
theorem dX10_about_52 : decode cX10_about 52 = .ok (.aload_n 0, 1) := fX10_about_0.2.2.1
theorem dX10_about_53 : decode cX10_about 53 = .ok (.getfield 37, 3) := fX10_about_0.2.2.2.1
theorem dX10_about_56 : decode cX10_about 56 = .ok (.getfield 101, 3) := fX10_about_0.2.2.2.2.1
theorem dX10_about_59 : decode cX10_about 59 = .ok (.ireturn, 1) := fX10_about_0.2.2.2.2.2.1
theorem dX10_about_60 : decode cX10_about 60 = .ok (.aload_n 0, 1) := fX10_about_0.2.2.2.2.2.2.1
theorem dX10_about_61 : decode cX10_about 61 = .ok (.getfield 37, 3) := fX10_about_0.2.2.2.2.2.2.2.1
theorem dX10_about_64 : decode cX10_about 64 = .ok (.invokevirtual 104, 3) := fX10_about_0.2.2.2.2.2.2.2.2.1
theorem dX10_about_67 : decode cX10_about 67 = .ok (.ireturn, 1) := fX10_about_0.2.2.2.2.2.2.2.2.2.1
theorem dX10_about_68 : decode cX10_about 68 = .ok (.aload_n 0, 1) := fX10_about_0.2.2.2.2.2.2.2.2.2.2.1
theorem dX10_about_69 : decode cX10_about 69 = .ok (.getfield 28, 3) := fX10_about_0.2.2.2.2.2.2.2.2.2.2.2.1
theorem dX10_about_72 : decode cX10_about 72 = .ok (.getfield 90, 3) := fX10_about_0.2.2.2.2.2.2.2.2.2.2.2.2.1
theorem dX10_about_75 : decode cX10_about 75 = .ok (.ireturn, 1) := fX10_about_0.2.2.2.2.2.2.2.2.2.2.2.2.2.1
theorem dX10_about_76 : decode cX10_about 76 = .ok (.aload_n 0, 1) := fX10_about_0.2.2.2.2.2.2.2.2.2.2.2.2.2.2.1
theorem dX10_about_77 : decode cX10_about 77 = .ok (.getfield 37, 3) := fX10_about_0.2.2.2.2.2.2.2.2.2.2.2.2.2.2.2.1
theorem dX10_about_80 : decode cX10_about 80 = .ok (.invokevirtual 108, 3) := fX10_about_0.2.2.2.2.2.2.2.2.2.2.2.2.2.2.2.2.1
theorem dX10_about_83 : decode cX10_about 83 = .ok (.ireturn, 1) := fX10_about_0.2.2.2.2.2.2.2.2.2.2.2.2.2.2.2.2.2.1
theorem dX10_about_84 : decode cX10_about 84 = .ok (.aload_n 0, 1) := fX10_about_0.2.2.2.2.2.2.2.2.2.2.2.2.2.2.2.2.2.2.1
theorem dX10_about_85 : decode cX10_about 85 = .ok (.getfield 37, 3) := fX10_about_0.2.2.2.2.2.2.2.2.2.2.2.2.2.2.2.2.2.2.2.1
theorem dX10_about_88 : decode cX10_about 88 = .ok (.getfield 111, 3) := fX10_about_0.2.2.2.2.2.2.2.2.2.2.2.2.2.2.2.2.2.2.2.2.1
theorem dX10_about_91 : decode cX10_about 91 = .ok (.getfield 115, 3) := fX10_about_0.2.2.2.2.2.2.2.2.2.2.2.2.2.2.2.2.2.2.2.2.2.1
theorem dX10_about_94 : decode cX10_about 94 = .ok (.ireturn, 1) := fX10_about_0.2.2.2.2.2.2.2.2.2.2.2.2.2.2.2.2.2.2.2.2.2.2.1
theorem dX10_about_95 : decode cX10_about 95 = .ok (.aload_n 0, 1) := fX10_about_0.2.2.2.2.2.2.2.2.2.2.2.2.2.2.2.2.2.2.2.2.2.2.2.1
theorem fX10_about_96 : DS.Facts cX10_about 96 [(.getfield 10, 3), (.invokevirtual 120, 3), (.ireturn, 1), (.aload_n 0, 1), (.getfield 37, 3), (.getfield 111, 3), (.getfield 123, 3), (.aload_n 0, 1), (.getfield 37, 3), (.getfield 111, 3), (.getfield 115, 3), (.isub, 1), (.ireturn, 1), (.aload_n 0, 1), (.getfield 10, 3), (.getfield 126, 3), (.ireturn, 1), (.aload_n 0, 1), (.getfield 37, 3), (.getfield 111, 3), (.invokevirtual 129, 3), (.ireturn, 1), (.iconst (-1), 1), (.ireturn, 1)] := DS.facts 96 _ (by decide +kernel) (by decide +kernel)
theorem dX10_about_96 : decode cX10_about 96 = .ok (.getfield 10, 3) := fX10_about_96.1
theorem dX10_about_99 : decode cX10_about 99 = .ok (.invokevirtual 120, 3) := fX10_about_96.2.1
theorem dX10_about_102 : decode cX10_about 102 = .ok (.ireturn, 1) := fX10_about_96.2.2.1
theorem dX10_about_103 : decode cX10_about 103 = .ok (.aload_n 0, 1) := fX10_about_96.2.2.2.1
theorem dX10_about_104 : decode cX10_about 104 = .ok (.getfield 37, 3) := fX10_about_96.2.2.2.2.1
theorem dX10_about_107 : decode cX10_about 107 = .ok (.getfield 111, 3) := fX10_about_96.2.2.2.2.2.1
theorem dX10_about_110 : decode cX10_about 110 = .ok (.getfield 123, 3) := fX10_about_96.2.2.2.2.2.2.1
theorem dX10_about_113 : decode cX10_about 113 = .ok (.aload_n 0, 1) := fX10_about_96.2.2.2.2.2.2.2.1
theorem dX10_about_114 : decode cX10_about 114 = .ok (.getfield 37, 3) := fX10_about_96.2.2.2.2.2.2.2.2.1
theorem dX10_about_117 : decode cX10_about 117 = .ok (.getfield 111, 3) := fX10_about_96.2.2.2.2.2.2.2.2.2.1
theorem dX10_about_120 : decode cX10_about 120 = .ok (.getfield 115, 3) := fX10_about_96.2.2.2.2.2.2.2.2.2.2.1
theorem dX10_about_123 : decode cX10_about 123 = .ok (.isub, 1) := fX10_about_96.2.2.2.2.2.2.2.2.2.2.2.1
theorem dX10_about_124 : decode cX10_about 124 = .ok (.ireturn, 1) := fX10_about_96.2.2.2.2.2.2.2.2.2.2.2.2.1
theorem dX10_about_125 : decode cX10_about 125 = .ok (.aload_n 0, 1) := fX10_about_96.2.2.2.2.2.2.2.2.2.2.2.2.2.1
theorem dX10_about_126 : decode cX10_about 126 = .ok (.getfield 10, 3) := fX10_about_96.2.2.2.2.2.2.2.2.2.2.2.2.2.2.1
theorem dX10_about_129 : decode cX10_about 129 = .ok (.getfield 126, 3) := fX10_about_96.2.2.2.2.2.2.2.2.2.2.2.2.2.2.2.1
theorem dX10_about_132 : decode cX10_about 132 = .ok (.ireturn, 1) := fX10_about_96.2.2.2.2.2.2.2.2.2.2.2.2.2.2.2.2.1
theorem dX10_about_133 : decode cX10_about 133 = .ok (.aload_n 0, 1) := fX10_about_96.2.2.2.2.2.2.2.2.2.2.2.2.2.2.2.2.2.1
theorem dX10_about_134 : decode cX10_about 134 = .ok (.getfield 37, 3) := fX10_about_96.2.2.2.2.2.2.2.2.2.2.2.2.2.2.2.2.2.2.1
theorem dX10_about_137 : decode cX10_about 137 = .ok (.getfield 111, 3) := fX10_about_96.2.2.2.2.2.2.2.2.2.2.2.2.2.2.2.2.2.2.2.1
theorem dX10_about_140 : decode cX10_about 140 = .ok (.invokevirtual 129, 3) := fX10_about_96.2.2.2.2.2.2.2.2.2.2.2.2.2.2.2.2.2.2.2.2.1
theorem dX10_about_143 : decode cX10_about 143 = .ok (.ireturn, 1) := fX10_about_96.2.2.2.2.2.2.2.2.2.2.2.2.2.2.2.2.2.2.2.2.2.1
theorem dX10_about_144 : decode cX10_about 144 = .ok (.iconst (-1), 1) := fX10_about_96.2.2.2.2.2.2.2.2.2.2.2.2.2.2.2.2.2.2.2.2.2.2.1
theorem dX10_about_145 : decode cX10_about 145 = .ok (.ireturn, 1) := fX10_about_96.2.2.2.2.2.2.2.2.2.2.2.2.2.2.2.2.2.2.2.2.2.2.2.1
set_option maxRecDepth 20000 in
theorem ggX10_piece_X6_isPiece : GoodIn wsX10_piece wsX6_isPiece := goodIn_r _ [7, 8, 62, 63, 64, 65, 66, 67, 68, 69, 70] (by decide +kernel) (by decide +kernel)
set_option maxRecDepth 20000 in
theorem gX10_piece_X6_isPiece : GoodIn wsX10_piece (wsV RX10 132 RX6 yX6_isPiece wsX6_isPiece) := goodIn_app (goodIn_of _ (by decide +kernel)) ggX10_piece_X6_isPiece
set_option maxRecDepth 20000 in
theorem ggX10_piece_X8_fieldOf : GoodIn wsX10_piece wsX8_fieldOf := goodIn_r _ [13, 14, 76, 77, 78] (by decide +kernel) (by decide +kernel)
set_option maxRecDepth 20000 in
theorem gX10_piece_X8_fieldOf : GoodIn wsX10_piece (wsV RX10 143 RX8 yX8_fieldOf wsX8_fieldOf) := goodIn_app (goodIn_of _ (by decide +kernel)) ggX10_piece_X8_fieldOf
set_option maxRecDepth 20000 in
theorem ggX10_piece_X4_movesOf : GoodIn wsX10_piece wsX4_movesOf := goodIn_r _ [19, 20, 21, 22, 4, 5, 6, 7, 8, 23, 24, 25, 18, 26, 27, 28, 29, 30, 31, 32, 33, 34, 35, 36, 37, 38, 39, 10, 11, 12, 13, 14, 40, 41, 42, 43, 44, 45, 46, 47, 48, 49, 50, 51, 52, 53, 54, 55, 71, 72, 73, 74, 75, 62, 63, 64, 65, 66, 67, 68, 69, 70, 76, 77, 78, 79, 80, 81, 82, 83, 84, 85, 86, 87, 88] (by decide +kernel) (by decide +kernel)
set_option maxRecDepth 20000 in
theorem gX10_piece_X4_movesOf : GoodIn wsX10_piece (wsV RX10 149 RX4 yX4_movesOf wsX4_movesOf) := goodIn_app (goodIn_of _ (by decide +kernel)) ggX10_piece_X4_movesOf
theorem fX10_piece_0 : DS.Facts cX10_piece 0 [(.aload_n 0, 1), (.getfield 28, 3), (.iload_n 1, 1), (.invokevirtual 132, 3), (.ifCond .ne 5, 3), (.iconst (-1), 1), (.ireturn, 1), (.iload_n 2, 1), (.tableswitch 79 0 3 #[30, 40, 52, 61], 30), (.aload_n 0, 1), (.getfield 28, 3), (.getfield 135, 3), (.iload_n 1, 1), (.iaload, 1), (.ireturn, 1), (.aload_n 0, 1), (.getfield 37, 3), (.getfield 139, 3), (.iload_n 1, 1), (.invokevirtual 143, 3), (.ireturn, 1), (.aload_n 0, 1), (.getfield 37, 3), (.iload_n 1, 1)] := DS.facts 0 _ (by decide +kernel) (by decide +kernel)
theorem dX10_piece_0 : decode cX10_piece 0 = .ok (.aload_n 0, 1) := fX10_piece_0.1
theorem dX10_piece_1 : decode cX10_piece 1 = .ok (.getfield 28, 3) := fX10_piece_0.2.1
theorem dX10_piece_4 : decode cX10_piece 4 = .ok (.iload_n 1, 1) := fX10_piece_0.2.2.1
theorem dX10_piece_5 : decode cX10_piece 5 = .ok (.invokevirtual 132, 3) := fX10_piece_0.2.2.2.1
theorem dX10_piece_8 : decode cX10_piece 8 = .ok (.ifCond .ne 5, 3) := fX10_piece_0.2.2.2.2.1
theorem dX10_piece_11 : decode cX10_piece 11 = .ok (.iconst (-1), 1) := fX10_piece_0.2.2.2.2.2.1
theorem dX10_piece_12 : decode cX10_piece 12 = .ok (.ireturn, 1) := fX10_piece_0.2.2.2.2.2.2.1
theorem dX10_piece_13 : decode cX10_piece 13 = .ok (.iload_n 2, 1) := fX10_piece_0.2.2.2.2.2.2.2.1
theorem dX10_piece_14 : decode cX10_piece 14 = .ok (.tableswitch 79 0 3 #[30, 40, 52, 61], 30) := fX10_piece_0.2.2.2.2.2.2.2.2.1
theorem dX10_piece_44 : decode cX10_piece 44 = .ok (.aload_n 0, 1) := fX10_piece_0.2.2.2.2.2.2.2.2.2.1
theorem dX10_piece_45 : decode cX10_piece 45 = .ok (.getfield 28, 3) := fX10_piece_0.2.2.2.2.2.2.2.2.2.2.1
theorem dX10_piece_48 : decode cX10_piece 48 = .ok (.getfield 135, 3) := fX10_piece_0.2.2.2.2.2.2.2.2.2.2.2.1
theorem dX10_piece_51 : decode cX10_piece 51 = .ok (.iload_n 1, 1) := fX10_piece_0.2.2.2.2.2.2.2.2.2.2.2.2.1
theorem dX10_piece_52 : decode cX10_piece 52 = .ok (.iaload, 1) := fX10_piece_0.2.2.2.2.2.2.2.2.2.2.2.2.2.1
theorem dX10_piece_53 : decode cX10_piece 53 = .ok (.ireturn, 1) := fX10_piece_0.2.2.2.2.2.2.2.2.2.2.2.2.2.2.1
theorem dX10_piece_54 : decode cX10_piece 54 = .ok (.aload_n 0, 1) := fX10_piece_0.2.2.2.2.2.2.2.2.2.2.2.2.2.2.2.1
theorem dX10_piece_55 : decode cX10_piece 55 = .ok (.getfield 37, 3) := fX10_piece_0.2.2.2.2.2.2.2.2.2.2.2.2.2.2.2.2.1
theorem dX10_piece_58 : decode cX10_piece 58 = .ok (.getfield 139, 3) := fX10_piece_0.2.2.2.2.2.2.2.2.2.2.2.2.2.2.2.2.2.1
theorem dX10_piece_61 : decode cX10_piece 61 = .ok (.iload_n 1, 1) := fX10_piece_0.2.2.2.2.2.2.2.2.2.2.2.2.2.2.2.2.2.2.1
theorem dX10_piece_62 : decode cX10_piece 62 = .ok (.invokevirtual 143, 3) := fX10_piece_0.2.2.2.2.2.2.2.2.2.2.2.2.2.2.2.2.2.2.2.1
theorem dX10_piece_65 : decode cX10_piece 65 = .ok (.ireturn, 1) := fX10_piece_0.2.2.2.2.2.2.2.2.2.2.2.2.2.2.2.2.2.2.2.2.1
theorem dX10_piece_66 : decode cX10_piece 66 = .ok (.aload_n 0, 1) := fX10_piece_0.2.2.2.2.2.2.2.2.2.2.2.2.2.2.2.2.2.2.2.2.2.1
theorem dX10_piece_67 : decode cX10_piece 67 = .ok (.getfield 37, 3) := fX10_piece_0.2.2.2.2.2.2.2.2.2.2.2.2.2.2.2.2.2.2.2.2.2.2.1
theorem dX10_piece_70 : decode cX10_piece 70 = .ok (.iload_n 1, 1) := fX10_piece_0.2.2.2.2.2.2.2.2.2.2.2.2.2.2.2.2.2.2.2.2.2.2.2.1
theorem fX10_piece_71 : DS.Facts cX10_piece 71 [(.invokevirtual 149, 3), (.ireturn, 1), (.aload_n 0, 1), (.getfield 28, 3), (.getfield 152, 3), (.iload_n 1, 1), (.baload, 1), (.ifCond .eq 7, 3), (.iconst 1, 1), (.goto 4, 3), (.iconst 0, 1), (.ireturn, 1), (.iconst (-1), 1), (.ireturn, 1)] := DS.facts 71 _ (by decide +kernel) (by decide +kernel)
theorem dX10_piece_71 : decode cX10_piece 71 = .ok (.invokevirtual 149, 3) := fX10_piece_71.1
theorem dX10_piece_74 : decode cX10_piece 74 = .ok (.ireturn, 1) := fX10_piece_71.2.1
theorem dX10_piece_75 : decode cX10_piece 75 = .ok (.aload_n 0, 1) := fX10_piece_71.2.2.1
theorem dX10_piece_76 : decode cX10_piece 76 = .ok (.getfield 28, 3) := fX10_piece_71.2.2.2.1
theorem dX10_piece_79 : decode cX10_piece 79 = .ok (.getfield 152, 3) := fX10_piece_71.2.2.2.2.1
theorem dX10_piece_82 : decode cX10_piece 82 = .ok (.iload_n 1, 1) := fX10_piece_71.2.2.2.2.2.1
theorem dX10_piece_83 : decode cX10_piece 83 = .ok (.baload, 1) := fX10_piece_71.2.2.2.2.2.2.1
theorem dX10_piece_84 : decode cX10_piece 84 = .ok (.ifCond .eq 7, 3) := fX10_piece_71.2.2.2.2.2.2.2.1
theorem dX10_piece_87 : decode cX10_piece 87 = .ok (.iconst 1, 1) := fX10_piece_71.2.2.2.2.2.2.2.2.1
theorem dX10_piece_88 : decode cX10_piece 88 = .ok (.goto 4, 3) := fX10_piece_71.2.2.2.2.2.2.2.2.2.1
theorem dX10_piece_91 : decode cX10_piece 91 = .ok (.iconst 0, 1) := fX10_piece_71.2.2.2.2.2.2.2.2.2.2.1
theorem dX10_piece_92 : decode cX10_piece 92 = .ok (.ireturn, 1) := fX10_piece_71.2.2.2.2.2.2.2.2.2.2.2.1
theorem dX10_piece_93 : decode cX10_piece 93 = .ok (.iconst (-1), 1) := fX10_piece_71.2.2.2.2.2.2.2.2.2.2.2.2.1
theorem dX10_piece_94 : decode cX10_piece 94 = .ok (.ireturn, 1) := fX10_piece_71.2.2.2.2.2.2.2.2.2.2.2.2.2.1
set_option maxRecDepth 20000 in
theorem ggX10_on_X8_holderOf : GoodIn wsX10_on wsX8_holderOf := goodIn_r _ [6, 7, 19, 20, 21] (by decide +kernel) (by decide +kernel)
set_option maxRecDepth 20000 in
theorem gX10_on_X8_holderOf : GoodIn wsX10_on (wsV RX10 156 RX8 yX8_holderOf wsX8_holderOf) := goodIn_app (goodIn_of _ (by decide +kernel)) ggX10_on_X8_holderOf
theorem fX10_on_0 : DS.Facts cX10_on 0 [(.aload_n 0, 1), (.getfield 37, 3), (.getfield 139, 3), (.iload_n 1, 1), (.invokevirtual 156, 3), (.ireturn, 1)] := DS.facts 0 _ (by decide +kernel) (by decide +kernel)
theorem dX10_on_0 : decode cX10_on 0 = .ok (.aload_n 0, 1) := fX10_on_0.1
theorem dX10_on_1 : decode cX10_on 1 = .ok (.getfield 37, 3) := fX10_on_0.2.1
theorem dX10_on_4 : decode cX10_on 4 = .ok (.getfield 139, 3) := fX10_on_0.2.2.1
theorem dX10_on_7 : decode cX10_on 7 = .ok (.iload_n 1, 1) := fX10_on_0.2.2.2.1
theorem dX10_on_8 : decode cX10_on 8 = .ok (.invokevirtual 156, 3) := fX10_on_0.2.2.2.2.1
theorem dX10_on_11 : decode cX10_on 11 = .ok (.ireturn, 1) := fX10_on_0.2.2.2.2.2.1
set_option maxRecDepth 20000 in
theorem ggX10_field_X4_isThere : GoodIn wsX10_field wsX4_isThere := goodIn_r _ [8, 9, 37, 38, 39, 40, 41] (by decide +kernel) (by decide +kernel)
set_option maxRecDepth 20000 in
theorem gX10_field_X4_isThere : GoodIn wsX10_field (wsV RX10 64 RX4 yX4_isThere wsX4_isThere) := goodIn_app (goodIn_of _ (by decide +kernel)) ggX10_field_X4_isThere
set_option maxRecDepth 20000 in
theorem ggX10_field_X9_size : GoodIn wsX10_field wsX9_size := goodIn_r _ [14, 15, 16, 42, 43, 44] (by decide +kernel) (by decide +kernel)
set_option maxRecDepth 20000 in
theorem gX10_field_X9_size : GoodIn wsX10_field (wsV RX10 120 RX9 yX9_size wsX9_size) := goodIn_app (goodIn_of _ (by decide +kernel)) ggX10_field_X9_size
theorem fX10_field_0 : DS.Facts cX10_field 0 [(.aload_n 0, 1), (.getfield 37, 3), (.invokevirtual 64, 3), (.ifCond .eq 18, 3), (.iload_n 1, 1), (.ifCond .lt 14, 3), (.iload_n 1, 1), (.aload_n 0, 1), (.getfield 10, 3), (.invokevirtual 120, 3), (.if_icmp .lt 5, 3), (.iconst (-1), 1), (.ireturn, 1), (.aload_n 0, 1), (.getfield 28, 3), (.getfield 159, 3), (.getfield 163, 3), (.iload_n 1, 1), (.iaload, 1), (.aload_n 0, 1), (.getfield 28, 3), (.getfield 159, 3), (.getfield 168, 3), (.iload_n 1, 1)] := DS.facts 0 _ (by decide +kernel) (by decide +kernel)
theorem dX10_field_0 : decode cX10_field 0 = .ok (.aload_n 0, 1) := fX10_field_0.1
theorem dX10_field_1 : decode cX10_field 1 = .ok (.getfield 37, 3) := fX10_field_0.2.1
theorem dX10_field_4 : decode cX10_field 4 = .ok (.invokevirtual 64, 3) := fX10_field_0.2.2.1
theorem dX10_field_7 : decode cX10_field 7 = .ok (.ifCond .eq 18, 3) := fX10_field_0.2.2.2.1
theorem dX10_field_10 : decode cX10_field 10 = .ok (.iload_n 1, 1) := fX10_field_0.2.2.2.2.1
theorem dX10_field_11 : decode cX10_field 11 = .ok (.ifCond .lt 14, 3) := fX10_field_0.2.2.2.2.2.1
theorem dX10_field_14 : decode cX10_field 14 = .ok (.iload_n 1, 1) := fX10_field_0.2.2.2.2.2.2.1
theorem dX10_field_15 : decode cX10_field 15 = .ok (.aload_n 0, 1) := fX10_field_0.2.2.2.2.2.2.2.1
theorem dX10_field_16 : decode cX10_field 16 = .ok (.getfield 10, 3) := fX10_field_0.2.2.2.2.2.2.2.2.1
theorem dX10_field_19 : decode cX10_field 19 = .ok (.invokevirtual 120, 3) := fX10_field_0.2.2.2.2.2.2.2.2.2.1
theorem dX10_field_22 : decode cX10_field 22 = .ok (.if_icmp .lt 5, 3) := fX10_field_0.2.2.2.2.2.2.2.2.2.2.1
theorem dX10_field_25 : decode cX10_field 25 = .ok (.iconst (-1), 1) := fX10_field_0.2.2.2.2.2.2.2.2.2.2.2.1
theorem dX10_field_26 : decode cX10_field 26 = .ok (.ireturn, 1) := fX10_field_0.2.2.2.2.2.2.2.2.2.2.2.2.1
theorem dX10_field_27 : decode cX10_field 27 = .ok (.aload_n 0, 1) := fX10_field_0.2.2.2.2.2.2.2.2.2.2.2.2.2.1
theorem dX10_field_28 : decode cX10_field 28 = .ok (.getfield 28, 3) := fX10_field_0.2.2.2.2.2.2.2.2.2.2.2.2.2.2.1
theorem dX10_field_31 : decode cX10_field 31 = .ok (.getfield 159, 3) := fX10_field_0.2.2.2.2.2.2.2.2.2.2.2.2.2.2.2.1
theorem dX10_field_34 : decode cX10_field 34 = .ok (.getfield 163, 3) := fX10_field_0.2.2.2.2.2.2.2.2.2.2.2.2.2.2.2.2.1
theorem dX10_field_37 : decode cX10_field 37 = .ok (.iload_n 1, 1) := fX10_field_0.2.2.2.2.2.2.2.2.2.2.2.2.2.2.2.2.2.1
theorem dX10_field_38 : decode cX10_field 38 = .ok (.iaload, 1) := fX10_field_0.2.2.2.2.2.2.2.2.2.2.2.2.2.2.2.2.2.2.1
theorem dX10_field_39 : decode cX10_field 39 = .ok (.aload_n 0, 1) := fX10_field_0.2.2.2.2.2.2.2.2.2.2.2.2.2.2.2.2.2.2.2.1
theorem dX10_field_40 : decode cX10_field 40 = .ok (.getfield 28, 3) := fX10_field_0.2.2.2.2.2.2.2.2.2.2.2.2.2.2.2.2.2.2.2.2.1
theorem dX10_field_43 : decode cX10_field 43 = .ok (.getfield 159, 3) := fX10_field_0.2.2.2.2.2.2.2.2.2.2.2.2.2.2.2.2.2.2.2.2.2.1
theorem dX10_field_46 : decode cX10_field 46 = .ok (.getfield 168, 3) := fX10_field_0.2.2.2.2.2.2.2.2.2.2.2.2.2.2.2.2.2.2.2.2.2.2.1
theorem dX10_field_49 : decode cX10_field 49 = .ok (.iload_n 1, 1) := fX10_field_0.2.2.2.2.2.2.2.2.2.2.2.2.2.2.2.2.2.2.2.2.2.2.2.1
theorem fX10_field_50 : DS.Facts cX10_field 50 [(.baload, 1), (.ifCond .eq 7, 3), (.iconst 4, 1), (.goto 4, 3), (.iconst 0, 1), (.iadd, 1), (.ireturn, 1)] := DS.facts 50 _ (by decide +kernel) (by decide +kernel)
theorem dX10_field_50 : decode cX10_field 50 = .ok (.baload, 1) := fX10_field_50.1
theorem dX10_field_51 : decode cX10_field 51 = .ok (.ifCond .eq 7, 3) := fX10_field_50.2.1
theorem dX10_field_54 : decode cX10_field 54 = .ok (.iconst 4, 1) := fX10_field_50.2.2.1
theorem dX10_field_55 : decode cX10_field 55 = .ok (.goto 4, 3) := fX10_field_50.2.2.2.1
theorem dX10_field_58 : decode cX10_field 58 = .ok (.iconst 0, 1) := fX10_field_50.2.2.2.2.1
theorem dX10_field_59 : decode cX10_field 59 = .ok (.iadd, 1) := fX10_field_50.2.2.2.2.2.1
theorem dX10_field_60 : decode cX10_field 60 = .ok (.ireturn, 1) := fX10_field_50.2.2.2.2.2.2.1
set_option maxRecDepth 20000 in
theorem ggX10_took_X3_latestVictim : GoodIn wsX10_took wsX3_latestVictim := goodIn_r _ [6, 7, 8, 9, 21, 22, 23, 24, 25, 26, 27, 28, 29] (by decide +kernel) (by decide +kernel)
set_option maxRecDepth 20000 in
theorem gX10_took_X3_latestVictim : GoodIn wsX10_took (wsV RX10 171 RX3 yX3_latestVictim wsX3_latestVictim) := goodIn_app (goodIn_of _ (by decide +kernel)) ggX10_took_X3_latestVictim
theorem fX10_took_0 : DS.Facts cX10_took 0 [(.aload_n 0, 1), (.getfield 37, 3), (.getfield 111, 3), (.iload_n 1, 1), (.invokevirtual 171, 3), (.ireturn, 1)] := DS.facts 0 _ (by decide +kernel) (by decide +kernel)
theorem dX10_took_0 : decode cX10_took 0 = .ok (.aload_n 0, 1) := fX10_took_0.1
theorem dX10_took_1 : decode cX10_took 1 = .ok (.getfield 37, 3) := fX10_took_0.2.1
theorem dX10_took_4 : decode cX10_took 4 = .ok (.getfield 111, 3) := fX10_took_0.2.2.1
theorem dX10_took_7 : decode cX10_took 7 = .ok (.iload_n 1, 1) := fX10_took_0.2.2.2.1
theorem dX10_took_8 : decode cX10_took 8 = .ok (.invokevirtual 171, 3) := fX10_took_0.2.2.2.2.1
theorem dX10_took_11 : decode cX10_took 11 = .ok (.ireturn, 1) := fX10_took_0.2.2.2.2.2.1
set_option maxRecDepth 20000 in
theorem ggX10_ring_X5_holds : GoodIn wsX10_ring wsX5_holds := goodIn_r _ [7, 8, 9, 10, 11, 12, 13, 14, 15, 16, 17, 18, 19, 20, 21, 22, 23, 24, 25, 26, 27, 28, 29, 30, 31, 32, 6, 33, 34, 35, 36, 37, 38, 39, 40, 41, 42, 43, 55, 56, 57, 58, 59, 60, 61, 62, 63, 64, 65, 66, 67, 68, 69, 70, 71, 72, 73, 74] (by decide +kernel) (by decide +kernel)
set_option maxRecDepth 20000 in
theorem gX10_ring_X5_holds : GoodIn wsX10_ring (wsV RX10 174 RX5 yX5_holds wsX5_holds) := goodIn_app (goodIn_of _ (by decide +kernel)) ggX10_ring_X5_holds
theorem fX10_ring_0 : DS.Facts cX10_ring 0 [(.aload_n 0, 1), (.getfield 46, 3), (.aload_n 0, 1), (.getfield 37, 3), (.getfield 139, 3), (.iconst (-1), 1), (.invokevirtual 174, 3), (.ireturn, 1)] := DS.facts 0 _ (by decide +kernel) (by decide +kernel)
theorem dX10_ring_0 : decode cX10_ring 0 = .ok (.aload_n 0, 1) := fX10_ring_0.1
theorem dX10_ring_1 : decode cX10_ring 1 = .ok (.getfield 46, 3) := fX10_ring_0.2.1
theorem dX10_ring_4 : decode cX10_ring 4 = .ok (.aload_n 0, 1) := fX10_ring_0.2.2.1
theorem dX10_ring_5 : decode cX10_ring 5 = .ok (.getfield 37, 3) := fX10_ring_0.2.2.2.1
theorem dX10_ring_8 : decode cX10_ring 8 = .ok (.getfield 139, 3) := fX10_ring_0.2.2.2.2.1
theorem dX10_ring_11 : decode cX10_ring 11 = .ok (.iconst (-1), 1) := fX10_ring_0.2.2.2.2.2.1
theorem dX10_ring_12 : decode cX10_ring 12 = .ok (.invokevirtual 174, 3) := fX10_ring_0.2.2.2.2.2.2.1
theorem dX10_ring_15 : decode cX10_ring 15 = .ok (.ireturn, 1) := fX10_ring_0.2.2.2.2.2.2.2.1
set_option maxRecDepth 20000 in
theorem ggX10_needed_X6_isPiece : GoodIn wsX10_needed wsX6_isPiece := goodIn_r _ [8, 9, 52, 53, 54, 55, 56, 57, 58, 59, 60] (by decide +kernel) (by decide +kernel)
set_option maxRecDepth 20000 in
theorem gX10_needed_X6_isPiece : GoodIn wsX10_needed (wsV RX10 132 RX6 yX6_isPiece wsX6_isPiece) := goodIn_app (goodIn_of _ (by decide +kernel)) ggX10_needed_X6_isPiece
set_option maxRecDepth 20000 in
theorem ggX10_needed_X5_holds : GoodIn wsX10_needed wsX5_holds := goodIn_r _ [14, 15, 16, 17, 18, 19, 20, 21, 22, 23, 24, 25, 26, 7, 27, 28, 29, 30, 31, 32, 33, 34, 35, 36, 37, 38, 13, 39, 40, 41, 42, 43, 44, 45, 5, 6, 8, 9, 66, 67, 68, 52, 53, 54, 55, 56, 57, 58, 59, 60, 69, 70, 71, 72, 73, 74, 75, 76] (by decide +kernel) (by decide +kernel)
set_option maxRecDepth 20000 in
theorem gX10_needed_X5_holds : GoodIn wsX10_needed (wsV RX10 174 RX5 yX5_holds wsX5_holds) := goodIn_app (goodIn_of _ (by decide +kernel)) ggX10_needed_X5_holds
theorem fX10_needed_0 : DS.Facts cX10_needed 0 [(.aload_n 0, 1), (.getfield 28, 3), (.iload_n 1, 1), (.invokevirtual 132, 3), (.ifCond .eq 56, 3), (.aload_n 0, 1), (.getfield 28, 3), (.getfield 178, 3), (.iload_n 1, 1), (.iaload, 1), (.iconst 1, 1), (.if_icmp .ne 43, 3), (.aload_n 0, 1), (.getfield 46, 3), (.aload_n 0, 1), (.getfield 37, 3), (.getfield 139, 3), (.iconst (-1), 1), (.invokevirtual 174, 3), (.ifCond .eq 25, 3), (.aload_n 0, 1), (.getfield 46, 3), (.aload_n 0, 1), (.getfield 37, 3)] := DS.facts 0 _ (by decide +kernel) (by decide +kernel)
theorem dX10_needed_0 : decode cX10_needed 0 = .ok (.aload_n 0, 1) := fX10_needed_0.1
theorem dX10_needed_1 : decode cX10_needed 1 = .ok (.getfield 28, 3) := fX10_needed_0.2.1
theorem dX10_needed_4 : decode cX10_needed 4 = .ok (.iload_n 1, 1) := fX10_needed_0.2.2.1
theorem dX10_needed_5 : decode cX10_needed 5 = .ok (.invokevirtual 132, 3) := fX10_needed_0.2.2.2.1
theorem dX10_needed_8 : decode cX10_needed 8 = .ok (.ifCond .eq 56, 3) := fX10_needed_0.2.2.2.2.1
theorem dX10_needed_11 : decode cX10_needed 11 = .ok (.aload_n 0, 1) := fX10_needed_0.2.2.2.2.2.1
theorem dX10_needed_12 : decode cX10_needed 12 = .ok (.getfield 28, 3) := fX10_needed_0.2.2.2.2.2.2.1
theorem dX10_needed_15 : decode cX10_needed 15 = .ok (.getfield 178, 3) := fX10_needed_0.2.2.2.2.2.2.2.1
theorem dX10_needed_18 : decode cX10_needed 18 = .ok (.iload_n 1, 1) := fX10_needed_0.2.2.2.2.2.2.2.2.1
theorem dX10_needed_19 : decode cX10_needed 19 = .ok (.iaload, 1) := fX10_needed_0.2.2.2.2.2.2.2.2.2.1
theorem dX10_needed_20 : decode cX10_needed 20 = .ok (.iconst 1, 1) := fX10_needed_0.2.2.2.2.2.2.2.2.2.2.1
theorem dX10_needed_21 : decode cX10_needed 21 = .ok (.if_icmp .ne 43, 3) := fX10_needed_0.2.2.2.2.2.2.2.2.2.2.2.1
theorem dX10_needed_24 : decode cX10_needed 24 = .ok (.aload_n 0, 1) := fX10_needed_0.2.2.2.2.2.2.2.2.2.2.2.2.1
theorem dX10_needed_25 : decode cX10_needed 25 = .ok (.getfield 46, 3) := fX10_needed_0.2.2.2.2.2.2.2.2.2.2.2.2.2.1
theorem dX10_needed_28 : decode cX10_needed 28 = .ok (.aload_n 0, 1) := fX10_needed_0.2.2.2.2.2.2.2.2.2.2.2.2.2.2.1
theorem dX10_needed_29 : decode cX10_needed 29 = .ok (.getfield 37, 3) := fX10_needed_0.2.2.2.2.2.2.2.2.2.2.2.2.2.2.2.1
theorem dX10_needed_32 : decode cX10_needed 32 = .ok (.getfield 139, 3) := fX10_needed_0.2.2.2.2.2.2.2.2.2.2.2.2.2.2.2.2.1
theorem dX10_needed_35 : decode cX10_needed 35 = .ok (.iconst (-1), 1) := fX10_needed_0.2.2.2.2.2.2.2.2.2.2.2.2.2.2.2.2.2.1
theorem dX10_needed_36 : decode cX10_needed 36 = .ok (.invokevirtual 174, 3) := fX10_needed_0.2.2.2.2.2.2.2.2.2.2.2.2.2.2.2.2.2.2.1
theorem dX10_needed_39 : decode cX10_needed 39 = .ok (.ifCond .eq 25, 3) := fX10_needed_0.2.2.2.2.2.2.2.2.2.2.2.2.2.2.2.2.2.2.2.1
theorem dX10_needed_42 : decode cX10_needed 42 = .ok (.aload_n 0, 1) := fX10_needed_0.2.2.2.2.2.2.2.2.2.2.2.2.2.2.2.2.2.2.2.2.1
theorem dX10_needed_43 : decode cX10_needed 43 = .ok (.getfield 46, 3) := fX10_needed_0.2.2.2.2.2.2.2.2.2.2.2.2.2.2.2.2.2.2.2.2.2.1
theorem dX10_needed_46 : decode cX10_needed 46 = .ok (.aload_n 0, 1) := fX10_needed_0.2.2.2.2.2.2.2.2.2.2.2.2.2.2.2.2.2.2.2.2.2.2.1
theorem dX10_needed_47 : decode cX10_needed 47 = .ok (.getfield 37, 3) := fX10_needed_0.2.2.2.2.2.2.2.2.2.2.2.2.2.2.2.2.2.2.2.2.2.2.2.1
theorem fX10_needed_50 : DS.Facts cX10_needed 50 [(.getfield 139, 3), (.iload_n 1, 1), (.invokevirtual 174, 3), (.ifCond .ne 7, 3), (.iconst 1, 1), (.goto 4, 3), (.iconst 0, 1), (.ireturn, 1)] := DS.facts 50 _ (by decide +kernel) (by decide +kernel)
theorem dX10_needed_50 : decode cX10_needed 50 = .ok (.getfield 139, 3) := fX10_needed_50.1
theorem dX10_needed_53 : decode cX10_needed 53 = .ok (.iload_n 1, 1) := fX10_needed_50.2.1
theorem dX10_needed_54 : decode cX10_needed 54 = .ok (.invokevirtual 174, 3) := fX10_needed_50.2.2.1
theorem dX10_needed_57 : decode cX10_needed 57 = .ok (.ifCond .ne 7, 3) := fX10_needed_50.2.2.2.1
theorem dX10_needed_60 : decode cX10_needed 60 = .ok (.iconst 1, 1) := fX10_needed_50.2.2.2.2.1
theorem dX10_needed_61 : decode cX10_needed 61 = .ok (.goto 4, 3) := fX10_needed_50.2.2.2.2.2.1
theorem dX10_needed_64 : decode cX10_needed 64 = .ok (.iconst 0, 1) := fX10_needed_50.2.2.2.2.2.2.1
theorem dX10_needed_65 : decode cX10_needed 65 = .ok (.ireturn, 1) := fX10_needed_50.2.2.2.2.2.2.2.1
set_option maxRecDepth 20000 in
theorem ggX10_back_X4_takeBack : GoodIn wsX10_back wsX4_takeBack := goodIn_r _ [6, 7, 8, 9, 10, 11, 12, 13, 14, 15, 16, 17, 18, 19, 20, 21, 22, 23, 24, 25, 26, 27, 34, 35, 36, 37, 38, 39, 40, 41, 42, 43, 44, 45, 46, 47, 48, 49, 50] (by decide +kernel) (by decide +kernel)
set_option maxRecDepth 20000 in
theorem gX10_back_X4_takeBack : GoodIn wsX10_back (wsV RX10 181 RX4 yX4_takeBack wsX4_takeBack) := goodIn_app (goodIn_of _ (by decide +kernel)) ggX10_back_X4_takeBack
theorem fX10_back_0 : DS.Facts cX10_back 0 [(.aload_n 0, 1), (.getfield 37, 3), (.invokevirtual 181, 3), (.ireturn, 1)] := DS.facts 0 _ (by decide +kernel) (by decide +kernel)
theorem dX10_back_0 : decode cX10_back 0 = .ok (.aload_n 0, 1) := fX10_back_0.1
theorem dX10_back_1 : decode cX10_back 1 = .ok (.getfield 37, 3) := fX10_back_0.2.1
theorem dX10_back_4 : decode cX10_back 4 = .ok (.invokevirtual 181, 3) := fX10_back_0.2.2.1
theorem dX10_back_7 : decode cX10_back 7 = .ok (.ireturn, 1) := fX10_back_0.2.2.2.1
set_option maxRecDepth 20000 in
theorem ggX10_again_X4_redo : GoodIn wsX10_again wsX4_redo := goodIn_r _ [6, 7, 8, 9, 10, 11, 12, 13, 14, 15, 16, 5, 17, 18, 19, 20, 21, 22, 23, 24, 25, 26, 27, 28, 29, 30, 31, 32, 33, 34, 35, 36, 37, 38, 39, 40, 41, 42, 43, 44, 45, 46, 47, 48, 49, 50, 51, 52, 53, 54, 55, 56, 57, 58, 59, 60, 61, 62, 63, 64, 65, 66, 67, 68, 69, 70, 71, 72, 73, 74, 75, 76, 77, 78, 79, 80, 81, 82, 83, 84, 85, 86, 87, 88, 89, 90, 91, 92, 93, 94, 95, 96, 97, 98, 99, 100, 101, 102, 103, 104, 105, 106, 107, 108, 109, 110, 111, 112, 113, 114, 115, 116, 117, 118, 119, 120, 121, 122, 123, 124, 125, 126, 127, 128, 135, 136, 137, 138, 139, 140, 141, 142, 143, 144, 145, 146, 147, 148, 149, 150, 151, 152, 153, 154, 155, 156, 157, 158, 159, 160, 161, 162, 163, 164, 165, 166, 167, 168, 169, 170] (by decide +kernel) (by decide +kernel)
set_option maxRecDepth 20000 in
theorem gX10_again_X4_redo : GoodIn wsX10_again (wsV RX10 184 RX4 yX4_redo wsX4_redo) := goodIn_app (goodIn_of _ (by decide +kernel)) ggX10_again_X4_redo
theorem fX10_again_0 : DS.Facts cX10_again 0 [(.aload_n 0, 1), (.getfield 37, 3), (.invokevirtual 184, 3), (.ireturn, 1)] := DS.facts 0 _ (by decide +kernel) (by decide +kernel)
theorem dX10_again_0 : decode cX10_again 0 = .ok (.aload_n 0, 1) := fX10_again_0.1
theorem dX10_again_1 : decode cX10_again 1 = .ok (.getfield 37, 3) := fX10_again_0.2.1
theorem dX10_again_4 : decode cX10_again 4 = .ok (.invokevirtual 184, 3) := fX10_again_0.2.2.1
theorem dX10_again_7 : decode cX10_again 7 = .ok (.ireturn, 1) := fX10_again_0.2.2.2.1
set_option maxRecDepth 20000 in
theorem ggX10_solve_X4_isThere : GoodIn wsX10_solve wsX4_isThere := goodIn_r _ [7, 8, 195, 196, 197, 198, 199] (by decide +kernel) (by decide +kernel)
set_option maxRecDepth 20000 in
theorem gX10_solve_X4_isThere : GoodIn wsX10_solve (wsV RX10 64 RX4 yX4_isThere wsX4_isThere) := goodIn_app (goodIn_of _ (by decide +kernel)) ggX10_solve_X4_isThere
set_option maxRecDepth 20000 in
theorem ggX10_solve_X7_solveAll : GoodIn wsX10_solve wsX7_solveAll := goodIn_r _ [13, 14, 15, 16, 17, 18, 19, 20, 21, 22, 23, 24, 12, 25, 26, 27, 28, 29, 30, 31, 32, 33, 34, 35, 36, 37, 38, 39, 40, 41, 42, 43, 44, 45, 46, 47, 48, 49, 50, 51, 52, 53, 54, 55, 56, 57, 58, 59, 60, 61, 62, 63, 64, 65, 66, 67, 68, 69, 70, 71, 72, 73, 74, 75, 76, 77, 78, 79, 80, 81, 82, 83, 84, 85, 86, 87, 88, 89, 90, 91, 92, 93, 94, 95, 96, 97, 98, 99, 100, 101, 102, 103, 104, 105, 106, 107, 108, 109, 110, 111, 112, 113, 114, 115, 116, 117, 118, 119, 120, 121, 122, 123, 124, 125, 126, 127, 128, 129, 130, 131, 132, 133, 134, 135, 136, 137, 138, 139, 140, 141, 142, 143, 144, 145, 146, 147, 148, 149, 150, 151, 152, 153, 154, 155, 156, 157, 158, 159, 160, 161, 162, 163, 164, 165, 166, 167, 168, 169, 170, 171, 172, 173, 174, 175, 176, 177, 178, 179, 180, 181, 182, 183, 184, 185, 186, 187, 188, 200, 201, 202, 203, 204, 205, 206, 207, 208, 209, 210, 211, 212, 213, 214, 215, 216, 217, 218, 219, 220, 221, 222, 223, 224, 225, 226, 227, 228, 229, 230, 231, 232, 233, 234, 235, 236, 237, 238, 239, 240] (by decide +kernel) (by decide +kernel)
set_option maxRecDepth 20000 in
theorem gX10_solve_X7_solveAll : GoodIn wsX10_solve (wsV RX10 187 RX7 yX7_solveAll wsX7_solveAll) := goodIn_app (goodIn_of _ (by decide +kernel)) ggX10_solve_X7_solveAll
theorem fX10_solve_0 : DS.Facts cX10_solve 0 [(.aload_n 0, 1), (.getfield 37, 3), (.invokevirtual 64, 3), (.ifCond .eq 13, 3), (.aload_n 0, 1), (.getfield 53, 3), (.invokevirtual 187, 3), (.goto 4, 3), (.iconst (-1), 1), (.ireturn, 1)] := DS.facts 0 _ (by decide +kernel) (by decide +kernel)
theorem dX10_solve_0 : decode cX10_solve 0 = .ok (.aload_n 0, 1) := fX10_solve_0.1
theorem dX10_solve_1 : decode cX10_solve 1 = .ok (.getfield 37, 3) := fX10_solve_0.2.1
theorem dX10_solve_4 : decode cX10_solve 4 = .ok (.invokevirtual 64, 3) := fX10_solve_0.2.2.1
theorem dX10_solve_7 : decode cX10_solve 7 = .ok (.ifCond .eq 13, 3) := fX10_solve_0.2.2.2.1
theorem dX10_solve_10 : decode cX10_solve 10 = .ok (.aload_n 0, 1) := fX10_solve_0.2.2.2.2.1
theorem dX10_solve_11 : decode cX10_solve 11 = .ok (.getfield 53, 3) := fX10_solve_0.2.2.2.2.2.1
theorem dX10_solve_14 : decode cX10_solve 14 = .ok (.invokevirtual 187, 3) := fX10_solve_0.2.2.2.2.2.2.1
theorem dX10_solve_17 : decode cX10_solve 17 = .ok (.goto 4, 3) := fX10_solve_0.2.2.2.2.2.2.2.1
theorem dX10_solve_20 : decode cX10_solve 20 = .ok (.iconst (-1), 1) := fX10_solve_0.2.2.2.2.2.2.2.2.1
theorem dX10_solve_21 : decode cX10_solve 21 = .ok (.ireturn, 1) := fX10_solve_0.2.2.2.2.2.2.2.2.2.1
set_option maxRecDepth 20000 in
theorem ggX10_worth_X7_worthOf : GoodIn wsX10_worth wsX7_worthOf := goodIn_r _ [7, 8, 9, 10, 11, 6, 12, 13, 14, 15, 16, 17, 18, 19, 20, 21, 22, 34, 35, 36, 37, 38, 39, 40, 41, 42, 43, 44, 45, 46, 47, 48, 49, 50, 51, 52, 53, 54, 55, 56, 57, 58, 59, 60, 61, 62, 63, 64, 65] (by decide +kernel) (by decide +kernel)
set_option maxRecDepth 20000 in
theorem gX10_worth_X7_worthOf : GoodIn wsX10_worth (wsV RX10 190 RX7 yX7_worthOf wsX7_worthOf) := goodIn_app (goodIn_of _ (by decide +kernel)) ggX10_worth_X7_worthOf
theorem fX10_worth_0 : DS.Facts cX10_worth 0 [(.aload_n 0, 1), (.getfield 53, 3), (.aload_n 0, 1), (.getfield 37, 3), (.getfield 139, 3), (.invokevirtual 190, 3), (.ireturn, 1)] := DS.facts 0 _ (by decide +kernel) (by decide +kernel)
theorem dX10_worth_0 : decode cX10_worth 0 = .ok (.aload_n 0, 1) := fX10_worth_0.1
theorem dX10_worth_1 : decode cX10_worth 1 = .ok (.getfield 53, 3) := fX10_worth_0.2.1
theorem dX10_worth_4 : decode cX10_worth 4 = .ok (.aload_n 0, 1) := fX10_worth_0.2.2.1
theorem dX10_worth_5 : decode cX10_worth 5 = .ok (.getfield 37, 3) := fX10_worth_0.2.2.2.1
theorem dX10_worth_8 : decode cX10_worth 8 = .ok (.getfield 139, 3) := fX10_worth_0.2.2.2.2.1
theorem dX10_worth_11 : decode cX10_worth 11 = .ok (.invokevirtual 190, 3) := fX10_worth_0.2.2.2.2.2.1
theorem dX10_worth_14 : decode cX10_worth 14 = .ok (.ireturn, 1) := fX10_worth_0.2.2.2.2.2.2.1
set_option maxRecDepth 20000 in
theorem ggX10_deep_X7_deepOf : GoodIn wsX10_deep wsX7_deepOf := goodIn_r _ [7, 8, 9, 10, 11, 6, 12, 13, 14, 15, 16, 17, 18, 19, 20, 21, 22, 34, 35, 36, 37, 38, 39, 40, 41, 42, 43, 44, 45, 46, 47, 48, 49, 50, 51, 52, 53, 54, 55, 56, 57, 58, 59, 60, 61, 62, 63, 64, 65] (by decide +kernel) (by decide +kernel)
set_option maxRecDepth 20000 in
theorem gX10_deep_X7_deepOf : GoodIn wsX10_deep (wsV RX10 194 RX7 yX7_deepOf wsX7_deepOf) := goodIn_app (goodIn_of _ (by decide +kernel)) ggX10_deep_X7_deepOf
theorem fX10_deep_0 : DS.Facts cX10_deep 0 [(.aload_n 0, 1), (.getfield 53, 3), (.aload_n 0, 1), (.getfield 37, 3), (.getfield 139, 3), (.invokevirtual 194, 3), (.ireturn, 1)] := DS.facts 0 _ (by decide +kernel) (by decide +kernel)
theorem dX10_deep_0 : decode cX10_deep 0 = .ok (.aload_n 0, 1) := fX10_deep_0.1
theorem dX10_deep_1 : decode cX10_deep 1 = .ok (.getfield 53, 3) := fX10_deep_0.2.1
theorem dX10_deep_4 : decode cX10_deep 4 = .ok (.aload_n 0, 1) := fX10_deep_0.2.2.1
theorem dX10_deep_5 : decode cX10_deep 5 = .ok (.getfield 37, 3) := fX10_deep_0.2.2.2.1
theorem dX10_deep_8 : decode cX10_deep 8 = .ok (.getfield 139, 3) := fX10_deep_0.2.2.2.2.1
theorem dX10_deep_11 : decode cX10_deep 11 = .ok (.invokevirtual 194, 3) := fX10_deep_0.2.2.2.2.2.1
theorem dX10_deep_14 : decode cX10_deep 14 = .ok (.ireturn, 1) := fX10_deep_0.2.2.2.2.2.2.1
set_option maxRecDepth 20000 in
theorem ggX10_best_X7_bestMove : GoodIn wsX10_best wsX7_bestMove := goodIn_r _ [7, 8, 9, 10, 11, 12, 13, 6, 14, 15, 16, 17, 18, 19, 20, 21, 22, 23, 24, 25, 26, 27, 28, 29, 30, 31, 32, 33, 34, 35, 36, 37, 38, 39, 40, 41, 42, 43, 44, 45, 46, 47, 48, 49, 50, 51, 52, 53, 54, 55, 56, 57, 58, 59, 60, 61, 62, 63, 64, 65, 66, 67, 68, 69, 70, 71, 72, 73, 74, 75, 76, 77, 78, 79, 80, 81, 82, 83, 84, 85, 86, 87, 88, 89, 90, 91, 92, 104, 105, 106, 107, 108, 109, 110, 111, 112, 113, 114, 115, 116, 117, 118, 119, 120, 121, 122, 123, 124, 125, 126, 127, 128, 129, 130, 131, 132, 133, 134, 135, 136, 137, 138, 139, 140] (by decide +kernel) (by decide +kernel)
set_option maxRecDepth 20000 in
theorem gX10_best_X7_bestMove : GoodIn wsX10_best (wsV RX10 197 RX7 yX7_bestMove wsX7_bestMove) := goodIn_app (goodIn_of _ (by decide +kernel)) ggX10_best_X7_bestMove
theorem fX10_best_0 : DS.Facts cX10_best 0 [(.aload_n 0, 1), (.getfield 53, 3), (.aload_n 0, 1), (.getfield 37, 3), (.getfield 139, 3), (.invokevirtual 197, 3), (.ireturn, 1)] := DS.facts 0 _ (by decide +kernel) (by decide +kernel)
theorem dX10_best_0 : decode cX10_best 0 = .ok (.aload_n 0, 1) := fX10_best_0.1
theorem dX10_best_1 : decode cX10_best 1 = .ok (.getfield 53, 3) := fX10_best_0.2.1
theorem dX10_best_4 : decode cX10_best 4 = .ok (.aload_n 0, 1) := fX10_best_0.2.2.1
theorem dX10_best_5 : decode cX10_best 5 = .ok (.getfield 37, 3) := fX10_best_0.2.2.2.1
theorem dX10_best_8 : decode cX10_best 8 = .ok (.getfield 139, 3) := fX10_best_0.2.2.2.2.1
theorem dX10_best_11 : decode cX10_best 11 = .ok (.invokevirtual 197, 3) := fX10_best_0.2.2.2.2.2.1
theorem dX10_best_14 : decode cX10_best 14 = .ok (.ireturn, 1) := fX10_best_0.2.2.2.2.2.2.1
set_option maxRecDepth 20000 in
theorem ggX10_count_X7_tally : GoodIn wsX10_count wsX7_tally := goodIn_r _ [6, 7, 8, 9, 10, 11, 18, 19, 20, 21, 22, 23, 24, 25, 26, 27, 28, 29, 30, 31, 32] (by decide +kernel) (by decide +kernel)
set_option maxRecDepth 20000 in
theorem gX10_count_X7_tally : GoodIn wsX10_count (wsV RX10 200 RX7 yX7_tally wsX7_tally) := goodIn_app (goodIn_of _ (by decide +kernel)) ggX10_count_X7_tally
theorem fX10_count_0 : DS.Facts cX10_count 0 [(.aload_n 0, 1), (.getfield 53, 3), (.iload_n 1, 1), (.iload_n 2, 1), (.invokevirtual 200, 3), (.ireturn, 1)] := DS.facts 0 _ (by decide +kernel) (by decide +kernel)
theorem dX10_count_0 : decode cX10_count 0 = .ok (.aload_n 0, 1) := fX10_count_0.1
theorem dX10_count_1 : decode cX10_count 1 = .ok (.getfield 53, 3) := fX10_count_0.2.1
theorem dX10_count_4 : decode cX10_count 4 = .ok (.iload_n 1, 1) := fX10_count_0.2.2.1
theorem dX10_count_5 : decode cX10_count 5 = .ok (.iload_n 2, 1) := fX10_count_0.2.2.2.1
theorem dX10_count_6 : decode cX10_count 6 = .ok (.invokevirtual 200, 3) := fX10_count_0.2.2.2.2.1
theorem dX10_count_9 : decode cX10_count 9 = .ok (.ireturn, 1) := fX10_count_0.2.2.2.2.2.1
set_option maxRecDepth 20000 in
theorem ggX10_most_X7_greatestDeep : GoodIn wsX10_most wsX7_greatestDeep := goodIn_r _ [6, 7, 8, 9, 10, 11, 18, 19, 20, 21, 22, 23, 24, 25, 26, 27, 28, 29, 30, 31, 32] (by decide +kernel) (by decide +kernel)
set_option maxRecDepth 20000 in
theorem gX10_most_X7_greatestDeep : GoodIn wsX10_most (wsV RX10 204 RX7 yX7_greatestDeep wsX7_greatestDeep) := goodIn_app (goodIn_of _ (by decide +kernel)) ggX10_most_X7_greatestDeep
theorem fX10_most_0 : DS.Facts cX10_most 0 [(.aload_n 0, 1), (.getfield 53, 3), (.iload_n 1, 1), (.invokevirtual 204, 3), (.ireturn, 1)] := DS.facts 0 _ (by decide +kernel) (by decide +kernel)
theorem dX10_most_0 : decode cX10_most 0 = .ok (.aload_n 0, 1) := fX10_most_0.1
theorem dX10_most_1 : decode cX10_most 1 = .ok (.getfield 53, 3) := fX10_most_0.2.1
theorem dX10_most_4 : decode cX10_most 4 = .ok (.iload_n 1, 1) := fX10_most_0.2.2.1
theorem dX10_most_5 : decode cX10_most 5 = .ok (.invokevirtual 204, 3) := fX10_most_0.2.2.2.1
theorem dX10_most_8 : decode cX10_most 8 = .ok (.ireturn, 1) := fX10_most_0.2.2.2.2.1
set_option maxRecDepth 20000 in
theorem ggX10_stand_X7_worthAt : GoodIn wsX10_stand wsX7_worthAt := goodIn_r _ [6, 7, 8, 9, 10, 11, 12, 19, 20, 21, 22, 23, 24, 25, 26, 27, 28, 29, 30, 31, 32, 33] (by decide +kernel) (by decide +kernel)
set_option maxRecDepth 20000 in
theorem gX10_stand_X7_worthAt : GoodIn wsX10_stand (wsV RX10 207 RX7 yX7_worthAt wsX7_worthAt) := goodIn_app (goodIn_of _ (by decide +kernel)) ggX10_stand_X7_worthAt
theorem fX10_stand_0 : DS.Facts cX10_stand 0 [(.aload_n 0, 1), (.getfield 53, 3), (.iload_n 1, 1), (.iload_n 2, 1), (.invokevirtual 207, 3), (.ireturn, 1)] := DS.facts 0 _ (by decide +kernel) (by decide +kernel)
theorem dX10_stand_0 : decode cX10_stand 0 = .ok (.aload_n 0, 1) := fX10_stand_0.1
theorem dX10_stand_1 : decode cX10_stand 1 = .ok (.getfield 53, 3) := fX10_stand_0.2.1
theorem dX10_stand_4 : decode cX10_stand 4 = .ok (.iload_n 1, 1) := fX10_stand_0.2.2.1
theorem dX10_stand_5 : decode cX10_stand 5 = .ok (.iload_n 2, 1) := fX10_stand_0.2.2.2.1
theorem dX10_stand_6 : decode cX10_stand 6 = .ok (.invokevirtual 207, 3) := fX10_stand_0.2.2.2.2.1
theorem dX10_stand_9 : decode cX10_stand 9 = .ok (.ireturn, 1) := fX10_stand_0.2.2.2.2.2.1
set_option maxRecDepth 20000 in
theorem ggX10_endPlay_X4_finish : GoodIn wsX10_endPlay wsX4_finish := goodIn_r _ [7, 8, 9, 10, 11, 12, 13, 14, 15, 16, 17, 18, 19, 20, 21, 22, 23, 24, 25, 26, 27, 28, 29, 30, 31, 32, 33, 34, 35, 36, 37, 50, 51, 52, 53, 54, 55, 56, 57, 58, 59, 60, 61, 62, 63, 64, 65, 66, 67, 68, 69, 70, 71, 72, 73, 74, 75] (by decide +kernel) (by decide +kernel)
set_option maxRecDepth 20000 in
theorem gX10_endPlay_X4_finish : GoodIn wsX10_endPlay (wsV RX10 210 RX4 yX4_finish wsX4_finish) := goodIn_app (goodIn_of _ (by decide +kernel)) ggX10_endPlay_X4_finish
set_option maxRecDepth 20000 in
theorem ggX10_endPlay_X7_forget : GoodIn wsX10_endPlay wsX7_forget := goodIn_r _ [42, 43, 76, 77, 78, 79, 80, 81, 82, 83, 84, 85, 86, 87, 88, 89, 90] (by decide +kernel) (by decide +kernel)
set_option maxRecDepth 20000 in
theorem gX10_endPlay_X7_forget : GoodIn wsX10_endPlay (wsV RX10 83 RX7 yX7_forget wsX7_forget) := goodIn_app (goodIn_of _ (by decide +kernel)) ggX10_endPlay_X7_forget
theorem fX10_endPlay_0 : DS.Facts cX10_endPlay 0 [(.aload_n 0, 1), (.getfield 37, 3), (.invokevirtual 210, 3), (.aload_n 0, 1), (.getfield 53, 3), (.invokevirtual 83, 3), (.return_, 1)] := DS.facts 0 _ (by decide +kernel) (by decide +kernel)
theorem dX10_endPlay_0 : decode cX10_endPlay 0 = .ok (.aload_n 0, 1) := fX10_endPlay_0.1
theorem dX10_endPlay_1 : decode cX10_endPlay 1 = .ok (.getfield 37, 3) := fX10_endPlay_0.2.1
theorem dX10_endPlay_4 : decode cX10_endPlay 4 = .ok (.invokevirtual 210, 3) := fX10_endPlay_0.2.2.1
theorem dX10_endPlay_7 : decode cX10_endPlay 7 = .ok (.aload_n 0, 1) := fX10_endPlay_0.2.2.2.1
theorem dX10_endPlay_8 : decode cX10_endPlay 8 = .ok (.getfield 53, 3) := fX10_endPlay_0.2.2.2.2.1
theorem dX10_endPlay_11 : decode cX10_endPlay 11 = .ok (.invokevirtual 83, 3) := fX10_endPlay_0.2.2.2.2.2.1
theorem dX10_endPlay_14 : decode cX10_endPlay 14 = .ok (.return_, 1) := fX10_endPlay_0.2.2.2.2.2.2.1
theorem fX10_isSide_0 : DS.Facts cX10_isSide 0 [(.iload_n 0, 1), (.ifCond .eq 8, 3), (.iload_n 0, 1), (.iconst 1, 1), (.if_icmp .ne 7, 3), (.iconst 1, 1), (.goto 4, 3), (.iconst 0, 1), (.ireturn, 1)] := DS.facts 0 _ (by decide +kernel) (by decide +kernel)
theorem dX10_isSide_0 : decode cX10_isSide 0 = .ok (.iload_n 0, 1) := fX10_isSide_0.1
theorem dX10_isSide_1 : decode cX10_isSide 1 = .ok (.ifCond .eq 8, 3) := fX10_isSide_0.2.1
theorem dX10_isSide_4 : decode cX10_isSide 4 = .ok (.iload_n 0, 1) := fX10_isSide_0.2.2.1
theorem dX10_isSide_5 : decode cX10_isSide 5 = .ok (.iconst 1, 1) := fX10_isSide_0.2.2.2.1
theorem dX10_isSide_6 : decode cX10_isSide 6 = .ok (.if_icmp .ne 7, 3) := fX10_isSide_0.2.2.2.2.1
theorem dX10_isSide_9 : decode cX10_isSide 9 = .ok (.iconst 1, 1) := fX10_isSide_0.2.2.2.2.2.1
theorem dX10_isSide_10 : decode cX10_isSide 10 = .ok (.goto 4, 3) := fX10_isSide_0.2.2.2.2.2.2.1
theorem dX10_isSide_13 : decode cX10_isSide 13 = .ok (.iconst 0, 1) := fX10_isSide_0.2.2.2.2.2.2.2.1
theorem dX10_isSide_14 : decode cX10_isSide 14 = .ok (.ireturn, 1) := fX10_isSide_0.2.2.2.2.2.2.2.2.1
theorem fX10_kindOfSign_0 : DS.Facts cX10_kindOfSign 0 [(.iload_n 0, 1), (.bipush 7, 2), (.if_icmp .ne 5, 3), (.iconst 2, 1), (.ireturn, 1), (.iload_n 0, 1), (.iconst 1, 1), (.if_icmp .lt 12, 3), (.iload_n 0, 1), (.iconst 4, 1), (.if_icmp .gt 7, 3), (.iload_n 0, 1), (.goto 4, 3), (.iconst 0, 1), (.ireturn, 1)] := DS.facts 0 _ (by decide +kernel) (by decide +kernel)
theorem dX10_kindOfSign_0 : decode cX10_kindOfSign 0 = .ok (.iload_n 0, 1) := fX10_kindOfSign_0.1
theorem dX10_kindOfSign_1 : decode cX10_kindOfSign 1 = .ok (.bipush 7, 2) := fX10_kindOfSign_0.2.1
theorem dX10_kindOfSign_3 : decode cX10_kindOfSign 3 = .ok (.if_icmp .ne 5, 3) := fX10_kindOfSign_0.2.2.1
theorem dX10_kindOfSign_6 : decode cX10_kindOfSign 6 = .ok (.iconst 2, 1) := fX10_kindOfSign_0.2.2.2.1
theorem dX10_kindOfSign_7 : decode cX10_kindOfSign 7 = .ok (.ireturn, 1) := fX10_kindOfSign_0.2.2.2.2.1
theorem dX10_kindOfSign_8 : decode cX10_kindOfSign 8 = .ok (.iload_n 0, 1) := fX10_kindOfSign_0.2.2.2.2.2.1
theorem dX10_kindOfSign_9 : decode cX10_kindOfSign 9 = .ok (.iconst 1, 1) := fX10_kindOfSign_0.2.2.2.2.2.2.1
theorem dX10_kindOfSign_10 : decode cX10_kindOfSign 10 = .ok (.if_icmp .lt 12, 3) := fX10_kindOfSign_0.2.2.2.2.2.2.2.1
theorem dX10_kindOfSign_13 : decode cX10_kindOfSign 13 = .ok (.iload_n 0, 1) := fX10_kindOfSign_0.2.2.2.2.2.2.2.2.1
theorem dX10_kindOfSign_14 : decode cX10_kindOfSign 14 = .ok (.iconst 4, 1) := fX10_kindOfSign_0.2.2.2.2.2.2.2.2.2.1
theorem dX10_kindOfSign_15 : decode cX10_kindOfSign 15 = .ok (.if_icmp .gt 7, 3) := fX10_kindOfSign_0.2.2.2.2.2.2.2.2.2.2.1
theorem dX10_kindOfSign_18 : decode cX10_kindOfSign 18 = .ok (.iload_n 0, 1) := fX10_kindOfSign_0.2.2.2.2.2.2.2.2.2.2.2.1
theorem dX10_kindOfSign_19 : decode cX10_kindOfSign 19 = .ok (.goto 4, 3) := fX10_kindOfSign_0.2.2.2.2.2.2.2.2.2.2.2.2.1
theorem dX10_kindOfSign_22 : decode cX10_kindOfSign 22 = .ok (.iconst 0, 1) := fX10_kindOfSign_0.2.2.2.2.2.2.2.2.2.2.2.2.2.1
theorem dX10_kindOfSign_23 : decode cX10_kindOfSign 23 = .ok (.ireturn, 1) := fX10_kindOfSign_0.2.2.2.2.2.2.2.2.2.2.2.2.2.2.1
theorem fX10_typeOfSign_0 : DS.Facts cX10_typeOfSign 0 [(.iload_n 0, 1), (.iconst 5, 1), (.if_icmp .eq 9, 3), (.iload_n 0, 1), (.bipush 7, 2), (.if_icmp .ne 5, 3), (.iconst 1, 1), (.ireturn, 1), (.iload_n 0, 1), (.bipush 6, 2), (.if_icmp .ne 7, 3), (.iconst 2, 1), (.goto 4, 3), (.iconst 0, 1), (.ireturn, 1)] := DS.facts 0 _ (by decide +kernel) (by decide +kernel)
theorem dX10_typeOfSign_0 : decode cX10_typeOfSign 0 = .ok (.iload_n 0, 1) := fX10_typeOfSign_0.1
theorem dX10_typeOfSign_1 : decode cX10_typeOfSign 1 = .ok (.iconst 5, 1) := fX10_typeOfSign_0.2.1
theorem dX10_typeOfSign_2 : decode cX10_typeOfSign 2 = .ok (.if_icmp .eq 9, 3) := fX10_typeOfSign_0.2.2.1
theorem dX10_typeOfSign_5 : decode cX10_typeOfSign 5 = .ok (.iload_n 0, 1) := fX10_typeOfSign_0.2.2.2.1
theorem dX10_typeOfSign_6 : decode cX10_typeOfSign 6 = .ok (.bipush 7, 2) := fX10_typeOfSign_0.2.2.2.2.1
theorem dX10_typeOfSign_8 : decode cX10_typeOfSign 8 = .ok (.if_icmp .ne 5, 3) := fX10_typeOfSign_0.2.2.2.2.2.1
theorem dX10_typeOfSign_11 : decode cX10_typeOfSign 11 = .ok (.iconst 1, 1) := fX10_typeOfSign_0.2.2.2.2.2.2.1
theorem dX10_typeOfSign_12 : decode cX10_typeOfSign 12 = .ok (.ireturn, 1) := fX10_typeOfSign_0.2.2.2.2.2.2.2.1
theorem dX10_typeOfSign_13 : decode cX10_typeOfSign 13 = .ok (.iload_n 0, 1) := fX10_typeOfSign_0.2.2.2.2.2.2.2.2.1
theorem dX10_typeOfSign_14 : decode cX10_typeOfSign 14 = .ok (.bipush 6, 2) := fX10_typeOfSign_0.2.2.2.2.2.2.2.2.2.1
theorem dX10_typeOfSign_16 : decode cX10_typeOfSign 16 = .ok (.if_icmp .ne 7, 3) := fX10_typeOfSign_0.2.2.2.2.2.2.2.2.2.2.1
theorem dX10_typeOfSign_19 : decode cX10_typeOfSign 19 = .ok (.iconst 2, 1) := fX10_typeOfSign_0.2.2.2.2.2.2.2.2.2.2.2.1
theorem dX10_typeOfSign_20 : decode cX10_typeOfSign 20 = .ok (.goto 4, 3) := fX10_typeOfSign_0.2.2.2.2.2.2.2.2.2.2.2.2.1
theorem dX10_typeOfSign_23 : decode cX10_typeOfSign 23 = .ok (.iconst 0, 1) := fX10_typeOfSign_0.2.2.2.2.2.2.2.2.2.2.2.2.2.1
theorem dX10_typeOfSign_24 : decode cX10_typeOfSign 24 = .ok (.ireturn, 1) := fX10_typeOfSign_0.2.2.2.2.2.2.2.2.2.2.2.2.2.2.1
theorem fX11_init_0 : DS.Facts cX11_init 0 [(.aload_n 0, 1), (.invokespecial 1, 3), (.aload_n 0, 1), (.iconst 3, 1), (.putfield 7, 3), (.aload_n 0, 1), (.iconst 3, 1), (.putfield 13, 3), (.aload_n 0, 1), (.bipush 81, 2), (.newarray .int, 2), (.putfield 16, 3), (.aload_n 0, 1), (.iconst 4, 1), (.putfield 20, 3), (.aload_n 0, 1), (.iconst 1, 1), (.putfield 23, 3), (.aload_n 0, 1), (.bipush 40, 2), (.newarray .int, 2), (.putfield 27, 3), (.aload_n 0, 1), (.bipush 40, 2)] := DS.facts 0 _ (by decide +kernel) (by decide +kernel)
theorem dX11_init_0 : decode cX11_init 0 = .ok (.aload_n 0, 1) := fX11_init_0.1
theorem dX11_init_1 : decode cX11_init 1 = .ok (.invokespecial 1, 3) := fX11_init_0.2.1
theorem dX11_init_4 : decode cX11_init 4 = .ok (.aload_n 0, 1) := fX11_init_0.2.2.1
theorem dX11_init_5 : decode cX11_init 5 = .ok (.iconst 3, 1) := fX11_init_0.2.2.2.1
theorem dX11_init_6 : decode cX11_init 6 = .ok (.putfield 7, 3) := fX11_init_0.2.2.2.2.1
theorem dX11_init_9 : decode cX11_init 9 = .ok (.aload_n 0, 1) := fX11_init_0.2.2.2.2.2.1
theorem dX11_init_10 : decode cX11_init 10 = .ok (.iconst 3, 1) := fX11_init_0.2.2.2.2.2.2.1
theorem dX11_init_11 : decode cX11_init 11 = .ok (.putfield 13, 3) := fX11_init_0.2.2.2.2.2.2.2.1
theorem dX11_init_14 : decode cX11_init 14 = .ok (.aload_n 0, 1) := fX11_init_0.2.2.2.2.2.2.2.2.1
theorem dX11_init_15 : decode cX11_init 15 = .ok (.bipush 81, 2) := fX11_init_0.2.2.2.2.2.2.2.2.2.1
theorem dX11_init_17 : decode cX11_init 17 = .ok (.newarray .int, 2) := fX11_init_0.2.2.2.2.2.2.2.2.2.2.1
theorem dX11_init_19 : decode cX11_init 19 = .ok (.putfield 16, 3) := fX11_init_0.2.2.2.2.2.2.2.2.2.2.2.1
theorem dX11_init_22 : decode cX11_init 22 = .ok (.aload_n 0, 1) := fX11_init_0.2.2.2.2.2.2.2.2.2.2.2.2.1
theorem dX11_init_23 : decode cX11_init 23 = .ok (.iconst 4, 1) := fX11_init_0.2.2.2.2.2.2.2.2.2.2.2.2.2.1
theorem dX11_init_24 : decode cX11_init 24 = .ok (.putfield 20, 3) := fX11_init_0.2.2.2.2.2.2.2.2.2.2.2.2.2.2.1
theorem dX11_init_27 : decode cX11_init 27 = .ok (.aload_n 0, 1) := fX11_init_0.2.2.2.2.2.2.2.2.2.2.2.2.2.2.2.1
theorem dX11_init_28 : decode cX11_init 28 = .ok (.iconst 1, 1) := fX11_init_0.2.2.2.2.2.2.2.2.2.2.2.2.2.2.2.2.1
theorem dX11_init_29 : decode cX11_init 29 = .ok (.putfield 23, 3) := fX11_init_0.2.2.2.2.2.2.2.2.2.2.2.2.2.2.2.2.2.1
theorem dX11_init_32 : decode cX11_init 32 = .ok (.aload_n 0, 1) := fX11_init_0.2.2.2.2.2.2.2.2.2.2.2.2.2.2.2.2.2.2.1
theorem dX11_init_33 : decode cX11_init 33 = .ok (.bipush 40, 2) := fX11_init_0.2.2.2.2.2.2.2.2.2.2.2.2.2.2.2.2.2.2.2.1
theorem dX11_init_35 : decode cX11_init 35 = .ok (.newarray .int, 2) := fX11_init_0.2.2.2.2.2.2.2.2.2.2.2.2.2.2.2.2.2.2.2.2.1
theorem dX11_init_37 : decode cX11_init 37 = .ok (.putfield 27, 3) := fX11_init_0.2.2.2.2.2.2.2.2.2.2.2.2.2.2.2.2.2.2.2.2.2.1
theorem dX11_init_40 : decode cX11_init 40 = .ok (.aload_n 0, 1) := fX11_init_0.2.2.2.2.2.2.2.2.2.2.2.2.2.2.2.2.2.2.2.2.2.2.1
theorem dX11_init_41 : decode cX11_init 41 = .ok (.bipush 40, 2) := fX11_init_0.2.2.2.2.2.2.2.2.2.2.2.2.2.2.2.2.2.2.2.2.2.2.2.1
theorem fX11_init_43 : DS.Facts cX11_init 43 [(.newarray .int, 2), (.putfield 30, 3), (.aload_n 0, 1), (.bipush 81, 2), (.newarray .int, 2), (.putfield 33, 3), (.aload_n 0, 1), (.bipush 81, 2), (.newarray .int, 2), (.putfield 36, 3), (.aload_n 0, 1), (.sipush 4200, 3), (.newarray .int, 2), (.putfield 39, 3), (.aload_n 0, 1), (.ldc 42, 2), (.newarray .byte, 2), (.putfield 43, 3), (.aload_n 0, 1), (.bipush 40, 2), (.newarray .boolean, 2), (.putfield 47, 3), (.aload_n 0, 1), (.bipush 81, 2)] := DS.facts 43 _ (by decide +kernel) (by decide +kernel)
theorem dX11_init_43 : decode cX11_init 43 = .ok (.newarray .int, 2) := fX11_init_43.1
theorem dX11_init_45 : decode cX11_init 45 = .ok (.putfield 30, 3) := fX11_init_43.2.1
theorem dX11_init_48 : decode cX11_init 48 = .ok (.aload_n 0, 1) := fX11_init_43.2.2.1
theorem dX11_init_49 : decode cX11_init 49 = .ok (.bipush 81, 2) := fX11_init_43.2.2.2.1
theorem dX11_init_51 : decode cX11_init 51 = .ok (.newarray .int, 2) := fX11_init_43.2.2.2.2.1
theorem dX11_init_53 : decode cX11_init 53 = .ok (.putfield 33, 3) := fX11_init_43.2.2.2.2.2.1
theorem dX11_init_56 : decode cX11_init 56 = .ok (.aload_n 0, 1) := fX11_init_43.2.2.2.2.2.2.1
theorem dX11_init_57 : decode cX11_init 57 = .ok (.bipush 81, 2) := fX11_init_43.2.2.2.2.2.2.2.1
theorem dX11_init_59 : decode cX11_init 59 = .ok (.newarray .int, 2) := fX11_init_43.2.2.2.2.2.2.2.2.1
theorem dX11_init_61 : decode cX11_init 61 = .ok (.putfield 36, 3) := fX11_init_43.2.2.2.2.2.2.2.2.2.1
theorem dX11_init_64 : decode cX11_init 64 = .ok (.aload_n 0, 1) := fX11_init_43.2.2.2.2.2.2.2.2.2.2.1
theorem dX11_init_65 : decode cX11_init 65 = .ok (.sipush 4200, 3) := fX11_init_43.2.2.2.2.2.2.2.2.2.2.2.1
theorem dX11_init_68 : decode cX11_init 68 = .ok (.newarray .int, 2) := fX11_init_43.2.2.2.2.2.2.2.2.2.2.2.2.1
theorem dX11_init_70 : decode cX11_init 70 = .ok (.putfield 39, 3) := fX11_init_43.2.2.2.2.2.2.2.2.2.2.2.2.2.1
theorem dX11_init_73 : decode cX11_init 73 = .ok (.aload_n 0, 1) := fX11_init_43.2.2.2.2.2.2.2.2.2.2.2.2.2.2.1
theorem dX11_init_74 : decode cX11_init 74 = .ok (.ldc 42, 2) := fX11_init_43.2.2.2.2.2.2.2.2.2.2.2.2.2.2.2.1
theorem dX11_init_76 : decode cX11_init 76 = .ok (.newarray .byte, 2) := fX11_init_43.2.2.2.2.2.2.2.2.2.2.2.2.2.2.2.2.1
theorem dX11_init_78 : decode cX11_init 78 = .ok (.putfield 43, 3) := fX11_init_43.2.2.2.2.2.2.2.2.2.2.2.2.2.2.2.2.2.1
theorem dX11_init_81 : decode cX11_init 81 = .ok (.aload_n 0, 1) := fX11_init_43.2.2.2.2.2.2.2.2.2.2.2.2.2.2.2.2.2.2.1
theorem dX11_init_82 : decode cX11_init 82 = .ok (.bipush 40, 2) := fX11_init_43.2.2.2.2.2.2.2.2.2.2.2.2.2.2.2.2.2.2.2.1
theorem dX11_init_84 : decode cX11_init 84 = .ok (.newarray .boolean, 2) := fX11_init_43.2.2.2.2.2.2.2.2.2.2.2.2.2.2.2.2.2.2.2.2.1
theorem dX11_init_86 : decode cX11_init 86 = .ok (.putfield 47, 3) := fX11_init_43.2.2.2.2.2.2.2.2.2.2.2.2.2.2.2.2.2.2.2.2.2.1
theorem dX11_init_89 : decode cX11_init 89 = .ok (.aload_n 0, 1) := fX11_init_43.2.2.2.2.2.2.2.2.2.2.2.2.2.2.2.2.2.2.2.2.2.2.1
theorem dX11_init_90 : decode cX11_init 90 = .ok (.bipush 81, 2) := fX11_init_43.2.2.2.2.2.2.2.2.2.2.2.2.2.2.2.2.2.2.2.2.2.2.2.1
theorem fX11_init_92 : DS.Facts cX11_init 92 [(.newarray .boolean, 2), (.putfield 51, 3), (.aload_n 0, 1), (.bipush 81, 2), (.newarray .int, 2), (.putfield 54, 3), (.aload_n 0, 1), (.sipush 10000, 3), (.newarray .int, 2), (.putfield 57, 3), (.aload_n 0, 1), (.sipush 10000, 3), (.newarray .int, 2), (.putfield 60, 3), (.aload_n 0, 1), (.sipush 10000, 3), (.newarray .int, 2), (.putfield 63, 3), (.aload_n 0, 1), (.sipush 10000, 3), (.newarray .int, 2), (.putfield 66, 3), (.return_, 1)] := DS.facts 92 _ (by decide +kernel) (by decide +kernel)
theorem dX11_init_92 : decode cX11_init 92 = .ok (.newarray .boolean, 2) := fX11_init_92.1
theorem dX11_init_94 : decode cX11_init 94 = .ok (.putfield 51, 3) := fX11_init_92.2.1
theorem dX11_init_97 : decode cX11_init 97 = .ok (.aload_n 0, 1) := fX11_init_92.2.2.1
theorem dX11_init_98 : decode cX11_init 98 = .ok (.bipush 81, 2) := fX11_init_92.2.2.2.1
theorem dX11_init_100 : decode cX11_init 100 = .ok (.newarray .int, 2) := fX11_init_92.2.2.2.2.1
theorem dX11_init_102 : decode cX11_init 102 = .ok (.putfield 54, 3) := fX11_init_92.2.2.2.2.2.1
theorem dX11_init_105 : decode cX11_init 105 = .ok (.aload_n 0, 1) := fX11_init_92.2.2.2.2.2.2.1
theorem dX11_init_106 : decode cX11_init 106 = .ok (.sipush 10000, 3) := fX11_init_92.2.2.2.2.2.2.2.1
theorem dX11_init_109 : decode cX11_init 109 = .ok (.newarray .int, 2) := fX11_init_92.2.2.2.2.2.2.2.2.1
theorem dX11_init_111 : decode cX11_init 111 = .ok (.putfield 57, 3) := fX11_init_92.2.2.2.2.2.2.2.2.2.1
theorem dX11_init_114 : decode cX11_init 114 = .ok (.aload_n 0, 1) := fX11_init_92.2.2.2.2.2.2.2.2.2.2.1
theorem dX11_init_115 : decode cX11_init 115 = .ok (.sipush 10000, 3) := fX11_init_92.2.2.2.2.2.2.2.2.2.2.2.1
theorem dX11_init_118 : decode cX11_init 118 = .ok (.newarray .int, 2) := fX11_init_92.2.2.2.2.2.2.2.2.2.2.2.2.1
theorem dX11_init_120 : decode cX11_init 120 = .ok (.putfield 60, 3) := fX11_init_92.2.2.2.2.2.2.2.2.2.2.2.2.2.1
theorem dX11_init_123 : decode cX11_init 123 = .ok (.aload_n 0, 1) := fX11_init_92.2.2.2.2.2.2.2.2.2.2.2.2.2.2.1
theorem dX11_init_124 : decode cX11_init 124 = .ok (.sipush 10000, 3) := fX11_init_92.2.2.2.2.2.2.2.2.2.2.2.2.2.2.2.1
theorem dX11_init_127 : decode cX11_init 127 = .ok (.newarray .int, 2) := fX11_init_92.2.2.2.2.2.2.2.2.2.2.2.2.2.2.2.2.1
theorem dX11_init_129 : decode cX11_init 129 = .ok (.putfield 63, 3) := fX11_init_92.2.2.2.2.2.2.2.2.2.2.2.2.2.2.2.2.2.1
theorem dX11_init_132 : decode cX11_init 132 = .ok (.aload_n 0, 1) := fX11_init_92.2.2.2.2.2.2.2.2.2.2.2.2.2.2.2.2.2.2.1
theorem dX11_init_133 : decode cX11_init 133 = .ok (.sipush 10000, 3) := fX11_init_92.2.2.2.2.2.2.2.2.2.2.2.2.2.2.2.2.2.2.2.1
theorem dX11_init_136 : decode cX11_init 136 = .ok (.newarray .int, 2) := fX11_init_92.2.2.2.2.2.2.2.2.2.2.2.2.2.2.2.2.2.2.2.2.1
theorem dX11_init_138 : decode cX11_init 138 = .ok (.putfield 66, 3) := fX11_init_92.2.2.2.2.2.2.2.2.2.2.2.2.2.2.2.2.2.2.2.2.2.1
theorem dX11_init_141 : decode cX11_init 141 = .ok (.return_, 1) := fX11_init_92.2.2.2.2.2.2.2.2.2.2.2.2.2.2.2.2.2.2.2.2.2.2.1
theorem fX11_isIn_0 : DS.Facts cX11_isIn 0 [(.iload_n 0, 1), (.iload_n 1, 1), (.if_icmp .lt 12, 3), (.iload_n 0, 1), (.iload_n 2, 1), (.if_icmp .gt 7, 3), (.iconst 1, 1), (.goto 4, 3), (.iconst 0, 1), (.ireturn, 1)] := DS.facts 0 _ (by decide +kernel) (by decide +kernel)
theorem dX11_isIn_0 : decode cX11_isIn 0 = .ok (.iload_n 0, 1) := fX11_isIn_0.1
theorem dX11_isIn_1 : decode cX11_isIn 1 = .ok (.iload_n 1, 1) := fX11_isIn_0.2.1
theorem dX11_isIn_2 : decode cX11_isIn 2 = .ok (.if_icmp .lt 12, 3) := fX11_isIn_0.2.2.1
theorem dX11_isIn_5 : decode cX11_isIn 5 = .ok (.iload_n 0, 1) := fX11_isIn_0.2.2.2.1
theorem dX11_isIn_6 : decode cX11_isIn 6 = .ok (.iload_n 2, 1) := fX11_isIn_0.2.2.2.2.1
theorem dX11_isIn_7 : decode cX11_isIn 7 = .ok (.if_icmp .gt 7, 3) := fX11_isIn_0.2.2.2.2.2.1
theorem dX11_isIn_10 : decode cX11_isIn 10 = .ok (.iconst 1, 1) := fX11_isIn_0.2.2.2.2.2.2.1
theorem dX11_isIn_11 : decode cX11_isIn 11 = .ok (.goto 4, 3) := fX11_isIn_0.2.2.2.2.2.2.2.1
theorem dX11_isIn_14 : decode cX11_isIn 14 = .ok (.iconst 0, 1) := fX11_isIn_0.2.2.2.2.2.2.2.2.1
theorem dX11_isIn_15 : decode cX11_isIn 15 = .ok (.ireturn, 1) := fX11_isIn_0.2.2.2.2.2.2.2.2.2.1
theorem fX11_fields_0 : DS.Facts cX11_fields 0 [(.aload_n 0, 1), (.getfield 7, 3), (.aload_n 0, 1), (.getfield 13, 3), (.imul, 1), (.ireturn, 1)] := DS.facts 0 _ (by decide +kernel) (by decide +kernel)
theorem dX11_fields_0 : decode cX11_fields 0 = .ok (.aload_n 0, 1) := fX11_fields_0.1
theorem dX11_fields_1 : decode cX11_fields 1 = .ok (.getfield 7, 3) := fX11_fields_0.2.1
theorem dX11_fields_4 : decode cX11_fields 4 = .ok (.aload_n 0, 1) := fX11_fields_0.2.2.1
theorem dX11_fields_5 : decode cX11_fields 5 = .ok (.getfield 13, 3) := fX11_fields_0.2.2.2.1
theorem dX11_fields_8 : decode cX11_fields 8 = .ok (.imul, 1) := fX11_fields_0.2.2.2.2.1
theorem dX11_fields_9 : decode cX11_fields 9 = .ok (.ireturn, 1) := fX11_fields_0.2.2.2.2.2.1
set_option maxRecDepth 20000 in
theorem ggX11_board_X11_isIn : GoodIn wsX11_board wsX11_isIn := goodIn_r _ [9] (by decide +kernel) (by decide +kernel)
set_option maxRecDepth 20000 in
theorem gX11_board_X11_isIn : GoodIn wsX11_board (va_wsS RX11 69 yX11_isIn wsX11_isIn) := goodIn_app (goodIn_of _ (by decide +kernel)) ggX11_board_X11_isIn
theorem fX11_board_0 : DS.Facts cX11_board 0 [(.iload_n 1, 1), (.iconst 2, 1), (.bipush 9, 2), (.invokestatic 69, 3), (.ifCond .eq 13, 3), (.iload_n 2, 1), (.iconst 2, 1), (.bipush 9, 2), (.invokestatic 69, 3), (.ifCond .ne 5, 3), (.iconst 0, 1), (.ireturn, 1), (.aload_n 0, 1), (.iload_n 1, 1), (.putfield 7, 3), (.aload_n 0, 1), (.iload_n 2, 1), (.putfield 13, 3), (.iconst 0, 1), (.istore_n 3, 1), (.iload_n 3, 1), (.bipush 81, 2), (.if_icmp .ge 16, 3), (.aload_n 0, 1)] := DS.facts 0 _ (by decide +kernel) (by decide +kernel)
theorem dX11_board_0 : decode cX11_board 0 = .ok (.iload_n 1, 1) := fX11_board_0.1
theorem dX11_board_1 : decode cX11_board 1 = .ok (.iconst 2, 1) := fX11_board_0.2.1
theorem dX11_board_2 : decode cX11_board 2 = .ok (.bipush 9, 2) := fX11_board_0.2.2.1
theorem dX11_board_4 : decode cX11_board 4 = .ok (.invokestatic 69, 3) := fX11_board_0.2.2.2.1
theorem dX11_board_7 : decode cX11_board 7 = .ok (.ifCond .eq 13, 3) := fX11_board_0.2.2.2.2.1
theorem dX11_board_10 : decode cX11_board 10 = .ok (.iload_n 2, 1) := fX11_board_0.2.2.2.2.2.1
theorem dX11_board_11 : decode cX11_board 11 = .ok (.iconst 2, 1) := fX11_board_0.2.2.2.2.2.2.1
theorem dX11_board_12 : decode cX11_board 12 = .ok (.bipush 9, 2) := fX11_board_0.2.2.2.2.2.2.2.1
theorem dX11_board_14 : decode cX11_board 14 = .ok (.invokestatic 69, 3) := fX11_board_0.2.2.2.2.2.2.2.2.1
theorem dX11_board_17 : decode cX11_board 17 = .ok (.ifCond .ne 5, 3) := fX11_board_0.2.2.2.2.2.2.2.2.2.1
theorem dX11_board_20 : decode cX11_board 20 = .ok (.iconst 0, 1) := fX11_board_0.2.2.2.2.2.2.2.2.2.2.1
theorem dX11_board_21 : decode cX11_board 21 = .ok (.ireturn, 1) := fX11_board_0.2.2.2.2.2.2.2.2.2.2.2.1
theorem dX11_board_22 : decode cX11_board 22 = .ok (.aload_n 0, 1) := fX11_board_0.2.2.2.2.2.2.2.2.2.2.2.2.1
theorem dX11_board_23 : decode cX11_board 23 = .ok (.iload_n 1, 1) := fX11_board_0.2.2.2.2.2.2.2.2.2.2.2.2.2.1
theorem dX11_board_24 : decode cX11_board 24 = .ok (.putfield 7, 3) := fX11_board_0.2.2.2.2.2.2.2.2.2.2.2.2.2.2.1
theorem dX11_board_27 : decode cX11_board 27 = .ok (.aload_n 0, 1) := fX11_board_0.2.2.2.2.2.2.2.2.2.2.2.2.2.2.2.1
theorem dX11_board_28 : decode cX11_board 28 = .ok (.iload_n 2, 1) := fX11_board_0.2.2.2.2.2.2.2.2.2.2.2.2.2.2.2.2.1
theorem dX11_board_29 : decode cX11_board 29 = .ok (.putfield 13, 3) := fX11_board_0.2.2.2.2.2.2.2.2.2.2.2.2.2.2.2.2.2.1
theorem dX11_board_32 : decode cX11_board 32 = .ok (.iconst 0, 1) := fX11_board_0.2.2.2.2.2.2.2.2.2.2.2.2.2.2.2.2.2.2.1
theorem dX11_board_33 : decode cX11_board 33 = .ok (.istore_n 3, 1) := fX11_board_0.2.2.2.2.2.2.2.2.2.2.2.2.2.2.2.2.2.2.2.1
theorem dX11_board_34 : decode cX11_board 34 = .ok (.iload_n 3, 1) := fX11_board_0.2.2.2.2.2.2.2.2.2.2.2.2.2.2.2.2.2.2.2.2.1
theorem dX11_board_35 : decode cX11_board 35 = .ok (.bipush 81, 2) := fX11_board_0.2.2.2.2.2.2.2.2.2.2.2.2.2.2.2.2.2.2.2.2.2.1
theorem dX11_board_37 : decode cX11_board 37 = .ok (.if_icmp .ge 16, 3) := fX11_board_0.2.2.2.2.2.2.2.2.2.2.2.2.2.2.2.2.2.2.2.2.2.2.1
theorem dX11_board_40 : decode cX11_board 40 = .ok (.aload_n 0, 1) := fX11_board_0.2.2.2.2.2.2.2.2.2.2.2.2.2.2.2.2.2.2.2.2.2.2.2.1
theorem fX11_board_41 : DS.Facts cX11_board 41 [(.getfield 16, 3), (.iload_n 3, 1), (.iconst 0, 1), (.iastore, 1), (.iinc 3 1, 3), (.goto (-16), 3), (.aload_n 0, 1), (.iconst 0, 1), (.putfield 73, 3), (.aload_n 0, 1), (.iconst 0, 1), (.putfield 76, 3), (.iconst 1, 1), (.ireturn, 1)] := DS.facts 41 _ (by decide +kernel) (by decide +kernel)
theorem dX11_board_41 : decode cX11_board 41 = .ok (.getfield 16, 3) := fX11_board_41.1
theorem dX11_board_44 : decode cX11_board 44 = .ok (.iload_n 3, 1) := fX11_board_41.2.1
theorem dX11_board_45 : decode cX11_board 45 = .ok (.iconst 0, 1) := fX11_board_41.2.2.1
theorem dX11_board_46 : decode cX11_board 46 = .ok (.iastore, 1) := fX11_board_41.2.2.2.1
theorem dX11_board_47 : decode cX11_board 47 = .ok (.iinc 3 1, 3) := fX11_board_41.2.2.2.2.1
theorem dX11_board_50 : decode cX11_board 50 = .ok (.goto (-16), 3) := fX11_board_41.2.2.2.2.2.1
theorem dX11_board_53 : decode cX11_board 53 = .ok (.aload_n 0, 1) := fX11_board_41.2.2.2.2.2.2.1
theorem dX11_board_54 : decode cX11_board 54 = .ok (.iconst 0, 1) := fX11_board_41.2.2.2.2.2.2.2.1
theorem dX11_board_55 : decode cX11_board 55 = .ok (.putfield 73, 3) := fX11_board_41.2.2.2.2.2.2.2.2.1
theorem dX11_board_58 : decode cX11_board 58 = .ok (.aload_n 0, 1) := fX11_board_41.2.2.2.2.2.2.2.2.2.1
theorem dX11_board_59 : decode cX11_board 59 = .ok (.iconst 0, 1) := fX11_board_41.2.2.2.2.2.2.2.2.2.2.1
theorem dX11_board_60 : decode cX11_board 60 = .ok (.putfield 76, 3) := fX11_board_41.2.2.2.2.2.2.2.2.2.2.2.1
theorem dX11_board_63 : decode cX11_board 63 = .ok (.iconst 1, 1) := fX11_board_41.2.2.2.2.2.2.2.2.2.2.2.2.1
theorem dX11_board_64 : decode cX11_board 64 = .ok (.ireturn, 1) := fX11_board_41.2.2.2.2.2.2.2.2.2.2.2.2.2.1
set_option maxRecDepth 20000 in
theorem ggX11_line_X11_isIn : GoodIn wsX11_line wsX11_isIn := goodIn_r _ [8] (by decide +kernel) (by decide +kernel)
set_option maxRecDepth 20000 in
theorem gX11_line_X11_isIn : GoodIn wsX11_line (va_wsS RX11 69 yX11_isIn wsX11_isIn) := goodIn_app (goodIn_of _ (by decide +kernel)) ggX11_line_X11_isIn
theorem fX11_line_0 : DS.Facts cX11_line 0 [(.aload_n 0, 1), (.getfield 73, 3), (.ifCond .gt 29, 3), (.iload_n 1, 1), (.iconst 0, 1), (.aload_n 0, 1), (.getfield 7, 3), (.iconst 1, 1), (.isub, 1), (.invokestatic 69, 3), (.ifCond .eq 15, 3), (.iload_n 2, 1), (.iconst 0, 1), (.aload_n 0, 1), (.getfield 13, 3), (.invokestatic 69, 3), (.ifCond .ne 5, 3), (.iconst 0, 1), (.ireturn, 1), (.iconst 0, 1), (.istore 4, 2), (.iload 4, 2), (.aload_n 0, 1), (.getfield 13, 3)] := DS.facts 0 _ (by decide +kernel) (by decide +kernel)
theorem dX11_line_0 : decode cX11_line 0 = .ok (.aload_n 0, 1) := fX11_line_0.1
theorem dX11_line_1 : decode cX11_line 1 = .ok (.getfield 73, 3) := fX11_line_0.2.1
theorem dX11_line_4 : decode cX11_line 4 = .ok (.ifCond .gt 29, 3) := fX11_line_0.2.2.1
theorem dX11_line_7 : decode cX11_line 7 = .ok (.iload_n 1, 1) := fX11_line_0.2.2.2.1
theorem dX11_line_8 : decode cX11_line 8 = .ok (.iconst 0, 1) := fX11_line_0.2.2.2.2.1
theorem dX11_line_9 : decode cX11_line 9 = .ok (.aload_n 0, 1) := fX11_line_0.2.2.2.2.2.1
theorem dX11_line_10 : decode cX11_line 10 = .ok (.getfield 7, 3) := fX11_line_0.2.2.2.2.2.2.1
theorem dX11_line_13 : decode cX11_line 13 = .ok (.iconst 1, 1) := fX11_line_0.2.2.2.2.2.2.2.1
theorem dX11_line_14 : decode cX11_line 14 = .ok (.isub, 1) := fX11_line_0.2.2.2.2.2.2.2.2.1
theorem dX11_line_15 : decode cX11_line 15 = .ok (.invokestatic 69, 3) := fX11_line_0.2.2.2.2.2.2.2.2.2.1
theorem dX11_line_18 : decode cX11_line 18 = .ok (.ifCond .eq 15, 3) := fX11_line_0.2.2.2.2.2.2.2.2.2.2.1
theorem dX11_line_21 : decode cX11_line 21 = .ok (.iload_n 2, 1) := fX11_line_0.2.2.2.2.2.2.2.2.2.2.2.1
theorem dX11_line_22 : decode cX11_line 22 = .ok (.iconst 0, 1) := fX11_line_0.2.2.2.2.2.2.2.2.2.2.2.2.1
theorem dX11_line_23 : decode cX11_line 23 = .ok (.aload_n 0, 1) := fX11_line_0.2.2.2.2.2.2.2.2.2.2.2.2.2.1
theorem dX11_line_24 : decode cX11_line 24 = .ok (.getfield 13, 3) := fX11_line_0.2.2.2.2.2.2.2.2.2.2.2.2.2.2.1
theorem dX11_line_27 : decode cX11_line 27 = .ok (.invokestatic 69, 3) := fX11_line_0.2.2.2.2.2.2.2.2.2.2.2.2.2.2.2.1
theorem dX11_line_30 : decode cX11_line 30 = .ok (.ifCond .ne 5, 3) := fX11_line_0.2.2.2.2.2.2.2.2.2.2.2.2.2.2.2.2.1
theorem dX11_line_33 : decode cX11_line 33 = .ok (.iconst 0, 1) := fX11_line_0.2.2.2.2.2.2.2.2.2.2.2.2.2.2.2.2.2.1
theorem dX11_line_34 : decode cX11_line 34 = .ok (.ireturn, 1) := fX11_line_0.2.2.2.2.2.2.2.2.2.2.2.2.2.2.2.2.2.2.1
theorem dX11_line_35 : decode cX11_line 35 = .ok (.iconst 0, 1) := fX11_line_0.2.2.2.2.2.2.2.2.2.2.2.2.2.2.2.2.2.2.2.1
theorem dX11_line_36 : decode cX11_line 36 = .ok (.istore 4, 2) := fX11_line_0.2.2.2.2.2.2.2.2.2.2.2.2.2.2.2.2.2.2.2.2.1
theorem dX11_line_38 : decode cX11_line 38 = .ok (.iload 4, 2) := fX11_line_0.2.2.2.2.2.2.2.2.2.2.2.2.2.2.2.2.2.2.2.2.2.1
theorem dX11_line_40 : decode cX11_line 40 = .ok (.aload_n 0, 1) := fX11_line_0.2.2.2.2.2.2.2.2.2.2.2.2.2.2.2.2.2.2.2.2.2.2.1
theorem dX11_line_41 : decode cX11_line 41 = .ok (.getfield 13, 3) := fX11_line_0.2.2.2.2.2.2.2.2.2.2.2.2.2.2.2.2.2.2.2.2.2.2.2.1
theorem fX11_line_44 : DS.Facts cX11_line 44 [(.if_icmp .ge 42, 3), (.aload_n 0, 1), (.getfield 16, 3), (.aload_n 0, 1), (.getfield 13, 3), (.iload_n 1, 1), (.imul, 1), (.iload 4, 2), (.iadd, 1), (.iload 4, 2), (.iload_n 2, 1), (.if_icmp .ge 15, 3), (.iload_n 3, 1), (.iconst 3, 1), (.iload 4, 2), (.imul, 1), (.ishr, 1), (.bipush 7, 2), (.iand, 1), (.goto 4, 3), (.iconst 0, 1), (.iastore, 1), (.iinc 4 1, 3), (.goto (-45), 3)] := DS.facts 44 _ (by decide +kernel) (by decide +kernel)
theorem dX11_line_44 : decode cX11_line 44 = .ok (.if_icmp .ge 42, 3) := fX11_line_44.1
theorem dX11_line_47 : decode cX11_line 47 = .ok (.aload_n 0, 1) := fX11_line_44.2.1
theorem dX11_line_48 : decode cX11_line 48 = .ok (.getfield 16, 3) := fX11_line_44.2.2.1
theorem dX11_line_51 : decode cX11_line 51 = .ok (.aload_n 0, 1) := fX11_line_44.2.2.2.1
theorem dX11_line_52 : decode cX11_line 52 = .ok (.getfield 13, 3) := fX11_line_44.2.2.2.2.1
theorem dX11_line_55 : decode cX11_line 55 = .ok (.iload_n 1, 1) := fX11_line_44.2.2.2.2.2.1
theorem dX11_line_56 : decode cX11_line 56 = .ok (.imul, 1) := fX11_line_44.2.2.2.2.2.2.1
theorem dX11_line_57 : decode cX11_line 57 = .ok (.iload 4, 2) := fX11_line_44.2.2.2.2.2.2.2.1
theorem dX11_line_59 : decode cX11_line 59 = .ok (.iadd, 1) := fX11_line_44.2.2.2.2.2.2.2.2.1
theorem dX11_line_60 : decode cX11_line 60 = .ok (.iload 4, 2) := fX11_line_44.2.2.2.2.2.2.2.2.2.1
theorem dX11_line_62 : decode cX11_line 62 = .ok (.iload_n 2, 1) := fX11_line_44.2.2.2.2.2.2.2.2.2.2.1
theorem dX11_line_63 : decode cX11_line 63 = .ok (.if_icmp .ge 15, 3) := fX11_line_44.2.2.2.2.2.2.2.2.2.2.2.1
theorem dX11_line_66 : decode cX11_line 66 = .ok (.iload_n 3, 1) := fX11_line_44.2.2.2.2.2.2.2.2.2.2.2.2.1
theorem dX11_line_67 : decode cX11_line 67 = .ok (.iconst 3, 1) := fX11_line_44.2.2.2.2.2.2.2.2.2.2.2.2.2.1
theorem dX11_line_68 : decode cX11_line 68 = .ok (.iload 4, 2) := fX11_line_44.2.2.2.2.2.2.2.2.2.2.2.2.2.2.1
theorem dX11_line_70 : decode cX11_line 70 = .ok (.imul, 1) := fX11_line_44.2.2.2.2.2.2.2.2.2.2.2.2.2.2.2.1
theorem dX11_line_71 : decode cX11_line 71 = .ok (.ishr, 1) := fX11_line_44.2.2.2.2.2.2.2.2.2.2.2.2.2.2.2.2.1
theorem dX11_line_72 : decode cX11_line 72 = .ok (.bipush 7, 2) := fX11_line_44.2.2.2.2.2.2.2.2.2.2.2.2.2.2.2.2.2.1
theorem dX11_line_74 : decode cX11_line 74 = .ok (.iand, 1) := fX11_line_44.2.2.2.2.2.2.2.2.2.2.2.2.2.2.2.2.2.2.1
theorem dX11_line_75 : decode cX11_line 75 = .ok (.goto 4, 3) := fX11_line_44.2.2.2.2.2.2.2.2.2.2.2.2.2.2.2.2.2.2.2.1
theorem dX11_line_78 : decode cX11_line 78 = .ok (.iconst 0, 1) := fX11_line_44.2.2.2.2.2.2.2.2.2.2.2.2.2.2.2.2.2.2.2.2.1
theorem dX11_line_79 : decode cX11_line 79 = .ok (.iastore, 1) := fX11_line_44.2.2.2.2.2.2.2.2.2.2.2.2.2.2.2.2.2.2.2.2.2.1
theorem dX11_line_80 : decode cX11_line 80 = .ok (.iinc 4 1, 3) := fX11_line_44.2.2.2.2.2.2.2.2.2.2.2.2.2.2.2.2.2.2.2.2.2.2.1
theorem dX11_line_83 : decode cX11_line 83 = .ok (.goto (-45), 3) := fX11_line_44.2.2.2.2.2.2.2.2.2.2.2.2.2.2.2.2.2.2.2.2.2.2.2.1
theorem fX11_line_86 : DS.Facts cX11_line 86 [(.iconst 1, 1), (.ireturn, 1)] := DS.facts 86 _ (by decide +kernel) (by decide +kernel)
theorem dX11_line_86 : decode cX11_line 86 = .ok (.iconst 1, 1) := fX11_line_86.1
theorem dX11_line_87 : decode cX11_line 87 = .ok (.ireturn, 1) := fX11_line_86.2.1
set_option maxRecDepth 20000 in
theorem ggX11_law_X11_isIn : GoodIn wsX11_law wsX11_isIn := goodIn_r _ [10] (by decide +kernel) (by decide +kernel)
set_option maxRecDepth 20000 in
theorem gX11_law_X11_isIn : GoodIn wsX11_law (va_wsS RX11 69 yX11_isIn wsX11_isIn) := goodIn_app (goodIn_of _ (by decide +kernel)) ggX11_law_X11_isIn
theorem fX11_law_0 : DS.Facts cX11_law 0 [(.aload_n 0, 1), (.getfield 73, 3), (.ifCond .gt 43, 3), (.iload_n 1, 1), (.iconst 0, 1), (.iconst 1, 1), (.invokestatic 69, 3), (.ifCond .eq 34, 3), (.iload_n 2, 1), (.iconst 2, 1), (.if_icmp .eq 8, 3), (.iload_n 2, 1), (.iconst 4, 1), (.if_icmp .ne 24, 3), (.iload 4, 2), (.iconst 0, 1), (.bipush 8, 2), (.invokestatic 69, 3), (.ifCond .eq 13, 3), (.iload 5, 2), (.iconst 0, 1), (.iconst 1, 1), (.invokestatic 69, 3), (.ifCond .ne 5, 3)] := DS.facts 0 _ (by decide +kernel) (by decide +kernel)
theorem dX11_law_0 : decode cX11_law 0 = .ok (.aload_n 0, 1) := fX11_law_0.1
theorem dX11_law_1 : decode cX11_law 1 = .ok (.getfield 73, 3) := fX11_law_0.2.1
theorem dX11_law_4 : decode cX11_law 4 = .ok (.ifCond .gt 43, 3) := fX11_law_0.2.2.1
theorem dX11_law_7 : decode cX11_law 7 = .ok (.iload_n 1, 1) := fX11_law_0.2.2.2.1
theorem dX11_law_8 : decode cX11_law 8 = .ok (.iconst 0, 1) := fX11_law_0.2.2.2.2.1
theorem dX11_law_9 : decode cX11_law 9 = .ok (.iconst 1, 1) := fX11_law_0.2.2.2.2.2.1
theorem dX11_law_10 : decode cX11_law 10 = .ok (.invokestatic 69, 3) := fX11_law_0.2.2.2.2.2.2.1
theorem dX11_law_13 : decode cX11_law 13 = .ok (.ifCond .eq 34, 3) := fX11_law_0.2.2.2.2.2.2.2.1
theorem dX11_law_16 : decode cX11_law 16 = .ok (.iload_n 2, 1) := fX11_law_0.2.2.2.2.2.2.2.2.1
theorem dX11_law_17 : decode cX11_law 17 = .ok (.iconst 2, 1) := fX11_law_0.2.2.2.2.2.2.2.2.2.1
theorem dX11_law_18 : decode cX11_law 18 = .ok (.if_icmp .eq 8, 3) := fX11_law_0.2.2.2.2.2.2.2.2.2.2.1
theorem dX11_law_21 : decode cX11_law 21 = .ok (.iload_n 2, 1) := fX11_law_0.2.2.2.2.2.2.2.2.2.2.2.1
theorem dX11_law_22 : decode cX11_law 22 = .ok (.iconst 4, 1) := fX11_law_0.2.2.2.2.2.2.2.2.2.2.2.2.1
theorem dX11_law_23 : decode cX11_law 23 = .ok (.if_icmp .ne 24, 3) := fX11_law_0.2.2.2.2.2.2.2.2.2.2.2.2.2.1
theorem dX11_law_26 : decode cX11_law 26 = .ok (.iload 4, 2) := fX11_law_0.2.2.2.2.2.2.2.2.2.2.2.2.2.2.1
theorem dX11_law_28 : decode cX11_law 28 = .ok (.iconst 0, 1) := fX11_law_0.2.2.2.2.2.2.2.2.2.2.2.2.2.2.2.1
theorem dX11_law_29 : decode cX11_law 29 = .ok (.bipush 8, 2) := fX11_law_0.2.2.2.2.2.2.2.2.2.2.2.2.2.2.2.2.1
theorem dX11_law_31 : decode cX11_law 31 = .ok (.invokestatic 69, 3) := fX11_law_0.2.2.2.2.2.2.2.2.2.2.2.2.2.2.2.2.2.1
theorem dX11_law_34 : decode cX11_law 34 = .ok (.ifCond .eq 13, 3) := fX11_law_0.2.2.2.2.2.2.2.2.2.2.2.2.2.2.2.2.2.2.1
theorem dX11_law_37 : decode cX11_law 37 = .ok (.iload 5, 2) := fX11_law_0.2.2.2.2.2.2.2.2.2.2.2.2.2.2.2.2.2.2.2.1
theorem dX11_law_39 : decode cX11_law 39 = .ok (.iconst 0, 1) := fX11_law_0.2.2.2.2.2.2.2.2.2.2.2.2.2.2.2.2.2.2.2.2.1
theorem dX11_law_40 : decode cX11_law 40 = .ok (.iconst 1, 1) := fX11_law_0.2.2.2.2.2.2.2.2.2.2.2.2.2.2.2.2.2.2.2.2.2.1
theorem dX11_law_41 : decode cX11_law 41 = .ok (.invokestatic 69, 3) := fX11_law_0.2.2.2.2.2.2.2.2.2.2.2.2.2.2.2.2.2.2.2.2.2.2.1
theorem dX11_law_44 : decode cX11_law 44 = .ok (.ifCond .ne 5, 3) := fX11_law_0.2.2.2.2.2.2.2.2.2.2.2.2.2.2.2.2.2.2.2.2.2.2.2.1
theorem fX11_law_47 : DS.Facts cX11_law 47 [(.iconst 0, 1), (.ireturn, 1), (.aload_n 0, 1), (.iload_n 1, 1), (.putfield 79, 3), (.aload_n 0, 1), (.iload_n 2, 1), (.putfield 20, 3), (.aload_n 0, 1), (.iload_n 3, 1), (.putfield 23, 3), (.aload_n 0, 1), (.iload 4, 2), (.putfield 82, 3), (.aload_n 0, 1), (.iload 5, 2), (.putfield 85, 3), (.iconst 1, 1), (.ireturn, 1)] := DS.facts 47 _ (by decide +kernel) (by decide +kernel)
theorem dX11_law_47 : decode cX11_law 47 = .ok (.iconst 0, 1) := fX11_law_47.1
theorem dX11_law_48 : decode cX11_law 48 = .ok (.ireturn, 1) := fX11_law_47.2.1
theorem dX11_law_49 : decode cX11_law 49 = .ok (.aload_n 0, 1) := fX11_law_47.2.2.1
theorem dX11_law_50 : decode cX11_law 50 = .ok (.iload_n 1, 1) := fX11_law_47.2.2.2.1
theorem dX11_law_51 : decode cX11_law 51 = .ok (.putfield 79, 3) := fX11_law_47.2.2.2.2.1
theorem dX11_law_54 : decode cX11_law 54 = .ok (.aload_n 0, 1) := fX11_law_47.2.2.2.2.2.1
theorem dX11_law_55 : decode cX11_law 55 = .ok (.iload_n 2, 1) := fX11_law_47.2.2.2.2.2.2.1
theorem dX11_law_56 : decode cX11_law 56 = .ok (.putfield 20, 3) := fX11_law_47.2.2.2.2.2.2.2.1
theorem dX11_law_59 : decode cX11_law 59 = .ok (.aload_n 0, 1) := fX11_law_47.2.2.2.2.2.2.2.2.1
theorem dX11_law_60 : decode cX11_law 60 = .ok (.iload_n 3, 1) := fX11_law_47.2.2.2.2.2.2.2.2.2.1
theorem dX11_law_61 : decode cX11_law 61 = .ok (.putfield 23, 3) := fX11_law_47.2.2.2.2.2.2.2.2.2.2.1
theorem dX11_law_64 : decode cX11_law 64 = .ok (.aload_n 0, 1) := fX11_law_47.2.2.2.2.2.2.2.2.2.2.2.1
theorem dX11_law_65 : decode cX11_law 65 = .ok (.iload 4, 2) := fX11_law_47.2.2.2.2.2.2.2.2.2.2.2.2.1
theorem dX11_law_67 : decode cX11_law 67 = .ok (.putfield 82, 3) := fX11_law_47.2.2.2.2.2.2.2.2.2.2.2.2.2.1
theorem dX11_law_70 : decode cX11_law 70 = .ok (.aload_n 0, 1) := fX11_law_47.2.2.2.2.2.2.2.2.2.2.2.2.2.2.1
theorem dX11_law_71 : decode cX11_law 71 = .ok (.iload 5, 2) := fX11_law_47.2.2.2.2.2.2.2.2.2.2.2.2.2.2.2.1
theorem dX11_law_73 : decode cX11_law 73 = .ok (.putfield 85, 3) := fX11_law_47.2.2.2.2.2.2.2.2.2.2.2.2.2.2.2.2.1
theorem dX11_law_76 : decode cX11_law 76 = .ok (.iconst 1, 1) := fX11_law_47.2.2.2.2.2.2.2.2.2.2.2.2.2.2.2.2.2.1
theorem dX11_law_77 : decode cX11_law 77 = .ok (.ireturn, 1) := fX11_law_47.2.2.2.2.2.2.2.2.2.2.2.2.2.2.2.2.2.2.1
theorem fX11_sideOf_0 : DS.Facts cX11_sideOf 0 [(.aload_n 0, 1), (.getfield 27, 3), (.iload_n 1, 1), (.iaload, 1), (.iconst 2, 1), (.if_icmp .le 7, 3), (.iconst 1, 1), (.goto 4, 3), (.iconst 0, 1), (.ireturn, 1)] := DS.facts 0 _ (by decide +kernel) (by decide +kernel)
theorem dX11_sideOf_0 : decode cX11_sideOf 0 = .ok (.aload_n 0, 1) := fX11_sideOf_0.1
theorem dX11_sideOf_1 : decode cX11_sideOf 1 = .ok (.getfield 27, 3) := fX11_sideOf_0.2.1
theorem dX11_sideOf_4 : decode cX11_sideOf 4 = .ok (.iload_n 1, 1) := fX11_sideOf_0.2.2.1
theorem dX11_sideOf_5 : decode cX11_sideOf 5 = .ok (.iaload, 1) := fX11_sideOf_0.2.2.2.1
theorem dX11_sideOf_6 : decode cX11_sideOf 6 = .ok (.iconst 2, 1) := fX11_sideOf_0.2.2.2.2.1
theorem dX11_sideOf_7 : decode cX11_sideOf 7 = .ok (.if_icmp .le 7, 3) := fX11_sideOf_0.2.2.2.2.2.1
theorem dX11_sideOf_10 : decode cX11_sideOf 10 = .ok (.iconst 1, 1) := fX11_sideOf_0.2.2.2.2.2.2.1
theorem dX11_sideOf_11 : decode cX11_sideOf 11 = .ok (.goto 4, 3) := fX11_sideOf_0.2.2.2.2.2.2.2.1
theorem dX11_sideOf_14 : decode cX11_sideOf 14 = .ok (.iconst 0, 1) := fX11_sideOf_0.2.2.2.2.2.2.2.2.1
theorem dX11_sideOf_15 : decode cX11_sideOf 15 = .ok (.ireturn, 1) := fX11_sideOf_0.2.2.2.2.2.2.2.2.2.1
theorem fX11_takes_0 : DS.Facts cX11_takes 0 [(.aload_n 0, 1), (.getfield 27, 3), (.iload_n 1, 1), (.iaload, 1), (.iconst 2, 1), (.if_icmp .ne 10, 3), (.aload_n 0, 1), (.getfield 23, 3), (.ifCond .eq 7, 3), (.iconst 1, 1), (.goto 4, 3), (.iconst 0, 1), (.ireturn, 1)] := DS.facts 0 _ (by decide +kernel) (by decide +kernel)
theorem dX11_takes_0 : decode cX11_takes 0 = .ok (.aload_n 0, 1) := fX11_takes_0.1
theorem dX11_takes_1 : decode cX11_takes 1 = .ok (.getfield 27, 3) := fX11_takes_0.2.1
theorem dX11_takes_4 : decode cX11_takes 4 = .ok (.iload_n 1, 1) := fX11_takes_0.2.2.1
theorem dX11_takes_5 : decode cX11_takes 5 = .ok (.iaload, 1) := fX11_takes_0.2.2.2.1
theorem dX11_takes_6 : decode cX11_takes 6 = .ok (.iconst 2, 1) := fX11_takes_0.2.2.2.2.1
theorem dX11_takes_7 : decode cX11_takes 7 = .ok (.if_icmp .ne 10, 3) := fX11_takes_0.2.2.2.2.2.1
theorem dX11_takes_10 : decode cX11_takes 10 = .ok (.aload_n 0, 1) := fX11_takes_0.2.2.2.2.2.2.1
theorem dX11_takes_11 : decode cX11_takes 11 = .ok (.getfield 23, 3) := fX11_takes_0.2.2.2.2.2.2.2.1
theorem dX11_takes_14 : decode cX11_takes 14 = .ok (.ifCond .eq 7, 3) := fX11_takes_0.2.2.2.2.2.2.2.2.1
theorem dX11_takes_17 : decode cX11_takes 17 = .ok (.iconst 1, 1) := fX11_takes_0.2.2.2.2.2.2.2.2.2.1
theorem dX11_takes_18 : decode cX11_takes 18 = .ok (.goto 4, 3) := fX11_takes_0.2.2.2.2.2.2.2.2.2.2.1
theorem dX11_takes_21 : decode cX11_takes 21 = .ok (.iconst 0, 1) := fX11_takes_0.2.2.2.2.2.2.2.2.2.2.2.1
theorem dX11_takes_22 : decode cX11_takes 22 = .ok (.ireturn, 1) := fX11_takes_0.2.2.2.2.2.2.2.2.2.2.2.2.1
set_option maxRecDepth 20000 in
theorem ggX11_isGoal_X11_fields : GoodIn wsX11_isGoal wsX11_fields := goodIn_r _ [8, 9, 3, 10, 11, 12, 13, 14, 15, 16, 17, 18, 19, 20, 21, 22, 23, 24, 25, 26, 27, 28, 29, 30, 31, 32, 33, 34, 35, 36, 37, 38] (by decide +kernel) (by decide +kernel)
set_option maxRecDepth 20000 in
theorem gX11_isGoal_X11_fields : GoodIn wsX11_isGoal (wsV RX11 88 RX11 yX11_fields wsX11_fields) := goodIn_app (goodIn_of _ (by decide +kernel)) ggX11_isGoal_X11_fields
theorem fX11_isGoal_0 : DS.Facts cX11_isGoal 0 [(.aload_n 0, 1), (.getfield 79, 3), (.ifCond .ne 20, 3), (.aload_n 0, 1), (.getfield 36, 3), (.iload_n 1, 1), (.iaload, 1), (.bipush 6, 2), (.if_icmp .ne 7, 3), (.iconst 1, 1), (.goto 4, 3), (.iconst 0, 1), (.ireturn, 1), (.iload_n 1, 1), (.aload_n 0, 1), (.getfield 13, 3), (.if_icmp .lt 40, 3), (.iload_n 1, 1), (.aload_n 0, 1), (.invokevirtual 88, 3), (.aload_n 0, 1), (.getfield 13, 3), (.isub, 1), (.if_icmp .ge 27, 3)] := DS.facts 0 _ (by decide +kernel) (by decide +kernel)
theorem dX11_isGoal_0 : decode cX11_isGoal 0 = .ok (.aload_n 0, 1) := fX11_isGoal_0.1
theorem dX11_isGoal_1 : decode cX11_isGoal 1 = .ok (.getfield 79, 3) := fX11_isGoal_0.2.1
theorem dX11_isGoal_4 : decode cX11_isGoal 4 = .ok (.ifCond .ne 20, 3) := fX11_isGoal_0.2.2.1
theorem dX11_isGoal_7 : decode cX11_isGoal 7 = .ok (.aload_n 0, 1) := fX11_isGoal_0.2.2.2.1
theorem dX11_isGoal_8 : decode cX11_isGoal 8 = .ok (.getfield 36, 3) := fX11_isGoal_0.2.2.2.2.1
theorem dX11_isGoal_11 : decode cX11_isGoal 11 = .ok (.iload_n 1, 1) := fX11_isGoal_0.2.2.2.2.2.1
theorem dX11_isGoal_12 : decode cX11_isGoal 12 = .ok (.iaload, 1) := fX11_isGoal_0.2.2.2.2.2.2.1
theorem dX11_isGoal_13 : decode cX11_isGoal 13 = .ok (.bipush 6, 2) := fX11_isGoal_0.2.2.2.2.2.2.2.1
theorem dX11_isGoal_15 : decode cX11_isGoal 15 = .ok (.if_icmp .ne 7, 3) := fX11_isGoal_0.2.2.2.2.2.2.2.2.1
theorem dX11_isGoal_18 : decode cX11_isGoal 18 = .ok (.iconst 1, 1) := fX11_isGoal_0.2.2.2.2.2.2.2.2.2.1
theorem dX11_isGoal_19 : decode cX11_isGoal 19 = .ok (.goto 4, 3) := fX11_isGoal_0.2.2.2.2.2.2.2.2.2.2.1
theorem dX11_isGoal_22 : decode cX11_isGoal 22 = .ok (.iconst 0, 1) := fX11_isGoal_0.2.2.2.2.2.2.2.2.2.2.2.1
theorem dX11_isGoal_23 : decode cX11_isGoal 23 = .ok (.ireturn, 1) := fX11_isGoal_0.2.2.2.2.2.2.2.2.2.2.2.2.1
theorem dX11_isGoal_24 : decode cX11_isGoal 24 = .ok (.iload_n 1, 1) := fX11_isGoal_0.2.2.2.2.2.2.2.2.2.2.2.2.2.1
theorem dX11_isGoal_25 : decode cX11_isGoal 25 = .ok (.aload_n 0, 1) := fX11_isGoal_0.2.2.2.2.2.2.2.2.2.2.2.2.2.2.1
theorem dX11_isGoal_26 : decode cX11_isGoal 26 = .ok (.getfield 13, 3) := fX11_isGoal_0.2.2.2.2.2.2.2.2.2.2.2.2.2.2.2.1
theorem dX11_isGoal_29 : decode cX11_isGoal 29 = .ok (.if_icmp .lt 40, 3) := fX11_isGoal_0.2.2.2.2.2.2.2.2.2.2.2.2.2.2.2.2.1
theorem dX11_isGoal_32 : decode cX11_isGoal 32 = .ok (.iload_n 1, 1) := fX11_isGoal_0.2.2.2.2.2.2.2.2.2.2.2.2.2.2.2.2.2.1
theorem dX11_isGoal_33 : decode cX11_isGoal 33 = .ok (.aload_n 0, 1) := fX11_isGoal_0.2.2.2.2.2.2.2.2.2.2.2.2.2.2.2.2.2.2.1
theorem dX11_isGoal_34 : decode cX11_isGoal 34 = .ok (.invokevirtual 88, 3) := fX11_isGoal_0.2.2.2.2.2.2.2.2.2.2.2.2.2.2.2.2.2.2.2.1
theorem dX11_isGoal_37 : decode cX11_isGoal 37 = .ok (.aload_n 0, 1) := fX11_isGoal_0.2.2.2.2.2.2.2.2.2.2.2.2.2.2.2.2.2.2.2.2.1
theorem dX11_isGoal_38 : decode cX11_isGoal 38 = .ok (.getfield 13, 3) := fX11_isGoal_0.2.2.2.2.2.2.2.2.2.2.2.2.2.2.2.2.2.2.2.2.2.1
theorem dX11_isGoal_41 : decode cX11_isGoal 41 = .ok (.isub, 1) := fX11_isGoal_0.2.2.2.2.2.2.2.2.2.2.2.2.2.2.2.2.2.2.2.2.2.2.1
theorem dX11_isGoal_42 : decode cX11_isGoal 42 = .ok (.if_icmp .ge 27, 3) := fX11_isGoal_0.2.2.2.2.2.2.2.2.2.2.2.2.2.2.2.2.2.2.2.2.2.2.2.1
theorem fX11_isGoal_45 : DS.Facts cX11_isGoal 45 [(.iload_n 1, 1), (.aload_n 0, 1), (.getfield 13, 3), (.irem, 1), (.ifCond .eq 18, 3), (.iload_n 1, 1), (.aload_n 0, 1), (.getfield 13, 3), (.irem, 1), (.aload_n 0, 1), (.getfield 13, 3), (.iconst 1, 1), (.isub, 1), (.if_icmp .ne 7, 3), (.iconst 1, 1), (.goto 4, 3), (.iconst 0, 1), (.ireturn, 1)] := DS.facts 45 _ (by decide +kernel) (by decide +kernel)
theorem dX11_isGoal_45 : decode cX11_isGoal 45 = .ok (.iload_n 1, 1) := fX11_isGoal_45.1
theorem dX11_isGoal_46 : decode cX11_isGoal 46 = .ok (.aload_n 0, 1) := fX11_isGoal_45.2.1
theorem dX11_isGoal_47 : decode cX11_isGoal 47 = .ok (.getfield 13, 3) := fX11_isGoal_45.2.2.1
theorem dX11_isGoal_50 : decode cX11_isGoal 50 = .ok (.irem, 1) := fX11_isGoal_45.2.2.2.1
theorem dX11_isGoal_51 : decode cX11_isGoal 51 = .ok (.ifCond .eq 18, 3) := fX11_isGoal_45.2.2.2.2.1
theorem dX11_isGoal_54 : decode cX11_isGoal 54 = .ok (.iload_n 1, 1) := fX11_isGoal_45.2.2.2.2.2.1
theorem dX11_isGoal_55 : decode cX11_isGoal 55 = .ok (.aload_n 0, 1) := fX11_isGoal_45.2.2.2.2.2.2.1
theorem dX11_isGoal_56 : decode cX11_isGoal 56 = .ok (.getfield 13, 3) := fX11_isGoal_45.2.2.2.2.2.2.2.1
theorem dX11_isGoal_59 : decode cX11_isGoal 59 = .ok (.irem, 1) := fX11_isGoal_45.2.2.2.2.2.2.2.2.1
theorem dX11_isGoal_60 : decode cX11_isGoal 60 = .ok (.aload_n 0, 1) := fX11_isGoal_45.2.2.2.2.2.2.2.2.2.1
theorem dX11_isGoal_61 : decode cX11_isGoal 61 = .ok (.getfield 13, 3) := fX11_isGoal_45.2.2.2.2.2.2.2.2.2.2.1
theorem dX11_isGoal_64 : decode cX11_isGoal 64 = .ok (.iconst 1, 1) := fX11_isGoal_45.2.2.2.2.2.2.2.2.2.2.2.1
theorem dX11_isGoal_65 : decode cX11_isGoal 65 = .ok (.isub, 1) := fX11_isGoal_45.2.2.2.2.2.2.2.2.2.2.2.2.1
theorem dX11_isGoal_66 : decode cX11_isGoal 66 = .ok (.if_icmp .ne 7, 3) := fX11_isGoal_45.2.2.2.2.2.2.2.2.2.2.2.2.2.1
theorem dX11_isGoal_69 : decode cX11_isGoal 69 = .ok (.iconst 1, 1) := fX11_isGoal_45.2.2.2.2.2.2.2.2.2.2.2.2.2.2.1
theorem dX11_isGoal_70 : decode cX11_isGoal 70 = .ok (.goto 4, 3) := fX11_isGoal_45.2.2.2.2.2.2.2.2.2.2.2.2.2.2.2.1
theorem dX11_isGoal_73 : decode cX11_isGoal 73 = .ok (.iconst 0, 1) := fX11_isGoal_45.2.2.2.2.2.2.2.2.2.2.2.2.2.2.2.2.1
theorem dX11_isGoal_74 : decode cX11_isGoal 74 = .ok (.ireturn, 1) := fX11_isGoal_45.2.2.2.2.2.2.2.2.2.2.2.2.2.2.2.2.2.1
theorem fX11_bears_0 : DS.Facts cX11_bears 0 [(.aload_n 0, 1), (.getfield 36, 3), (.iload_n 1, 1), (.iaload, 1), (.ifCond .eq 13, 3), (.aload_n 0, 1), (.getfield 27, 3), (.iload_n 2, 1), (.iaload, 1), (.iconst 2, 1), (.if_icmp .ne 7, 3), (.iconst 1, 1), (.goto 4, 3), (.iconst 0, 1), (.ireturn, 1)] := DS.facts 0 _ (by decide +kernel) (by decide +kernel)
theorem dX11_bears_0 : decode cX11_bears 0 = .ok (.aload_n 0, 1) := fX11_bears_0.1
theorem dX11_bears_1 : decode cX11_bears 1 = .ok (.getfield 36, 3) := fX11_bears_0.2.1
theorem dX11_bears_4 : decode cX11_bears 4 = .ok (.iload_n 1, 1) := fX11_bears_0.2.2.1
theorem dX11_bears_5 : decode cX11_bears 5 = .ok (.iaload, 1) := fX11_bears_0.2.2.2.1
theorem dX11_bears_6 : decode cX11_bears 6 = .ok (.ifCond .eq 13, 3) := fX11_bears_0.2.2.2.2.1
theorem dX11_bears_9 : decode cX11_bears 9 = .ok (.aload_n 0, 1) := fX11_bears_0.2.2.2.2.2.1
theorem dX11_bears_10 : decode cX11_bears 10 = .ok (.getfield 27, 3) := fX11_bears_0.2.2.2.2.2.2.1
theorem dX11_bears_13 : decode cX11_bears 13 = .ok (.iload_n 2, 1) := fX11_bears_0.2.2.2.2.2.2.2.1
theorem dX11_bears_14 : decode cX11_bears 14 = .ok (.iaload, 1) := fX11_bears_0.2.2.2.2.2.2.2.2.1
theorem dX11_bears_15 : decode cX11_bears 15 = .ok (.iconst 2, 1) := fX11_bears_0.2.2.2.2.2.2.2.2.2.1
theorem dX11_bears_16 : decode cX11_bears 16 = .ok (.if_icmp .ne 7, 3) := fX11_bears_0.2.2.2.2.2.2.2.2.2.2.1
theorem dX11_bears_19 : decode cX11_bears 19 = .ok (.iconst 1, 1) := fX11_bears_0.2.2.2.2.2.2.2.2.2.2.2.1
theorem dX11_bears_20 : decode cX11_bears 20 = .ok (.goto 4, 3) := fX11_bears_0.2.2.2.2.2.2.2.2.2.2.2.2.1
theorem dX11_bears_23 : decode cX11_bears 23 = .ok (.iconst 0, 1) := fX11_bears_0.2.2.2.2.2.2.2.2.2.2.2.2.2.1
theorem dX11_bears_24 : decode cX11_bears 24 = .ok (.ireturn, 1) := fX11_bears_0.2.2.2.2.2.2.2.2.2.2.2.2.2.2.1
theorem fX11_along_0 : DS.Facts cX11_along 0 [(.iload_n 1, 1), (.aload_n 0, 1), (.getfield 13, 3), (.idiv, 1), (.istore 4, 2), (.iload_n 1, 1), (.aload_n 0, 1), (.getfield 13, 3), (.irem, 1), (.istore 5, 2), (.iload_n 2, 1), (.ifCond .ne 8, 3), (.iload 4, 2), (.goto 39, 3), (.iload_n 2, 1), (.iconst 1, 1), (.if_icmp .ne 15, 3), (.aload_n 0, 1), (.getfield 13, 3), (.iconst 1, 1), (.isub, 1), (.iload 5, 2), (.isub, 1), (.goto 22, 3)] := DS.facts 0 _ (by decide +kernel) (by decide +kernel)
theorem dX11_along_0 : decode cX11_along 0 = .ok (.iload_n 1, 1) := fX11_along_0.1
theorem dX11_along_1 : decode cX11_along 1 = .ok (.aload_n 0, 1) := fX11_along_0.2.1
theorem dX11_along_2 : decode cX11_along 2 = .ok (.getfield 13, 3) := fX11_along_0.2.2.1
theorem dX11_along_5 : decode cX11_along 5 = .ok (.idiv, 1) := fX11_along_0.2.2.2.1
theorem dX11_along_6 : decode cX11_along 6 = .ok (.istore 4, 2) := fX11_along_0.2.2.2.2.1
theorem dX11_along_8 : decode cX11_along 8 = .ok (.iload_n 1, 1) := fX11_along_0.2.2.2.2.2.1
theorem dX11_along_9 : decode cX11_along 9 = .ok (.aload_n 0, 1) := fX11_along_0.2.2.2.2.2.2.1
theorem dX11_along_10 : decode cX11_along 10 = .ok (.getfield 13, 3) := fX11_along_0.2.2.2.2.2.2.2.1
theorem dX11_along_13 : decode cX11_along 13 = .ok (.irem, 1) := fX11_along_0.2.2.2.2.2.2.2.2.1
theorem dX11_along_14 : decode cX11_along 14 = .ok (.istore 5, 2) := fX11_along_0.2.2.2.2.2.2.2.2.2.1
theorem dX11_along_16 : decode cX11_along 16 = .ok (.iload_n 2, 1) := fX11_along_0.2.2.2.2.2.2.2.2.2.2.1
theorem dX11_along_17 : decode cX11_along 17 = .ok (.ifCond .ne 8, 3) := fX11_along_0.2.2.2.2.2.2.2.2.2.2.2.1
theorem dX11_along_20 : decode cX11_along 20 = .ok (.iload 4, 2) := fX11_along_0.2.2.2.2.2.2.2.2.2.2.2.2.1
theorem dX11_along_22 : decode cX11_along 22 = .ok (.goto 39, 3) := fX11_along_0.2.2.2.2.2.2.2.2.2.2.2.2.2.1
theorem dX11_along_25 : decode cX11_along 25 = .ok (.iload_n 2, 1) := fX11_along_0.2.2.2.2.2.2.2.2.2.2.2.2.2.2.1
theorem dX11_along_26 : decode cX11_along 26 = .ok (.iconst 1, 1) := fX11_along_0.2.2.2.2.2.2.2.2.2.2.2.2.2.2.2.1
theorem dX11_along_27 : decode cX11_along 27 = .ok (.if_icmp .ne 15, 3) := fX11_along_0.2.2.2.2.2.2.2.2.2.2.2.2.2.2.2.2.1
theorem dX11_along_30 : decode cX11_along 30 = .ok (.aload_n 0, 1) := fX11_along_0.2.2.2.2.2.2.2.2.2.2.2.2.2.2.2.2.2.1
theorem dX11_along_31 : decode cX11_along 31 = .ok (.getfield 13, 3) := fX11_along_0.2.2.2.2.2.2.2.2.2.2.2.2.2.2.2.2.2.2.1
theorem dX11_along_34 : decode cX11_along 34 = .ok (.iconst 1, 1) := fX11_along_0.2.2.2.2.2.2.2.2.2.2.2.2.2.2.2.2.2.2.2.1
theorem dX11_along_35 : decode cX11_along 35 = .ok (.isub, 1) := fX11_along_0.2.2.2.2.2.2.2.2.2.2.2.2.2.2.2.2.2.2.2.2.1
theorem dX11_along_36 : decode cX11_along 36 = .ok (.iload 5, 2) := fX11_along_0.2.2.2.2.2.2.2.2.2.2.2.2.2.2.2.2.2.2.2.2.2.1
theorem dX11_along_38 : decode cX11_along 38 = .ok (.isub, 1) := fX11_along_0.2.2.2.2.2.2.2.2.2.2.2.2.2.2.2.2.2.2.2.2.2.2.1
theorem dX11_along_39 : decode cX11_along 39 = .ok (.goto 22, 3) := fX11_along_0.2.2.2.2.2.2.2.2.2.2.2.2.2.2.2.2.2.2.2.2.2.2.2.1
theorem fX11_along_42 : DS.Facts cX11_along 42 [(.iload_n 2, 1), (.iconst 2, 1), (.if_icmp .ne 15, 3), (.aload_n 0, 1), (.getfield 7, 3), (.iconst 1, 1), (.isub, 1), (.iload 4, 2), (.isub, 1), (.goto 5, 3), (.iload 5, 2), (.istore 6, 2), (.iload_n 3, 1), (.iload 6, 2), (.if_icmp .le 5, 3), (.iconst (-1), 1), (.ireturn, 1), (.iload_n 1, 1), (.iload_n 3, 1), (.iload_n 2, 1), (.ifCond .ne 11, 3), (.aload_n 0, 1), (.getfield 13, 3), (.ineg, 1)] := DS.facts 42 _ (by decide +kernel) (by decide +kernel)
theorem dX11_along_42 : decode cX11_along 42 = .ok (.iload_n 2, 1) := fX11_along_42.1
theorem dX11_along_43 : decode cX11_along 43 = .ok (.iconst 2, 1) := fX11_along_42.2.1
theorem dX11_along_44 : decode cX11_along 44 = .ok (.if_icmp .ne 15, 3) := fX11_along_42.2.2.1
theorem dX11_along_47 : decode cX11_along 47 = .ok (.aload_n 0, 1) := fX11_along_42.2.2.2.1
theorem dX11_along_48 : decode cX11_along 48 = .ok (.getfield 7, 3) := fX11_along_42.2.2.2.2.1
theorem dX11_along_51 : decode cX11_along 51 = .ok (.iconst 1, 1) := fX11_along_42.2.2.2.2.2.1
theorem dX11_along_52 : decode cX11_along 52 = .ok (.isub, 1) := fX11_along_42.2.2.2.2.2.2.1
theorem dX11_along_53 : decode cX11_along 53 = .ok (.iload 4, 2) := fX11_along_42.2.2.2.2.2.2.2.1
theorem dX11_along_55 : decode cX11_along 55 = .ok (.isub, 1) := fX11_along_42.2.2.2.2.2.2.2.2.1
theorem dX11_along_56 : decode cX11_along 56 = .ok (.goto 5, 3) := fX11_along_42.2.2.2.2.2.2.2.2.2.1
theorem dX11_along_59 : decode cX11_along 59 = .ok (.iload 5, 2) := fX11_along_42.2.2.2.2.2.2.2.2.2.2.1
theorem dX11_along_61 : decode cX11_along 61 = .ok (.istore 6, 2) := fX11_along_42.2.2.2.2.2.2.2.2.2.2.2.1
theorem dX11_along_63 : decode cX11_along 63 = .ok (.iload_n 3, 1) := fX11_along_42.2.2.2.2.2.2.2.2.2.2.2.2.1
theorem dX11_along_64 : decode cX11_along 64 = .ok (.iload 6, 2) := fX11_along_42.2.2.2.2.2.2.2.2.2.2.2.2.2.1
theorem dX11_along_66 : decode cX11_along 66 = .ok (.if_icmp .le 5, 3) := fX11_along_42.2.2.2.2.2.2.2.2.2.2.2.2.2.2.1
theorem dX11_along_69 : decode cX11_along 69 = .ok (.iconst (-1), 1) := fX11_along_42.2.2.2.2.2.2.2.2.2.2.2.2.2.2.2.1
theorem dX11_along_70 : decode cX11_along 70 = .ok (.ireturn, 1) := fX11_along_42.2.2.2.2.2.2.2.2.2.2.2.2.2.2.2.2.1
theorem dX11_along_71 : decode cX11_along 71 = .ok (.iload_n 1, 1) := fX11_along_42.2.2.2.2.2.2.2.2.2.2.2.2.2.2.2.2.2.1
theorem dX11_along_72 : decode cX11_along 72 = .ok (.iload_n 3, 1) := fX11_along_42.2.2.2.2.2.2.2.2.2.2.2.2.2.2.2.2.2.2.1
theorem dX11_along_73 : decode cX11_along 73 = .ok (.iload_n 2, 1) := fX11_along_42.2.2.2.2.2.2.2.2.2.2.2.2.2.2.2.2.2.2.2.1
theorem dX11_along_74 : decode cX11_along 74 = .ok (.ifCond .ne 11, 3) := fX11_along_42.2.2.2.2.2.2.2.2.2.2.2.2.2.2.2.2.2.2.2.2.1
theorem dX11_along_77 : decode cX11_along 77 = .ok (.aload_n 0, 1) := fX11_along_42.2.2.2.2.2.2.2.2.2.2.2.2.2.2.2.2.2.2.2.2.2.1
theorem dX11_along_78 : decode cX11_along 78 = .ok (.getfield 13, 3) := fX11_along_42.2.2.2.2.2.2.2.2.2.2.2.2.2.2.2.2.2.2.2.2.2.2.1
theorem dX11_along_81 : decode cX11_along 81 = .ok (.ineg, 1) := fX11_along_42.2.2.2.2.2.2.2.2.2.2.2.2.2.2.2.2.2.2.2.2.2.2.2.1
theorem fX11_along_82 : DS.Facts cX11_along 82 [(.goto 25, 3), (.iload_n 2, 1), (.iconst 1, 1), (.if_icmp .ne 7, 3), (.iconst 1, 1), (.goto 16, 3), (.iload_n 2, 1), (.iconst 2, 1), (.if_icmp .ne 10, 3), (.aload_n 0, 1), (.getfield 13, 3), (.goto 4, 3), (.iconst (-1), 1), (.imul, 1), (.iadd, 1), (.ireturn, 1)] := DS.facts 82 _ (by decide +kernel) (by decide +kernel)
theorem dX11_along_82 : decode cX11_along 82 = .ok (.goto 25, 3) := fX11_along_82.1
theorem dX11_along_85 : decode cX11_along 85 = .ok (.iload_n 2, 1) := fX11_along_82.2.1
theorem dX11_along_86 : decode cX11_along 86 = .ok (.iconst 1, 1) := fX11_along_82.2.2.1
theorem dX11_along_87 : decode cX11_along 87 = .ok (.if_icmp .ne 7, 3) := fX11_along_82.2.2.2.1
theorem dX11_along_90 : decode cX11_along 90 = .ok (.iconst 1, 1) := fX11_along_82.2.2.2.2.1
theorem dX11_along_91 : decode cX11_along 91 = .ok (.goto 16, 3) := fX11_along_82.2.2.2.2.2.1
theorem dX11_along_94 : decode cX11_along 94 = .ok (.iload_n 2, 1) := fX11_along_82.2.2.2.2.2.2.1
theorem dX11_along_95 : decode cX11_along 95 = .ok (.iconst 2, 1) := fX11_along_82.2.2.2.2.2.2.2.1
theorem dX11_along_96 : decode cX11_along 96 = .ok (.if_icmp .ne 10, 3) := fX11_along_82.2.2.2.2.2.2.2.2.1
theorem dX11_along_99 : decode cX11_along 99 = .ok (.aload_n 0, 1) := fX11_along_82.2.2.2.2.2.2.2.2.2.1
theorem dX11_along_100 : decode cX11_along 100 = .ok (.getfield 13, 3) := fX11_along_82.2.2.2.2.2.2.2.2.2.2.1
theorem dX11_along_103 : decode cX11_along 103 = .ok (.goto 4, 3) := fX11_along_82.2.2.2.2.2.2.2.2.2.2.2.1
theorem dX11_along_106 : decode cX11_along 106 = .ok (.iconst (-1), 1) := fX11_along_82.2.2.2.2.2.2.2.2.2.2.2.2.1
theorem dX11_along_107 : decode cX11_along 107 = .ok (.imul, 1) := fX11_along_82.2.2.2.2.2.2.2.2.2.2.2.2.2.1
theorem dX11_along_108 : decode cX11_along 108 = .ok (.iadd, 1) := fX11_along_82.2.2.2.2.2.2.2.2.2.2.2.2.2.2.1
theorem dX11_along_109 : decode cX11_along 109 = .ok (.ireturn, 1) := fX11_along_82.2.2.2.2.2.2.2.2.2.2.2.2.2.2.2.1
set_option maxRecDepth 20000 in
theorem ggX11_bar_X11_along : GoodIn wsX11_bar wsX11_along := goodIn_r _ [9, 10, 11, 17, 18, 19, 20, 21, 22, 23, 24, 25, 26, 27, 28, 29, 30, 31, 32, 33, 34, 35, 36, 37, 38, 39, 40, 41, 42, 43, 44, 45] (by decide +kernel) (by decide +kernel)
set_option maxRecDepth 20000 in
theorem gX11_bar_X11_along : GoodIn wsX11_bar (wsV RX11 92 RX11 yX11_along wsX11_along) := goodIn_app (goodIn_of _ (by decide +kernel)) ggX11_bar_X11_along
set_option maxRecDepth 20000 in
theorem ggX11_bar_X11_bears : GoodIn wsX11_bar wsX11_bears := goodIn_r _ [15, 16, 2, 17, 18, 19, 20, 21, 22, 23, 24, 25, 26, 27, 28, 29, 30, 31, 32, 33, 34, 35, 36, 37, 38, 39, 40, 41, 42, 43, 44, 45] (by decide +kernel) (by decide +kernel)
set_option maxRecDepth 20000 in
theorem gX11_bar_X11_bears : GoodIn wsX11_bar (wsV RX11 96 RX11 yX11_bears wsX11_bears) := goodIn_app (goodIn_of _ (by decide +kernel)) ggX11_bar_X11_bears
theorem fX11_bar_0 : DS.Facts cX11_bar 0 [(.aload_n 0, 1), (.aload_n 0, 1), (.getfield 30, 3), (.iload_n 1, 1), (.iaload, 1), (.iload_n 2, 1), (.iload_n 3, 1), (.invokevirtual 92, 3), (.iconst (-1), 1), (.if_icmp .ne 6, 3), (.bipush 6, 2), (.ireturn, 1), (.aload_n 0, 1), (.getfield 27, 3), (.iload_n 1, 1), (.iaload, 1), (.iconst 2, 1), (.if_icmp .ne 21, 3), (.aload_n 0, 1), (.getfield 82, 3), (.ifCond .le 14, 3), (.iload_n 3, 1), (.aload_n 0, 1), (.getfield 82, 3)] := DS.facts 0 _ (by decide +kernel) (by decide +kernel)
theorem dX11_bar_0 : decode cX11_bar 0 = .ok (.aload_n 0, 1) := fX11_bar_0.1
theorem dX11_bar_1 : decode cX11_bar 1 = .ok (.aload_n 0, 1) := fX11_bar_0.2.1
theorem dX11_bar_2 : decode cX11_bar 2 = .ok (.getfield 30, 3) := fX11_bar_0.2.2.1
theorem dX11_bar_5 : decode cX11_bar 5 = .ok (.iload_n 1, 1) := fX11_bar_0.2.2.2.1
theorem dX11_bar_6 : decode cX11_bar 6 = .ok (.iaload, 1) := fX11_bar_0.2.2.2.2.1
theorem dX11_bar_7 : decode cX11_bar 7 = .ok (.iload_n 2, 1) := fX11_bar_0.2.2.2.2.2.1
theorem dX11_bar_8 : decode cX11_bar 8 = .ok (.iload_n 3, 1) := fX11_bar_0.2.2.2.2.2.2.1
theorem dX11_bar_9 : decode cX11_bar 9 = .ok (.invokevirtual 92, 3) := fX11_bar_0.2.2.2.2.2.2.2.1
theorem dX11_bar_12 : decode cX11_bar 12 = .ok (.iconst (-1), 1) := fX11_bar_0.2.2.2.2.2.2.2.2.1
theorem dX11_bar_13 : decode cX11_bar 13 = .ok (.if_icmp .ne 6, 3) := fX11_bar_0.2.2.2.2.2.2.2.2.2.1
theorem dX11_bar_16 : decode cX11_bar 16 = .ok (.bipush 6, 2) := fX11_bar_0.2.2.2.2.2.2.2.2.2.2.1
theorem dX11_bar_18 : decode cX11_bar 18 = .ok (.ireturn, 1) := fX11_bar_0.2.2.2.2.2.2.2.2.2.2.2.1
theorem dX11_bar_19 : decode cX11_bar 19 = .ok (.aload_n 0, 1) := fX11_bar_0.2.2.2.2.2.2.2.2.2.2.2.2.1
theorem dX11_bar_20 : decode cX11_bar 20 = .ok (.getfield 27, 3) := fX11_bar_0.2.2.2.2.2.2.2.2.2.2.2.2.2.1
theorem dX11_bar_23 : decode cX11_bar 23 = .ok (.iload_n 1, 1) := fX11_bar_0.2.2.2.2.2.2.2.2.2.2.2.2.2.2.1
theorem dX11_bar_24 : decode cX11_bar 24 = .ok (.iaload, 1) := fX11_bar_0.2.2.2.2.2.2.2.2.2.2.2.2.2.2.2.1
theorem dX11_bar_25 : decode cX11_bar 25 = .ok (.iconst 2, 1) := fX11_bar_0.2.2.2.2.2.2.2.2.2.2.2.2.2.2.2.2.1
theorem dX11_bar_26 : decode cX11_bar 26 = .ok (.if_icmp .ne 21, 3) := fX11_bar_0.2.2.2.2.2.2.2.2.2.2.2.2.2.2.2.2.2.1
theorem dX11_bar_29 : decode cX11_bar 29 = .ok (.aload_n 0, 1) := fX11_bar_0.2.2.2.2.2.2.2.2.2.2.2.2.2.2.2.2.2.2.1
theorem dX11_bar_30 : decode cX11_bar 30 = .ok (.getfield 82, 3) := fX11_bar_0.2.2.2.2.2.2.2.2.2.2.2.2.2.2.2.2.2.2.2.1
theorem dX11_bar_33 : decode cX11_bar 33 = .ok (.ifCond .le 14, 3) := fX11_bar_0.2.2.2.2.2.2.2.2.2.2.2.2.2.2.2.2.2.2.2.2.1
theorem dX11_bar_36 : decode cX11_bar 36 = .ok (.iload_n 3, 1) := fX11_bar_0.2.2.2.2.2.2.2.2.2.2.2.2.2.2.2.2.2.2.2.2.2.1
theorem dX11_bar_37 : decode cX11_bar 37 = .ok (.aload_n 0, 1) := fX11_bar_0.2.2.2.2.2.2.2.2.2.2.2.2.2.2.2.2.2.2.2.2.2.2.1
theorem dX11_bar_38 : decode cX11_bar 38 = .ok (.getfield 82, 3) := fX11_bar_0.2.2.2.2.2.2.2.2.2.2.2.2.2.2.2.2.2.2.2.2.2.2.2.1
theorem fX11_bar_41 : DS.Facts cX11_bar 41 [(.if_icmp .le 6, 3), (.bipush 7, 2), (.ireturn, 1), (.iconst 1, 1), (.istore 4, 2), (.iload 4, 2), (.iload_n 3, 1), (.if_icmp .gt 51, 3), (.aload_n 0, 1), (.aload_n 0, 1), (.getfield 30, 3), (.iload_n 1, 1), (.iaload, 1), (.iload_n 2, 1), (.iload 4, 2), (.invokevirtual 92, 3), (.istore 5, 2), (.aload_n 0, 1), (.getfield 33, 3), (.iload 5, 2), (.iaload, 1), (.iconst (-1), 1), (.if_icmp .eq 6, 3), (.bipush 8, 2)] := DS.facts 41 _ (by decide +kernel) (by decide +kernel)
theorem dX11_bar_41 : decode cX11_bar 41 = .ok (.if_icmp .le 6, 3) := fX11_bar_41.1
theorem dX11_bar_44 : decode cX11_bar 44 = .ok (.bipush 7, 2) := fX11_bar_41.2.1
theorem dX11_bar_46 : decode cX11_bar 46 = .ok (.ireturn, 1) := fX11_bar_41.2.2.1
theorem dX11_bar_47 : decode cX11_bar 47 = .ok (.iconst 1, 1) := fX11_bar_41.2.2.2.1
theorem dX11_bar_48 : decode cX11_bar 48 = .ok (.istore 4, 2) := fX11_bar_41.2.2.2.2.1
theorem dX11_bar_50 : decode cX11_bar 50 = .ok (.iload 4, 2) := fX11_bar_41.2.2.2.2.2.1
theorem dX11_bar_52 : decode cX11_bar 52 = .ok (.iload_n 3, 1) := fX11_bar_41.2.2.2.2.2.2.1
theorem dX11_bar_53 : decode cX11_bar 53 = .ok (.if_icmp .gt 51, 3) := fX11_bar_41.2.2.2.2.2.2.2.1
theorem dX11_bar_56 : decode cX11_bar 56 = .ok (.aload_n 0, 1) := fX11_bar_41.2.2.2.2.2.2.2.2.1
theorem dX11_bar_57 : decode cX11_bar 57 = .ok (.aload_n 0, 1) := fX11_bar_41.2.2.2.2.2.2.2.2.2.1
theorem dX11_bar_58 : decode cX11_bar 58 = .ok (.getfield 30, 3) := fX11_bar_41.2.2.2.2.2.2.2.2.2.2.1
theorem dX11_bar_61 : decode cX11_bar 61 = .ok (.iload_n 1, 1) := fX11_bar_41.2.2.2.2.2.2.2.2.2.2.2.1
theorem dX11_bar_62 : decode cX11_bar 62 = .ok (.iaload, 1) := fX11_bar_41.2.2.2.2.2.2.2.2.2.2.2.2.1
theorem dX11_bar_63 : decode cX11_bar 63 = .ok (.iload_n 2, 1) := fX11_bar_41.2.2.2.2.2.2.2.2.2.2.2.2.2.1
theorem dX11_bar_64 : decode cX11_bar 64 = .ok (.iload 4, 2) := fX11_bar_41.2.2.2.2.2.2.2.2.2.2.2.2.2.2.1
theorem dX11_bar_66 : decode cX11_bar 66 = .ok (.invokevirtual 92, 3) := fX11_bar_41.2.2.2.2.2.2.2.2.2.2.2.2.2.2.2.1
theorem dX11_bar_69 : decode cX11_bar 69 = .ok (.istore 5, 2) := fX11_bar_41.2.2.2.2.2.2.2.2.2.2.2.2.2.2.2.2.1
theorem dX11_bar_71 : decode cX11_bar 71 = .ok (.aload_n 0, 1) := fX11_bar_41.2.2.2.2.2.2.2.2.2.2.2.2.2.2.2.2.2.1
theorem dX11_bar_72 : decode cX11_bar 72 = .ok (.getfield 33, 3) := fX11_bar_41.2.2.2.2.2.2.2.2.2.2.2.2.2.2.2.2.2.2.1
theorem dX11_bar_75 : decode cX11_bar 75 = .ok (.iload 5, 2) := fX11_bar_41.2.2.2.2.2.2.2.2.2.2.2.2.2.2.2.2.2.2.2.1
theorem dX11_bar_77 : decode cX11_bar 77 = .ok (.iaload, 1) := fX11_bar_41.2.2.2.2.2.2.2.2.2.2.2.2.2.2.2.2.2.2.2.2.1
theorem dX11_bar_78 : decode cX11_bar 78 = .ok (.iconst (-1), 1) := fX11_bar_41.2.2.2.2.2.2.2.2.2.2.2.2.2.2.2.2.2.2.2.2.2.1
theorem dX11_bar_79 : decode cX11_bar 79 = .ok (.if_icmp .eq 6, 3) := fX11_bar_41.2.2.2.2.2.2.2.2.2.2.2.2.2.2.2.2.2.2.2.2.2.2.1
theorem dX11_bar_82 : decode cX11_bar 82 = .ok (.bipush 8, 2) := fX11_bar_41.2.2.2.2.2.2.2.2.2.2.2.2.2.2.2.2.2.2.2.2.2.2.2.1
theorem fX11_bar_84 : DS.Facts cX11_bar 84 [(.ireturn, 1), (.aload_n 0, 1), (.iload 5, 2), (.iload_n 1, 1), (.invokevirtual 96, 3), (.ifCond .ne 6, 3), (.bipush 9, 2), (.ireturn, 1), (.iinc 4 1, 3), (.goto (-51), 3), (.iconst 0, 1), (.ireturn, 1)] := DS.facts 84 _ (by decide +kernel) (by decide +kernel)
theorem dX11_bar_84 : decode cX11_bar 84 = .ok (.ireturn, 1) := fX11_bar_84.1
theorem dX11_bar_85 : decode cX11_bar 85 = .ok (.aload_n 0, 1) := fX11_bar_84.2.1
theorem dX11_bar_86 : decode cX11_bar 86 = .ok (.iload 5, 2) := fX11_bar_84.2.2.1
theorem dX11_bar_88 : decode cX11_bar 88 = .ok (.iload_n 1, 1) := fX11_bar_84.2.2.2.1
theorem dX11_bar_89 : decode cX11_bar 89 = .ok (.invokevirtual 96, 3) := fX11_bar_84.2.2.2.2.1
theorem dX11_bar_92 : decode cX11_bar 92 = .ok (.ifCond .ne 6, 3) := fX11_bar_84.2.2.2.2.2.1
theorem dX11_bar_95 : decode cX11_bar 95 = .ok (.bipush 9, 2) := fX11_bar_84.2.2.2.2.2.2.1
theorem dX11_bar_97 : decode cX11_bar 97 = .ok (.ireturn, 1) := fX11_bar_84.2.2.2.2.2.2.2.1
theorem dX11_bar_98 : decode cX11_bar 98 = .ok (.iinc 4 1, 3) := fX11_bar_84.2.2.2.2.2.2.2.2.1
theorem dX11_bar_101 : decode cX11_bar 101 = .ok (.goto (-51), 3) := fX11_bar_84.2.2.2.2.2.2.2.2.2.1
theorem dX11_bar_104 : decode cX11_bar 104 = .ok (.iconst 0, 1) := fX11_bar_84.2.2.2.2.2.2.2.2.2.2.1
theorem dX11_bar_105 : decode cX11_bar 105 = .ok (.ireturn, 1) := fX11_bar_84.2.2.2.2.2.2.2.2.2.2.2.1
set_option maxRecDepth 20000 in
theorem ggX11_movesOf_X11_bar : GoodIn wsX11_movesOf wsX11_bar := goodIn_r _ [6, 1, 7, 8, 9, 10, 11, 12, 5, 13, 14, 15, 16, 17, 18, 19, 20, 21, 22, 23, 24, 25, 26, 27, 28, 29, 30, 31, 32, 33, 34, 35, 36, 37, 38, 39, 40, 41, 42, 43, 44, 45, 46, 47, 48, 49] (by decide +kernel) (by decide +kernel)
set_option maxRecDepth 20000 in
theorem gX11_movesOf_X11_bar : GoodIn wsX11_movesOf (wsV RX11 100 RX11 yX11_bar wsX11_bar) := goodIn_app (goodIn_of _ (by decide +kernel)) ggX11_movesOf_X11_bar
theorem fX11_movesOf_0 : DS.Facts cX11_movesOf 0 [(.iconst 0, 1), (.istore_n 2, 1), (.iconst 0, 1), (.istore_n 3, 1), (.iload_n 3, 1), (.iconst 4, 1), (.if_icmp .ge 54, 3), (.aload_n 0, 1), (.getfield 30, 3), (.iload_n 1, 1), (.iaload, 1), (.iconst (-1), 1), (.if_icmp .eq 44, 3), (.iconst 1, 1), (.istore 4, 2), (.iload 4, 2), (.bipush 9, 2), (.if_icmp .ge 28, 3), (.iload_n 2, 1), (.aload_n 0, 1), (.iload_n 1, 1), (.iload_n 3, 1), (.iload 4, 2), (.invokevirtual 100, 3)] := DS.facts 0 _ (by decide +kernel) (by decide +kernel)
theorem dX11_movesOf_0 : decode cX11_movesOf 0 = .ok (.iconst 0, 1) := fX11_movesOf_0.1
theorem dX11_movesOf_1 : decode cX11_movesOf 1 = .ok (.istore_n 2, 1) := fX11_movesOf_0.2.1
theorem dX11_movesOf_2 : decode cX11_movesOf 2 = .ok (.iconst 0, 1) := fX11_movesOf_0.2.2.1
theorem dX11_movesOf_3 : decode cX11_movesOf 3 = .ok (.istore_n 3, 1) := fX11_movesOf_0.2.2.2.1
theorem dX11_movesOf_4 : decode cX11_movesOf 4 = .ok (.iload_n 3, 1) := fX11_movesOf_0.2.2.2.2.1
theorem dX11_movesOf_5 : decode cX11_movesOf 5 = .ok (.iconst 4, 1) := fX11_movesOf_0.2.2.2.2.2.1
theorem dX11_movesOf_6 : decode cX11_movesOf 6 = .ok (.if_icmp .ge 54, 3) := fX11_movesOf_0.2.2.2.2.2.2.1
theorem dX11_movesOf_9 : decode cX11_movesOf 9 = .ok (.aload_n 0, 1) := fX11_movesOf_0.2.2.2.2.2.2.2.1
theorem dX11_movesOf_10 : decode cX11_movesOf 10 = .ok (.getfield 30, 3) := fX11_movesOf_0.2.2.2.2.2.2.2.2.1
theorem dX11_movesOf_13 : decode cX11_movesOf 13 = .ok (.iload_n 1, 1) := fX11_movesOf_0.2.2.2.2.2.2.2.2.2.1
theorem dX11_movesOf_14 : decode cX11_movesOf 14 = .ok (.iaload, 1) := fX11_movesOf_0.2.2.2.2.2.2.2.2.2.2.1
theorem dX11_movesOf_15 : decode cX11_movesOf 15 = .ok (.iconst (-1), 1) := fX11_movesOf_0.2.2.2.2.2.2.2.2.2.2.2.1
theorem dX11_movesOf_16 : decode cX11_movesOf 16 = .ok (.if_icmp .eq 44, 3) := fX11_movesOf_0.2.2.2.2.2.2.2.2.2.2.2.2.1
theorem dX11_movesOf_19 : decode cX11_movesOf 19 = .ok (.iconst 1, 1) := fX11_movesOf_0.2.2.2.2.2.2.2.2.2.2.2.2.2.1
theorem dX11_movesOf_20 : decode cX11_movesOf 20 = .ok (.istore 4, 2) := fX11_movesOf_0.2.2.2.2.2.2.2.2.2.2.2.2.2.2.1
theorem dX11_movesOf_22 : decode cX11_movesOf 22 = .ok (.iload 4, 2) := fX11_movesOf_0.2.2.2.2.2.2.2.2.2.2.2.2.2.2.2.1
theorem dX11_movesOf_24 : decode cX11_movesOf 24 = .ok (.bipush 9, 2) := fX11_movesOf_0.2.2.2.2.2.2.2.2.2.2.2.2.2.2.2.2.1
theorem dX11_movesOf_26 : decode cX11_movesOf 26 = .ok (.if_icmp .ge 28, 3) := fX11_movesOf_0.2.2.2.2.2.2.2.2.2.2.2.2.2.2.2.2.2.1
theorem dX11_movesOf_29 : decode cX11_movesOf 29 = .ok (.iload_n 2, 1) := fX11_movesOf_0.2.2.2.2.2.2.2.2.2.2.2.2.2.2.2.2.2.2.1
theorem dX11_movesOf_30 : decode cX11_movesOf 30 = .ok (.aload_n 0, 1) := fX11_movesOf_0.2.2.2.2.2.2.2.2.2.2.2.2.2.2.2.2.2.2.2.1
theorem dX11_movesOf_31 : decode cX11_movesOf 31 = .ok (.iload_n 1, 1) := fX11_movesOf_0.2.2.2.2.2.2.2.2.2.2.2.2.2.2.2.2.2.2.2.2.1
theorem dX11_movesOf_32 : decode cX11_movesOf 32 = .ok (.iload_n 3, 1) := fX11_movesOf_0.2.2.2.2.2.2.2.2.2.2.2.2.2.2.2.2.2.2.2.2.2.1
theorem dX11_movesOf_33 : decode cX11_movesOf 33 = .ok (.iload 4, 2) := fX11_movesOf_0.2.2.2.2.2.2.2.2.2.2.2.2.2.2.2.2.2.2.2.2.2.2.1
theorem dX11_movesOf_35 : decode cX11_movesOf 35 = .ok (.invokevirtual 100, 3) := fX11_movesOf_0.2.2.2.2.2.2.2.2.2.2.2.2.2.2.2.2.2.2.2.2.2.2.2.1
theorem fX11_movesOf_38 : DS.Facts cX11_movesOf 38 [(.ifCond .ne 7, 3), (.iconst 1, 1), (.goto 4, 3), (.iconst 0, 1), (.iadd, 1), (.istore_n 2, 1), (.iinc 4 1, 3), (.goto (-29), 3), (.iinc 3 1, 3), (.goto (-53), 3), (.iload_n 2, 1), (.ireturn, 1)] := DS.facts 38 _ (by decide +kernel) (by decide +kernel)
theorem dX11_movesOf_38 : decode cX11_movesOf 38 = .ok (.ifCond .ne 7, 3) := fX11_movesOf_38.1
theorem dX11_movesOf_41 : decode cX11_movesOf 41 = .ok (.iconst 1, 1) := fX11_movesOf_38.2.1
theorem dX11_movesOf_42 : decode cX11_movesOf 42 = .ok (.goto 4, 3) := fX11_movesOf_38.2.2.1
theorem dX11_movesOf_45 : decode cX11_movesOf 45 = .ok (.iconst 0, 1) := fX11_movesOf_38.2.2.2.1
theorem dX11_movesOf_46 : decode cX11_movesOf 46 = .ok (.iadd, 1) := fX11_movesOf_38.2.2.2.2.1
theorem dX11_movesOf_47 : decode cX11_movesOf 47 = .ok (.istore_n 2, 1) := fX11_movesOf_38.2.2.2.2.2.1
theorem dX11_movesOf_48 : decode cX11_movesOf 48 = .ok (.iinc 4 1, 3) := fX11_movesOf_38.2.2.2.2.2.2.1
theorem dX11_movesOf_51 : decode cX11_movesOf 51 = .ok (.goto (-29), 3) := fX11_movesOf_38.2.2.2.2.2.2.2.1
theorem dX11_movesOf_54 : decode cX11_movesOf 54 = .ok (.iinc 3 1, 3) := fX11_movesOf_38.2.2.2.2.2.2.2.2.1
theorem dX11_movesOf_57 : decode cX11_movesOf 57 = .ok (.goto (-53), 3) := fX11_movesOf_38.2.2.2.2.2.2.2.2.2.1
theorem dX11_movesOf_60 : decode cX11_movesOf 60 = .ok (.iload_n 2, 1) := fX11_movesOf_38.2.2.2.2.2.2.2.2.2.2.1
theorem dX11_movesOf_61 : decode cX11_movesOf 61 = .ok (.ireturn, 1) := fX11_movesOf_38.2.2.2.2.2.2.2.2.2.2.2.1
set_option maxRecDepth 20000 in
theorem ggX11_canGo_X11_sideOf : GoodIn wsX11_canGo wsX11_sideOf := goodIn_r _ [6, 7, 30, 31, 32, 33, 34, 35, 36, 37, 38, 39, 40, 41, 42, 43, 44, 45, 46, 47, 48, 49, 50, 51, 52, 53, 54, 55, 56, 57, 58] (by decide +kernel) (by decide +kernel)
set_option maxRecDepth 20000 in
theorem gX11_canGo_X11_sideOf : GoodIn wsX11_canGo (wsV RX11 106 RX11 yX11_sideOf wsX11_sideOf) := goodIn_app (goodIn_of _ (by decide +kernel)) ggX11_canGo_X11_sideOf
set_option maxRecDepth 20000 in
theorem ggX11_canGo_X11_movesOf : GoodIn wsX11_canGo wsX11_movesOf := goodIn_r _ [11, 12, 13, 14, 15, 5, 16, 7, 17, 18, 19, 20, 21, 22, 23, 24, 25, 26, 27, 28, 29, 30, 31, 32, 33, 34, 35, 36, 37, 38, 39, 40, 41, 42, 43, 44, 45, 46, 47, 48, 49, 50, 51, 52, 53, 54, 55, 56, 57, 58] (by decide +kernel) (by decide +kernel)
set_option maxRecDepth 20000 in
theorem gX11_canGo_X11_movesOf : GoodIn wsX11_canGo (wsV RX11 110 RX11 yX11_movesOf wsX11_movesOf) := goodIn_app (goodIn_of _ (by decide +kernel)) ggX11_canGo_X11_movesOf
theorem fX11_canGo_0 : DS.Facts cX11_canGo 0 [(.iconst 0, 1), (.istore_n 2, 1), (.iconst 0, 1), (.istore_n 3, 1), (.iload_n 3, 1), (.aload_n 0, 1), (.getfield 103, 3), (.if_icmp .ge 36, 3), (.iload_n 2, 1), (.ifCond .ne 32, 3), (.aload_n 0, 1), (.iload_n 3, 1), (.invokevirtual 106, 3), (.iload_n 1, 1), (.if_icmp .ne 15, 3), (.aload_n 0, 1), (.iload_n 3, 1), (.invokevirtual 110, 3), (.ifCond .le 7, 3), (.iconst 1, 1), (.goto 4, 3), (.iconst 0, 1), (.istore_n 2, 1), (.iinc 3 1, 3)] := DS.facts 0 _ (by decide +kernel) (by decide +kernel)
theorem dX11_canGo_0 : decode cX11_canGo 0 = .ok (.iconst 0, 1) := fX11_canGo_0.1
theorem dX11_canGo_1 : decode cX11_canGo 1 = .ok (.istore_n 2, 1) := fX11_canGo_0.2.1
theorem dX11_canGo_2 : decode cX11_canGo 2 = .ok (.iconst 0, 1) := fX11_canGo_0.2.2.1
theorem dX11_canGo_3 : decode cX11_canGo 3 = .ok (.istore_n 3, 1) := fX11_canGo_0.2.2.2.1
theorem dX11_canGo_4 : decode cX11_canGo 4 = .ok (.iload_n 3, 1) := fX11_canGo_0.2.2.2.2.1
theorem dX11_canGo_5 : decode cX11_canGo 5 = .ok (.aload_n 0, 1) := fX11_canGo_0.2.2.2.2.2.1
theorem dX11_canGo_6 : decode cX11_canGo 6 = .ok (.getfield 103, 3) := fX11_canGo_0.2.2.2.2.2.2.1
theorem dX11_canGo_9 : decode cX11_canGo 9 = .ok (.if_icmp .ge 36, 3) := fX11_canGo_0.2.2.2.2.2.2.2.1
theorem dX11_canGo_12 : decode cX11_canGo 12 = .ok (.iload_n 2, 1) := fX11_canGo_0.2.2.2.2.2.2.2.2.1
theorem dX11_canGo_13 : decode cX11_canGo 13 = .ok (.ifCond .ne 32, 3) := fX11_canGo_0.2.2.2.2.2.2.2.2.2.1
theorem dX11_canGo_16 : decode cX11_canGo 16 = .ok (.aload_n 0, 1) := fX11_canGo_0.2.2.2.2.2.2.2.2.2.2.1
theorem dX11_canGo_17 : decode cX11_canGo 17 = .ok (.iload_n 3, 1) := fX11_canGo_0.2.2.2.2.2.2.2.2.2.2.2.1
theorem dX11_canGo_18 : decode cX11_canGo 18 = .ok (.invokevirtual 106, 3) := fX11_canGo_0.2.2.2.2.2.2.2.2.2.2.2.2.1
theorem dX11_canGo_21 : decode cX11_canGo 21 = .ok (.iload_n 1, 1) := fX11_canGo_0.2.2.2.2.2.2.2.2.2.2.2.2.2.1
theorem dX11_canGo_22 : decode cX11_canGo 22 = .ok (.if_icmp .ne 15, 3) := fX11_canGo_0.2.2.2.2.2.2.2.2.2.2.2.2.2.2.1
theorem dX11_canGo_25 : decode cX11_canGo 25 = .ok (.aload_n 0, 1) := fX11_canGo_0.2.2.2.2.2.2.2.2.2.2.2.2.2.2.2.1
theorem dX11_canGo_26 : decode cX11_canGo 26 = .ok (.iload_n 3, 1) := fX11_canGo_0.2.2.2.2.2.2.2.2.2.2.2.2.2.2.2.2.1
theorem dX11_canGo_27 : decode cX11_canGo 27 = .ok (.invokevirtual 110, 3) := fX11_canGo_0.2.2.2.2.2.2.2.2.2.2.2.2.2.2.2.2.2.1
theorem dX11_canGo_30 : decode cX11_canGo 30 = .ok (.ifCond .le 7, 3) := fX11_canGo_0.2.2.2.2.2.2.2.2.2.2.2.2.2.2.2.2.2.2.1
theorem dX11_canGo_33 : decode cX11_canGo 33 = .ok (.iconst 1, 1) := fX11_canGo_0.2.2.2.2.2.2.2.2.2.2.2.2.2.2.2.2.2.2.2.1
theorem dX11_canGo_34 : decode cX11_canGo 34 = .ok (.goto 4, 3) := fX11_canGo_0.2.2.2.2.2.2.2.2.2.2.2.2.2.2.2.2.2.2.2.2.1
theorem dX11_canGo_37 : decode cX11_canGo 37 = .ok (.iconst 0, 1) := fX11_canGo_0.2.2.2.2.2.2.2.2.2.2.2.2.2.2.2.2.2.2.2.2.2.1
theorem dX11_canGo_38 : decode cX11_canGo 38 = .ok (.istore_n 2, 1) := fX11_canGo_0.2.2.2.2.2.2.2.2.2.2.2.2.2.2.2.2.2.2.2.2.2.2.1
theorem dX11_canGo_39 : decode cX11_canGo 39 = .ok (.iinc 3 1, 3) := fX11_canGo_0.2.2.2.2.2.2.2.2.2.2.2.2.2.2.2.2.2.2.2.2.2.2.2.1
theorem fX11_canGo_42 : DS.Facts cX11_canGo 42 [(.goto (-38), 3), (.iload_n 2, 1), (.ireturn, 1)] := DS.facts 42 _ (by decide +kernel) (by decide +kernel)
theorem dX11_canGo_42 : decode cX11_canGo 42 = .ok (.goto (-38), 3) := fX11_canGo_42.1
theorem dX11_canGo_45 : decode cX11_canGo 45 = .ok (.iload_n 2, 1) := fX11_canGo_42.2.1
theorem dX11_canGo_46 : decode cX11_canGo 46 = .ok (.ireturn, 1) := fX11_canGo_42.2.2.1
set_option maxRecDepth 20000 in
theorem ggX11_isFoe_X11_sideOf : GoodIn wsX11_isFoe wsX11_sideOf := goodIn_r _ [7, 8, 14, 15, 16, 17, 18, 19, 20, 21, 22, 23, 24, 25, 26, 27, 28, 29, 30, 31, 32, 33, 34, 35, 36, 37, 38, 39, 40, 41, 42] (by decide +kernel) (by decide +kernel)
set_option maxRecDepth 20000 in
theorem gX11_isFoe_X11_sideOf : GoodIn wsX11_isFoe (wsV RX11 106 RX11 yX11_sideOf wsX11_sideOf) := goodIn_app (goodIn_of _ (by decide +kernel)) ggX11_isFoe_X11_sideOf
set_option maxRecDepth 20000 in
theorem ggX11_isFoe_X11_takes : GoodIn wsX11_isFoe wsX11_takes := goodIn_r _ [12, 8, 13, 14, 15, 16, 17, 18, 19, 20, 21, 22, 23, 24, 25, 26, 27, 28, 29, 30, 31, 32, 33, 34, 35, 36, 37, 38, 39, 40, 41, 42] (by decide +kernel) (by decide +kernel)
set_option maxRecDepth 20000 in
theorem gX11_isFoe_X11_takes : GoodIn wsX11_isFoe (wsV RX11 113 RX11 yX11_takes wsX11_takes) := goodIn_app (goodIn_of _ (by decide +kernel)) ggX11_isFoe_X11_takes
theorem fX11_isFoe_0 : DS.Facts cX11_isFoe 0 [(.iload_n 2, 1), (.iconst (-1), 1), (.if_icmp .ne 5, 3), (.iconst 0, 1), (.ireturn, 1), (.aload_n 0, 1), (.getfield 33, 3), (.iload_n 2, 1), (.iaload, 1), (.iconst (-1), 1), (.if_icmp .ne 20, 3), (.aload_n 0, 1), (.getfield 36, 3), (.iload_n 2, 1), (.iaload, 1), (.bipush 6, 2), (.if_icmp .ne 7, 3), (.iconst 1, 1), (.goto 4, 3), (.iconst 0, 1), (.ireturn, 1), (.aload_n 0, 1), (.aload_n 0, 1), (.getfield 33, 3)] := DS.facts 0 _ (by decide +kernel) (by decide +kernel)
theorem dX11_isFoe_0 : decode cX11_isFoe 0 = .ok (.iload_n 2, 1) := fX11_isFoe_0.1
theorem dX11_isFoe_1 : decode cX11_isFoe 1 = .ok (.iconst (-1), 1) := fX11_isFoe_0.2.1
theorem dX11_isFoe_2 : decode cX11_isFoe 2 = .ok (.if_icmp .ne 5, 3) := fX11_isFoe_0.2.2.1
theorem dX11_isFoe_5 : decode cX11_isFoe 5 = .ok (.iconst 0, 1) := fX11_isFoe_0.2.2.2.1
theorem dX11_isFoe_6 : decode cX11_isFoe 6 = .ok (.ireturn, 1) := fX11_isFoe_0.2.2.2.2.1
theorem dX11_isFoe_7 : decode cX11_isFoe 7 = .ok (.aload_n 0, 1) := fX11_isFoe_0.2.2.2.2.2.1
theorem dX11_isFoe_8 : decode cX11_isFoe 8 = .ok (.getfield 33, 3) := fX11_isFoe_0.2.2.2.2.2.2.1
theorem dX11_isFoe_11 : decode cX11_isFoe 11 = .ok (.iload_n 2, 1) := fX11_isFoe_0.2.2.2.2.2.2.2.1
theorem dX11_isFoe_12 : decode cX11_isFoe 12 = .ok (.iaload, 1) := fX11_isFoe_0.2.2.2.2.2.2.2.2.1
theorem dX11_isFoe_13 : decode cX11_isFoe 13 = .ok (.iconst (-1), 1) := fX11_isFoe_0.2.2.2.2.2.2.2.2.2.1
theorem dX11_isFoe_14 : decode cX11_isFoe 14 = .ok (.if_icmp .ne 20, 3) := fX11_isFoe_0.2.2.2.2.2.2.2.2.2.2.1
theorem dX11_isFoe_17 : decode cX11_isFoe 17 = .ok (.aload_n 0, 1) := fX11_isFoe_0.2.2.2.2.2.2.2.2.2.2.2.1
theorem dX11_isFoe_18 : decode cX11_isFoe 18 = .ok (.getfield 36, 3) := fX11_isFoe_0.2.2.2.2.2.2.2.2.2.2.2.2.1
theorem dX11_isFoe_21 : decode cX11_isFoe 21 = .ok (.iload_n 2, 1) := fX11_isFoe_0.2.2.2.2.2.2.2.2.2.2.2.2.2.1
theorem dX11_isFoe_22 : decode cX11_isFoe 22 = .ok (.iaload, 1) := fX11_isFoe_0.2.2.2.2.2.2.2.2.2.2.2.2.2.2.1
theorem dX11_isFoe_23 : decode cX11_isFoe 23 = .ok (.bipush 6, 2) := fX11_isFoe_0.2.2.2.2.2.2.2.2.2.2.2.2.2.2.2.1
theorem dX11_isFoe_25 : decode cX11_isFoe 25 = .ok (.if_icmp .ne 7, 3) := fX11_isFoe_0.2.2.2.2.2.2.2.2.2.2.2.2.2.2.2.2.1
theorem dX11_isFoe_28 : decode cX11_isFoe 28 = .ok (.iconst 1, 1) := fX11_isFoe_0.2.2.2.2.2.2.2.2.2.2.2.2.2.2.2.2.2.1
theorem dX11_isFoe_29 : decode cX11_isFoe 29 = .ok (.goto 4, 3) := fX11_isFoe_0.2.2.2.2.2.2.2.2.2.2.2.2.2.2.2.2.2.2.1
theorem dX11_isFoe_32 : decode cX11_isFoe 32 = .ok (.iconst 0, 1) := fX11_isFoe_0.2.2.2.2.2.2.2.2.2.2.2.2.2.2.2.2.2.2.2.1
theorem dX11_isFoe_33 : decode cX11_isFoe 33 = .ok (.ireturn, 1) := fX11_isFoe_0.2.2.2.2.2.2.2.2.2.2.2.2.2.2.2.2.2.2.2.2.1
theorem dX11_isFoe_34 : decode cX11_isFoe 34 = .ok (.aload_n 0, 1) := fX11_isFoe_0.2.2.2.2.2.2.2.2.2.2.2.2.2.2.2.2.2.2.2.2.2.1
theorem dX11_isFoe_35 : decode cX11_isFoe 35 = .ok (.aload_n 0, 1) := fX11_isFoe_0.2.2.2.2.2.2.2.2.2.2.2.2.2.2.2.2.2.2.2.2.2.2.1
theorem dX11_isFoe_36 : decode cX11_isFoe 36 = .ok (.getfield 33, 3) := fX11_isFoe_0.2.2.2.2.2.2.2.2.2.2.2.2.2.2.2.2.2.2.2.2.2.2.2.1
theorem fX11_isFoe_39 : DS.Facts cX11_isFoe 39 [(.iload_n 2, 1), (.iaload, 1), (.invokevirtual 106, 3), (.aload_n 0, 1), (.iload_n 1, 1), (.invokevirtual 106, 3), (.if_icmp .eq 20, 3), (.aload_n 0, 1), (.aload_n 0, 1), (.getfield 33, 3), (.iload_n 2, 1), (.iaload, 1), (.invokevirtual 113, 3), (.ifCond .eq 7, 3), (.iconst 1, 1), (.goto 4, 3), (.iconst 0, 1), (.ireturn, 1)] := DS.facts 39 _ (by decide +kernel) (by decide +kernel)
theorem dX11_isFoe_39 : decode cX11_isFoe 39 = .ok (.iload_n 2, 1) := fX11_isFoe_39.1
theorem dX11_isFoe_40 : decode cX11_isFoe 40 = .ok (.iaload, 1) := fX11_isFoe_39.2.1
theorem dX11_isFoe_41 : decode cX11_isFoe 41 = .ok (.invokevirtual 106, 3) := fX11_isFoe_39.2.2.1
theorem dX11_isFoe_44 : decode cX11_isFoe 44 = .ok (.aload_n 0, 1) := fX11_isFoe_39.2.2.2.1
theorem dX11_isFoe_45 : decode cX11_isFoe 45 = .ok (.iload_n 1, 1) := fX11_isFoe_39.2.2.2.2.1
theorem dX11_isFoe_46 : decode cX11_isFoe 46 = .ok (.invokevirtual 106, 3) := fX11_isFoe_39.2.2.2.2.2.1
theorem dX11_isFoe_49 : decode cX11_isFoe 49 = .ok (.if_icmp .eq 20, 3) := fX11_isFoe_39.2.2.2.2.2.2.1
theorem dX11_isFoe_52 : decode cX11_isFoe 52 = .ok (.aload_n 0, 1) := fX11_isFoe_39.2.2.2.2.2.2.2.1
theorem dX11_isFoe_53 : decode cX11_isFoe 53 = .ok (.aload_n 0, 1) := fX11_isFoe_39.2.2.2.2.2.2.2.2.1
theorem dX11_isFoe_54 : decode cX11_isFoe 54 = .ok (.getfield 33, 3) := fX11_isFoe_39.2.2.2.2.2.2.2.2.2.1
theorem dX11_isFoe_57 : decode cX11_isFoe 57 = .ok (.iload_n 2, 1) := fX11_isFoe_39.2.2.2.2.2.2.2.2.2.2.1
theorem dX11_isFoe_58 : decode cX11_isFoe 58 = .ok (.iaload, 1) := fX11_isFoe_39.2.2.2.2.2.2.2.2.2.2.2.1
theorem dX11_isFoe_59 : decode cX11_isFoe 59 = .ok (.invokevirtual 113, 3) := fX11_isFoe_39.2.2.2.2.2.2.2.2.2.2.2.2.1
theorem dX11_isFoe_62 : decode cX11_isFoe 62 = .ok (.ifCond .eq 7, 3) := fX11_isFoe_39.2.2.2.2.2.2.2.2.2.2.2.2.2.1
theorem dX11_isFoe_65 : decode cX11_isFoe 65 = .ok (.iconst 1, 1) := fX11_isFoe_39.2.2.2.2.2.2.2.2.2.2.2.2.2.2.1
theorem dX11_isFoe_66 : decode cX11_isFoe 66 = .ok (.goto 4, 3) := fX11_isFoe_39.2.2.2.2.2.2.2.2.2.2.2.2.2.2.2.1
theorem dX11_isFoe_69 : decode cX11_isFoe 69 = .ok (.iconst 0, 1) := fX11_isFoe_39.2.2.2.2.2.2.2.2.2.2.2.2.2.2.2.2.1
theorem dX11_isFoe_70 : decode cX11_isFoe 70 = .ok (.ireturn, 1) := fX11_isFoe_39.2.2.2.2.2.2.2.2.2.2.2.2.2.2.2.2.2.1
set_option maxRecDepth 20000 in
theorem ggX11_isTaken_X11_along : GoodIn wsX11_isTaken wsX11_along := goodIn_r _ [8, 9, 10, 26, 27, 28, 29, 30, 31, 32, 33, 34, 35, 36, 37, 38, 39, 40, 41, 42, 43, 44, 45, 46, 47, 48, 49, 50, 51, 52, 53, 54] (by decide +kernel) (by decide +kernel)
set_option maxRecDepth 20000 in
theorem gX11_isTaken_X11_along : GoodIn wsX11_isTaken (wsV RX11 92 RX11 yX11_along wsX11_along) := goodIn_app (goodIn_of _ (by decide +kernel)) ggX11_isTaken_X11_along
set_option maxRecDepth 20000 in
theorem ggX11_isTaken_X11_isFoe : GoodIn wsX11_isTaken wsX11_isFoe := goodIn_r _ [14, 15, 16, 17, 18, 19, 7, 20, 1, 21, 22, 23, 24, 25, 26, 27, 28, 29, 30, 31, 32, 33, 34, 35, 36, 37, 38, 39, 40, 41, 42, 43, 44, 45, 46, 47, 48, 49, 50, 51, 52, 53, 54] (by decide +kernel) (by decide +kernel)
set_option maxRecDepth 20000 in
theorem gX11_isTaken_X11_isFoe : GoodIn wsX11_isTaken (wsV RX11 117 RX11 yX11_isFoe wsX11_isFoe) := goodIn_app (goodIn_of _ (by decide +kernel)) ggX11_isTaken_X11_isFoe
theorem fX11_isTaken_0 : DS.Facts cX11_isTaken 0 [(.aload_n 0, 1), (.getfield 27, 3), (.iload_n 1, 1), (.iaload, 1), (.iconst 4, 1), (.if_icmp .eq 39, 3), (.aload_n 0, 1), (.getfield 27, 3), (.iload_n 1, 1), (.iaload, 1), (.iconst 2, 1), (.if_icmp .ne 11, 3), (.aload_n 0, 1), (.getfield 20, 3), (.iconst 4, 1), (.if_icmp .eq 21, 3), (.aload_n 0, 1), (.iload_n 1, 1), (.aload_n 0, 1), (.aload_n 0, 1), (.getfield 30, 3), (.iload_n 1, 1), (.iaload, 1), (.iload_n 2, 1)] := DS.facts 0 _ (by decide +kernel) (by decide +kernel)
theorem dX11_isTaken_0 : decode cX11_isTaken 0 = .ok (.aload_n 0, 1) := fX11_isTaken_0.1
theorem dX11_isTaken_1 : decode cX11_isTaken 1 = .ok (.getfield 27, 3) := fX11_isTaken_0.2.1
theorem dX11_isTaken_4 : decode cX11_isTaken 4 = .ok (.iload_n 1, 1) := fX11_isTaken_0.2.2.1
theorem dX11_isTaken_5 : decode cX11_isTaken 5 = .ok (.iaload, 1) := fX11_isTaken_0.2.2.2.1
theorem dX11_isTaken_6 : decode cX11_isTaken 6 = .ok (.iconst 4, 1) := fX11_isTaken_0.2.2.2.2.1
theorem dX11_isTaken_7 : decode cX11_isTaken 7 = .ok (.if_icmp .eq 39, 3) := fX11_isTaken_0.2.2.2.2.2.1
theorem dX11_isTaken_10 : decode cX11_isTaken 10 = .ok (.aload_n 0, 1) := fX11_isTaken_0.2.2.2.2.2.2.1
theorem dX11_isTaken_11 : decode cX11_isTaken 11 = .ok (.getfield 27, 3) := fX11_isTaken_0.2.2.2.2.2.2.2.1
theorem dX11_isTaken_14 : decode cX11_isTaken 14 = .ok (.iload_n 1, 1) := fX11_isTaken_0.2.2.2.2.2.2.2.2.1
theorem dX11_isTaken_15 : decode cX11_isTaken 15 = .ok (.iaload, 1) := fX11_isTaken_0.2.2.2.2.2.2.2.2.2.1
theorem dX11_isTaken_16 : decode cX11_isTaken 16 = .ok (.iconst 2, 1) := fX11_isTaken_0.2.2.2.2.2.2.2.2.2.2.1
theorem dX11_isTaken_17 : decode cX11_isTaken 17 = .ok (.if_icmp .ne 11, 3) := fX11_isTaken_0.2.2.2.2.2.2.2.2.2.2.2.1
theorem dX11_isTaken_20 : decode cX11_isTaken 20 = .ok (.aload_n 0, 1) := fX11_isTaken_0.2.2.2.2.2.2.2.2.2.2.2.2.1
theorem dX11_isTaken_21 : decode cX11_isTaken 21 = .ok (.getfield 20, 3) := fX11_isTaken_0.2.2.2.2.2.2.2.2.2.2.2.2.2.1
theorem dX11_isTaken_24 : decode cX11_isTaken 24 = .ok (.iconst 4, 1) := fX11_isTaken_0.2.2.2.2.2.2.2.2.2.2.2.2.2.2.1
theorem dX11_isTaken_25 : decode cX11_isTaken 25 = .ok (.if_icmp .eq 21, 3) := fX11_isTaken_0.2.2.2.2.2.2.2.2.2.2.2.2.2.2.2.1
theorem dX11_isTaken_28 : decode cX11_isTaken 28 = .ok (.aload_n 0, 1) := fX11_isTaken_0.2.2.2.2.2.2.2.2.2.2.2.2.2.2.2.2.1
theorem dX11_isTaken_29 : decode cX11_isTaken 29 = .ok (.iload_n 1, 1) := fX11_isTaken_0.2.2.2.2.2.2.2.2.2.2.2.2.2.2.2.2.2.1
theorem dX11_isTaken_30 : decode cX11_isTaken 30 = .ok (.aload_n 0, 1) := fX11_isTaken_0.2.2.2.2.2.2.2.2.2.2.2.2.2.2.2.2.2.2.1
theorem dX11_isTaken_31 : decode cX11_isTaken 31 = .ok (.aload_n 0, 1) := fX11_isTaken_0.2.2.2.2.2.2.2.2.2.2.2.2.2.2.2.2.2.2.2.1
theorem dX11_isTaken_32 : decode cX11_isTaken 32 = .ok (.getfield 30, 3) := fX11_isTaken_0.2.2.2.2.2.2.2.2.2.2.2.2.2.2.2.2.2.2.2.2.1
theorem dX11_isTaken_35 : decode cX11_isTaken 35 = .ok (.iload_n 1, 1) := fX11_isTaken_0.2.2.2.2.2.2.2.2.2.2.2.2.2.2.2.2.2.2.2.2.2.1
theorem dX11_isTaken_36 : decode cX11_isTaken 36 = .ok (.iaload, 1) := fX11_isTaken_0.2.2.2.2.2.2.2.2.2.2.2.2.2.2.2.2.2.2.2.2.2.2.1
theorem dX11_isTaken_37 : decode cX11_isTaken 37 = .ok (.iload_n 2, 1) := fX11_isTaken_0.2.2.2.2.2.2.2.2.2.2.2.2.2.2.2.2.2.2.2.2.2.2.2.1
theorem fX11_isTaken_38 : DS.Facts cX11_isTaken 38 [(.iconst 1, 1), (.invokevirtual 92, 3), (.invokevirtual 117, 3), (.ireturn, 1), (.iconst 1, 1), (.istore_n 3, 1), (.iconst 0, 1), (.istore 4, 2), (.iload 4, 2), (.iconst 4, 1), (.if_icmp .ge 40, 3), (.iload_n 3, 1), (.ifCond .eq 28, 3), (.aload_n 0, 1), (.iload_n 1, 1), (.aload_n 0, 1), (.aload_n 0, 1), (.getfield 30, 3), (.iload_n 1, 1), (.iaload, 1), (.iload 4, 2), (.iconst 1, 1), (.invokevirtual 92, 3), (.invokevirtual 117, 3)] := DS.facts 38 _ (by decide +kernel) (by decide +kernel)
theorem dX11_isTaken_38 : decode cX11_isTaken 38 = .ok (.iconst 1, 1) := fX11_isTaken_38.1
theorem dX11_isTaken_39 : decode cX11_isTaken 39 = .ok (.invokevirtual 92, 3) := fX11_isTaken_38.2.1
theorem dX11_isTaken_42 : decode cX11_isTaken 42 = .ok (.invokevirtual 117, 3) := fX11_isTaken_38.2.2.1
theorem dX11_isTaken_45 : decode cX11_isTaken 45 = .ok (.ireturn, 1) := fX11_isTaken_38.2.2.2.1
theorem dX11_isTaken_46 : decode cX11_isTaken 46 = .ok (.iconst 1, 1) := fX11_isTaken_38.2.2.2.2.1
theorem dX11_isTaken_47 : decode cX11_isTaken 47 = .ok (.istore_n 3, 1) := fX11_isTaken_38.2.2.2.2.2.1
theorem dX11_isTaken_48 : decode cX11_isTaken 48 = .ok (.iconst 0, 1) := fX11_isTaken_38.2.2.2.2.2.2.1
theorem dX11_isTaken_49 : decode cX11_isTaken 49 = .ok (.istore 4, 2) := fX11_isTaken_38.2.2.2.2.2.2.2.1
theorem dX11_isTaken_51 : decode cX11_isTaken 51 = .ok (.iload 4, 2) := fX11_isTaken_38.2.2.2.2.2.2.2.2.1
theorem dX11_isTaken_53 : decode cX11_isTaken 53 = .ok (.iconst 4, 1) := fX11_isTaken_38.2.2.2.2.2.2.2.2.2.1
theorem dX11_isTaken_54 : decode cX11_isTaken 54 = .ok (.if_icmp .ge 40, 3) := fX11_isTaken_38.2.2.2.2.2.2.2.2.2.2.1
theorem dX11_isTaken_57 : decode cX11_isTaken 57 = .ok (.iload_n 3, 1) := fX11_isTaken_38.2.2.2.2.2.2.2.2.2.2.2.1
theorem dX11_isTaken_58 : decode cX11_isTaken 58 = .ok (.ifCond .eq 28, 3) := fX11_isTaken_38.2.2.2.2.2.2.2.2.2.2.2.2.1
theorem dX11_isTaken_61 : decode cX11_isTaken 61 = .ok (.aload_n 0, 1) := fX11_isTaken_38.2.2.2.2.2.2.2.2.2.2.2.2.2.1
theorem dX11_isTaken_62 : decode cX11_isTaken 62 = .ok (.iload_n 1, 1) := fX11_isTaken_38.2.2.2.2.2.2.2.2.2.2.2.2.2.2.1
theorem dX11_isTaken_63 : decode cX11_isTaken 63 = .ok (.aload_n 0, 1) := fX11_isTaken_38.2.2.2.2.2.2.2.2.2.2.2.2.2.2.2.1
theorem dX11_isTaken_64 : decode cX11_isTaken 64 = .ok (.aload_n 0, 1) := fX11_isTaken_38.2.2.2.2.2.2.2.2.2.2.2.2.2.2.2.2.1
theorem dX11_isTaken_65 : decode cX11_isTaken 65 = .ok (.getfield 30, 3) := fX11_isTaken_38.2.2.2.2.2.2.2.2.2.2.2.2.2.2.2.2.2.1
theorem dX11_isTaken_68 : decode cX11_isTaken 68 = .ok (.iload_n 1, 1) := fX11_isTaken_38.2.2.2.2.2.2.2.2.2.2.2.2.2.2.2.2.2.2.1
theorem dX11_isTaken_69 : decode cX11_isTaken 69 = .ok (.iaload, 1) := fX11_isTaken_38.2.2.2.2.2.2.2.2.2.2.2.2.2.2.2.2.2.2.2.1
theorem dX11_isTaken_70 : decode cX11_isTaken 70 = .ok (.iload 4, 2) := fX11_isTaken_38.2.2.2.2.2.2.2.2.2.2.2.2.2.2.2.2.2.2.2.2.1
theorem dX11_isTaken_72 : decode cX11_isTaken 72 = .ok (.iconst 1, 1) := fX11_isTaken_38.2.2.2.2.2.2.2.2.2.2.2.2.2.2.2.2.2.2.2.2.2.1
theorem dX11_isTaken_73 : decode cX11_isTaken 73 = .ok (.invokevirtual 92, 3) := fX11_isTaken_38.2.2.2.2.2.2.2.2.2.2.2.2.2.2.2.2.2.2.2.2.2.2.1
theorem dX11_isTaken_76 : decode cX11_isTaken 76 = .ok (.invokevirtual 117, 3) := fX11_isTaken_38.2.2.2.2.2.2.2.2.2.2.2.2.2.2.2.2.2.2.2.2.2.2.2.1
theorem fX11_isTaken_79 : DS.Facts cX11_isTaken 79 [(.ifCond .eq 7, 3), (.iconst 1, 1), (.goto 4, 3), (.iconst 0, 1), (.istore_n 3, 1), (.iinc 4 1, 3), (.goto (-40), 3), (.iload_n 3, 1), (.ireturn, 1)] := DS.facts 79 _ (by decide +kernel) (by decide +kernel)
theorem dX11_isTaken_79 : decode cX11_isTaken 79 = .ok (.ifCond .eq 7, 3) := fX11_isTaken_79.1
theorem dX11_isTaken_82 : decode cX11_isTaken 82 = .ok (.iconst 1, 1) := fX11_isTaken_79.2.1
theorem dX11_isTaken_83 : decode cX11_isTaken 83 = .ok (.goto 4, 3) := fX11_isTaken_79.2.2.1
theorem dX11_isTaken_86 : decode cX11_isTaken 86 = .ok (.iconst 0, 1) := fX11_isTaken_79.2.2.2.1
theorem dX11_isTaken_87 : decode cX11_isTaken 87 = .ok (.istore_n 3, 1) := fX11_isTaken_79.2.2.2.2.1
theorem dX11_isTaken_88 : decode cX11_isTaken 88 = .ok (.iinc 4 1, 3) := fX11_isTaken_79.2.2.2.2.2.1
theorem dX11_isTaken_91 : decode cX11_isTaken 91 = .ok (.goto (-40), 3) := fX11_isTaken_79.2.2.2.2.2.2.1
theorem dX11_isTaken_94 : decode cX11_isTaken 94 = .ok (.iload_n 3, 1) := fX11_isTaken_79.2.2.2.2.2.2.2.1
theorem dX11_isTaken_95 : decode cX11_isTaken 95 = .ok (.ireturn, 1) := fX11_isTaken_79.2.2.2.2.2.2.2.2.1
set_option maxRecDepth 20000 in
theorem ggX11_make_X11_along : GoodIn wsX11_make wsX11_along := goodIn_r _ [11, 12, 13, 34, 35, 36, 37, 38, 39, 40, 41, 42, 43, 44, 45, 46, 47, 48, 49, 50, 51, 52, 53, 54, 55, 56, 57, 58, 59, 60, 61, 62] (by decide +kernel) (by decide +kernel)
set_option maxRecDepth 20000 in
theorem gX11_make_X11_along : GoodIn wsX11_make (wsV RX11 92 RX11 yX11_along wsX11_along) := goodIn_app (goodIn_of _ (by decide +kernel)) ggX11_make_X11_along
set_option maxRecDepth 20000 in
theorem ggX11_make_X11_takes : GoodIn wsX11_make wsX11_takes := goodIn_r _ [17, 18, 19, 34, 35, 36, 37, 38, 39, 40, 41, 42, 43, 44, 45, 46, 47, 48, 49, 50, 51, 52, 53, 54, 55, 56, 57, 58, 59, 60, 61, 62] (by decide +kernel) (by decide +kernel)
set_option maxRecDepth 20000 in
theorem gX11_make_X11_takes : GoodIn wsX11_make (wsV RX11 113 RX11 yX11_takes wsX11_takes) := goodIn_app (goodIn_of _ (by decide +kernel)) ggX11_make_X11_takes
set_option maxRecDepth 20000 in
theorem ggX11_make_X11_sideOf : GoodIn wsX11_make wsX11_sideOf := goodIn_r _ [23, 18, 34, 35, 36, 37, 38, 39, 40, 41, 42, 43, 44, 45, 46, 47, 48, 49, 50, 51, 52, 53, 54, 55, 56, 57, 58, 59, 60, 61, 62] (by decide +kernel) (by decide +kernel)
set_option maxRecDepth 20000 in
theorem gX11_make_X11_sideOf : GoodIn wsX11_make (wsV RX11 106 RX11 yX11_sideOf wsX11_sideOf) := goodIn_app (goodIn_of _ (by decide +kernel)) ggX11_make_X11_sideOf
set_option maxRecDepth 20000 in
theorem ggX11_make_X11_isTaken : GoodIn wsX11_make wsX11_isTaken := goodIn_r _ [27, 18, 28, 1, 7, 8, 9, 10, 11, 12, 13, 29, 30, 31, 32, 2, 33, 20, 21, 22, 23, 14, 15, 16, 17, 19, 34, 35, 36, 37, 38, 39, 40, 41, 42, 43, 44, 45, 46, 47, 48, 49, 50, 51, 52, 53, 54, 55, 56, 57, 58, 59, 60, 61, 62] (by decide +kernel) (by decide +kernel)
set_option maxRecDepth 20000 in
theorem gX11_make_X11_isTaken : GoodIn wsX11_make (wsV RX11 123 RX11 yX11_isTaken wsX11_isTaken) := goodIn_app (goodIn_of _ (by decide +kernel)) ggX11_make_X11_isTaken
theorem fX11_make_0 : DS.Facts cX11_make 0 [(.aload_n 0, 1), (.aload_n 0, 1), (.getfield 30, 3), (.iload_n 1, 1), (.iaload, 1), (.iload_n 2, 1), (.iload_n 3, 1), (.invokevirtual 92, 3), (.istore 4, 2), (.aload_n 0, 1), (.getfield 33, 3), (.aload_n 0, 1), (.getfield 30, 3), (.iload_n 1, 1), (.iaload, 1), (.iconst (-1), 1), (.iastore, 1), (.aload_n 0, 1), (.getfield 30, 3), (.iload_n 1, 1), (.iload 4, 2), (.iastore, 1), (.aload_n 0, 1), (.getfield 33, 3)] := DS.facts 0 _ (by decide +kernel) (by decide +kernel)
theorem dX11_make_0 : decode cX11_make 0 = .ok (.aload_n 0, 1) := fX11_make_0.1
theorem dX11_make_1 : decode cX11_make 1 = .ok (.aload_n 0, 1) := fX11_make_0.2.1
theorem dX11_make_2 : decode cX11_make 2 = .ok (.getfield 30, 3) := fX11_make_0.2.2.1
theorem dX11_make_5 : decode cX11_make 5 = .ok (.iload_n 1, 1) := fX11_make_0.2.2.2.1
theorem dX11_make_6 : decode cX11_make 6 = .ok (.iaload, 1) := fX11_make_0.2.2.2.2.1
theorem dX11_make_7 : decode cX11_make 7 = .ok (.iload_n 2, 1) := fX11_make_0.2.2.2.2.2.1
theorem dX11_make_8 : decode cX11_make 8 = .ok (.iload_n 3, 1) := fX11_make_0.2.2.2.2.2.2.1
theorem dX11_make_9 : decode cX11_make 9 = .ok (.invokevirtual 92, 3) := fX11_make_0.2.2.2.2.2.2.2.1
theorem dX11_make_12 : decode cX11_make 12 = .ok (.istore 4, 2) := fX11_make_0.2.2.2.2.2.2.2.2.1
theorem dX11_make_14 : decode cX11_make 14 = .ok (.aload_n 0, 1) := fX11_make_0.2.2.2.2.2.2.2.2.2.1
theorem dX11_make_15 : decode cX11_make 15 = .ok (.getfield 33, 3) := fX11_make_0.2.2.2.2.2.2.2.2.2.2.1
theorem dX11_make_18 : decode cX11_make 18 = .ok (.aload_n 0, 1) := fX11_make_0.2.2.2.2.2.2.2.2.2.2.2.1
theorem dX11_make_19 : decode cX11_make 19 = .ok (.getfield 30, 3) := fX11_make_0.2.2.2.2.2.2.2.2.2.2.2.2.1
theorem dX11_make_22 : decode cX11_make 22 = .ok (.iload_n 1, 1) := fX11_make_0.2.2.2.2.2.2.2.2.2.2.2.2.2.1
theorem dX11_make_23 : decode cX11_make 23 = .ok (.iaload, 1) := fX11_make_0.2.2.2.2.2.2.2.2.2.2.2.2.2.2.1
theorem dX11_make_24 : decode cX11_make 24 = .ok (.iconst (-1), 1) := fX11_make_0.2.2.2.2.2.2.2.2.2.2.2.2.2.2.2.1
theorem dX11_make_25 : decode cX11_make 25 = .ok (.iastore, 1) := fX11_make_0.2.2.2.2.2.2.2.2.2.2.2.2.2.2.2.2.1
theorem dX11_make_26 : decode cX11_make 26 = .ok (.aload_n 0, 1) := fX11_make_0.2.2.2.2.2.2.2.2.2.2.2.2.2.2.2.2.2.1
theorem dX11_make_27 : decode cX11_make 27 = .ok (.getfield 30, 3) := fX11_make_0.2.2.2.2.2.2.2.2.2.2.2.2.2.2.2.2.2.2.1
theorem dX11_make_30 : decode cX11_make 30 = .ok (.iload_n 1, 1) := fX11_make_0.2.2.2.2.2.2.2.2.2.2.2.2.2.2.2.2.2.2.2.1
theorem dX11_make_31 : decode cX11_make 31 = .ok (.iload 4, 2) := fX11_make_0.2.2.2.2.2.2.2.2.2.2.2.2.2.2.2.2.2.2.2.2.1
theorem dX11_make_33 : decode cX11_make 33 = .ok (.iastore, 1) := fX11_make_0.2.2.2.2.2.2.2.2.2.2.2.2.2.2.2.2.2.2.2.2.2.1
theorem dX11_make_34 : decode cX11_make 34 = .ok (.aload_n 0, 1) := fX11_make_0.2.2.2.2.2.2.2.2.2.2.2.2.2.2.2.2.2.2.2.2.2.2.1
theorem dX11_make_35 : decode cX11_make 35 = .ok (.getfield 33, 3) := fX11_make_0.2.2.2.2.2.2.2.2.2.2.2.2.2.2.2.2.2.2.2.2.2.2.2.1
theorem fX11_make_38 : DS.Facts cX11_make 38 [(.iload 4, 2), (.iload_n 1, 1), (.iastore, 1), (.iconst 0, 1), (.istore 5, 2), (.iload 5, 2), (.aload_n 0, 1), (.getfield 103, 3), (.if_icmp .ge 17, 3), (.aload_n 0, 1), (.getfield 47, 3), (.iload 5, 2), (.iconst 0, 1), (.bastore, 1), (.iinc 5 1, 3), (.goto (-20), 3), (.aload_n 0, 1), (.iconst 0, 1), (.putfield 120, 3), (.iconst 0, 1), (.istore 5, 2), (.iload 5, 2), (.iconst 4, 1), (.if_icmp .ge 92, 3)] := DS.facts 38 _ (by decide +kernel) (by decide +kernel)
theorem dX11_make_38 : decode cX11_make 38 = .ok (.iload 4, 2) := fX11_make_38.1
theorem dX11_make_40 : decode cX11_make 40 = .ok (.iload_n 1, 1) := fX11_make_38.2.1
theorem dX11_make_41 : decode cX11_make 41 = .ok (.iastore, 1) := fX11_make_38.2.2.1
theorem dX11_make_42 : decode cX11_make 42 = .ok (.iconst 0, 1) := fX11_make_38.2.2.2.1
theorem dX11_make_43 : decode cX11_make 43 = .ok (.istore 5, 2) := fX11_make_38.2.2.2.2.1
theorem dX11_make_45 : decode cX11_make 45 = .ok (.iload 5, 2) := fX11_make_38.2.2.2.2.2.1
theorem dX11_make_47 : decode cX11_make 47 = .ok (.aload_n 0, 1) := fX11_make_38.2.2.2.2.2.2.1
theorem dX11_make_48 : decode cX11_make 48 = .ok (.getfield 103, 3) := fX11_make_38.2.2.2.2.2.2.2.1
theorem dX11_make_51 : decode cX11_make 51 = .ok (.if_icmp .ge 17, 3) := fX11_make_38.2.2.2.2.2.2.2.2.1
theorem dX11_make_54 : decode cX11_make 54 = .ok (.aload_n 0, 1) := fX11_make_38.2.2.2.2.2.2.2.2.2.1
theorem dX11_make_55 : decode cX11_make 55 = .ok (.getfield 47, 3) := fX11_make_38.2.2.2.2.2.2.2.2.2.2.1
theorem dX11_make_58 : decode cX11_make 58 = .ok (.iload 5, 2) := fX11_make_38.2.2.2.2.2.2.2.2.2.2.2.1
theorem dX11_make_60 : decode cX11_make 60 = .ok (.iconst 0, 1) := fX11_make_38.2.2.2.2.2.2.2.2.2.2.2.2.1
theorem dX11_make_61 : decode cX11_make 61 = .ok (.bastore, 1) := fX11_make_38.2.2.2.2.2.2.2.2.2.2.2.2.2.1
theorem dX11_make_62 : decode cX11_make 62 = .ok (.iinc 5 1, 3) := fX11_make_38.2.2.2.2.2.2.2.2.2.2.2.2.2.2.1
theorem dX11_make_65 : decode cX11_make 65 = .ok (.goto (-20), 3) := fX11_make_38.2.2.2.2.2.2.2.2.2.2.2.2.2.2.2.1
theorem dX11_make_68 : decode cX11_make 68 = .ok (.aload_n 0, 1) := fX11_make_38.2.2.2.2.2.2.2.2.2.2.2.2.2.2.2.2.1
theorem dX11_make_69 : decode cX11_make 69 = .ok (.iconst 0, 1) := fX11_make_38.2.2.2.2.2.2.2.2.2.2.2.2.2.2.2.2.2.1
theorem dX11_make_70 : decode cX11_make 70 = .ok (.putfield 120, 3) := fX11_make_38.2.2.2.2.2.2.2.2.2.2.2.2.2.2.2.2.2.2.1
theorem dX11_make_73 : decode cX11_make 73 = .ok (.iconst 0, 1) := fX11_make_38.2.2.2.2.2.2.2.2.2.2.2.2.2.2.2.2.2.2.2.1
theorem dX11_make_74 : decode cX11_make 74 = .ok (.istore 5, 2) := fX11_make_38.2.2.2.2.2.2.2.2.2.2.2.2.2.2.2.2.2.2.2.2.1
theorem dX11_make_76 : decode cX11_make 76 = .ok (.iload 5, 2) := fX11_make_38.2.2.2.2.2.2.2.2.2.2.2.2.2.2.2.2.2.2.2.2.2.1
theorem dX11_make_78 : decode cX11_make 78 = .ok (.iconst 4, 1) := fX11_make_38.2.2.2.2.2.2.2.2.2.2.2.2.2.2.2.2.2.2.2.2.2.2.1
theorem dX11_make_79 : decode cX11_make 79 = .ok (.if_icmp .ge 92, 3) := fX11_make_38.2.2.2.2.2.2.2.2.2.2.2.2.2.2.2.2.2.2.2.2.2.2.2.1
theorem fX11_make_82 : DS.Facts cX11_make 82 [(.aload_n 0, 1), (.iload_n 1, 1), (.invokevirtual 113, 3), (.ifCond .eq 84, 3), (.aload_n 0, 1), (.iload 4, 2), (.iload 5, 2), (.iconst 1, 1), (.invokevirtual 92, 3), (.istore 6, 2), (.iload 6, 2), (.iconst (-1), 1), (.if_icmp .eq 61, 3), (.aload_n 0, 1), (.getfield 33, 3), (.iload 6, 2), (.iaload, 1), (.iconst (-1), 1), (.if_icmp .eq 50, 3), (.aload_n 0, 1), (.aload_n 0, 1), (.getfield 33, 3), (.iload 6, 2), (.iaload, 1)] := DS.facts 82 _ (by decide +kernel) (by decide +kernel)
theorem dX11_make_82 : decode cX11_make 82 = .ok (.aload_n 0, 1) := fX11_make_82.1
theorem dX11_make_83 : decode cX11_make 83 = .ok (.iload_n 1, 1) := fX11_make_82.2.1
theorem dX11_make_84 : decode cX11_make 84 = .ok (.invokevirtual 113, 3) := fX11_make_82.2.2.1
theorem dX11_make_87 : decode cX11_make 87 = .ok (.ifCond .eq 84, 3) := fX11_make_82.2.2.2.1
theorem dX11_make_90 : decode cX11_make 90 = .ok (.aload_n 0, 1) := fX11_make_82.2.2.2.2.1
theorem dX11_make_91 : decode cX11_make 91 = .ok (.iload 4, 2) := fX11_make_82.2.2.2.2.2.1
theorem dX11_make_93 : decode cX11_make 93 = .ok (.iload 5, 2) := fX11_make_82.2.2.2.2.2.2.1
theorem dX11_make_95 : decode cX11_make 95 = .ok (.iconst 1, 1) := fX11_make_82.2.2.2.2.2.2.2.1
theorem dX11_make_96 : decode cX11_make 96 = .ok (.invokevirtual 92, 3) := fX11_make_82.2.2.2.2.2.2.2.2.1
theorem dX11_make_99 : decode cX11_make 99 = .ok (.istore 6, 2) := fX11_make_82.2.2.2.2.2.2.2.2.2.1
theorem dX11_make_101 : decode cX11_make 101 = .ok (.iload 6, 2) := fX11_make_82.2.2.2.2.2.2.2.2.2.2.1
theorem dX11_make_103 : decode cX11_make 103 = .ok (.iconst (-1), 1) := fX11_make_82.2.2.2.2.2.2.2.2.2.2.2.1
theorem dX11_make_104 : decode cX11_make 104 = .ok (.if_icmp .eq 61, 3) := fX11_make_82.2.2.2.2.2.2.2.2.2.2.2.2.1
theorem dX11_make_107 : decode cX11_make 107 = .ok (.aload_n 0, 1) := fX11_make_82.2.2.2.2.2.2.2.2.2.2.2.2.2.1
theorem dX11_make_108 : decode cX11_make 108 = .ok (.getfield 33, 3) := fX11_make_82.2.2.2.2.2.2.2.2.2.2.2.2.2.2.1
theorem dX11_make_111 : decode cX11_make 111 = .ok (.iload 6, 2) := fX11_make_82.2.2.2.2.2.2.2.2.2.2.2.2.2.2.2.1
theorem dX11_make_113 : decode cX11_make 113 = .ok (.iaload, 1) := fX11_make_82.2.2.2.2.2.2.2.2.2.2.2.2.2.2.2.2.1
theorem dX11_make_114 : decode cX11_make 114 = .ok (.iconst (-1), 1) := fX11_make_82.2.2.2.2.2.2.2.2.2.2.2.2.2.2.2.2.2.1
theorem dX11_make_115 : decode cX11_make 115 = .ok (.if_icmp .eq 50, 3) := fX11_make_82.2.2.2.2.2.2.2.2.2.2.2.2.2.2.2.2.2.2.1
theorem dX11_make_118 : decode cX11_make 118 = .ok (.aload_n 0, 1) := fX11_make_82.2.2.2.2.2.2.2.2.2.2.2.2.2.2.2.2.2.2.2.1
theorem dX11_make_119 : decode cX11_make 119 = .ok (.aload_n 0, 1) := fX11_make_82.2.2.2.2.2.2.2.2.2.2.2.2.2.2.2.2.2.2.2.2.1
theorem dX11_make_120 : decode cX11_make 120 = .ok (.getfield 33, 3) := fX11_make_82.2.2.2.2.2.2.2.2.2.2.2.2.2.2.2.2.2.2.2.2.2.1
theorem dX11_make_123 : decode cX11_make 123 = .ok (.iload 6, 2) := fX11_make_82.2.2.2.2.2.2.2.2.2.2.2.2.2.2.2.2.2.2.2.2.2.2.1
theorem dX11_make_125 : decode cX11_make 125 = .ok (.iaload, 1) := fX11_make_82.2.2.2.2.2.2.2.2.2.2.2.2.2.2.2.2.2.2.2.2.2.2.2.1
theorem fX11_make_126 : DS.Facts cX11_make 126 [(.invokevirtual 106, 3), (.aload_n 0, 1), (.iload_n 1, 1), (.invokevirtual 106, 3), (.if_icmp .ne 6, 3), (.goto 28, 3), (.aload_n 0, 1), (.getfield 47, 3), (.aload_n 0, 1), (.getfield 33, 3), (.iload 6, 2), (.iaload, 1), (.aload_n 0, 1), (.aload_n 0, 1), (.getfield 33, 3), (.iload 6, 2), (.iaload, 1), (.iload 5, 2), (.invokevirtual 123, 3), (.bastore, 1), (.iinc 5 1, 3), (.goto (-92), 3), (.iconst 0, 1), (.istore 5, 2)] := DS.facts 126 _ (by decide +kernel) (by decide +kernel)
theorem dX11_make_126 : decode cX11_make 126 = .ok (.invokevirtual 106, 3) := fX11_make_126.1
theorem dX11_make_129 : decode cX11_make 129 = .ok (.aload_n 0, 1) := fX11_make_126.2.1
theorem dX11_make_130 : decode cX11_make 130 = .ok (.iload_n 1, 1) := fX11_make_126.2.2.1
theorem dX11_make_131 : decode cX11_make 131 = .ok (.invokevirtual 106, 3) := fX11_make_126.2.2.2.1
theorem dX11_make_134 : decode cX11_make 134 = .ok (.if_icmp .ne 6, 3) := fX11_make_126.2.2.2.2.1
theorem dX11_make_137 : decode cX11_make 137 = .ok (.goto 28, 3) := fX11_make_126.2.2.2.2.2.1
theorem dX11_make_140 : decode cX11_make 140 = .ok (.aload_n 0, 1) := fX11_make_126.2.2.2.2.2.2.1
theorem dX11_make_141 : decode cX11_make 141 = .ok (.getfield 47, 3) := fX11_make_126.2.2.2.2.2.2.2.1
theorem dX11_make_144 : decode cX11_make 144 = .ok (.aload_n 0, 1) := fX11_make_126.2.2.2.2.2.2.2.2.1
theorem dX11_make_145 : decode cX11_make 145 = .ok (.getfield 33, 3) := fX11_make_126.2.2.2.2.2.2.2.2.2.1
theorem dX11_make_148 : decode cX11_make 148 = .ok (.iload 6, 2) := fX11_make_126.2.2.2.2.2.2.2.2.2.2.1
theorem dX11_make_150 : decode cX11_make 150 = .ok (.iaload, 1) := fX11_make_126.2.2.2.2.2.2.2.2.2.2.2.1
theorem dX11_make_151 : decode cX11_make 151 = .ok (.aload_n 0, 1) := fX11_make_126.2.2.2.2.2.2.2.2.2.2.2.2.1
theorem dX11_make_152 : decode cX11_make 152 = .ok (.aload_n 0, 1) := fX11_make_126.2.2.2.2.2.2.2.2.2.2.2.2.2.1
theorem dX11_make_153 : decode cX11_make 153 = .ok (.getfield 33, 3) := fX11_make_126.2.2.2.2.2.2.2.2.2.2.2.2.2.2.1
theorem dX11_make_156 : decode cX11_make 156 = .ok (.iload 6, 2) := fX11_make_126.2.2.2.2.2.2.2.2.2.2.2.2.2.2.2.1
theorem dX11_make_158 : decode cX11_make 158 = .ok (.iaload, 1) := fX11_make_126.2.2.2.2.2.2.2.2.2.2.2.2.2.2.2.2.1
theorem dX11_make_159 : decode cX11_make 159 = .ok (.iload 5, 2) := fX11_make_126.2.2.2.2.2.2.2.2.2.2.2.2.2.2.2.2.2.1
theorem dX11_make_161 : decode cX11_make 161 = .ok (.invokevirtual 123, 3) := fX11_make_126.2.2.2.2.2.2.2.2.2.2.2.2.2.2.2.2.2.2.1
theorem dX11_make_164 : decode cX11_make 164 = .ok (.bastore, 1) := fX11_make_126.2.2.2.2.2.2.2.2.2.2.2.2.2.2.2.2.2.2.2.1
theorem dX11_make_165 : decode cX11_make 165 = .ok (.iinc 5 1, 3) := fX11_make_126.2.2.2.2.2.2.2.2.2.2.2.2.2.2.2.2.2.2.2.2.1
theorem dX11_make_168 : decode cX11_make 168 = .ok (.goto (-92), 3) := fX11_make_126.2.2.2.2.2.2.2.2.2.2.2.2.2.2.2.2.2.2.2.2.2.1
theorem dX11_make_171 : decode cX11_make 171 = .ok (.iconst 0, 1) := fX11_make_126.2.2.2.2.2.2.2.2.2.2.2.2.2.2.2.2.2.2.2.2.2.2.1
theorem dX11_make_172 : decode cX11_make 172 = .ok (.istore 5, 2) := fX11_make_126.2.2.2.2.2.2.2.2.2.2.2.2.2.2.2.2.2.2.2.2.2.2.2.1
theorem fX11_make_174 : DS.Facts cX11_make 174 [(.iload 5, 2), (.aload_n 0, 1), (.getfield 103, 3), (.if_icmp .ge 53, 3), (.aload_n 0, 1), (.getfield 47, 3), (.iload 5, 2), (.baload, 1), (.ifCond .ne 6, 3), (.goto 34, 3), (.aload_n 0, 1), (.getfield 33, 3), (.aload_n 0, 1), (.getfield 30, 3), (.iload 5, 2), (.iaload, 1), (.iconst (-1), 1), (.iastore, 1), (.aload_n 0, 1), (.getfield 30, 3), (.iload 5, 2), (.iconst (-1), 1), (.iastore, 1), (.aload_n 0, 1)] := DS.facts 174 _ (by decide +kernel) (by decide +kernel)
theorem dX11_make_174 : decode cX11_make 174 = .ok (.iload 5, 2) := fX11_make_174.1
theorem dX11_make_176 : decode cX11_make 176 = .ok (.aload_n 0, 1) := fX11_make_174.2.1
theorem dX11_make_177 : decode cX11_make 177 = .ok (.getfield 103, 3) := fX11_make_174.2.2.1
theorem dX11_make_180 : decode cX11_make 180 = .ok (.if_icmp .ge 53, 3) := fX11_make_174.2.2.2.1
theorem dX11_make_183 : decode cX11_make 183 = .ok (.aload_n 0, 1) := fX11_make_174.2.2.2.2.1
theorem dX11_make_184 : decode cX11_make 184 = .ok (.getfield 47, 3) := fX11_make_174.2.2.2.2.2.1
theorem dX11_make_187 : decode cX11_make 187 = .ok (.iload 5, 2) := fX11_make_174.2.2.2.2.2.2.1
theorem dX11_make_189 : decode cX11_make 189 = .ok (.baload, 1) := fX11_make_174.2.2.2.2.2.2.2.1
theorem dX11_make_190 : decode cX11_make 190 = .ok (.ifCond .ne 6, 3) := fX11_make_174.2.2.2.2.2.2.2.2.1
theorem dX11_make_193 : decode cX11_make 193 = .ok (.goto 34, 3) := fX11_make_174.2.2.2.2.2.2.2.2.2.1
theorem dX11_make_196 : decode cX11_make 196 = .ok (.aload_n 0, 1) := fX11_make_174.2.2.2.2.2.2.2.2.2.2.1
theorem dX11_make_197 : decode cX11_make 197 = .ok (.getfield 33, 3) := fX11_make_174.2.2.2.2.2.2.2.2.2.2.2.1
theorem dX11_make_200 : decode cX11_make 200 = .ok (.aload_n 0, 1) := fX11_make_174.2.2.2.2.2.2.2.2.2.2.2.2.1
theorem dX11_make_201 : decode cX11_make 201 = .ok (.getfield 30, 3) := fX11_make_174.2.2.2.2.2.2.2.2.2.2.2.2.2.1
theorem dX11_make_204 : decode cX11_make 204 = .ok (.iload 5, 2) := fX11_make_174.2.2.2.2.2.2.2.2.2.2.2.2.2.2.1
theorem dX11_make_206 : decode cX11_make 206 = .ok (.iaload, 1) := fX11_make_174.2.2.2.2.2.2.2.2.2.2.2.2.2.2.2.1
theorem dX11_make_207 : decode cX11_make 207 = .ok (.iconst (-1), 1) := fX11_make_174.2.2.2.2.2.2.2.2.2.2.2.2.2.2.2.2.1
theorem dX11_make_208 : decode cX11_make 208 = .ok (.iastore, 1) := fX11_make_174.2.2.2.2.2.2.2.2.2.2.2.2.2.2.2.2.2.1
theorem dX11_make_209 : decode cX11_make 209 = .ok (.aload_n 0, 1) := fX11_make_174.2.2.2.2.2.2.2.2.2.2.2.2.2.2.2.2.2.2.1
theorem dX11_make_210 : decode cX11_make 210 = .ok (.getfield 30, 3) := fX11_make_174.2.2.2.2.2.2.2.2.2.2.2.2.2.2.2.2.2.2.2.1
theorem dX11_make_213 : decode cX11_make 213 = .ok (.iload 5, 2) := fX11_make_174.2.2.2.2.2.2.2.2.2.2.2.2.2.2.2.2.2.2.2.2.1
theorem dX11_make_215 : decode cX11_make 215 = .ok (.iconst (-1), 1) := fX11_make_174.2.2.2.2.2.2.2.2.2.2.2.2.2.2.2.2.2.2.2.2.2.1
theorem dX11_make_216 : decode cX11_make 216 = .ok (.iastore, 1) := fX11_make_174.2.2.2.2.2.2.2.2.2.2.2.2.2.2.2.2.2.2.2.2.2.2.1
theorem dX11_make_217 : decode cX11_make 217 = .ok (.aload_n 0, 1) := fX11_make_174.2.2.2.2.2.2.2.2.2.2.2.2.2.2.2.2.2.2.2.2.2.2.2.1
theorem fX11_make_218 : DS.Facts cX11_make 218 [(.dup, 1), (.getfield 120, 3), (.iconst 1, 1), (.iadd, 1), (.putfield 120, 3), (.iinc 5 1, 3), (.goto (-56), 3), (.aload_n 0, 1), (.iconst 1, 1), (.aload_n 0, 1), (.getfield 126, 3), (.isub, 1), (.putfield 126, 3), (.return_, 1)] := DS.facts 218 _ (by decide +kernel) (by decide +kernel)
theorem dX11_make_218 : decode cX11_make 218 = .ok (.dup, 1) := fX11_make_218.1
theorem dX11_make_219 : decode cX11_make 219 = .ok (.getfield 120, 3) := fX11_make_218.2.1
theorem dX11_make_222 : decode cX11_make 222 = .ok (.iconst 1, 1) := fX11_make_218.2.2.1
theorem dX11_make_223 : decode cX11_make 223 = .ok (.iadd, 1) := fX11_make_218.2.2.2.1
theorem dX11_make_224 : decode cX11_make 224 = .ok (.putfield 120, 3) := fX11_make_218.2.2.2.2.1
theorem dX11_make_227 : decode cX11_make 227 = .ok (.iinc 5 1, 3) := fX11_make_218.2.2.2.2.2.1
theorem dX11_make_230 : decode cX11_make 230 = .ok (.goto (-56), 3) := fX11_make_218.2.2.2.2.2.2.1
theorem dX11_make_233 : decode cX11_make 233 = .ok (.aload_n 0, 1) := fX11_make_218.2.2.2.2.2.2.2.1
theorem dX11_make_234 : decode cX11_make 234 = .ok (.iconst 1, 1) := fX11_make_218.2.2.2.2.2.2.2.2.1
theorem dX11_make_235 : decode cX11_make 235 = .ok (.aload_n 0, 1) := fX11_make_218.2.2.2.2.2.2.2.2.2.1
theorem dX11_make_236 : decode cX11_make 236 = .ok (.getfield 126, 3) := fX11_make_218.2.2.2.2.2.2.2.2.2.2.1
theorem dX11_make_239 : decode cX11_make 239 = .ok (.isub, 1) := fX11_make_218.2.2.2.2.2.2.2.2.2.2.2.1
theorem dX11_make_240 : decode cX11_make 240 = .ok (.putfield 126, 3) := fX11_make_218.2.2.2.2.2.2.2.2.2.2.2.2.1
theorem dX11_make_243 : decode cX11_make 243 = .ok (.return_, 1) := fX11_make_218.2.2.2.2.2.2.2.2.2.2.2.2.2.1
theorem fX11_row_0 : DS.Facts cX11_row 0 [(.bipush 41, 2), (.iload_n 1, 1), (.imul, 1), (.ireturn, 1)] := DS.facts 0 _ (by decide +kernel) (by decide +kernel)
theorem dX11_row_0 : decode cX11_row 0 = .ok (.bipush 41, 2) := fX11_row_0.1
theorem dX11_row_2 : decode cX11_row 2 = .ok (.iload_n 1, 1) := fX11_row_0.2.1
theorem dX11_row_3 : decode cX11_row 3 = .ok (.imul, 1) := fX11_row_0.2.2.1
theorem dX11_row_4 : decode cX11_row 4 = .ok (.ireturn, 1) := fX11_row_0.2.2.2.1
set_option maxRecDepth 20000 in
theorem ggX11_write_X11_row : GoodIn wsX11_write wsX11_row := goodIn_r _ [9] (by decide +kernel) (by decide +kernel)
set_option maxRecDepth 20000 in
theorem gX11_write_X11_row : GoodIn wsX11_write (wsV RX11 129 RX11 yX11_row wsX11_row) := goodIn_app (goodIn_of _ (by decide +kernel)) ggX11_write_X11_row
theorem fX11_write_0 : DS.Facts cX11_write 0 [(.iconst 0, 1), (.istore_n 2, 1), (.iload_n 2, 1), (.bipush 40, 2), (.if_icmp .ge 40, 3), (.aload_n 0, 1), (.getfield 43, 3), (.aload_n 0, 1), (.iload_n 1, 1), (.invokevirtual 129, 3), (.iload_n 2, 1), (.iadd, 1), (.iload_n 2, 1), (.aload_n 0, 1), (.getfield 103, 3), (.if_icmp .ge 12, 3), (.aload_n 0, 1), (.getfield 30, 3), (.iload_n 2, 1), (.iaload, 1), (.goto 4, 3), (.iconst (-1), 1), (.i2b, 1), (.bastore, 1)] := DS.facts 0 _ (by decide +kernel) (by decide +kernel)
theorem dX11_write_0 : decode cX11_write 0 = .ok (.iconst 0, 1) := fX11_write_0.1
