theorem dX4_canCompare_0 : decode cX4_canCompare 0 = .ok (.iload_n 1, 1) := by decide +kernel
theorem dX4_canCompare_1 : decode cX4_canCompare 1 = .ok (.iconst 0, 1) := by decide +kernel
theorem dX4_canCompare_2 : decode cX4_canCompare 2 = .ok (.iconst 3, 1) := by decide +kernel
theorem dX4_canCompare_3 : decode cX4_canCompare 3 = .ok (.invokestatic 36, 3) := by decide +kernel
theorem dX4_canCompare_6 : decode cX4_canCompare 6 = .ok (.ifCond .eq 25, 3) := by decide +kernel
theorem dX4_canCompare_9 : decode cX4_canCompare 9 = .ok (.iload_n 2, 1) := by decide +kernel
theorem dX4_canCompare_10 : decode cX4_canCompare 10 = .ok (.invokestatic 44, 3) := by decide +kernel
theorem dX4_canCompare_13 : decode cX4_canCompare 13 = .ok (.ifCond .eq 18, 3) := by decide +kernel
theorem dX4_canCompare_16 : decode cX4_canCompare 16 = .ok (.iload_n 3, 1) := by decide +kernel
theorem dX4_canCompare_17 : decode cX4_canCompare 17 = .ok (.iconst 0, 1) := by decide +kernel
theorem dX4_canCompare_18 : decode cX4_canCompare 18 = .ok (.sipush 255, 3) := by decide +kernel
theorem dX4_canCompare_21 : decode cX4_canCompare 21 = .ok (.invokestatic 36, 3) := by decide +kernel
theorem dX4_canCompare_24 : decode cX4_canCompare 24 = .ok (.ifCond .eq 7, 3) := by decide +kernel
theorem dX4_canCompare_27 : decode cX4_canCompare 27 = .ok (.iconst 1, 1) := by decide +kernel
theorem dX4_canCompare_28 : decode cX4_canCompare 28 = .ok (.goto 4, 3) := by decide +kernel
theorem dX4_canCompare_31 : decode cX4_canCompare 31 = .ok (.iconst 0, 1) := by decide +kernel
theorem dX4_canCompare_32 : decode cX4_canCompare 32 = .ok (.istore 4, 2) := by decide +kernel
theorem dX4_canCompare_34 : decode cX4_canCompare 34 = .ok (.aload_n 0, 1) := by decide +kernel
theorem dX4_canCompare_35 : decode cX4_canCompare 35 = .ok (.iload 4, 2) := by decide +kernel
theorem dX4_canCompare_37 : decode cX4_canCompare 37 = .ok (.ifCond .ne 7, 3) := by decide +kernel
theorem dX4_canCompare_40 : decode cX4_canCompare 40 = .ok (.iconst 1, 1) := by decide +kernel
theorem dX4_canCompare_41 : decode cX4_canCompare 41 = .ok (.goto 21, 3) := by decide +kernel
theorem dX4_canCompare_44 : decode cX4_canCompare 44 = .ok (.aload_n 0, 1) := by decide +kernel
theorem dX4_canCompare_45 : decode cX4_canCompare 45 = .ok (.getfield 16, 3) := by decide +kernel
theorem dX4_canCompare_48 : decode cX4_canCompare 48 = .ok (.iload_n 1, 1) := by decide +kernel
theorem dX4_canCompare_49 : decode cX4_canCompare 49 = .ok (.iload_n 2, 1) := by decide +kernel
theorem dX4_canCompare_50 : decode cX4_canCompare 50 = .ok (.invokestatic 55, 3) := by decide +kernel
theorem dX4_canCompare_53 : decode cX4_canCompare 53 = .ok (.baload, 1) := by decide +kernel
theorem dX4_canCompare_54 : decode cX4_canCompare 54 = .ok (.ifCond .eq 7, 3) := by decide +kernel
theorem dX4_canCompare_57 : decode cX4_canCompare 57 = .ok (.iconst 0, 1) := by decide +kernel
theorem dX4_canCompare_58 : decode cX4_canCompare 58 = .ok (.goto 4, 3) := by decide +kernel
theorem dX4_canCompare_61 : decode cX4_canCompare 61 = .ok (.iconst 2, 1) := by decide +kernel
theorem dX4_canCompare_62 : decode cX4_canCompare 62 = .ok (.invokevirtual 52, 3) := by decide +kernel
theorem dX4_canCompare_65 : decode cX4_canCompare 65 = .ok (.ifCond .ne 5, 3) := by decide +kernel
theorem dX4_canCompare_68 : decode cX4_canCompare 68 = .ok (.iconst 0, 1) := by decide +kernel
theorem dX4_canCompare_69 : decode cX4_canCompare 69 = .ok (.ireturn, 1) := by decide +kernel
theorem dX4_canCompare_70 : decode cX4_canCompare 70 = .ok (.aload_n 0, 1) := by decide +kernel
theorem dX4_canCompare_71 : decode cX4_canCompare 71 = .ok (.iload_n 1, 1) := by decide +kernel
theorem dX4_canCompare_72 : decode cX4_canCompare 72 = .ok (.iload_n 2, 1) := by decide +kernel
theorem dX4_canCompare_73 : decode cX4_canCompare 73 = .ok (.iload_n 3, 1) := by decide +kernel
theorem dX4_canCompare_74 : decode cX4_canCompare 74 = .ok (.invokevirtual 95, 3) := by decide +kernel
theorem dX4_canCompare_77 : decode cX4_canCompare 77 = .ok (.iconst 1, 1) := by decide +kernel
theorem dX4_canCompare_78 : decode cX4_canCompare 78 = .ok (.ireturn, 1) := by decide +kernel
set_option maxRecDepth 20000 in
theorem ggX4_first_X4_differs : GoodIn wsX4_first wsX4_differs := goodIn_r _ [5, 6, 7, 8, 9, 4, 10, 11, 12, 13, 14, 15, 16, 17, 18, 19, 20, 21, 22, 23, 24, 25, 26, 27, 28, 29, 30, 31, 32, 33, 34, 35, 36, 37, 38, 39, 40, 41, 42, 43, 44, 45] (by decide +kernel) (by decide +kernel)
set_option maxRecDepth 20000 in
theorem gX4_first_X4_differs : GoodIn wsX4_first (wsV RX4 99 RX4 yX4_differs wsX4_differs) := goodIn_app (goodIn_of _ (by decide +kernel)) ggX4_first_X4_differs
theorem dX4_first_0 : decode cX4_first 0 = .ok (.iconst 0, 1) := by decide +kernel
theorem dX4_first_1 : decode cX4_first 1 = .ok (.istore 4, 2) := by decide +kernel
theorem dX4_first_3 : decode cX4_first 3 = .ok (.iload 4, 2) := by decide +kernel
theorem dX4_first_5 : decode cX4_first 5 = .ok (.bipush 64, 2) := by decide +kernel
theorem dX4_first_7 : decode cX4_first 7 = .ok (.if_icmp .ge 24, 3) := by decide +kernel
theorem dX4_first_10 : decode cX4_first 10 = .ok (.aload_n 0, 1) := by decide +kernel
theorem dX4_first_11 : decode cX4_first 11 = .ok (.iload_n 1, 1) := by decide +kernel
theorem dX4_first_12 : decode cX4_first 12 = .ok (.iload_n 2, 1) := by decide +kernel
theorem dX4_first_13 : decode cX4_first 13 = .ok (.iload_n 3, 1) := by decide +kernel
theorem dX4_first_14 : decode cX4_first 14 = .ok (.iload 4, 2) := by decide +kernel
theorem dX4_first_16 : decode cX4_first 16 = .ok (.invokevirtual 99, 3) := by decide +kernel
theorem dX4_first_19 : decode cX4_first 19 = .ok (.ifCond .eq 6, 3) := by decide +kernel
theorem dX4_first_22 : decode cX4_first 22 = .ok (.iload 4, 2) := by decide +kernel
theorem dX4_first_24 : decode cX4_first 24 = .ok (.ireturn, 1) := by decide +kernel
theorem dX4_first_25 : decode cX4_first 25 = .ok (.iinc 4 1, 3) := by decide +kernel
theorem dX4_first_28 : decode cX4_first 28 = .ok (.goto (-25), 3) := by decide +kernel
theorem dX4_first_31 : decode cX4_first 31 = .ok (.iconst (-1), 1) := by decide +kernel
theorem dX4_first_32 : decode cX4_first 32 = .ok (.ireturn, 1) := by decide +kernel
set_option maxRecDepth 20000 in
theorem ggX4_differences_X4_canCompare : GoodIn wsX4_differences wsX4_canCompare := goodIn_r _ [5, 6, 7, 8, 4, 9, 10, 11, 12, 13, 14, 15, 16, 17, 18, 19, 20, 21, 22, 23, 24, 25, 26, 27, 28, 29, 30, 31, 32, 33, 34, 35, 36, 37, 38, 39, 40, 41, 42, 43, 60, 61, 62, 63, 64, 65, 66, 67, 68, 69] (by decide +kernel) (by decide +kernel)
set_option maxRecDepth 20000 in
theorem gX4_differences_X4_canCompare : GoodIn wsX4_differences (wsV RX4 102 RX4 yX4_canCompare wsX4_canCompare) := goodIn_app (goodIn_of _ (by decide +kernel)) ggX4_differences_X4_canCompare
set_option maxRecDepth 20000 in
theorem ggX4_differences_X4_differs : GoodIn wsX4_differences wsX4_differs := goodIn_r _ [47, 33, 32, 13, 14, 4, 15, 37, 38, 39, 40, 7, 8, 9, 48, 49, 50, 51, 34, 35, 36, 52, 53, 54, 55, 27, 25, 26, 56, 57, 58, 59, 60, 61, 62, 63, 64, 65, 66, 67, 68, 69] (by decide +kernel) (by decide +kernel)
set_option maxRecDepth 20000 in
theorem gX4_differences_X4_differs : GoodIn wsX4_differences (wsV RX4 99 RX4 yX4_differs wsX4_differs) := goodIn_app (goodIn_of _ (by decide +kernel)) ggX4_differences_X4_differs
theorem dX4_differences_0 : decode cX4_differences 0 = .ok (.iconst 0, 1) := by decide +kernel
theorem dX4_differences_1 : decode cX4_differences 1 = .ok (.istore 4, 2) := by decide +kernel
theorem dX4_differences_3 : decode cX4_differences 3 = .ok (.aload_n 0, 1) := by decide +kernel
theorem dX4_differences_4 : decode cX4_differences 4 = .ok (.iload_n 1, 1) := by decide +kernel
theorem dX4_differences_5 : decode cX4_differences 5 = .ok (.iload_n 2, 1) := by decide +kernel
theorem dX4_differences_6 : decode cX4_differences 6 = .ok (.iload_n 3, 1) := by decide +kernel
theorem dX4_differences_7 : decode cX4_differences 7 = .ok (.invokevirtual 102, 3) := by decide +kernel
theorem dX4_differences_10 : decode cX4_differences 10 = .ok (.istore 5, 2) := by decide +kernel
theorem dX4_differences_12 : decode cX4_differences 12 = .ok (.iconst 0, 1) := by decide +kernel
theorem dX4_differences_13 : decode cX4_differences 13 = .ok (.istore 6, 2) := by decide +kernel
theorem dX4_differences_15 : decode cX4_differences 15 = .ok (.iload 6, 2) := by decide +kernel
theorem dX4_differences_17 : decode cX4_differences 17 = .ok (.bipush 64, 2) := by decide +kernel
theorem dX4_differences_19 : decode cX4_differences 19 = .ok (.if_icmp .ge 36, 3) := by decide +kernel
theorem dX4_differences_22 : decode cX4_differences 22 = .ok (.iload 5, 2) := by decide +kernel
theorem dX4_differences_24 : decode cX4_differences 24 = .ok (.ifCond .eq 31, 3) := by decide +kernel
theorem dX4_differences_27 : decode cX4_differences 27 = .ok (.iload 4, 2) := by decide +kernel
theorem dX4_differences_29 : decode cX4_differences 29 = .ok (.aload_n 0, 1) := by decide +kernel
theorem dX4_differences_30 : decode cX4_differences 30 = .ok (.iload_n 1, 1) := by decide +kernel
theorem dX4_differences_31 : decode cX4_differences 31 = .ok (.iload_n 2, 1) := by decide +kernel
theorem dX4_differences_32 : decode cX4_differences 32 = .ok (.iload_n 3, 1) := by decide +kernel
theorem dX4_differences_33 : decode cX4_differences 33 = .ok (.iload 6, 2) := by decide +kernel
theorem dX4_differences_35 : decode cX4_differences 35 = .ok (.invokevirtual 99, 3) := by decide +kernel
theorem dX4_differences_38 : decode cX4_differences 38 = .ok (.ifCond .eq 7, 3) := by decide +kernel
theorem dX4_differences_41 : decode cX4_differences 41 = .ok (.iconst 1, 1) := by decide +kernel
theorem dX4_differences_42 : decode cX4_differences 42 = .ok (.goto 4, 3) := by decide +kernel
theorem dX4_differences_45 : decode cX4_differences 45 = .ok (.iconst 0, 1) := by decide +kernel
theorem dX4_differences_46 : decode cX4_differences 46 = .ok (.iadd, 1) := by decide +kernel
theorem dX4_differences_47 : decode cX4_differences 47 = .ok (.istore 4, 2) := by decide +kernel
theorem dX4_differences_49 : decode cX4_differences 49 = .ok (.iinc 6 1, 3) := by decide +kernel
theorem dX4_differences_52 : decode cX4_differences 52 = .ok (.goto (-37), 3) := by decide +kernel
theorem dX4_differences_55 : decode cX4_differences 55 = .ok (.iload 4, 2) := by decide +kernel
theorem dX4_differences_57 : decode cX4_differences 57 = .ok (.ireturn, 1) := by decide +kernel
set_option maxRecDepth 20000 in
theorem ggX4_firstDifference_X4_canCompare : GoodIn wsX4_firstDifference wsX4_canCompare := goodIn_r _ [5, 6, 7, 8, 4, 9, 10, 11, 12, 13, 14, 15, 16, 17, 18, 19, 20, 21, 22, 23, 24, 25, 26, 27, 28, 29, 30, 31, 32, 33, 34, 35, 36, 37, 38, 39, 40, 41, 42, 43, 64, 65, 66, 67, 68, 69, 70, 71, 72, 73] (by decide +kernel) (by decide +kernel)
set_option maxRecDepth 20000 in
theorem gX4_firstDifference_X4_canCompare : GoodIn wsX4_firstDifference (wsV RX4 102 RX4 yX4_canCompare wsX4_canCompare) := goodIn_app (goodIn_of _ (by decide +kernel)) ggX4_firstDifference_X4_canCompare
set_option maxRecDepth 20000 in
theorem ggX4_firstDifference_X4_first : GoodIn wsX4_firstDifference wsX4_first := goodIn_r _ [47, 48, 49, 50, 4, 51, 33, 32, 13, 14, 15, 37, 38, 39, 40, 7, 8, 9, 52, 53, 54, 55, 34, 35, 36, 56, 57, 58, 59, 27, 25, 26, 60, 61, 62, 63, 64, 65, 66, 67, 68, 69, 70, 71, 72, 73] (by decide +kernel) (by decide +kernel)
set_option maxRecDepth 20000 in
theorem gX4_firstDifference_X4_first : GoodIn wsX4_firstDifference (wsV RX4 105 RX4 yX4_first wsX4_first) := goodIn_app (goodIn_of _ (by decide +kernel)) ggX4_firstDifference_X4_first
theorem dX4_firstDifference_0 : decode cX4_firstDifference 0 = .ok (.aload_n 0, 1) := by decide +kernel
theorem dX4_firstDifference_1 : decode cX4_firstDifference 1 = .ok (.iload_n 1, 1) := by decide +kernel
theorem dX4_firstDifference_2 : decode cX4_firstDifference 2 = .ok (.iload_n 2, 1) := by decide +kernel
theorem dX4_firstDifference_3 : decode cX4_firstDifference 3 = .ok (.iload_n 3, 1) := by decide +kernel
theorem dX4_firstDifference_4 : decode cX4_firstDifference 4 = .ok (.invokevirtual 102, 3) := by decide +kernel
theorem dX4_firstDifference_7 : decode cX4_firstDifference 7 = .ok (.ifCond .eq 13, 3) := by decide +kernel
theorem dX4_firstDifference_10 : decode cX4_firstDifference 10 = .ok (.aload_n 0, 1) := by decide +kernel
theorem dX4_firstDifference_11 : decode cX4_firstDifference 11 = .ok (.iload_n 1, 1) := by decide +kernel
theorem dX4_firstDifference_12 : decode cX4_firstDifference 12 = .ok (.iload_n 2, 1) := by decide +kernel
theorem dX4_firstDifference_13 : decode cX4_firstDifference 13 = .ok (.iload_n 3, 1) := by decide +kernel
theorem dX4_firstDifference_14 : decode cX4_firstDifference 14 = .ok (.invokevirtual 105, 3) := by decide +kernel
theorem dX4_firstDifference_17 : decode cX4_firstDifference 17 = .ok (.goto 4, 3) := by decide +kernel
theorem dX4_firstDifference_20 : decode cX4_firstDifference 20 = .ok (.iconst 0, 1) := by decide +kernel
theorem dX4_firstDifference_21 : decode cX4_firstDifference 21 = .ok (.ireturn, 1) := by decide +kernel
set_option maxRecDepth 20000 in
theorem ggX4_move_X4_canCompare : GoodIn wsX4_move wsX4_canCompare := goodIn_r _ [7, 8, 9, 10, 6, 11, 12, 13, 14, 15, 16, 17, 18, 19, 20, 21, 22, 23, 24, 25, 26, 2, 1, 27, 28, 29, 30, 31, 32, 33, 34, 35, 36, 37, 38, 39, 40, 41, 42, 43, 44, 45, 46, 47, 48, 49, 50, 51, 52, 53] (by decide +kernel) (by decide +kernel)
set_option maxRecDepth 20000 in
theorem gX4_move_X4_canCompare : GoodIn wsX4_move (wsV RX4 102 RX4 yX4_canCompare wsX4_canCompare) := goodIn_app (goodIn_of _ (by decide +kernel)) ggX4_move_X4_canCompare
theorem dX4_move_0 : decode cX4_move 0 = .ok (.aload_n 0, 1) := by decide +kernel
theorem dX4_move_1 : decode cX4_move 1 = .ok (.iload_n 1, 1) := by decide +kernel
theorem dX4_move_2 : decode cX4_move 2 = .ok (.iload_n 2, 1) := by decide +kernel
theorem dX4_move_3 : decode cX4_move 3 = .ok (.iload_n 3, 1) := by decide +kernel
theorem dX4_move_4 : decode cX4_move 4 = .ok (.invokevirtual 102, 3) := by decide +kernel
theorem dX4_move_7 : decode cX4_move 7 = .ok (.ifCond .eq 24, 3) := by decide +kernel
theorem dX4_move_10 : decode cX4_move 10 = .ok (.bipush 100, 2) := by decide +kernel
theorem dX4_move_12 : decode cX4_move 12 = .ok (.aload_n 0, 1) := by decide +kernel
theorem dX4_move_13 : decode cX4_move 13 = .ok (.getfield 75, 3) := by decide +kernel
theorem dX4_move_16 : decode cX4_move 16 = .ok (.bipush 50, 2) := by decide +kernel
theorem dX4_move_18 : decode cX4_move 18 = .ok (.iadd, 1) := by decide +kernel
theorem dX4_move_19 : decode cX4_move 19 = .ok (.imul, 1) := by decide +kernel
theorem dX4_move_20 : decode cX4_move 20 = .ok (.aload_n 0, 1) := by decide +kernel
theorem dX4_move_21 : decode cX4_move 21 = .ok (.getfield 72, 3) := by decide +kernel
theorem dX4_move_24 : decode cX4_move 24 = .ok (.iadd, 1) := by decide +kernel
theorem dX4_move_25 : decode cX4_move 25 = .ok (.bipush 50, 2) := by decide +kernel
theorem dX4_move_27 : decode cX4_move 27 = .ok (.iadd, 1) := by decide +kernel
theorem dX4_move_28 : decode cX4_move 28 = .ok (.goto 4, 3) := by decide +kernel
theorem dX4_move_31 : decode cX4_move 31 = .ok (.iconst 0, 1) := by decide +kernel
theorem dX4_move_32 : decode cX4_move 32 = .ok (.ireturn, 1) := by decide +kernel
set_option maxRecDepth 20000 in
theorem ggX4_soft_X4_canCompare : GoodIn wsX4_soft wsX4_canCompare := goodIn_r _ [5, 6, 7, 8, 4, 9, 10, 11, 12, 13, 14, 15, 16, 17, 18, 19, 20, 21, 22, 23, 24, 25, 26, 27, 28, 29, 30, 31, 32, 33, 34, 35, 36, 37, 38, 39, 40, 41, 42, 43, 48, 49, 50, 51, 52, 53, 54, 55, 56, 57] (by decide +kernel) (by decide +kernel)
set_option maxRecDepth 20000 in
theorem gX4_soft_X4_canCompare : GoodIn wsX4_soft (wsV RX4 102 RX4 yX4_canCompare wsX4_canCompare) := goodIn_app (goodIn_of _ (by decide +kernel)) ggX4_soft_X4_canCompare
set_option maxRecDepth 20000 in
theorem ggX4_soft_X4_isSoft : GoodIn wsX4_soft wsX4_isSoft := goodIn_r _ [47, 33, 32, 34, 35, 4, 36, 7, 8, 9, 13, 14, 15, 48, 49, 50, 51, 52, 53, 54, 55, 56, 57] (by decide +kernel) (by decide +kernel)
set_option maxRecDepth 20000 in
theorem gX4_soft_X4_isSoft : GoodIn wsX4_soft (wsV RX4 89 RX4 yX4_isSoft wsX4_isSoft) := goodIn_app (goodIn_of _ (by decide +kernel)) ggX4_soft_X4_isSoft
theorem dX4_soft_0 : decode cX4_soft 0 = .ok (.iconst 0, 1) := by decide +kernel
theorem dX4_soft_1 : decode cX4_soft 1 = .ok (.istore 4, 2) := by decide +kernel
theorem dX4_soft_3 : decode cX4_soft 3 = .ok (.aload_n 0, 1) := by decide +kernel
theorem dX4_soft_4 : decode cX4_soft 4 = .ok (.iload_n 1, 1) := by decide +kernel
theorem dX4_soft_5 : decode cX4_soft 5 = .ok (.iload_n 2, 1) := by decide +kernel
theorem dX4_soft_6 : decode cX4_soft 6 = .ok (.iload_n 3, 1) := by decide +kernel
theorem dX4_soft_7 : decode cX4_soft 7 = .ok (.invokevirtual 102, 3) := by decide +kernel
theorem dX4_soft_10 : decode cX4_soft 10 = .ok (.istore 5, 2) := by decide +kernel
theorem dX4_soft_12 : decode cX4_soft 12 = .ok (.iconst 0, 1) := by decide +kernel
theorem dX4_soft_13 : decode cX4_soft 13 = .ok (.istore 6, 2) := by decide +kernel
theorem dX4_soft_15 : decode cX4_soft 15 = .ok (.iload 6, 2) := by decide +kernel
theorem dX4_soft_17 : decode cX4_soft 17 = .ok (.bipush 64, 2) := by decide +kernel
theorem dX4_soft_19 : decode cX4_soft 19 = .ok (.if_icmp .ge 36, 3) := by decide +kernel
theorem dX4_soft_22 : decode cX4_soft 22 = .ok (.iload 5, 2) := by decide +kernel
theorem dX4_soft_24 : decode cX4_soft 24 = .ok (.ifCond .eq 31, 3) := by decide +kernel
theorem dX4_soft_27 : decode cX4_soft 27 = .ok (.iload 4, 2) := by decide +kernel
theorem dX4_soft_29 : decode cX4_soft 29 = .ok (.aload_n 0, 1) := by decide +kernel
theorem dX4_soft_30 : decode cX4_soft 30 = .ok (.iload_n 1, 1) := by decide +kernel
theorem dX4_soft_31 : decode cX4_soft 31 = .ok (.iload_n 2, 1) := by decide +kernel
theorem dX4_soft_32 : decode cX4_soft 32 = .ok (.iload_n 3, 1) := by decide +kernel
theorem dX4_soft_33 : decode cX4_soft 33 = .ok (.iload 6, 2) := by decide +kernel
theorem dX4_soft_35 : decode cX4_soft 35 = .ok (.invokevirtual 89, 3) := by decide +kernel
theorem dX4_soft_38 : decode cX4_soft 38 = .ok (.ifCond .eq 7, 3) := by decide +kernel
theorem dX4_soft_41 : decode cX4_soft 41 = .ok (.iconst 1, 1) := by decide +kernel
theorem dX4_soft_42 : decode cX4_soft 42 = .ok (.goto 4, 3) := by decide +kernel
theorem dX4_soft_45 : decode cX4_soft 45 = .ok (.iconst 0, 1) := by decide +kernel
theorem dX4_soft_46 : decode cX4_soft 46 = .ok (.iadd, 1) := by decide +kernel
theorem dX4_soft_47 : decode cX4_soft 47 = .ok (.istore 4, 2) := by decide +kernel
theorem dX4_soft_49 : decode cX4_soft 49 = .ok (.iinc 6 1, 3) := by decide +kernel
theorem dX4_soft_52 : decode cX4_soft 52 = .ok (.goto (-37), 3) := by decide +kernel
theorem dX4_soft_55 : decode cX4_soft 55 = .ok (.iload 4, 2) := by decide +kernel
theorem dX4_soft_57 : decode cX4_soft 57 = .ok (.ireturn, 1) := by decide +kernel
set_option maxRecDepth 20000 in
theorem ggX4_run_X4_canCompare : GoodIn wsX4_run wsX4_canCompare := goodIn_r _ [7, 8, 9, 10, 6, 11, 12, 13, 14, 15, 16, 17, 18, 19, 20, 21, 22, 23, 24, 25, 26, 27, 28, 29, 30, 31, 32, 33, 34, 35, 36, 37, 38, 39, 40, 41, 42, 43, 44, 45, 66, 67, 68, 69, 70, 71, 72, 73, 74, 75] (by decide +kernel) (by decide +kernel)
set_option maxRecDepth 20000 in
theorem gX4_run_X4_canCompare : GoodIn wsX4_run (wsV RX4 102 RX4 yX4_canCompare wsX4_canCompare) := goodIn_app (goodIn_of _ (by decide +kernel)) ggX4_run_X4_canCompare
set_option maxRecDepth 20000 in
theorem ggX4_run_X4_first : GoodIn wsX4_run wsX4_first := goodIn_r _ [49, 50, 51, 52, 6, 53, 35, 34, 15, 16, 17, 39, 40, 41, 42, 9, 10, 11, 54, 55, 56, 57, 36, 37, 38, 58, 59, 60, 61, 29, 27, 28, 62, 63, 64, 65, 66, 67, 68, 69, 70, 71, 72, 73, 74, 75] (by decide +kernel) (by decide +kernel)
set_option maxRecDepth 20000 in
theorem gX4_run_X4_first : GoodIn wsX4_run (wsV RX4 105 RX4 yX4_first wsX4_first) := goodIn_app (goodIn_of _ (by decide +kernel)) ggX4_run_X4_first
theorem dX4_run_0 : decode cX4_run 0 = .ok (.aload_n 0, 1) := by decide +kernel
theorem dX4_run_1 : decode cX4_run 1 = .ok (.iload_n 1, 1) := by decide +kernel
theorem dX4_run_2 : decode cX4_run 2 = .ok (.iload_n 2, 1) := by decide +kernel
theorem dX4_run_3 : decode cX4_run 3 = .ok (.iload_n 3, 1) := by decide +kernel
theorem dX4_run_4 : decode cX4_run 4 = .ok (.invokevirtual 102, 3) := by decide +kernel
theorem dX4_run_7 : decode cX4_run 7 = .ok (.ifCond .ne 5, 3) := by decide +kernel
theorem dX4_run_10 : decode cX4_run 10 = .ok (.iconst 0, 1) := by decide +kernel
theorem dX4_run_11 : decode cX4_run 11 = .ok (.ireturn, 1) := by decide +kernel
theorem dX4_run_12 : decode cX4_run 12 = .ok (.aload_n 0, 1) := by decide +kernel
theorem dX4_run_13 : decode cX4_run 13 = .ok (.iload_n 1, 1) := by decide +kernel
theorem dX4_run_14 : decode cX4_run 14 = .ok (.iload_n 2, 1) := by decide +kernel
theorem dX4_run_15 : decode cX4_run 15 = .ok (.iload_n 3, 1) := by decide +kernel
theorem dX4_run_16 : decode cX4_run 16 = .ok (.invokevirtual 105, 3) := by decide +kernel
theorem dX4_run_19 : decode cX4_run 19 = .ok (.iconst (-1), 1) := by decide +kernel
theorem dX4_run_20 : decode cX4_run 20 = .ok (.if_icmp .ne 7, 3) := by decide +kernel
theorem dX4_run_23 : decode cX4_run 23 = .ok (.iconst 1, 1) := by decide +kernel
theorem dX4_run_24 : decode cX4_run 24 = .ok (.goto 4, 3) := by decide +kernel
theorem dX4_run_27 : decode cX4_run 27 = .ok (.iconst 0, 1) := by decide +kernel
theorem dX4_run_28 : decode cX4_run 28 = .ok (.istore 4, 2) := by decide +kernel
theorem dX4_run_30 : decode cX4_run 30 = .ok (.aload_n 0, 1) := by decide +kernel
theorem dX4_run_31 : decode cX4_run 31 = .ok (.getfield 29, 3) := by decide +kernel
theorem dX4_run_34 : decode cX4_run 34 = .ok (.iload_n 2, 1) := by decide +kernel
theorem dX4_run_35 : decode cX4_run 35 = .ok (.iaload, 1) := by decide +kernel
theorem dX4_run_36 : decode cX4_run 36 = .ok (.bipush 10, 2) := by decide +kernel
theorem dX4_run_38 : decode cX4_run 38 = .ok (.if_icmp .ne 55, 3) := by decide +kernel
theorem dX4_run_41 : decode cX4_run 41 = .ok (.iconst 1, 1) := by decide +kernel
theorem dX4_run_42 : decode cX4_run 42 = .ok (.istore 5, 2) := by decide +kernel
theorem dX4_run_44 : decode cX4_run 44 = .ok (.iload 5, 2) := by decide +kernel
theorem dX4_run_46 : decode cX4_run 46 = .ok (.bipush 10, 2) := by decide +kernel
theorem dX4_run_48 : decode cX4_run 48 = .ok (.if_icmp .ge 35, 3) := by decide +kernel
theorem dX4_run_51 : decode cX4_run 51 = .ok (.aload_n 0, 1) := by decide +kernel
theorem dX4_run_52 : decode cX4_run 52 = .ok (.getfield 26, 3) := by decide +kernel
theorem dX4_run_55 : decode cX4_run 55 = .ok (.bipush 10, 2) := by decide +kernel
theorem dX4_run_57 : decode cX4_run 57 = .ok (.iload_n 2, 1) := by decide +kernel
theorem dX4_run_58 : decode cX4_run 58 = .ok (.imul, 1) := by decide +kernel
theorem dX4_run_59 : decode cX4_run 59 = .ok (.iload 5, 2) := by decide +kernel
theorem dX4_run_61 : decode cX4_run 61 = .ok (.iadd, 1) := by decide +kernel
theorem dX4_run_62 : decode cX4_run 62 = .ok (.iconst 1, 1) := by decide +kernel
theorem dX4_run_63 : decode cX4_run 63 = .ok (.isub, 1) := by decide +kernel
theorem dX4_run_64 : decode cX4_run 64 = .ok (.aload_n 0, 1) := by decide +kernel
theorem dX4_run_65 : decode cX4_run 65 = .ok (.getfield 26, 3) := by decide +kernel
theorem dX4_run_68 : decode cX4_run 68 = .ok (.bipush 10, 2) := by decide +kernel
theorem dX4_run_70 : decode cX4_run 70 = .ok (.iload_n 2, 1) := by decide +kernel
theorem dX4_run_71 : decode cX4_run 71 = .ok (.imul, 1) := by decide +kernel
theorem dX4_run_72 : decode cX4_run 72 = .ok (.iload 5, 2) := by decide +kernel
theorem dX4_run_74 : decode cX4_run 74 = .ok (.iadd, 1) := by decide +kernel
theorem dX4_run_75 : decode cX4_run 75 = .ok (.iaload, 1) := by decide +kernel
theorem dX4_run_76 : decode cX4_run 76 = .ok (.iastore, 1) := by decide +kernel
theorem dX4_run_77 : decode cX4_run 77 = .ok (.iinc 5 1, 3) := by decide +kernel
theorem dX4_run_80 : decode cX4_run 80 = .ok (.goto (-36), 3) := by decide +kernel
theorem dX4_run_83 : decode cX4_run 83 = .ok (.aload_n 0, 1) := by decide +kernel
theorem dX4_run_84 : decode cX4_run 84 = .ok (.getfield 29, 3) := by decide +kernel
theorem dX4_run_87 : decode cX4_run 87 = .ok (.iload_n 2, 1) := by decide +kernel
theorem dX4_run_88 : decode cX4_run 88 = .ok (.dup2, 1) := by decide +kernel
theorem dX4_run_89 : decode cX4_run 89 = .ok (.iaload, 1) := by decide +kernel
theorem dX4_run_90 : decode cX4_run 90 = .ok (.iconst 1, 1) := by decide +kernel
theorem dX4_run_91 : decode cX4_run 91 = .ok (.isub, 1) := by decide +kernel
theorem dX4_run_92 : decode cX4_run 92 = .ok (.iastore, 1) := by decide +kernel
theorem dX4_run_93 : decode cX4_run 93 = .ok (.aload_n 0, 1) := by decide +kernel
theorem dX4_run_94 : decode cX4_run 94 = .ok (.getfield 26, 3) := by decide +kernel
theorem dX4_run_97 : decode cX4_run 97 = .ok (.bipush 10, 2) := by decide +kernel
theorem dX4_run_99 : decode cX4_run 99 = .ok (.iload_n 2, 1) := by decide +kernel
theorem dX4_run_100 : decode cX4_run 100 = .ok (.imul, 1) := by decide +kernel
theorem dX4_run_101 : decode cX4_run 101 = .ok (.aload_n 0, 1) := by decide +kernel
theorem dX4_run_102 : decode cX4_run 102 = .ok (.getfield 29, 3) := by decide +kernel
theorem dX4_run_105 : decode cX4_run 105 = .ok (.iload_n 2, 1) := by decide +kernel
theorem dX4_run_106 : decode cX4_run 106 = .ok (.iaload, 1) := by decide +kernel
theorem dX4_run_107 : decode cX4_run 107 = .ok (.iadd, 1) := by decide +kernel
theorem dX4_run_108 : decode cX4_run 108 = .ok (.iload 4, 2) := by decide +kernel
theorem dX4_run_110 : decode cX4_run 110 = .ok (.ifCond .eq 7, 3) := by decide +kernel
theorem dX4_run_113 : decode cX4_run 113 = .ok (.iconst 1, 1) := by decide +kernel
theorem dX4_run_114 : decode cX4_run 114 = .ok (.goto 4, 3) := by decide +kernel
theorem dX4_run_117 : decode cX4_run 117 = .ok (.iconst 0, 1) := by decide +kernel
theorem dX4_run_118 : decode cX4_run 118 = .ok (.iastore, 1) := by decide +kernel
theorem dX4_run_119 : decode cX4_run 119 = .ok (.aload_n 0, 1) := by decide +kernel
theorem dX4_run_120 : decode cX4_run 120 = .ok (.getfield 29, 3) := by decide +kernel
theorem dX4_run_123 : decode cX4_run 123 = .ok (.iload_n 2, 1) := by decide +kernel
theorem dX4_run_124 : decode cX4_run 124 = .ok (.dup2, 1) := by decide +kernel
theorem dX4_run_125 : decode cX4_run 125 = .ok (.iaload, 1) := by decide +kernel
theorem dX4_run_126 : decode cX4_run 126 = .ok (.iconst 1, 1) := by decide +kernel
theorem dX4_run_127 : decode cX4_run 127 = .ok (.iadd, 1) := by decide +kernel
theorem dX4_run_128 : decode cX4_run 128 = .ok (.iastore, 1) := by decide +kernel
theorem dX4_run_129 : decode cX4_run 129 = .ok (.iload 4, 2) := by decide +kernel
theorem dX4_run_131 : decode cX4_run 131 = .ok (.ireturn, 1) := by decide +kernel
set_option maxRecDepth 20000 in
theorem ggX4_runs_X4_isTest : GoodIn wsX4_runs wsX4_isTest := goodIn_r _ [5, 6, 7, 4, 8] (by decide +kernel) (by decide +kernel)
set_option maxRecDepth 20000 in
theorem gX4_runs_X4_isTest : GoodIn wsX4_runs (va_wsS RX4 44 yX4_isTest wsX4_isTest) := goodIn_app (goodIn_of _ (by decide +kernel)) ggX4_runs_X4_isTest
set_option maxRecDepth 20000 in
theorem ggX4_runs_X4_goesWell : GoodIn wsX4_runs wsX4_goesWell := goodIn_r _ [12, 13, 14, 15, 16, 17, 18, 19, 20, 21, 22, 23] (by decide +kernel) (by decide +kernel)
set_option maxRecDepth 20000 in
theorem gX4_runs_X4_goesWell : GoodIn wsX4_runs (wsV RX4 52 RX4 yX4_goesWell wsX4_goesWell) := goodIn_app (goodIn_of _ (by decide +kernel)) ggX4_runs_X4_goesWell
theorem dX4_runs_0 : decode cX4_runs 0 = .ok (.aload_n 0, 1) := by decide +kernel
theorem dX4_runs_1 : decode cX4_runs 1 = .ok (.iload_n 1, 1) := by decide +kernel
theorem dX4_runs_2 : decode cX4_runs 2 = .ok (.invokestatic 44, 3) := by decide +kernel
theorem dX4_runs_5 : decode cX4_runs 5 = .ok (.ifCond .eq 7, 3) := by decide +kernel
theorem dX4_runs_8 : decode cX4_runs 8 = .ok (.iconst 0, 1) := by decide +kernel
theorem dX4_runs_9 : decode cX4_runs 9 = .ok (.goto 4, 3) := by decide +kernel
theorem dX4_runs_12 : decode cX4_runs 12 = .ok (.iconst 1, 1) := by decide +kernel
theorem dX4_runs_13 : decode cX4_runs 13 = .ok (.invokevirtual 52, 3) := by decide +kernel
theorem dX4_runs_16 : decode cX4_runs 16 = .ok (.ifCond .eq 12, 3) := by decide +kernel
theorem dX4_runs_19 : decode cX4_runs 19 = .ok (.aload_n 0, 1) := by decide +kernel
theorem dX4_runs_20 : decode cX4_runs 20 = .ok (.getfield 29, 3) := by decide +kernel
theorem dX4_runs_23 : decode cX4_runs 23 = .ok (.iload_n 1, 1) := by decide +kernel
theorem dX4_runs_24 : decode cX4_runs 24 = .ok (.iaload, 1) := by decide +kernel
theorem dX4_runs_25 : decode cX4_runs 25 = .ok (.goto 4, 3) := by decide +kernel
theorem dX4_runs_28 : decode cX4_runs 28 = .ok (.iconst 0, 1) := by decide +kernel
theorem dX4_runs_29 : decode cX4_runs 29 = .ok (.ireturn, 1) := by decide +kernel
set_option maxRecDepth 20000 in
theorem ggX4_doubt_X4_isTest : GoodIn wsX4_doubt wsX4_isTest := goodIn_r _ [6, 7, 8, 5, 9] (by decide +kernel) (by decide +kernel)
set_option maxRecDepth 20000 in
theorem gX4_doubt_X4_isTest : GoodIn wsX4_doubt (va_wsS RX4 44 yX4_isTest wsX4_isTest) := goodIn_app (goodIn_of _ (by decide +kernel)) ggX4_doubt_X4_isTest
set_option maxRecDepth 20000 in
theorem ggX4_doubt_X4_goesWell : GoodIn wsX4_doubt wsX4_goesWell := goodIn_r _ [13, 14, 15, 16, 17, 18, 19, 20, 21, 22, 23, 24] (by decide +kernel) (by decide +kernel)
set_option maxRecDepth 20000 in
theorem gX4_doubt_X4_goesWell : GoodIn wsX4_doubt (wsV RX4 52 RX4 yX4_goesWell wsX4_goesWell) := goodIn_app (goodIn_of _ (by decide +kernel)) ggX4_doubt_X4_goesWell
theorem dX4_doubt_0 : decode cX4_doubt 0 = .ok (.aload_n 0, 1) := by decide +kernel
theorem dX4_doubt_1 : decode cX4_doubt 1 = .ok (.iload_n 1, 1) := by decide +kernel
theorem dX4_doubt_2 : decode cX4_doubt 2 = .ok (.invokestatic 44, 3) := by decide +kernel
theorem dX4_doubt_5 : decode cX4_doubt 5 = .ok (.ifCond .eq 7, 3) := by decide +kernel
theorem dX4_doubt_8 : decode cX4_doubt 8 = .ok (.iconst 0, 1) := by decide +kernel
theorem dX4_doubt_9 : decode cX4_doubt 9 = .ok (.goto 4, 3) := by decide +kernel
theorem dX4_doubt_12 : decode cX4_doubt 12 = .ok (.iconst 1, 1) := by decide +kernel
theorem dX4_doubt_13 : decode cX4_doubt 13 = .ok (.invokevirtual 52, 3) := by decide +kernel
theorem dX4_doubt_16 : decode cX4_doubt 16 = .ok (.ifCond .ne 5, 3) := by decide +kernel
theorem dX4_doubt_19 : decode cX4_doubt 19 = .ok (.iconst 0, 1) := by decide +kernel
theorem dX4_doubt_20 : decode cX4_doubt 20 = .ok (.ireturn, 1) := by decide +kernel
theorem dX4_doubt_21 : decode cX4_doubt 21 = .ok (.iconst 0, 1) := by decide +kernel
theorem dX4_doubt_22 : decode cX4_doubt 22 = .ok (.istore_n 2, 1) := by decide +kernel
theorem dX4_doubt_23 : decode cX4_doubt 23 = .ok (.iconst 1, 1) := by decide +kernel
theorem dX4_doubt_24 : decode cX4_doubt 24 = .ok (.istore_n 3, 1) := by decide +kernel
theorem dX4_doubt_25 : decode cX4_doubt 25 = .ok (.iload_n 3, 1) := by decide +kernel
theorem dX4_doubt_26 : decode cX4_doubt 26 = .ok (.aload_n 0, 1) := by decide +kernel
theorem dX4_doubt_27 : decode cX4_doubt 27 = .ok (.getfield 29, 3) := by decide +kernel
theorem dX4_doubt_30 : decode cX4_doubt 30 = .ok (.iload_n 1, 1) := by decide +kernel
theorem dX4_doubt_31 : decode cX4_doubt 31 = .ok (.iaload, 1) := by decide +kernel
theorem dX4_doubt_32 : decode cX4_doubt 32 = .ok (.if_icmp .ge 44, 3) := by decide +kernel
theorem dX4_doubt_35 : decode cX4_doubt 35 = .ok (.iload_n 2, 1) := by decide +kernel
theorem dX4_doubt_36 : decode cX4_doubt 36 = .ok (.aload_n 0, 1) := by decide +kernel
theorem dX4_doubt_37 : decode cX4_doubt 37 = .ok (.getfield 26, 3) := by decide +kernel
theorem dX4_doubt_40 : decode cX4_doubt 40 = .ok (.bipush 10, 2) := by decide +kernel
theorem dX4_doubt_42 : decode cX4_doubt 42 = .ok (.iload_n 1, 1) := by decide +kernel
theorem dX4_doubt_43 : decode cX4_doubt 43 = .ok (.imul, 1) := by decide +kernel
theorem dX4_doubt_44 : decode cX4_doubt 44 = .ok (.iload_n 3, 1) := by decide +kernel
theorem dX4_doubt_45 : decode cX4_doubt 45 = .ok (.iadd, 1) := by decide +kernel
theorem dX4_doubt_46 : decode cX4_doubt 46 = .ok (.iaload, 1) := by decide +kernel
theorem dX4_doubt_47 : decode cX4_doubt 47 = .ok (.aload_n 0, 1) := by decide +kernel
theorem dX4_doubt_48 : decode cX4_doubt 48 = .ok (.getfield 26, 3) := by decide +kernel
theorem dX4_doubt_51 : decode cX4_doubt 51 = .ok (.bipush 10, 2) := by decide +kernel
theorem dX4_doubt_53 : decode cX4_doubt 53 = .ok (.iload_n 1, 1) := by decide +kernel
theorem dX4_doubt_54 : decode cX4_doubt 54 = .ok (.imul, 1) := by decide +kernel
theorem dX4_doubt_55 : decode cX4_doubt 55 = .ok (.iload_n 3, 1) := by decide +kernel
theorem dX4_doubt_56 : decode cX4_doubt 56 = .ok (.iadd, 1) := by decide +kernel
theorem dX4_doubt_57 : decode cX4_doubt 57 = .ok (.iconst 1, 1) := by decide +kernel
theorem dX4_doubt_58 : decode cX4_doubt 58 = .ok (.isub, 1) := by decide +kernel
theorem dX4_doubt_59 : decode cX4_doubt 59 = .ok (.iaload, 1) := by decide +kernel
theorem dX4_doubt_60 : decode cX4_doubt 60 = .ok (.if_icmp .ne 7, 3) := by decide +kernel
theorem dX4_doubt_63 : decode cX4_doubt 63 = .ok (.iconst 0, 1) := by decide +kernel
theorem dX4_doubt_64 : decode cX4_doubt 64 = .ok (.goto 4, 3) := by decide +kernel
theorem dX4_doubt_67 : decode cX4_doubt 67 = .ok (.iconst 1, 1) := by decide +kernel
theorem dX4_doubt_68 : decode cX4_doubt 68 = .ok (.iadd, 1) := by decide +kernel
theorem dX4_doubt_69 : decode cX4_doubt 69 = .ok (.istore_n 2, 1) := by decide +kernel
theorem dX4_doubt_70 : decode cX4_doubt 70 = .ok (.iinc 3 1, 3) := by decide +kernel
theorem dX4_doubt_73 : decode cX4_doubt 73 = .ok (.goto (-48), 3) := by decide +kernel
theorem dX4_doubt_76 : decode cX4_doubt 76 = .ok (.aload_n 0, 1) := by decide +kernel
theorem dX4_doubt_77 : decode cX4_doubt 77 = .ok (.getfield 29, 3) := by decide +kernel
theorem dX4_doubt_80 : decode cX4_doubt 80 = .ok (.iload_n 1, 1) := by decide +kernel
theorem dX4_doubt_81 : decode cX4_doubt 81 = .ok (.iaload, 1) := by decide +kernel
theorem dX4_doubt_82 : decode cX4_doubt 82 = .ok (.iconst 2, 1) := by decide +kernel
theorem dX4_doubt_83 : decode cX4_doubt 83 = .ok (.if_icmp .ge 7, 3) := by decide +kernel
theorem dX4_doubt_86 : decode cX4_doubt 86 = .ok (.iconst 0, 1) := by decide +kernel
theorem dX4_doubt_87 : decode cX4_doubt 87 = .ok (.goto 16, 3) := by decide +kernel
theorem dX4_doubt_90 : decode cX4_doubt 90 = .ok (.bipush 100, 2) := by decide +kernel
theorem dX4_doubt_92 : decode cX4_doubt 92 = .ok (.iload_n 2, 1) := by decide +kernel
theorem dX4_doubt_93 : decode cX4_doubt 93 = .ok (.imul, 1) := by decide +kernel
theorem dX4_doubt_94 : decode cX4_doubt 94 = .ok (.aload_n 0, 1) := by decide +kernel
theorem dX4_doubt_95 : decode cX4_doubt 95 = .ok (.getfield 29, 3) := by decide +kernel
theorem dX4_doubt_98 : decode cX4_doubt 98 = .ok (.iload_n 1, 1) := by decide +kernel
theorem dX4_doubt_99 : decode cX4_doubt 99 = .ok (.iaload, 1) := by decide +kernel
theorem dX4_doubt_100 : decode cX4_doubt 100 = .ok (.iconst 1, 1) := by decide +kernel
theorem dX4_doubt_101 : decode cX4_doubt 101 = .ok (.isub, 1) := by decide +kernel
theorem dX4_doubt_102 : decode cX4_doubt 102 = .ok (.idiv, 1) := by decide +kernel
theorem dX4_doubt_103 : decode cX4_doubt 103 = .ok (.ireturn, 1) := by decide +kernel
theorem dJ6_bitCount_0f7a4_0 : decode cJ6_bitCount_0f7a4 0 = .ok (.iload_n 0, 1) := by decide +kernel
theorem dJ6_bitCount_0f7a4_1 : decode cJ6_bitCount_0f7a4 1 = .ok (.iload_n 0, 1) := by decide +kernel
theorem dJ6_bitCount_0f7a4_2 : decode cJ6_bitCount_0f7a4 2 = .ok (.iconst 1, 1) := by decide +kernel
theorem dJ6_bitCount_0f7a4_3 : decode cJ6_bitCount_0f7a4 3 = .ok (.iushr, 1) := by decide +kernel
theorem dJ6_bitCount_0f7a4_4 : decode cJ6_bitCount_0f7a4 4 = .ok (.ldc_w 265, 3) := by decide +kernel
theorem dJ6_bitCount_0f7a4_7 : decode cJ6_bitCount_0f7a4 7 = .ok (.iand, 1) := by decide +kernel
theorem dJ6_bitCount_0f7a4_8 : decode cJ6_bitCount_0f7a4 8 = .ok (.isub, 1) := by decide +kernel
theorem dJ6_bitCount_0f7a4_9 : decode cJ6_bitCount_0f7a4 9 = .ok (.istore_n 0, 1) := by decide +kernel
theorem dJ6_bitCount_0f7a4_10 : decode cJ6_bitCount_0f7a4 10 = .ok (.iload_n 0, 1) := by decide +kernel
theorem dJ6_bitCount_0f7a4_11 : decode cJ6_bitCount_0f7a4 11 = .ok (.ldc_w 266, 3) := by decide +kernel
theorem dJ6_bitCount_0f7a4_14 : decode cJ6_bitCount_0f7a4 14 = .ok (.iand, 1) := by decide +kernel
theorem dJ6_bitCount_0f7a4_15 : decode cJ6_bitCount_0f7a4 15 = .ok (.iload_n 0, 1) := by decide +kernel
theorem dJ6_bitCount_0f7a4_16 : decode cJ6_bitCount_0f7a4 16 = .ok (.iconst 2, 1) := by decide +kernel
theorem dJ6_bitCount_0f7a4_17 : decode cJ6_bitCount_0f7a4 17 = .ok (.iushr, 1) := by decide +kernel
theorem dJ6_bitCount_0f7a4_18 : decode cJ6_bitCount_0f7a4 18 = .ok (.ldc_w 266, 3) := by decide +kernel
theorem dJ6_bitCount_0f7a4_21 : decode cJ6_bitCount_0f7a4 21 = .ok (.iand, 1) := by decide +kernel
theorem dJ6_bitCount_0f7a4_22 : decode cJ6_bitCount_0f7a4 22 = .ok (.iadd, 1) := by decide +kernel
theorem dJ6_bitCount_0f7a4_23 : decode cJ6_bitCount_0f7a4 23 = .ok (.istore_n 0, 1) := by decide +kernel
theorem dJ6_bitCount_0f7a4_24 : decode cJ6_bitCount_0f7a4 24 = .ok (.iload_n 0, 1) := by decide +kernel
theorem dJ6_bitCount_0f7a4_25 : decode cJ6_bitCount_0f7a4 25 = .ok (.iload_n 0, 1) := by decide +kernel
theorem dJ6_bitCount_0f7a4_26 : decode cJ6_bitCount_0f7a4 26 = .ok (.iconst 4, 1) := by decide +kernel
theorem dJ6_bitCount_0f7a4_27 : decode cJ6_bitCount_0f7a4 27 = .ok (.iushr, 1) := by decide +kernel
theorem dJ6_bitCount_0f7a4_28 : decode cJ6_bitCount_0f7a4 28 = .ok (.iadd, 1) := by decide +kernel
theorem dJ6_bitCount_0f7a4_29 : decode cJ6_bitCount_0f7a4 29 = .ok (.ldc_w 267, 3) := by decide +kernel
theorem dJ6_bitCount_0f7a4_32 : decode cJ6_bitCount_0f7a4 32 = .ok (.iand, 1) := by decide +kernel
theorem dJ6_bitCount_0f7a4_33 : decode cJ6_bitCount_0f7a4 33 = .ok (.istore_n 0, 1) := by decide +kernel
theorem dJ6_bitCount_0f7a4_34 : decode cJ6_bitCount_0f7a4 34 = .ok (.iload_n 0, 1) := by decide +kernel
theorem dJ6_bitCount_0f7a4_35 : decode cJ6_bitCount_0f7a4 35 = .ok (.iload_n 0, 1) := by decide +kernel
theorem dJ6_bitCount_0f7a4_36 : decode cJ6_bitCount_0f7a4 36 = .ok (.bipush 8, 2) := by decide +kernel
theorem dJ6_bitCount_0f7a4_38 : decode cJ6_bitCount_0f7a4 38 = .ok (.iushr, 1) := by decide +kernel
theorem dJ6_bitCount_0f7a4_39 : decode cJ6_bitCount_0f7a4 39 = .ok (.iadd, 1) := by decide +kernel
theorem dJ6_bitCount_0f7a4_40 : decode cJ6_bitCount_0f7a4 40 = .ok (.istore_n 0, 1) := by decide +kernel
theorem dJ6_bitCount_0f7a4_41 : decode cJ6_bitCount_0f7a4 41 = .ok (.iload_n 0, 1) := by decide +kernel
theorem dJ6_bitCount_0f7a4_42 : decode cJ6_bitCount_0f7a4 42 = .ok (.iload_n 0, 1) := by decide +kernel
theorem dJ6_bitCount_0f7a4_43 : decode cJ6_bitCount_0f7a4 43 = .ok (.bipush 16, 2) := by decide +kernel
theorem dJ6_bitCount_0f7a4_45 : decode cJ6_bitCount_0f7a4 45 = .ok (.iushr, 1) := by decide +kernel
theorem dJ6_bitCount_0f7a4_46 : decode cJ6_bitCount_0f7a4 46 = .ok (.iadd, 1) := by decide +kernel
theorem dJ6_bitCount_0f7a4_47 : decode cJ6_bitCount_0f7a4 47 = .ok (.istore_n 0, 1) := by decide +kernel
theorem dJ6_bitCount_0f7a4_48 : decode cJ6_bitCount_0f7a4 48 = .ok (.iload_n 0, 1) := by decide +kernel
theorem dJ6_bitCount_0f7a4_49 : decode cJ6_bitCount_0f7a4 49 = .ok (.bipush 63, 2) := by decide +kernel
theorem dJ6_bitCount_0f7a4_51 : decode cJ6_bitCount_0f7a4 51 = .ok (.iand, 1) := by decide +kernel
theorem dJ6_bitCount_0f7a4_52 : decode cJ6_bitCount_0f7a4 52 = .ok (.ireturn, 1) := by decide +kernel
theorem dJ9_abs_0f7a4_0 : decode cJ9_abs_0f7a4 0 = .ok (.iload_n 0, 1) := by decide +kernel
theorem dJ9_abs_0f7a4_1 : decode cJ9_abs_0f7a4 1 = .ok (.ifCond .ge 8, 3) := by decide +kernel
theorem dJ9_abs_0f7a4_4 : decode cJ9_abs_0f7a4 4 = .ok (.iload_n 0, 1) := by decide +kernel
theorem dJ9_abs_0f7a4_5 : decode cJ9_abs_0f7a4 5 = .ok (.ineg, 1) := by decide +kernel
theorem dJ9_abs_0f7a4_6 : decode cJ9_abs_0f7a4 6 = .ok (.goto 4, 3) := by decide +kernel
theorem dJ9_abs_0f7a4_9 : decode cJ9_abs_0f7a4 9 = .ok (.iload_n 0, 1) := by decide +kernel
theorem dJ9_abs_0f7a4_10 : decode cJ9_abs_0f7a4 10 = .ok (.ireturn, 1) := by decide +kernel
theorem dJ9_max_7cf53_0 : decode cJ9_max_7cf53 0 = .ok (.iload_n 0, 1) := by decide +kernel
theorem dJ9_max_7cf53_1 : decode cJ9_max_7cf53 1 = .ok (.iload_n 1, 1) := by decide +kernel
theorem dJ9_max_7cf53_2 : decode cJ9_max_7cf53 2 = .ok (.if_icmp .lt 7, 3) := by decide +kernel
theorem dJ9_max_7cf53_5 : decode cJ9_max_7cf53 5 = .ok (.iload_n 0, 1) := by decide +kernel
theorem dJ9_max_7cf53_6 : decode cJ9_max_7cf53 6 = .ok (.goto 4, 3) := by decide +kernel
theorem dJ9_max_7cf53_9 : decode cJ9_max_7cf53 9 = .ok (.iload_n 1, 1) := by decide +kernel
theorem dJ9_max_7cf53_10 : decode cJ9_max_7cf53 10 = .ok (.ireturn, 1) := by decide +kernel
theorem dJ9_min_7cf53_0 : decode cJ9_min_7cf53 0 = .ok (.iload_n 0, 1) := by decide +kernel
theorem dJ9_min_7cf53_1 : decode cJ9_min_7cf53 1 = .ok (.iload_n 1, 1) := by decide +kernel
theorem dJ9_min_7cf53_2 : decode cJ9_min_7cf53 2 = .ok (.if_icmp .gt 7, 3) := by decide +kernel
theorem dJ9_min_7cf53_5 : decode cJ9_min_7cf53 5 = .ok (.iload_n 0, 1) := by decide +kernel
theorem dJ9_min_7cf53_6 : decode cJ9_min_7cf53 6 = .ok (.goto 4, 3) := by decide +kernel
theorem dJ9_min_7cf53_9 : decode cJ9_min_7cf53 9 = .ok (.iload_n 1, 1) := by decide +kernel
theorem dJ9_min_7cf53_10 : decode cJ9_min_7cf53 10 = .ok (.ireturn, 1) := by decide +kernel
set_option maxRecDepth 20000 in
theorem ggL_paint_X3_paint : GoodIn wsL_paint wsX3_paint := goodIn_ca (goodIn_r _ [6, 7, 8, 9, 5, 10, 11, 12, 13, 14, 15, 16, 17, 18, 19, 20, 21, 22, 23, 24, 25, 26, 27, 28, 29, 30, 31, 32, 33, 34, 35, 36, 37, 38, 39, 40, 41, 42, 43, 44, 45, 46, 47, 48] (by decide +kernel) (by decide +kernel)) (goodIn_sub (fun _ h => List.mem_cons_of_mem _ (List.mem_append_right _ h)) (by decide +kernel))
set_option maxRecDepth 20000 in
theorem gL_paint_X3_paint : GoodIn wsL_paint (wsV RL 7 RX3 yX3_paint wsX3_paint) := goodIn_app (goodIn_of _ (by decide +kernel)) ggL_paint_X3_paint
theorem dL_paint_0 : decode cL_paint 0 = .ok (.aload 7, 2) := by decide +kernel
theorem dL_paint_2 : decode cL_paint 2 = .ok (.iconst 0, 1) := by decide +kernel
theorem dL_paint_3 : decode cL_paint 3 = .ok (.aload_n 0, 1) := by decide +kernel
theorem dL_paint_4 : decode cL_paint 4 = .ok (.iload_n 1, 1) := by decide +kernel
theorem dL_paint_5 : decode cL_paint 5 = .ok (.iload_n 2, 1) := by decide +kernel
theorem dL_paint_6 : decode cL_paint 6 = .ok (.iload_n 3, 1) := by decide +kernel
theorem dL_paint_7 : decode cL_paint 7 = .ok (.iload 4, 2) := by decide +kernel
theorem dL_paint_9 : decode cL_paint 9 = .ok (.iload 5, 2) := by decide +kernel
theorem dL_paint_11 : decode cL_paint 11 = .ok (.iload 6, 2) := by decide +kernel
theorem dL_paint_13 : decode cL_paint 13 = .ok (.invokevirtual 7, 3) := by decide +kernel
theorem dL_paint_16 : decode cL_paint 16 = .ok (.i2l, 1) := by decide +kernel
theorem dL_paint_17 : decode cL_paint 17 = .ok (.lastore, 1) := by decide +kernel
theorem dL_paint_18 : decode cL_paint 18 = .ok (.goto 7, 3) := by decide +kernel
theorem dL_paint_21 : decode cL_paint 21 = .ok (.astore 8, 2) := by decide +kernel
theorem dL_paint_23 : decode cL_paint 23 = .ok (.iconst 1, 1) := by decide +kernel
theorem dL_paint_24 : decode cL_paint 24 = .ok (.ireturn, 1) := by decide +kernel
theorem dL_paint_25 : decode cL_paint 25 = .ok (.iconst 0, 1) := by decide +kernel
theorem dL_paint_26 : decode cL_paint 26 = .ok (.ireturn, 1) := by decide +kernel
set_option maxRecDepth 20000 in
theorem ggL_shade_X3_shade : GoodIn wsL_shade wsX3_shade := goodIn_ca (goodIn_r _ [6, 7, 8, 9, 5, 10, 11, 12, 13, 14, 15, 16, 17, 18, 19, 20, 21, 22, 23, 24, 25, 26, 27, 28, 29, 30, 31, 32, 33, 34, 35, 36, 37, 38, 39, 40, 41, 42] (by decide +kernel) (by decide +kernel)) (goodIn_sub (fun _ h => List.mem_cons_of_mem _ (List.mem_append_right _ h)) (by decide +kernel))
set_option maxRecDepth 20000 in
theorem gL_shade_X3_shade : GoodIn wsL_shade (wsV RL 15 RX3 yX3_shade wsX3_shade) := goodIn_app (goodIn_of _ (by decide +kernel)) ggL_shade_X3_shade
theorem dL_shade_0 : decode cL_shade 0 = .ok (.aload 4, 2) := by decide +kernel
theorem dL_shade_2 : decode cL_shade 2 = .ok (.iconst 0, 1) := by decide +kernel
theorem dL_shade_3 : decode cL_shade 3 = .ok (.aload_n 0, 1) := by decide +kernel
theorem dL_shade_4 : decode cL_shade 4 = .ok (.iload_n 1, 1) := by decide +kernel
theorem dL_shade_5 : decode cL_shade 5 = .ok (.iload_n 2, 1) := by decide +kernel
theorem dL_shade_6 : decode cL_shade 6 = .ok (.iload_n 3, 1) := by decide +kernel
theorem dL_shade_7 : decode cL_shade 7 = .ok (.invokevirtual 15, 3) := by decide +kernel
theorem dL_shade_10 : decode cL_shade 10 = .ok (.i2l, 1) := by decide +kernel
theorem dL_shade_11 : decode cL_shade 11 = .ok (.lastore, 1) := by decide +kernel
theorem dL_shade_12 : decode cL_shade 12 = .ok (.goto 7, 3) := by decide +kernel
theorem dL_shade_15 : decode cL_shade 15 = .ok (.astore 5, 2) := by decide +kernel
theorem dL_shade_17 : decode cL_shade 17 = .ok (.iconst 1, 1) := by decide +kernel
theorem dL_shade_18 : decode cL_shade 18 = .ok (.ireturn, 1) := by decide +kernel
theorem dL_shade_19 : decode cL_shade 19 = .ok (.iconst 0, 1) := by decide +kernel
theorem dL_shade_20 : decode cL_shade 20 = .ok (.ireturn, 1) := by decide +kernel
set_option maxRecDepth 20000 in
theorem ggL_setPart_X3_setPart : GoodIn wsL_setPart wsX3_setPart := goodIn_ca (goodIn_r _ [6, 7, 8, 9, 10, 5, 11, 12, 13, 14, 15, 16, 17, 18, 19, 20, 21, 22, 23, 24, 25, 26, 27, 28, 29, 30, 31, 32, 33, 34, 35, 36, 37, 38, 39, 40, 41, 42, 43, 44, 45, 46, 47] (by decide +kernel) (by decide +kernel)) (goodIn_sub (fun _ h => List.mem_cons_of_mem _ (List.mem_append_right _ h)) (by decide +kernel))
set_option maxRecDepth 20000 in
theorem gL_setPart_X3_setPart : GoodIn wsL_setPart (wsV RL 19 RX3 yX3_setPart wsX3_setPart) := goodIn_app (goodIn_of _ (by decide +kernel)) ggL_setPart_X3_setPart
theorem dL_setPart_0 : decode cL_setPart 0 = .ok (.aload_n 0, 1) := by decide +kernel
theorem dL_setPart_1 : decode cL_setPart 1 = .ok (.iload_n 1, 1) := by decide +kernel
theorem dL_setPart_2 : decode cL_setPart 2 = .ok (.iload_n 2, 1) := by decide +kernel
theorem dL_setPart_3 : decode cL_setPart 3 = .ok (.iload_n 3, 1) := by decide +kernel
theorem dL_setPart_4 : decode cL_setPart 4 = .ok (.iload 4, 2) := by decide +kernel
theorem dL_setPart_6 : decode cL_setPart 6 = .ok (.iload 5, 2) := by decide +kernel
theorem dL_setPart_8 : decode cL_setPart 8 = .ok (.invokevirtual 19, 3) := by decide +kernel
theorem dL_setPart_11 : decode cL_setPart 11 = .ok (.goto 7, 3) := by decide +kernel
theorem dL_setPart_14 : decode cL_setPart 14 = .ok (.astore 6, 2) := by decide +kernel
theorem dL_setPart_16 : decode cL_setPart 16 = .ok (.iconst 1, 1) := by decide +kernel
theorem dL_setPart_17 : decode cL_setPart 17 = .ok (.ireturn, 1) := by decide +kernel
theorem dL_setPart_18 : decode cL_setPart 18 = .ok (.iconst 0, 1) := by decide +kernel
theorem dL_setPart_19 : decode cL_setPart 19 = .ok (.ireturn, 1) := by decide +kernel
set_option maxRecDepth 20000 in
theorem ggL_setMask_X3_setMask : GoodIn wsL_setMask wsX3_setMask := goodIn_ca (goodIn_ca (goodIn_r _ [7, 8, 9, 10, 11, 12, 13, 6, 14, 15, 16, 17, 18, 19, 20, 21, 22, 23, 24, 25, 26, 27, 28, 29, 30, 31, 32, 33, 34, 35, 36, 37, 38, 39, 40, 41, 42, 43] (by decide +kernel) (by decide +kernel)) (goodIn_sub (fun _ h => List.mem_cons_of_mem _ (List.mem_append_left _ (List.mem_append_right _ h))) (by decide +kernel))) (goodIn_sub (fun _ h => List.mem_cons_of_mem _ (List.mem_append_right _ h)) (by decide +kernel))
set_option maxRecDepth 20000 in
theorem gL_setMask_X3_setMask : GoodIn wsL_setMask (wsV RL 23 RX3 yX3_setMask wsX3_setMask) := goodIn_app (goodIn_of _ (by decide +kernel)) ggL_setMask_X3_setMask
theorem dL_setMask_0 : decode cL_setMask 0 = .ok (.aload_n 0, 1) := by decide +kernel
theorem dL_setMask_1 : decode cL_setMask 1 = .ok (.iload_n 1, 1) := by decide +kernel
theorem dL_setMask_2 : decode cL_setMask 2 = .ok (.iload_n 2, 1) := by decide +kernel
theorem dL_setMask_3 : decode cL_setMask 3 = .ok (.iload_n 3, 1) := by decide +kernel
theorem dL_setMask_4 : decode cL_setMask 4 = .ok (.iload 4, 2) := by decide +kernel
theorem dL_setMask_6 : decode cL_setMask 6 = .ok (.iload 5, 2) := by decide +kernel
theorem dL_setMask_8 : decode cL_setMask 8 = .ok (.invokevirtual 23, 3) := by decide +kernel
theorem dL_setMask_11 : decode cL_setMask 11 = .ok (.goto 11, 3) := by decide +kernel
theorem dL_setMask_14 : decode cL_setMask 14 = .ok (.astore 6, 2) := by decide +kernel
theorem dL_setMask_16 : decode cL_setMask 16 = .ok (.iconst 1, 1) := by decide +kernel
theorem dL_setMask_17 : decode cL_setMask 17 = .ok (.ireturn, 1) := by decide +kernel
theorem dL_setMask_18 : decode cL_setMask 18 = .ok (.astore 6, 2) := by decide +kernel
theorem dL_setMask_20 : decode cL_setMask 20 = .ok (.iconst 2, 1) := by decide +kernel
theorem dL_setMask_21 : decode cL_setMask 21 = .ok (.ireturn, 1) := by decide +kernel
theorem dL_setMask_22 : decode cL_setMask 22 = .ok (.iconst 0, 1) := by decide +kernel
theorem dL_setMask_23 : decode cL_setMask 23 = .ok (.ireturn, 1) := by decide +kernel
set_option maxRecDepth 20000 in
theorem ggL_approve_X3_approve : GoodIn wsL_approve wsX3_approve := goodIn_ca (goodIn_r _ [6, 7, 8, 9, 5, 10, 11, 12, 13, 14, 15, 16, 17, 18, 19, 20, 21, 22, 23, 24, 25, 26, 27, 28, 29, 30, 31, 32, 33, 34, 35, 36, 37, 38, 39, 40, 41, 42, 43, 44, 45, 46, 47, 48, 49, 50, 51] (by decide +kernel) (by decide +kernel)) (goodIn_sub (fun _ h => List.mem_cons_of_mem _ (List.mem_append_right _ h)) (by decide +kernel))
set_option maxRecDepth 20000 in
theorem gL_approve_X3_approve : GoodIn wsL_approve (wsV RL 28 RX3 yX3_approve wsX3_approve) := goodIn_app (goodIn_of _ (by decide +kernel)) ggL_approve_X3_approve
theorem dL_approve_0 : decode cL_approve 0 = .ok (.aload_n 3, 1) := by decide +kernel
theorem dL_approve_1 : decode cL_approve 1 = .ok (.iconst 0, 1) := by decide +kernel
theorem dL_approve_2 : decode cL_approve 2 = .ok (.aload_n 0, 1) := by decide +kernel
theorem dL_approve_3 : decode cL_approve 3 = .ok (.iload_n 1, 1) := by decide +kernel
theorem dL_approve_4 : decode cL_approve 4 = .ok (.iload_n 2, 1) := by decide +kernel
theorem dL_approve_5 : decode cL_approve 5 = .ok (.invokevirtual 28, 3) := by decide +kernel
theorem dL_approve_8 : decode cL_approve 8 = .ok (.ifCond .eq 7, 3) := by decide +kernel
theorem dL_approve_11 : decode cL_approve 11 = .ok (.lconst 1, 1) := by decide +kernel
theorem dL_approve_12 : decode cL_approve 12 = .ok (.goto 4, 3) := by decide +kernel
theorem dL_approve_15 : decode cL_approve 15 = .ok (.lconst 0, 1) := by decide +kernel
theorem dL_approve_16 : decode cL_approve 16 = .ok (.lastore, 1) := by decide +kernel
theorem dL_approve_17 : decode cL_approve 17 = .ok (.goto 7, 3) := by decide +kernel
theorem dL_approve_20 : decode cL_approve 20 = .ok (.astore 4, 2) := by decide +kernel
theorem dL_approve_22 : decode cL_approve 22 = .ok (.iconst 1, 1) := by decide +kernel
theorem dL_approve_23 : decode cL_approve 23 = .ok (.ireturn, 1) := by decide +kernel
theorem dL_approve_24 : decode cL_approve 24 = .ok (.iconst 0, 1) := by decide +kernel
theorem dL_approve_25 : decode cL_approve 25 = .ok (.ireturn, 1) := by decide +kernel
set_option maxRecDepth 20000 in
theorem ggL_begin_X3_begin : GoodIn wsL_begin wsX3_begin := goodIn_ca (goodIn_r _ [6, 7, 8, 9, 5, 10, 11, 12, 13, 14, 15, 16, 17, 18, 19, 20, 21, 22, 23, 24, 25, 26, 27, 28, 29, 30, 31, 32, 33, 34, 35, 36, 37, 38, 39, 40, 41, 42, 43, 44, 45, 46, 47, 48, 49, 50, 51, 52] (by decide +kernel) (by decide +kernel)) (goodIn_sub (fun _ h => List.mem_cons_of_mem _ (List.mem_append_right _ h)) (by decide +kernel))
set_option maxRecDepth 20000 in
theorem gL_begin_X3_begin : GoodIn wsL_begin (wsV RL 32 RX3 yX3_begin wsX3_begin) := goodIn_app (goodIn_of _ (by decide +kernel)) ggL_begin_X3_begin
theorem dL_begin_0 : decode cL_begin 0 = .ok (.aload_n 2, 1) := by decide +kernel
theorem dL_begin_1 : decode cL_begin 1 = .ok (.iconst 0, 1) := by decide +kernel
theorem dL_begin_2 : decode cL_begin 2 = .ok (.aload_n 0, 1) := by decide +kernel
theorem dL_begin_3 : decode cL_begin 3 = .ok (.iload_n 1, 1) := by decide +kernel
theorem dL_begin_4 : decode cL_begin 4 = .ok (.invokevirtual 32, 3) := by decide +kernel
theorem dL_begin_7 : decode cL_begin 7 = .ok (.i2l, 1) := by decide +kernel
theorem dL_begin_8 : decode cL_begin 8 = .ok (.lastore, 1) := by decide +kernel
theorem dL_begin_9 : decode cL_begin 9 = .ok (.goto 6, 3) := by decide +kernel
theorem dL_begin_12 : decode cL_begin 12 = .ok (.astore_n 3, 1) := by decide +kernel
theorem dL_begin_13 : decode cL_begin 13 = .ok (.iconst 1, 1) := by decide +kernel
theorem dL_begin_14 : decode cL_begin 14 = .ok (.ireturn, 1) := by decide +kernel
theorem dL_begin_15 : decode cL_begin 15 = .ok (.iconst 0, 1) := by decide +kernel
theorem dL_begin_16 : decode cL_begin 16 = .ok (.ireturn, 1) := by decide +kernel
set_option maxRecDepth 20000 in
theorem ggL_join_X3_join : GoodIn wsL_join wsX3_join := goodIn_ca (goodIn_r _ [6, 7, 8, 5, 9, 10, 11, 12, 13, 14, 15, 16, 17, 18, 19, 20, 21, 22, 23, 24, 25, 26, 27, 28, 29, 30, 31, 32, 33, 34, 35, 36, 37, 38, 39, 40, 41, 42, 43, 44, 45, 46, 47, 48, 49, 50, 51, 52, 53, 54, 55, 56, 57, 58, 59, 60, 61, 62, 63, 64] (by decide +kernel) (by decide +kernel)) (goodIn_sub (fun _ h => List.mem_cons_of_mem _ (List.mem_append_right _ h)) (by decide +kernel))
set_option maxRecDepth 20000 in
theorem gL_join_X3_join : GoodIn wsL_join (wsV RL 36 RX3 yX3_join wsX3_join) := goodIn_app (goodIn_of _ (by decide +kernel)) ggL_join_X3_join
theorem dL_join_0 : decode cL_join 0 = .ok (.aload_n 2, 1) := by decide +kernel
theorem dL_join_1 : decode cL_join 1 = .ok (.iconst 0, 1) := by decide +kernel
theorem dL_join_2 : decode cL_join 2 = .ok (.aload_n 0, 1) := by decide +kernel
theorem dL_join_3 : decode cL_join 3 = .ok (.iload_n 1, 1) := by decide +kernel
theorem dL_join_4 : decode cL_join 4 = .ok (.invokevirtual 36, 3) := by decide +kernel
theorem dL_join_7 : decode cL_join 7 = .ok (.i2l, 1) := by decide +kernel
theorem dL_join_8 : decode cL_join 8 = .ok (.lastore, 1) := by decide +kernel
theorem dL_join_9 : decode cL_join 9 = .ok (.goto 6, 3) := by decide +kernel
theorem dL_join_12 : decode cL_join 12 = .ok (.astore_n 3, 1) := by decide +kernel
theorem dL_join_13 : decode cL_join 13 = .ok (.iconst 1, 1) := by decide +kernel
theorem dL_join_14 : decode cL_join 14 = .ok (.ireturn, 1) := by decide +kernel
theorem dL_join_15 : decode cL_join 15 = .ok (.iconst 0, 1) := by decide +kernel
theorem dL_join_16 : decode cL_join 16 = .ok (.ireturn, 1) := by decide +kernel
set_option maxRecDepth 20000 in
theorem ggL_isApproved_X3_isApproved : GoodIn wsL_isApproved wsX3_isApproved := goodIn_ca (goodIn_r _ [6, 7, 8, 9, 5, 10, 11, 12, 13, 14, 15, 16, 17, 18, 19, 20, 21, 22, 23, 24, 25, 26, 27, 28, 29, 30, 31, 32, 33, 34, 35, 36, 37, 38, 39] (by decide +kernel) (by decide +kernel)) (goodIn_sub (fun _ h => List.mem_cons_of_mem _ (List.mem_append_right _ h)) (by decide +kernel))
set_option maxRecDepth 20000 in
theorem gL_isApproved_X3_isApproved : GoodIn wsL_isApproved (wsV RL 39 RX3 yX3_isApproved wsX3_isApproved) := goodIn_app (goodIn_of _ (by decide +kernel)) ggL_isApproved_X3_isApproved
theorem dL_isApproved_0 : decode cL_isApproved 0 = .ok (.aload_n 3, 1) := by decide +kernel
theorem dL_isApproved_1 : decode cL_isApproved 1 = .ok (.iconst 0, 1) := by decide +kernel
theorem dL_isApproved_2 : decode cL_isApproved 2 = .ok (.aload_n 0, 1) := by decide +kernel
theorem dL_isApproved_3 : decode cL_isApproved 3 = .ok (.iload_n 1, 1) := by decide +kernel
theorem dL_isApproved_4 : decode cL_isApproved 4 = .ok (.iload_n 2, 1) := by decide +kernel
theorem dL_isApproved_5 : decode cL_isApproved 5 = .ok (.invokevirtual 39, 3) := by decide +kernel
theorem dL_isApproved_8 : decode cL_isApproved 8 = .ok (.ifCond .eq 7, 3) := by decide +kernel
theorem dL_isApproved_11 : decode cL_isApproved 11 = .ok (.lconst 1, 1) := by decide +kernel
theorem dL_isApproved_12 : decode cL_isApproved 12 = .ok (.goto 4, 3) := by decide +kernel
theorem dL_isApproved_15 : decode cL_isApproved 15 = .ok (.lconst 0, 1) := by decide +kernel
theorem dL_isApproved_16 : decode cL_isApproved 16 = .ok (.lastore, 1) := by decide +kernel
theorem dL_isApproved_17 : decode cL_isApproved 17 = .ok (.goto 7, 3) := by decide +kernel
theorem dL_isApproved_20 : decode cL_isApproved 20 = .ok (.astore 4, 2) := by decide +kernel
theorem dL_isApproved_22 : decode cL_isApproved 22 = .ok (.iconst 1, 1) := by decide +kernel
theorem dL_isApproved_23 : decode cL_isApproved 23 = .ok (.ireturn, 1) := by decide +kernel
theorem dL_isApproved_24 : decode cL_isApproved 24 = .ok (.iconst 0, 1) := by decide +kernel
theorem dL_isApproved_25 : decode cL_isApproved 25 = .ok (.ireturn, 1) := by decide +kernel
set_option maxRecDepth 20000 in
theorem ggL_differences_X3_differences : GoodIn wsL_differences wsX3_differences := goodIn_ca (goodIn_ca (goodIn_r _ [7, 8, 9, 10, 6, 11, 12, 13, 14, 15, 16, 17, 18, 19, 20, 21, 22, 23, 24, 25, 26, 27, 28, 29, 30, 31, 32, 33, 34, 35, 36, 37, 38, 39, 40, 41, 42, 43, 44, 45, 46, 47, 48, 49, 50, 51, 52, 53, 54, 55, 56, 57, 58, 59, 60, 61, 62, 63, 64, 65, 66, 67, 68, 69, 70, 71, 72, 73, 74, 75, 76, 77, 78, 79, 80, 81, 82, 83, 84, 85, 86, 87, 88, 89, 90, 91, 92, 93, 94, 95, 96, 97, 98, 99, 100, 101, 102, 103, 104, 105, 106, 107, 108, 109, 110, 111, 112, 113, 114, 115, 116, 117, 118, 119, 120, 121, 122, 123, 124, 125, 126, 127, 128, 129, 130, 131, 132, 133, 134, 135, 136, 137, 138, 139, 140, 141, 142, 143, 144, 145, 146, 147, 148, 149, 150] (by decide +kernel) (by decide +kernel)) (goodIn_sub (fun _ h => List.mem_cons_of_mem _ (List.mem_append_left _ (List.mem_append_right _ h))) (by decide +kernel))) (goodIn_sub (fun _ h => List.mem_cons_of_mem _ (List.mem_append_right _ h)) (by decide +kernel))
set_option maxRecDepth 20000 in
theorem gL_differences_X3_differences : GoodIn wsL_differences (wsV RL 42 RX3 yX3_differences wsX3_differences) := goodIn_app (goodIn_of _ (by decide +kernel)) ggL_differences_X3_differences
theorem dL_differences_0 : decode cL_differences 0 = .ok (.aload 4, 2) := by decide +kernel
theorem dL_differences_2 : decode cL_differences 2 = .ok (.iconst 0, 1) := by decide +kernel
theorem dL_differences_3 : decode cL_differences 3 = .ok (.aload_n 0, 1) := by decide +kernel
theorem dL_differences_4 : decode cL_differences 4 = .ok (.iload_n 1, 1) := by decide +kernel
theorem dL_differences_5 : decode cL_differences 5 = .ok (.iload_n 2, 1) := by decide +kernel
theorem dL_differences_6 : decode cL_differences 6 = .ok (.iload_n 3, 1) := by decide +kernel
theorem dL_differences_7 : decode cL_differences 7 = .ok (.invokevirtual 42, 3) := by decide +kernel
theorem dL_differences_10 : decode cL_differences 10 = .ok (.i2l, 1) := by decide +kernel
theorem dL_differences_11 : decode cL_differences 11 = .ok (.lastore, 1) := by decide +kernel
theorem dL_differences_12 : decode cL_differences 12 = .ok (.goto 11, 3) := by decide +kernel
theorem dL_differences_15 : decode cL_differences 15 = .ok (.astore 5, 2) := by decide +kernel
theorem dL_differences_17 : decode cL_differences 17 = .ok (.iconst 1, 1) := by decide +kernel
theorem dL_differences_18 : decode cL_differences 18 = .ok (.ireturn, 1) := by decide +kernel
theorem dL_differences_19 : decode cL_differences 19 = .ok (.astore 5, 2) := by decide +kernel
theorem dL_differences_21 : decode cL_differences 21 = .ok (.iconst 2, 1) := by decide +kernel
theorem dL_differences_22 : decode cL_differences 22 = .ok (.ireturn, 1) := by decide +kernel
theorem dL_differences_23 : decode cL_differences 23 = .ok (.iconst 0, 1) := by decide +kernel
theorem dL_differences_24 : decode cL_differences 24 = .ok (.ireturn, 1) := by decide +kernel
set_option maxRecDepth 20000 in
theorem ggL_firstDifference_X3_firstDifference : GoodIn wsL_firstDifference wsX3_firstDifference := goodIn_ca (goodIn_ca (goodIn_r _ [7, 8, 9, 10, 6, 11, 12, 13, 14, 15, 16, 17, 18, 19, 20, 21, 22, 23, 24, 25, 26, 27, 28, 29, 30, 31, 32, 33, 34, 35, 36, 37, 38, 39, 40, 41, 42, 43, 44, 45, 46, 47, 48, 49, 50, 51, 52, 53, 54, 55, 56, 57, 58, 59, 60, 61, 62, 63, 64, 65, 66, 67, 68, 69, 70, 71, 72, 73, 74, 75, 76, 77, 78, 79, 80, 81, 82, 83, 84, 85, 86, 87, 88, 89, 90, 91, 92, 93, 94, 95, 96, 97, 98, 99, 100, 101, 102, 103, 104, 105, 106, 107, 108, 109, 110, 111, 112, 113, 114, 115, 116, 117, 118, 119, 120, 121, 122, 123, 124, 125, 126, 127, 128, 129, 130, 131, 132, 133, 134, 135, 136, 137, 138, 139, 140, 141, 142, 143, 144, 145, 146, 147, 148, 149, 150, 151, 152, 153, 154] (by decide +kernel) (by decide +kernel)) (goodIn_sub (fun _ h => List.mem_cons_of_mem _ (List.mem_append_left _ (List.mem_append_right _ h))) (by decide +kernel))) (goodIn_sub (fun _ h => List.mem_cons_of_mem _ (List.mem_append_right _ h)) (by decide +kernel))
set_option maxRecDepth 20000 in
theorem gL_firstDifference_X3_firstDifference : GoodIn wsL_firstDifference (wsV RL 45 RX3 yX3_firstDifference wsX3_firstDifference) := goodIn_app (goodIn_of _ (by decide +kernel)) ggL_firstDifference_X3_firstDifference
theorem dL_firstDifference_0 : decode cL_firstDifference 0 = .ok (.aload 4, 2) := by decide +kernel
theorem dL_firstDifference_2 : decode cL_firstDifference 2 = .ok (.iconst 0, 1) := by decide +kernel
theorem dL_firstDifference_3 : decode cL_firstDifference 3 = .ok (.aload_n 0, 1) := by decide +kernel
theorem dL_firstDifference_4 : decode cL_firstDifference 4 = .ok (.iload_n 1, 1) := by decide +kernel
theorem dL_firstDifference_5 : decode cL_firstDifference 5 = .ok (.iload_n 2, 1) := by decide +kernel
theorem dL_firstDifference_6 : decode cL_firstDifference 6 = .ok (.iload_n 3, 1) := by decide +kernel
theorem dL_firstDifference_7 : decode cL_firstDifference 7 = .ok (.invokevirtual 45, 3) := by decide +kernel
theorem dL_firstDifference_10 : decode cL_firstDifference 10 = .ok (.i2l, 1) := by decide +kernel
theorem dL_firstDifference_11 : decode cL_firstDifference 11 = .ok (.lastore, 1) := by decide +kernel
theorem dL_firstDifference_12 : decode cL_firstDifference 12 = .ok (.goto 11, 3) := by decide +kernel
theorem dL_firstDifference_15 : decode cL_firstDifference 15 = .ok (.astore 5, 2) := by decide +kernel
theorem dL_firstDifference_17 : decode cL_firstDifference 17 = .ok (.iconst 1, 1) := by decide +kernel
theorem dL_firstDifference_18 : decode cL_firstDifference 18 = .ok (.ireturn, 1) := by decide +kernel
theorem dL_firstDifference_19 : decode cL_firstDifference 19 = .ok (.astore 5, 2) := by decide +kernel
theorem dL_firstDifference_21 : decode cL_firstDifference 21 = .ok (.iconst 2, 1) := by decide +kernel
theorem dL_firstDifference_22 : decode cL_firstDifference 22 = .ok (.ireturn, 1) := by decide +kernel
theorem dL_firstDifference_23 : decode cL_firstDifference 23 = .ok (.iconst 0, 1) := by decide +kernel
theorem dL_firstDifference_24 : decode cL_firstDifference 24 = .ok (.ireturn, 1) := by decide +kernel
set_option maxRecDepth 20000 in
theorem ggL_move_X3_move : GoodIn wsL_move wsX3_move := goodIn_ca (goodIn_ca (goodIn_r _ [7, 8, 9, 10, 6, 11, 12, 13, 14, 15, 16, 17, 18, 19, 20, 21, 22, 23, 24, 25, 26, 27, 28, 29, 30, 31, 32, 33, 34, 35, 36, 37, 38, 39, 40, 41, 42, 43, 44, 45, 46, 47, 48, 49, 50, 51, 52, 53, 54, 55, 56, 57, 58, 59, 60, 61, 62, 63, 64, 65, 66, 67, 68, 69, 70, 71, 72, 73, 74, 75, 76, 77, 78, 79, 80, 81, 82, 83, 84, 85, 86, 87, 88, 89, 90, 91, 92, 93, 94, 95, 96, 97, 98, 99, 100, 101, 102, 103, 104, 105, 106, 107, 108, 109, 110, 111] (by decide +kernel) (by decide +kernel)) (goodIn_sub (fun _ h => List.mem_cons_of_mem _ (List.mem_append_left _ (List.mem_append_right _ h))) (by decide +kernel))) (goodIn_sub (fun _ h => List.mem_cons_of_mem _ (List.mem_append_right _ h)) (by decide +kernel))
set_option maxRecDepth 20000 in
theorem gL_move_X3_move : GoodIn wsL_move (wsV RL 48 RX3 yX3_move wsX3_move) := goodIn_app (goodIn_of _ (by decide +kernel)) ggL_move_X3_move
theorem dL_move_0 : decode cL_move 0 = .ok (.aload 4, 2) := by decide +kernel
theorem dL_move_2 : decode cL_move 2 = .ok (.iconst 0, 1) := by decide +kernel
theorem dL_move_3 : decode cL_move 3 = .ok (.aload_n 0, 1) := by decide +kernel
theorem dL_move_4 : decode cL_move 4 = .ok (.iload_n 1, 1) := by decide +kernel
theorem dL_move_5 : decode cL_move 5 = .ok (.iload_n 2, 1) := by decide +kernel
theorem dL_move_6 : decode cL_move 6 = .ok (.iload_n 3, 1) := by decide +kernel
theorem dL_move_7 : decode cL_move 7 = .ok (.invokevirtual 48, 3) := by decide +kernel
theorem dL_move_10 : decode cL_move 10 = .ok (.i2l, 1) := by decide +kernel
theorem dL_move_11 : decode cL_move 11 = .ok (.lastore, 1) := by decide +kernel
theorem dL_move_12 : decode cL_move 12 = .ok (.goto 11, 3) := by decide +kernel
theorem dL_move_15 : decode cL_move 15 = .ok (.astore 5, 2) := by decide +kernel
theorem dL_move_17 : decode cL_move 17 = .ok (.iconst 1, 1) := by decide +kernel
theorem dL_move_18 : decode cL_move 18 = .ok (.ireturn, 1) := by decide +kernel
theorem dL_move_19 : decode cL_move 19 = .ok (.astore 5, 2) := by decide +kernel
theorem dL_move_21 : decode cL_move 21 = .ok (.iconst 2, 1) := by decide +kernel
theorem dL_move_22 : decode cL_move 22 = .ok (.ireturn, 1) := by decide +kernel
theorem dL_move_23 : decode cL_move 23 = .ok (.iconst 0, 1) := by decide +kernel
theorem dL_move_24 : decode cL_move 24 = .ok (.ireturn, 1) := by decide +kernel
set_option maxRecDepth 20000 in
theorem ggL_soft_X3_soft : GoodIn wsL_soft wsX3_soft := goodIn_ca (goodIn_ca (goodIn_r _ [7, 8, 9, 10, 6, 11, 12, 13, 14, 15, 16, 17, 18, 19, 20, 21, 22, 23, 24, 25, 26, 27, 28, 29, 30, 31, 32, 33, 34, 35, 36, 37, 38, 39, 40, 41, 42, 43, 44, 45, 46, 47, 48, 49, 50, 51, 52, 53, 54, 55, 56, 57, 58, 59, 60, 61, 62, 63, 64, 65, 66, 67, 68, 69, 70, 71, 72, 73, 74, 75, 76, 77, 78, 79, 80, 81, 82, 83, 84, 85] (by decide +kernel) (by decide +kernel)) (goodIn_sub (fun _ h => List.mem_cons_of_mem _ (List.mem_append_left _ (List.mem_append_right _ h))) (by decide +kernel))) (goodIn_sub (fun _ h => List.mem_cons_of_mem _ (List.mem_append_right _ h)) (by decide +kernel))
set_option maxRecDepth 20000 in
theorem gL_soft_X3_soft : GoodIn wsL_soft (wsV RL 51 RX3 yX3_soft wsX3_soft) := goodIn_app (goodIn_of _ (by decide +kernel)) ggL_soft_X3_soft
theorem dL_soft_0 : decode cL_soft 0 = .ok (.aload 4, 2) := by decide +kernel
theorem dL_soft_2 : decode cL_soft 2 = .ok (.iconst 0, 1) := by decide +kernel
theorem dL_soft_3 : decode cL_soft 3 = .ok (.aload_n 0, 1) := by decide +kernel
theorem dL_soft_4 : decode cL_soft 4 = .ok (.iload_n 1, 1) := by decide +kernel
theorem dL_soft_5 : decode cL_soft 5 = .ok (.iload_n 2, 1) := by decide +kernel
theorem dL_soft_6 : decode cL_soft 6 = .ok (.iload_n 3, 1) := by decide +kernel
theorem dL_soft_7 : decode cL_soft 7 = .ok (.invokevirtual 51, 3) := by decide +kernel
theorem dL_soft_10 : decode cL_soft 10 = .ok (.i2l, 1) := by decide +kernel
theorem dL_soft_11 : decode cL_soft 11 = .ok (.lastore, 1) := by decide +kernel
theorem dL_soft_12 : decode cL_soft 12 = .ok (.goto 11, 3) := by decide +kernel
theorem dL_soft_15 : decode cL_soft 15 = .ok (.astore 5, 2) := by decide +kernel
theorem dL_soft_17 : decode cL_soft 17 = .ok (.iconst 1, 1) := by decide +kernel
theorem dL_soft_18 : decode cL_soft 18 = .ok (.ireturn, 1) := by decide +kernel
theorem dL_soft_19 : decode cL_soft 19 = .ok (.astore 5, 2) := by decide +kernel
theorem dL_soft_21 : decode cL_soft 21 = .ok (.iconst 2, 1) := by decide +kernel
theorem dL_soft_22 : decode cL_soft 22 = .ok (.ireturn, 1) := by decide +kernel
theorem dL_soft_23 : decode cL_soft 23 = .ok (.iconst 0, 1) := by decide +kernel
theorem dL_soft_24 : decode cL_soft 24 = .ok (.ireturn, 1) := by decide +kernel
set_option maxRecDepth 20000 in
theorem ggL_run_X3_run : GoodIn wsL_run wsX3_run := goodIn_ca (goodIn_ca (goodIn_r _ [7, 8, 9, 10, 11, 6, 12, 13, 14, 15, 16, 17, 18, 19, 20, 21, 22, 23, 24, 25, 26, 27, 28, 29, 30, 31, 32, 33, 34, 35, 36, 37, 38, 39, 40, 41, 42, 43, 44, 45, 46, 47, 48, 49, 50, 51, 52, 53, 54, 55, 56, 57, 58, 59, 60, 61, 62, 63, 64, 65, 66, 67, 68, 69, 70, 71, 72, 73, 74, 75, 76, 77, 78, 79, 80, 81, 82, 83, 84, 85, 86, 87, 88, 89, 90, 91, 92, 93, 94, 95, 96, 97, 98, 99, 100, 101, 102, 103, 104, 105, 106, 107, 108, 109, 110, 111, 112, 113, 114, 115, 116, 117, 118, 119, 120, 121, 122, 123, 124, 125, 126, 127, 128, 129, 130, 131, 132, 133, 134, 135, 136, 137, 138, 139, 140, 141, 142, 143, 144, 145, 146, 147, 148, 149, 150, 151, 152, 153, 154, 155, 156, 157, 158, 159, 160, 161, 162, 163, 164, 165] (by decide +kernel) (by decide +kernel)) (goodIn_sub (fun _ h => List.mem_cons_of_mem _ (List.mem_append_left _ (List.mem_append_right _ h))) (by decide +kernel))) (goodIn_sub (fun _ h => List.mem_cons_of_mem _ (List.mem_append_right _ h)) (by decide +kernel))
set_option maxRecDepth 20000 in
theorem gL_run_X3_run : GoodIn wsL_run (wsV RL 54 RX3 yX3_run wsX3_run) := goodIn_app (goodIn_of _ (by decide +kernel)) ggL_run_X3_run
theorem dL_run_0 : decode cL_run 0 = .ok (.aload 4, 2) := by decide +kernel
theorem dL_run_2 : decode cL_run 2 = .ok (.iconst 0, 1) := by decide +kernel
theorem dL_run_3 : decode cL_run 3 = .ok (.aload_n 0, 1) := by decide +kernel
theorem dL_run_4 : decode cL_run 4 = .ok (.iload_n 1, 1) := by decide +kernel
theorem dL_run_5 : decode cL_run 5 = .ok (.iload_n 2, 1) := by decide +kernel
theorem dL_run_6 : decode cL_run 6 = .ok (.iload_n 3, 1) := by decide +kernel
theorem dL_run_7 : decode cL_run 7 = .ok (.invokevirtual 54, 3) := by decide +kernel
theorem dL_run_10 : decode cL_run 10 = .ok (.ifCond .eq 7, 3) := by decide +kernel
theorem dL_run_13 : decode cL_run 13 = .ok (.lconst 1, 1) := by decide +kernel
theorem dL_run_14 : decode cL_run 14 = .ok (.goto 4, 3) := by decide +kernel
theorem dL_run_17 : decode cL_run 17 = .ok (.lconst 0, 1) := by decide +kernel
theorem dL_run_18 : decode cL_run 18 = .ok (.lastore, 1) := by decide +kernel
theorem dL_run_19 : decode cL_run 19 = .ok (.goto 11, 3) := by decide +kernel
theorem dL_run_22 : decode cL_run 22 = .ok (.astore 5, 2) := by decide +kernel
theorem dL_run_24 : decode cL_run 24 = .ok (.iconst 1, 1) := by decide +kernel
theorem dL_run_25 : decode cL_run 25 = .ok (.ireturn, 1) := by decide +kernel
theorem dL_run_26 : decode cL_run 26 = .ok (.astore 5, 2) := by decide +kernel
theorem dL_run_28 : decode cL_run 28 = .ok (.iconst 2, 1) := by decide +kernel
theorem dL_run_29 : decode cL_run 29 = .ok (.ireturn, 1) := by decide +kernel
theorem dL_run_30 : decode cL_run 30 = .ok (.iconst 0, 1) := by decide +kernel
theorem dL_run_31 : decode cL_run 31 = .ok (.ireturn, 1) := by decide +kernel
set_option maxRecDepth 20000 in
theorem ggL_runs_X3_runs : GoodIn wsL_runs wsX3_runs := goodIn_ca (goodIn_r _ [6, 7, 8, 9, 5, 10, 11, 12, 13, 14, 15, 16, 17, 18, 19, 20, 21, 22, 23, 24, 25, 26, 27, 28, 29, 30] (by decide +kernel) (by decide +kernel)) (goodIn_sub (fun _ h => List.mem_cons_of_mem _ (List.mem_append_right _ h)) (by decide +kernel))
set_option maxRecDepth 20000 in
theorem gL_runs_X3_runs : GoodIn wsL_runs (wsV RL 58 RX3 yX3_runs wsX3_runs) := goodIn_app (goodIn_of _ (by decide +kernel)) ggL_runs_X3_runs
theorem dL_runs_0 : decode cL_runs 0 = .ok (.aload_n 2, 1) := by decide +kernel
theorem dL_runs_1 : decode cL_runs 1 = .ok (.iconst 0, 1) := by decide +kernel
theorem dL_runs_2 : decode cL_runs 2 = .ok (.aload_n 0, 1) := by decide +kernel
theorem dL_runs_3 : decode cL_runs 3 = .ok (.iload_n 1, 1) := by decide +kernel
theorem dL_runs_4 : decode cL_runs 4 = .ok (.invokevirtual 58, 3) := by decide +kernel
theorem dL_runs_7 : decode cL_runs 7 = .ok (.i2l, 1) := by decide +kernel
theorem dL_runs_8 : decode cL_runs 8 = .ok (.lastore, 1) := by decide +kernel
theorem dL_runs_9 : decode cL_runs 9 = .ok (.goto 6, 3) := by decide +kernel
theorem dL_runs_12 : decode cL_runs 12 = .ok (.astore_n 3, 1) := by decide +kernel
theorem dL_runs_13 : decode cL_runs 13 = .ok (.iconst 1, 1) := by decide +kernel
theorem dL_runs_14 : decode cL_runs 14 = .ok (.ireturn, 1) := by decide +kernel
theorem dL_runs_15 : decode cL_runs 15 = .ok (.iconst 0, 1) := by decide +kernel
theorem dL_runs_16 : decode cL_runs 16 = .ok (.ireturn, 1) := by decide +kernel
set_option maxRecDepth 20000 in
theorem ggL_doubt_X3_doubt : GoodIn wsL_doubt wsX3_doubt := goodIn_ca (goodIn_r _ [6, 7, 8, 9, 5, 10, 11, 12, 13, 14, 15, 16, 17, 18, 19, 20, 21, 22, 23, 24, 25, 26, 27, 28, 29, 30, 31, 32, 33, 34, 35, 36, 37, 38, 39, 40, 41, 42] (by decide +kernel) (by decide +kernel)) (goodIn_sub (fun _ h => List.mem_cons_of_mem _ (List.mem_append_right _ h)) (by decide +kernel))
set_option maxRecDepth 20000 in
theorem gL_doubt_X3_doubt : GoodIn wsL_doubt (wsV RL 61 RX3 yX3_doubt wsX3_doubt) := goodIn_app (goodIn_of _ (by decide +kernel)) ggL_doubt_X3_doubt
theorem dL_doubt_0 : decode cL_doubt 0 = .ok (.aload_n 2, 1) := by decide +kernel
theorem dL_doubt_1 : decode cL_doubt 1 = .ok (.iconst 0, 1) := by decide +kernel
theorem dL_doubt_2 : decode cL_doubt 2 = .ok (.aload_n 0, 1) := by decide +kernel
theorem dL_doubt_3 : decode cL_doubt 3 = .ok (.iload_n 1, 1) := by decide +kernel
theorem dL_doubt_4 : decode cL_doubt 4 = .ok (.invokevirtual 61, 3) := by decide +kernel
theorem dL_doubt_7 : decode cL_doubt 7 = .ok (.i2l, 1) := by decide +kernel
theorem dL_doubt_8 : decode cL_doubt 8 = .ok (.lastore, 1) := by decide +kernel
theorem dL_doubt_9 : decode cL_doubt 9 = .ok (.goto 6, 3) := by decide +kernel
theorem dL_doubt_12 : decode cL_doubt 12 = .ok (.astore_n 3, 1) := by decide +kernel
theorem dL_doubt_13 : decode cL_doubt 13 = .ok (.iconst 1, 1) := by decide +kernel
theorem dL_doubt_14 : decode cL_doubt 14 = .ok (.ireturn, 1) := by decide +kernel
theorem dL_doubt_15 : decode cL_doubt 15 = .ok (.iconst 0, 1) := by decide +kernel
theorem dL_doubt_16 : decode cL_doubt 16 = .ok (.ireturn, 1) := by decide +kernel
set_option maxRecDepth 20000 in
theorem ggL_law_X3_init : GoodIn wsL_law wsX3_init := goodIn_r _ [9, 10, 11, 12, 13, 14, 15, 16, 17, 18, 19, 20, 21, 22, 23, 24, 25, 26, 27, 28, 29, 30, 31, 32, 33, 34, 35, 36, 37, 38, 39, 40, 41, 42, 43, 44, 45, 507, 508, 493, 494, 495, 496, 509, 510, 511, 512, 513, 514] (by decide +kernel) (by decide +kernel)
set_option maxRecDepth 20000 in
theorem gL_law_X3_init : GoodIn wsL_law (wsX3_init) := ggL_law_X3_init
set_option maxRecDepth 20000 in
theorem ggL_law_X4_init : GoodIn wsL_law wsX4_init := goodIn_r _ [48, 49, 11, 12, 30, 50, 51, 32, 52, 53, 54, 55, 56, 497, 498, 499, 500, 501, 502, 503, 504, 505, 506] (by decide +kernel) (by decide +kernel)
set_option maxRecDepth 20000 in
theorem gL_law_X4_init : GoodIn wsL_law (wsX4_init) := ggL_law_X4_init
set_option maxRecDepth 20000 in
theorem ggL_law_L_paint : GoodIn wsL_law wsL_paint := goodIn_ca (goodIn_r _ [60, 61, 62, 63, 64, 2, 65, 16, 66, 67, 68, 69, 70, 71, 72, 73, 74, 75, 76, 77, 78, 79, 80, 81, 82, 83, 84, 85, 86, 87, 88, 89, 90, 91, 15, 92, 31, 93, 94, 95, 96, 97, 98, 493, 494, 495, 496, 507, 508] (by decide +kernel) (by decide +kernel)) (goodIn_sub (fun _ h => List.mem_append_left _ (List.mem_append_right _ h)) (by decide +kernel))
set_option maxRecDepth 20000 in
theorem gL_law_L_paint : GoodIn wsL_law (va_wsS RL 68 yL_paint wsL_paint) := goodIn_app (goodIn_of _ (by decide +kernel)) ggL_law_L_paint
set_option maxRecDepth 20000 in
theorem ggL_law_X4_paint : GoodIn wsL_law wsX4_paint := goodIn_r _ [102, 50, 103, 104, 5, 105, 106, 107, 108, 109, 110, 111, 112, 113, 114, 115, 116, 117, 118, 119, 497, 498, 499, 500, 501, 502, 503, 504, 505, 506] (by decide +kernel) (by decide +kernel)
set_option maxRecDepth 20000 in
theorem gL_law_X4_paint : GoodIn wsL_law (wsV RL 73 RX4 yX4_paint wsX4_paint) := goodIn_app (goodIn_of _ (by decide +kernel)) ggL_law_X4_paint
set_option maxRecDepth 20000 in
theorem ggL_law_X4_thrown : GoodIn wsL_law wsX4_thrown := goodIn_r _ [123, 119, 497, 498, 499, 500, 501, 502, 503, 504, 505, 506] (by decide +kernel) (by decide +kernel)
set_option maxRecDepth 20000 in
theorem gL_law_X4_thrown : GoodIn wsL_law (wsV RL 74 RX4 yX4_thrown wsX4_thrown) := goodIn_app (goodIn_of _ (by decide +kernel)) ggL_law_X4_thrown
set_option maxRecDepth 20000 in
theorem ggL_law_L_shade : GoodIn wsL_law wsL_shade := goodIn_ca (goodIn_r _ [126, 61, 127, 128, 129, 2, 130, 16, 66, 67, 68, 69, 70, 71, 75, 76, 77, 81, 82, 83, 84, 85, 86, 87, 88, 131, 132, 133, 15, 134, 31, 93, 94, 95, 96, 97, 98, 493, 494, 495, 496, 507, 508] (by decide +kernel) (by decide +kernel)) (goodIn_sub (fun _ h => List.mem_append_left _ (List.mem_append_right _ h)) (by decide +kernel))
set_option maxRecDepth 20000 in
theorem gL_law_L_shade : GoodIn wsL_law (va_wsS RL 78 yL_shade wsL_shade) := goodIn_app (goodIn_of _ (by decide +kernel)) ggL_law_L_shade
set_option maxRecDepth 20000 in
theorem ggL_law_X4_shade : GoodIn wsL_law wsX4_shade := goodIn_r _ [138, 50, 103, 104, 5, 105, 106, 107, 108, 112, 113, 114, 115, 116, 117, 118, 119, 497, 498, 499, 500, 501, 502, 503, 504, 505, 506] (by decide +kernel) (by decide +kernel)
set_option maxRecDepth 20000 in
theorem gL_law_X4_shade : GoodIn wsL_law (wsV RL 81 RX4 yX4_shade wsX4_shade) := goodIn_app (goodIn_of _ (by decide +kernel)) ggL_law_X4_shade
set_option maxRecDepth 20000 in
theorem ggL_law_L_setPart : GoodIn wsL_law wsL_setPart := goodIn_ca (goodIn_r _ [141, 61, 142, 143, 144, 2, 145, 20, 21, 66, 67, 68, 69, 70, 71, 72, 73, 74, 75, 76, 77, 81, 82, 83, 84, 85, 146, 147, 148, 19, 149, 37, 38, 39, 40, 150, 151, 152, 153, 154, 493, 494, 495, 496, 509, 510, 511, 512] (by decide +kernel) (by decide +kernel)) (goodIn_sub (fun _ h => List.mem_append_left _ (List.mem_append_right _ h)) (by decide +kernel))
set_option maxRecDepth 20000 in
theorem gL_law_L_setPart : GoodIn wsL_law (va_wsS RL 82 yL_setPart wsL_setPart) := goodIn_app (goodIn_of _ (by decide +kernel)) ggL_law_L_setPart
set_option maxRecDepth 20000 in
theorem ggL_law_X4_setPart : GoodIn wsL_law wsX4_setPart := goodIn_r _ [158, 53, 54, 103, 104, 5, 105, 106, 107, 108, 109, 110, 111, 112, 113, 114, 115, 116, 117, 118, 119, 497, 498, 499, 500, 501, 502, 503, 504, 505, 506] (by decide +kernel) (by decide +kernel)
set_option maxRecDepth 20000 in
theorem gL_law_X4_setPart : GoodIn wsL_law (wsV RL 85 RX4 yX4_setPart wsX4_setPart) := goodIn_app (goodIn_of _ (by decide +kernel)) ggL_law_X4_setPart
set_option maxRecDepth 20000 in
theorem ggL_law_L_setMask : GoodIn wsL_law wsL_setMask := goodIn_ca (goodIn_ca (goodIn_r _ [161, 61, 162, 163, 164, 165, 2, 166, 167, 168, 20, 21, 66, 67, 68, 69, 70, 71, 81, 82, 83, 84, 85, 169, 170, 171, 19, 172, 37, 39, 146, 147, 148, 149, 38, 40, 493, 494, 495, 496, 509, 510, 511, 512] (by decide +kernel) (by decide +kernel)) (goodIn_sub (fun _ h => List.mem_append_right _ h) (by decide +kernel))) (goodIn_sub (fun _ h => List.mem_append_left _ (List.mem_append_right _ h)) (by decide +kernel))
set_option maxRecDepth 20000 in
theorem gL_law_L_setMask : GoodIn wsL_law (va_wsS RL 86 yL_setMask wsL_setMask) := goodIn_app (goodIn_of _ (by decide +kernel)) ggL_law_L_setMask
set_option maxRecDepth 20000 in
theorem ggL_law_X4_setMask : GoodIn wsL_law wsX4_setMask := goodIn_r _ [176, 53, 54, 103, 104, 5, 105, 106, 107, 108, 115, 116, 117, 118, 119, 497, 498, 499, 500, 501, 502, 503, 504, 505, 506] (by decide +kernel) (by decide +kernel)
set_option maxRecDepth 20000 in
theorem gL_law_X4_setMask : GoodIn wsL_law (wsV RL 88 RX4 yX4_setMask wsX4_setMask) := goodIn_app (goodIn_of _ (by decide +kernel)) ggL_law_X4_setMask
set_option maxRecDepth 20000 in
theorem ggL_law_L_approve : GoodIn wsL_law wsL_approve := goodIn_ca (goodIn_r _ [179, 61, 180, 181, 182, 2, 183, 16, 184, 185, 186, 69, 70, 71, 66, 67, 68, 81, 82, 83, 84, 85, 187, 188, 189, 190, 191, 192, 15, 193, 33, 93, 94, 95, 86, 87, 88, 194, 195, 196, 197, 31, 198, 199, 200, 201, 493, 494, 495, 496, 507, 508] (by decide +kernel) (by decide +kernel)) (goodIn_sub (fun _ h => List.mem_append_left _ (List.mem_append_right _ h)) (by decide +kernel))
set_option maxRecDepth 20000 in
theorem gL_law_L_approve : GoodIn wsL_law (va_wsS RL 89 yL_approve wsL_approve) := goodIn_app (goodIn_of _ (by decide +kernel)) ggL_law_L_approve
set_option maxRecDepth 20000 in
theorem ggL_law_X4_approve : GoodIn wsL_law wsX4_approve := goodIn_r _ [205, 52, 51, 50, 106, 107, 5, 108, 103, 104, 105, 115, 116, 117, 118, 119, 206, 207, 208, 497, 498, 499, 500, 501, 502, 503, 504, 505, 506] (by decide +kernel) (by decide +kernel)
set_option maxRecDepth 20000 in
theorem gL_law_X4_approve : GoodIn wsL_law (wsV RL 92 RX4 yX4_approve wsX4_approve) := goodIn_app (goodIn_of _ (by decide +kernel)) ggL_law_X4_approve
set_option maxRecDepth 20000 in
theorem ggL_law_L_begin : GoodIn wsL_law wsL_begin := goodIn_ca (goodIn_r _ [211, 61, 212, 213, 214, 2, 215, 16, 216, 217, 218, 69, 70, 71, 81, 82, 83, 84, 85, 219, 220, 221, 222, 187, 188, 189, 223, 224, 225, 194, 195, 196, 15, 197, 31, 198, 199, 200, 201, 33, 93, 94, 95, 190, 191, 192, 193, 493, 494, 495, 496, 507, 508] (by decide +kernel) (by decide +kernel)) (goodIn_sub (fun _ h => List.mem_append_left _ (List.mem_append_right _ h)) (by decide +kernel))
set_option maxRecDepth 20000 in
theorem gL_law_L_begin : GoodIn wsL_law (va_wsS RL 93 yL_begin wsL_begin) := goodIn_app (goodIn_of _ (by decide +kernel)) ggL_law_L_begin
set_option maxRecDepth 20000 in
theorem ggL_law_X4_begin : GoodIn wsL_law wsX4_begin := goodIn_r _ [229, 52, 106, 107, 5, 108, 115, 116, 117, 118, 119, 206, 207, 208, 230, 231, 232, 233, 51, 234, 235, 236, 497, 498, 499, 500, 501, 502, 503, 504, 505, 506] (by decide +kernel) (by decide +kernel)
set_option maxRecDepth 20000 in
theorem gL_law_X4_begin : GoodIn wsL_law (wsV RL 96 RX4 yX4_begin wsX4_begin) := goodIn_app (goodIn_of _ (by decide +kernel)) ggL_law_X4_begin
set_option maxRecDepth 20000 in
theorem ggL_law_L_join : GoodIn wsL_law wsL_join := goodIn_ca (goodIn_r _ [239, 61, 240, 241, 242, 2, 243, 216, 217, 218, 69, 70, 71, 81, 82, 83, 84, 85, 244, 245, 246, 247, 16, 187, 188, 189, 223, 224, 225, 248, 249, 250, 15, 251, 31, 252, 191, 192, 193, 33, 93, 94, 95, 253, 254, 255, 256, 194, 195, 196, 197, 198, 199, 200, 201, 219, 220, 221, 222, 493, 494, 495, 496, 507, 508] (by decide +kernel) (by decide +kernel)) (goodIn_sub (fun _ h => List.mem_append_left _ (List.mem_append_right _ h)) (by decide +kernel))
set_option maxRecDepth 20000 in
theorem gL_law_L_join : GoodIn wsL_law (va_wsS RL 97 yL_join wsL_join) := goodIn_app (goodIn_of _ (by decide +kernel)) ggL_law_L_join
set_option maxRecDepth 20000 in
theorem ggL_law_X4_join : GoodIn wsL_law wsX4_join := goodIn_r _ [260, 106, 107, 5, 108, 115, 116, 117, 118, 119, 206, 207, 208, 234, 235, 236, 261, 262, 263, 264, 52, 51, 230, 231, 232, 233, 497, 498, 499, 500, 501, 502, 503, 504, 505, 506] (by decide +kernel) (by decide +kernel)
set_option maxRecDepth 20000 in
theorem gL_law_X4_join : GoodIn wsL_law (wsV RL 99 RX4 yX4_join wsX4_join) := goodIn_app (goodIn_of _ (by decide +kernel)) ggL_law_X4_join
set_option maxRecDepth 20000 in
theorem ggL_law_L_isApproved : GoodIn wsL_law wsL_isApproved := goodIn_ca (goodIn_r _ [267, 61, 268, 269, 270, 2, 271, 16, 184, 185, 186, 69, 70, 71, 66, 67, 68, 81, 82, 83, 84, 85, 187, 188, 189, 190, 191, 192, 15, 193, 33, 93, 94, 95, 493, 494, 495, 496, 507, 508] (by decide +kernel) (by decide +kernel)) (goodIn_sub (fun _ h => List.mem_append_left _ (List.mem_append_right _ h)) (by decide +kernel))
set_option maxRecDepth 20000 in
theorem gL_law_L_isApproved : GoodIn wsL_law (va_wsS RL 100 yL_isApproved wsL_isApproved) := goodIn_app (goodIn_of _ (by decide +kernel)) ggL_law_L_isApproved
set_option maxRecDepth 20000 in
theorem ggL_law_X4_isApproved : GoodIn wsL_law wsX4_isApproved := goodIn_r _ [275, 52, 106, 107, 5, 108, 103, 104, 105, 115, 116, 117, 118, 119, 206, 207, 208, 497, 498, 499, 500, 501, 502, 503, 504, 505, 506] (by decide +kernel) (by decide +kernel)
set_option maxRecDepth 20000 in
theorem gL_law_X4_isApproved : GoodIn wsL_law (wsV RL 102 RX4 yX4_isApproved wsX4_isApproved) := goodIn_app (goodIn_of _ (by decide +kernel)) ggL_law_X4_isApproved
set_option maxRecDepth 20000 in
theorem ggL_law_L_differences : GoodIn wsL_law wsL_differences := goodIn_ca (goodIn_ca (goodIn_r _ [278, 61, 162, 279, 280, 281, 2, 282, 283, 284, 285, 286, 167, 168, 16, 184, 185, 186, 69, 70, 71, 66, 67, 68, 78, 79, 80, 81, 82, 83, 84, 85, 187, 188, 189, 190, 191, 192, 15, 193, 33, 93, 94, 95, 287, 288, 289, 290, 20, 291, 292, 293, 294, 169, 170, 171, 19, 172, 37, 39, 295, 296, 297, 298, 299, 300, 301, 302, 40, 303, 304, 305, 306, 307, 308, 309, 310, 38, 311, 312, 313, 314, 75, 76, 77, 86, 87, 88, 131, 132, 133, 134, 31, 96, 97, 98, 315, 316, 317, 318, 319, 320, 321, 322, 323, 324, 325, 326, 327, 328, 329, 330, 331, 332, 333, 334, 335, 336, 337, 338, 339, 340, 341, 342, 343, 344, 345, 346, 347, 348, 21, 349, 350, 351, 352, 353, 354, 355, 356, 357, 358, 493, 494, 495, 496, 507, 508, 509, 510, 511, 512] (by decide +kernel) (by decide +kernel)) (goodIn_sub (fun _ h => List.mem_append_right _ h) (by decide +kernel))) (goodIn_sub (fun _ h => List.mem_append_left _ (List.mem_append_right _ h)) (by decide +kernel))
set_option maxRecDepth 20000 in
theorem gL_law_L_differences : GoodIn wsL_law (va_wsS RL 103 yL_differences wsL_differences) := goodIn_app (goodIn_of _ (by decide +kernel)) ggL_law_L_differences
set_option maxRecDepth 20000 in
theorem ggL_law_X4_differences : GoodIn wsL_law wsX4_differences := goodIn_r _ [362, 363, 364, 365, 5, 366, 52, 106, 107, 108, 103, 104, 105, 206, 207, 208, 115, 116, 117, 118, 119, 367, 368, 369, 370, 371, 372, 53, 373, 374, 375, 376, 51, 50, 112, 113, 114, 377, 378, 379, 380, 381, 382, 383, 384, 385, 386, 387, 388, 389, 390, 391, 392, 393, 394, 395, 54, 396, 397, 398, 497, 498, 499, 500, 501, 502, 503, 504, 505, 506] (by decide +kernel) (by decide +kernel)
set_option maxRecDepth 20000 in
theorem gL_law_X4_differences : GoodIn wsL_law (wsV RL 105 RX4 yX4_differences wsX4_differences) := goodIn_app (goodIn_of _ (by decide +kernel)) ggL_law_X4_differences
set_option maxRecDepth 20000 in
theorem ggL_law_L_firstDifference : GoodIn wsL_law wsL_firstDifference := goodIn_ca (goodIn_ca (goodIn_r _ [401, 61, 162, 402, 403, 404, 2, 405, 283, 284, 285, 286, 167, 168, 16, 184, 185, 186, 69, 70, 71, 66, 67, 68, 78, 79, 80, 81, 82, 83, 84, 85, 187, 188, 189, 190, 191, 192, 15, 193, 33, 93, 94, 95, 406, 407, 408, 409, 287, 288, 289, 290, 20, 291, 292, 293, 294, 169, 170, 171, 19, 172, 37, 39, 295, 296, 297, 298, 299, 300, 301, 302, 40, 303, 304, 305, 306, 307, 308, 309, 310, 38, 311, 312, 313, 314, 75, 76, 77, 86, 87, 88, 131, 132, 133, 134, 31, 96, 97, 98, 315, 316, 317, 318, 319, 320, 321, 322, 323, 324, 325, 326, 327, 328, 329, 330, 331, 332, 333, 334, 335, 336, 337, 338, 339, 340, 341, 342, 343, 344, 345, 346, 347, 348, 21, 349, 350, 351, 352, 353, 354, 355, 356, 357, 358, 493, 494, 495, 496, 507, 508, 509, 510, 511, 512] (by decide +kernel) (by decide +kernel)) (goodIn_sub (fun _ h => List.mem_append_right _ h) (by decide +kernel))) (goodIn_sub (fun _ h => List.mem_append_left _ (List.mem_append_right _ h)) (by decide +kernel))
set_option maxRecDepth 20000 in
theorem gL_law_L_firstDifference : GoodIn wsL_law (va_wsS RL 106 yL_firstDifference wsL_firstDifference) := goodIn_app (goodIn_of _ (by decide +kernel)) ggL_law_L_firstDifference
set_option maxRecDepth 20000 in
theorem ggL_law_X4_firstDifference : GoodIn wsL_law wsX4_firstDifference := goodIn_r _ [413, 363, 364, 365, 5, 366, 52, 106, 107, 108, 103, 104, 105, 206, 207, 208, 115, 116, 117, 118, 119, 367, 368, 369, 370, 371, 372, 53, 373, 374, 375, 376, 51, 50, 112, 113, 114, 377, 378, 379, 380, 381, 382, 383, 414, 415, 416, 417, 384, 385, 386, 387, 388, 389, 390, 391, 392, 393, 394, 395, 54, 396, 397, 398, 497, 498, 499, 500, 501, 502, 503, 504, 505, 506] (by decide +kernel) (by decide +kernel)
set_option maxRecDepth 20000 in
theorem gL_law_X4_firstDifference : GoodIn wsL_law (wsV RL 108 RX4 yX4_firstDifference wsX4_firstDifference) := goodIn_app (goodIn_of _ (by decide +kernel)) ggL_law_X4_firstDifference
set_option maxRecDepth 20000 in
theorem ggL_law_L_move : GoodIn wsL_law wsL_move := goodIn_ca (goodIn_ca (goodIn_r _ [420, 61, 162, 421, 422, 423, 2, 424, 283, 284, 285, 286, 167, 168, 16, 184, 185, 186, 69, 70, 71, 66, 67, 68, 78, 79, 80, 81, 82, 83, 84, 85, 187, 188, 189, 190, 191, 192, 15, 193, 33, 93, 94, 95, 287, 288, 289, 290, 20, 291, 292, 293, 294, 169, 170, 171, 19, 172, 37, 39, 295, 296, 297, 298, 299, 300, 301, 302, 40, 303, 304, 305, 306, 307, 308, 309, 310, 38, 311, 312, 313, 314, 75, 76, 77, 86, 87, 88, 131, 132, 133, 134, 31, 96, 97, 98, 315, 316, 317, 318, 319, 320, 493, 494, 495, 496, 507, 508, 509, 510, 511, 512] (by decide +kernel) (by decide +kernel)) (goodIn_sub (fun _ h => List.mem_append_right _ h) (by decide +kernel))) (goodIn_sub (fun _ h => List.mem_append_left _ (List.mem_append_right _ h)) (by decide +kernel))
set_option maxRecDepth 20000 in
theorem gL_law_L_move : GoodIn wsL_law (va_wsS RL 109 yL_move wsL_move) := goodIn_app (goodIn_of _ (by decide +kernel)) ggL_law_L_move
set_option maxRecDepth 20000 in
theorem ggL_law_X4_move : GoodIn wsL_law wsX4_move := goodIn_r _ [428, 372, 371, 363, 364, 365, 5, 366, 52, 106, 107, 108, 103, 104, 105, 206, 207, 208, 115, 116, 117, 118, 119, 367, 368, 369, 370, 53, 373, 374, 375, 376, 51, 50, 112, 113, 114, 377, 378, 379, 380, 381, 382, 383, 497, 498, 499, 500, 501, 502, 503, 504, 505, 506] (by decide +kernel) (by decide +kernel)
set_option maxRecDepth 20000 in
theorem gL_law_X4_move : GoodIn wsL_law (wsV RL 111 RX4 yX4_move wsX4_move) := goodIn_app (goodIn_of _ (by decide +kernel)) ggL_law_X4_move
set_option maxRecDepth 20000 in
theorem ggL_law_L_soft : GoodIn wsL_law wsL_soft := goodIn_ca (goodIn_ca (goodIn_r _ [431, 61, 162, 432, 433, 434, 2, 435, 283, 284, 285, 286, 167, 168, 16, 184, 185, 186, 69, 70, 71, 66, 67, 68, 78, 79, 80, 81, 82, 83, 84, 85, 187, 188, 189, 190, 191, 192, 15, 193, 33, 93, 94, 95, 325, 326, 327, 328, 329, 330, 349, 350, 351, 352, 353, 354, 293, 355, 356, 357, 358, 86, 87, 88, 131, 132, 133, 134, 31, 76, 77, 96, 97, 98, 315, 316, 317, 291, 292, 294, 493, 494, 495, 496, 507, 508] (by decide +kernel) (by decide +kernel)) (goodIn_sub (fun _ h => List.mem_append_right _ h) (by decide +kernel))) (goodIn_sub (fun _ h => List.mem_append_left _ (List.mem_append_right _ h)) (by decide +kernel))
set_option maxRecDepth 20000 in
theorem gL_law_L_soft : GoodIn wsL_law (va_wsS RL 112 yL_soft wsL_soft) := goodIn_app (goodIn_of _ (by decide +kernel)) ggL_law_L_soft
set_option maxRecDepth 20000 in
theorem ggL_law_X4_soft : GoodIn wsL_law wsX4_soft := goodIn_r _ [439, 363, 364, 365, 5, 366, 52, 106, 107, 108, 103, 104, 105, 206, 207, 208, 115, 116, 117, 118, 119, 367, 368, 369, 370, 371, 372, 53, 373, 374, 375, 376, 51, 50, 112, 113, 114, 377, 378, 379, 380, 381, 382, 383, 388, 389, 390, 391, 497, 498, 499, 500, 501, 502, 503, 504, 505, 506] (by decide +kernel) (by decide +kernel)
set_option maxRecDepth 20000 in
theorem gL_law_X4_soft : GoodIn wsL_law (wsV RL 114 RX4 yX4_soft wsX4_soft) := goodIn_app (goodIn_of _ (by decide +kernel)) ggL_law_X4_soft
set_option maxRecDepth 20000 in
theorem ggL_law_L_run : GoodIn wsL_law wsL_run := goodIn_ca (goodIn_ca (goodIn_r _ [442, 61, 162, 443, 444, 445, 2, 446, 25, 283, 284, 285, 286, 167, 168, 16, 184, 185, 186, 69, 70, 71, 66, 67, 68, 78, 79, 80, 81, 82, 83, 84, 85, 187, 188, 189, 190, 191, 192, 15, 193, 33, 93, 94, 95, 406, 407, 408, 409, 287, 288, 289, 290, 20, 291, 292, 293, 294, 169, 170, 171, 19, 172, 37, 39, 295, 296, 297, 298, 299, 300, 301, 302, 40, 303, 304, 305, 306, 307, 308, 309, 310, 38, 311, 312, 313, 314, 75, 76, 77, 86, 87, 88, 131, 132, 133, 134, 31, 96, 97, 98, 315, 316, 317, 318, 319, 320, 321, 322, 323, 324, 325, 326, 327, 328, 329, 330, 331, 332, 333, 334, 335, 336, 337, 338, 339, 340, 341, 342, 343, 344, 345, 346, 347, 348, 21, 349, 350, 351, 352, 353, 354, 355, 356, 357, 358, 447, 448, 449, 24, 450, 44, 45, 451, 493, 494, 495, 496, 507, 508, 509, 510, 511, 512, 513, 514] (by decide +kernel) (by decide +kernel)) (goodIn_sub (fun _ h => List.mem_append_right _ h) (by decide +kernel))) (goodIn_sub (fun _ h => List.mem_append_left _ (List.mem_append_right _ h)) (by decide +kernel))
set_option maxRecDepth 20000 in
theorem gL_law_L_run : GoodIn wsL_law (va_wsS RL 115 yL_run wsL_run) := goodIn_app (goodIn_of _ (by decide +kernel)) ggL_law_L_run
set_option maxRecDepth 20000 in
theorem ggL_law_X4_run : GoodIn wsL_law wsX4_run := goodIn_r _ [455, 56, 55, 363, 364, 365, 5, 366, 52, 106, 107, 108, 103, 104, 105, 206, 207, 208, 115, 116, 117, 118, 119, 367, 368, 369, 370, 371, 372, 53, 373, 374, 375, 376, 51, 50, 112, 113, 114, 377, 378, 379, 380, 381, 382, 383, 414, 415, 416, 417, 384, 385, 386, 387, 388, 389, 390, 391, 392, 393, 394, 395, 54, 396, 397, 398, 497, 498, 499, 500, 501, 502, 503, 504, 505, 506] (by decide +kernel) (by decide +kernel)
set_option maxRecDepth 20000 in
theorem gL_law_X4_run : GoodIn wsL_law (wsV RL 117 RX4 yX4_run wsX4_run) := goodIn_app (goodIn_of _ (by decide +kernel)) ggL_law_X4_run
set_option maxRecDepth 20000 in
theorem ggL_law_L_runs : GoodIn wsL_law wsL_runs := goodIn_ca (goodIn_r _ [458, 61, 459, 460, 461, 2, 462, 25, 66, 67, 68, 69, 70, 71, 81, 82, 83, 84, 85, 463, 464, 465, 24, 466, 45, 493, 494, 495, 496, 513, 514] (by decide +kernel) (by decide +kernel)) (goodIn_sub (fun _ h => List.mem_append_left _ (List.mem_append_right _ h)) (by decide +kernel))
set_option maxRecDepth 20000 in
theorem gL_law_L_runs : GoodIn wsL_law (va_wsS RL 118 yL_runs wsL_runs) := goodIn_app (goodIn_of _ (by decide +kernel)) ggL_law_L_runs
set_option maxRecDepth 20000 in
theorem ggL_law_X4_runs : GoodIn wsL_law wsX4_runs := goodIn_r _ [470, 56, 103, 104, 5, 105, 106, 107, 108, 115, 116, 117, 118, 119, 497, 498, 499, 500, 501, 502, 503, 504, 505, 506] (by decide +kernel) (by decide +kernel)
set_option maxRecDepth 20000 in
theorem gL_law_X4_runs : GoodIn wsL_law (wsV RL 120 RX4 yX4_runs wsX4_runs) := goodIn_app (goodIn_of _ (by decide +kernel)) ggL_law_X4_runs
set_option maxRecDepth 20000 in
theorem ggL_law_L_doubt : GoodIn wsL_law wsL_doubt := goodIn_ca (goodIn_r _ [473, 61, 474, 475, 476, 2, 477, 25, 66, 67, 68, 69, 70, 71, 81, 82, 83, 84, 85, 463, 464, 465, 24, 466, 45, 478, 479, 480, 481, 44, 482, 483, 484, 485, 486, 487, 488, 493, 494, 495, 496, 513, 514] (by decide +kernel) (by decide +kernel)) (goodIn_sub (fun _ h => List.mem_append_left _ (List.mem_append_right _ h)) (by decide +kernel))
set_option maxRecDepth 20000 in
theorem gL_law_L_doubt : GoodIn wsL_law (va_wsS RL 121 yL_doubt wsL_doubt) := goodIn_app (goodIn_of _ (by decide +kernel)) ggL_law_L_doubt
set_option maxRecDepth 20000 in
theorem ggL_law_X4_doubt : GoodIn wsL_law wsX4_doubt := goodIn_r _ [492, 56, 55, 103, 104, 5, 105, 106, 107, 108, 115, 116, 117, 118, 119, 497, 498, 499, 500, 501, 502, 503, 504, 505, 506] (by decide +kernel) (by decide +kernel)
set_option maxRecDepth 20000 in
theorem gL_law_X4_doubt : GoodIn wsL_law (wsV RL 123 RX4 yX4_doubt wsX4_doubt) := goodIn_app (goodIn_of _ (by decide +kernel)) ggL_law_X4_doubt
