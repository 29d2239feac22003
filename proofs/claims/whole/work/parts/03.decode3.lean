theorem dX4_shade_39 : decode cX4_shade 39 = .ok (.iadd, 1) := by decide +kernel
theorem dX4_shade_40 : decode cX4_shade 40 = .ok (.iload_n 2, 1) := by decide +kernel
theorem dX4_shade_41 : decode cX4_shade 41 = .ok (.iadd, 1) := by decide +kernel
theorem dX4_shade_42 : decode cX4_shade 42 = .ok (.iaload, 1) := by decide +kernel
theorem dX4_shade_43 : decode cX4_shade 43 = .ok (.goto 4, 3) := by decide +kernel
theorem dX4_shade_46 : decode cX4_shade 46 = .ok (.iconst 0, 1) := by decide +kernel
theorem dX4_shade_47 : decode cX4_shade 47 = .ok (.ireturn, 1) := by decide +kernel
set_option maxRecDepth 20000 in
theorem ggX4_setPart_X4_isTest : GoodIn wsX4_setPart wsX4_isTest := goodIn_r _ [6, 7, 8, 5, 9] (by decide +kernel) (by decide +kernel)
set_option maxRecDepth 20000 in
theorem gX4_setPart_X4_isTest : GoodIn wsX4_setPart (va_wsS RX4 44 yX4_isTest wsX4_isTest) := goodIn_app (goodIn_of _ (by decide +kernel)) ggX4_setPart_X4_isTest
set_option maxRecDepth 20000 in
theorem ggX4_setPart_X4_isBox : GoodIn wsX4_setPart wsX4_isBox := goodIn_r _ [12, 13, 14, 5, 15, 7, 8, 9] (by decide +kernel) (by decide +kernel)
set_option maxRecDepth 20000 in
theorem gX4_setPart_X4_isBox : GoodIn wsX4_setPart (va_wsS RX4 48 yX4_isBox wsX4_isBox) := goodIn_app (goodIn_of _ (by decide +kernel)) ggX4_setPart_X4_isBox
set_option maxRecDepth 20000 in
theorem ggX4_setPart_X4_goesWell : GoodIn wsX4_setPart wsX4_goesWell := goodIn_r _ [19, 20, 21, 22, 23, 24, 25, 26, 27, 28, 29, 30] (by decide +kernel) (by decide +kernel)
set_option maxRecDepth 20000 in
theorem gX4_setPart_X4_goesWell : GoodIn wsX4_setPart (wsV RX4 52 RX4 yX4_goesWell wsX4_goesWell) := goodIn_app (goodIn_of _ (by decide +kernel)) ggX4_setPart_X4_goesWell
theorem dX4_setPart_0 : decode cX4_setPart 0 = .ok (.aload_n 0, 1) := by decide +kernel
theorem dX4_setPart_1 : decode cX4_setPart 1 = .ok (.iload_n 1, 1) := by decide +kernel
theorem dX4_setPart_2 : decode cX4_setPart 2 = .ok (.invokestatic 44, 3) := by decide +kernel
theorem dX4_setPart_5 : decode cX4_setPart 5 = .ok (.ifCond .eq 19, 3) := by decide +kernel
theorem dX4_setPart_8 : decode cX4_setPart 8 = .ok (.iload_n 2, 1) := by decide +kernel
theorem dX4_setPart_9 : decode cX4_setPart 9 = .ok (.iload_n 3, 1) := by decide +kernel
theorem dX4_setPart_10 : decode cX4_setPart 10 = .ok (.iload 4, 2) := by decide +kernel
theorem dX4_setPart_12 : decode cX4_setPart 12 = .ok (.iload 5, 2) := by decide +kernel
theorem dX4_setPart_14 : decode cX4_setPart 14 = .ok (.invokestatic 48, 3) := by decide +kernel
theorem dX4_setPart_17 : decode cX4_setPart 17 = .ok (.ifCond .eq 7, 3) := by decide +kernel
theorem dX4_setPart_20 : decode cX4_setPart 20 = .ok (.iconst 0, 1) := by decide +kernel
theorem dX4_setPart_21 : decode cX4_setPart 21 = .ok (.goto 4, 3) := by decide +kernel
theorem dX4_setPart_24 : decode cX4_setPart 24 = .ok (.iconst 1, 1) := by decide +kernel
theorem dX4_setPart_25 : decode cX4_setPart 25 = .ok (.invokevirtual 52, 3) := by decide +kernel
theorem dX4_setPart_28 : decode cX4_setPart 28 = .ok (.ifCond .eq 58, 3) := by decide +kernel
theorem dX4_setPart_31 : decode cX4_setPart 31 = .ok (.aload_n 0, 1) := by decide +kernel
theorem dX4_setPart_32 : decode cX4_setPart 32 = .ok (.getfield 20, 3) := by decide +kernel
theorem dX4_setPart_35 : decode cX4_setPart 35 = .ok (.iconst 4, 1) := by decide +kernel
theorem dX4_setPart_36 : decode cX4_setPart 36 = .ok (.iload_n 1, 1) := by decide +kernel
theorem dX4_setPart_37 : decode cX4_setPart 37 = .ok (.imul, 1) := by decide +kernel
theorem dX4_setPart_38 : decode cX4_setPart 38 = .ok (.iload_n 2, 1) := by decide +kernel
theorem dX4_setPart_39 : decode cX4_setPart 39 = .ok (.iastore, 1) := by decide +kernel
theorem dX4_setPart_40 : decode cX4_setPart 40 = .ok (.aload_n 0, 1) := by decide +kernel
theorem dX4_setPart_41 : decode cX4_setPart 41 = .ok (.getfield 20, 3) := by decide +kernel
theorem dX4_setPart_44 : decode cX4_setPart 44 = .ok (.iconst 4, 1) := by decide +kernel
theorem dX4_setPart_45 : decode cX4_setPart 45 = .ok (.iload_n 1, 1) := by decide +kernel
theorem dX4_setPart_46 : decode cX4_setPart 46 = .ok (.imul, 1) := by decide +kernel
theorem dX4_setPart_47 : decode cX4_setPart 47 = .ok (.iconst 1, 1) := by decide +kernel
theorem dX4_setPart_48 : decode cX4_setPart 48 = .ok (.iadd, 1) := by decide +kernel
theorem dX4_setPart_49 : decode cX4_setPart 49 = .ok (.iload_n 3, 1) := by decide +kernel
theorem dX4_setPart_50 : decode cX4_setPart 50 = .ok (.iastore, 1) := by decide +kernel
theorem dX4_setPart_51 : decode cX4_setPart 51 = .ok (.aload_n 0, 1) := by decide +kernel
theorem dX4_setPart_52 : decode cX4_setPart 52 = .ok (.getfield 20, 3) := by decide +kernel
theorem dX4_setPart_55 : decode cX4_setPart 55 = .ok (.iconst 4, 1) := by decide +kernel
theorem dX4_setPart_56 : decode cX4_setPart 56 = .ok (.iload_n 1, 1) := by decide +kernel
theorem dX4_setPart_57 : decode cX4_setPart 57 = .ok (.imul, 1) := by decide +kernel
theorem dX4_setPart_58 : decode cX4_setPart 58 = .ok (.iconst 2, 1) := by decide +kernel
theorem dX4_setPart_59 : decode cX4_setPart 59 = .ok (.iadd, 1) := by decide +kernel
theorem dX4_setPart_60 : decode cX4_setPart 60 = .ok (.iload 4, 2) := by decide +kernel
theorem dX4_setPart_62 : decode cX4_setPart 62 = .ok (.iastore, 1) := by decide +kernel
theorem dX4_setPart_63 : decode cX4_setPart 63 = .ok (.aload_n 0, 1) := by decide +kernel
theorem dX4_setPart_64 : decode cX4_setPart 64 = .ok (.getfield 20, 3) := by decide +kernel
theorem dX4_setPart_67 : decode cX4_setPart 67 = .ok (.iconst 4, 1) := by decide +kernel
theorem dX4_setPart_68 : decode cX4_setPart 68 = .ok (.iload_n 1, 1) := by decide +kernel
theorem dX4_setPart_69 : decode cX4_setPart 69 = .ok (.imul, 1) := by decide +kernel
theorem dX4_setPart_70 : decode cX4_setPart 70 = .ok (.iconst 3, 1) := by decide +kernel
theorem dX4_setPart_71 : decode cX4_setPart 71 = .ok (.iadd, 1) := by decide +kernel
theorem dX4_setPart_72 : decode cX4_setPart 72 = .ok (.iload 5, 2) := by decide +kernel
theorem dX4_setPart_74 : decode cX4_setPart 74 = .ok (.iastore, 1) := by decide +kernel
theorem dX4_setPart_75 : decode cX4_setPart 75 = .ok (.aload_n 0, 1) := by decide +kernel
theorem dX4_setPart_76 : decode cX4_setPart 76 = .ok (.getfield 23, 3) := by decide +kernel
theorem dX4_setPart_79 : decode cX4_setPart 79 = .ok (.iconst 4, 1) := by decide +kernel
theorem dX4_setPart_80 : decode cX4_setPart 80 = .ok (.iload_n 1, 1) := by decide +kernel
theorem dX4_setPart_81 : decode cX4_setPart 81 = .ok (.imul, 1) := by decide +kernel
theorem dX4_setPart_82 : decode cX4_setPart 82 = .ok (.iconst 2, 1) := by decide +kernel
theorem dX4_setPart_83 : decode cX4_setPart 83 = .ok (.iadd, 1) := by decide +kernel
theorem dX4_setPart_84 : decode cX4_setPart 84 = .ok (.iconst 0, 1) := by decide +kernel
theorem dX4_setPart_85 : decode cX4_setPart 85 = .ok (.iastore, 1) := by decide +kernel
theorem dX4_setPart_86 : decode cX4_setPart 86 = .ok (.return_, 1) := by decide +kernel
set_option maxRecDepth 20000 in
theorem ggX4_setMask_X4_isTest : GoodIn wsX4_setMask wsX4_isTest := goodIn_r _ [6, 7, 8, 5, 9] (by decide +kernel) (by decide +kernel)
set_option maxRecDepth 20000 in
theorem gX4_setMask_X4_isTest : GoodIn wsX4_setMask (va_wsS RX4 44 yX4_isTest wsX4_isTest) := goodIn_app (goodIn_of _ (by decide +kernel)) ggX4_setMask_X4_isTest
set_option maxRecDepth 20000 in
theorem ggX4_setMask_X4_in : GoodIn wsX4_setMask wsX4_in := goodIn_r _ [9] (by decide +kernel) (by decide +kernel)
set_option maxRecDepth 20000 in
theorem gX4_setMask_X4_in : GoodIn wsX4_setMask (va_wsS RX4 36 yX4_in wsX4_in) := goodIn_app (goodIn_of _ (by decide +kernel)) ggX4_setMask_X4_in
set_option maxRecDepth 20000 in
theorem ggX4_setMask_X4_goesWell : GoodIn wsX4_setMask wsX4_goesWell := goodIn_r _ [13, 14, 15, 16, 17, 18, 19, 20, 21, 22, 23, 24] (by decide +kernel) (by decide +kernel)
set_option maxRecDepth 20000 in
theorem gX4_setMask_X4_goesWell : GoodIn wsX4_setMask (wsV RX4 52 RX4 yX4_goesWell wsX4_goesWell) := goodIn_app (goodIn_of _ (by decide +kernel)) ggX4_setMask_X4_goesWell
theorem dX4_setMask_0 : decode cX4_setMask 0 = .ok (.iload_n 1, 1) := by decide +kernel
theorem dX4_setMask_1 : decode cX4_setMask 1 = .ok (.invokestatic 44, 3) := by decide +kernel
theorem dX4_setMask_4 : decode cX4_setMask 4 = .ok (.ifCond .eq 51, 3) := by decide +kernel
theorem dX4_setMask_7 : decode cX4_setMask 7 = .ok (.iload_n 2, 1) := by decide +kernel
theorem dX4_setMask_8 : decode cX4_setMask 8 = .ok (.bipush (-8), 2) := by decide +kernel
theorem dX4_setMask_10 : decode cX4_setMask 10 = .ok (.bipush 8, 2) := by decide +kernel
theorem dX4_setMask_12 : decode cX4_setMask 12 = .ok (.invokestatic 36, 3) := by decide +kernel
theorem dX4_setMask_15 : decode cX4_setMask 15 = .ok (.ifCond .eq 40, 3) := by decide +kernel
theorem dX4_setMask_18 : decode cX4_setMask 18 = .ok (.iload_n 3, 1) := by decide +kernel
theorem dX4_setMask_19 : decode cX4_setMask 19 = .ok (.bipush (-8), 2) := by decide +kernel
theorem dX4_setMask_21 : decode cX4_setMask 21 = .ok (.bipush 8, 2) := by decide +kernel
theorem dX4_setMask_23 : decode cX4_setMask 23 = .ok (.invokestatic 36, 3) := by decide +kernel
theorem dX4_setMask_26 : decode cX4_setMask 26 = .ok (.ifCond .eq 29, 3) := by decide +kernel
theorem dX4_setMask_29 : decode cX4_setMask 29 = .ok (.iload 4, 2) := by decide +kernel
theorem dX4_setMask_31 : decode cX4_setMask 31 = .ok (.iconst 1, 1) := by decide +kernel
theorem dX4_setMask_32 : decode cX4_setMask 32 = .ok (.bipush 8, 2) := by decide +kernel
theorem dX4_setMask_34 : decode cX4_setMask 34 = .ok (.invokestatic 36, 3) := by decide +kernel
theorem dX4_setMask_37 : decode cX4_setMask 37 = .ok (.ifCond .eq 18, 3) := by decide +kernel
theorem dX4_setMask_40 : decode cX4_setMask 40 = .ok (.iload 5, 2) := by decide +kernel
theorem dX4_setMask_42 : decode cX4_setMask 42 = .ok (.iconst 1, 1) := by decide +kernel
theorem dX4_setMask_43 : decode cX4_setMask 43 = .ok (.bipush 8, 2) := by decide +kernel
theorem dX4_setMask_45 : decode cX4_setMask 45 = .ok (.invokestatic 36, 3) := by decide +kernel
theorem dX4_setMask_48 : decode cX4_setMask 48 = .ok (.ifCond .eq 7, 3) := by decide +kernel
theorem dX4_setMask_51 : decode cX4_setMask 51 = .ok (.iconst 1, 1) := by decide +kernel
theorem dX4_setMask_52 : decode cX4_setMask 52 = .ok (.goto 4, 3) := by decide +kernel
theorem dX4_setMask_55 : decode cX4_setMask 55 = .ok (.iconst 0, 1) := by decide +kernel
theorem dX4_setMask_56 : decode cX4_setMask 56 = .ok (.istore 6, 2) := by decide +kernel
theorem dX4_setMask_58 : decode cX4_setMask 58 = .ok (.aload_n 0, 1) := by decide +kernel
theorem dX4_setMask_59 : decode cX4_setMask 59 = .ok (.iload 6, 2) := by decide +kernel
theorem dX4_setMask_61 : decode cX4_setMask 61 = .ok (.ifCond .ne 7, 3) := by decide +kernel
theorem dX4_setMask_64 : decode cX4_setMask 64 = .ok (.iconst 1, 1) := by decide +kernel
theorem dX4_setMask_65 : decode cX4_setMask 65 = .ok (.goto 21, 3) := by decide +kernel
theorem dX4_setMask_68 : decode cX4_setMask 68 = .ok (.aload_n 0, 1) := by decide +kernel
theorem dX4_setMask_69 : decode cX4_setMask 69 = .ok (.getfield 20, 3) := by decide +kernel
theorem dX4_setMask_72 : decode cX4_setMask 72 = .ok (.iconst 4, 1) := by decide +kernel
theorem dX4_setMask_73 : decode cX4_setMask 73 = .ok (.iload_n 1, 1) := by decide +kernel
theorem dX4_setMask_74 : decode cX4_setMask 74 = .ok (.imul, 1) := by decide +kernel
theorem dX4_setMask_75 : decode cX4_setMask 75 = .ok (.iconst 2, 1) := by decide +kernel
theorem dX4_setMask_76 : decode cX4_setMask 76 = .ok (.iadd, 1) := by decide +kernel
theorem dX4_setMask_77 : decode cX4_setMask 77 = .ok (.iaload, 1) := by decide +kernel
theorem dX4_setMask_78 : decode cX4_setMask 78 = .ok (.ifCond .ne 7, 3) := by decide +kernel
theorem dX4_setMask_81 : decode cX4_setMask 81 = .ok (.iconst 2, 1) := by decide +kernel
theorem dX4_setMask_82 : decode cX4_setMask 82 = .ok (.goto 4, 3) := by decide +kernel
theorem dX4_setMask_85 : decode cX4_setMask 85 = .ok (.iconst 0, 1) := by decide +kernel
theorem dX4_setMask_86 : decode cX4_setMask 86 = .ok (.invokevirtual 52, 3) := by decide +kernel
theorem dX4_setMask_89 : decode cX4_setMask 89 = .ok (.ifCond .eq 47, 3) := by decide +kernel
theorem dX4_setMask_92 : decode cX4_setMask 92 = .ok (.aload_n 0, 1) := by decide +kernel
theorem dX4_setMask_93 : decode cX4_setMask 93 = .ok (.getfield 23, 3) := by decide +kernel
theorem dX4_setMask_96 : decode cX4_setMask 96 = .ok (.iconst 4, 1) := by decide +kernel
theorem dX4_setMask_97 : decode cX4_setMask 97 = .ok (.iload_n 1, 1) := by decide +kernel
theorem dX4_setMask_98 : decode cX4_setMask 98 = .ok (.imul, 1) := by decide +kernel
theorem dX4_setMask_99 : decode cX4_setMask 99 = .ok (.iload_n 2, 1) := by decide +kernel
theorem dX4_setMask_100 : decode cX4_setMask 100 = .ok (.iastore, 1) := by decide +kernel
theorem dX4_setMask_101 : decode cX4_setMask 101 = .ok (.aload_n 0, 1) := by decide +kernel
theorem dX4_setMask_102 : decode cX4_setMask 102 = .ok (.getfield 23, 3) := by decide +kernel
theorem dX4_setMask_105 : decode cX4_setMask 105 = .ok (.iconst 4, 1) := by decide +kernel
theorem dX4_setMask_106 : decode cX4_setMask 106 = .ok (.iload_n 1, 1) := by decide +kernel
theorem dX4_setMask_107 : decode cX4_setMask 107 = .ok (.imul, 1) := by decide +kernel
theorem dX4_setMask_108 : decode cX4_setMask 108 = .ok (.iconst 1, 1) := by decide +kernel
theorem dX4_setMask_109 : decode cX4_setMask 109 = .ok (.iadd, 1) := by decide +kernel
theorem dX4_setMask_110 : decode cX4_setMask 110 = .ok (.iload_n 3, 1) := by decide +kernel
theorem dX4_setMask_111 : decode cX4_setMask 111 = .ok (.iastore, 1) := by decide +kernel
theorem dX4_setMask_112 : decode cX4_setMask 112 = .ok (.aload_n 0, 1) := by decide +kernel
theorem dX4_setMask_113 : decode cX4_setMask 113 = .ok (.getfield 23, 3) := by decide +kernel
theorem dX4_setMask_116 : decode cX4_setMask 116 = .ok (.iconst 4, 1) := by decide +kernel
theorem dX4_setMask_117 : decode cX4_setMask 117 = .ok (.iload_n 1, 1) := by decide +kernel
theorem dX4_setMask_118 : decode cX4_setMask 118 = .ok (.imul, 1) := by decide +kernel
theorem dX4_setMask_119 : decode cX4_setMask 119 = .ok (.iconst 2, 1) := by decide +kernel
theorem dX4_setMask_120 : decode cX4_setMask 120 = .ok (.iadd, 1) := by decide +kernel
theorem dX4_setMask_121 : decode cX4_setMask 121 = .ok (.iload 4, 2) := by decide +kernel
theorem dX4_setMask_123 : decode cX4_setMask 123 = .ok (.iastore, 1) := by decide +kernel
theorem dX4_setMask_124 : decode cX4_setMask 124 = .ok (.aload_n 0, 1) := by decide +kernel
theorem dX4_setMask_125 : decode cX4_setMask 125 = .ok (.getfield 23, 3) := by decide +kernel
theorem dX4_setMask_128 : decode cX4_setMask 128 = .ok (.iconst 4, 1) := by decide +kernel
theorem dX4_setMask_129 : decode cX4_setMask 129 = .ok (.iload_n 1, 1) := by decide +kernel
theorem dX4_setMask_130 : decode cX4_setMask 130 = .ok (.imul, 1) := by decide +kernel
theorem dX4_setMask_131 : decode cX4_setMask 131 = .ok (.iconst 3, 1) := by decide +kernel
theorem dX4_setMask_132 : decode cX4_setMask 132 = .ok (.iadd, 1) := by decide +kernel
theorem dX4_setMask_133 : decode cX4_setMask 133 = .ok (.iload 5, 2) := by decide +kernel
theorem dX4_setMask_135 : decode cX4_setMask 135 = .ok (.iastore, 1) := by decide +kernel
theorem dX4_setMask_136 : decode cX4_setMask 136 = .ok (.return_, 1) := by decide +kernel
theorem dX4_placeOf_0 : decode cX4_placeOf 0 = .ok (.iconst 5, 1) := by decide +kernel
theorem dX4_placeOf_1 : decode cX4_placeOf 1 = .ok (.iload_n 0, 1) := by decide +kernel
theorem dX4_placeOf_2 : decode cX4_placeOf 2 = .ok (.imul, 1) := by decide +kernel
theorem dX4_placeOf_3 : decode cX4_placeOf 3 = .ok (.iload_n 1, 1) := by decide +kernel
theorem dX4_placeOf_4 : decode cX4_placeOf 4 = .ok (.iadd, 1) := by decide +kernel
theorem dX4_placeOf_5 : decode cX4_placeOf 5 = .ok (.ireturn, 1) := by decide +kernel
theorem dX4_baseOf_0 : decode cX4_baseOf 0 = .ok (.iconst 5, 1) := by decide +kernel
theorem dX4_baseOf_1 : decode cX4_baseOf 1 = .ok (.iconst 4, 1) := by decide +kernel
theorem dX4_baseOf_2 : decode cX4_baseOf 2 = .ok (.iload_n 0, 1) := by decide +kernel
theorem dX4_baseOf_3 : decode cX4_baseOf 3 = .ok (.iadd, 1) := by decide +kernel
theorem dX4_baseOf_4 : decode cX4_baseOf 4 = .ok (.iconst 1, 1) := by decide +kernel
theorem dX4_baseOf_5 : decode cX4_baseOf 5 = .ok (.isub, 1) := by decide +kernel
theorem dX4_baseOf_6 : decode cX4_baseOf 6 = .ok (.imul, 1) := by decide +kernel
theorem dX4_baseOf_7 : decode cX4_baseOf 7 = .ok (.iload_n 1, 1) := by decide +kernel
theorem dX4_baseOf_8 : decode cX4_baseOf 8 = .ok (.iadd, 1) := by decide +kernel
theorem dX4_baseOf_9 : decode cX4_baseOf 9 = .ok (.ireturn, 1) := by decide +kernel
theorem dX4_copy_0 : decode cX4_copy 0 = .ok (.aload_n 0, 1) := by decide +kernel
theorem dX4_copy_1 : decode cX4_copy 1 = .ok (.getfield 16, 3) := by decide +kernel
theorem dX4_copy_4 : decode cX4_copy 4 = .ok (.iload_n 2, 1) := by decide +kernel
theorem dX4_copy_5 : decode cX4_copy 5 = .ok (.aload_n 0, 1) := by decide +kernel
theorem dX4_copy_6 : decode cX4_copy 6 = .ok (.getfield 16, 3) := by decide +kernel
theorem dX4_copy_9 : decode cX4_copy 9 = .ok (.iload_n 1, 1) := by decide +kernel
theorem dX4_copy_10 : decode cX4_copy 10 = .ok (.baload, 1) := by decide +kernel
theorem dX4_copy_11 : decode cX4_copy 11 = .ok (.bastore, 1) := by decide +kernel
theorem dX4_copy_12 : decode cX4_copy 12 = .ok (.iconst 0, 1) := by decide +kernel
theorem dX4_copy_13 : decode cX4_copy 13 = .ok (.istore_n 3, 1) := by decide +kernel
theorem dX4_copy_14 : decode cX4_copy 14 = .ok (.iload_n 3, 1) := by decide +kernel
theorem dX4_copy_15 : decode cX4_copy 15 = .ok (.bipush 64, 2) := by decide +kernel
theorem dX4_copy_17 : decode cX4_copy 17 = .ok (.if_icmp .ge 31, 3) := by decide +kernel
theorem dX4_copy_20 : decode cX4_copy 20 = .ok (.aload_n 0, 1) := by decide +kernel
theorem dX4_copy_21 : decode cX4_copy 21 = .ok (.getfield 13, 3) := by decide +kernel
theorem dX4_copy_24 : decode cX4_copy 24 = .ok (.bipush 64, 2) := by decide +kernel
theorem dX4_copy_26 : decode cX4_copy 26 = .ok (.iload_n 2, 1) := by decide +kernel
theorem dX4_copy_27 : decode cX4_copy 27 = .ok (.imul, 1) := by decide +kernel
theorem dX4_copy_28 : decode cX4_copy 28 = .ok (.iload_n 3, 1) := by decide +kernel
theorem dX4_copy_29 : decode cX4_copy 29 = .ok (.iadd, 1) := by decide +kernel
theorem dX4_copy_30 : decode cX4_copy 30 = .ok (.aload_n 0, 1) := by decide +kernel
theorem dX4_copy_31 : decode cX4_copy 31 = .ok (.getfield 13, 3) := by decide +kernel
theorem dX4_copy_34 : decode cX4_copy 34 = .ok (.bipush 64, 2) := by decide +kernel
theorem dX4_copy_36 : decode cX4_copy 36 = .ok (.iload_n 1, 1) := by decide +kernel
theorem dX4_copy_37 : decode cX4_copy 37 = .ok (.imul, 1) := by decide +kernel
theorem dX4_copy_38 : decode cX4_copy 38 = .ok (.iload_n 3, 1) := by decide +kernel
theorem dX4_copy_39 : decode cX4_copy 39 = .ok (.iadd, 1) := by decide +kernel
theorem dX4_copy_40 : decode cX4_copy 40 = .ok (.iaload, 1) := by decide +kernel
theorem dX4_copy_41 : decode cX4_copy 41 = .ok (.iastore, 1) := by decide +kernel
theorem dX4_copy_42 : decode cX4_copy 42 = .ok (.iinc 3 1, 3) := by decide +kernel
theorem dX4_copy_45 : decode cX4_copy 45 = .ok (.goto (-31), 3) := by decide +kernel
theorem dX4_copy_48 : decode cX4_copy 48 = .ok (.return_, 1) := by decide +kernel
theorem dX4_areSame_0 : decode cX4_areSame 0 = .ok (.aload_n 0, 1) := by decide +kernel
theorem dX4_areSame_1 : decode cX4_areSame 1 = .ok (.getfield 16, 3) := by decide +kernel
theorem dX4_areSame_4 : decode cX4_areSame 4 = .ok (.iload_n 1, 1) := by decide +kernel
theorem dX4_areSame_5 : decode cX4_areSame 5 = .ok (.baload, 1) := by decide +kernel
theorem dX4_areSame_6 : decode cX4_areSame 6 = .ok (.aload_n 0, 1) := by decide +kernel
theorem dX4_areSame_7 : decode cX4_areSame 7 = .ok (.getfield 16, 3) := by decide +kernel
theorem dX4_areSame_10 : decode cX4_areSame 10 = .ok (.iload_n 2, 1) := by decide +kernel
theorem dX4_areSame_11 : decode cX4_areSame 11 = .ok (.baload, 1) := by decide +kernel
theorem dX4_areSame_12 : decode cX4_areSame 12 = .ok (.if_icmp .ne 7, 3) := by decide +kernel
theorem dX4_areSame_15 : decode cX4_areSame 15 = .ok (.iconst 1, 1) := by decide +kernel
theorem dX4_areSame_16 : decode cX4_areSame 16 = .ok (.goto 4, 3) := by decide +kernel
theorem dX4_areSame_19 : decode cX4_areSame 19 = .ok (.iconst 0, 1) := by decide +kernel
theorem dX4_areSame_20 : decode cX4_areSame 20 = .ok (.istore_n 3, 1) := by decide +kernel
theorem dX4_areSame_21 : decode cX4_areSame 21 = .ok (.iconst 0, 1) := by decide +kernel
theorem dX4_areSame_22 : decode cX4_areSame 22 = .ok (.istore 4, 2) := by decide +kernel
theorem dX4_areSame_24 : decode cX4_areSame 24 = .ok (.iload 4, 2) := by decide +kernel
theorem dX4_areSame_26 : decode cX4_areSame 26 = .ok (.bipush 64, 2) := by decide +kernel
theorem dX4_areSame_28 : decode cX4_areSame 28 = .ok (.if_icmp .ge 55, 3) := by decide +kernel
theorem dX4_areSame_31 : decode cX4_areSame 31 = .ok (.aload_n 0, 1) := by decide +kernel
theorem dX4_areSame_32 : decode cX4_areSame 32 = .ok (.getfield 16, 3) := by decide +kernel
theorem dX4_areSame_35 : decode cX4_areSame 35 = .ok (.iload_n 1, 1) := by decide +kernel
theorem dX4_areSame_36 : decode cX4_areSame 36 = .ok (.baload, 1) := by decide +kernel
theorem dX4_areSame_37 : decode cX4_areSame 37 = .ok (.ifCond .eq 46, 3) := by decide +kernel
theorem dX4_areSame_40 : decode cX4_areSame 40 = .ok (.iload_n 3, 1) := by decide +kernel
theorem dX4_areSame_41 : decode cX4_areSame 41 = .ok (.ifCond .eq 34, 3) := by decide +kernel
theorem dX4_areSame_44 : decode cX4_areSame 44 = .ok (.aload_n 0, 1) := by decide +kernel
theorem dX4_areSame_45 : decode cX4_areSame 45 = .ok (.getfield 13, 3) := by decide +kernel
theorem dX4_areSame_48 : decode cX4_areSame 48 = .ok (.bipush 64, 2) := by decide +kernel
theorem dX4_areSame_50 : decode cX4_areSame 50 = .ok (.iload_n 1, 1) := by decide +kernel
theorem dX4_areSame_51 : decode cX4_areSame 51 = .ok (.imul, 1) := by decide +kernel
theorem dX4_areSame_52 : decode cX4_areSame 52 = .ok (.iload 4, 2) := by decide +kernel
theorem dX4_areSame_54 : decode cX4_areSame 54 = .ok (.iadd, 1) := by decide +kernel
theorem dX4_areSame_55 : decode cX4_areSame 55 = .ok (.iaload, 1) := by decide +kernel
theorem dX4_areSame_56 : decode cX4_areSame 56 = .ok (.aload_n 0, 1) := by decide +kernel
theorem dX4_areSame_57 : decode cX4_areSame 57 = .ok (.getfield 13, 3) := by decide +kernel
theorem dX4_areSame_60 : decode cX4_areSame 60 = .ok (.bipush 64, 2) := by decide +kernel
theorem dX4_areSame_62 : decode cX4_areSame 62 = .ok (.iload_n 2, 1) := by decide +kernel
theorem dX4_areSame_63 : decode cX4_areSame 63 = .ok (.imul, 1) := by decide +kernel
theorem dX4_areSame_64 : decode cX4_areSame 64 = .ok (.iload 4, 2) := by decide +kernel
theorem dX4_areSame_66 : decode cX4_areSame 66 = .ok (.iadd, 1) := by decide +kernel
theorem dX4_areSame_67 : decode cX4_areSame 67 = .ok (.iaload, 1) := by decide +kernel
theorem dX4_areSame_68 : decode cX4_areSame 68 = .ok (.if_icmp .ne 7, 3) := by decide +kernel
theorem dX4_areSame_71 : decode cX4_areSame 71 = .ok (.iconst 1, 1) := by decide +kernel
theorem dX4_areSame_72 : decode cX4_areSame 72 = .ok (.goto 4, 3) := by decide +kernel
theorem dX4_areSame_75 : decode cX4_areSame 75 = .ok (.iconst 0, 1) := by decide +kernel
theorem dX4_areSame_76 : decode cX4_areSame 76 = .ok (.istore_n 3, 1) := by decide +kernel
theorem dX4_areSame_77 : decode cX4_areSame 77 = .ok (.iinc 4 1, 3) := by decide +kernel
theorem dX4_areSame_80 : decode cX4_areSame 80 = .ok (.goto (-56), 3) := by decide +kernel
theorem dX4_areSame_83 : decode cX4_areSame 83 = .ok (.iload_n 3, 1) := by decide +kernel
theorem dX4_areSame_84 : decode cX4_areSame 84 = .ok (.ireturn, 1) := by decide +kernel
set_option maxRecDepth 20000 in
theorem ggX4_approve_X4_in : GoodIn wsX4_approve wsX4_in := goodIn_r _ [7] (by decide +kernel) (by decide +kernel)
set_option maxRecDepth 20000 in
theorem gX4_approve_X4_in : GoodIn wsX4_approve (va_wsS RX4 36 yX4_in wsX4_in) := goodIn_app (goodIn_of _ (by decide +kernel)) ggX4_approve_X4_in
set_option maxRecDepth 20000 in
theorem ggX4_approve_X4_isTest : GoodIn wsX4_approve wsX4_isTest := goodIn_r _ [10, 4, 5, 6, 7] (by decide +kernel) (by decide +kernel)
set_option maxRecDepth 20000 in
theorem gX4_approve_X4_isTest : GoodIn wsX4_approve (va_wsS RX4 44 yX4_isTest wsX4_isTest) := goodIn_app (goodIn_of _ (by decide +kernel)) ggX4_approve_X4_isTest
set_option maxRecDepth 20000 in
theorem ggX4_approve_X4_goesWell : GoodIn wsX4_approve wsX4_goesWell := goodIn_r _ [14, 15, 19, 20, 21, 22, 23, 24, 25, 26, 27, 28] (by decide +kernel) (by decide +kernel)
set_option maxRecDepth 20000 in
theorem gX4_approve_X4_goesWell : GoodIn wsX4_approve (wsV RX4 52 RX4 yX4_goesWell wsX4_goesWell) := goodIn_app (goodIn_of _ (by decide +kernel)) ggX4_approve_X4_goesWell
set_option maxRecDepth 20000 in
theorem ggX4_approve_X4_placeOf : GoodIn wsX4_approve wsX4_placeOf := goodIn_r _ [18] (by decide +kernel) (by decide +kernel)
set_option maxRecDepth 20000 in
theorem gX4_approve_X4_placeOf : GoodIn wsX4_approve (va_wsS RX4 55 yX4_placeOf wsX4_placeOf) := goodIn_app (goodIn_of _ (by decide +kernel)) ggX4_approve_X4_placeOf
theorem dX4_approve_0 : decode cX4_approve 0 = .ok (.aload_n 0, 1) := by decide +kernel
theorem dX4_approve_1 : decode cX4_approve 1 = .ok (.iload_n 1, 1) := by decide +kernel
theorem dX4_approve_2 : decode cX4_approve 2 = .ok (.iconst 0, 1) := by decide +kernel
theorem dX4_approve_3 : decode cX4_approve 3 = .ok (.iconst 3, 1) := by decide +kernel
theorem dX4_approve_4 : decode cX4_approve 4 = .ok (.invokestatic 36, 3) := by decide +kernel
theorem dX4_approve_7 : decode cX4_approve 7 = .ok (.ifCond .eq 14, 3) := by decide +kernel
theorem dX4_approve_10 : decode cX4_approve 10 = .ok (.iload_n 2, 1) := by decide +kernel
theorem dX4_approve_11 : decode cX4_approve 11 = .ok (.invokestatic 44, 3) := by decide +kernel
theorem dX4_approve_14 : decode cX4_approve 14 = .ok (.ifCond .eq 7, 3) := by decide +kernel
theorem dX4_approve_17 : decode cX4_approve 17 = .ok (.iconst 0, 1) := by decide +kernel
theorem dX4_approve_18 : decode cX4_approve 18 = .ok (.goto 4, 3) := by decide +kernel
theorem dX4_approve_21 : decode cX4_approve 21 = .ok (.iconst 1, 1) := by decide +kernel
theorem dX4_approve_22 : decode cX4_approve 22 = .ok (.invokevirtual 52, 3) := by decide +kernel
theorem dX4_approve_25 : decode cX4_approve 25 = .ok (.ifCond .ne 5, 3) := by decide +kernel
theorem dX4_approve_28 : decode cX4_approve 28 = .ok (.iconst 0, 1) := by decide +kernel
theorem dX4_approve_29 : decode cX4_approve 29 = .ok (.ireturn, 1) := by decide +kernel
theorem dX4_approve_30 : decode cX4_approve 30 = .ok (.iload_n 1, 1) := by decide +kernel
theorem dX4_approve_31 : decode cX4_approve 31 = .ok (.iload_n 2, 1) := by decide +kernel
theorem dX4_approve_32 : decode cX4_approve 32 = .ok (.invokestatic 55, 3) := by decide +kernel
theorem dX4_approve_35 : decode cX4_approve 35 = .ok (.istore_n 3, 1) := by decide +kernel
theorem dX4_approve_36 : decode cX4_approve 36 = .ok (.aload_n 0, 1) := by decide +kernel
theorem dX4_approve_37 : decode cX4_approve 37 = .ok (.getfield 16, 3) := by decide +kernel
theorem dX4_approve_40 : decode cX4_approve 40 = .ok (.iload_n 3, 1) := by decide +kernel
theorem dX4_approve_41 : decode cX4_approve 41 = .ok (.baload, 1) := by decide +kernel
theorem dX4_approve_42 : decode cX4_approve 42 = .ok (.istore 4, 2) := by decide +kernel
theorem dX4_approve_44 : decode cX4_approve 44 = .ok (.aload_n 0, 1) := by decide +kernel
theorem dX4_approve_45 : decode cX4_approve 45 = .ok (.getfield 16, 3) := by decide +kernel
theorem dX4_approve_48 : decode cX4_approve 48 = .ok (.iload_n 3, 1) := by decide +kernel
theorem dX4_approve_49 : decode cX4_approve 49 = .ok (.iconst 1, 1) := by decide +kernel
theorem dX4_approve_50 : decode cX4_approve 50 = .ok (.bastore, 1) := by decide +kernel
theorem dX4_approve_51 : decode cX4_approve 51 = .ok (.iconst 0, 1) := by decide +kernel
theorem dX4_approve_52 : decode cX4_approve 52 = .ok (.istore 5, 2) := by decide +kernel
theorem dX4_approve_54 : decode cX4_approve 54 = .ok (.iload 5, 2) := by decide +kernel
theorem dX4_approve_56 : decode cX4_approve 56 = .ok (.bipush 64, 2) := by decide +kernel
theorem dX4_approve_58 : decode cX4_approve 58 = .ok (.if_icmp .ge 33, 3) := by decide +kernel
theorem dX4_approve_61 : decode cX4_approve 61 = .ok (.aload_n 0, 1) := by decide +kernel
theorem dX4_approve_62 : decode cX4_approve 62 = .ok (.getfield 13, 3) := by decide +kernel
theorem dX4_approve_65 : decode cX4_approve 65 = .ok (.bipush 64, 2) := by decide +kernel
theorem dX4_approve_67 : decode cX4_approve 67 = .ok (.iload_n 3, 1) := by decide +kernel
theorem dX4_approve_68 : decode cX4_approve 68 = .ok (.imul, 1) := by decide +kernel
theorem dX4_approve_69 : decode cX4_approve 69 = .ok (.iload 5, 2) := by decide +kernel
theorem dX4_approve_71 : decode cX4_approve 71 = .ok (.iadd, 1) := by decide +kernel
theorem dX4_approve_72 : decode cX4_approve 72 = .ok (.aload_n 0, 1) := by decide +kernel
theorem dX4_approve_73 : decode cX4_approve 73 = .ok (.getfield 7, 3) := by decide +kernel
theorem dX4_approve_76 : decode cX4_approve 76 = .ok (.bipush 64, 2) := by decide +kernel
theorem dX4_approve_78 : decode cX4_approve 78 = .ok (.iload_n 2, 1) := by decide +kernel
theorem dX4_approve_79 : decode cX4_approve 79 = .ok (.imul, 1) := by decide +kernel
theorem dX4_approve_80 : decode cX4_approve 80 = .ok (.iload 5, 2) := by decide +kernel
theorem dX4_approve_82 : decode cX4_approve 82 = .ok (.iadd, 1) := by decide +kernel
theorem dX4_approve_83 : decode cX4_approve 83 = .ok (.iaload, 1) := by decide +kernel
theorem dX4_approve_84 : decode cX4_approve 84 = .ok (.iastore, 1) := by decide +kernel
theorem dX4_approve_85 : decode cX4_approve 85 = .ok (.iinc 5 1, 3) := by decide +kernel
theorem dX4_approve_88 : decode cX4_approve 88 = .ok (.goto (-34), 3) := by decide +kernel
theorem dX4_approve_91 : decode cX4_approve 91 = .ok (.iload 4, 2) := by decide +kernel
theorem dX4_approve_93 : decode cX4_approve 93 = .ok (.ireturn, 1) := by decide +kernel
set_option maxRecDepth 20000 in
theorem ggX4_begin_X4_in : GoodIn wsX4_begin wsX4_in := goodIn_r _ [5] (by decide +kernel) (by decide +kernel)
set_option maxRecDepth 20000 in
theorem gX4_begin_X4_in : GoodIn wsX4_begin (va_wsS RX4 36 yX4_in wsX4_in) := goodIn_app (goodIn_of _ (by decide +kernel)) ggX4_begin_X4_in
set_option maxRecDepth 20000 in
theorem ggX4_begin_X4_goesWell : GoodIn wsX4_begin wsX4_goesWell := goodIn_r _ [9, 10, 22, 23, 24, 25, 26, 27, 28, 29, 30, 31] (by decide +kernel) (by decide +kernel)
set_option maxRecDepth 20000 in
theorem gX4_begin_X4_goesWell : GoodIn wsX4_begin (wsV RX4 52 RX4 yX4_goesWell wsX4_goesWell) := goodIn_app (goodIn_of _ (by decide +kernel)) ggX4_begin_X4_goesWell
set_option maxRecDepth 20000 in
theorem ggX4_begin_X4_placeOf : GoodIn wsX4_begin wsX4_placeOf := goodIn_r _ [13] (by decide +kernel) (by decide +kernel)
set_option maxRecDepth 20000 in
theorem gX4_begin_X4_placeOf : GoodIn wsX4_begin (va_wsS RX4 55 yX4_placeOf wsX4_placeOf) := goodIn_app (goodIn_of _ (by decide +kernel)) ggX4_begin_X4_placeOf
set_option maxRecDepth 20000 in
theorem ggX4_begin_X4_copy : GoodIn wsX4_begin wsX4_copy := goodIn_r _ [17, 1, 18, 22, 23, 24, 25, 26, 27, 28, 29, 30, 31] (by decide +kernel) (by decide +kernel)
set_option maxRecDepth 20000 in
theorem gX4_begin_X4_copy : GoodIn wsX4_begin (wsV RX4 59 RX4 yX4_copy wsX4_copy) := goodIn_app (goodIn_of _ (by decide +kernel)) ggX4_begin_X4_copy
set_option maxRecDepth 20000 in
theorem ggX4_begin_X4_baseOf : GoodIn wsX4_begin wsX4_baseOf := goodIn_r _ [21] (by decide +kernel) (by decide +kernel)
set_option maxRecDepth 20000 in
theorem gX4_begin_X4_baseOf : GoodIn wsX4_begin (va_wsS RX4 63 yX4_baseOf wsX4_baseOf) := goodIn_app (goodIn_of _ (by decide +kernel)) ggX4_begin_X4_baseOf
theorem dX4_begin_0 : decode cX4_begin 0 = .ok (.aload_n 0, 1) := by decide +kernel
theorem dX4_begin_1 : decode cX4_begin 1 = .ok (.iload_n 1, 1) := by decide +kernel
theorem dX4_begin_2 : decode cX4_begin 2 = .ok (.iconst 1, 1) := by decide +kernel
theorem dX4_begin_3 : decode cX4_begin 3 = .ok (.iconst 3, 1) := by decide +kernel
theorem dX4_begin_4 : decode cX4_begin 4 = .ok (.invokestatic 36, 3) := by decide +kernel
theorem dX4_begin_7 : decode cX4_begin 7 = .ok (.ifCond .eq 7, 3) := by decide +kernel
theorem dX4_begin_10 : decode cX4_begin 10 = .ok (.iconst 0, 1) := by decide +kernel
theorem dX4_begin_11 : decode cX4_begin 11 = .ok (.goto 4, 3) := by decide +kernel
theorem dX4_begin_14 : decode cX4_begin 14 = .ok (.iconst 1, 1) := by decide +kernel
theorem dX4_begin_15 : decode cX4_begin 15 = .ok (.invokevirtual 52, 3) := by decide +kernel
theorem dX4_begin_18 : decode cX4_begin 18 = .ok (.ifCond .ne 5, 3) := by decide +kernel
theorem dX4_begin_21 : decode cX4_begin 21 = .ok (.iconst 0, 1) := by decide +kernel
theorem dX4_begin_22 : decode cX4_begin 22 = .ok (.ireturn, 1) := by decide +kernel
theorem dX4_begin_23 : decode cX4_begin 23 = .ok (.iconst 0, 1) := by decide +kernel
theorem dX4_begin_24 : decode cX4_begin 24 = .ok (.istore_n 2, 1) := by decide +kernel
theorem dX4_begin_25 : decode cX4_begin 25 = .ok (.iconst 0, 1) := by decide +kernel
theorem dX4_begin_26 : decode cX4_begin 26 = .ok (.istore_n 3, 1) := by decide +kernel
theorem dX4_begin_27 : decode cX4_begin 27 = .ok (.iload_n 3, 1) := by decide +kernel
theorem dX4_begin_28 : decode cX4_begin 28 = .ok (.iconst 5, 1) := by decide +kernel
theorem dX4_begin_29 : decode cX4_begin 29 = .ok (.if_icmp .ge 58, 3) := by decide +kernel
theorem dX4_begin_32 : decode cX4_begin 32 = .ok (.aload_n 0, 1) := by decide +kernel
theorem dX4_begin_33 : decode cX4_begin 33 = .ok (.iconst 0, 1) := by decide +kernel
theorem dX4_begin_34 : decode cX4_begin 34 = .ok (.iload_n 3, 1) := by decide +kernel
theorem dX4_begin_35 : decode cX4_begin 35 = .ok (.invokestatic 55, 3) := by decide +kernel
theorem dX4_begin_38 : decode cX4_begin 38 = .ok (.iload_n 1, 1) := by decide +kernel
theorem dX4_begin_39 : decode cX4_begin 39 = .ok (.iload_n 3, 1) := by decide +kernel
theorem dX4_begin_40 : decode cX4_begin 40 = .ok (.invokestatic 55, 3) := by decide +kernel
theorem dX4_begin_43 : decode cX4_begin 43 = .ok (.invokevirtual 59, 3) := by decide +kernel
theorem dX4_begin_46 : decode cX4_begin 46 = .ok (.aload_n 0, 1) := by decide +kernel
theorem dX4_begin_47 : decode cX4_begin 47 = .ok (.iconst 0, 1) := by decide +kernel
theorem dX4_begin_48 : decode cX4_begin 48 = .ok (.iload_n 3, 1) := by decide +kernel
theorem dX4_begin_49 : decode cX4_begin 49 = .ok (.invokestatic 55, 3) := by decide +kernel
theorem dX4_begin_52 : decode cX4_begin 52 = .ok (.iload_n 1, 1) := by decide +kernel
theorem dX4_begin_53 : decode cX4_begin 53 = .ok (.iload_n 3, 1) := by decide +kernel
theorem dX4_begin_54 : decode cX4_begin 54 = .ok (.invokestatic 63, 3) := by decide +kernel
theorem dX4_begin_57 : decode cX4_begin 57 = .ok (.invokevirtual 59, 3) := by decide +kernel
theorem dX4_begin_60 : decode cX4_begin 60 = .ok (.iload_n 2, 1) := by decide +kernel
theorem dX4_begin_61 : decode cX4_begin 61 = .ok (.aload_n 0, 1) := by decide +kernel
theorem dX4_begin_62 : decode cX4_begin 62 = .ok (.getfield 16, 3) := by decide +kernel
theorem dX4_begin_65 : decode cX4_begin 65 = .ok (.iconst 0, 1) := by decide +kernel
theorem dX4_begin_66 : decode cX4_begin 66 = .ok (.iload_n 3, 1) := by decide +kernel
theorem dX4_begin_67 : decode cX4_begin 67 = .ok (.invokestatic 55, 3) := by decide +kernel
theorem dX4_begin_70 : decode cX4_begin 70 = .ok (.baload, 1) := by decide +kernel
theorem dX4_begin_71 : decode cX4_begin 71 = .ok (.ifCond .eq 7, 3) := by decide +kernel
theorem dX4_begin_74 : decode cX4_begin 74 = .ok (.iconst 1, 1) := by decide +kernel
theorem dX4_begin_75 : decode cX4_begin 75 = .ok (.goto 4, 3) := by decide +kernel
theorem dX4_begin_78 : decode cX4_begin 78 = .ok (.iconst 0, 1) := by decide +kernel
theorem dX4_begin_79 : decode cX4_begin 79 = .ok (.iadd, 1) := by decide +kernel
theorem dX4_begin_80 : decode cX4_begin 80 = .ok (.istore_n 2, 1) := by decide +kernel
theorem dX4_begin_81 : decode cX4_begin 81 = .ok (.iinc 3 1, 3) := by decide +kernel
theorem dX4_begin_84 : decode cX4_begin 84 = .ok (.goto (-57), 3) := by decide +kernel
theorem dX4_begin_87 : decode cX4_begin 87 = .ok (.iload_n 2, 1) := by decide +kernel
theorem dX4_begin_88 : decode cX4_begin 88 = .ok (.ireturn, 1) := by decide +kernel
set_option maxRecDepth 20000 in
theorem ggX4_join_X4_in : GoodIn wsX4_join wsX4_in := goodIn_r _ [4] (by decide +kernel) (by decide +kernel)
set_option maxRecDepth 20000 in
theorem gX4_join_X4_in : GoodIn wsX4_join (va_wsS RX4 36 yX4_in wsX4_in) := goodIn_app (goodIn_of _ (by decide +kernel)) ggX4_join_X4_in
set_option maxRecDepth 20000 in
theorem ggX4_join_X4_goesWell : GoodIn wsX4_join wsX4_goesWell := goodIn_r _ [8, 9, 26, 27, 28, 29, 30, 31, 32, 33, 34, 35] (by decide +kernel) (by decide +kernel)
set_option maxRecDepth 20000 in
theorem gX4_join_X4_goesWell : GoodIn wsX4_join (wsV RX4 52 RX4 yX4_goesWell wsX4_goesWell) := goodIn_app (goodIn_of _ (by decide +kernel)) ggX4_join_X4_goesWell
set_option maxRecDepth 20000 in
theorem ggX4_join_X4_placeOf : GoodIn wsX4_join wsX4_placeOf := goodIn_r _ [12] (by decide +kernel) (by decide +kernel)
set_option maxRecDepth 20000 in
theorem gX4_join_X4_placeOf : GoodIn wsX4_join (va_wsS RX4 55 yX4_placeOf wsX4_placeOf) := goodIn_app (goodIn_of _ (by decide +kernel)) ggX4_join_X4_placeOf
set_option maxRecDepth 20000 in
theorem ggX4_join_X4_baseOf : GoodIn wsX4_join wsX4_baseOf := goodIn_r _ [15] (by decide +kernel) (by decide +kernel)
set_option maxRecDepth 20000 in
theorem gX4_join_X4_baseOf : GoodIn wsX4_join (va_wsS RX4 63 yX4_baseOf wsX4_baseOf) := goodIn_app (goodIn_of _ (by decide +kernel)) ggX4_join_X4_baseOf
set_option maxRecDepth 20000 in
theorem ggX4_join_X4_areSame : GoodIn wsX4_join wsX4_areSame := goodIn_r _ [19, 20, 21, 26, 27, 28, 29, 30, 31, 32, 33, 34, 35] (by decide +kernel) (by decide +kernel)
set_option maxRecDepth 20000 in
theorem gX4_join_X4_areSame : GoodIn wsX4_join (wsV RX4 66 RX4 yX4_areSame wsX4_areSame) := goodIn_app (goodIn_of _ (by decide +kernel)) ggX4_join_X4_areSame
set_option maxRecDepth 20000 in
theorem ggX4_join_X4_copy : GoodIn wsX4_join wsX4_copy := goodIn_r _ [25, 20, 21, 26, 27, 28, 29, 30, 31, 32, 33, 34, 35] (by decide +kernel) (by decide +kernel)
set_option maxRecDepth 20000 in
theorem gX4_join_X4_copy : GoodIn wsX4_join (wsV RX4 59 RX4 yX4_copy wsX4_copy) := goodIn_app (goodIn_of _ (by decide +kernel)) ggX4_join_X4_copy
theorem dX4_join_0 : decode cX4_join 0 = .ok (.aload_n 0, 1) := by decide +kernel
theorem dX4_join_1 : decode cX4_join 1 = .ok (.iload_n 1, 1) := by decide +kernel
theorem dX4_join_2 : decode cX4_join 2 = .ok (.iconst 1, 1) := by decide +kernel
theorem dX4_join_3 : decode cX4_join 3 = .ok (.iconst 3, 1) := by decide +kernel
theorem dX4_join_4 : decode cX4_join 4 = .ok (.invokestatic 36, 3) := by decide +kernel
theorem dX4_join_7 : decode cX4_join 7 = .ok (.ifCond .eq 7, 3) := by decide +kernel
theorem dX4_join_10 : decode cX4_join 10 = .ok (.iconst 0, 1) := by decide +kernel
theorem dX4_join_11 : decode cX4_join 11 = .ok (.goto 4, 3) := by decide +kernel
theorem dX4_join_14 : decode cX4_join 14 = .ok (.iconst 1, 1) := by decide +kernel
theorem dX4_join_15 : decode cX4_join 15 = .ok (.invokevirtual 52, 3) := by decide +kernel
theorem dX4_join_18 : decode cX4_join 18 = .ok (.ifCond .ne 5, 3) := by decide +kernel
theorem dX4_join_21 : decode cX4_join 21 = .ok (.iconst 0, 1) := by decide +kernel
theorem dX4_join_22 : decode cX4_join 22 = .ok (.ireturn, 1) := by decide +kernel
theorem dX4_join_23 : decode cX4_join 23 = .ok (.iconst 0, 1) := by decide +kernel
theorem dX4_join_24 : decode cX4_join 24 = .ok (.istore_n 2, 1) := by decide +kernel
theorem dX4_join_25 : decode cX4_join 25 = .ok (.iconst 0, 1) := by decide +kernel
theorem dX4_join_26 : decode cX4_join 26 = .ok (.istore_n 3, 1) := by decide +kernel
theorem dX4_join_27 : decode cX4_join 27 = .ok (.iload_n 3, 1) := by decide +kernel
theorem dX4_join_28 : decode cX4_join 28 = .ok (.iconst 5, 1) := by decide +kernel
theorem dX4_join_29 : decode cX4_join 29 = .ok (.if_icmp .ge 122, 3) := by decide +kernel
theorem dX4_join_32 : decode cX4_join 32 = .ok (.iconst 0, 1) := by decide +kernel
theorem dX4_join_33 : decode cX4_join 33 = .ok (.iload_n 3, 1) := by decide +kernel
theorem dX4_join_34 : decode cX4_join 34 = .ok (.invokestatic 55, 3) := by decide +kernel
theorem dX4_join_37 : decode cX4_join 37 = .ok (.istore 4, 2) := by decide +kernel
theorem dX4_join_39 : decode cX4_join 39 = .ok (.iload_n 1, 1) := by decide +kernel
theorem dX4_join_40 : decode cX4_join 40 = .ok (.iload_n 3, 1) := by decide +kernel
theorem dX4_join_41 : decode cX4_join 41 = .ok (.invokestatic 55, 3) := by decide +kernel
theorem dX4_join_44 : decode cX4_join 44 = .ok (.istore 5, 2) := by decide +kernel
theorem dX4_join_46 : decode cX4_join 46 = .ok (.iload_n 1, 1) := by decide +kernel
theorem dX4_join_47 : decode cX4_join 47 = .ok (.iload_n 3, 1) := by decide +kernel
theorem dX4_join_48 : decode cX4_join 48 = .ok (.invokestatic 63, 3) := by decide +kernel
theorem dX4_join_51 : decode cX4_join 51 = .ok (.istore 6, 2) := by decide +kernel
theorem dX4_join_53 : decode cX4_join 53 = .ok (.aload_n 0, 1) := by decide +kernel
theorem dX4_join_54 : decode cX4_join 54 = .ok (.iload 5, 2) := by decide +kernel
theorem dX4_join_56 : decode cX4_join 56 = .ok (.iload 6, 2) := by decide +kernel
theorem dX4_join_58 : decode cX4_join 58 = .ok (.invokevirtual 66, 3) := by decide +kernel
theorem dX4_join_61 : decode cX4_join 61 = .ok (.ifCond .ne 7, 3) := by decide +kernel
theorem dX4_join_64 : decode cX4_join 64 = .ok (.iconst 1, 1) := by decide +kernel
theorem dX4_join_65 : decode cX4_join 65 = .ok (.goto 4, 3) := by decide +kernel
theorem dX4_join_68 : decode cX4_join 68 = .ok (.iconst 0, 1) := by decide +kernel
theorem dX4_join_69 : decode cX4_join 69 = .ok (.istore 7, 2) := by decide +kernel
theorem dX4_join_71 : decode cX4_join 71 = .ok (.aload_n 0, 1) := by decide +kernel
theorem dX4_join_72 : decode cX4_join 72 = .ok (.iload 4, 2) := by decide +kernel
theorem dX4_join_74 : decode cX4_join 74 = .ok (.iload 6, 2) := by decide +kernel
theorem dX4_join_76 : decode cX4_join 76 = .ok (.invokevirtual 66, 3) := by decide +kernel
theorem dX4_join_79 : decode cX4_join 79 = .ok (.istore 8, 2) := by decide +kernel
theorem dX4_join_81 : decode cX4_join 81 = .ok (.iload 7, 2) := by decide +kernel
theorem dX4_join_83 : decode cX4_join 83 = .ok (.ifCond .eq 16, 3) := by decide +kernel
theorem dX4_join_86 : decode cX4_join 86 = .ok (.iload 8, 2) := by decide +kernel
theorem dX4_join_88 : decode cX4_join 88 = .ok (.ifCond .eq 11, 3) := by decide +kernel
theorem dX4_join_91 : decode cX4_join 91 = .ok (.aload_n 0, 1) := by decide +kernel
theorem dX4_join_92 : decode cX4_join 92 = .ok (.iload 5, 2) := by decide +kernel
theorem dX4_join_94 : decode cX4_join 94 = .ok (.iload 4, 2) := by decide +kernel
theorem dX4_join_96 : decode cX4_join 96 = .ok (.invokevirtual 59, 3) := by decide +kernel
theorem dX4_join_99 : decode cX4_join 99 = .ok (.iload 7, 2) := by decide +kernel
theorem dX4_join_101 : decode cX4_join 101 = .ok (.ifCond .eq 28, 3) := by decide +kernel
theorem dX4_join_104 : decode cX4_join 104 = .ok (.iload 8, 2) := by decide +kernel
theorem dX4_join_106 : decode cX4_join 106 = .ok (.ifCond .ne 23, 3) := by decide +kernel
theorem dX4_join_109 : decode cX4_join 109 = .ok (.aload_n 0, 1) := by decide +kernel
theorem dX4_join_110 : decode cX4_join 110 = .ok (.iload 4, 2) := by decide +kernel
theorem dX4_join_112 : decode cX4_join 112 = .ok (.iload 5, 2) := by decide +kernel
theorem dX4_join_114 : decode cX4_join 114 = .ok (.invokevirtual 66, 3) := by decide +kernel
theorem dX4_join_117 : decode cX4_join 117 = .ok (.ifCond .ne 12, 3) := by decide +kernel
theorem dX4_join_120 : decode cX4_join 120 = .ok (.iload_n 2, 1) := by decide +kernel
theorem dX4_join_121 : decode cX4_join 121 = .ok (.iconst 1, 1) := by decide +kernel
theorem dX4_join_122 : decode cX4_join 122 = .ok (.iload_n 3, 1) := by decide +kernel
theorem dX4_join_123 : decode cX4_join 123 = .ok (.ishl, 1) := by decide +kernel
theorem dX4_join_124 : decode cX4_join 124 = .ok (.ior, 1) := by decide +kernel
theorem dX4_join_125 : decode cX4_join 125 = .ok (.istore_n 2, 1) := by decide +kernel
theorem dX4_join_126 : decode cX4_join 126 = .ok (.goto 19, 3) := by decide +kernel
theorem dX4_join_129 : decode cX4_join 129 = .ok (.aload_n 0, 1) := by decide +kernel
theorem dX4_join_130 : decode cX4_join 130 = .ok (.iload 4, 2) := by decide +kernel
theorem dX4_join_132 : decode cX4_join 132 = .ok (.iload 6, 2) := by decide +kernel
theorem dX4_join_134 : decode cX4_join 134 = .ok (.invokevirtual 59, 3) := by decide +kernel
theorem dX4_join_137 : decode cX4_join 137 = .ok (.aload_n 0, 1) := by decide +kernel
theorem dX4_join_138 : decode cX4_join 138 = .ok (.iload 4, 2) := by decide +kernel
theorem dX4_join_140 : decode cX4_join 140 = .ok (.iload 5, 2) := by decide +kernel
theorem dX4_join_142 : decode cX4_join 142 = .ok (.invokevirtual 59, 3) := by decide +kernel
theorem dX4_join_145 : decode cX4_join 145 = .ok (.iinc 3 1, 3) := by decide +kernel
theorem dX4_join_148 : decode cX4_join 148 = .ok (.goto (-121), 3) := by decide +kernel
theorem dX4_join_151 : decode cX4_join 151 = .ok (.iload_n 2, 1) := by decide +kernel
theorem dX4_join_152 : decode cX4_join 152 = .ok (.ireturn, 1) := by decide +kernel
set_option maxRecDepth 20000 in
theorem ggX4_isApproved_X4_in : GoodIn wsX4_isApproved wsX4_in := goodIn_r _ [5] (by decide +kernel) (by decide +kernel)
set_option maxRecDepth 20000 in
theorem gX4_isApproved_X4_in : GoodIn wsX4_isApproved (va_wsS RX4 36 yX4_in wsX4_in) := goodIn_app (goodIn_of _ (by decide +kernel)) ggX4_isApproved_X4_in
set_option maxRecDepth 20000 in
theorem ggX4_isApproved_X4_isTest : GoodIn wsX4_isApproved wsX4_isTest := goodIn_r _ [8, 2, 3, 4, 5] (by decide +kernel) (by decide +kernel)
set_option maxRecDepth 20000 in
theorem gX4_isApproved_X4_isTest : GoodIn wsX4_isApproved (va_wsS RX4 44 yX4_isTest wsX4_isTest) := goodIn_app (goodIn_of _ (by decide +kernel)) ggX4_isApproved_X4_isTest
set_option maxRecDepth 20000 in
theorem ggX4_isApproved_X4_goesWell : GoodIn wsX4_isApproved wsX4_goesWell := goodIn_r _ [12, 13, 17, 18, 19, 20, 21, 22, 23, 24, 25, 26] (by decide +kernel) (by decide +kernel)
set_option maxRecDepth 20000 in
theorem gX4_isApproved_X4_goesWell : GoodIn wsX4_isApproved (wsV RX4 52 RX4 yX4_goesWell wsX4_goesWell) := goodIn_app (goodIn_of _ (by decide +kernel)) ggX4_isApproved_X4_goesWell
set_option maxRecDepth 20000 in
theorem ggX4_isApproved_X4_placeOf : GoodIn wsX4_isApproved wsX4_placeOf := goodIn_r _ [16] (by decide +kernel) (by decide +kernel)
set_option maxRecDepth 20000 in
theorem gX4_isApproved_X4_placeOf : GoodIn wsX4_isApproved (va_wsS RX4 55 yX4_placeOf wsX4_placeOf) := goodIn_app (goodIn_of _ (by decide +kernel)) ggX4_isApproved_X4_placeOf
theorem dX4_isApproved_0 : decode cX4_isApproved 0 = .ok (.aload_n 0, 1) := by decide +kernel
theorem dX4_isApproved_1 : decode cX4_isApproved 1 = .ok (.iload_n 1, 1) := by decide +kernel
theorem dX4_isApproved_2 : decode cX4_isApproved 2 = .ok (.iconst 0, 1) := by decide +kernel
theorem dX4_isApproved_3 : decode cX4_isApproved 3 = .ok (.iconst 3, 1) := by decide +kernel
theorem dX4_isApproved_4 : decode cX4_isApproved 4 = .ok (.invokestatic 36, 3) := by decide +kernel
theorem dX4_isApproved_7 : decode cX4_isApproved 7 = .ok (.ifCond .eq 14, 3) := by decide +kernel
theorem dX4_isApproved_10 : decode cX4_isApproved 10 = .ok (.iload_n 2, 1) := by decide +kernel
theorem dX4_isApproved_11 : decode cX4_isApproved 11 = .ok (.invokestatic 44, 3) := by decide +kernel
theorem dX4_isApproved_14 : decode cX4_isApproved 14 = .ok (.ifCond .eq 7, 3) := by decide +kernel
theorem dX4_isApproved_17 : decode cX4_isApproved 17 = .ok (.iconst 0, 1) := by decide +kernel
theorem dX4_isApproved_18 : decode cX4_isApproved 18 = .ok (.goto 4, 3) := by decide +kernel
theorem dX4_isApproved_21 : decode cX4_isApproved 21 = .ok (.iconst 1, 1) := by decide +kernel
theorem dX4_isApproved_22 : decode cX4_isApproved 22 = .ok (.invokevirtual 52, 3) := by decide +kernel
theorem dX4_isApproved_25 : decode cX4_isApproved 25 = .ok (.ifCond .eq 20, 3) := by decide +kernel
theorem dX4_isApproved_28 : decode cX4_isApproved 28 = .ok (.aload_n 0, 1) := by decide +kernel
theorem dX4_isApproved_29 : decode cX4_isApproved 29 = .ok (.getfield 16, 3) := by decide +kernel
theorem dX4_isApproved_32 : decode cX4_isApproved 32 = .ok (.iload_n 1, 1) := by decide +kernel
theorem dX4_isApproved_33 : decode cX4_isApproved 33 = .ok (.iload_n 2, 1) := by decide +kernel
theorem dX4_isApproved_34 : decode cX4_isApproved 34 = .ok (.invokestatic 55, 3) := by decide +kernel
theorem dX4_isApproved_37 : decode cX4_isApproved 37 = .ok (.baload, 1) := by decide +kernel
theorem dX4_isApproved_38 : decode cX4_isApproved 38 = .ok (.ifCond .eq 7, 3) := by decide +kernel
theorem dX4_isApproved_41 : decode cX4_isApproved 41 = .ok (.iconst 1, 1) := by decide +kernel
theorem dX4_isApproved_42 : decode cX4_isApproved 42 = .ok (.goto 4, 3) := by decide +kernel
theorem dX4_isApproved_45 : decode cX4_isApproved 45 = .ok (.iconst 0, 1) := by decide +kernel
theorem dX4_isApproved_46 : decode cX4_isApproved 46 = .ok (.ireturn, 1) := by decide +kernel
set_option maxRecDepth 20000 in
theorem ggX4_areAlike_X4_in : GoodIn wsX4_areAlike wsX4_in := goodIn_r _ [4] (by decide +kernel) (by decide +kernel)
set_option maxRecDepth 20000 in
theorem gX4_areAlike_X4_in : GoodIn wsX4_areAlike (va_wsS RX4 36 yX4_in wsX4_in) := goodIn_app (goodIn_of _ (by decide +kernel)) ggX4_areAlike_X4_in
theorem dX4_areAlike_0 : decode cX4_areAlike 0 = .ok (.iload_n 1, 1) := by decide +kernel
theorem dX4_areAlike_1 : decode cX4_areAlike 1 = .ok (.iload_n 2, 1) := by decide +kernel
theorem dX4_areAlike_2 : decode cX4_areAlike 2 = .ok (.isub, 1) := by decide +kernel
theorem dX4_areAlike_3 : decode cX4_areAlike 3 = .ok (.iload_n 3, 1) := by decide +kernel
theorem dX4_areAlike_4 : decode cX4_areAlike 4 = .ok (.ineg, 1) := by decide +kernel
theorem dX4_areAlike_5 : decode cX4_areAlike 5 = .ok (.iload_n 3, 1) := by decide +kernel
theorem dX4_areAlike_6 : decode cX4_areAlike 6 = .ok (.invokestatic 36, 3) := by decide +kernel
theorem dX4_areAlike_9 : decode cX4_areAlike 9 = .ok (.ireturn, 1) := by decide +kernel
set_option maxRecDepth 20000 in
theorem ggX4_fits_X4_placeOf : GoodIn wsX4_fits wsX4_placeOf := goodIn_r _ [7] (by decide +kernel) (by decide +kernel)
set_option maxRecDepth 20000 in
theorem gX4_fits_X4_placeOf : GoodIn wsX4_fits (va_wsS RX4 55 yX4_placeOf wsX4_placeOf) := goodIn_app (goodIn_of _ (by decide +kernel)) ggX4_fits_X4_placeOf
set_option maxRecDepth 20000 in
theorem ggX4_fits_X4_isCell : GoodIn wsX4_fits wsX4_isCell := goodIn_r _ [10, 11, 12, 6, 13] (by decide +kernel) (by decide +kernel)
set_option maxRecDepth 20000 in
theorem gX4_fits_X4_isCell : GoodIn wsX4_fits (va_wsS RX4 40 yX4_isCell wsX4_isCell) := goodIn_app (goodIn_of _ (by decide +kernel)) ggX4_fits_X4_isCell
set_option maxRecDepth 20000 in
theorem ggX4_fits_X4_areAlike : GoodIn wsX4_fits wsX4_areAlike := goodIn_r _ [17, 11, 12, 6, 13] (by decide +kernel) (by decide +kernel)
set_option maxRecDepth 20000 in
theorem gX4_fits_X4_areAlike : GoodIn wsX4_fits (wsV RX4 69 RX4 yX4_areAlike wsX4_areAlike) := goodIn_app (goodIn_of _ (by decide +kernel)) ggX4_fits_X4_areAlike
theorem dX4_fits_0 : decode cX4_fits 0 = .ok (.iconst 1, 1) := by decide +kernel
theorem dX4_fits_1 : decode cX4_fits 1 = .ok (.istore 6, 2) := by decide +kernel
theorem dX4_fits_3 : decode cX4_fits 3 = .ok (.aload_n 0, 1) := by decide +kernel
theorem dX4_fits_4 : decode cX4_fits 4 = .ok (.getfield 20, 3) := by decide +kernel
theorem dX4_fits_7 : decode cX4_fits 7 = .ok (.iconst 4, 1) := by decide +kernel
theorem dX4_fits_8 : decode cX4_fits 8 = .ok (.iload_n 2, 1) := by decide +kernel
theorem dX4_fits_9 : decode cX4_fits 9 = .ok (.imul, 1) := by decide +kernel
theorem dX4_fits_10 : decode cX4_fits 10 = .ok (.iconst 2, 1) := by decide +kernel
theorem dX4_fits_11 : decode cX4_fits 11 = .ok (.iadd, 1) := by decide +kernel
theorem dX4_fits_12 : decode cX4_fits 12 = .ok (.iaload, 1) := by decide +kernel
theorem dX4_fits_13 : decode cX4_fits 13 = .ok (.istore 7, 2) := by decide +kernel
theorem dX4_fits_15 : decode cX4_fits 15 = .ok (.iconst 0, 1) := by decide +kernel
theorem dX4_fits_16 : decode cX4_fits 16 = .ok (.istore 8, 2) := by decide +kernel
theorem dX4_fits_18 : decode cX4_fits 18 = .ok (.iload 8, 2) := by decide +kernel
theorem dX4_fits_20 : decode cX4_fits 20 = .ok (.iload 7, 2) := by decide +kernel
theorem dX4_fits_22 : decode cX4_fits 22 = .ok (.aload_n 0, 1) := by decide +kernel
theorem dX4_fits_23 : decode cX4_fits 23 = .ok (.getfield 20, 3) := by decide +kernel
theorem dX4_fits_26 : decode cX4_fits 26 = .ok (.iconst 4, 1) := by decide +kernel
theorem dX4_fits_27 : decode cX4_fits 27 = .ok (.iload_n 2, 1) := by decide +kernel
theorem dX4_fits_28 : decode cX4_fits 28 = .ok (.imul, 1) := by decide +kernel
theorem dX4_fits_29 : decode cX4_fits 29 = .ok (.iconst 3, 1) := by decide +kernel
theorem dX4_fits_30 : decode cX4_fits 30 = .ok (.iadd, 1) := by decide +kernel
theorem dX4_fits_31 : decode cX4_fits 31 = .ok (.iaload, 1) := by decide +kernel
theorem dX4_fits_32 : decode cX4_fits 32 = .ok (.imul, 1) := by decide +kernel
theorem dX4_fits_33 : decode cX4_fits 33 = .ok (.if_icmp .ge 142, 3) := by decide +kernel
theorem dX4_fits_36 : decode cX4_fits 36 = .ok (.iload 6, 2) := by decide +kernel
theorem dX4_fits_38 : decode cX4_fits 38 = .ok (.ifCond .eq 137, 3) := by decide +kernel
theorem dX4_fits_41 : decode cX4_fits 41 = .ok (.aload_n 0, 1) := by decide +kernel
theorem dX4_fits_42 : decode cX4_fits 42 = .ok (.getfield 20, 3) := by decide +kernel
theorem dX4_fits_45 : decode cX4_fits 45 = .ok (.iconst 4, 1) := by decide +kernel
theorem dX4_fits_46 : decode cX4_fits 46 = .ok (.iload_n 2, 1) := by decide +kernel
theorem dX4_fits_47 : decode cX4_fits 47 = .ok (.imul, 1) := by decide +kernel
theorem dX4_fits_48 : decode cX4_fits 48 = .ok (.iaload, 1) := by decide +kernel
theorem dX4_fits_49 : decode cX4_fits 49 = .ok (.iload 8, 2) := by decide +kernel
theorem dX4_fits_51 : decode cX4_fits 51 = .ok (.iload 7, 2) := by decide +kernel
theorem dX4_fits_53 : decode cX4_fits 53 = .ok (.irem, 1) := by decide +kernel
theorem dX4_fits_54 : decode cX4_fits 54 = .ok (.iadd, 1) := by decide +kernel
theorem dX4_fits_55 : decode cX4_fits 55 = .ok (.istore 9, 2) := by decide +kernel
theorem dX4_fits_57 : decode cX4_fits 57 = .ok (.aload_n 0, 1) := by decide +kernel
theorem dX4_fits_58 : decode cX4_fits 58 = .ok (.getfield 20, 3) := by decide +kernel
theorem dX4_fits_61 : decode cX4_fits 61 = .ok (.iconst 4, 1) := by decide +kernel
theorem dX4_fits_62 : decode cX4_fits 62 = .ok (.iload_n 2, 1) := by decide +kernel
theorem dX4_fits_63 : decode cX4_fits 63 = .ok (.imul, 1) := by decide +kernel
theorem dX4_fits_64 : decode cX4_fits 64 = .ok (.iconst 1, 1) := by decide +kernel
theorem dX4_fits_65 : decode cX4_fits 65 = .ok (.iadd, 1) := by decide +kernel
theorem dX4_fits_66 : decode cX4_fits 66 = .ok (.iaload, 1) := by decide +kernel
theorem dX4_fits_67 : decode cX4_fits 67 = .ok (.iload 8, 2) := by decide +kernel
theorem dX4_fits_69 : decode cX4_fits 69 = .ok (.iload 7, 2) := by decide +kernel
theorem dX4_fits_71 : decode cX4_fits 71 = .ok (.idiv, 1) := by decide +kernel
theorem dX4_fits_72 : decode cX4_fits 72 = .ok (.iadd, 1) := by decide +kernel
theorem dX4_fits_73 : decode cX4_fits 73 = .ok (.istore 10, 2) := by decide +kernel
theorem dX4_fits_75 : decode cX4_fits 75 = .ok (.aload_n 0, 1) := by decide +kernel
theorem dX4_fits_76 : decode cX4_fits 76 = .ok (.getfield 13, 3) := by decide +kernel
theorem dX4_fits_79 : decode cX4_fits 79 = .ok (.bipush 64, 2) := by decide +kernel
theorem dX4_fits_81 : decode cX4_fits 81 = .ok (.iload_n 1, 1) := by decide +kernel
theorem dX4_fits_82 : decode cX4_fits 82 = .ok (.iload_n 2, 1) := by decide +kernel
theorem dX4_fits_83 : decode cX4_fits 83 = .ok (.invokestatic 55, 3) := by decide +kernel
theorem dX4_fits_86 : decode cX4_fits 86 = .ok (.imul, 1) := by decide +kernel
theorem dX4_fits_87 : decode cX4_fits 87 = .ok (.bipush 8, 2) := by decide +kernel
theorem dX4_fits_89 : decode cX4_fits 89 = .ok (.iload 10, 2) := by decide +kernel
theorem dX4_fits_91 : decode cX4_fits 91 = .ok (.imul, 1) := by decide +kernel
theorem dX4_fits_92 : decode cX4_fits 92 = .ok (.iadd, 1) := by decide +kernel
theorem dX4_fits_93 : decode cX4_fits 93 = .ok (.iload 9, 2) := by decide +kernel
theorem dX4_fits_95 : decode cX4_fits 95 = .ok (.iadd, 1) := by decide +kernel
theorem dX4_fits_96 : decode cX4_fits 96 = .ok (.iaload, 1) := by decide +kernel
theorem dX4_fits_97 : decode cX4_fits 97 = .ok (.istore 11, 2) := by decide +kernel
theorem dX4_fits_99 : decode cX4_fits 99 = .ok (.iload 9, 2) := by decide +kernel
theorem dX4_fits_101 : decode cX4_fits 101 = .ok (.iload 4, 2) := by decide +kernel
theorem dX4_fits_103 : decode cX4_fits 103 = .ok (.iadd, 1) := by decide +kernel
theorem dX4_fits_104 : decode cX4_fits 104 = .ok (.iload 10, 2) := by decide +kernel
theorem dX4_fits_106 : decode cX4_fits 106 = .ok (.iload 5, 2) := by decide +kernel
theorem dX4_fits_108 : decode cX4_fits 108 = .ok (.iadd, 1) := by decide +kernel
theorem dX4_fits_109 : decode cX4_fits 109 = .ok (.invokestatic 40, 3) := by decide +kernel
theorem dX4_fits_112 : decode cX4_fits 112 = .ok (.istore 12, 2) := by decide +kernel
theorem dX4_fits_114 : decode cX4_fits 114 = .ok (.iload 12, 2) := by decide +kernel
theorem dX4_fits_116 : decode cX4_fits 116 = .ok (.ifCond .eq 50, 3) := by decide +kernel
theorem dX4_fits_119 : decode cX4_fits 119 = .ok (.aload_n 0, 1) := by decide +kernel
theorem dX4_fits_120 : decode cX4_fits 120 = .ok (.aload_n 0, 1) := by decide +kernel
theorem dX4_fits_121 : decode cX4_fits 121 = .ok (.getfield 7, 3) := by decide +kernel
theorem dX4_fits_124 : decode cX4_fits 124 = .ok (.bipush 64, 2) := by decide +kernel
theorem dX4_fits_126 : decode cX4_fits 126 = .ok (.iload_n 2, 1) := by decide +kernel
theorem dX4_fits_127 : decode cX4_fits 127 = .ok (.imul, 1) := by decide +kernel
theorem dX4_fits_128 : decode cX4_fits 128 = .ok (.iload 12, 2) := by decide +kernel
theorem dX4_fits_130 : decode cX4_fits 130 = .ok (.ifCond .eq 20, 3) := by decide +kernel
theorem dX4_fits_133 : decode cX4_fits 133 = .ok (.bipush 8, 2) := by decide +kernel
theorem dX4_fits_135 : decode cX4_fits 135 = .ok (.iload 10, 2) := by decide +kernel
theorem dX4_fits_137 : decode cX4_fits 137 = .ok (.iload 5, 2) := by decide +kernel
theorem dX4_fits_139 : decode cX4_fits 139 = .ok (.iadd, 1) := by decide +kernel
theorem dX4_fits_140 : decode cX4_fits 140 = .ok (.imul, 1) := by decide +kernel
theorem dX4_fits_141 : decode cX4_fits 141 = .ok (.iload 9, 2) := by decide +kernel
theorem dX4_fits_143 : decode cX4_fits 143 = .ok (.iadd, 1) := by decide +kernel
theorem dX4_fits_144 : decode cX4_fits 144 = .ok (.iload 4, 2) := by decide +kernel
theorem dX4_fits_146 : decode cX4_fits 146 = .ok (.iadd, 1) := by decide +kernel
theorem dX4_fits_147 : decode cX4_fits 147 = .ok (.goto 4, 3) := by decide +kernel
theorem dX4_fits_150 : decode cX4_fits 150 = .ok (.iconst 0, 1) := by decide +kernel
theorem dX4_fits_151 : decode cX4_fits 151 = .ok (.iadd, 1) := by decide +kernel
theorem dX4_fits_152 : decode cX4_fits 152 = .ok (.iaload, 1) := by decide +kernel
theorem dX4_fits_153 : decode cX4_fits 153 = .ok (.iload 11, 2) := by decide +kernel
theorem dX4_fits_155 : decode cX4_fits 155 = .ok (.iload_n 3, 1) := by decide +kernel
theorem dX4_fits_156 : decode cX4_fits 156 = .ok (.invokevirtual 69, 3) := by decide +kernel
theorem dX4_fits_159 : decode cX4_fits 159 = .ok (.ifCond .eq 7, 3) := by decide +kernel
theorem dX4_fits_162 : decode cX4_fits 162 = .ok (.iconst 1, 1) := by decide +kernel
theorem dX4_fits_163 : decode cX4_fits 163 = .ok (.goto 4, 3) := by decide +kernel
theorem dX4_fits_166 : decode cX4_fits 166 = .ok (.iconst 0, 1) := by decide +kernel
theorem dX4_fits_167 : decode cX4_fits 167 = .ok (.istore 6, 2) := by decide +kernel
theorem dX4_fits_169 : decode cX4_fits 169 = .ok (.iinc 8 1, 3) := by decide +kernel
theorem dX4_fits_172 : decode cX4_fits 172 = .ok (.goto (-154), 3) := by decide +kernel
theorem dX4_fits_175 : decode cX4_fits 175 = .ok (.iload 6, 2) := by decide +kernel
theorem dX4_fits_177 : decode cX4_fits 177 = .ok (.ireturn, 1) := by decide +kernel
theorem dX4_size_0 : decode cX4_size 0 = .ok (.iload_n 0, 1) := by decide +kernel
theorem dX4_size_1 : decode cX4_size 1 = .ok (.ifCond .ge 8, 3) := by decide +kernel
theorem dX4_size_4 : decode cX4_size 4 = .ok (.iload_n 0, 1) := by decide +kernel
theorem dX4_size_5 : decode cX4_size 5 = .ok (.ineg, 1) := by decide +kernel
theorem dX4_size_6 : decode cX4_size 6 = .ok (.goto 4, 3) := by decide +kernel
theorem dX4_size_9 : decode cX4_size 9 = .ok (.iload_n 0, 1) := by decide +kernel
theorem dX4_size_10 : decode cX4_size 10 = .ok (.ireturn, 1) := by decide +kernel
set_option maxRecDepth 20000 in
theorem ggX4_findMove_X4_fits : GoodIn wsX4_findMove wsX4_fits := goodIn_r _ [8, 3, 9, 10, 11, 12, 7, 13, 14, 15, 16, 17, 18, 19, 20, 21, 22, 23, 27, 28, 29, 30, 31, 32, 33, 34, 35, 36] (by decide +kernel) (by decide +kernel)
set_option maxRecDepth 20000 in
theorem gX4_findMove_X4_fits : GoodIn wsX4_findMove (wsV RX4 78 RX4 yX4_fits wsX4_fits) := goodIn_app (goodIn_of _ (by decide +kernel)) ggX4_findMove_X4_fits
set_option maxRecDepth 20000 in
theorem ggX4_findMove_X4_size : GoodIn wsX4_findMove wsX4_size := goodIn_r _ [26] (by decide +kernel) (by decide +kernel)
set_option maxRecDepth 20000 in
theorem gX4_findMove_X4_size : GoodIn wsX4_findMove (va_wsS RX4 82 yX4_size wsX4_size) := goodIn_app (goodIn_of _ (by decide +kernel)) ggX4_findMove_X4_size
theorem dX4_findMove_0 : decode cX4_findMove 0 = .ok (.aload_n 0, 1) := by decide +kernel
theorem dX4_findMove_1 : decode cX4_findMove 1 = .ok (.iconst 0, 1) := by decide +kernel
theorem dX4_findMove_2 : decode cX4_findMove 2 = .ok (.putfield 72, 3) := by decide +kernel
theorem dX4_findMove_5 : decode cX4_findMove 5 = .ok (.aload_n 0, 1) := by decide +kernel
theorem dX4_findMove_6 : decode cX4_findMove 6 = .ok (.iconst 0, 1) := by decide +kernel
theorem dX4_findMove_7 : decode cX4_findMove 7 = .ok (.putfield 75, 3) := by decide +kernel
theorem dX4_findMove_10 : decode cX4_findMove 10 = .ok (.aload_n 0, 1) := by decide +kernel
theorem dX4_findMove_11 : decode cX4_findMove 11 = .ok (.getfield 20, 3) := by decide +kernel
theorem dX4_findMove_14 : decode cX4_findMove 14 = .ok (.iconst 4, 1) := by decide +kernel
theorem dX4_findMove_15 : decode cX4_findMove 15 = .ok (.iload_n 2, 1) := by decide +kernel
theorem dX4_findMove_16 : decode cX4_findMove 16 = .ok (.imul, 1) := by decide +kernel
theorem dX4_findMove_17 : decode cX4_findMove 17 = .ok (.iconst 2, 1) := by decide +kernel
theorem dX4_findMove_18 : decode cX4_findMove 18 = .ok (.iadd, 1) := by decide +kernel
theorem dX4_findMove_19 : decode cX4_findMove 19 = .ok (.iaload, 1) := by decide +kernel
theorem dX4_findMove_20 : decode cX4_findMove 20 = .ok (.ifCond .eq 15, 3) := by decide +kernel
theorem dX4_findMove_23 : decode cX4_findMove 23 = .ok (.aload_n 0, 1) := by decide +kernel
theorem dX4_findMove_24 : decode cX4_findMove 24 = .ok (.iload_n 1, 1) := by decide +kernel
theorem dX4_findMove_25 : decode cX4_findMove 25 = .ok (.iload_n 2, 1) := by decide +kernel
theorem dX4_findMove_26 : decode cX4_findMove 26 = .ok (.iload_n 3, 1) := by decide +kernel
theorem dX4_findMove_27 : decode cX4_findMove 27 = .ok (.iconst 0, 1) := by decide +kernel
theorem dX4_findMove_28 : decode cX4_findMove 28 = .ok (.iconst 0, 1) := by decide +kernel
theorem dX4_findMove_29 : decode cX4_findMove 29 = .ok (.invokevirtual 78, 3) := by decide +kernel
theorem dX4_findMove_32 : decode cX4_findMove 32 = .ok (.ifCond .eq 4, 3) := by decide +kernel
theorem dX4_findMove_35 : decode cX4_findMove 35 = .ok (.return_, 1) := by decide +kernel
theorem dX4_findMove_36 : decode cX4_findMove 36 = .ok (.iconst 1, 1) := by decide +kernel
theorem dX4_findMove_37 : decode cX4_findMove 37 = .ok (.istore 4, 2) := by decide +kernel
theorem dX4_findMove_39 : decode cX4_findMove 39 = .ok (.iload 4, 2) := by decide +kernel
theorem dX4_findMove_41 : decode cX4_findMove 41 = .ok (.iconst 4, 1) := by decide +kernel
theorem dX4_findMove_42 : decode cX4_findMove 42 = .ok (.if_icmp .gt 84, 3) := by decide +kernel
theorem dX4_findMove_45 : decode cX4_findMove 45 = .ok (.iconst 0, 1) := by decide +kernel
theorem dX4_findMove_46 : decode cX4_findMove 46 = .ok (.istore 5, 2) := by decide +kernel
theorem dX4_findMove_48 : decode cX4_findMove 48 = .ok (.iload 5, 2) := by decide +kernel
theorem dX4_findMove_50 : decode cX4_findMove 50 = .ok (.bipush 25, 2) := by decide +kernel
theorem dX4_findMove_52 : decode cX4_findMove 52 = .ok (.if_icmp .ge 68, 3) := by decide +kernel
theorem dX4_findMove_55 : decode cX4_findMove 55 = .ok (.iload 5, 2) := by decide +kernel
theorem dX4_findMove_57 : decode cX4_findMove 57 = .ok (.iconst 5, 1) := by decide +kernel
theorem dX4_findMove_58 : decode cX4_findMove 58 = .ok (.idiv, 1) := by decide +kernel
theorem dX4_findMove_59 : decode cX4_findMove 59 = .ok (.iconst 2, 1) := by decide +kernel
theorem dX4_findMove_60 : decode cX4_findMove 60 = .ok (.isub, 1) := by decide +kernel
theorem dX4_findMove_61 : decode cX4_findMove 61 = .ok (.istore 6, 2) := by decide +kernel
theorem dX4_findMove_63 : decode cX4_findMove 63 = .ok (.iload 5, 2) := by decide +kernel
theorem dX4_findMove_65 : decode cX4_findMove 65 = .ok (.iconst 5, 1) := by decide +kernel
theorem dX4_findMove_66 : decode cX4_findMove 66 = .ok (.irem, 1) := by decide +kernel
theorem dX4_findMove_67 : decode cX4_findMove 67 = .ok (.iconst 2, 1) := by decide +kernel
theorem dX4_findMove_68 : decode cX4_findMove 68 = .ok (.isub, 1) := by decide +kernel
theorem dX4_findMove_69 : decode cX4_findMove 69 = .ok (.istore 7, 2) := by decide +kernel
theorem dX4_findMove_71 : decode cX4_findMove 71 = .ok (.iload 6, 2) := by decide +kernel
theorem dX4_findMove_73 : decode cX4_findMove 73 = .ok (.invokestatic 82, 3) := by decide +kernel
theorem dX4_findMove_76 : decode cX4_findMove 76 = .ok (.iload 7, 2) := by decide +kernel
theorem dX4_findMove_78 : decode cX4_findMove 78 = .ok (.invokestatic 82, 3) := by decide +kernel
theorem dX4_findMove_81 : decode cX4_findMove 81 = .ok (.iadd, 1) := by decide +kernel
theorem dX4_findMove_82 : decode cX4_findMove 82 = .ok (.iload 4, 2) := by decide +kernel
theorem dX4_findMove_84 : decode cX4_findMove 84 = .ok (.if_icmp .ne 30, 3) := by decide +kernel
theorem dX4_findMove_87 : decode cX4_findMove 87 = .ok (.aload_n 0, 1) := by decide +kernel
theorem dX4_findMove_88 : decode cX4_findMove 88 = .ok (.iload_n 1, 1) := by decide +kernel
theorem dX4_findMove_89 : decode cX4_findMove 89 = .ok (.iload_n 2, 1) := by decide +kernel
theorem dX4_findMove_90 : decode cX4_findMove 90 = .ok (.iload_n 3, 1) := by decide +kernel
theorem dX4_findMove_91 : decode cX4_findMove 91 = .ok (.iload 7, 2) := by decide +kernel
theorem dX4_findMove_93 : decode cX4_findMove 93 = .ok (.iload 6, 2) := by decide +kernel
theorem dX4_findMove_95 : decode cX4_findMove 95 = .ok (.invokevirtual 78, 3) := by decide +kernel
theorem dX4_findMove_98 : decode cX4_findMove 98 = .ok (.ifCond .eq 16, 3) := by decide +kernel
theorem dX4_findMove_101 : decode cX4_findMove 101 = .ok (.aload_n 0, 1) := by decide +kernel
theorem dX4_findMove_102 : decode cX4_findMove 102 = .ok (.iload 7, 2) := by decide +kernel
theorem dX4_findMove_104 : decode cX4_findMove 104 = .ok (.putfield 72, 3) := by decide +kernel
theorem dX4_findMove_107 : decode cX4_findMove 107 = .ok (.aload_n 0, 1) := by decide +kernel
theorem dX4_findMove_108 : decode cX4_findMove 108 = .ok (.iload 6, 2) := by decide +kernel
theorem dX4_findMove_110 : decode cX4_findMove 110 = .ok (.putfield 75, 3) := by decide +kernel
theorem dX4_findMove_113 : decode cX4_findMove 113 = .ok (.return_, 1) := by decide +kernel
theorem dX4_findMove_114 : decode cX4_findMove 114 = .ok (.iinc 5 1, 3) := by decide +kernel
theorem dX4_findMove_117 : decode cX4_findMove 117 = .ok (.goto (-69), 3) := by decide +kernel
theorem dX4_findMove_120 : decode cX4_findMove 120 = .ok (.iinc 4 1, 3) := by decide +kernel
theorem dX4_findMove_123 : decode cX4_findMove 123 = .ok (.goto (-84), 3) := by decide +kernel
theorem dX4_findMove_126 : decode cX4_findMove 126 = .ok (.return_, 1) := by decide +kernel
set_option maxRecDepth 20000 in
theorem ggX4_isWithin_X4_in : GoodIn wsX4_isWithin wsX4_in := goodIn_r _ [4] (by decide +kernel) (by decide +kernel)
set_option maxRecDepth 20000 in
theorem gX4_isWithin_X4_in : GoodIn wsX4_isWithin (va_wsS RX4 36 yX4_in wsX4_in) := goodIn_app (goodIn_of _ (by decide +kernel)) ggX4_isWithin_X4_in
theorem dX4_isWithin_0 : decode cX4_isWithin 0 = .ok (.iload_n 0, 1) := by decide +kernel
theorem dX4_isWithin_1 : decode cX4_isWithin 1 = .ok (.bipush 8, 2) := by decide +kernel
theorem dX4_isWithin_3 : decode cX4_isWithin 3 = .ok (.irem, 1) := by decide +kernel
theorem dX4_isWithin_4 : decode cX4_isWithin 4 = .ok (.iload_n 1, 1) := by decide +kernel
theorem dX4_isWithin_5 : decode cX4_isWithin 5 = .ok (.iload_n 1, 1) := by decide +kernel
theorem dX4_isWithin_6 : decode cX4_isWithin 6 = .ok (.iload_n 3, 1) := by decide +kernel
theorem dX4_isWithin_7 : decode cX4_isWithin 7 = .ok (.iadd, 1) := by decide +kernel
theorem dX4_isWithin_8 : decode cX4_isWithin 8 = .ok (.iconst 1, 1) := by decide +kernel
theorem dX4_isWithin_9 : decode cX4_isWithin 9 = .ok (.isub, 1) := by decide +kernel
theorem dX4_isWithin_10 : decode cX4_isWithin 10 = .ok (.invokestatic 36, 3) := by decide +kernel
theorem dX4_isWithin_13 : decode cX4_isWithin 13 = .ok (.ifCond .eq 24, 3) := by decide +kernel
theorem dX4_isWithin_16 : decode cX4_isWithin 16 = .ok (.iload_n 0, 1) := by decide +kernel
theorem dX4_isWithin_17 : decode cX4_isWithin 17 = .ok (.bipush 8, 2) := by decide +kernel
theorem dX4_isWithin_19 : decode cX4_isWithin 19 = .ok (.idiv, 1) := by decide +kernel
theorem dX4_isWithin_20 : decode cX4_isWithin 20 = .ok (.iload_n 2, 1) := by decide +kernel
theorem dX4_isWithin_21 : decode cX4_isWithin 21 = .ok (.iload_n 2, 1) := by decide +kernel
theorem dX4_isWithin_22 : decode cX4_isWithin 22 = .ok (.iload 4, 2) := by decide +kernel
theorem dX4_isWithin_24 : decode cX4_isWithin 24 = .ok (.iadd, 1) := by decide +kernel
theorem dX4_isWithin_25 : decode cX4_isWithin 25 = .ok (.iconst 1, 1) := by decide +kernel
theorem dX4_isWithin_26 : decode cX4_isWithin 26 = .ok (.isub, 1) := by decide +kernel
theorem dX4_isWithin_27 : decode cX4_isWithin 27 = .ok (.invokestatic 36, 3) := by decide +kernel
theorem dX4_isWithin_30 : decode cX4_isWithin 30 = .ok (.ifCond .eq 7, 3) := by decide +kernel
theorem dX4_isWithin_33 : decode cX4_isWithin 33 = .ok (.iconst 1, 1) := by decide +kernel
theorem dX4_isWithin_34 : decode cX4_isWithin 34 = .ok (.goto 4, 3) := by decide +kernel
theorem dX4_isWithin_37 : decode cX4_isWithin 37 = .ok (.iconst 0, 1) := by decide +kernel
theorem dX4_isWithin_38 : decode cX4_isWithin 38 = .ok (.ireturn, 1) := by decide +kernel
set_option maxRecDepth 20000 in
theorem ggX4_isLeftOut_X4_isWithin : GoodIn wsX4_isLeftOut wsX4_isWithin := goodIn_r _ [8, 9, 10, 7, 11] (by decide +kernel) (by decide +kernel)
set_option maxRecDepth 20000 in
theorem gX4_isLeftOut_X4_isWithin : GoodIn wsX4_isLeftOut (va_wsS RX4 86 yX4_isWithin wsX4_isWithin) := goodIn_app (goodIn_of _ (by decide +kernel)) ggX4_isLeftOut_X4_isWithin
theorem dX4_isLeftOut_0 : decode cX4_isLeftOut 0 = .ok (.aload_n 0, 1) := by decide +kernel
theorem dX4_isLeftOut_1 : decode cX4_isLeftOut 1 = .ok (.getfield 20, 3) := by decide +kernel
theorem dX4_isLeftOut_4 : decode cX4_isLeftOut 4 = .ok (.iconst 4, 1) := by decide +kernel
theorem dX4_isLeftOut_5 : decode cX4_isLeftOut 5 = .ok (.iload_n 1, 1) := by decide +kernel
theorem dX4_isLeftOut_6 : decode cX4_isLeftOut 6 = .ok (.imul, 1) := by decide +kernel
theorem dX4_isLeftOut_7 : decode cX4_isLeftOut 7 = .ok (.iaload, 1) := by decide +kernel
theorem dX4_isLeftOut_8 : decode cX4_isLeftOut 8 = .ok (.istore_n 3, 1) := by decide +kernel
theorem dX4_isLeftOut_9 : decode cX4_isLeftOut 9 = .ok (.aload_n 0, 1) := by decide +kernel
theorem dX4_isLeftOut_10 : decode cX4_isLeftOut 10 = .ok (.getfield 20, 3) := by decide +kernel
theorem dX4_isLeftOut_13 : decode cX4_isLeftOut 13 = .ok (.iconst 4, 1) := by decide +kernel
theorem dX4_isLeftOut_14 : decode cX4_isLeftOut 14 = .ok (.iload_n 1, 1) := by decide +kernel
theorem dX4_isLeftOut_15 : decode cX4_isLeftOut 15 = .ok (.imul, 1) := by decide +kernel
theorem dX4_isLeftOut_16 : decode cX4_isLeftOut 16 = .ok (.iconst 1, 1) := by decide +kernel
theorem dX4_isLeftOut_17 : decode cX4_isLeftOut 17 = .ok (.iadd, 1) := by decide +kernel
theorem dX4_isLeftOut_18 : decode cX4_isLeftOut 18 = .ok (.iaload, 1) := by decide +kernel
theorem dX4_isLeftOut_19 : decode cX4_isLeftOut 19 = .ok (.istore 4, 2) := by decide +kernel
theorem dX4_isLeftOut_21 : decode cX4_isLeftOut 21 = .ok (.aload_n 0, 1) := by decide +kernel
theorem dX4_isLeftOut_22 : decode cX4_isLeftOut 22 = .ok (.getfield 20, 3) := by decide +kernel
theorem dX4_isLeftOut_25 : decode cX4_isLeftOut 25 = .ok (.iconst 4, 1) := by decide +kernel
theorem dX4_isLeftOut_26 : decode cX4_isLeftOut 26 = .ok (.iload_n 1, 1) := by decide +kernel
theorem dX4_isLeftOut_27 : decode cX4_isLeftOut 27 = .ok (.imul, 1) := by decide +kernel
theorem dX4_isLeftOut_28 : decode cX4_isLeftOut 28 = .ok (.iconst 2, 1) := by decide +kernel
theorem dX4_isLeftOut_29 : decode cX4_isLeftOut 29 = .ok (.iadd, 1) := by decide +kernel
theorem dX4_isLeftOut_30 : decode cX4_isLeftOut 30 = .ok (.iaload, 1) := by decide +kernel
theorem dX4_isLeftOut_31 : decode cX4_isLeftOut 31 = .ok (.istore 5, 2) := by decide +kernel
theorem dX4_isLeftOut_33 : decode cX4_isLeftOut 33 = .ok (.aload_n 0, 1) := by decide +kernel
theorem dX4_isLeftOut_34 : decode cX4_isLeftOut 34 = .ok (.getfield 20, 3) := by decide +kernel
theorem dX4_isLeftOut_37 : decode cX4_isLeftOut 37 = .ok (.iconst 4, 1) := by decide +kernel
theorem dX4_isLeftOut_38 : decode cX4_isLeftOut 38 = .ok (.iload_n 1, 1) := by decide +kernel
theorem dX4_isLeftOut_39 : decode cX4_isLeftOut 39 = .ok (.imul, 1) := by decide +kernel
theorem dX4_isLeftOut_40 : decode cX4_isLeftOut 40 = .ok (.iconst 3, 1) := by decide +kernel
theorem dX4_isLeftOut_41 : decode cX4_isLeftOut 41 = .ok (.iadd, 1) := by decide +kernel
theorem dX4_isLeftOut_42 : decode cX4_isLeftOut 42 = .ok (.iaload, 1) := by decide +kernel
theorem dX4_isLeftOut_43 : decode cX4_isLeftOut 43 = .ok (.istore 6, 2) := by decide +kernel
theorem dX4_isLeftOut_45 : decode cX4_isLeftOut 45 = .ok (.aload_n 0, 1) := by decide +kernel
theorem dX4_isLeftOut_46 : decode cX4_isLeftOut 46 = .ok (.getfield 72, 3) := by decide +kernel
theorem dX4_isLeftOut_49 : decode cX4_isLeftOut 49 = .ok (.ifCond .ne 10, 3) := by decide +kernel
theorem dX4_isLeftOut_52 : decode cX4_isLeftOut 52 = .ok (.aload_n 0, 1) := by decide +kernel
theorem dX4_isLeftOut_53 : decode cX4_isLeftOut 53 = .ok (.getfield 75, 3) := by decide +kernel
theorem dX4_isLeftOut_56 : decode cX4_isLeftOut 56 = .ok (.ifCond .eq 7, 3) := by decide +kernel
theorem dX4_isLeftOut_59 : decode cX4_isLeftOut 59 = .ok (.iconst 1, 1) := by decide +kernel
theorem dX4_isLeftOut_60 : decode cX4_isLeftOut 60 = .ok (.goto 4, 3) := by decide +kernel
theorem dX4_isLeftOut_63 : decode cX4_isLeftOut 63 = .ok (.iconst 0, 1) := by decide +kernel
theorem dX4_isLeftOut_64 : decode cX4_isLeftOut 64 = .ok (.istore 7, 2) := by decide +kernel
theorem dX4_isLeftOut_66 : decode cX4_isLeftOut 66 = .ok (.iload_n 2, 1) := by decide +kernel
theorem dX4_isLeftOut_67 : decode cX4_isLeftOut 67 = .ok (.iload_n 3, 1) := by decide +kernel
theorem dX4_isLeftOut_68 : decode cX4_isLeftOut 68 = .ok (.iload 4, 2) := by decide +kernel
theorem dX4_isLeftOut_70 : decode cX4_isLeftOut 70 = .ok (.iload 5, 2) := by decide +kernel
theorem dX4_isLeftOut_72 : decode cX4_isLeftOut 72 = .ok (.iload 6, 2) := by decide +kernel
theorem dX4_isLeftOut_74 : decode cX4_isLeftOut 74 = .ok (.invokestatic 86, 3) := by decide +kernel
theorem dX4_isLeftOut_77 : decode cX4_isLeftOut 77 = .ok (.ifCond .ne 27, 3) := by decide +kernel
theorem dX4_isLeftOut_80 : decode cX4_isLeftOut 80 = .ok (.iload_n 2, 1) := by decide +kernel
theorem dX4_isLeftOut_81 : decode cX4_isLeftOut 81 = .ok (.iload_n 3, 1) := by decide +kernel
theorem dX4_isLeftOut_82 : decode cX4_isLeftOut 82 = .ok (.aload_n 0, 1) := by decide +kernel
theorem dX4_isLeftOut_83 : decode cX4_isLeftOut 83 = .ok (.getfield 72, 3) := by decide +kernel
theorem dX4_isLeftOut_86 : decode cX4_isLeftOut 86 = .ok (.iadd, 1) := by decide +kernel
theorem dX4_isLeftOut_87 : decode cX4_isLeftOut 87 = .ok (.iload 4, 2) := by decide +kernel
theorem dX4_isLeftOut_89 : decode cX4_isLeftOut 89 = .ok (.aload_n 0, 1) := by decide +kernel
theorem dX4_isLeftOut_90 : decode cX4_isLeftOut 90 = .ok (.getfield 75, 3) := by decide +kernel
theorem dX4_isLeftOut_93 : decode cX4_isLeftOut 93 = .ok (.iadd, 1) := by decide +kernel
theorem dX4_isLeftOut_94 : decode cX4_isLeftOut 94 = .ok (.iload 5, 2) := by decide +kernel
theorem dX4_isLeftOut_96 : decode cX4_isLeftOut 96 = .ok (.iload 6, 2) := by decide +kernel
theorem dX4_isLeftOut_98 : decode cX4_isLeftOut 98 = .ok (.invokestatic 86, 3) := by decide +kernel
theorem dX4_isLeftOut_101 : decode cX4_isLeftOut 101 = .ok (.ifCond .eq 7, 3) := by decide +kernel
theorem dX4_isLeftOut_104 : decode cX4_isLeftOut 104 = .ok (.iconst 1, 1) := by decide +kernel
theorem dX4_isLeftOut_105 : decode cX4_isLeftOut 105 = .ok (.goto 4, 3) := by decide +kernel
theorem dX4_isLeftOut_108 : decode cX4_isLeftOut 108 = .ok (.iconst 0, 1) := by decide +kernel
theorem dX4_isLeftOut_109 : decode cX4_isLeftOut 109 = .ok (.istore 8, 2) := by decide +kernel
theorem dX4_isLeftOut_111 : decode cX4_isLeftOut 111 = .ok (.iload_n 3, 1) := by decide +kernel
theorem dX4_isLeftOut_112 : decode cX4_isLeftOut 112 = .ok (.aload_n 0, 1) := by decide +kernel
theorem dX4_isLeftOut_113 : decode cX4_isLeftOut 113 = .ok (.getfield 72, 3) := by decide +kernel
theorem dX4_isLeftOut_116 : decode cX4_isLeftOut 116 = .ok (.iadd, 1) := by decide +kernel
theorem dX4_isLeftOut_117 : decode cX4_isLeftOut 117 = .ok (.aload_n 0, 1) := by decide +kernel
theorem dX4_isLeftOut_118 : decode cX4_isLeftOut 118 = .ok (.getfield 23, 3) := by decide +kernel
theorem dX4_isLeftOut_121 : decode cX4_isLeftOut 121 = .ok (.iconst 4, 1) := by decide +kernel
theorem dX4_isLeftOut_122 : decode cX4_isLeftOut 122 = .ok (.iload_n 1, 1) := by decide +kernel
theorem dX4_isLeftOut_123 : decode cX4_isLeftOut 123 = .ok (.imul, 1) := by decide +kernel
theorem dX4_isLeftOut_124 : decode cX4_isLeftOut 124 = .ok (.iaload, 1) := by decide +kernel
theorem dX4_isLeftOut_125 : decode cX4_isLeftOut 125 = .ok (.iadd, 1) := by decide +kernel
theorem dX4_isLeftOut_126 : decode cX4_isLeftOut 126 = .ok (.istore 9, 2) := by decide +kernel
theorem dX4_isLeftOut_128 : decode cX4_isLeftOut 128 = .ok (.iload 4, 2) := by decide +kernel
theorem dX4_isLeftOut_130 : decode cX4_isLeftOut 130 = .ok (.aload_n 0, 1) := by decide +kernel
theorem dX4_isLeftOut_131 : decode cX4_isLeftOut 131 = .ok (.getfield 75, 3) := by decide +kernel
theorem dX4_isLeftOut_134 : decode cX4_isLeftOut 134 = .ok (.iadd, 1) := by decide +kernel
theorem dX4_isLeftOut_135 : decode cX4_isLeftOut 135 = .ok (.aload_n 0, 1) := by decide +kernel
theorem dX4_isLeftOut_136 : decode cX4_isLeftOut 136 = .ok (.getfield 23, 3) := by decide +kernel
theorem dX4_isLeftOut_139 : decode cX4_isLeftOut 139 = .ok (.iconst 4, 1) := by decide +kernel
theorem dX4_isLeftOut_140 : decode cX4_isLeftOut 140 = .ok (.iload_n 1, 1) := by decide +kernel
theorem dX4_isLeftOut_141 : decode cX4_isLeftOut 141 = .ok (.imul, 1) := by decide +kernel
theorem dX4_isLeftOut_142 : decode cX4_isLeftOut 142 = .ok (.iconst 1, 1) := by decide +kernel
theorem dX4_isLeftOut_143 : decode cX4_isLeftOut 143 = .ok (.iadd, 1) := by decide +kernel
theorem dX4_isLeftOut_144 : decode cX4_isLeftOut 144 = .ok (.iaload, 1) := by decide +kernel
theorem dX4_isLeftOut_145 : decode cX4_isLeftOut 145 = .ok (.iadd, 1) := by decide +kernel
theorem dX4_isLeftOut_146 : decode cX4_isLeftOut 146 = .ok (.istore 10, 2) := by decide +kernel
theorem dX4_isLeftOut_148 : decode cX4_isLeftOut 148 = .ok (.iload 7, 2) := by decide +kernel
theorem dX4_isLeftOut_150 : decode cX4_isLeftOut 150 = .ok (.ifCond .eq 8, 3) := by decide +kernel
theorem dX4_isLeftOut_153 : decode cX4_isLeftOut 153 = .ok (.iload 8, 2) := by decide +kernel
theorem dX4_isLeftOut_155 : decode cX4_isLeftOut 155 = .ok (.ifCond .ne 39, 3) := by decide +kernel
theorem dX4_isLeftOut_158 : decode cX4_isLeftOut 158 = .ok (.iload 5, 2) := by decide +kernel
theorem dX4_isLeftOut_160 : decode cX4_isLeftOut 160 = .ok (.ifCond .le 38, 3) := by decide +kernel
theorem dX4_isLeftOut_163 : decode cX4_isLeftOut 163 = .ok (.iload_n 2, 1) := by decide +kernel
theorem dX4_isLeftOut_164 : decode cX4_isLeftOut 164 = .ok (.iload 9, 2) := by decide +kernel
theorem dX4_isLeftOut_166 : decode cX4_isLeftOut 166 = .ok (.iload 10, 2) := by decide +kernel
theorem dX4_isLeftOut_168 : decode cX4_isLeftOut 168 = .ok (.aload_n 0, 1) := by decide +kernel
theorem dX4_isLeftOut_169 : decode cX4_isLeftOut 169 = .ok (.getfield 23, 3) := by decide +kernel
theorem dX4_isLeftOut_172 : decode cX4_isLeftOut 172 = .ok (.iconst 4, 1) := by decide +kernel
theorem dX4_isLeftOut_173 : decode cX4_isLeftOut 173 = .ok (.iload_n 1, 1) := by decide +kernel
theorem dX4_isLeftOut_174 : decode cX4_isLeftOut 174 = .ok (.imul, 1) := by decide +kernel
theorem dX4_isLeftOut_175 : decode cX4_isLeftOut 175 = .ok (.iconst 2, 1) := by decide +kernel
theorem dX4_isLeftOut_176 : decode cX4_isLeftOut 176 = .ok (.iadd, 1) := by decide +kernel
theorem dX4_isLeftOut_177 : decode cX4_isLeftOut 177 = .ok (.iaload, 1) := by decide +kernel
theorem dX4_isLeftOut_178 : decode cX4_isLeftOut 178 = .ok (.aload_n 0, 1) := by decide +kernel
theorem dX4_isLeftOut_179 : decode cX4_isLeftOut 179 = .ok (.getfield 23, 3) := by decide +kernel
theorem dX4_isLeftOut_182 : decode cX4_isLeftOut 182 = .ok (.iconst 4, 1) := by decide +kernel
theorem dX4_isLeftOut_183 : decode cX4_isLeftOut 183 = .ok (.iload_n 1, 1) := by decide +kernel
theorem dX4_isLeftOut_184 : decode cX4_isLeftOut 184 = .ok (.imul, 1) := by decide +kernel
theorem dX4_isLeftOut_185 : decode cX4_isLeftOut 185 = .ok (.iconst 3, 1) := by decide +kernel
theorem dX4_isLeftOut_186 : decode cX4_isLeftOut 186 = .ok (.iadd, 1) := by decide +kernel
theorem dX4_isLeftOut_187 : decode cX4_isLeftOut 187 = .ok (.iaload, 1) := by decide +kernel
theorem dX4_isLeftOut_188 : decode cX4_isLeftOut 188 = .ok (.invokestatic 86, 3) := by decide +kernel
theorem dX4_isLeftOut_191 : decode cX4_isLeftOut 191 = .ok (.ifCond .eq 7, 3) := by decide +kernel
theorem dX4_isLeftOut_194 : decode cX4_isLeftOut 194 = .ok (.iconst 1, 1) := by decide +kernel
theorem dX4_isLeftOut_195 : decode cX4_isLeftOut 195 = .ok (.goto 4, 3) := by decide +kernel
theorem dX4_isLeftOut_198 : decode cX4_isLeftOut 198 = .ok (.iconst 0, 1) := by decide +kernel
theorem dX4_isLeftOut_199 : decode cX4_isLeftOut 199 = .ok (.ireturn, 1) := by decide +kernel
set_option maxRecDepth 20000 in
theorem ggX4_isSoft_X4_isCell : GoodIn wsX4_isSoft wsX4_isCell := goodIn_r _ [6, 7, 8, 5, 9] (by decide +kernel) (by decide +kernel)
set_option maxRecDepth 20000 in
theorem gX4_isSoft_X4_isCell : GoodIn wsX4_isSoft (va_wsS RX4 40 yX4_isCell wsX4_isCell) := goodIn_app (goodIn_of _ (by decide +kernel)) ggX4_isSoft_X4_isCell
set_option maxRecDepth 20000 in
theorem ggX4_isSoft_X4_placeOf : GoodIn wsX4_isSoft wsX4_placeOf := goodIn_r _ [12] (by decide +kernel) (by decide +kernel)
set_option maxRecDepth 20000 in
theorem gX4_isSoft_X4_placeOf : GoodIn wsX4_isSoft (va_wsS RX4 55 yX4_placeOf wsX4_placeOf) := goodIn_app (goodIn_of _ (by decide +kernel)) ggX4_isSoft_X4_placeOf
set_option maxRecDepth 20000 in
theorem ggX4_isSoft_X4_in : GoodIn wsX4_isSoft wsX4_in := goodIn_r _ [9] (by decide +kernel) (by decide +kernel)
set_option maxRecDepth 20000 in
theorem gX4_isSoft_X4_in : GoodIn wsX4_isSoft (va_wsS RX4 36 yX4_in wsX4_in) := goodIn_app (goodIn_of _ (by decide +kernel)) ggX4_isSoft_X4_in
theorem dX4_isSoft_0 : decode cX4_isSoft 0 = .ok (.sipush 255, 3) := by decide +kernel
theorem dX4_isSoft_3 : decode cX4_isSoft 3 = .ok (.istore 5, 2) := by decide +kernel
theorem dX4_isSoft_5 : decode cX4_isSoft 5 = .ok (.iconst 0, 1) := by decide +kernel
theorem dX4_isSoft_6 : decode cX4_isSoft 6 = .ok (.istore 6, 2) := by decide +kernel
theorem dX4_isSoft_8 : decode cX4_isSoft 8 = .ok (.iconst 0, 1) := by decide +kernel
theorem dX4_isSoft_9 : decode cX4_isSoft 9 = .ok (.istore 7, 2) := by decide +kernel
theorem dX4_isSoft_11 : decode cX4_isSoft 11 = .ok (.iload 7, 2) := by decide +kernel
theorem dX4_isSoft_13 : decode cX4_isSoft 13 = .ok (.bipush 9, 2) := by decide +kernel
theorem dX4_isSoft_15 : decode cX4_isSoft 15 = .ok (.if_icmp .ge 99, 3) := by decide +kernel
theorem dX4_isSoft_18 : decode cX4_isSoft 18 = .ok (.iload 4, 2) := by decide +kernel
theorem dX4_isSoft_20 : decode cX4_isSoft 20 = .ok (.bipush 8, 2) := by decide +kernel
theorem dX4_isSoft_22 : decode cX4_isSoft 22 = .ok (.irem, 1) := by decide +kernel
theorem dX4_isSoft_23 : decode cX4_isSoft 23 = .ok (.iload 7, 2) := by decide +kernel
theorem dX4_isSoft_25 : decode cX4_isSoft 25 = .ok (.iconst 3, 1) := by decide +kernel
theorem dX4_isSoft_26 : decode cX4_isSoft 26 = .ok (.irem, 1) := by decide +kernel
theorem dX4_isSoft_27 : decode cX4_isSoft 27 = .ok (.iadd, 1) := by decide +kernel
theorem dX4_isSoft_28 : decode cX4_isSoft 28 = .ok (.iconst 1, 1) := by decide +kernel
theorem dX4_isSoft_29 : decode cX4_isSoft 29 = .ok (.isub, 1) := by decide +kernel
theorem dX4_isSoft_30 : decode cX4_isSoft 30 = .ok (.istore 8, 2) := by decide +kernel
theorem dX4_isSoft_32 : decode cX4_isSoft 32 = .ok (.iload 4, 2) := by decide +kernel
theorem dX4_isSoft_34 : decode cX4_isSoft 34 = .ok (.bipush 8, 2) := by decide +kernel
theorem dX4_isSoft_36 : decode cX4_isSoft 36 = .ok (.idiv, 1) := by decide +kernel
theorem dX4_isSoft_37 : decode cX4_isSoft 37 = .ok (.iload 7, 2) := by decide +kernel
theorem dX4_isSoft_39 : decode cX4_isSoft 39 = .ok (.iconst 3, 1) := by decide +kernel
theorem dX4_isSoft_40 : decode cX4_isSoft 40 = .ok (.idiv, 1) := by decide +kernel
theorem dX4_isSoft_41 : decode cX4_isSoft 41 = .ok (.iadd, 1) := by decide +kernel
theorem dX4_isSoft_42 : decode cX4_isSoft 42 = .ok (.iconst 1, 1) := by decide +kernel
theorem dX4_isSoft_43 : decode cX4_isSoft 43 = .ok (.isub, 1) := by decide +kernel
theorem dX4_isSoft_44 : decode cX4_isSoft 44 = .ok (.istore 9, 2) := by decide +kernel
theorem dX4_isSoft_46 : decode cX4_isSoft 46 = .ok (.iload 8, 2) := by decide +kernel
theorem dX4_isSoft_48 : decode cX4_isSoft 48 = .ok (.iload 9, 2) := by decide +kernel
theorem dX4_isSoft_50 : decode cX4_isSoft 50 = .ok (.invokestatic 40, 3) := by decide +kernel
theorem dX4_isSoft_53 : decode cX4_isSoft 53 = .ok (.ifCond .eq 55, 3) := by decide +kernel
theorem dX4_isSoft_56 : decode cX4_isSoft 56 = .ok (.aload_n 0, 1) := by decide +kernel
theorem dX4_isSoft_57 : decode cX4_isSoft 57 = .ok (.getfield 7, 3) := by decide +kernel
theorem dX4_isSoft_60 : decode cX4_isSoft 60 = .ok (.bipush 64, 2) := by decide +kernel
theorem dX4_isSoft_62 : decode cX4_isSoft 62 = .ok (.iload_n 2, 1) := by decide +kernel
theorem dX4_isSoft_63 : decode cX4_isSoft 63 = .ok (.imul, 1) := by decide +kernel
theorem dX4_isSoft_64 : decode cX4_isSoft 64 = .ok (.bipush 8, 2) := by decide +kernel
theorem dX4_isSoft_66 : decode cX4_isSoft 66 = .ok (.iload 9, 2) := by decide +kernel
theorem dX4_isSoft_68 : decode cX4_isSoft 68 = .ok (.imul, 1) := by decide +kernel
theorem dX4_isSoft_69 : decode cX4_isSoft 69 = .ok (.iadd, 1) := by decide +kernel
theorem dX4_isSoft_70 : decode cX4_isSoft 70 = .ok (.iload 8, 2) := by decide +kernel
theorem dX4_isSoft_72 : decode cX4_isSoft 72 = .ok (.iadd, 1) := by decide +kernel
theorem dX4_isSoft_73 : decode cX4_isSoft 73 = .ok (.iaload, 1) := by decide +kernel
theorem dX4_isSoft_74 : decode cX4_isSoft 74 = .ok (.istore 10, 2) := by decide +kernel
theorem dX4_isSoft_76 : decode cX4_isSoft 76 = .ok (.iload 10, 2) := by decide +kernel
theorem dX4_isSoft_78 : decode cX4_isSoft 78 = .ok (.iload 5, 2) := by decide +kernel
theorem dX4_isSoft_80 : decode cX4_isSoft 80 = .ok (.if_icmp .ge 8, 3) := by decide +kernel
theorem dX4_isSoft_83 : decode cX4_isSoft 83 = .ok (.iload 10, 2) := by decide +kernel
theorem dX4_isSoft_85 : decode cX4_isSoft 85 = .ok (.goto 5, 3) := by decide +kernel
theorem dX4_isSoft_88 : decode cX4_isSoft 88 = .ok (.iload 5, 2) := by decide +kernel
theorem dX4_isSoft_90 : decode cX4_isSoft 90 = .ok (.istore 5, 2) := by decide +kernel
theorem dX4_isSoft_92 : decode cX4_isSoft 92 = .ok (.iload 10, 2) := by decide +kernel
theorem dX4_isSoft_94 : decode cX4_isSoft 94 = .ok (.iload 6, 2) := by decide +kernel
theorem dX4_isSoft_96 : decode cX4_isSoft 96 = .ok (.if_icmp .le 8, 3) := by decide +kernel
theorem dX4_isSoft_99 : decode cX4_isSoft 99 = .ok (.iload 10, 2) := by decide +kernel
theorem dX4_isSoft_101 : decode cX4_isSoft 101 = .ok (.goto 5, 3) := by decide +kernel
theorem dX4_isSoft_104 : decode cX4_isSoft 104 = .ok (.iload 6, 2) := by decide +kernel
theorem dX4_isSoft_106 : decode cX4_isSoft 106 = .ok (.istore 6, 2) := by decide +kernel
theorem dX4_isSoft_108 : decode cX4_isSoft 108 = .ok (.iinc 7 1, 3) := by decide +kernel
theorem dX4_isSoft_111 : decode cX4_isSoft 111 = .ok (.goto (-100), 3) := by decide +kernel
theorem dX4_isSoft_114 : decode cX4_isSoft 114 = .ok (.iload 6, 2) := by decide +kernel
theorem dX4_isSoft_116 : decode cX4_isSoft 116 = .ok (.iload 5, 2) := by decide +kernel
theorem dX4_isSoft_118 : decode cX4_isSoft 118 = .ok (.isub, 1) := by decide +kernel
theorem dX4_isSoft_119 : decode cX4_isSoft 119 = .ok (.iload_n 3, 1) := by decide +kernel
theorem dX4_isSoft_120 : decode cX4_isSoft 120 = .ok (.if_icmp .le 33, 3) := by decide +kernel
theorem dX4_isSoft_123 : decode cX4_isSoft 123 = .ok (.aload_n 0, 1) := by decide +kernel
theorem dX4_isSoft_124 : decode cX4_isSoft 124 = .ok (.getfield 13, 3) := by decide +kernel
theorem dX4_isSoft_127 : decode cX4_isSoft 127 = .ok (.bipush 64, 2) := by decide +kernel
theorem dX4_isSoft_129 : decode cX4_isSoft 129 = .ok (.iload_n 1, 1) := by decide +kernel
theorem dX4_isSoft_130 : decode cX4_isSoft 130 = .ok (.iload_n 2, 1) := by decide +kernel
theorem dX4_isSoft_131 : decode cX4_isSoft 131 = .ok (.invokestatic 55, 3) := by decide +kernel
theorem dX4_isSoft_134 : decode cX4_isSoft 134 = .ok (.imul, 1) := by decide +kernel
theorem dX4_isSoft_135 : decode cX4_isSoft 135 = .ok (.iload 4, 2) := by decide +kernel
theorem dX4_isSoft_137 : decode cX4_isSoft 137 = .ok (.iadd, 1) := by decide +kernel
theorem dX4_isSoft_138 : decode cX4_isSoft 138 = .ok (.iaload, 1) := by decide +kernel
theorem dX4_isSoft_139 : decode cX4_isSoft 139 = .ok (.iload 5, 2) := by decide +kernel
theorem dX4_isSoft_141 : decode cX4_isSoft 141 = .ok (.iload 6, 2) := by decide +kernel
theorem dX4_isSoft_143 : decode cX4_isSoft 143 = .ok (.invokestatic 36, 3) := by decide +kernel
theorem dX4_isSoft_146 : decode cX4_isSoft 146 = .ok (.ifCond .eq 7, 3) := by decide +kernel
theorem dX4_isSoft_149 : decode cX4_isSoft 149 = .ok (.iconst 1, 1) := by decide +kernel
theorem dX4_isSoft_150 : decode cX4_isSoft 150 = .ok (.goto 4, 3) := by decide +kernel
theorem dX4_isSoft_153 : decode cX4_isSoft 153 = .ok (.iconst 0, 1) := by decide +kernel
theorem dX4_isSoft_154 : decode cX4_isSoft 154 = .ok (.ireturn, 1) := by decide +kernel
set_option maxRecDepth 20000 in
theorem ggX4_differs_X4_placeOf : GoodIn wsX4_differs wsX4_placeOf := goodIn_r _ [6] (by decide +kernel) (by decide +kernel)
set_option maxRecDepth 20000 in
theorem gX4_differs_X4_placeOf : GoodIn wsX4_differs (va_wsS RX4 55 yX4_placeOf wsX4_placeOf) := goodIn_app (goodIn_of _ (by decide +kernel)) ggX4_differs_X4_placeOf
set_option maxRecDepth 20000 in
theorem ggX4_differs_X4_areAlike : GoodIn wsX4_differs wsX4_areAlike := goodIn_r _ [10, 11, 12, 5, 13] (by decide +kernel) (by decide +kernel)
set_option maxRecDepth 20000 in
theorem gX4_differs_X4_areAlike : GoodIn wsX4_differs (wsV RX4 69 RX4 yX4_areAlike wsX4_areAlike) := goodIn_app (goodIn_of _ (by decide +kernel)) ggX4_differs_X4_areAlike
set_option maxRecDepth 20000 in
theorem ggX4_differs_X4_isSoft : GoodIn wsX4_differs wsX4_isSoft := goodIn_r _ [17, 1, 2, 18, 19, 5, 20, 11, 12, 13, 3, 4, 6, 32, 33, 34, 35, 36, 37, 38, 39, 40, 41] (by decide +kernel) (by decide +kernel)
set_option maxRecDepth 20000 in
theorem gX4_differs_X4_isSoft : GoodIn wsX4_differs (wsV RX4 89 RX4 yX4_isSoft wsX4_isSoft) := goodIn_app (goodIn_of _ (by decide +kernel)) ggX4_differs_X4_isSoft
set_option maxRecDepth 20000 in
theorem ggX4_differs_X4_isLeftOut : GoodIn wsX4_differs wsX4_isLeftOut := goodIn_r _ [24, 25, 26, 27, 28, 29, 30, 5, 31, 11, 12, 13, 32, 33, 34, 35, 36, 37, 38, 39, 40, 41] (by decide +kernel) (by decide +kernel)
set_option maxRecDepth 20000 in
theorem gX4_differs_X4_isLeftOut : GoodIn wsX4_differs (wsV RX4 92 RX4 yX4_isLeftOut wsX4_isLeftOut) := goodIn_app (goodIn_of _ (by decide +kernel)) ggX4_differs_X4_isLeftOut
theorem dX4_differs_0 : decode cX4_differs 0 = .ok (.aload_n 0, 1) := by decide +kernel
theorem dX4_differs_1 : decode cX4_differs 1 = .ok (.aload_n 0, 1) := by decide +kernel
theorem dX4_differs_2 : decode cX4_differs 2 = .ok (.getfield 7, 3) := by decide +kernel
theorem dX4_differs_5 : decode cX4_differs 5 = .ok (.bipush 64, 2) := by decide +kernel
theorem dX4_differs_7 : decode cX4_differs 7 = .ok (.iload_n 2, 1) := by decide +kernel
theorem dX4_differs_8 : decode cX4_differs 8 = .ok (.imul, 1) := by decide +kernel
theorem dX4_differs_9 : decode cX4_differs 9 = .ok (.iload 4, 2) := by decide +kernel
theorem dX4_differs_11 : decode cX4_differs 11 = .ok (.iadd, 1) := by decide +kernel
theorem dX4_differs_12 : decode cX4_differs 12 = .ok (.iaload, 1) := by decide +kernel
theorem dX4_differs_13 : decode cX4_differs 13 = .ok (.aload_n 0, 1) := by decide +kernel
theorem dX4_differs_14 : decode cX4_differs 14 = .ok (.getfield 13, 3) := by decide +kernel
theorem dX4_differs_17 : decode cX4_differs 17 = .ok (.bipush 64, 2) := by decide +kernel
theorem dX4_differs_19 : decode cX4_differs 19 = .ok (.iload_n 1, 1) := by decide +kernel
theorem dX4_differs_20 : decode cX4_differs 20 = .ok (.iload_n 2, 1) := by decide +kernel
theorem dX4_differs_21 : decode cX4_differs 21 = .ok (.invokestatic 55, 3) := by decide +kernel
theorem dX4_differs_24 : decode cX4_differs 24 = .ok (.imul, 1) := by decide +kernel
theorem dX4_differs_25 : decode cX4_differs 25 = .ok (.iload 4, 2) := by decide +kernel
theorem dX4_differs_27 : decode cX4_differs 27 = .ok (.iadd, 1) := by decide +kernel
theorem dX4_differs_28 : decode cX4_differs 28 = .ok (.iaload, 1) := by decide +kernel
theorem dX4_differs_29 : decode cX4_differs 29 = .ok (.iload_n 3, 1) := by decide +kernel
theorem dX4_differs_30 : decode cX4_differs 30 = .ok (.invokevirtual 69, 3) := by decide +kernel
theorem dX4_differs_33 : decode cX4_differs 33 = .ok (.istore 5, 2) := by decide +kernel
theorem dX4_differs_35 : decode cX4_differs 35 = .ok (.iload 5, 2) := by decide +kernel
theorem dX4_differs_37 : decode cX4_differs 37 = .ok (.ifCond .ne 29, 3) := by decide +kernel
theorem dX4_differs_40 : decode cX4_differs 40 = .ok (.aload_n 0, 1) := by decide +kernel
theorem dX4_differs_41 : decode cX4_differs 41 = .ok (.iload_n 1, 1) := by decide +kernel
theorem dX4_differs_42 : decode cX4_differs 42 = .ok (.iload_n 2, 1) := by decide +kernel
theorem dX4_differs_43 : decode cX4_differs 43 = .ok (.iload_n 3, 1) := by decide +kernel
theorem dX4_differs_44 : decode cX4_differs 44 = .ok (.iload 4, 2) := by decide +kernel
theorem dX4_differs_46 : decode cX4_differs 46 = .ok (.invokevirtual 89, 3) := by decide +kernel
theorem dX4_differs_49 : decode cX4_differs 49 = .ok (.ifCond .ne 17, 3) := by decide +kernel
theorem dX4_differs_52 : decode cX4_differs 52 = .ok (.aload_n 0, 1) := by decide +kernel
theorem dX4_differs_53 : decode cX4_differs 53 = .ok (.iload_n 2, 1) := by decide +kernel
theorem dX4_differs_54 : decode cX4_differs 54 = .ok (.iload 4, 2) := by decide +kernel
theorem dX4_differs_56 : decode cX4_differs 56 = .ok (.invokevirtual 92, 3) := by decide +kernel
theorem dX4_differs_59 : decode cX4_differs 59 = .ok (.ifCond .ne 7, 3) := by decide +kernel
theorem dX4_differs_62 : decode cX4_differs 62 = .ok (.iconst 1, 1) := by decide +kernel
theorem dX4_differs_63 : decode cX4_differs 63 = .ok (.goto 4, 3) := by decide +kernel
theorem dX4_differs_66 : decode cX4_differs 66 = .ok (.iconst 0, 1) := by decide +kernel
theorem dX4_differs_67 : decode cX4_differs 67 = .ok (.ireturn, 1) := by decide +kernel
set_option maxRecDepth 20000 in
theorem ggX4_canCompare_X4_in : GoodIn wsX4_canCompare wsX4_in := goodIn_r _ [5] (by decide +kernel) (by decide +kernel)
set_option maxRecDepth 20000 in
theorem gX4_canCompare_X4_in : GoodIn wsX4_canCompare (va_wsS RX4 36 yX4_in wsX4_in) := goodIn_app (goodIn_of _ (by decide +kernel)) ggX4_canCompare_X4_in
set_option maxRecDepth 20000 in
theorem ggX4_canCompare_X4_isTest : GoodIn wsX4_canCompare wsX4_isTest := goodIn_r _ [8, 2, 3, 4, 5] (by decide +kernel) (by decide +kernel)
set_option maxRecDepth 20000 in
theorem gX4_canCompare_X4_isTest : GoodIn wsX4_canCompare (va_wsS RX4 44 yX4_isTest wsX4_isTest) := goodIn_app (goodIn_of _ (by decide +kernel)) ggX4_canCompare_X4_isTest
set_option maxRecDepth 20000 in
theorem ggX4_canCompare_X4_placeOf : GoodIn wsX4_canCompare wsX4_placeOf := goodIn_r _ [11] (by decide +kernel) (by decide +kernel)
set_option maxRecDepth 20000 in
theorem gX4_canCompare_X4_placeOf : GoodIn wsX4_canCompare (va_wsS RX4 55 yX4_placeOf wsX4_placeOf) := goodIn_app (goodIn_of _ (by decide +kernel)) ggX4_canCompare_X4_placeOf
set_option maxRecDepth 20000 in
theorem ggX4_canCompare_X4_goesWell : GoodIn wsX4_canCompare wsX4_goesWell := goodIn_r _ [15, 16, 40, 41, 42, 43, 44, 45, 46, 47, 48, 49] (by decide +kernel) (by decide +kernel)
set_option maxRecDepth 20000 in
theorem gX4_canCompare_X4_goesWell : GoodIn wsX4_canCompare (wsV RX4 52 RX4 yX4_goesWell wsX4_goesWell) := goodIn_app (goodIn_of _ (by decide +kernel)) ggX4_canCompare_X4_goesWell
set_option maxRecDepth 20000 in
theorem ggX4_canCompare_X4_findMove : GoodIn wsX4_canCompare wsX4_findMove := goodIn_r _ [20, 21, 22, 23, 24, 25, 26, 4, 27, 28, 29, 9, 10, 11, 30, 31, 32, 2, 3, 5, 33, 34, 35, 36, 37, 38, 39, 40, 41, 42, 43, 44, 45, 46, 47, 48, 49] (by decide +kernel) (by decide +kernel)
set_option maxRecDepth 20000 in
theorem gX4_canCompare_X4_findMove : GoodIn wsX4_canCompare (wsV RX4 95 RX4 yX4_findMove wsX4_findMove) := goodIn_app (goodIn_of _ (by decide +kernel)) ggX4_canCompare_X4_findMove
