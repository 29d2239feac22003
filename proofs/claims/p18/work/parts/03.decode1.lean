theorem dX0_init_0 : decode cX0_init 0 = .ok (.aload_n 0, 1) := by decide +kernel
theorem dX0_init_1 : decode cX0_init 1 = .ok (.invokespecial 3, 3) := by decide +kernel
theorem dX0_init_4 : decode cX0_init 4 = .ok (.aload_n 0, 1) := by decide +kernel
theorem dX0_init_5 : decode cX0_init 5 = .ok (.iconst 5, 1) := by decide +kernel
theorem dX0_init_6 : decode cX0_init 6 = .ok (.newarray .int, 2) := by decide +kernel
theorem dX0_init_8 : decode cX0_init 8 = .ok (.putfield 9, 3) := by decide +kernel
theorem dX0_init_11 : decode cX0_init 11 = .ok (.aload_n 0, 1) := by decide +kernel
theorem dX0_init_12 : decode cX0_init 12 = .ok (.iconst 5, 1) := by decide +kernel
theorem dX0_init_13 : decode cX0_init 13 = .ok (.newarray .int, 2) := by decide +kernel
theorem dX0_init_15 : decode cX0_init 15 = .ok (.putfield 15, 3) := by decide +kernel
theorem dX0_init_18 : decode cX0_init 18 = .ok (.return_, 1) := by decide +kernel
set_option maxRecDepth 20000 in
theorem ggX0_add_X3_isTest : GoodIn wsX0_add wsX3_isTest := goodIn_r _ [9, 10, 11, 8, 12] (by decide +kernel) (by decide +kernel)
set_option maxRecDepth 20000 in
theorem gX0_add_X3_isTest_n18 : GoodIn wsX0_add (wsX3_isTest) := ggX0_add_X3_isTest
theorem dX0_add_0 : decode cX0_add 0 = .ok (.iload_n 1, 1) := by decide +kernel
theorem dX0_add_1 : decode cX0_add 1 = .ok (.invokestatic 18, 3) := by decide +kernel
theorem dX0_add_4 : decode cX0_add 4 = .ok (.ifCond .ne 4, 3) := by decide +kernel
theorem dX0_add_7 : decode cX0_add 7 = .ok (.return_, 1) := by decide +kernel
theorem dX0_add_8 : decode cX0_add 8 = .ok (.aload_n 0, 1) := by decide +kernel
theorem dX0_add_9 : decode cX0_add 9 = .ok (.getfield 9, 3) := by decide +kernel
theorem dX0_add_12 : decode cX0_add 12 = .ok (.iload_n 1, 1) := by decide +kernel
theorem dX0_add_13 : decode cX0_add 13 = .ok (.aload_n 0, 1) := by decide +kernel
theorem dX0_add_14 : decode cX0_add 14 = .ok (.getfield 9, 3) := by decide +kernel
theorem dX0_add_17 : decode cX0_add 17 = .ok (.iload_n 1, 1) := by decide +kernel
theorem dX0_add_18 : decode cX0_add 18 = .ok (.iaload, 1) := by decide +kernel
theorem dX0_add_19 : decode cX0_add 19 = .ok (.iconst 1, 1) := by decide +kernel
theorem dX0_add_20 : decode cX0_add 20 = .ok (.ishl, 1) := by decide +kernel
theorem dX0_add_21 : decode cX0_add 21 = .ok (.iload_n 2, 1) := by decide +kernel
theorem dX0_add_22 : decode cX0_add 22 = .ok (.ifCond .eq 7, 3) := by decide +kernel
theorem dX0_add_25 : decode cX0_add 25 = .ok (.iconst 1, 1) := by decide +kernel
theorem dX0_add_26 : decode cX0_add 26 = .ok (.goto 4, 3) := by decide +kernel
theorem dX0_add_29 : decode cX0_add 29 = .ok (.iconst 0, 1) := by decide +kernel
theorem dX0_add_30 : decode cX0_add 30 = .ok (.ior, 1) := by decide +kernel
theorem dX0_add_31 : decode cX0_add 31 = .ok (.iastore, 1) := by decide +kernel
theorem dX0_add_32 : decode cX0_add 32 = .ok (.aload_n 0, 1) := by decide +kernel
theorem dX0_add_33 : decode cX0_add 33 = .ok (.getfield 15, 3) := by decide +kernel
theorem dX0_add_36 : decode cX0_add 36 = .ok (.iload_n 1, 1) := by decide +kernel
theorem dX0_add_37 : decode cX0_add 37 = .ok (.aload_n 0, 1) := by decide +kernel
theorem dX0_add_38 : decode cX0_add 38 = .ok (.getfield 15, 3) := by decide +kernel
theorem dX0_add_41 : decode cX0_add 41 = .ok (.iload_n 1, 1) := by decide +kernel
theorem dX0_add_42 : decode cX0_add 42 = .ok (.iaload, 1) := by decide +kernel
theorem dX0_add_43 : decode cX0_add 43 = .ok (.iconst 1, 1) := by decide +kernel
theorem dX0_add_44 : decode cX0_add 44 = .ok (.iadd, 1) := by decide +kernel
theorem dX0_add_45 : decode cX0_add 45 = .ok (.bipush 10, 2) := by decide +kernel
theorem dX0_add_47 : decode cX0_add 47 = .ok (.invokestatic 22, 3) := by decide +kernel
theorem dX0_add_50 : decode cX0_add 50 = .ok (.iastore, 1) := by decide +kernel
theorem dX0_add_51 : decode cX0_add 51 = .ok (.return_, 1) := by decide +kernel
set_option maxRecDepth 20000 in
theorem ggX0_length_X3_isTest : GoodIn wsX0_length wsX3_isTest := goodIn_r _ [4, 5, 6, 3, 7] (by decide +kernel) (by decide +kernel)
set_option maxRecDepth 20000 in
theorem gX0_length_X3_isTest_n18 : GoodIn wsX0_length (wsX3_isTest) := ggX0_length_X3_isTest
theorem dX0_length_0 : decode cX0_length 0 = .ok (.iload_n 1, 1) := by decide +kernel
theorem dX0_length_1 : decode cX0_length 1 = .ok (.invokestatic 18, 3) := by decide +kernel
theorem dX0_length_4 : decode cX0_length 4 = .ok (.ifCond .eq 12, 3) := by decide +kernel
theorem dX0_length_7 : decode cX0_length 7 = .ok (.aload_n 0, 1) := by decide +kernel
theorem dX0_length_8 : decode cX0_length 8 = .ok (.getfield 15, 3) := by decide +kernel
theorem dX0_length_11 : decode cX0_length 11 = .ok (.iload_n 1, 1) := by decide +kernel
theorem dX0_length_12 : decode cX0_length 12 = .ok (.iaload, 1) := by decide +kernel
theorem dX0_length_13 : decode cX0_length 13 = .ok (.goto 4, 3) := by decide +kernel
theorem dX0_length_16 : decode cX0_length 16 = .ok (.iconst 0, 1) := by decide +kernel
theorem dX0_length_17 : decode cX0_length 17 = .ok (.ireturn, 1) := by decide +kernel
set_option maxRecDepth 20000 in
theorem ggX0_changes_X3_isTest : GoodIn wsX0_changes wsX3_isTest := goodIn_r _ [5, 6, 7, 4, 8] (by decide +kernel) (by decide +kernel)
set_option maxRecDepth 20000 in
theorem gX0_changes_X3_isTest_n18 : GoodIn wsX0_changes (wsX3_isTest) := ggX0_changes_X3_isTest
set_option maxRecDepth 20000 in
theorem ggX0_changes_J6_bitCount_0f7a4 : GoodIn wsX0_changes wsJ6_bitCount_0f7a4 := goodIn_r _ [12, 13, 14, 15] (by decide +kernel) (by decide +kernel)
set_option maxRecDepth 20000 in
theorem gX0_changes_J6_bitCount_0f7a4 : GoodIn wsX0_changes (va_wsS RX0 28 yJ6_bitCount_0f7a4 wsJ6_bitCount_0f7a4) := goodIn_app (goodIn_of _ (by decide +kernel)) ggX0_changes_J6_bitCount_0f7a4
theorem dX0_changes_0 : decode cX0_changes 0 = .ok (.iload_n 1, 1) := by decide +kernel
theorem dX0_changes_1 : decode cX0_changes 1 = .ok (.invokestatic 18, 3) := by decide +kernel
theorem dX0_changes_4 : decode cX0_changes 4 = .ok (.ifCond .eq 13, 3) := by decide +kernel
theorem dX0_changes_7 : decode cX0_changes 7 = .ok (.aload_n 0, 1) := by decide +kernel
theorem dX0_changes_8 : decode cX0_changes 8 = .ok (.getfield 15, 3) := by decide +kernel
theorem dX0_changes_11 : decode cX0_changes 11 = .ok (.iload_n 1, 1) := by decide +kernel
theorem dX0_changes_12 : decode cX0_changes 12 = .ok (.iaload, 1) := by decide +kernel
theorem dX0_changes_13 : decode cX0_changes 13 = .ok (.iconst 2, 1) := by decide +kernel
theorem dX0_changes_14 : decode cX0_changes 14 = .ok (.if_icmp .ge 5, 3) := by decide +kernel
theorem dX0_changes_17 : decode cX0_changes 17 = .ok (.iconst 0, 1) := by decide +kernel
theorem dX0_changes_18 : decode cX0_changes 18 = .ok (.ireturn, 1) := by decide +kernel
theorem dX0_changes_19 : decode cX0_changes 19 = .ok (.iconst 1, 1) := by decide +kernel
theorem dX0_changes_20 : decode cX0_changes 20 = .ok (.aload_n 0, 1) := by decide +kernel
theorem dX0_changes_21 : decode cX0_changes 21 = .ok (.getfield 15, 3) := by decide +kernel
theorem dX0_changes_24 : decode cX0_changes 24 = .ok (.iload_n 1, 1) := by decide +kernel
theorem dX0_changes_25 : decode cX0_changes 25 = .ok (.iaload, 1) := by decide +kernel
theorem dX0_changes_26 : decode cX0_changes 26 = .ok (.iconst 1, 1) := by decide +kernel
theorem dX0_changes_27 : decode cX0_changes 27 = .ok (.isub, 1) := by decide +kernel
theorem dX0_changes_28 : decode cX0_changes 28 = .ok (.ishl, 1) := by decide +kernel
theorem dX0_changes_29 : decode cX0_changes 29 = .ok (.iconst 1, 1) := by decide +kernel
theorem dX0_changes_30 : decode cX0_changes 30 = .ok (.isub, 1) := by decide +kernel
theorem dX0_changes_31 : decode cX0_changes 31 = .ok (.istore_n 2, 1) := by decide +kernel
theorem dX0_changes_32 : decode cX0_changes 32 = .ok (.aload_n 0, 1) := by decide +kernel
theorem dX0_changes_33 : decode cX0_changes 33 = .ok (.getfield 9, 3) := by decide +kernel
theorem dX0_changes_36 : decode cX0_changes 36 = .ok (.iload_n 1, 1) := by decide +kernel
theorem dX0_changes_37 : decode cX0_changes 37 = .ok (.iaload, 1) := by decide +kernel
theorem dX0_changes_38 : decode cX0_changes 38 = .ok (.aload_n 0, 1) := by decide +kernel
theorem dX0_changes_39 : decode cX0_changes 39 = .ok (.getfield 9, 3) := by decide +kernel
theorem dX0_changes_42 : decode cX0_changes 42 = .ok (.iload_n 1, 1) := by decide +kernel
theorem dX0_changes_43 : decode cX0_changes 43 = .ok (.iaload, 1) := by decide +kernel
theorem dX0_changes_44 : decode cX0_changes 44 = .ok (.iconst 1, 1) := by decide +kernel
theorem dX0_changes_45 : decode cX0_changes 45 = .ok (.ishr, 1) := by decide +kernel
theorem dX0_changes_46 : decode cX0_changes 46 = .ok (.ixor, 1) := by decide +kernel
theorem dX0_changes_47 : decode cX0_changes 47 = .ok (.istore_n 3, 1) := by decide +kernel
theorem dX0_changes_48 : decode cX0_changes 48 = .ok (.iload_n 3, 1) := by decide +kernel
theorem dX0_changes_49 : decode cX0_changes 49 = .ok (.iload_n 2, 1) := by decide +kernel
theorem dX0_changes_50 : decode cX0_changes 50 = .ok (.iand, 1) := by decide +kernel
theorem dX0_changes_51 : decode cX0_changes 51 = .ok (.invokestatic 28, 3) := by decide +kernel
theorem dX0_changes_54 : decode cX0_changes 54 = .ok (.ireturn, 1) := by decide +kernel
theorem dX1_init_0 : decode cX1_init 0 = .ok (.aload_n 0, 1) := by decide +kernel
theorem dX1_init_1 : decode cX1_init 1 = .ok (.invokespecial 3, 3) := by decide +kernel
theorem dX1_init_4 : decode cX1_init 4 = .ok (.aload_n 0, 1) := by decide +kernel
theorem dX1_init_5 : decode cX1_init 5 = .ok (.sipush 2880, 3) := by decide +kernel
theorem dX1_init_8 : decode cX1_init 8 = .ok (.newarray .int, 2) := by decide +kernel
theorem dX1_init_10 : decode cX1_init 10 = .ok (.putfield 9, 3) := by decide +kernel
theorem dX1_init_13 : decode cX1_init 13 = .ok (.aload_n 0, 1) := by decide +kernel
theorem dX1_init_14 : decode cX1_init 14 = .ok (.bipush 45, 2) := by decide +kernel
theorem dX1_init_16 : decode cX1_init 16 = .ok (.newarray .boolean, 2) := by decide +kernel
theorem dX1_init_18 : decode cX1_init 18 = .ok (.putfield 15, 3) := by decide +kernel
theorem dX1_init_21 : decode cX1_init 21 = .ok (.iconst 0, 1) := by decide +kernel
theorem dX1_init_22 : decode cX1_init 22 = .ok (.istore_n 1, 1) := by decide +kernel
theorem dX1_init_23 : decode cX1_init 23 = .ok (.iload_n 1, 1) := by decide +kernel
theorem dX1_init_24 : decode cX1_init 24 = .ok (.iconst 5, 1) := by decide +kernel
theorem dX1_init_25 : decode cX1_init 25 = .ok (.if_icmp .ge 16, 3) := by decide +kernel
theorem dX1_init_28 : decode cX1_init 28 = .ok (.aload_n 0, 1) := by decide +kernel
theorem dX1_init_29 : decode cX1_init 29 = .ok (.getfield 15, 3) := by decide +kernel
theorem dX1_init_32 : decode cX1_init 32 = .ok (.iload_n 1, 1) := by decide +kernel
theorem dX1_init_33 : decode cX1_init 33 = .ok (.iconst 1, 1) := by decide +kernel
theorem dX1_init_34 : decode cX1_init 34 = .ok (.bastore, 1) := by decide +kernel
theorem dX1_init_35 : decode cX1_init 35 = .ok (.iinc 1 1, 3) := by decide +kernel
theorem dX1_init_38 : decode cX1_init 38 = .ok (.goto (-15), 3) := by decide +kernel
theorem dX1_init_41 : decode cX1_init 41 = .ok (.return_, 1) := by decide +kernel
set_option maxRecDepth 20000 in
theorem ggX1_isSlot_X3_isWithin : GoodIn wsX1_isSlot wsX3_isWithin := goodIn_r _ [3] (by decide +kernel) (by decide +kernel)
set_option maxRecDepth 20000 in
theorem gX1_isSlot_X3_isWithin_n19 : GoodIn wsX1_isSlot (wsX3_isWithin) := ggX1_isSlot_X3_isWithin
theorem dX1_isSlot_0 : decode cX1_isSlot 0 = .ok (.iload_n 0, 1) := by decide +kernel
theorem dX1_isSlot_1 : decode cX1_isSlot 1 = .ok (.iconst 0, 1) := by decide +kernel
theorem dX1_isSlot_2 : decode cX1_isSlot 2 = .ok (.bipush 44, 2) := by decide +kernel
theorem dX1_isSlot_4 : decode cX1_isSlot 4 = .ok (.invokestatic 19, 3) := by decide +kernel
theorem dX1_isSlot_7 : decode cX1_isSlot 7 = .ok (.ireturn, 1) := by decide +kernel
theorem dX1_place_0 : decode cX1_place 0 = .ok (.iload_n 0, 1) := by decide +kernel
theorem dX1_place_1 : decode cX1_place 1 = .ok (.bipush 64, 2) := by decide +kernel
theorem dX1_place_3 : decode cX1_place 3 = .ok (.imul, 1) := by decide +kernel
theorem dX1_place_4 : decode cX1_place 4 = .ok (.iload_n 2, 1) := by decide +kernel
theorem dX1_place_5 : decode cX1_place 5 = .ok (.bipush 8, 2) := by decide +kernel
theorem dX1_place_7 : decode cX1_place 7 = .ok (.imul, 1) := by decide +kernel
theorem dX1_place_8 : decode cX1_place 8 = .ok (.iadd, 1) := by decide +kernel
theorem dX1_place_9 : decode cX1_place 9 = .ok (.iload_n 1, 1) := by decide +kernel
theorem dX1_place_10 : decode cX1_place 10 = .ok (.iadd, 1) := by decide +kernel
theorem dX1_place_11 : decode cX1_place 11 = .ok (.ireturn, 1) := by decide +kernel
set_option maxRecDepth 20000 in
theorem ggX1_has_X1_isSlot : GoodIn wsX1_has wsX1_isSlot := goodIn_r _ [5, 6, 7, 8] (by decide +kernel) (by decide +kernel)
set_option maxRecDepth 20000 in
theorem gX1_has_X1_isSlot : GoodIn wsX1_has (va_wsS RX1 23 yX1_isSlot wsX1_isSlot) := goodIn_app (goodIn_of _ (by decide +kernel)) ggX1_has_X1_isSlot
theorem dX1_has_0 : decode cX1_has 0 = .ok (.iload_n 1, 1) := by decide +kernel
theorem dX1_has_1 : decode cX1_has 1 = .ok (.invokestatic 23, 3) := by decide +kernel
theorem dX1_has_4 : decode cX1_has 4 = .ok (.ifCond .eq 16, 3) := by decide +kernel
theorem dX1_has_7 : decode cX1_has 7 = .ok (.aload_n 0, 1) := by decide +kernel
theorem dX1_has_8 : decode cX1_has 8 = .ok (.getfield 15, 3) := by decide +kernel
theorem dX1_has_11 : decode cX1_has 11 = .ok (.iload_n 1, 1) := by decide +kernel
theorem dX1_has_12 : decode cX1_has 12 = .ok (.baload, 1) := by decide +kernel
theorem dX1_has_13 : decode cX1_has 13 = .ok (.ifCond .eq 7, 3) := by decide +kernel
theorem dX1_has_16 : decode cX1_has 16 = .ok (.iconst 1, 1) := by decide +kernel
theorem dX1_has_17 : decode cX1_has 17 = .ok (.goto 4, 3) := by decide +kernel
theorem dX1_has_20 : decode cX1_has 20 = .ok (.iconst 0, 1) := by decide +kernel
theorem dX1_has_21 : decode cX1_has 21 = .ok (.ireturn, 1) := by decide +kernel
set_option maxRecDepth 20000 in
theorem ggX1_at_X1_isSlot : GoodIn wsX1_at wsX1_isSlot := goodIn_r _ [5, 6, 7, 8] (by decide +kernel) (by decide +kernel)
set_option maxRecDepth 20000 in
theorem gX1_at_X1_isSlot : GoodIn wsX1_at (va_wsS RX1 23 yX1_isSlot wsX1_isSlot) := goodIn_app (goodIn_of _ (by decide +kernel)) ggX1_at_X1_isSlot
set_option maxRecDepth 20000 in
theorem ggX1_at_X3_isCell : GoodIn wsX1_at wsX3_isCell := goodIn_r _ [10, 11, 6, 7, 8] (by decide +kernel) (by decide +kernel)
set_option maxRecDepth 20000 in
theorem gX1_at_X3_isCell_n27 : GoodIn wsX1_at (wsX3_isCell) := ggX1_at_X3_isCell
set_option maxRecDepth 20000 in
theorem ggX1_at_X1_place : GoodIn wsX1_at wsX1_place := goodIn_r _ [14] (by decide +kernel) (by decide +kernel)
set_option maxRecDepth 20000 in
theorem gX1_at_X1_place : GoodIn wsX1_at (va_wsS RX1 31 yX1_place wsX1_place) := goodIn_app (goodIn_of _ (by decide +kernel)) ggX1_at_X1_place
theorem dX1_at_0 : decode cX1_at 0 = .ok (.iload_n 1, 1) := by decide +kernel
theorem dX1_at_1 : decode cX1_at 1 = .ok (.invokestatic 23, 3) := by decide +kernel
theorem dX1_at_4 : decode cX1_at 4 = .ok (.ifCond .eq 11, 3) := by decide +kernel
theorem dX1_at_7 : decode cX1_at 7 = .ok (.iload_n 2, 1) := by decide +kernel
theorem dX1_at_8 : decode cX1_at 8 = .ok (.iload_n 3, 1) := by decide +kernel
theorem dX1_at_9 : decode cX1_at 9 = .ok (.invokestatic 27, 3) := by decide +kernel
theorem dX1_at_12 : decode cX1_at 12 = .ok (.ifCond .ne 5, 3) := by decide +kernel
theorem dX1_at_15 : decode cX1_at 15 = .ok (.iconst 0, 1) := by decide +kernel
theorem dX1_at_16 : decode cX1_at 16 = .ok (.ireturn, 1) := by decide +kernel
theorem dX1_at_17 : decode cX1_at 17 = .ok (.aload_n 0, 1) := by decide +kernel
theorem dX1_at_18 : decode cX1_at 18 = .ok (.getfield 9, 3) := by decide +kernel
theorem dX1_at_21 : decode cX1_at 21 = .ok (.iload_n 1, 1) := by decide +kernel
theorem dX1_at_22 : decode cX1_at 22 = .ok (.iload_n 2, 1) := by decide +kernel
theorem dX1_at_23 : decode cX1_at 23 = .ok (.iload_n 3, 1) := by decide +kernel
theorem dX1_at_24 : decode cX1_at 24 = .ok (.invokestatic 31, 3) := by decide +kernel
theorem dX1_at_27 : decode cX1_at 27 = .ok (.iaload, 1) := by decide +kernel
theorem dX1_at_28 : decode cX1_at 28 = .ok (.ireturn, 1) := by decide +kernel
set_option maxRecDepth 20000 in
theorem ggX1_put_X1_isSlot : GoodIn wsX1_put wsX1_isSlot := goodIn_r _ [5, 6, 7, 8] (by decide +kernel) (by decide +kernel)
set_option maxRecDepth 20000 in
theorem gX1_put_X1_isSlot : GoodIn wsX1_put (va_wsS RX1 23 yX1_isSlot wsX1_isSlot) := goodIn_app (goodIn_of _ (by decide +kernel)) ggX1_put_X1_isSlot
set_option maxRecDepth 20000 in
theorem ggX1_put_X3_isCell : GoodIn wsX1_put wsX3_isCell := goodIn_r _ [10, 11, 6, 7, 8] (by decide +kernel) (by decide +kernel)
set_option maxRecDepth 20000 in
theorem gX1_put_X3_isCell_n27 : GoodIn wsX1_put (wsX3_isCell) := ggX1_put_X3_isCell
set_option maxRecDepth 20000 in
theorem ggX1_put_X1_place : GoodIn wsX1_put wsX1_place := goodIn_r _ [14] (by decide +kernel) (by decide +kernel)
set_option maxRecDepth 20000 in
theorem gX1_put_X1_place : GoodIn wsX1_put (va_wsS RX1 31 yX1_place wsX1_place) := goodIn_app (goodIn_of _ (by decide +kernel)) ggX1_put_X1_place
theorem dX1_put_0 : decode cX1_put 0 = .ok (.iload_n 1, 1) := by decide +kernel
theorem dX1_put_1 : decode cX1_put 1 = .ok (.invokestatic 23, 3) := by decide +kernel
theorem dX1_put_4 : decode cX1_put 4 = .ok (.ifCond .eq 11, 3) := by decide +kernel
theorem dX1_put_7 : decode cX1_put 7 = .ok (.iload_n 2, 1) := by decide +kernel
theorem dX1_put_8 : decode cX1_put 8 = .ok (.iload_n 3, 1) := by decide +kernel
theorem dX1_put_9 : decode cX1_put 9 = .ok (.invokestatic 27, 3) := by decide +kernel
theorem dX1_put_12 : decode cX1_put 12 = .ok (.ifCond .ne 5, 3) := by decide +kernel
theorem dX1_put_15 : decode cX1_put 15 = .ok (.iconst 0, 1) := by decide +kernel
theorem dX1_put_16 : decode cX1_put 16 = .ok (.ireturn, 1) := by decide +kernel
theorem dX1_put_17 : decode cX1_put 17 = .ok (.iload_n 1, 1) := by decide +kernel
theorem dX1_put_18 : decode cX1_put 18 = .ok (.iload_n 2, 1) := by decide +kernel
theorem dX1_put_19 : decode cX1_put 19 = .ok (.iload_n 3, 1) := by decide +kernel
theorem dX1_put_20 : decode cX1_put 20 = .ok (.invokestatic 31, 3) := by decide +kernel
theorem dX1_put_23 : decode cX1_put 23 = .ok (.istore 5, 2) := by decide +kernel
theorem dX1_put_25 : decode cX1_put 25 = .ok (.aload_n 0, 1) := by decide +kernel
theorem dX1_put_26 : decode cX1_put 26 = .ok (.getfield 9, 3) := by decide +kernel
theorem dX1_put_29 : decode cX1_put 29 = .ok (.iload 5, 2) := by decide +kernel
theorem dX1_put_31 : decode cX1_put 31 = .ok (.iaload, 1) := by decide +kernel
theorem dX1_put_32 : decode cX1_put 32 = .ok (.iload 4, 2) := by decide +kernel
theorem dX1_put_34 : decode cX1_put 34 = .ok (.if_icmp .eq 7, 3) := by decide +kernel
theorem dX1_put_37 : decode cX1_put 37 = .ok (.iconst 1, 1) := by decide +kernel
theorem dX1_put_38 : decode cX1_put 38 = .ok (.goto 4, 3) := by decide +kernel
theorem dX1_put_41 : decode cX1_put 41 = .ok (.iconst 0, 1) := by decide +kernel
theorem dX1_put_42 : decode cX1_put 42 = .ok (.istore 6, 2) := by decide +kernel
theorem dX1_put_44 : decode cX1_put 44 = .ok (.aload_n 0, 1) := by decide +kernel
theorem dX1_put_45 : decode cX1_put 45 = .ok (.getfield 9, 3) := by decide +kernel
theorem dX1_put_48 : decode cX1_put 48 = .ok (.iload 5, 2) := by decide +kernel
theorem dX1_put_50 : decode cX1_put 50 = .ok (.iload 4, 2) := by decide +kernel
theorem dX1_put_52 : decode cX1_put 52 = .ok (.iastore, 1) := by decide +kernel
theorem dX1_put_53 : decode cX1_put 53 = .ok (.iload 6, 2) := by decide +kernel
theorem dX1_put_55 : decode cX1_put 55 = .ok (.ireturn, 1) := by decide +kernel
set_option maxRecDepth 20000 in
theorem ggX1_copy_X1_isSlot : GoodIn wsX1_copy wsX1_isSlot := goodIn_r _ [10, 11, 12, 13] (by decide +kernel) (by decide +kernel)
set_option maxRecDepth 20000 in
theorem gX1_copy_X1_isSlot : GoodIn wsX1_copy (va_wsS RX1 23 yX1_isSlot wsX1_isSlot) := goodIn_app (goodIn_of _ (by decide +kernel)) ggX1_copy_X1_isSlot
theorem dX1_copy_0 : decode cX1_copy 0 = .ok (.iload_n 1, 1) := by decide +kernel
theorem dX1_copy_1 : decode cX1_copy 1 = .ok (.invokestatic 23, 3) := by decide +kernel
theorem dX1_copy_4 : decode cX1_copy 4 = .ok (.ifCond .eq 10, 3) := by decide +kernel
theorem dX1_copy_7 : decode cX1_copy 7 = .ok (.iload_n 2, 1) := by decide +kernel
theorem dX1_copy_8 : decode cX1_copy 8 = .ok (.invokestatic 23, 3) := by decide +kernel
theorem dX1_copy_11 : decode cX1_copy 11 = .ok (.ifCond .ne 4, 3) := by decide +kernel
theorem dX1_copy_14 : decode cX1_copy 14 = .ok (.return_, 1) := by decide +kernel
theorem dX1_copy_15 : decode cX1_copy 15 = .ok (.aload_n 0, 1) := by decide +kernel
theorem dX1_copy_16 : decode cX1_copy 16 = .ok (.getfield 9, 3) := by decide +kernel
theorem dX1_copy_19 : decode cX1_copy 19 = .ok (.iload_n 1, 1) := by decide +kernel
theorem dX1_copy_20 : decode cX1_copy 20 = .ok (.bipush 64, 2) := by decide +kernel
theorem dX1_copy_22 : decode cX1_copy 22 = .ok (.imul, 1) := by decide +kernel
theorem dX1_copy_23 : decode cX1_copy 23 = .ok (.aload_n 0, 1) := by decide +kernel
theorem dX1_copy_24 : decode cX1_copy 24 = .ok (.getfield 9, 3) := by decide +kernel
theorem dX1_copy_27 : decode cX1_copy 27 = .ok (.iload_n 2, 1) := by decide +kernel
theorem dX1_copy_28 : decode cX1_copy 28 = .ok (.bipush 64, 2) := by decide +kernel
theorem dX1_copy_30 : decode cX1_copy 30 = .ok (.imul, 1) := by decide +kernel
theorem dX1_copy_31 : decode cX1_copy 31 = .ok (.bipush 64, 2) := by decide +kernel
theorem dX1_copy_33 : decode cX1_copy 33 = .ok (.invokestatic 35, 3) := by decide +kernel
theorem dX1_copy_36 : decode cX1_copy 36 = .ok (.aload_n 0, 1) := by decide +kernel
theorem dX1_copy_37 : decode cX1_copy 37 = .ok (.getfield 15, 3) := by decide +kernel
theorem dX1_copy_40 : decode cX1_copy 40 = .ok (.iload_n 2, 1) := by decide +kernel
theorem dX1_copy_41 : decode cX1_copy 41 = .ok (.aload_n 0, 1) := by decide +kernel
theorem dX1_copy_42 : decode cX1_copy 42 = .ok (.getfield 15, 3) := by decide +kernel
theorem dX1_copy_45 : decode cX1_copy 45 = .ok (.iload_n 1, 1) := by decide +kernel
theorem dX1_copy_46 : decode cX1_copy 46 = .ok (.baload, 1) := by decide +kernel
theorem dX1_copy_47 : decode cX1_copy 47 = .ok (.bastore, 1) := by decide +kernel
theorem dX1_copy_48 : decode cX1_copy 48 = .ok (.return_, 1) := by decide +kernel
set_option maxRecDepth 20000 in
theorem ggX1_same_X1_has : GoodIn wsX1_same wsX1_has := goodIn_r _ [6, 7, 8, 9, 5, 10, 11, 12, 13, 14, 15] (by decide +kernel) (by decide +kernel)
set_option maxRecDepth 20000 in
theorem gX1_same_X1_has : GoodIn wsX1_same (wsV RX1 41 RX1 yX1_has wsX1_has) := goodIn_app (goodIn_of _ (by decide +kernel)) ggX1_same_X1_has
theorem dX1_same_0 : decode cX1_same 0 = .ok (.aload_n 0, 1) := by decide +kernel
theorem dX1_same_1 : decode cX1_same 1 = .ok (.iload_n 1, 1) := by decide +kernel
theorem dX1_same_2 : decode cX1_same 2 = .ok (.invokevirtual 41, 3) := by decide +kernel
theorem dX1_same_5 : decode cX1_same 5 = .ok (.ifCond .eq 11, 3) := by decide +kernel
theorem dX1_same_8 : decode cX1_same 8 = .ok (.aload_n 0, 1) := by decide +kernel
theorem dX1_same_9 : decode cX1_same 9 = .ok (.iload_n 2, 1) := by decide +kernel
theorem dX1_same_10 : decode cX1_same 10 = .ok (.invokevirtual 41, 3) := by decide +kernel
theorem dX1_same_13 : decode cX1_same 13 = .ok (.ifCond .ne 22, 3) := by decide +kernel
theorem dX1_same_16 : decode cX1_same 16 = .ok (.aload_n 0, 1) := by decide +kernel
theorem dX1_same_17 : decode cX1_same 17 = .ok (.iload_n 1, 1) := by decide +kernel
theorem dX1_same_18 : decode cX1_same 18 = .ok (.invokevirtual 41, 3) := by decide +kernel
theorem dX1_same_21 : decode cX1_same 21 = .ok (.aload_n 0, 1) := by decide +kernel
theorem dX1_same_22 : decode cX1_same 22 = .ok (.iload_n 2, 1) := by decide +kernel
theorem dX1_same_23 : decode cX1_same 23 = .ok (.invokevirtual 41, 3) := by decide +kernel
theorem dX1_same_26 : decode cX1_same 26 = .ok (.if_icmp .ne 7, 3) := by decide +kernel
theorem dX1_same_29 : decode cX1_same 29 = .ok (.iconst 1, 1) := by decide +kernel
theorem dX1_same_30 : decode cX1_same 30 = .ok (.goto 4, 3) := by decide +kernel
theorem dX1_same_33 : decode cX1_same 33 = .ok (.iconst 0, 1) := by decide +kernel
theorem dX1_same_34 : decode cX1_same 34 = .ok (.ireturn, 1) := by decide +kernel
theorem dX1_same_35 : decode cX1_same 35 = .ok (.iconst 0, 1) := by decide +kernel
theorem dX1_same_36 : decode cX1_same 36 = .ok (.istore_n 3, 1) := by decide +kernel
theorem dX1_same_37 : decode cX1_same 37 = .ok (.iload_n 3, 1) := by decide +kernel
theorem dX1_same_38 : decode cX1_same 38 = .ok (.bipush 64, 2) := by decide +kernel
theorem dX1_same_40 : decode cX1_same 40 = .ok (.if_icmp .ge 36, 3) := by decide +kernel
theorem dX1_same_43 : decode cX1_same 43 = .ok (.aload_n 0, 1) := by decide +kernel
theorem dX1_same_44 : decode cX1_same 44 = .ok (.getfield 9, 3) := by decide +kernel
theorem dX1_same_47 : decode cX1_same 47 = .ok (.iload_n 1, 1) := by decide +kernel
theorem dX1_same_48 : decode cX1_same 48 = .ok (.bipush 64, 2) := by decide +kernel
theorem dX1_same_50 : decode cX1_same 50 = .ok (.imul, 1) := by decide +kernel
theorem dX1_same_51 : decode cX1_same 51 = .ok (.iload_n 3, 1) := by decide +kernel
theorem dX1_same_52 : decode cX1_same 52 = .ok (.iadd, 1) := by decide +kernel
theorem dX1_same_53 : decode cX1_same 53 = .ok (.iaload, 1) := by decide +kernel
theorem dX1_same_54 : decode cX1_same 54 = .ok (.aload_n 0, 1) := by decide +kernel
theorem dX1_same_55 : decode cX1_same 55 = .ok (.getfield 9, 3) := by decide +kernel
theorem dX1_same_58 : decode cX1_same 58 = .ok (.iload_n 2, 1) := by decide +kernel
theorem dX1_same_59 : decode cX1_same 59 = .ok (.bipush 64, 2) := by decide +kernel
theorem dX1_same_61 : decode cX1_same 61 = .ok (.imul, 1) := by decide +kernel
theorem dX1_same_62 : decode cX1_same 62 = .ok (.iload_n 3, 1) := by decide +kernel
theorem dX1_same_63 : decode cX1_same 63 = .ok (.iadd, 1) := by decide +kernel
theorem dX1_same_64 : decode cX1_same 64 = .ok (.iaload, 1) := by decide +kernel
theorem dX1_same_65 : decode cX1_same 65 = .ok (.if_icmp .eq 5, 3) := by decide +kernel
theorem dX1_same_68 : decode cX1_same 68 = .ok (.iconst 0, 1) := by decide +kernel
theorem dX1_same_69 : decode cX1_same 69 = .ok (.ireturn, 1) := by decide +kernel
theorem dX1_same_70 : decode cX1_same 70 = .ok (.iinc 3 1, 3) := by decide +kernel
theorem dX1_same_73 : decode cX1_same 73 = .ok (.goto (-36), 3) := by decide +kernel
theorem dX1_same_76 : decode cX1_same 76 = .ok (.iconst 1, 1) := by decide +kernel
theorem dX1_same_77 : decode cX1_same 77 = .ok (.ireturn, 1) := by decide +kernel
theorem dX2_init_0 : decode cX2_init 0 = .ok (.aload_n 0, 1) := by decide +kernel
theorem dX2_init_1 : decode cX2_init 1 = .ok (.invokespecial 3, 3) := by decide +kernel
theorem dX2_init_4 : decode cX2_init 4 = .ok (.aload_n 0, 1) := by decide +kernel
theorem dX2_init_5 : decode cX2_init 5 = .ok (.iconst 5, 1) := by decide +kernel
theorem dX2_init_6 : decode cX2_init 6 = .ok (.newarray .int, 2) := by decide +kernel
theorem dX2_init_8 : decode cX2_init 8 = .ok (.putfield 9, 3) := by decide +kernel
theorem dX2_init_11 : decode cX2_init 11 = .ok (.aload_n 0, 1) := by decide +kernel
theorem dX2_init_12 : decode cX2_init 12 = .ok (.iconst 5, 1) := by decide +kernel
theorem dX2_init_13 : decode cX2_init 13 = .ok (.newarray .int, 2) := by decide +kernel
theorem dX2_init_15 : decode cX2_init 15 = .ok (.putfield 15, 3) := by decide +kernel
theorem dX2_init_18 : decode cX2_init 18 = .ok (.aload_n 0, 1) := by decide +kernel
theorem dX2_init_19 : decode cX2_init 19 = .ok (.iconst 5, 1) := by decide +kernel
theorem dX2_init_20 : decode cX2_init 20 = .ok (.newarray .int, 2) := by decide +kernel
theorem dX2_init_22 : decode cX2_init 22 = .ok (.putfield 18, 3) := by decide +kernel
theorem dX2_init_25 : decode cX2_init 25 = .ok (.aload_n 0, 1) := by decide +kernel
theorem dX2_init_26 : decode cX2_init 26 = .ok (.iconst 5, 1) := by decide +kernel
theorem dX2_init_27 : decode cX2_init 27 = .ok (.newarray .int, 2) := by decide +kernel
theorem dX2_init_29 : decode cX2_init 29 = .ok (.putfield 21, 3) := by decide +kernel
theorem dX2_init_32 : decode cX2_init 32 = .ok (.return_, 1) := by decide +kernel
set_option maxRecDepth 20000 in
theorem ggX2_put_X3_isTest : GoodIn wsX2_put wsX3_isTest := goodIn_r _ [7, 8, 9, 6, 10] (by decide +kernel) (by decide +kernel)
set_option maxRecDepth 20000 in
theorem gX2_put_X3_isTest_n24 : GoodIn wsX2_put (wsX3_isTest) := ggX2_put_X3_isTest
theorem dX2_put_0 : decode cX2_put 0 = .ok (.iload_n 1, 1) := by decide +kernel
theorem dX2_put_1 : decode cX2_put 1 = .ok (.invokestatic 24, 3) := by decide +kernel
theorem dX2_put_4 : decode cX2_put 4 = .ok (.ifCond .ne 4, 3) := by decide +kernel
theorem dX2_put_7 : decode cX2_put 7 = .ok (.return_, 1) := by decide +kernel
theorem dX2_put_8 : decode cX2_put 8 = .ok (.aload_n 0, 1) := by decide +kernel
theorem dX2_put_9 : decode cX2_put 9 = .ok (.getfield 9, 3) := by decide +kernel
theorem dX2_put_12 : decode cX2_put 12 = .ok (.iload_n 1, 1) := by decide +kernel
theorem dX2_put_13 : decode cX2_put 13 = .ok (.iload_n 2, 1) := by decide +kernel
theorem dX2_put_14 : decode cX2_put 14 = .ok (.iastore, 1) := by decide +kernel
theorem dX2_put_15 : decode cX2_put 15 = .ok (.aload_n 0, 1) := by decide +kernel
theorem dX2_put_16 : decode cX2_put 16 = .ok (.getfield 15, 3) := by decide +kernel
theorem dX2_put_19 : decode cX2_put 19 = .ok (.iload_n 1, 1) := by decide +kernel
theorem dX2_put_20 : decode cX2_put 20 = .ok (.iload_n 3, 1) := by decide +kernel
theorem dX2_put_21 : decode cX2_put 21 = .ok (.iastore, 1) := by decide +kernel
theorem dX2_put_22 : decode cX2_put 22 = .ok (.aload_n 0, 1) := by decide +kernel
theorem dX2_put_23 : decode cX2_put 23 = .ok (.getfield 18, 3) := by decide +kernel
theorem dX2_put_26 : decode cX2_put 26 = .ok (.iload_n 1, 1) := by decide +kernel
theorem dX2_put_27 : decode cX2_put 27 = .ok (.iload_n 2, 1) := by decide +kernel
theorem dX2_put_28 : decode cX2_put 28 = .ok (.iload 4, 2) := by decide +kernel
theorem dX2_put_30 : decode cX2_put 30 = .ok (.iadd, 1) := by decide +kernel
theorem dX2_put_31 : decode cX2_put 31 = .ok (.iastore, 1) := by decide +kernel
theorem dX2_put_32 : decode cX2_put 32 = .ok (.aload_n 0, 1) := by decide +kernel
theorem dX2_put_33 : decode cX2_put 33 = .ok (.getfield 21, 3) := by decide +kernel
theorem dX2_put_36 : decode cX2_put 36 = .ok (.iload_n 1, 1) := by decide +kernel
theorem dX2_put_37 : decode cX2_put 37 = .ok (.iload_n 3, 1) := by decide +kernel
theorem dX2_put_38 : decode cX2_put 38 = .ok (.iload 5, 2) := by decide +kernel
theorem dX2_put_40 : decode cX2_put 40 = .ok (.iadd, 1) := by decide +kernel
theorem dX2_put_41 : decode cX2_put 41 = .ok (.iastore, 1) := by decide +kernel
theorem dX2_put_42 : decode cX2_put 42 = .ok (.return_, 1) := by decide +kernel
set_option maxRecDepth 20000 in
theorem ggX2_drop_X2_put : GoodIn wsX2_drop wsX2_put := goodIn_r _ [5, 6, 7, 8, 9, 10, 11, 12, 13, 14, 15, 16, 17, 18, 19] (by decide +kernel) (by decide +kernel)
set_option maxRecDepth 20000 in
theorem gX2_drop_X2_put : GoodIn wsX2_drop (wsV RX2 28 RX2 yX2_put wsX2_put) := goodIn_app (goodIn_of _ (by decide +kernel)) ggX2_drop_X2_put
theorem dX2_drop_0 : decode cX2_drop 0 = .ok (.aload_n 0, 1) := by decide +kernel
theorem dX2_drop_1 : decode cX2_drop 1 = .ok (.iload_n 1, 1) := by decide +kernel
theorem dX2_drop_2 : decode cX2_drop 2 = .ok (.iconst 0, 1) := by decide +kernel
theorem dX2_drop_3 : decode cX2_drop 3 = .ok (.iconst 0, 1) := by decide +kernel
theorem dX2_drop_4 : decode cX2_drop 4 = .ok (.iconst 0, 1) := by decide +kernel
theorem dX2_drop_5 : decode cX2_drop 5 = .ok (.iconst 0, 1) := by decide +kernel
theorem dX2_drop_6 : decode cX2_drop 6 = .ok (.invokevirtual 28, 3) := by decide +kernel
theorem dX2_drop_9 : decode cX2_drop 9 = .ok (.return_, 1) := by decide +kernel
set_option maxRecDepth 20000 in
theorem ggX2_has_X3_isTest : GoodIn wsX2_has wsX3_isTest := goodIn_r _ [5, 6, 7, 4, 8] (by decide +kernel) (by decide +kernel)
set_option maxRecDepth 20000 in
theorem gX2_has_X3_isTest_n24 : GoodIn wsX2_has (wsX3_isTest) := ggX2_has_X3_isTest
theorem dX2_has_0 : decode cX2_has 0 = .ok (.iload_n 1, 1) := by decide +kernel
theorem dX2_has_1 : decode cX2_has 1 = .ok (.invokestatic 24, 3) := by decide +kernel
theorem dX2_has_4 : decode cX2_has 4 = .ok (.ifCond .eq 22, 3) := by decide +kernel
theorem dX2_has_7 : decode cX2_has 7 = .ok (.aload_n 0, 1) := by decide +kernel
theorem dX2_has_8 : decode cX2_has 8 = .ok (.getfield 9, 3) := by decide +kernel
theorem dX2_has_11 : decode cX2_has 11 = .ok (.iload_n 1, 1) := by decide +kernel
theorem dX2_has_12 : decode cX2_has 12 = .ok (.iaload, 1) := by decide +kernel
theorem dX2_has_13 : decode cX2_has 13 = .ok (.aload_n 0, 1) := by decide +kernel
theorem dX2_has_14 : decode cX2_has 14 = .ok (.getfield 18, 3) := by decide +kernel
theorem dX2_has_17 : decode cX2_has 17 = .ok (.iload_n 1, 1) := by decide +kernel
theorem dX2_has_18 : decode cX2_has 18 = .ok (.iaload, 1) := by decide +kernel
theorem dX2_has_19 : decode cX2_has 19 = .ok (.if_icmp .ge 7, 3) := by decide +kernel
theorem dX2_has_22 : decode cX2_has 22 = .ok (.iconst 1, 1) := by decide +kernel
theorem dX2_has_23 : decode cX2_has 23 = .ok (.goto 4, 3) := by decide +kernel
theorem dX2_has_26 : decode cX2_has 26 = .ok (.iconst 0, 1) := by decide +kernel
theorem dX2_has_27 : decode cX2_has 27 = .ok (.ireturn, 1) := by decide +kernel
set_option maxRecDepth 20000 in
theorem ggX2_holds_X3_isTest : GoodIn wsX2_holds wsX3_isTest := goodIn_r _ [7, 8, 9, 6, 10] (by decide +kernel) (by decide +kernel)
set_option maxRecDepth 20000 in
theorem gX2_holds_X3_isTest_n24 : GoodIn wsX2_holds (wsX3_isTest) := ggX2_holds_X3_isTest
theorem dX2_holds_0 : decode cX2_holds 0 = .ok (.iload_n 1, 1) := by decide +kernel
theorem dX2_holds_1 : decode cX2_holds 1 = .ok (.invokestatic 24, 3) := by decide +kernel
theorem dX2_holds_4 : decode cX2_holds 4 = .ok (.ifCond .eq 47, 3) := by decide +kernel
theorem dX2_holds_7 : decode cX2_holds 7 = .ok (.iload_n 2, 1) := by decide +kernel
theorem dX2_holds_8 : decode cX2_holds 8 = .ok (.aload_n 0, 1) := by decide +kernel
theorem dX2_holds_9 : decode cX2_holds 9 = .ok (.getfield 9, 3) := by decide +kernel
theorem dX2_holds_12 : decode cX2_holds 12 = .ok (.iload_n 1, 1) := by decide +kernel
theorem dX2_holds_13 : decode cX2_holds 13 = .ok (.iaload, 1) := by decide +kernel
theorem dX2_holds_14 : decode cX2_holds 14 = .ok (.if_icmp .lt 37, 3) := by decide +kernel
theorem dX2_holds_17 : decode cX2_holds 17 = .ok (.iload_n 2, 1) := by decide +kernel
theorem dX2_holds_18 : decode cX2_holds 18 = .ok (.aload_n 0, 1) := by decide +kernel
theorem dX2_holds_19 : decode cX2_holds 19 = .ok (.getfield 18, 3) := by decide +kernel
theorem dX2_holds_22 : decode cX2_holds 22 = .ok (.iload_n 1, 1) := by decide +kernel
theorem dX2_holds_23 : decode cX2_holds 23 = .ok (.iaload, 1) := by decide +kernel
theorem dX2_holds_24 : decode cX2_holds 24 = .ok (.if_icmp .ge 27, 3) := by decide +kernel
theorem dX2_holds_27 : decode cX2_holds 27 = .ok (.iload_n 3, 1) := by decide +kernel
theorem dX2_holds_28 : decode cX2_holds 28 = .ok (.aload_n 0, 1) := by decide +kernel
theorem dX2_holds_29 : decode cX2_holds 29 = .ok (.getfield 15, 3) := by decide +kernel
theorem dX2_holds_32 : decode cX2_holds 32 = .ok (.iload_n 1, 1) := by decide +kernel
theorem dX2_holds_33 : decode cX2_holds 33 = .ok (.iaload, 1) := by decide +kernel
theorem dX2_holds_34 : decode cX2_holds 34 = .ok (.if_icmp .lt 17, 3) := by decide +kernel
theorem dX2_holds_37 : decode cX2_holds 37 = .ok (.iload_n 3, 1) := by decide +kernel
theorem dX2_holds_38 : decode cX2_holds 38 = .ok (.aload_n 0, 1) := by decide +kernel
theorem dX2_holds_39 : decode cX2_holds 39 = .ok (.getfield 21, 3) := by decide +kernel
theorem dX2_holds_42 : decode cX2_holds 42 = .ok (.iload_n 1, 1) := by decide +kernel
theorem dX2_holds_43 : decode cX2_holds 43 = .ok (.iaload, 1) := by decide +kernel
theorem dX2_holds_44 : decode cX2_holds 44 = .ok (.if_icmp .ge 7, 3) := by decide +kernel
theorem dX2_holds_47 : decode cX2_holds 47 = .ok (.iconst 1, 1) := by decide +kernel
theorem dX2_holds_48 : decode cX2_holds 48 = .ok (.goto 4, 3) := by decide +kernel
theorem dX2_holds_51 : decode cX2_holds 51 = .ok (.iconst 0, 1) := by decide +kernel
theorem dX2_holds_52 : decode cX2_holds 52 = .ok (.ireturn, 1) := by decide +kernel
set_option maxRecDepth 20000 in
theorem ggX2_left_X3_isTest : GoodIn wsX2_left wsX3_isTest := goodIn_r _ [4, 5, 6, 3, 7] (by decide +kernel) (by decide +kernel)
set_option maxRecDepth 20000 in
theorem gX2_left_X3_isTest_n24 : GoodIn wsX2_left (wsX3_isTest) := ggX2_left_X3_isTest
theorem dX2_left_0 : decode cX2_left 0 = .ok (.iload_n 1, 1) := by decide +kernel
theorem dX2_left_1 : decode cX2_left 1 = .ok (.invokestatic 24, 3) := by decide +kernel
theorem dX2_left_4 : decode cX2_left 4 = .ok (.ifCond .eq 12, 3) := by decide +kernel
theorem dX2_left_7 : decode cX2_left 7 = .ok (.aload_n 0, 1) := by decide +kernel
theorem dX2_left_8 : decode cX2_left 8 = .ok (.getfield 9, 3) := by decide +kernel
theorem dX2_left_11 : decode cX2_left 11 = .ok (.iload_n 1, 1) := by decide +kernel
theorem dX2_left_12 : decode cX2_left 12 = .ok (.iaload, 1) := by decide +kernel
theorem dX2_left_13 : decode cX2_left 13 = .ok (.goto 4, 3) := by decide +kernel
theorem dX2_left_16 : decode cX2_left 16 = .ok (.iconst 0, 1) := by decide +kernel
theorem dX2_left_17 : decode cX2_left 17 = .ok (.ireturn, 1) := by decide +kernel
set_option maxRecDepth 20000 in
theorem ggX2_top_X3_isTest : GoodIn wsX2_top wsX3_isTest := goodIn_r _ [4, 5, 6, 3, 7] (by decide +kernel) (by decide +kernel)
set_option maxRecDepth 20000 in
theorem gX2_top_X3_isTest_n24 : GoodIn wsX2_top (wsX3_isTest) := ggX2_top_X3_isTest
theorem dX2_top_0 : decode cX2_top 0 = .ok (.iload_n 1, 1) := by decide +kernel
theorem dX2_top_1 : decode cX2_top 1 = .ok (.invokestatic 24, 3) := by decide +kernel
theorem dX2_top_4 : decode cX2_top 4 = .ok (.ifCond .eq 12, 3) := by decide +kernel
theorem dX2_top_7 : decode cX2_top 7 = .ok (.aload_n 0, 1) := by decide +kernel
theorem dX2_top_8 : decode cX2_top 8 = .ok (.getfield 15, 3) := by decide +kernel
theorem dX2_top_11 : decode cX2_top 11 = .ok (.iload_n 1, 1) := by decide +kernel
theorem dX2_top_12 : decode cX2_top 12 = .ok (.iaload, 1) := by decide +kernel
theorem dX2_top_13 : decode cX2_top 13 = .ok (.goto 4, 3) := by decide +kernel
theorem dX2_top_16 : decode cX2_top 16 = .ok (.iconst 0, 1) := by decide +kernel
theorem dX2_top_17 : decode cX2_top 17 = .ok (.ireturn, 1) := by decide +kernel
set_option maxRecDepth 20000 in
theorem ggX2_right_X3_isTest : GoodIn wsX2_right wsX3_isTest := goodIn_r _ [4, 5, 6, 3, 7] (by decide +kernel) (by decide +kernel)
set_option maxRecDepth 20000 in
theorem gX2_right_X3_isTest_n24 : GoodIn wsX2_right (wsX3_isTest) := ggX2_right_X3_isTest
theorem dX2_right_0 : decode cX2_right 0 = .ok (.iload_n 1, 1) := by decide +kernel
theorem dX2_right_1 : decode cX2_right 1 = .ok (.invokestatic 24, 3) := by decide +kernel
theorem dX2_right_4 : decode cX2_right 4 = .ok (.ifCond .eq 12, 3) := by decide +kernel
theorem dX2_right_7 : decode cX2_right 7 = .ok (.aload_n 0, 1) := by decide +kernel
theorem dX2_right_8 : decode cX2_right 8 = .ok (.getfield 18, 3) := by decide +kernel
theorem dX2_right_11 : decode cX2_right 11 = .ok (.iload_n 1, 1) := by decide +kernel
theorem dX2_right_12 : decode cX2_right 12 = .ok (.iaload, 1) := by decide +kernel
theorem dX2_right_13 : decode cX2_right 13 = .ok (.goto 4, 3) := by decide +kernel
theorem dX2_right_16 : decode cX2_right 16 = .ok (.iconst 0, 1) := by decide +kernel
theorem dX2_right_17 : decode cX2_right 17 = .ok (.ireturn, 1) := by decide +kernel
set_option maxRecDepth 20000 in
theorem ggX2_bottom_X3_isTest : GoodIn wsX2_bottom wsX3_isTest := goodIn_r _ [4, 5, 6, 3, 7] (by decide +kernel) (by decide +kernel)
set_option maxRecDepth 20000 in
theorem gX2_bottom_X3_isTest_n24 : GoodIn wsX2_bottom (wsX3_isTest) := ggX2_bottom_X3_isTest
theorem dX2_bottom_0 : decode cX2_bottom 0 = .ok (.iload_n 1, 1) := by decide +kernel
theorem dX2_bottom_1 : decode cX2_bottom 1 = .ok (.invokestatic 24, 3) := by decide +kernel
theorem dX2_bottom_4 : decode cX2_bottom 4 = .ok (.ifCond .eq 12, 3) := by decide +kernel
theorem dX2_bottom_7 : decode cX2_bottom 7 = .ok (.aload_n 0, 1) := by decide +kernel
theorem dX2_bottom_8 : decode cX2_bottom 8 = .ok (.getfield 21, 3) := by decide +kernel
theorem dX2_bottom_11 : decode cX2_bottom 11 = .ok (.iload_n 1, 1) := by decide +kernel
theorem dX2_bottom_12 : decode cX2_bottom 12 = .ok (.iaload, 1) := by decide +kernel
theorem dX2_bottom_13 : decode cX2_bottom 13 = .ok (.goto 4, 3) := by decide +kernel
theorem dX2_bottom_16 : decode cX2_bottom 16 = .ok (.iconst 0, 1) := by decide +kernel
theorem dX2_bottom_17 : decode cX2_bottom 17 = .ok (.ireturn, 1) := by decide +kernel
set_option maxRecDepth 20000 in
theorem ggX3_init_X1_init : GoodIn wsX3_init wsX1_init := goodIn_r _ [19, 20, 2, 3, 21, 22, 23, 24, 37, 38] (by decide +kernel) (by decide +kernel)
set_option maxRecDepth 20000 in
theorem gX3_init_X1_init : GoodIn wsX3_init (wsX1_init) := ggX3_init_X1_init
set_option maxRecDepth 20000 in
theorem ggX3_init_X2_init : GoodIn wsX3_init wsX2_init := goodIn_r _ [26, 27, 2, 3, 21, 28, 29, 30, 31, 43, 44, 45, 46] (by decide +kernel) (by decide +kernel)
set_option maxRecDepth 20000 in
theorem gX3_init_X2_init_n18 : GoodIn wsX3_init (wsX2_init) := ggX3_init_X2_init
set_option maxRecDepth 20000 in
theorem ggX3_init_X0_init : GoodIn wsX3_init wsX0_init := goodIn_r _ [33, 34, 2, 3, 21, 35, 36, 47, 48] (by decide +kernel) (by decide +kernel)
set_option maxRecDepth 20000 in
theorem gX3_init_X0_init_n28 : GoodIn wsX3_init (wsX0_init) := ggX3_init_X0_init
theorem dX3_init_0 : decode cX3_init 0 = .ok (.aload_n 0, 1) := by decide +kernel
theorem dX3_init_1 : decode cX3_init 1 = .ok (.invokespecial 3, 3) := by decide +kernel
theorem dX3_init_4 : decode cX3_init 4 = .ok (.aload_n 0, 1) := by decide +kernel
theorem dX3_init_5 : decode cX3_init 5 = .ok (.new 9, 3) := by decide +kernel
theorem dX3_init_8 : decode cX3_init 8 = .ok (.dup, 1) := by decide +kernel
theorem dX3_init_9 : decode cX3_init 9 = .ok (.invokespecial 11, 3) := by decide +kernel
theorem dX3_init_12 : decode cX3_init 12 = .ok (.putfield 12, 3) := by decide +kernel
theorem dX3_init_15 : decode cX3_init 15 = .ok (.aload_n 0, 1) := by decide +kernel
theorem dX3_init_16 : decode cX3_init 16 = .ok (.new 16, 3) := by decide +kernel
theorem dX3_init_19 : decode cX3_init 19 = .ok (.dup, 1) := by decide +kernel
theorem dX3_init_20 : decode cX3_init 20 = .ok (.invokespecial 18, 3) := by decide +kernel
theorem dX3_init_23 : decode cX3_init 23 = .ok (.putfield 19, 3) := by decide +kernel
theorem dX3_init_26 : decode cX3_init 26 = .ok (.aload_n 0, 1) := by decide +kernel
theorem dX3_init_27 : decode cX3_init 27 = .ok (.new 16, 3) := by decide +kernel
theorem dX3_init_30 : decode cX3_init 30 = .ok (.dup, 1) := by decide +kernel
theorem dX3_init_31 : decode cX3_init 31 = .ok (.invokespecial 18, 3) := by decide +kernel
theorem dX3_init_34 : decode cX3_init 34 = .ok (.putfield 23, 3) := by decide +kernel
theorem dX3_init_37 : decode cX3_init 37 = .ok (.aload_n 0, 1) := by decide +kernel
theorem dX3_init_38 : decode cX3_init 38 = .ok (.new 26, 3) := by decide +kernel
theorem dX3_init_41 : decode cX3_init 41 = .ok (.dup, 1) := by decide +kernel
theorem dX3_init_42 : decode cX3_init 42 = .ok (.invokespecial 28, 3) := by decide +kernel
theorem dX3_init_45 : decode cX3_init 45 = .ok (.putfield 29, 3) := by decide +kernel
theorem dX3_init_48 : decode cX3_init 48 = .ok (.return_, 1) := by decide +kernel
set_option maxRecDepth 20000 in
theorem ggX3_paint_X3_isTest : GoodIn wsX3_paint wsX3_isTest := goodIn_r _ [5, 6, 7, 4, 8] (by decide +kernel) (by decide +kernel)
set_option maxRecDepth 20000 in
theorem gX3_paint_X3_isTest : GoodIn wsX3_paint (va_wsS RX3 33 yX3_isTest wsX3_isTest) := goodIn_app (goodIn_of _ (by decide +kernel)) ggX3_paint_X3_isTest
set_option maxRecDepth 20000 in
theorem ggX3_paint_X3_isRectangle : GoodIn wsX3_paint wsX3_isRectangle := goodIn_r _ [11, 12, 13, 4, 14, 6, 7, 8] (by decide +kernel) (by decide +kernel)
set_option maxRecDepth 20000 in
theorem gX3_paint_X3_isRectangle : GoodIn wsX3_paint (va_wsS RX3 37 yX3_isRectangle wsX3_isRectangle) := goodIn_app (goodIn_of _ (by decide +kernel)) ggX3_paint_X3_isRectangle
set_option maxRecDepth 20000 in
theorem ggX3_paint_X3_isShade : GoodIn wsX3_paint wsX3_isShade := goodIn_r _ [17, 6, 7, 4, 8] (by decide +kernel) (by decide +kernel)
set_option maxRecDepth 20000 in
theorem gX3_paint_X3_isShade : GoodIn wsX3_paint (va_wsS RX3 41 yX3_isShade wsX3_isShade) := goodIn_app (goodIn_of _ (by decide +kernel)) ggX3_paint_X3_isShade
set_option maxRecDepth 20000 in
theorem ggX3_paint_X3_checkArguments : GoodIn wsX3_paint wsX3_checkArguments := goodIn_ca (goodIn_r _ [20, 21, 22] (by decide +kernel) (by decide +kernel)) (goodIn_sub (fun _ h => List.mem_cons_of_mem _ (List.mem_append_right _ h)) (by decide +kernel))
set_option maxRecDepth 20000 in
theorem gX3_paint_X3_checkArguments : GoodIn wsX3_paint (va_wsS RX3 44 yX3_checkArguments wsX3_checkArguments) := goodIn_app (goodIn_of _ (by decide +kernel)) ggX3_paint_X3_checkArguments
set_option maxRecDepth 20000 in
theorem ggX3_paint_X3_pictureSlot : GoodIn wsX3_paint wsX3_pictureSlot := goodIn_r _ [25] (by decide +kernel) (by decide +kernel)
set_option maxRecDepth 20000 in
theorem gX3_paint_X3_pictureSlot : GoodIn wsX3_paint (va_wsS RX3 48 yX3_pictureSlot wsX3_pictureSlot) := goodIn_app (goodIn_of _ (by decide +kernel)) ggX3_paint_X3_pictureSlot
set_option maxRecDepth 20000 in
theorem ggX3_paint_X1_put : GoodIn wsX3_paint wsX1_put := goodIn_r _ [30, 31, 32, 33, 29, 34, 7, 4, 8, 13, 14, 6, 35, 36, 37, 42, 43] (by decide +kernel) (by decide +kernel)
set_option maxRecDepth 20000 in
theorem gX3_paint_X1_put : GoodIn wsX3_paint (wsV RX3 52 RX1 yX1_put wsX1_put) := goodIn_app (goodIn_of _ (by decide +kernel)) ggX3_paint_X1_put
theorem dX3_paint_0 : decode cX3_paint 0 = .ok (.iload_n 1, 1) := by decide +kernel
theorem dX3_paint_1 : decode cX3_paint 1 = .ok (.invokestatic 33, 3) := by decide +kernel
theorem dX3_paint_4 : decode cX3_paint 4 = .ok (.ifCond .eq 27, 3) := by decide +kernel
theorem dX3_paint_7 : decode cX3_paint 7 = .ok (.iload_n 2, 1) := by decide +kernel
theorem dX3_paint_8 : decode cX3_paint 8 = .ok (.iload_n 3, 1) := by decide +kernel
theorem dX3_paint_9 : decode cX3_paint 9 = .ok (.iload 4, 2) := by decide +kernel
theorem dX3_paint_11 : decode cX3_paint 11 = .ok (.iload 5, 2) := by decide +kernel
theorem dX3_paint_13 : decode cX3_paint 13 = .ok (.invokestatic 37, 3) := by decide +kernel
theorem dX3_paint_16 : decode cX3_paint 16 = .ok (.ifCond .eq 15, 3) := by decide +kernel
theorem dX3_paint_19 : decode cX3_paint 19 = .ok (.iload 6, 2) := by decide +kernel
theorem dX3_paint_21 : decode cX3_paint 21 = .ok (.invokestatic 41, 3) := by decide +kernel
theorem dX3_paint_24 : decode cX3_paint 24 = .ok (.ifCond .eq 7, 3) := by decide +kernel
theorem dX3_paint_27 : decode cX3_paint 27 = .ok (.iconst 1, 1) := by decide +kernel
theorem dX3_paint_28 : decode cX3_paint 28 = .ok (.goto 4, 3) := by decide +kernel
theorem dX3_paint_31 : decode cX3_paint 31 = .ok (.iconst 0, 1) := by decide +kernel
theorem dX3_paint_32 : decode cX3_paint 32 = .ok (.invokestatic 44, 3) := by decide +kernel
theorem dX3_paint_35 : decode cX3_paint 35 = .ok (.iconst 0, 1) := by decide +kernel
theorem dX3_paint_36 : decode cX3_paint 36 = .ok (.istore 7, 2) := by decide +kernel
theorem dX3_paint_38 : decode cX3_paint 38 = .ok (.iconst 0, 1) := by decide +kernel
theorem dX3_paint_39 : decode cX3_paint 39 = .ok (.istore 8, 2) := by decide +kernel
theorem dX3_paint_41 : decode cX3_paint 41 = .ok (.iload 8, 2) := by decide +kernel
theorem dX3_paint_43 : decode cX3_paint 43 = .ok (.iload 5, 2) := by decide +kernel
theorem dX3_paint_45 : decode cX3_paint 45 = .ok (.if_icmp .ge 52, 3) := by decide +kernel
theorem dX3_paint_48 : decode cX3_paint 48 = .ok (.iconst 0, 1) := by decide +kernel
theorem dX3_paint_49 : decode cX3_paint 49 = .ok (.istore 9, 2) := by decide +kernel
theorem dX3_paint_51 : decode cX3_paint 51 = .ok (.iload 9, 2) := by decide +kernel
theorem dX3_paint_53 : decode cX3_paint 53 = .ok (.iload 4, 2) := by decide +kernel
theorem dX3_paint_55 : decode cX3_paint 55 = .ok (.if_icmp .ge 36, 3) := by decide +kernel
theorem dX3_paint_58 : decode cX3_paint 58 = .ok (.aload_n 0, 1) := by decide +kernel
theorem dX3_paint_59 : decode cX3_paint 59 = .ok (.getfield 12, 3) := by decide +kernel
theorem dX3_paint_62 : decode cX3_paint 62 = .ok (.iload_n 1, 1) := by decide +kernel
theorem dX3_paint_63 : decode cX3_paint 63 = .ok (.invokestatic 48, 3) := by decide +kernel
theorem dX3_paint_66 : decode cX3_paint 66 = .ok (.iload_n 2, 1) := by decide +kernel
theorem dX3_paint_67 : decode cX3_paint 67 = .ok (.iload 9, 2) := by decide +kernel
theorem dX3_paint_69 : decode cX3_paint 69 = .ok (.iadd, 1) := by decide +kernel
theorem dX3_paint_70 : decode cX3_paint 70 = .ok (.iload_n 3, 1) := by decide +kernel
theorem dX3_paint_71 : decode cX3_paint 71 = .ok (.iload 8, 2) := by decide +kernel
theorem dX3_paint_73 : decode cX3_paint 73 = .ok (.iadd, 1) := by decide +kernel
theorem dX3_paint_74 : decode cX3_paint 74 = .ok (.iload 6, 2) := by decide +kernel
theorem dX3_paint_76 : decode cX3_paint 76 = .ok (.invokevirtual 52, 3) := by decide +kernel
theorem dX3_paint_79 : decode cX3_paint 79 = .ok (.ifCond .eq 6, 3) := by decide +kernel
theorem dX3_paint_82 : decode cX3_paint 82 = .ok (.iinc 7 1, 3) := by decide +kernel
theorem dX3_paint_85 : decode cX3_paint 85 = .ok (.iinc 9 1, 3) := by decide +kernel
theorem dX3_paint_88 : decode cX3_paint 88 = .ok (.goto (-37), 3) := by decide +kernel
theorem dX3_paint_91 : decode cX3_paint 91 = .ok (.iinc 8 1, 3) := by decide +kernel
theorem dX3_paint_94 : decode cX3_paint 94 = .ok (.goto (-53), 3) := by decide +kernel
theorem dX3_paint_97 : decode cX3_paint 97 = .ok (.iload 7, 2) := by decide +kernel
theorem dX3_paint_99 : decode cX3_paint 99 = .ok (.ireturn, 1) := by decide +kernel
set_option maxRecDepth 20000 in
theorem ggX3_setPart_X3_isTest : GoodIn wsX3_setPart wsX3_isTest := goodIn_r _ [6, 7, 8, 5, 9] (by decide +kernel) (by decide +kernel)
set_option maxRecDepth 20000 in
theorem gX3_setPart_X3_isTest : GoodIn wsX3_setPart (va_wsS RX3 33 yX3_isTest wsX3_isTest) := goodIn_app (goodIn_of _ (by decide +kernel)) ggX3_setPart_X3_isTest
set_option maxRecDepth 20000 in
theorem ggX3_setPart_X3_isRectangle : GoodIn wsX3_setPart wsX3_isRectangle := goodIn_r _ [12, 13, 14, 5, 15, 7, 8, 9] (by decide +kernel) (by decide +kernel)
set_option maxRecDepth 20000 in
theorem gX3_setPart_X3_isRectangle : GoodIn wsX3_setPart (va_wsS RX3 37 yX3_isRectangle wsX3_isRectangle) := goodIn_app (goodIn_of _ (by decide +kernel)) ggX3_setPart_X3_isRectangle
set_option maxRecDepth 20000 in
theorem ggX3_setPart_X3_checkArguments : GoodIn wsX3_setPart wsX3_checkArguments := goodIn_ca (goodIn_r _ [18, 19, 20] (by decide +kernel) (by decide +kernel)) (goodIn_sub (fun _ h => List.mem_cons_of_mem _ (List.mem_append_right _ h)) (by decide +kernel))
set_option maxRecDepth 20000 in
theorem gX3_setPart_X3_checkArguments : GoodIn wsX3_setPart (va_wsS RX3 44 yX3_checkArguments wsX3_checkArguments) := goodIn_app (goodIn_of _ (by decide +kernel)) ggX3_setPart_X3_checkArguments
set_option maxRecDepth 20000 in
theorem ggX3_setPart_X2_put : GoodIn wsX3_setPart wsX2_put := goodIn_r _ [25, 26, 27, 28, 29, 4, 5, 6, 7, 8, 9, 39, 40, 41, 42] (by decide +kernel) (by decide +kernel)
set_option maxRecDepth 20000 in
theorem gX3_setPart_X2_put : GoodIn wsX3_setPart (wsV RX3 63 RX2 yX2_put wsX2_put) := goodIn_app (goodIn_of _ (by decide +kernel)) ggX3_setPart_X2_put
set_option maxRecDepth 20000 in
theorem ggX3_setPart_X2_drop : GoodIn wsX3_setPart wsX2_drop := goodIn_r _ [33, 34, 22, 23, 24, 25, 26, 27, 28, 29, 4, 5, 6, 7, 8, 9, 39, 40, 41, 42] (by decide +kernel) (by decide +kernel)
set_option maxRecDepth 20000 in
theorem gX3_setPart_X2_drop : GoodIn wsX3_setPart (wsV RX3 66 RX2 yX2_drop wsX2_drop) := goodIn_app (goodIn_of _ (by decide +kernel)) ggX3_setPart_X2_drop
theorem dX3_setPart_0 : decode cX3_setPart 0 = .ok (.iload_n 1, 1) := by decide +kernel
theorem dX3_setPart_1 : decode cX3_setPart 1 = .ok (.invokestatic 33, 3) := by decide +kernel
theorem dX3_setPart_4 : decode cX3_setPart 4 = .ok (.ifCond .eq 19, 3) := by decide +kernel
theorem dX3_setPart_7 : decode cX3_setPart 7 = .ok (.iload_n 2, 1) := by decide +kernel
theorem dX3_setPart_8 : decode cX3_setPart 8 = .ok (.iload_n 3, 1) := by decide +kernel
theorem dX3_setPart_9 : decode cX3_setPart 9 = .ok (.iload 4, 2) := by decide +kernel
theorem dX3_setPart_11 : decode cX3_setPart 11 = .ok (.iload 5, 2) := by decide +kernel
theorem dX3_setPart_13 : decode cX3_setPart 13 = .ok (.invokestatic 37, 3) := by decide +kernel
theorem dX3_setPart_16 : decode cX3_setPart 16 = .ok (.ifCond .eq 7, 3) := by decide +kernel
theorem dX3_setPart_19 : decode cX3_setPart 19 = .ok (.iconst 1, 1) := by decide +kernel
theorem dX3_setPart_20 : decode cX3_setPart 20 = .ok (.goto 4, 3) := by decide +kernel
theorem dX3_setPart_23 : decode cX3_setPart 23 = .ok (.iconst 0, 1) := by decide +kernel
theorem dX3_setPart_24 : decode cX3_setPart 24 = .ok (.invokestatic 44, 3) := by decide +kernel
theorem dX3_setPart_27 : decode cX3_setPart 27 = .ok (.aload_n 0, 1) := by decide +kernel
theorem dX3_setPart_28 : decode cX3_setPart 28 = .ok (.getfield 19, 3) := by decide +kernel
theorem dX3_setPart_31 : decode cX3_setPart 31 = .ok (.iload_n 1, 1) := by decide +kernel
theorem dX3_setPart_32 : decode cX3_setPart 32 = .ok (.iload_n 2, 1) := by decide +kernel
theorem dX3_setPart_33 : decode cX3_setPart 33 = .ok (.iload_n 3, 1) := by decide +kernel
theorem dX3_setPart_34 : decode cX3_setPart 34 = .ok (.iload 4, 2) := by decide +kernel
theorem dX3_setPart_36 : decode cX3_setPart 36 = .ok (.iload 5, 2) := by decide +kernel
theorem dX3_setPart_38 : decode cX3_setPart 38 = .ok (.invokevirtual 63, 3) := by decide +kernel
theorem dX3_setPart_41 : decode cX3_setPart 41 = .ok (.aload_n 0, 1) := by decide +kernel
theorem dX3_setPart_42 : decode cX3_setPart 42 = .ok (.getfield 23, 3) := by decide +kernel
theorem dX3_setPart_45 : decode cX3_setPart 45 = .ok (.iload_n 1, 1) := by decide +kernel
theorem dX3_setPart_46 : decode cX3_setPart 46 = .ok (.invokevirtual 66, 3) := by decide +kernel
theorem dX3_setPart_49 : decode cX3_setPart 49 = .ok (.return_, 1) := by decide +kernel
set_option maxRecDepth 20000 in
theorem ggX3_setMask_X3_isTest : GoodIn wsX3_setMask wsX3_isTest := goodIn_r _ [8, 9, 10, 7, 11] (by decide +kernel) (by decide +kernel)
set_option maxRecDepth 20000 in
theorem gX3_setMask_X3_isTest : GoodIn wsX3_setMask (va_wsS RX3 33 yX3_isTest wsX3_isTest) := goodIn_app (goodIn_of _ (by decide +kernel)) ggX3_setMask_X3_isTest
set_option maxRecDepth 20000 in
theorem ggX3_setMask_X3_isWithin : GoodIn wsX3_setMask wsX3_isWithin := goodIn_r _ [11] (by decide +kernel) (by decide +kernel)
set_option maxRecDepth 20000 in
theorem gX3_setMask_X3_isWithin : GoodIn wsX3_setMask (va_wsS RX3 70 yX3_isWithin wsX3_isWithin) := goodIn_app (goodIn_of _ (by decide +kernel)) ggX3_setMask_X3_isWithin
set_option maxRecDepth 20000 in
theorem ggX3_setMask_X3_checkArguments : GoodIn wsX3_setMask wsX3_checkArguments := goodIn_ca (goodIn_r _ [14, 15, 16] (by decide +kernel) (by decide +kernel)) (goodIn_sub (fun _ h => List.mem_cons_of_mem _ (List.mem_append_right _ h)) (by decide +kernel))
set_option maxRecDepth 20000 in
theorem gX3_setMask_X3_checkArguments : GoodIn wsX3_setMask (va_wsS RX3 44 yX3_checkArguments wsX3_checkArguments) := goodIn_app (goodIn_of _ (by decide +kernel)) ggX3_setMask_X3_checkArguments
set_option maxRecDepth 20000 in
theorem ggX3_setMask_X2_has : GoodIn wsX3_setMask wsX2_has := goodIn_r _ [21, 22, 23, 6, 7, 8, 9, 10, 11, 34, 35, 36, 37] (by decide +kernel) (by decide +kernel)
set_option maxRecDepth 20000 in
theorem gX3_setMask_X2_has : GoodIn wsX3_setMask (wsV RX3 74 RX2 yX2_has wsX2_has) := goodIn_app (goodIn_of _ (by decide +kernel)) ggX3_setMask_X2_has
set_option maxRecDepth 20000 in
theorem ggX3_setMask_X2_put : GoodIn wsX3_setMask wsX2_put := goodIn_r _ [27, 22, 28, 23, 29, 6, 7, 8, 9, 10, 11, 34, 35, 36, 37] (by decide +kernel) (by decide +kernel)
set_option maxRecDepth 20000 in
theorem gX3_setMask_X2_put : GoodIn wsX3_setMask (wsV RX3 63 RX2 yX2_put wsX2_put) := goodIn_app (goodIn_of _ (by decide +kernel)) ggX3_setMask_X2_put
theorem dX3_setMask_0 : decode cX3_setMask 0 = .ok (.iload_n 1, 1) := by decide +kernel
theorem dX3_setMask_1 : decode cX3_setMask 1 = .ok (.invokestatic 33, 3) := by decide +kernel
theorem dX3_setMask_4 : decode cX3_setMask 4 = .ok (.ifCond .eq 51, 3) := by decide +kernel
theorem dX3_setMask_7 : decode cX3_setMask 7 = .ok (.iload_n 2, 1) := by decide +kernel
theorem dX3_setMask_8 : decode cX3_setMask 8 = .ok (.bipush (-8), 2) := by decide +kernel
theorem dX3_setMask_10 : decode cX3_setMask 10 = .ok (.bipush 8, 2) := by decide +kernel
theorem dX3_setMask_12 : decode cX3_setMask 12 = .ok (.invokestatic 70, 3) := by decide +kernel
theorem dX3_setMask_15 : decode cX3_setMask 15 = .ok (.ifCond .eq 40, 3) := by decide +kernel
theorem dX3_setMask_18 : decode cX3_setMask 18 = .ok (.iload_n 3, 1) := by decide +kernel
theorem dX3_setMask_19 : decode cX3_setMask 19 = .ok (.bipush (-8), 2) := by decide +kernel
theorem dX3_setMask_21 : decode cX3_setMask 21 = .ok (.bipush 8, 2) := by decide +kernel
theorem dX3_setMask_23 : decode cX3_setMask 23 = .ok (.invokestatic 70, 3) := by decide +kernel
theorem dX3_setMask_26 : decode cX3_setMask 26 = .ok (.ifCond .eq 29, 3) := by decide +kernel
theorem dX3_setMask_29 : decode cX3_setMask 29 = .ok (.iload 4, 2) := by decide +kernel
theorem dX3_setMask_31 : decode cX3_setMask 31 = .ok (.iconst 1, 1) := by decide +kernel
theorem dX3_setMask_32 : decode cX3_setMask 32 = .ok (.bipush 8, 2) := by decide +kernel
theorem dX3_setMask_34 : decode cX3_setMask 34 = .ok (.invokestatic 70, 3) := by decide +kernel
theorem dX3_setMask_37 : decode cX3_setMask 37 = .ok (.ifCond .eq 18, 3) := by decide +kernel
theorem dX3_setMask_40 : decode cX3_setMask 40 = .ok (.iload 5, 2) := by decide +kernel
theorem dX3_setMask_42 : decode cX3_setMask 42 = .ok (.iconst 1, 1) := by decide +kernel
theorem dX3_setMask_43 : decode cX3_setMask 43 = .ok (.bipush 8, 2) := by decide +kernel
theorem dX3_setMask_45 : decode cX3_setMask 45 = .ok (.invokestatic 70, 3) := by decide +kernel
theorem dX3_setMask_48 : decode cX3_setMask 48 = .ok (.ifCond .eq 7, 3) := by decide +kernel
theorem dX3_setMask_51 : decode cX3_setMask 51 = .ok (.iconst 1, 1) := by decide +kernel
theorem dX3_setMask_52 : decode cX3_setMask 52 = .ok (.goto 4, 3) := by decide +kernel
theorem dX3_setMask_55 : decode cX3_setMask 55 = .ok (.iconst 0, 1) := by decide +kernel
theorem dX3_setMask_56 : decode cX3_setMask 56 = .ok (.invokestatic 44, 3) := by decide +kernel
theorem dX3_setMask_59 : decode cX3_setMask 59 = .ok (.aload_n 0, 1) := by decide +kernel
theorem dX3_setMask_60 : decode cX3_setMask 60 = .ok (.getfield 19, 3) := by decide +kernel
theorem dX3_setMask_63 : decode cX3_setMask 63 = .ok (.iload_n 1, 1) := by decide +kernel
theorem dX3_setMask_64 : decode cX3_setMask 64 = .ok (.invokevirtual 74, 3) := by decide +kernel
theorem dX3_setMask_67 : decode cX3_setMask 67 = .ok (.ifCond .ne 13, 3) := by decide +kernel
theorem dX3_setMask_70 : decode cX3_setMask 70 = .ok (.new 77, 3) := by decide +kernel
theorem dX3_setMask_73 : decode cX3_setMask 73 = .ok (.dup, 1) := by decide +kernel
theorem dX3_setMask_74 : decode cX3_setMask 74 = .ok (.ldc 79, 2) := by decide +kernel
theorem dX3_setMask_76 : decode cX3_setMask 76 = .ok (.invokespecial 81, 3) := by decide +kernel
theorem dX3_setMask_79 : decode cX3_setMask 79 = .ok (.athrow, 1) := by decide +kernel
theorem dX3_setMask_80 : decode cX3_setMask 80 = .ok (.aload_n 0, 1) := by decide +kernel
theorem dX3_setMask_81 : decode cX3_setMask 81 = .ok (.getfield 23, 3) := by decide +kernel
theorem dX3_setMask_84 : decode cX3_setMask 84 = .ok (.iload_n 1, 1) := by decide +kernel
theorem dX3_setMask_85 : decode cX3_setMask 85 = .ok (.iload_n 2, 1) := by decide +kernel
theorem dX3_setMask_86 : decode cX3_setMask 86 = .ok (.iload_n 3, 1) := by decide +kernel
theorem dX3_setMask_87 : decode cX3_setMask 87 = .ok (.iload 4, 2) := by decide +kernel
theorem dX3_setMask_89 : decode cX3_setMask 89 = .ok (.iload 5, 2) := by decide +kernel
theorem dX3_setMask_91 : decode cX3_setMask 91 = .ok (.invokevirtual 63, 3) := by decide +kernel
theorem dX3_setMask_94 : decode cX3_setMask 94 = .ok (.return_, 1) := by decide +kernel
set_option maxRecDepth 20000 in
theorem ggX3_approve_X3_isBranch : GoodIn wsX3_approve wsX3_isBranch := goodIn_r _ [5, 6, 7, 4, 8] (by decide +kernel) (by decide +kernel)
set_option maxRecDepth 20000 in
theorem gX3_approve_X3_isBranch : GoodIn wsX3_approve (va_wsS RX3 84 yX3_isBranch wsX3_isBranch) := goodIn_app (goodIn_of _ (by decide +kernel)) ggX3_approve_X3_isBranch
set_option maxRecDepth 20000 in
theorem ggX3_approve_X3_isTest : GoodIn wsX3_approve wsX3_isTest := goodIn_r _ [11, 6, 7, 4, 8] (by decide +kernel) (by decide +kernel)
set_option maxRecDepth 20000 in
theorem gX3_approve_X3_isTest : GoodIn wsX3_approve (va_wsS RX3 33 yX3_isTest wsX3_isTest) := goodIn_app (goodIn_of _ (by decide +kernel)) ggX3_approve_X3_isTest
set_option maxRecDepth 20000 in
theorem ggX3_approve_X3_checkArguments : GoodIn wsX3_approve wsX3_checkArguments := goodIn_ca (goodIn_r _ [14, 15, 16] (by decide +kernel) (by decide +kernel)) (goodIn_sub (fun _ h => List.mem_cons_of_mem _ (List.mem_append_right _ h)) (by decide +kernel))
set_option maxRecDepth 20000 in
theorem gX3_approve_X3_checkArguments : GoodIn wsX3_approve (va_wsS RX3 44 yX3_checkArguments wsX3_checkArguments) := goodIn_app (goodIn_of _ (by decide +kernel)) ggX3_approve_X3_checkArguments
set_option maxRecDepth 20000 in
theorem ggX3_approve_X3_approvedSlot : GoodIn wsX3_approve wsX3_approvedSlot := goodIn_r _ [19] (by decide +kernel) (by decide +kernel)
set_option maxRecDepth 20000 in
theorem gX3_approve_X3_approvedSlot : GoodIn wsX3_approve (va_wsS RX3 87 yX3_approvedSlot wsX3_approvedSlot) := goodIn_app (goodIn_of _ (by decide +kernel)) ggX3_approve_X3_approvedSlot
set_option maxRecDepth 20000 in
theorem ggX3_approve_X1_has : GoodIn wsX3_approve wsX1_has := goodIn_r _ [24, 25, 26, 27, 23, 28, 7, 4, 8, 45, 46] (by decide +kernel) (by decide +kernel)
set_option maxRecDepth 20000 in
theorem gX3_approve_X1_has : GoodIn wsX3_approve (wsV RX3 91 RX1 yX1_has wsX1_has) := goodIn_app (goodIn_of _ (by decide +kernel)) ggX3_approve_X1_has
set_option maxRecDepth 20000 in
theorem ggX3_approve_X3_pictureSlot : GoodIn wsX3_approve wsX3_pictureSlot := goodIn_r _ [31] (by decide +kernel) (by decide +kernel)
set_option maxRecDepth 20000 in
theorem gX3_approve_X3_pictureSlot : GoodIn wsX3_approve (va_wsS RX3 48 yX3_pictureSlot wsX3_pictureSlot) := goodIn_app (goodIn_of _ (by decide +kernel)) ggX3_approve_X3_pictureSlot
set_option maxRecDepth 20000 in
theorem ggX3_approve_X1_copy : GoodIn wsX3_approve wsX1_copy := goodIn_r _ [35, 36, 37, 38, 39, 40, 25, 26, 27, 23, 28, 7, 4, 8, 45, 46] (by decide +kernel) (by decide +kernel)
set_option maxRecDepth 20000 in
theorem gX3_approve_X1_copy : GoodIn wsX3_approve (wsV RX3 92 RX1 yX1_copy wsX1_copy) := goodIn_app (goodIn_of _ (by decide +kernel)) ggX3_approve_X1_copy
theorem dX3_approve_0 : decode cX3_approve 0 = .ok (.iload_n 1, 1) := by decide +kernel
theorem dX3_approve_1 : decode cX3_approve 1 = .ok (.invokestatic 84, 3) := by decide +kernel
theorem dX3_approve_4 : decode cX3_approve 4 = .ok (.ifCond .eq 14, 3) := by decide +kernel
theorem dX3_approve_7 : decode cX3_approve 7 = .ok (.iload_n 2, 1) := by decide +kernel
theorem dX3_approve_8 : decode cX3_approve 8 = .ok (.invokestatic 33, 3) := by decide +kernel
theorem dX3_approve_11 : decode cX3_approve 11 = .ok (.ifCond .eq 7, 3) := by decide +kernel
theorem dX3_approve_14 : decode cX3_approve 14 = .ok (.iconst 1, 1) := by decide +kernel
theorem dX3_approve_15 : decode cX3_approve 15 = .ok (.goto 4, 3) := by decide +kernel
theorem dX3_approve_18 : decode cX3_approve 18 = .ok (.iconst 0, 1) := by decide +kernel
theorem dX3_approve_19 : decode cX3_approve 19 = .ok (.invokestatic 44, 3) := by decide +kernel
theorem dX3_approve_22 : decode cX3_approve 22 = .ok (.iload_n 1, 1) := by decide +kernel
theorem dX3_approve_23 : decode cX3_approve 23 = .ok (.iload_n 2, 1) := by decide +kernel
theorem dX3_approve_24 : decode cX3_approve 24 = .ok (.invokestatic 87, 3) := by decide +kernel
theorem dX3_approve_27 : decode cX3_approve 27 = .ok (.istore_n 3, 1) := by decide +kernel
theorem dX3_approve_28 : decode cX3_approve 28 = .ok (.aload_n 0, 1) := by decide +kernel
theorem dX3_approve_29 : decode cX3_approve 29 = .ok (.getfield 12, 3) := by decide +kernel
theorem dX3_approve_32 : decode cX3_approve 32 = .ok (.iload_n 3, 1) := by decide +kernel
theorem dX3_approve_33 : decode cX3_approve 33 = .ok (.invokevirtual 91, 3) := by decide +kernel
theorem dX3_approve_36 : decode cX3_approve 36 = .ok (.istore 4, 2) := by decide +kernel
theorem dX3_approve_38 : decode cX3_approve 38 = .ok (.aload_n 0, 1) := by decide +kernel
theorem dX3_approve_39 : decode cX3_approve 39 = .ok (.getfield 12, 3) := by decide +kernel
theorem dX3_approve_42 : decode cX3_approve 42 = .ok (.iload_n 2, 1) := by decide +kernel
theorem dX3_approve_43 : decode cX3_approve 43 = .ok (.invokestatic 48, 3) := by decide +kernel
theorem dX3_approve_46 : decode cX3_approve 46 = .ok (.iload_n 3, 1) := by decide +kernel
theorem dX3_approve_47 : decode cX3_approve 47 = .ok (.invokevirtual 92, 3) := by decide +kernel
theorem dX3_approve_50 : decode cX3_approve 50 = .ok (.iload 4, 2) := by decide +kernel
theorem dX3_approve_52 : decode cX3_approve 52 = .ok (.ireturn, 1) := by decide +kernel
set_option maxRecDepth 20000 in
theorem ggX3_begin_X3_isSideBranch : GoodIn wsX3_begin wsX3_isSideBranch := goodIn_r _ [5, 6, 7, 4, 8] (by decide +kernel) (by decide +kernel)
set_option maxRecDepth 20000 in
theorem gX3_begin_X3_isSideBranch : GoodIn wsX3_begin (va_wsS RX3 96 yX3_isSideBranch wsX3_isSideBranch) := goodIn_app (goodIn_of _ (by decide +kernel)) ggX3_begin_X3_isSideBranch
set_option maxRecDepth 20000 in
theorem ggX3_begin_X3_checkArguments : GoodIn wsX3_begin wsX3_checkArguments := goodIn_ca (goodIn_r _ [11, 12, 13] (by decide +kernel) (by decide +kernel)) (goodIn_sub (fun _ h => List.mem_cons_of_mem _ (List.mem_append_right _ h)) (by decide +kernel))
set_option maxRecDepth 20000 in
theorem gX3_begin_X3_checkArguments : GoodIn wsX3_begin (va_wsS RX3 44 yX3_checkArguments wsX3_checkArguments) := goodIn_app (goodIn_of _ (by decide +kernel)) ggX3_begin_X3_checkArguments
set_option maxRecDepth 20000 in
theorem ggX3_begin_X3_followMain : GoodIn wsX3_begin wsX3_followMain := goodIn_r _ [17, 1, 18, 19, 4, 20, 21, 22, 23, 24, 25, 26, 27, 28, 29, 30, 31, 32, 33, 34, 35, 36, 37, 7, 8, 42, 43, 44, 45, 46, 47] (by decide +kernel) (by decide +kernel)
set_option maxRecDepth 20000 in
theorem gX3_begin_X3_followMain : GoodIn wsX3_begin (wsV RX3 99 RX3 yX3_followMain wsX3_followMain) := goodIn_app (goodIn_of _ (by decide +kernel)) ggX3_begin_X3_followMain
set_option maxRecDepth 20000 in
theorem ggX3_begin_X3_approvedSlot : GoodIn wsX3_begin wsX3_approvedSlot := goodIn_r _ [20] (by decide +kernel) (by decide +kernel)
set_option maxRecDepth 20000 in
theorem gX3_begin_X3_approvedSlot : GoodIn wsX3_begin (va_wsS RX3 87 yX3_approvedSlot wsX3_approvedSlot) := goodIn_app (goodIn_of _ (by decide +kernel)) ggX3_begin_X3_approvedSlot
set_option maxRecDepth 20000 in
theorem ggX3_begin_X1_has : GoodIn wsX3_begin wsX1_has := goodIn_r _ [41, 34, 35, 36, 27, 37, 7, 4, 8, 46, 47] (by decide +kernel) (by decide +kernel)
set_option maxRecDepth 20000 in
theorem gX3_begin_X1_has : GoodIn wsX3_begin (wsV RX3 91 RX1 yX1_has wsX1_has) := goodIn_app (goodIn_of _ (by decide +kernel)) ggX3_begin_X1_has
theorem dX3_begin_0 : decode cX3_begin 0 = .ok (.iload_n 1, 1) := by decide +kernel
theorem dX3_begin_1 : decode cX3_begin 1 = .ok (.invokestatic 96, 3) := by decide +kernel
theorem dX3_begin_4 : decode cX3_begin 4 = .ok (.invokestatic 44, 3) := by decide +kernel
theorem dX3_begin_7 : decode cX3_begin 7 = .ok (.iconst 0, 1) := by decide +kernel
theorem dX3_begin_8 : decode cX3_begin 8 = .ok (.istore_n 2, 1) := by decide +kernel
theorem dX3_begin_9 : decode cX3_begin 9 = .ok (.iconst 0, 1) := by decide +kernel
theorem dX3_begin_10 : decode cX3_begin 10 = .ok (.istore_n 3, 1) := by decide +kernel
theorem dX3_begin_11 : decode cX3_begin 11 = .ok (.iload_n 3, 1) := by decide +kernel
theorem dX3_begin_12 : decode cX3_begin 12 = .ok (.iconst 5, 1) := by decide +kernel
theorem dX3_begin_13 : decode cX3_begin 13 = .ok (.if_icmp .ge 33, 3) := by decide +kernel
theorem dX3_begin_16 : decode cX3_begin 16 = .ok (.aload_n 0, 1) := by decide +kernel
theorem dX3_begin_17 : decode cX3_begin 17 = .ok (.iload_n 1, 1) := by decide +kernel
theorem dX3_begin_18 : decode cX3_begin 18 = .ok (.iload_n 3, 1) := by decide +kernel
theorem dX3_begin_19 : decode cX3_begin 19 = .ok (.invokevirtual 99, 3) := by decide +kernel
theorem dX3_begin_22 : decode cX3_begin 22 = .ok (.aload_n 0, 1) := by decide +kernel
theorem dX3_begin_23 : decode cX3_begin 23 = .ok (.getfield 12, 3) := by decide +kernel
theorem dX3_begin_26 : decode cX3_begin 26 = .ok (.iload_n 1, 1) := by decide +kernel
theorem dX3_begin_27 : decode cX3_begin 27 = .ok (.iload_n 3, 1) := by decide +kernel
theorem dX3_begin_28 : decode cX3_begin 28 = .ok (.invokestatic 87, 3) := by decide +kernel
theorem dX3_begin_31 : decode cX3_begin 31 = .ok (.invokevirtual 91, 3) := by decide +kernel
theorem dX3_begin_34 : decode cX3_begin 34 = .ok (.ifCond .eq 6, 3) := by decide +kernel
theorem dX3_begin_37 : decode cX3_begin 37 = .ok (.iinc 2 1, 3) := by decide +kernel
theorem dX3_begin_40 : decode cX3_begin 40 = .ok (.iinc 3 1, 3) := by decide +kernel
theorem dX3_begin_43 : decode cX3_begin 43 = .ok (.goto (-32), 3) := by decide +kernel
theorem dX3_begin_46 : decode cX3_begin 46 = .ok (.iload_n 2, 1) := by decide +kernel
theorem dX3_begin_47 : decode cX3_begin 47 = .ok (.ireturn, 1) := by decide +kernel
set_option maxRecDepth 20000 in
theorem ggX3_join_X3_isSideBranch : GoodIn wsX3_join wsX3_isSideBranch := goodIn_r _ [4, 5, 6, 3, 7] (by decide +kernel) (by decide +kernel)
set_option maxRecDepth 20000 in
theorem gX3_join_X3_isSideBranch : GoodIn wsX3_join (va_wsS RX3 96 yX3_isSideBranch wsX3_isSideBranch) := goodIn_app (goodIn_of _ (by decide +kernel)) ggX3_join_X3_isSideBranch
set_option maxRecDepth 20000 in
theorem ggX3_join_X3_checkArguments : GoodIn wsX3_join wsX3_checkArguments := goodIn_ca (goodIn_r _ [10, 11, 12] (by decide +kernel) (by decide +kernel)) (goodIn_sub (fun _ h => List.mem_cons_of_mem _ (List.mem_append_right _ h)) (by decide +kernel))
set_option maxRecDepth 20000 in
theorem gX3_join_X3_checkArguments : GoodIn wsX3_join (va_wsS RX3 44 yX3_checkArguments wsX3_checkArguments) := goodIn_app (goodIn_of _ (by decide +kernel)) ggX3_join_X3_checkArguments
set_option maxRecDepth 20000 in
theorem ggX3_join_X3_clashes : GoodIn wsX3_join wsX3_clashes := goodIn_r _ [16, 17, 18, 19, 3, 20, 21, 22, 23, 24, 25, 26, 27, 28, 29, 30, 31, 32, 33, 34, 35, 36, 37, 6, 7, 54, 55, 56, 57, 58, 59] (by decide +kernel) (by decide +kernel)
set_option maxRecDepth 20000 in
theorem gX3_join_X3_clashes : GoodIn wsX3_join (wsV RX3 102 RX3 yX3_clashes wsX3_clashes) := goodIn_app (goodIn_of _ (by decide +kernel)) ggX3_join_X3_clashes
set_option maxRecDepth 20000 in
theorem ggX3_join_X3_takeOver : GoodIn wsX3_join wsX3_takeOver := goodIn_r _ [41, 17, 18, 19, 3, 20, 21, 22, 23, 24, 25, 26, 27, 28, 29, 30, 31, 32, 33, 34, 35, 36, 37, 6, 7, 42, 43, 44, 45, 46, 47, 48, 49, 54, 55, 56, 57, 58, 59] (by decide +kernel) (by decide +kernel)
set_option maxRecDepth 20000 in
theorem gX3_join_X3_takeOver : GoodIn wsX3_join (wsV RX3 105 RX3 yX3_takeOver wsX3_takeOver) := goodIn_app (goodIn_of _ (by decide +kernel)) ggX3_join_X3_takeOver
set_option maxRecDepth 20000 in
theorem ggX3_join_X3_followMain : GoodIn wsX3_join wsX3_followMain := goodIn_r _ [53, 17, 18, 19, 3, 20, 21, 22, 23, 42, 43, 44, 27, 45, 29, 46, 47, 48, 49, 34, 35, 36, 37, 6, 7, 54, 55, 56, 57, 58, 59] (by decide +kernel) (by decide +kernel)
set_option maxRecDepth 20000 in
theorem gX3_join_X3_followMain : GoodIn wsX3_join (wsV RX3 99 RX3 yX3_followMain wsX3_followMain) := goodIn_app (goodIn_of _ (by decide +kernel)) ggX3_join_X3_followMain
theorem dX3_join_0 : decode cX3_join 0 = .ok (.iload_n 1, 1) := by decide +kernel
theorem dX3_join_1 : decode cX3_join 1 = .ok (.invokestatic 96, 3) := by decide +kernel
theorem dX3_join_4 : decode cX3_join 4 = .ok (.invokestatic 44, 3) := by decide +kernel
theorem dX3_join_7 : decode cX3_join 7 = .ok (.iconst 0, 1) := by decide +kernel
theorem dX3_join_8 : decode cX3_join 8 = .ok (.istore_n 2, 1) := by decide +kernel
theorem dX3_join_9 : decode cX3_join 9 = .ok (.iconst 0, 1) := by decide +kernel
theorem dX3_join_10 : decode cX3_join 10 = .ok (.istore_n 3, 1) := by decide +kernel
theorem dX3_join_11 : decode cX3_join 11 = .ok (.iload_n 3, 1) := by decide +kernel
theorem dX3_join_12 : decode cX3_join 12 = .ok (.iconst 5, 1) := by decide +kernel
theorem dX3_join_13 : decode cX3_join 13 = .ok (.if_icmp .ge 39, 3) := by decide +kernel
theorem dX3_join_16 : decode cX3_join 16 = .ok (.aload_n 0, 1) := by decide +kernel
theorem dX3_join_17 : decode cX3_join 17 = .ok (.iload_n 1, 1) := by decide +kernel
theorem dX3_join_18 : decode cX3_join 18 = .ok (.iload_n 3, 1) := by decide +kernel
theorem dX3_join_19 : decode cX3_join 19 = .ok (.invokevirtual 102, 3) := by decide +kernel
theorem dX3_join_22 : decode cX3_join 22 = .ok (.ifCond .eq 12, 3) := by decide +kernel
theorem dX3_join_25 : decode cX3_join 25 = .ok (.iload_n 2, 1) := by decide +kernel
theorem dX3_join_26 : decode cX3_join 26 = .ok (.iconst 1, 1) := by decide +kernel
theorem dX3_join_27 : decode cX3_join 27 = .ok (.iload_n 3, 1) := by decide +kernel
theorem dX3_join_28 : decode cX3_join 28 = .ok (.ishl, 1) := by decide +kernel
theorem dX3_join_29 : decode cX3_join 29 = .ok (.ior, 1) := by decide +kernel
theorem dX3_join_30 : decode cX3_join 30 = .ok (.istore_n 2, 1) := by decide +kernel
theorem dX3_join_31 : decode cX3_join 31 = .ok (.goto 15, 3) := by decide +kernel
theorem dX3_join_34 : decode cX3_join 34 = .ok (.aload_n 0, 1) := by decide +kernel
theorem dX3_join_35 : decode cX3_join 35 = .ok (.iload_n 1, 1) := by decide +kernel
theorem dX3_join_36 : decode cX3_join 36 = .ok (.iload_n 3, 1) := by decide +kernel
theorem dX3_join_37 : decode cX3_join 37 = .ok (.invokevirtual 105, 3) := by decide +kernel
theorem dX3_join_40 : decode cX3_join 40 = .ok (.aload_n 0, 1) := by decide +kernel
theorem dX3_join_41 : decode cX3_join 41 = .ok (.iload_n 1, 1) := by decide +kernel
theorem dX3_join_42 : decode cX3_join 42 = .ok (.iload_n 3, 1) := by decide +kernel
theorem dX3_join_43 : decode cX3_join 43 = .ok (.invokevirtual 99, 3) := by decide +kernel
theorem dX3_join_46 : decode cX3_join 46 = .ok (.iinc 3 1, 3) := by decide +kernel
theorem dX3_join_49 : decode cX3_join 49 = .ok (.goto (-38), 3) := by decide +kernel
theorem dX3_join_52 : decode cX3_join 52 = .ok (.iload_n 2, 1) := by decide +kernel
theorem dX3_join_53 : decode cX3_join 53 = .ok (.ireturn, 1) := by decide +kernel
set_option maxRecDepth 20000 in
theorem ggX3_isApproved_X3_isBranch : GoodIn wsX3_isApproved wsX3_isBranch := goodIn_r _ [5, 6, 7, 4, 8] (by decide +kernel) (by decide +kernel)
set_option maxRecDepth 20000 in
theorem gX3_isApproved_X3_isBranch : GoodIn wsX3_isApproved (va_wsS RX3 84 yX3_isBranch wsX3_isBranch) := goodIn_app (goodIn_of _ (by decide +kernel)) ggX3_isApproved_X3_isBranch
set_option maxRecDepth 20000 in
theorem ggX3_isApproved_X3_isTest : GoodIn wsX3_isApproved wsX3_isTest := goodIn_r _ [11, 6, 7, 4, 8] (by decide +kernel) (by decide +kernel)
set_option maxRecDepth 20000 in
theorem gX3_isApproved_X3_isTest : GoodIn wsX3_isApproved (va_wsS RX3 33 yX3_isTest wsX3_isTest) := goodIn_app (goodIn_of _ (by decide +kernel)) ggX3_isApproved_X3_isTest
set_option maxRecDepth 20000 in
theorem ggX3_isApproved_X3_checkArguments : GoodIn wsX3_isApproved wsX3_checkArguments := goodIn_ca (goodIn_r _ [14, 15, 16] (by decide +kernel) (by decide +kernel)) (goodIn_sub (fun _ h => List.mem_cons_of_mem _ (List.mem_append_right _ h)) (by decide +kernel))
set_option maxRecDepth 20000 in
theorem gX3_isApproved_X3_checkArguments : GoodIn wsX3_isApproved (va_wsS RX3 44 yX3_checkArguments wsX3_checkArguments) := goodIn_app (goodIn_of _ (by decide +kernel)) ggX3_isApproved_X3_checkArguments
set_option maxRecDepth 20000 in
theorem ggX3_isApproved_X3_approvedSlot : GoodIn wsX3_isApproved wsX3_approvedSlot := goodIn_r _ [19] (by decide +kernel) (by decide +kernel)
set_option maxRecDepth 20000 in
theorem gX3_isApproved_X3_approvedSlot : GoodIn wsX3_isApproved (va_wsS RX3 87 yX3_approvedSlot wsX3_approvedSlot) := goodIn_app (goodIn_of _ (by decide +kernel)) ggX3_isApproved_X3_approvedSlot
set_option maxRecDepth 20000 in
theorem ggX3_isApproved_X1_has : GoodIn wsX3_isApproved wsX1_has := goodIn_r _ [24, 25, 26, 27, 23, 28, 7, 4, 8, 33, 34] (by decide +kernel) (by decide +kernel)
set_option maxRecDepth 20000 in
theorem gX3_isApproved_X1_has : GoodIn wsX3_isApproved (wsV RX3 91 RX1 yX1_has wsX1_has) := goodIn_app (goodIn_of _ (by decide +kernel)) ggX3_isApproved_X1_has
theorem dX3_isApproved_0 : decode cX3_isApproved 0 = .ok (.iload_n 1, 1) := by decide +kernel
theorem dX3_isApproved_1 : decode cX3_isApproved 1 = .ok (.invokestatic 84, 3) := by decide +kernel
theorem dX3_isApproved_4 : decode cX3_isApproved 4 = .ok (.ifCond .eq 14, 3) := by decide +kernel
theorem dX3_isApproved_7 : decode cX3_isApproved 7 = .ok (.iload_n 2, 1) := by decide +kernel
theorem dX3_isApproved_8 : decode cX3_isApproved 8 = .ok (.invokestatic 33, 3) := by decide +kernel
theorem dX3_isApproved_11 : decode cX3_isApproved 11 = .ok (.ifCond .eq 7, 3) := by decide +kernel
theorem dX3_isApproved_14 : decode cX3_isApproved 14 = .ok (.iconst 1, 1) := by decide +kernel
theorem dX3_isApproved_15 : decode cX3_isApproved 15 = .ok (.goto 4, 3) := by decide +kernel
theorem dX3_isApproved_18 : decode cX3_isApproved 18 = .ok (.iconst 0, 1) := by decide +kernel
theorem dX3_isApproved_19 : decode cX3_isApproved 19 = .ok (.invokestatic 44, 3) := by decide +kernel
theorem dX3_isApproved_22 : decode cX3_isApproved 22 = .ok (.aload_n 0, 1) := by decide +kernel
theorem dX3_isApproved_23 : decode cX3_isApproved 23 = .ok (.getfield 12, 3) := by decide +kernel
theorem dX3_isApproved_26 : decode cX3_isApproved 26 = .ok (.iload_n 1, 1) := by decide +kernel
theorem dX3_isApproved_27 : decode cX3_isApproved 27 = .ok (.iload_n 2, 1) := by decide +kernel
theorem dX3_isApproved_28 : decode cX3_isApproved 28 = .ok (.invokestatic 87, 3) := by decide +kernel
theorem dX3_isApproved_31 : decode cX3_isApproved 31 = .ok (.invokevirtual 91, 3) := by decide +kernel
theorem dX3_isApproved_34 : decode cX3_isApproved 34 = .ok (.ireturn, 1) := by decide +kernel
set_option maxRecDepth 20000 in
theorem ggX3_differences_X3_checkComparison : GoodIn wsX3_differences wsX3_checkComparison := goodIn_ca (goodIn_ca (goodIn_r _ [5, 6, 7, 8, 9, 10, 4, 11, 12, 13, 14, 15, 16, 17, 18, 19, 20, 21, 22, 23, 24, 25, 26, 27, 28, 29, 30, 31, 32, 33, 34, 35, 36, 37, 135, 136, 137, 138, 139, 140] (by decide +kernel) (by decide +kernel)) (goodIn_sub (fun _ h => List.mem_cons_of_mem _ (List.mem_append_left _ (List.mem_append_right _ h))) (by decide +kernel))) (goodIn_sub (fun _ h => List.mem_cons_of_mem _ (List.mem_append_right _ h)) (by decide +kernel))
set_option maxRecDepth 20000 in
theorem gX3_differences_X3_checkComparison : GoodIn wsX3_differences (wsV RX3 108 RX3 yX3_checkComparison wsX3_checkComparison) := goodIn_app (goodIn_of _ (by decide +kernel)) ggX3_differences_X3_checkComparison
set_option maxRecDepth 20000 in
theorem ggX3_differences_X3_approvedSlot : GoodIn wsX3_differences wsX3_approvedSlot := goodIn_r _ [28] (by decide +kernel) (by decide +kernel)
set_option maxRecDepth 20000 in
theorem gX3_differences_X3_approvedSlot : GoodIn wsX3_differences (va_wsS RX3 87 yX3_approvedSlot wsX3_approvedSlot) := goodIn_app (goodIn_of _ (by decide +kernel)) ggX3_differences_X3_approvedSlot
set_option maxRecDepth 20000 in
theorem ggX3_differences_X3_findMove : GoodIn wsX3_differences wsX3_findMove := goodIn_r _ [41, 42, 43, 44, 45, 46, 47, 48, 49, 50, 51, 52, 53, 16, 4, 17, 12, 13, 14, 54, 55, 56, 57, 8, 58, 59, 60, 61, 62, 63, 64, 65, 66, 67, 68, 69, 70, 71, 72, 73, 74, 75, 76, 77, 78, 79, 80, 81, 82, 83, 84, 32, 85, 86, 35, 36, 37, 87, 88, 89, 90, 91, 92, 93, 94, 95, 135, 136, 137, 138, 141, 142, 143, 144, 139, 140] (by decide +kernel) (by decide +kernel)
set_option maxRecDepth 20000 in
theorem gX3_differences_X3_findMove : GoodIn wsX3_differences (wsV RX3 112 RX3 yX3_findMove wsX3_findMove) := goodIn_app (goodIn_of _ (by decide +kernel)) ggX3_differences_X3_findMove
set_option maxRecDepth 20000 in
theorem ggX3_differences_X3_differs : GoodIn wsX3_differences wsX3_differs := goodIn_r _ [99, 8, 100, 101, 4, 102, 103, 104, 105, 79, 80, 81, 82, 83, 84, 32, 85, 86, 35, 36, 37, 13, 14, 77, 78, 12, 87, 88, 89, 90, 91, 92, 43, 44, 45, 46, 106, 107, 108, 109, 42, 110, 111, 112, 50, 113, 52, 53, 71, 62, 16, 17, 114, 115, 116, 117, 118, 119, 120, 121, 122, 123, 124, 72, 73, 74, 75, 67, 68, 69, 70, 125, 126, 127, 128, 129, 130, 131, 132, 133, 134, 135, 136, 137, 138, 139, 140, 141, 142, 143, 144] (by decide +kernel) (by decide +kernel)
set_option maxRecDepth 20000 in
theorem gX3_differences_X3_differs : GoodIn wsX3_differences (wsV RX3 115 RX3 yX3_differs wsX3_differs) := goodIn_app (goodIn_of _ (by decide +kernel)) ggX3_differences_X3_differs
theorem dX3_differences_0 : decode cX3_differences 0 = .ok (.aload_n 0, 1) := by decide +kernel
theorem dX3_differences_1 : decode cX3_differences 1 = .ok (.iload_n 1, 1) := by decide +kernel
theorem dX3_differences_2 : decode cX3_differences 2 = .ok (.iload_n 2, 1) := by decide +kernel
theorem dX3_differences_3 : decode cX3_differences 3 = .ok (.iload_n 3, 1) := by decide +kernel
theorem dX3_differences_4 : decode cX3_differences 4 = .ok (.invokevirtual 108, 3) := by decide +kernel
theorem dX3_differences_7 : decode cX3_differences 7 = .ok (.iload_n 1, 1) := by decide +kernel
theorem dX3_differences_8 : decode cX3_differences 8 = .ok (.iload_n 2, 1) := by decide +kernel
theorem dX3_differences_9 : decode cX3_differences 9 = .ok (.invokestatic 87, 3) := by decide +kernel
theorem dX3_differences_12 : decode cX3_differences 12 = .ok (.istore 4, 2) := by decide +kernel
theorem dX3_differences_14 : decode cX3_differences 14 = .ok (.aload_n 0, 1) := by decide +kernel
theorem dX3_differences_15 : decode cX3_differences 15 = .ok (.iload 4, 2) := by decide +kernel
theorem dX3_differences_17 : decode cX3_differences 17 = .ok (.iload_n 2, 1) := by decide +kernel
theorem dX3_differences_18 : decode cX3_differences 18 = .ok (.iload_n 3, 1) := by decide +kernel
theorem dX3_differences_19 : decode cX3_differences 19 = .ok (.invokevirtual 112, 3) := by decide +kernel
theorem dX3_differences_22 : decode cX3_differences 22 = .ok (.istore 5, 2) := by decide +kernel
theorem dX3_differences_24 : decode cX3_differences 24 = .ok (.iconst 0, 1) := by decide +kernel
theorem dX3_differences_25 : decode cX3_differences 25 = .ok (.istore 6, 2) := by decide +kernel
theorem dX3_differences_27 : decode cX3_differences 27 = .ok (.iconst 0, 1) := by decide +kernel
theorem dX3_differences_28 : decode cX3_differences 28 = .ok (.istore 7, 2) := by decide +kernel
theorem dX3_differences_30 : decode cX3_differences 30 = .ok (.iload 7, 2) := by decide +kernel
theorem dX3_differences_32 : decode cX3_differences 32 = .ok (.bipush 64, 2) := by decide +kernel
theorem dX3_differences_34 : decode cX3_differences 34 = .ok (.if_icmp .ge 27, 3) := by decide +kernel
theorem dX3_differences_37 : decode cX3_differences 37 = .ok (.aload_n 0, 1) := by decide +kernel
theorem dX3_differences_38 : decode cX3_differences 38 = .ok (.iload 4, 2) := by decide +kernel
theorem dX3_differences_40 : decode cX3_differences 40 = .ok (.iload_n 2, 1) := by decide +kernel
theorem dX3_differences_41 : decode cX3_differences 41 = .ok (.iload_n 3, 1) := by decide +kernel
theorem dX3_differences_42 : decode cX3_differences 42 = .ok (.iload 5, 2) := by decide +kernel
theorem dX3_differences_44 : decode cX3_differences 44 = .ok (.iload 7, 2) := by decide +kernel
theorem dX3_differences_46 : decode cX3_differences 46 = .ok (.invokevirtual 115, 3) := by decide +kernel
theorem dX3_differences_49 : decode cX3_differences 49 = .ok (.ifCond .eq 6, 3) := by decide +kernel
theorem dX3_differences_52 : decode cX3_differences 52 = .ok (.iinc 6 1, 3) := by decide +kernel
theorem dX3_differences_55 : decode cX3_differences 55 = .ok (.iinc 7 1, 3) := by decide +kernel
theorem dX3_differences_58 : decode cX3_differences 58 = .ok (.goto (-28), 3) := by decide +kernel
theorem dX3_differences_61 : decode cX3_differences 61 = .ok (.iload 6, 2) := by decide +kernel
theorem dX3_differences_63 : decode cX3_differences 63 = .ok (.ireturn, 1) := by decide +kernel
set_option maxRecDepth 20000 in
theorem ggX3_firstDifference_X3_checkComparison : GoodIn wsX3_firstDifference wsX3_checkComparison := goodIn_ca (goodIn_ca (goodIn_r _ [5, 6, 7, 8, 9, 10, 4, 11, 12, 13, 14, 15, 16, 17, 18, 19, 20, 21, 22, 23, 24, 25, 26, 27, 28, 29, 30, 31, 32, 33, 34, 35, 36, 37, 139, 140, 141, 142, 143, 144] (by decide +kernel) (by decide +kernel)) (goodIn_sub (fun _ h => List.mem_cons_of_mem _ (List.mem_append_left _ (List.mem_append_right _ h))) (by decide +kernel))) (goodIn_sub (fun _ h => List.mem_cons_of_mem _ (List.mem_append_right _ h)) (by decide +kernel))
set_option maxRecDepth 20000 in
theorem gX3_firstDifference_X3_checkComparison : GoodIn wsX3_firstDifference (wsV RX3 108 RX3 yX3_checkComparison wsX3_checkComparison) := goodIn_app (goodIn_of _ (by decide +kernel)) ggX3_firstDifference_X3_checkComparison
set_option maxRecDepth 20000 in
theorem ggX3_firstDifference_X3_approvedSlot : GoodIn wsX3_firstDifference wsX3_approvedSlot := goodIn_r _ [28] (by decide +kernel) (by decide +kernel)
set_option maxRecDepth 20000 in
theorem gX3_firstDifference_X3_approvedSlot : GoodIn wsX3_firstDifference (va_wsS RX3 87 yX3_approvedSlot wsX3_approvedSlot) := goodIn_app (goodIn_of _ (by decide +kernel)) ggX3_firstDifference_X3_approvedSlot
set_option maxRecDepth 20000 in
theorem ggX3_firstDifference_X3_findDifference : GoodIn wsX3_firstDifference wsX3_findDifference := goodIn_r _ [41, 42, 43, 44, 4, 45, 46, 47, 48, 49, 50, 51, 52, 53, 54, 55, 56, 57, 16, 17, 12, 13, 14, 58, 59, 60, 61, 8, 62, 63, 64, 65, 66, 67, 68, 69, 70, 71, 72, 73, 74, 75, 76, 77, 78, 79, 80, 81, 82, 83, 84, 85, 86, 87, 88, 32, 89, 90, 35, 36, 37, 91, 92, 93, 94, 95, 96, 97, 98, 99, 100, 101, 102, 103, 104, 105, 106, 107, 108, 109, 110, 111, 112, 113, 114, 115, 116, 117, 118, 119, 120, 121, 122, 123, 124, 125, 126, 127, 128, 129, 130, 131, 132, 133, 134, 135, 136, 137, 138, 139, 140, 141, 142, 145, 146, 147, 148, 143, 144] (by decide +kernel) (by decide +kernel)
set_option maxRecDepth 20000 in
theorem gX3_firstDifference_X3_findDifference : GoodIn wsX3_firstDifference (wsV RX3 119 RX3 yX3_findDifference wsX3_findDifference) := goodIn_app (goodIn_of _ (by decide +kernel)) ggX3_firstDifference_X3_findDifference
theorem dX3_firstDifference_0 : decode cX3_firstDifference 0 = .ok (.aload_n 0, 1) := by decide +kernel
theorem dX3_firstDifference_1 : decode cX3_firstDifference 1 = .ok (.iload_n 1, 1) := by decide +kernel
theorem dX3_firstDifference_2 : decode cX3_firstDifference 2 = .ok (.iload_n 2, 1) := by decide +kernel
theorem dX3_firstDifference_3 : decode cX3_firstDifference 3 = .ok (.iload_n 3, 1) := by decide +kernel
theorem dX3_firstDifference_4 : decode cX3_firstDifference 4 = .ok (.invokevirtual 108, 3) := by decide +kernel
theorem dX3_firstDifference_7 : decode cX3_firstDifference 7 = .ok (.aload_n 0, 1) := by decide +kernel
theorem dX3_firstDifference_8 : decode cX3_firstDifference 8 = .ok (.iload_n 1, 1) := by decide +kernel
theorem dX3_firstDifference_9 : decode cX3_firstDifference 9 = .ok (.iload_n 2, 1) := by decide +kernel
theorem dX3_firstDifference_10 : decode cX3_firstDifference 10 = .ok (.invokestatic 87, 3) := by decide +kernel
theorem dX3_firstDifference_13 : decode cX3_firstDifference 13 = .ok (.iload_n 2, 1) := by decide +kernel
theorem dX3_firstDifference_14 : decode cX3_firstDifference 14 = .ok (.iload_n 3, 1) := by decide +kernel
theorem dX3_firstDifference_15 : decode cX3_firstDifference 15 = .ok (.invokevirtual 119, 3) := by decide +kernel
theorem dX3_firstDifference_18 : decode cX3_firstDifference 18 = .ok (.ireturn, 1) := by decide +kernel
set_option maxRecDepth 20000 in
theorem ggX3_move_X3_checkComparison : GoodIn wsX3_move wsX3_checkComparison := goodIn_ca (goodIn_ca (goodIn_r _ [5, 6, 7, 8, 9, 10, 4, 11, 12, 13, 14, 15, 16, 17, 18, 19, 20, 21, 22, 23, 24, 25, 26, 27, 28, 29, 30, 31, 32, 33, 34, 35, 36, 37, 96, 97, 98, 99, 100, 101] (by decide +kernel) (by decide +kernel)) (goodIn_sub (fun _ h => List.mem_cons_of_mem _ (List.mem_append_left _ (List.mem_append_right _ h))) (by decide +kernel))) (goodIn_sub (fun _ h => List.mem_cons_of_mem _ (List.mem_append_right _ h)) (by decide +kernel))
set_option maxRecDepth 20000 in
theorem gX3_move_X3_checkComparison : GoodIn wsX3_move (wsV RX3 108 RX3 yX3_checkComparison wsX3_checkComparison) := goodIn_app (goodIn_of _ (by decide +kernel)) ggX3_move_X3_checkComparison
set_option maxRecDepth 20000 in
theorem ggX3_move_X3_approvedSlot : GoodIn wsX3_move wsX3_approvedSlot := goodIn_r _ [28] (by decide +kernel) (by decide +kernel)
set_option maxRecDepth 20000 in
theorem gX3_move_X3_approvedSlot : GoodIn wsX3_move (va_wsS RX3 87 yX3_approvedSlot wsX3_approvedSlot) := goodIn_app (goodIn_of _ (by decide +kernel)) ggX3_move_X3_approvedSlot
set_option maxRecDepth 20000 in
theorem ggX3_move_X3_findMove : GoodIn wsX3_move wsX3_findMove := goodIn_r _ [41, 42, 43, 44, 45, 46, 47, 48, 49, 50, 51, 52, 53, 16, 4, 17, 12, 13, 14, 54, 55, 56, 57, 8, 58, 59, 60, 61, 62, 63, 64, 65, 66, 67, 68, 69, 70, 71, 72, 73, 74, 75, 76, 77, 78, 79, 80, 81, 82, 83, 84, 32, 85, 86, 35, 36, 37, 87, 88, 89, 90, 91, 92, 93, 94, 95, 96, 97, 98, 99, 102, 103, 104, 105, 100, 101] (by decide +kernel) (by decide +kernel)
set_option maxRecDepth 20000 in
theorem gX3_move_X3_findMove : GoodIn wsX3_move (wsV RX3 112 RX3 yX3_findMove wsX3_findMove) := goodIn_app (goodIn_of _ (by decide +kernel)) ggX3_move_X3_findMove
theorem dX3_move_0 : decode cX3_move 0 = .ok (.aload_n 0, 1) := by decide +kernel
theorem dX3_move_1 : decode cX3_move 1 = .ok (.iload_n 1, 1) := by decide +kernel
theorem dX3_move_2 : decode cX3_move 2 = .ok (.iload_n 2, 1) := by decide +kernel
theorem dX3_move_3 : decode cX3_move 3 = .ok (.iload_n 3, 1) := by decide +kernel
theorem dX3_move_4 : decode cX3_move 4 = .ok (.invokevirtual 108, 3) := by decide +kernel
theorem dX3_move_7 : decode cX3_move 7 = .ok (.aload_n 0, 1) := by decide +kernel
theorem dX3_move_8 : decode cX3_move 8 = .ok (.iload_n 1, 1) := by decide +kernel
theorem dX3_move_9 : decode cX3_move 9 = .ok (.iload_n 2, 1) := by decide +kernel
theorem dX3_move_10 : decode cX3_move 10 = .ok (.invokestatic 87, 3) := by decide +kernel
theorem dX3_move_13 : decode cX3_move 13 = .ok (.iload_n 2, 1) := by decide +kernel
theorem dX3_move_14 : decode cX3_move 14 = .ok (.iload_n 3, 1) := by decide +kernel
theorem dX3_move_15 : decode cX3_move 15 = .ok (.invokevirtual 112, 3) := by decide +kernel
theorem dX3_move_18 : decode cX3_move 18 = .ok (.ireturn, 1) := by decide +kernel
set_option maxRecDepth 20000 in
theorem ggX3_soft_X3_checkComparison : GoodIn wsX3_soft wsX3_checkComparison := goodIn_ca (goodIn_ca (goodIn_r _ [5, 6, 7, 8, 9, 10, 4, 11, 12, 13, 14, 15, 16, 17, 18, 19, 20, 21, 22, 23, 24, 25, 26, 27, 28, 29, 30, 31, 32, 33, 34, 35, 36, 37, 74, 75, 76, 77, 78, 79] (by decide +kernel) (by decide +kernel)) (goodIn_sub (fun _ h => List.mem_cons_of_mem _ (List.mem_append_left _ (List.mem_append_right _ h))) (by decide +kernel))) (goodIn_sub (fun _ h => List.mem_cons_of_mem _ (List.mem_append_right _ h)) (by decide +kernel))
set_option maxRecDepth 20000 in
theorem gX3_soft_X3_checkComparison : GoodIn wsX3_soft (wsV RX3 108 RX3 yX3_checkComparison wsX3_checkComparison) := goodIn_app (goodIn_of _ (by decide +kernel)) ggX3_soft_X3_checkComparison
set_option maxRecDepth 20000 in
theorem ggX3_soft_X3_approvedSlot : GoodIn wsX3_soft wsX3_approvedSlot := goodIn_r _ [28] (by decide +kernel) (by decide +kernel)
set_option maxRecDepth 20000 in
theorem gX3_soft_X3_approvedSlot : GoodIn wsX3_soft (va_wsS RX3 87 yX3_approvedSlot wsX3_approvedSlot) := goodIn_app (goodIn_of _ (by decide +kernel)) ggX3_soft_X3_approvedSlot
set_option maxRecDepth 20000 in
theorem ggX3_soft_X3_columnOf : GoodIn wsX3_soft wsX3_columnOf := goodIn_r _ [40] (by decide +kernel) (by decide +kernel)
set_option maxRecDepth 20000 in
theorem gX3_soft_X3_columnOf : GoodIn wsX3_soft (va_wsS RX3 122 yX3_columnOf wsX3_columnOf) := goodIn_app (goodIn_of _ (by decide +kernel)) ggX3_soft_X3_columnOf
set_option maxRecDepth 20000 in
theorem ggX3_soft_X3_rowOf : GoodIn wsX3_soft wsX3_rowOf := goodIn_r _ [43] (by decide +kernel) (by decide +kernel)
set_option maxRecDepth 20000 in
theorem gX3_soft_X3_rowOf : GoodIn wsX3_soft (va_wsS RX3 125 yX3_rowOf wsX3_rowOf) := goodIn_app (goodIn_of _ (by decide +kernel)) ggX3_soft_X3_rowOf
set_option maxRecDepth 20000 in
theorem ggX3_soft_X3_isSoft : GoodIn wsX3_soft wsX3_isSoft := goodIn_r _ [47, 48, 49, 50, 51, 52, 53, 54, 8, 55, 56, 4, 57, 58, 59, 60, 32, 61, 62, 35, 36, 37, 13, 14, 63, 64, 12, 65, 66, 67, 68, 69, 70, 71, 72, 73, 74, 75, 76, 77, 78, 79] (by decide +kernel) (by decide +kernel)
set_option maxRecDepth 20000 in
theorem gX3_soft_X3_isSoft : GoodIn wsX3_soft (wsV RX3 128 RX3 yX3_isSoft wsX3_isSoft) := goodIn_app (goodIn_of _ (by decide +kernel)) ggX3_soft_X3_isSoft
theorem dX3_soft_0 : decode cX3_soft 0 = .ok (.aload_n 0, 1) := by decide +kernel
theorem dX3_soft_1 : decode cX3_soft 1 = .ok (.iload_n 1, 1) := by decide +kernel
theorem dX3_soft_2 : decode cX3_soft 2 = .ok (.iload_n 2, 1) := by decide +kernel
theorem dX3_soft_3 : decode cX3_soft 3 = .ok (.iload_n 3, 1) := by decide +kernel
theorem dX3_soft_4 : decode cX3_soft 4 = .ok (.invokevirtual 108, 3) := by decide +kernel
theorem dX3_soft_7 : decode cX3_soft 7 = .ok (.iload_n 1, 1) := by decide +kernel
theorem dX3_soft_8 : decode cX3_soft 8 = .ok (.iload_n 2, 1) := by decide +kernel
theorem dX3_soft_9 : decode cX3_soft 9 = .ok (.invokestatic 87, 3) := by decide +kernel
theorem dX3_soft_12 : decode cX3_soft 12 = .ok (.istore 4, 2) := by decide +kernel
theorem dX3_soft_14 : decode cX3_soft 14 = .ok (.iconst 0, 1) := by decide +kernel
theorem dX3_soft_15 : decode cX3_soft 15 = .ok (.istore 5, 2) := by decide +kernel
theorem dX3_soft_17 : decode cX3_soft 17 = .ok (.iconst 0, 1) := by decide +kernel
theorem dX3_soft_18 : decode cX3_soft 18 = .ok (.istore 6, 2) := by decide +kernel
theorem dX3_soft_20 : decode cX3_soft 20 = .ok (.iload 6, 2) := by decide +kernel
theorem dX3_soft_22 : decode cX3_soft 22 = .ok (.bipush 64, 2) := by decide +kernel
theorem dX3_soft_24 : decode cX3_soft 24 = .ok (.if_icmp .ge 33, 3) := by decide +kernel
theorem dX3_soft_27 : decode cX3_soft 27 = .ok (.aload_n 0, 1) := by decide +kernel
theorem dX3_soft_28 : decode cX3_soft 28 = .ok (.iload 4, 2) := by decide +kernel
theorem dX3_soft_30 : decode cX3_soft 30 = .ok (.iload_n 2, 1) := by decide +kernel
theorem dX3_soft_31 : decode cX3_soft 31 = .ok (.iload_n 3, 1) := by decide +kernel
theorem dX3_soft_32 : decode cX3_soft 32 = .ok (.iload 6, 2) := by decide +kernel
theorem dX3_soft_34 : decode cX3_soft 34 = .ok (.invokestatic 122, 3) := by decide +kernel
theorem dX3_soft_37 : decode cX3_soft 37 = .ok (.iload 6, 2) := by decide +kernel
theorem dX3_soft_39 : decode cX3_soft 39 = .ok (.invokestatic 125, 3) := by decide +kernel
theorem dX3_soft_42 : decode cX3_soft 42 = .ok (.invokevirtual 128, 3) := by decide +kernel
theorem dX3_soft_45 : decode cX3_soft 45 = .ok (.ifCond .eq 6, 3) := by decide +kernel
theorem dX3_soft_48 : decode cX3_soft 48 = .ok (.iinc 5 1, 3) := by decide +kernel
theorem dX3_soft_51 : decode cX3_soft 51 = .ok (.iinc 6 1, 3) := by decide +kernel
theorem dX3_soft_54 : decode cX3_soft 54 = .ok (.goto (-34), 3) := by decide +kernel
theorem dX3_soft_57 : decode cX3_soft 57 = .ok (.iload 5, 2) := by decide +kernel
theorem dX3_soft_59 : decode cX3_soft 59 = .ok (.ireturn, 1) := by decide +kernel
set_option maxRecDepth 20000 in
theorem ggX3_run_X3_checkComparison : GoodIn wsX3_run wsX3_checkComparison := goodIn_ca (goodIn_ca (goodIn_r _ [6, 7, 8, 9, 10, 11, 5, 12, 13, 14, 15, 16, 17, 18, 19, 20, 21, 22, 23, 24, 25, 26, 27, 28, 29, 30, 31, 32, 33, 34, 35, 36, 37, 38, 148, 149, 150, 151, 152, 153] (by decide +kernel) (by decide +kernel)) (goodIn_sub (fun _ h => List.mem_cons_of_mem _ (List.mem_append_left _ (List.mem_append_right _ h))) (by decide +kernel))) (goodIn_sub (fun _ h => List.mem_cons_of_mem _ (List.mem_append_right _ h)) (by decide +kernel))
set_option maxRecDepth 20000 in
theorem gX3_run_X3_checkComparison : GoodIn wsX3_run (wsV RX3 108 RX3 yX3_checkComparison wsX3_checkComparison) := goodIn_app (goodIn_of _ (by decide +kernel)) ggX3_run_X3_checkComparison
set_option maxRecDepth 20000 in
theorem ggX3_run_X3_approvedSlot : GoodIn wsX3_run wsX3_approvedSlot := goodIn_r _ [29] (by decide +kernel) (by decide +kernel)
set_option maxRecDepth 20000 in
theorem gX3_run_X3_approvedSlot : GoodIn wsX3_run (va_wsS RX3 87 yX3_approvedSlot wsX3_approvedSlot) := goodIn_app (goodIn_of _ (by decide +kernel)) ggX3_run_X3_approvedSlot
set_option maxRecDepth 20000 in
theorem ggX3_run_X3_findDifference : GoodIn wsX3_run wsX3_findDifference := goodIn_r _ [42, 43, 44, 45, 5, 46, 47, 48, 49, 50, 51, 52, 53, 54, 55, 56, 57, 58, 17, 18, 13, 14, 15, 59, 60, 61, 62, 9, 63, 64, 65, 66, 67, 68, 69, 70, 71, 72, 73, 74, 75, 76, 77, 78, 79, 80, 81, 82, 83, 84, 85, 86, 87, 88, 89, 33, 90, 91, 36, 37, 38, 92, 93, 94, 95, 96, 97, 98, 99, 100, 101, 102, 103, 104, 105, 106, 107, 108, 109, 110, 111, 112, 113, 114, 115, 116, 117, 118, 119, 120, 121, 122, 123, 124, 125, 126, 127, 128, 129, 130, 131, 132, 133, 134, 135, 136, 137, 138, 139, 148, 149, 150, 151, 154, 155, 156, 157, 152, 153] (by decide +kernel) (by decide +kernel)
set_option maxRecDepth 20000 in
theorem gX3_run_X3_findDifference : GoodIn wsX3_run (wsV RX3 119 RX3 yX3_findDifference wsX3_findDifference) := goodIn_app (goodIn_of _ (by decide +kernel)) ggX3_run_X3_findDifference
set_option maxRecDepth 20000 in
theorem ggX3_run_X0_add : GoodIn wsX3_run wsX0_add := goodIn_r _ [144, 145, 146, 147, 135, 50, 136, 17, 5, 18, 13, 14, 15, 158, 159] (by decide +kernel) (by decide +kernel)
set_option maxRecDepth 20000 in
theorem gX3_run_X0_add : GoodIn wsX3_run (wsV RX3 131 RX0 yX0_add wsX0_add) := goodIn_app (goodIn_of _ (by decide +kernel)) ggX3_run_X0_add
theorem dX3_run_0 : decode cX3_run 0 = .ok (.aload_n 0, 1) := by decide +kernel
theorem dX3_run_1 : decode cX3_run 1 = .ok (.iload_n 1, 1) := by decide +kernel
theorem dX3_run_2 : decode cX3_run 2 = .ok (.iload_n 2, 1) := by decide +kernel
theorem dX3_run_3 : decode cX3_run 3 = .ok (.iload_n 3, 1) := by decide +kernel
theorem dX3_run_4 : decode cX3_run 4 = .ok (.invokevirtual 108, 3) := by decide +kernel
theorem dX3_run_7 : decode cX3_run 7 = .ok (.aload_n 0, 1) := by decide +kernel
theorem dX3_run_8 : decode cX3_run 8 = .ok (.iload_n 1, 1) := by decide +kernel
theorem dX3_run_9 : decode cX3_run 9 = .ok (.iload_n 2, 1) := by decide +kernel
theorem dX3_run_10 : decode cX3_run 10 = .ok (.invokestatic 87, 3) := by decide +kernel
theorem dX3_run_13 : decode cX3_run 13 = .ok (.iload_n 2, 1) := by decide +kernel
theorem dX3_run_14 : decode cX3_run 14 = .ok (.iload_n 3, 1) := by decide +kernel
theorem dX3_run_15 : decode cX3_run 15 = .ok (.invokevirtual 119, 3) := by decide +kernel
theorem dX3_run_18 : decode cX3_run 18 = .ok (.ifCond .ge 7, 3) := by decide +kernel
theorem dX3_run_21 : decode cX3_run 21 = .ok (.iconst 1, 1) := by decide +kernel
theorem dX3_run_22 : decode cX3_run 22 = .ok (.goto 4, 3) := by decide +kernel
theorem dX3_run_25 : decode cX3_run 25 = .ok (.iconst 0, 1) := by decide +kernel
theorem dX3_run_26 : decode cX3_run 26 = .ok (.istore 4, 2) := by decide +kernel
theorem dX3_run_28 : decode cX3_run 28 = .ok (.aload_n 0, 1) := by decide +kernel
theorem dX3_run_29 : decode cX3_run 29 = .ok (.getfield 29, 3) := by decide +kernel
theorem dX3_run_32 : decode cX3_run 32 = .ok (.iload_n 2, 1) := by decide +kernel
theorem dX3_run_33 : decode cX3_run 33 = .ok (.iload 4, 2) := by decide +kernel
theorem dX3_run_35 : decode cX3_run 35 = .ok (.invokevirtual 131, 3) := by decide +kernel
theorem dX3_run_38 : decode cX3_run 38 = .ok (.iload 4, 2) := by decide +kernel
theorem dX3_run_40 : decode cX3_run 40 = .ok (.ireturn, 1) := by decide +kernel
set_option maxRecDepth 20000 in
theorem ggX3_runs_X3_isTest : GoodIn wsX3_runs wsX3_isTest := goodIn_r _ [5, 6, 7, 4, 8] (by decide +kernel) (by decide +kernel)
set_option maxRecDepth 20000 in
theorem gX3_runs_X3_isTest : GoodIn wsX3_runs (va_wsS RX3 33 yX3_isTest wsX3_isTest) := goodIn_app (goodIn_of _ (by decide +kernel)) ggX3_runs_X3_isTest
set_option maxRecDepth 20000 in
theorem ggX3_runs_X3_checkArguments : GoodIn wsX3_runs wsX3_checkArguments := goodIn_ca (goodIn_r _ [11, 12, 13] (by decide +kernel) (by decide +kernel)) (goodIn_sub (fun _ h => List.mem_cons_of_mem _ (List.mem_append_right _ h)) (by decide +kernel))
set_option maxRecDepth 20000 in
theorem gX3_runs_X3_checkArguments : GoodIn wsX3_runs (va_wsS RX3 44 yX3_checkArguments wsX3_checkArguments) := goodIn_app (goodIn_of _ (by decide +kernel)) ggX3_runs_X3_checkArguments
set_option maxRecDepth 20000 in
theorem ggX3_runs_X0_length : GoodIn wsX3_runs wsX0_length := goodIn_r _ [18, 19, 3, 4, 5, 6, 7, 8, 24, 25] (by decide +kernel) (by decide +kernel)
set_option maxRecDepth 20000 in
theorem gX3_runs_X0_length : GoodIn wsX3_runs (wsV RX3 135 RX0 yX0_length wsX0_length) := goodIn_app (goodIn_of _ (by decide +kernel)) ggX3_runs_X0_length
