theorem dX3_runs_0 : decode cX3_runs 0 = .ok (.iload_n 1, 1) := by decide +kernel
theorem dX3_runs_1 : decode cX3_runs 1 = .ok (.invokestatic 33, 3) := by decide +kernel
theorem dX3_runs_4 : decode cX3_runs 4 = .ok (.invokestatic 44, 3) := by decide +kernel
theorem dX3_runs_7 : decode cX3_runs 7 = .ok (.aload_n 0, 1) := by decide +kernel
theorem dX3_runs_8 : decode cX3_runs 8 = .ok (.getfield 29, 3) := by decide +kernel
theorem dX3_runs_11 : decode cX3_runs 11 = .ok (.iload_n 1, 1) := by decide +kernel
theorem dX3_runs_12 : decode cX3_runs 12 = .ok (.invokevirtual 135, 3) := by decide +kernel
theorem dX3_runs_15 : decode cX3_runs 15 = .ok (.ireturn, 1) := by decide +kernel
set_option maxRecDepth 20000 in
theorem ggX3_doubt_X3_isTest : GoodIn wsX3_doubt wsX3_isTest := goodIn_r _ [5, 6, 7, 4, 8] (by decide +kernel) (by decide +kernel)
set_option maxRecDepth 20000 in
theorem gX3_doubt_X3_isTest : GoodIn wsX3_doubt (va_wsS RX3 33 yX3_isTest wsX3_isTest) := goodIn_app (goodIn_of _ (by decide +kernel)) ggX3_doubt_X3_isTest
set_option maxRecDepth 20000 in
theorem ggX3_doubt_X3_checkArguments : GoodIn wsX3_doubt wsX3_checkArguments := goodIn_ca (goodIn_r _ [11, 12, 13] (by decide +kernel) (by decide +kernel)) (goodIn_sub (fun _ h => List.mem_cons_of_mem _ (List.mem_append_right _ h)) (by decide +kernel))
set_option maxRecDepth 20000 in
theorem gX3_doubt_X3_checkArguments : GoodIn wsX3_doubt (va_wsS RX3 44 yX3_checkArguments wsX3_checkArguments) := goodIn_app (goodIn_of _ (by decide +kernel)) ggX3_doubt_X3_checkArguments
set_option maxRecDepth 20000 in
theorem ggX3_doubt_X0_length : GoodIn wsX3_doubt wsX0_length := goodIn_r _ [18, 19, 3, 4, 5, 6, 7, 8, 36, 37] (by decide +kernel) (by decide +kernel)
set_option maxRecDepth 20000 in
theorem gX3_doubt_X0_length : GoodIn wsX3_doubt (wsV RX3 135 RX0 yX0_length wsX0_length) := goodIn_app (goodIn_of _ (by decide +kernel)) ggX3_doubt_X0_length
set_option maxRecDepth 20000 in
theorem ggX3_doubt_X0_changes : GoodIn wsX3_doubt wsX0_changes := goodIn_r _ [23, 19, 24, 3, 4, 5, 6, 7, 8, 25, 26, 27, 28, 29, 30, 31, 36, 37] (by decide +kernel) (by decide +kernel)
set_option maxRecDepth 20000 in
theorem gX3_doubt_X0_changes : GoodIn wsX3_doubt (wsV RX3 138 RX0 yX0_changes wsX0_changes) := goodIn_app (goodIn_of _ (by decide +kernel)) ggX3_doubt_X0_changes
theorem dX3_doubt_0 : decode cX3_doubt 0 = .ok (.iload_n 1, 1) := by decide +kernel
theorem dX3_doubt_1 : decode cX3_doubt 1 = .ok (.invokestatic 33, 3) := by decide +kernel
theorem dX3_doubt_4 : decode cX3_doubt 4 = .ok (.invokestatic 44, 3) := by decide +kernel
theorem dX3_doubt_7 : decode cX3_doubt 7 = .ok (.aload_n 0, 1) := by decide +kernel
theorem dX3_doubt_8 : decode cX3_doubt 8 = .ok (.getfield 29, 3) := by decide +kernel
theorem dX3_doubt_11 : decode cX3_doubt 11 = .ok (.iload_n 1, 1) := by decide +kernel
theorem dX3_doubt_12 : decode cX3_doubt 12 = .ok (.invokevirtual 135, 3) := by decide +kernel
theorem dX3_doubt_15 : decode cX3_doubt 15 = .ok (.iconst 1, 1) := by decide +kernel
theorem dX3_doubt_16 : decode cX3_doubt 16 = .ok (.isub, 1) := by decide +kernel
theorem dX3_doubt_17 : decode cX3_doubt 17 = .ok (.istore_n 2, 1) := by decide +kernel
theorem dX3_doubt_18 : decode cX3_doubt 18 = .ok (.iload_n 2, 1) := by decide +kernel
theorem dX3_doubt_19 : decode cX3_doubt 19 = .ok (.iconst 1, 1) := by decide +kernel
theorem dX3_doubt_20 : decode cX3_doubt 20 = .ok (.if_icmp .ge 5, 3) := by decide +kernel
theorem dX3_doubt_23 : decode cX3_doubt 23 = .ok (.iconst 0, 1) := by decide +kernel
theorem dX3_doubt_24 : decode cX3_doubt 24 = .ok (.ireturn, 1) := by decide +kernel
theorem dX3_doubt_25 : decode cX3_doubt 25 = .ok (.bipush 100, 2) := by decide +kernel
theorem dX3_doubt_27 : decode cX3_doubt 27 = .ok (.aload_n 0, 1) := by decide +kernel
theorem dX3_doubt_28 : decode cX3_doubt 28 = .ok (.getfield 29, 3) := by decide +kernel
theorem dX3_doubt_31 : decode cX3_doubt 31 = .ok (.iload_n 1, 1) := by decide +kernel
theorem dX3_doubt_32 : decode cX3_doubt 32 = .ok (.invokevirtual 138, 3) := by decide +kernel
theorem dX3_doubt_35 : decode cX3_doubt 35 = .ok (.imul, 1) := by decide +kernel
theorem dX3_doubt_36 : decode cX3_doubt 36 = .ok (.iload_n 2, 1) := by decide +kernel
theorem dX3_doubt_37 : decode cX3_doubt 37 = .ok (.idiv, 1) := by decide +kernel
theorem dX3_doubt_38 : decode cX3_doubt 38 = .ok (.ireturn, 1) := by decide +kernel
theorem dX3_checkArguments_0 : decode cX3_checkArguments 0 = .ok (.iload_n 0, 1) := by decide +kernel
theorem dX3_checkArguments_1 : decode cX3_checkArguments 1 = .ok (.ifCond .ne 13, 3) := by decide +kernel
theorem dX3_checkArguments_4 : decode cX3_checkArguments 4 = .ok (.new 141, 3) := by decide +kernel
theorem dX3_checkArguments_7 : decode cX3_checkArguments 7 = .ok (.dup, 1) := by decide +kernel
theorem dX3_checkArguments_8 : decode cX3_checkArguments 8 = .ok (.ldc 143, 2) := by decide +kernel
theorem dX3_checkArguments_10 : decode cX3_checkArguments 10 = .ok (.invokespecial 145, 3) := by decide +kernel
theorem dX3_checkArguments_13 : decode cX3_checkArguments 13 = .ok (.athrow, 1) := by decide +kernel
theorem dX3_checkArguments_14 : decode cX3_checkArguments 14 = .ok (.return_, 1) := by decide +kernel
set_option maxRecDepth 20000 in
theorem ggX3_checkComparison_X3_isBranch : GoodIn wsX3_checkComparison wsX3_isBranch := goodIn_r _ [7, 8, 9, 6, 10] (by decide +kernel) (by decide +kernel)
set_option maxRecDepth 20000 in
theorem gX3_checkComparison_X3_isBranch : GoodIn wsX3_checkComparison (va_wsS RX3 84 yX3_isBranch wsX3_isBranch) := goodIn_app (goodIn_of _ (by decide +kernel)) ggX3_checkComparison_X3_isBranch
set_option maxRecDepth 20000 in
theorem ggX3_checkComparison_X3_isTest : GoodIn wsX3_checkComparison wsX3_isTest := goodIn_r _ [13, 8, 9, 6, 10] (by decide +kernel) (by decide +kernel)
set_option maxRecDepth 20000 in
theorem gX3_checkComparison_X3_isTest : GoodIn wsX3_checkComparison (va_wsS RX3 33 yX3_isTest wsX3_isTest) := goodIn_app (goodIn_of _ (by decide +kernel)) ggX3_checkComparison_X3_isTest
set_option maxRecDepth 20000 in
theorem ggX3_checkComparison_X3_isShade : GoodIn wsX3_checkComparison wsX3_isShade := goodIn_r _ [16, 8, 9, 6, 10] (by decide +kernel) (by decide +kernel)
set_option maxRecDepth 20000 in
theorem gX3_checkComparison_X3_isShade : GoodIn wsX3_checkComparison (va_wsS RX3 41 yX3_isShade wsX3_isShade) := goodIn_app (goodIn_of _ (by decide +kernel)) ggX3_checkComparison_X3_isShade
set_option maxRecDepth 20000 in
theorem ggX3_checkComparison_X3_checkArguments : GoodIn wsX3_checkComparison wsX3_checkArguments := goodIn_ca (goodIn_r _ [19, 20, 21] (by decide +kernel) (by decide +kernel)) (goodIn_sub (fun _ h => List.mem_cons_of_mem _ (List.mem_append_right _ h)) (by decide +kernel))
set_option maxRecDepth 20000 in
theorem gX3_checkComparison_X3_checkArguments : GoodIn wsX3_checkComparison (va_wsS RX3 44 yX3_checkArguments wsX3_checkArguments) := goodIn_app (goodIn_of _ (by decide +kernel)) ggX3_checkComparison_X3_checkArguments
set_option maxRecDepth 20000 in
theorem ggX3_checkComparison_X3_approvedSlot : GoodIn wsX3_checkComparison wsX3_approvedSlot := goodIn_r _ [24] (by decide +kernel) (by decide +kernel)
set_option maxRecDepth 20000 in
theorem gX3_checkComparison_X3_approvedSlot : GoodIn wsX3_checkComparison (va_wsS RX3 87 yX3_approvedSlot wsX3_approvedSlot) := goodIn_app (goodIn_of _ (by decide +kernel)) ggX3_checkComparison_X3_approvedSlot
set_option maxRecDepth 20000 in
theorem ggX3_checkComparison_X1_has : GoodIn wsX3_checkComparison wsX1_has := goodIn_r _ [29, 30, 31, 32, 28, 33, 9, 6, 10, 38, 39] (by decide +kernel) (by decide +kernel)
set_option maxRecDepth 20000 in
theorem gX3_checkComparison_X1_has : GoodIn wsX3_checkComparison (wsV RX3 91 RX1 yX1_has wsX1_has) := goodIn_app (goodIn_of _ (by decide +kernel)) ggX3_checkComparison_X1_has
theorem dX3_checkComparison_0 : decode cX3_checkComparison 0 = .ok (.iload_n 1, 1) := by decide +kernel
theorem dX3_checkComparison_1 : decode cX3_checkComparison 1 = .ok (.invokestatic 84, 3) := by decide +kernel
theorem dX3_checkComparison_4 : decode cX3_checkComparison 4 = .ok (.ifCond .eq 21, 3) := by decide +kernel
theorem dX3_checkComparison_7 : decode cX3_checkComparison 7 = .ok (.iload_n 2, 1) := by decide +kernel
theorem dX3_checkComparison_8 : decode cX3_checkComparison 8 = .ok (.invokestatic 33, 3) := by decide +kernel
theorem dX3_checkComparison_11 : decode cX3_checkComparison 11 = .ok (.ifCond .eq 14, 3) := by decide +kernel
theorem dX3_checkComparison_14 : decode cX3_checkComparison 14 = .ok (.iload_n 3, 1) := by decide +kernel
theorem dX3_checkComparison_15 : decode cX3_checkComparison 15 = .ok (.invokestatic 41, 3) := by decide +kernel
theorem dX3_checkComparison_18 : decode cX3_checkComparison 18 = .ok (.ifCond .eq 7, 3) := by decide +kernel
theorem dX3_checkComparison_21 : decode cX3_checkComparison 21 = .ok (.iconst 1, 1) := by decide +kernel
theorem dX3_checkComparison_22 : decode cX3_checkComparison 22 = .ok (.goto 4, 3) := by decide +kernel
theorem dX3_checkComparison_25 : decode cX3_checkComparison 25 = .ok (.iconst 0, 1) := by decide +kernel
theorem dX3_checkComparison_26 : decode cX3_checkComparison 26 = .ok (.invokestatic 44, 3) := by decide +kernel
theorem dX3_checkComparison_29 : decode cX3_checkComparison 29 = .ok (.aload_n 0, 1) := by decide +kernel
theorem dX3_checkComparison_30 : decode cX3_checkComparison 30 = .ok (.getfield 12, 3) := by decide +kernel
theorem dX3_checkComparison_33 : decode cX3_checkComparison 33 = .ok (.iload_n 1, 1) := by decide +kernel
theorem dX3_checkComparison_34 : decode cX3_checkComparison 34 = .ok (.iload_n 2, 1) := by decide +kernel
theorem dX3_checkComparison_35 : decode cX3_checkComparison 35 = .ok (.invokestatic 87, 3) := by decide +kernel
theorem dX3_checkComparison_38 : decode cX3_checkComparison 38 = .ok (.invokevirtual 91, 3) := by decide +kernel
theorem dX3_checkComparison_41 : decode cX3_checkComparison 41 = .ok (.ifCond .ne 13, 3) := by decide +kernel
theorem dX3_checkComparison_44 : decode cX3_checkComparison 44 = .ok (.new 77, 3) := by decide +kernel
theorem dX3_checkComparison_47 : decode cX3_checkComparison 47 = .ok (.dup, 1) := by decide +kernel
theorem dX3_checkComparison_48 : decode cX3_checkComparison 48 = .ok (.ldc 146, 2) := by decide +kernel
theorem dX3_checkComparison_50 : decode cX3_checkComparison 50 = .ok (.invokespecial 81, 3) := by decide +kernel
theorem dX3_checkComparison_53 : decode cX3_checkComparison 53 = .ok (.athrow, 1) := by decide +kernel
theorem dX3_checkComparison_54 : decode cX3_checkComparison 54 = .ok (.return_, 1) := by decide +kernel
theorem dX3_isWithin_0 : decode cX3_isWithin 0 = .ok (.iload_n 0, 1) := by decide +kernel
theorem dX3_isWithin_1 : decode cX3_isWithin 1 = .ok (.iload_n 1, 1) := by decide +kernel
theorem dX3_isWithin_2 : decode cX3_isWithin 2 = .ok (.if_icmp .lt 12, 3) := by decide +kernel
theorem dX3_isWithin_5 : decode cX3_isWithin 5 = .ok (.iload_n 0, 1) := by decide +kernel
theorem dX3_isWithin_6 : decode cX3_isWithin 6 = .ok (.iload_n 2, 1) := by decide +kernel
theorem dX3_isWithin_7 : decode cX3_isWithin 7 = .ok (.if_icmp .gt 7, 3) := by decide +kernel
theorem dX3_isWithin_10 : decode cX3_isWithin 10 = .ok (.iconst 1, 1) := by decide +kernel
theorem dX3_isWithin_11 : decode cX3_isWithin 11 = .ok (.goto 4, 3) := by decide +kernel
theorem dX3_isWithin_14 : decode cX3_isWithin 14 = .ok (.iconst 0, 1) := by decide +kernel
theorem dX3_isWithin_15 : decode cX3_isWithin 15 = .ok (.ireturn, 1) := by decide +kernel
set_option maxRecDepth 20000 in
theorem ggX3_isTest_X3_isWithin : GoodIn wsX3_isTest wsX3_isWithin := goodIn_r _ [4] (by decide +kernel) (by decide +kernel)
set_option maxRecDepth 20000 in
theorem gX3_isTest_X3_isWithin : GoodIn wsX3_isTest (va_wsS RX3 70 yX3_isWithin wsX3_isWithin) := goodIn_app (goodIn_of _ (by decide +kernel)) ggX3_isTest_X3_isWithin
theorem dX3_isTest_0 : decode cX3_isTest 0 = .ok (.iload_n 0, 1) := by decide +kernel
theorem dX3_isTest_1 : decode cX3_isTest 1 = .ok (.iconst 0, 1) := by decide +kernel
theorem dX3_isTest_2 : decode cX3_isTest 2 = .ok (.iconst 4, 1) := by decide +kernel
theorem dX3_isTest_3 : decode cX3_isTest 3 = .ok (.invokestatic 70, 3) := by decide +kernel
theorem dX3_isTest_6 : decode cX3_isTest 6 = .ok (.ireturn, 1) := by decide +kernel
set_option maxRecDepth 20000 in
theorem ggX3_isBranch_X3_isWithin : GoodIn wsX3_isBranch wsX3_isWithin := goodIn_r _ [4] (by decide +kernel) (by decide +kernel)
set_option maxRecDepth 20000 in
theorem gX3_isBranch_X3_isWithin : GoodIn wsX3_isBranch (va_wsS RX3 70 yX3_isWithin wsX3_isWithin) := goodIn_app (goodIn_of _ (by decide +kernel)) ggX3_isBranch_X3_isWithin
theorem dX3_isBranch_0 : decode cX3_isBranch 0 = .ok (.iload_n 0, 1) := by decide +kernel
theorem dX3_isBranch_1 : decode cX3_isBranch 1 = .ok (.iconst 0, 1) := by decide +kernel
theorem dX3_isBranch_2 : decode cX3_isBranch 2 = .ok (.iconst 3, 1) := by decide +kernel
theorem dX3_isBranch_3 : decode cX3_isBranch 3 = .ok (.invokestatic 70, 3) := by decide +kernel
theorem dX3_isBranch_6 : decode cX3_isBranch 6 = .ok (.ireturn, 1) := by decide +kernel
set_option maxRecDepth 20000 in
theorem ggX3_isSideBranch_X3_isWithin : GoodIn wsX3_isSideBranch wsX3_isWithin := goodIn_r _ [4] (by decide +kernel) (by decide +kernel)
set_option maxRecDepth 20000 in
theorem gX3_isSideBranch_X3_isWithin : GoodIn wsX3_isSideBranch (va_wsS RX3 70 yX3_isWithin wsX3_isWithin) := goodIn_app (goodIn_of _ (by decide +kernel)) ggX3_isSideBranch_X3_isWithin
theorem dX3_isSideBranch_0 : decode cX3_isSideBranch 0 = .ok (.iload_n 0, 1) := by decide +kernel
theorem dX3_isSideBranch_1 : decode cX3_isSideBranch 1 = .ok (.iconst 1, 1) := by decide +kernel
theorem dX3_isSideBranch_2 : decode cX3_isSideBranch 2 = .ok (.iconst 3, 1) := by decide +kernel
theorem dX3_isSideBranch_3 : decode cX3_isSideBranch 3 = .ok (.invokestatic 70, 3) := by decide +kernel
theorem dX3_isSideBranch_6 : decode cX3_isSideBranch 6 = .ok (.ireturn, 1) := by decide +kernel
set_option maxRecDepth 20000 in
theorem ggX3_isShade_X3_isWithin : GoodIn wsX3_isShade wsX3_isWithin := goodIn_r _ [4] (by decide +kernel) (by decide +kernel)
set_option maxRecDepth 20000 in
theorem gX3_isShade_X3_isWithin : GoodIn wsX3_isShade (va_wsS RX3 70 yX3_isWithin wsX3_isWithin) := goodIn_app (goodIn_of _ (by decide +kernel)) ggX3_isShade_X3_isWithin
theorem dX3_isShade_0 : decode cX3_isShade 0 = .ok (.iload_n 0, 1) := by decide +kernel
theorem dX3_isShade_1 : decode cX3_isShade 1 = .ok (.iconst 0, 1) := by decide +kernel
theorem dX3_isShade_2 : decode cX3_isShade 2 = .ok (.sipush 255, 3) := by decide +kernel
theorem dX3_isShade_5 : decode cX3_isShade 5 = .ok (.invokestatic 70, 3) := by decide +kernel
theorem dX3_isShade_8 : decode cX3_isShade 8 = .ok (.ireturn, 1) := by decide +kernel
set_option maxRecDepth 20000 in
theorem ggX3_isCell_X3_isWithin : GoodIn wsX3_isCell wsX3_isWithin := goodIn_r _ [4] (by decide +kernel) (by decide +kernel)
set_option maxRecDepth 20000 in
theorem gX3_isCell_X3_isWithin : GoodIn wsX3_isCell (va_wsS RX3 70 yX3_isWithin wsX3_isWithin) := goodIn_app (goodIn_of _ (by decide +kernel)) ggX3_isCell_X3_isWithin
theorem dX3_isCell_0 : decode cX3_isCell 0 = .ok (.iload_n 0, 1) := by decide +kernel
theorem dX3_isCell_1 : decode cX3_isCell 1 = .ok (.iconst 0, 1) := by decide +kernel
theorem dX3_isCell_2 : decode cX3_isCell 2 = .ok (.bipush 7, 2) := by decide +kernel
theorem dX3_isCell_4 : decode cX3_isCell 4 = .ok (.invokestatic 70, 3) := by decide +kernel
theorem dX3_isCell_7 : decode cX3_isCell 7 = .ok (.ifCond .eq 17, 3) := by decide +kernel
theorem dX3_isCell_10 : decode cX3_isCell 10 = .ok (.iload_n 1, 1) := by decide +kernel
theorem dX3_isCell_11 : decode cX3_isCell 11 = .ok (.iconst 0, 1) := by decide +kernel
theorem dX3_isCell_12 : decode cX3_isCell 12 = .ok (.bipush 7, 2) := by decide +kernel
theorem dX3_isCell_14 : decode cX3_isCell 14 = .ok (.invokestatic 70, 3) := by decide +kernel
theorem dX3_isCell_17 : decode cX3_isCell 17 = .ok (.ifCond .eq 7, 3) := by decide +kernel
theorem dX3_isCell_20 : decode cX3_isCell 20 = .ok (.iconst 1, 1) := by decide +kernel
theorem dX3_isCell_21 : decode cX3_isCell 21 = .ok (.goto 4, 3) := by decide +kernel
theorem dX3_isCell_24 : decode cX3_isCell 24 = .ok (.iconst 0, 1) := by decide +kernel
theorem dX3_isCell_25 : decode cX3_isCell 25 = .ok (.ireturn, 1) := by decide +kernel
set_option maxRecDepth 20000 in
theorem ggX3_isRectangle_X3_isCell : GoodIn wsX3_isRectangle wsX3_isCell := goodIn_r _ [4, 5, 6, 3, 7] (by decide +kernel) (by decide +kernel)
set_option maxRecDepth 20000 in
theorem gX3_isRectangle_X3_isCell : GoodIn wsX3_isRectangle (va_wsS RX3 55 yX3_isCell wsX3_isCell) := goodIn_app (goodIn_of _ (by decide +kernel)) ggX3_isRectangle_X3_isCell
set_option maxRecDepth 20000 in
theorem ggX3_isRectangle_X3_isWithin : GoodIn wsX3_isRectangle wsX3_isWithin := goodIn_r _ [7] (by decide +kernel) (by decide +kernel)
set_option maxRecDepth 20000 in
theorem gX3_isRectangle_X3_isWithin : GoodIn wsX3_isRectangle (va_wsS RX3 70 yX3_isWithin wsX3_isWithin) := goodIn_app (goodIn_of _ (by decide +kernel)) ggX3_isRectangle_X3_isWithin
theorem dX3_isRectangle_0 : decode cX3_isRectangle 0 = .ok (.iload_n 0, 1) := by decide +kernel
theorem dX3_isRectangle_1 : decode cX3_isRectangle 1 = .ok (.iload_n 1, 1) := by decide +kernel
theorem dX3_isRectangle_2 : decode cX3_isRectangle 2 = .ok (.invokestatic 55, 3) := by decide +kernel
theorem dX3_isRectangle_5 : decode cX3_isRectangle 5 = .ok (.ifCond .eq 31, 3) := by decide +kernel
theorem dX3_isRectangle_8 : decode cX3_isRectangle 8 = .ok (.iload_n 2, 1) := by decide +kernel
theorem dX3_isRectangle_9 : decode cX3_isRectangle 9 = .ok (.iconst 1, 1) := by decide +kernel
theorem dX3_isRectangle_10 : decode cX3_isRectangle 10 = .ok (.bipush 8, 2) := by decide +kernel
theorem dX3_isRectangle_12 : decode cX3_isRectangle 12 = .ok (.iload_n 0, 1) := by decide +kernel
theorem dX3_isRectangle_13 : decode cX3_isRectangle 13 = .ok (.isub, 1) := by decide +kernel
theorem dX3_isRectangle_14 : decode cX3_isRectangle 14 = .ok (.invokestatic 70, 3) := by decide +kernel
theorem dX3_isRectangle_17 : decode cX3_isRectangle 17 = .ok (.ifCond .eq 19, 3) := by decide +kernel
theorem dX3_isRectangle_20 : decode cX3_isRectangle 20 = .ok (.iload_n 3, 1) := by decide +kernel
theorem dX3_isRectangle_21 : decode cX3_isRectangle 21 = .ok (.iconst 1, 1) := by decide +kernel
theorem dX3_isRectangle_22 : decode cX3_isRectangle 22 = .ok (.bipush 8, 2) := by decide +kernel
theorem dX3_isRectangle_24 : decode cX3_isRectangle 24 = .ok (.iload_n 1, 1) := by decide +kernel
theorem dX3_isRectangle_25 : decode cX3_isRectangle 25 = .ok (.isub, 1) := by decide +kernel
theorem dX3_isRectangle_26 : decode cX3_isRectangle 26 = .ok (.invokestatic 70, 3) := by decide +kernel
theorem dX3_isRectangle_29 : decode cX3_isRectangle 29 = .ok (.ifCond .eq 7, 3) := by decide +kernel
theorem dX3_isRectangle_32 : decode cX3_isRectangle 32 = .ok (.iconst 1, 1) := by decide +kernel
theorem dX3_isRectangle_33 : decode cX3_isRectangle 33 = .ok (.goto 4, 3) := by decide +kernel
theorem dX3_isRectangle_36 : decode cX3_isRectangle 36 = .ok (.iconst 0, 1) := by decide +kernel
theorem dX3_isRectangle_37 : decode cX3_isRectangle 37 = .ok (.ireturn, 1) := by decide +kernel
theorem dX3_pictureSlot_0 : decode cX3_pictureSlot 0 = .ok (.iload_n 0, 1) := by decide +kernel
theorem dX3_pictureSlot_1 : decode cX3_pictureSlot 1 = .ok (.ireturn, 1) := by decide +kernel
theorem dX3_approvedSlot_0 : decode cX3_approvedSlot 0 = .ok (.iconst 5, 1) := by decide +kernel
theorem dX3_approvedSlot_1 : decode cX3_approvedSlot 1 = .ok (.iload_n 0, 1) := by decide +kernel
theorem dX3_approvedSlot_2 : decode cX3_approvedSlot 2 = .ok (.iconst 5, 1) := by decide +kernel
theorem dX3_approvedSlot_3 : decode cX3_approvedSlot 3 = .ok (.imul, 1) := by decide +kernel
theorem dX3_approvedSlot_4 : decode cX3_approvedSlot 4 = .ok (.iadd, 1) := by decide +kernel
theorem dX3_approvedSlot_5 : decode cX3_approvedSlot 5 = .ok (.iload_n 1, 1) := by decide +kernel
theorem dX3_approvedSlot_6 : decode cX3_approvedSlot 6 = .ok (.iadd, 1) := by decide +kernel
theorem dX3_approvedSlot_7 : decode cX3_approvedSlot 7 = .ok (.ireturn, 1) := by decide +kernel
theorem dX3_baseSlot_0 : decode cX3_baseSlot 0 = .ok (.bipush 25, 2) := by decide +kernel
theorem dX3_baseSlot_2 : decode cX3_baseSlot 2 = .ok (.iload_n 0, 1) := by decide +kernel
theorem dX3_baseSlot_3 : decode cX3_baseSlot 3 = .ok (.iconst 5, 1) := by decide +kernel
theorem dX3_baseSlot_4 : decode cX3_baseSlot 4 = .ok (.imul, 1) := by decide +kernel
theorem dX3_baseSlot_5 : decode cX3_baseSlot 5 = .ok (.iadd, 1) := by decide +kernel
theorem dX3_baseSlot_6 : decode cX3_baseSlot 6 = .ok (.iload_n 1, 1) := by decide +kernel
theorem dX3_baseSlot_7 : decode cX3_baseSlot 7 = .ok (.iadd, 1) := by decide +kernel
theorem dX3_baseSlot_8 : decode cX3_baseSlot 8 = .ok (.ireturn, 1) := by decide +kernel
theorem dX3_columnOf_0 : decode cX3_columnOf 0 = .ok (.iload_n 0, 1) := by decide +kernel
theorem dX3_columnOf_1 : decode cX3_columnOf 1 = .ok (.bipush 8, 2) := by decide +kernel
theorem dX3_columnOf_3 : decode cX3_columnOf 3 = .ok (.irem, 1) := by decide +kernel
theorem dX3_columnOf_4 : decode cX3_columnOf 4 = .ok (.ireturn, 1) := by decide +kernel
theorem dX3_rowOf_0 : decode cX3_rowOf 0 = .ok (.iload_n 0, 1) := by decide +kernel
theorem dX3_rowOf_1 : decode cX3_rowOf 1 = .ok (.bipush 8, 2) := by decide +kernel
theorem dX3_rowOf_3 : decode cX3_rowOf 3 = .ok (.idiv, 1) := by decide +kernel
theorem dX3_rowOf_4 : decode cX3_rowOf 4 = .ok (.ireturn, 1) := by decide +kernel
set_option maxRecDepth 20000 in
theorem ggX3_clashes_X3_approvedSlot : GoodIn wsX3_clashes wsX3_approvedSlot := goodIn_r _ [5] (by decide +kernel) (by decide +kernel)
set_option maxRecDepth 20000 in
theorem gX3_clashes_X3_approvedSlot : GoodIn wsX3_clashes (va_wsS RX3 87 yX3_approvedSlot wsX3_approvedSlot) := goodIn_app (goodIn_of _ (by decide +kernel)) ggX3_clashes_X3_approvedSlot
set_option maxRecDepth 20000 in
theorem ggX3_clashes_X3_baseSlot : GoodIn wsX3_clashes wsX3_baseSlot := goodIn_r _ [8] (by decide +kernel) (by decide +kernel)
set_option maxRecDepth 20000 in
theorem gX3_clashes_X3_baseSlot : GoodIn wsX3_clashes (va_wsS RX3 148 yX3_baseSlot wsX3_baseSlot) := goodIn_app (goodIn_of _ (by decide +kernel)) ggX3_clashes_X3_baseSlot
set_option maxRecDepth 20000 in
theorem ggX3_clashes_X1_same : GoodIn wsX3_clashes wsX1_same := goodIn_r _ [13, 14, 15, 16, 17, 12, 18, 19, 20, 21, 22, 23, 4, 24, 29, 30] (by decide +kernel) (by decide +kernel)
set_option maxRecDepth 20000 in
theorem gX3_clashes_X1_same : GoodIn wsX3_clashes (wsV RX3 151 RX1 yX1_same wsX1_same) := goodIn_app (goodIn_of _ (by decide +kernel)) ggX3_clashes_X1_same
theorem dX3_clashes_0 : decode cX3_clashes 0 = .ok (.iload_n 1, 1) := by decide +kernel
theorem dX3_clashes_1 : decode cX3_clashes 1 = .ok (.iload_n 2, 1) := by decide +kernel
theorem dX3_clashes_2 : decode cX3_clashes 2 = .ok (.invokestatic 87, 3) := by decide +kernel
theorem dX3_clashes_5 : decode cX3_clashes 5 = .ok (.istore_n 3, 1) := by decide +kernel
theorem dX3_clashes_6 : decode cX3_clashes 6 = .ok (.iconst 0, 1) := by decide +kernel
theorem dX3_clashes_7 : decode cX3_clashes 7 = .ok (.iload_n 2, 1) := by decide +kernel
theorem dX3_clashes_8 : decode cX3_clashes 8 = .ok (.invokestatic 87, 3) := by decide +kernel
theorem dX3_clashes_11 : decode cX3_clashes 11 = .ok (.istore 4, 2) := by decide +kernel
theorem dX3_clashes_13 : decode cX3_clashes 13 = .ok (.iload_n 1, 1) := by decide +kernel
theorem dX3_clashes_14 : decode cX3_clashes 14 = .ok (.iload_n 2, 1) := by decide +kernel
theorem dX3_clashes_15 : decode cX3_clashes 15 = .ok (.invokestatic 148, 3) := by decide +kernel
theorem dX3_clashes_18 : decode cX3_clashes 18 = .ok (.istore 5, 2) := by decide +kernel
theorem dX3_clashes_20 : decode cX3_clashes 20 = .ok (.aload_n 0, 1) := by decide +kernel
theorem dX3_clashes_21 : decode cX3_clashes 21 = .ok (.getfield 12, 3) := by decide +kernel
theorem dX3_clashes_24 : decode cX3_clashes 24 = .ok (.iload_n 3, 1) := by decide +kernel
theorem dX3_clashes_25 : decode cX3_clashes 25 = .ok (.iload 5, 2) := by decide +kernel
theorem dX3_clashes_27 : decode cX3_clashes 27 = .ok (.invokevirtual 151, 3) := by decide +kernel
theorem dX3_clashes_30 : decode cX3_clashes 30 = .ok (.ifCond .ne 34, 3) := by decide +kernel
theorem dX3_clashes_33 : decode cX3_clashes 33 = .ok (.aload_n 0, 1) := by decide +kernel
theorem dX3_clashes_34 : decode cX3_clashes 34 = .ok (.getfield 12, 3) := by decide +kernel
theorem dX3_clashes_37 : decode cX3_clashes 37 = .ok (.iload 4, 2) := by decide +kernel
theorem dX3_clashes_39 : decode cX3_clashes 39 = .ok (.iload 5, 2) := by decide +kernel
theorem dX3_clashes_41 : decode cX3_clashes 41 = .ok (.invokevirtual 151, 3) := by decide +kernel
theorem dX3_clashes_44 : decode cX3_clashes 44 = .ok (.ifCond .ne 20, 3) := by decide +kernel
theorem dX3_clashes_47 : decode cX3_clashes 47 = .ok (.aload_n 0, 1) := by decide +kernel
theorem dX3_clashes_48 : decode cX3_clashes 48 = .ok (.getfield 12, 3) := by decide +kernel
theorem dX3_clashes_51 : decode cX3_clashes 51 = .ok (.iload_n 3, 1) := by decide +kernel
theorem dX3_clashes_52 : decode cX3_clashes 52 = .ok (.iload 4, 2) := by decide +kernel
theorem dX3_clashes_54 : decode cX3_clashes 54 = .ok (.invokevirtual 151, 3) := by decide +kernel
theorem dX3_clashes_57 : decode cX3_clashes 57 = .ok (.ifCond .ne 7, 3) := by decide +kernel
theorem dX3_clashes_60 : decode cX3_clashes 60 = .ok (.iconst 1, 1) := by decide +kernel
theorem dX3_clashes_61 : decode cX3_clashes 61 = .ok (.goto 4, 3) := by decide +kernel
theorem dX3_clashes_64 : decode cX3_clashes 64 = .ok (.iconst 0, 1) := by decide +kernel
theorem dX3_clashes_65 : decode cX3_clashes 65 = .ok (.ireturn, 1) := by decide +kernel
set_option maxRecDepth 20000 in
theorem ggX3_takeOver_X3_approvedSlot : GoodIn wsX3_takeOver wsX3_approvedSlot := goodIn_r _ [5] (by decide +kernel) (by decide +kernel)
set_option maxRecDepth 20000 in
theorem gX3_takeOver_X3_approvedSlot : GoodIn wsX3_takeOver (va_wsS RX3 87 yX3_approvedSlot wsX3_approvedSlot) := goodIn_app (goodIn_of _ (by decide +kernel)) ggX3_takeOver_X3_approvedSlot
set_option maxRecDepth 20000 in
theorem ggX3_takeOver_X3_baseSlot : GoodIn wsX3_takeOver wsX3_baseSlot := goodIn_r _ [8] (by decide +kernel) (by decide +kernel)
set_option maxRecDepth 20000 in
theorem gX3_takeOver_X3_baseSlot : GoodIn wsX3_takeOver (va_wsS RX3 148 yX3_baseSlot wsX3_baseSlot) := goodIn_app (goodIn_of _ (by decide +kernel)) ggX3_takeOver_X3_baseSlot
set_option maxRecDepth 20000 in
theorem ggX3_takeOver_X1_same : GoodIn wsX3_takeOver wsX1_same := goodIn_r _ [13, 14, 15, 16, 17, 12, 18, 19, 20, 21, 22, 23, 4, 24, 37, 38] (by decide +kernel) (by decide +kernel)
set_option maxRecDepth 20000 in
theorem gX3_takeOver_X1_same : GoodIn wsX3_takeOver (wsV RX3 151 RX1 yX1_same wsX1_same) := goodIn_app (goodIn_of _ (by decide +kernel)) ggX3_takeOver_X1_same
set_option maxRecDepth 20000 in
theorem ggX3_takeOver_X1_copy : GoodIn wsX3_takeOver wsX1_copy := goodIn_r _ [28, 14, 29, 30, 31, 32, 19, 20, 21, 12, 22, 23, 4, 24, 37, 38] (by decide +kernel) (by decide +kernel)
set_option maxRecDepth 20000 in
theorem gX3_takeOver_X1_copy : GoodIn wsX3_takeOver (wsV RX3 92 RX1 yX1_copy wsX1_copy) := goodIn_app (goodIn_of _ (by decide +kernel)) ggX3_takeOver_X1_copy
theorem dX3_takeOver_0 : decode cX3_takeOver 0 = .ok (.iload_n 1, 1) := by decide +kernel
theorem dX3_takeOver_1 : decode cX3_takeOver 1 = .ok (.iload_n 2, 1) := by decide +kernel
theorem dX3_takeOver_2 : decode cX3_takeOver 2 = .ok (.invokestatic 87, 3) := by decide +kernel
theorem dX3_takeOver_5 : decode cX3_takeOver 5 = .ok (.istore_n 3, 1) := by decide +kernel
theorem dX3_takeOver_6 : decode cX3_takeOver 6 = .ok (.iconst 0, 1) := by decide +kernel
theorem dX3_takeOver_7 : decode cX3_takeOver 7 = .ok (.iload_n 2, 1) := by decide +kernel
theorem dX3_takeOver_8 : decode cX3_takeOver 8 = .ok (.invokestatic 87, 3) := by decide +kernel
theorem dX3_takeOver_11 : decode cX3_takeOver 11 = .ok (.istore 4, 2) := by decide +kernel
theorem dX3_takeOver_13 : decode cX3_takeOver 13 = .ok (.iload_n 1, 1) := by decide +kernel
theorem dX3_takeOver_14 : decode cX3_takeOver 14 = .ok (.iload_n 2, 1) := by decide +kernel
theorem dX3_takeOver_15 : decode cX3_takeOver 15 = .ok (.invokestatic 148, 3) := by decide +kernel
theorem dX3_takeOver_18 : decode cX3_takeOver 18 = .ok (.istore 5, 2) := by decide +kernel
theorem dX3_takeOver_20 : decode cX3_takeOver 20 = .ok (.aload_n 0, 1) := by decide +kernel
theorem dX3_takeOver_21 : decode cX3_takeOver 21 = .ok (.getfield 12, 3) := by decide +kernel
theorem dX3_takeOver_24 : decode cX3_takeOver 24 = .ok (.iload 4, 2) := by decide +kernel
theorem dX3_takeOver_26 : decode cX3_takeOver 26 = .ok (.iload 5, 2) := by decide +kernel
theorem dX3_takeOver_28 : decode cX3_takeOver 28 = .ok (.invokevirtual 151, 3) := by decide +kernel
theorem dX3_takeOver_31 : decode cX3_takeOver 31 = .ok (.ifCond .eq 13, 3) := by decide +kernel
theorem dX3_takeOver_34 : decode cX3_takeOver 34 = .ok (.aload_n 0, 1) := by decide +kernel
theorem dX3_takeOver_35 : decode cX3_takeOver 35 = .ok (.getfield 12, 3) := by decide +kernel
theorem dX3_takeOver_38 : decode cX3_takeOver 38 = .ok (.iload_n 3, 1) := by decide +kernel
theorem dX3_takeOver_39 : decode cX3_takeOver 39 = .ok (.iload 4, 2) := by decide +kernel
theorem dX3_takeOver_41 : decode cX3_takeOver 41 = .ok (.invokevirtual 92, 3) := by decide +kernel
theorem dX3_takeOver_44 : decode cX3_takeOver 44 = .ok (.return_, 1) := by decide +kernel
set_option maxRecDepth 20000 in
theorem ggX3_followMain_X3_approvedSlot : GoodIn wsX3_followMain wsX3_approvedSlot := goodIn_r _ [5] (by decide +kernel) (by decide +kernel)
set_option maxRecDepth 20000 in
theorem gX3_followMain_X3_approvedSlot : GoodIn wsX3_followMain (va_wsS RX3 87 yX3_approvedSlot wsX3_approvedSlot) := goodIn_app (goodIn_of _ (by decide +kernel)) ggX3_followMain_X3_approvedSlot
set_option maxRecDepth 20000 in
theorem ggX3_followMain_X3_baseSlot : GoodIn wsX3_followMain wsX3_baseSlot := goodIn_r _ [8] (by decide +kernel) (by decide +kernel)
set_option maxRecDepth 20000 in
theorem gX3_followMain_X3_baseSlot : GoodIn wsX3_followMain (va_wsS RX3 148 yX3_baseSlot wsX3_baseSlot) := goodIn_app (goodIn_of _ (by decide +kernel)) ggX3_followMain_X3_baseSlot
set_option maxRecDepth 20000 in
theorem ggX3_followMain_X1_copy : GoodIn wsX3_followMain wsX1_copy := goodIn_r _ [13, 14, 15, 16, 17, 18, 19, 20, 21, 12, 22, 23, 4, 24, 29, 30] (by decide +kernel) (by decide +kernel)
set_option maxRecDepth 20000 in
theorem gX3_followMain_X1_copy : GoodIn wsX3_followMain (wsV RX3 92 RX1 yX1_copy wsX1_copy) := goodIn_app (goodIn_of _ (by decide +kernel)) ggX3_followMain_X1_copy
theorem dX3_followMain_0 : decode cX3_followMain 0 = .ok (.aload_n 0, 1) := by decide +kernel
theorem dX3_followMain_1 : decode cX3_followMain 1 = .ok (.getfield 12, 3) := by decide +kernel
theorem dX3_followMain_4 : decode cX3_followMain 4 = .ok (.iconst 0, 1) := by decide +kernel
theorem dX3_followMain_5 : decode cX3_followMain 5 = .ok (.iload_n 2, 1) := by decide +kernel
theorem dX3_followMain_6 : decode cX3_followMain 6 = .ok (.invokestatic 87, 3) := by decide +kernel
theorem dX3_followMain_9 : decode cX3_followMain 9 = .ok (.iload_n 1, 1) := by decide +kernel
theorem dX3_followMain_10 : decode cX3_followMain 10 = .ok (.iload_n 2, 1) := by decide +kernel
theorem dX3_followMain_11 : decode cX3_followMain 11 = .ok (.invokestatic 148, 3) := by decide +kernel
theorem dX3_followMain_14 : decode cX3_followMain 14 = .ok (.invokevirtual 92, 3) := by decide +kernel
theorem dX3_followMain_17 : decode cX3_followMain 17 = .ok (.aload_n 0, 1) := by decide +kernel
theorem dX3_followMain_18 : decode cX3_followMain 18 = .ok (.getfield 12, 3) := by decide +kernel
theorem dX3_followMain_21 : decode cX3_followMain 21 = .ok (.iconst 0, 1) := by decide +kernel
theorem dX3_followMain_22 : decode cX3_followMain 22 = .ok (.iload_n 2, 1) := by decide +kernel
theorem dX3_followMain_23 : decode cX3_followMain 23 = .ok (.invokestatic 87, 3) := by decide +kernel
theorem dX3_followMain_26 : decode cX3_followMain 26 = .ok (.iload_n 1, 1) := by decide +kernel
theorem dX3_followMain_27 : decode cX3_followMain 27 = .ok (.iload_n 2, 1) := by decide +kernel
theorem dX3_followMain_28 : decode cX3_followMain 28 = .ok (.invokestatic 87, 3) := by decide +kernel
theorem dX3_followMain_31 : decode cX3_followMain 31 = .ok (.invokevirtual 92, 3) := by decide +kernel
theorem dX3_followMain_34 : decode cX3_followMain 34 = .ok (.return_, 1) := by decide +kernel
set_option maxRecDepth 20000 in
theorem ggX3_findDifference_X3_findMove : GoodIn wsX3_findDifference wsX3_findMove := goodIn_r _ [5, 6, 7, 8, 9, 10, 11, 12, 13, 14, 15, 16, 17, 18, 4, 19, 20, 21, 22, 23, 24, 25, 26, 27, 28, 29, 30, 31, 32, 33, 34, 35, 36, 37, 38, 39, 40, 41, 42, 43, 44, 45, 46, 47, 48, 49, 50, 51, 52, 53, 54, 55, 56, 57, 58, 59, 60, 61, 62, 63, 64, 65, 66, 67, 68, 69, 109, 110, 111, 112, 113, 114, 115, 116, 117, 118] (by decide +kernel) (by decide +kernel)
set_option maxRecDepth 20000 in
theorem gX3_findDifference_X3_findMove : GoodIn wsX3_findDifference (wsV RX3 112 RX3 yX3_findMove wsX3_findMove) := goodIn_app (goodIn_of _ (by decide +kernel)) ggX3_findDifference_X3_findMove
set_option maxRecDepth 20000 in
theorem ggX3_findDifference_X3_differs : GoodIn wsX3_findDifference wsX3_differs := goodIn_r _ [73, 27, 74, 75, 4, 76, 77, 78, 79, 49, 50, 51, 52, 53, 54, 55, 56, 57, 58, 59, 60, 21, 22, 47, 48, 20, 61, 62, 63, 64, 65, 66, 7, 8, 9, 10, 80, 81, 82, 83, 6, 84, 85, 86, 14, 87, 16, 17, 41, 32, 18, 19, 88, 89, 90, 91, 92, 93, 94, 95, 96, 97, 98, 42, 43, 44, 45, 37, 38, 39, 40, 99, 100, 101, 102, 103, 104, 105, 106, 107, 108, 109, 110, 111, 112, 117, 118, 113, 114, 115, 116] (by decide +kernel) (by decide +kernel)
set_option maxRecDepth 20000 in
theorem gX3_findDifference_X3_differs : GoodIn wsX3_findDifference (wsV RX3 115 RX3 yX3_differs wsX3_differs) := goodIn_app (goodIn_of _ (by decide +kernel)) ggX3_findDifference_X3_differs
theorem dX3_findDifference_0 : decode cX3_findDifference 0 = .ok (.aload_n 0, 1) := by decide +kernel
theorem dX3_findDifference_1 : decode cX3_findDifference 1 = .ok (.iload_n 1, 1) := by decide +kernel
theorem dX3_findDifference_2 : decode cX3_findDifference 2 = .ok (.iload_n 2, 1) := by decide +kernel
theorem dX3_findDifference_3 : decode cX3_findDifference 3 = .ok (.iload_n 3, 1) := by decide +kernel
theorem dX3_findDifference_4 : decode cX3_findDifference 4 = .ok (.invokevirtual 112, 3) := by decide +kernel
theorem dX3_findDifference_7 : decode cX3_findDifference 7 = .ok (.istore 4, 2) := by decide +kernel
theorem dX3_findDifference_9 : decode cX3_findDifference 9 = .ok (.iconst 0, 1) := by decide +kernel
theorem dX3_findDifference_10 : decode cX3_findDifference 10 = .ok (.istore 5, 2) := by decide +kernel
theorem dX3_findDifference_12 : decode cX3_findDifference 12 = .ok (.iload 5, 2) := by decide +kernel
theorem dX3_findDifference_14 : decode cX3_findDifference 14 = .ok (.bipush 64, 2) := by decide +kernel
theorem dX3_findDifference_16 : decode cX3_findDifference 16 = .ok (.if_icmp .ge 26, 3) := by decide +kernel
theorem dX3_findDifference_19 : decode cX3_findDifference 19 = .ok (.aload_n 0, 1) := by decide +kernel
theorem dX3_findDifference_20 : decode cX3_findDifference 20 = .ok (.iload_n 1, 1) := by decide +kernel
theorem dX3_findDifference_21 : decode cX3_findDifference 21 = .ok (.iload_n 2, 1) := by decide +kernel
theorem dX3_findDifference_22 : decode cX3_findDifference 22 = .ok (.iload_n 3, 1) := by decide +kernel
theorem dX3_findDifference_23 : decode cX3_findDifference 23 = .ok (.iload 4, 2) := by decide +kernel
theorem dX3_findDifference_25 : decode cX3_findDifference 25 = .ok (.iload 5, 2) := by decide +kernel
theorem dX3_findDifference_27 : decode cX3_findDifference 27 = .ok (.invokevirtual 115, 3) := by decide +kernel
theorem dX3_findDifference_30 : decode cX3_findDifference 30 = .ok (.ifCond .eq 6, 3) := by decide +kernel
theorem dX3_findDifference_33 : decode cX3_findDifference 33 = .ok (.iload 5, 2) := by decide +kernel
theorem dX3_findDifference_35 : decode cX3_findDifference 35 = .ok (.ireturn, 1) := by decide +kernel
theorem dX3_findDifference_36 : decode cX3_findDifference 36 = .ok (.iinc 5 1, 3) := by decide +kernel
theorem dX3_findDifference_39 : decode cX3_findDifference 39 = .ok (.goto (-27), 3) := by decide +kernel
theorem dX3_findDifference_42 : decode cX3_findDifference 42 = .ok (.iconst (-1), 1) := by decide +kernel
theorem dX3_findDifference_43 : decode cX3_findDifference 43 = .ok (.ireturn, 1) := by decide +kernel
set_option maxRecDepth 20000 in
theorem ggX3_differs_X3_columnOf : GoodIn wsX3_differs wsX3_columnOf := goodIn_r _ [5] (by decide +kernel) (by decide +kernel)
set_option maxRecDepth 20000 in
theorem gX3_differs_X3_columnOf : GoodIn wsX3_differs (va_wsS RX3 122 yX3_columnOf wsX3_columnOf) := goodIn_app (goodIn_of _ (by decide +kernel)) ggX3_differs_X3_columnOf
set_option maxRecDepth 20000 in
theorem ggX3_differs_X3_rowOf : GoodIn wsX3_differs wsX3_rowOf := goodIn_r _ [8] (by decide +kernel) (by decide +kernel)
set_option maxRecDepth 20000 in
theorem gX3_differs_X3_rowOf : GoodIn wsX3_differs (va_wsS RX3 125 yX3_rowOf wsX3_rowOf) := goodIn_app (goodIn_of _ (by decide +kernel)) ggX3_differs_X3_rowOf
set_option maxRecDepth 20000 in
theorem ggX3_differs_X3_pictureSlot : GoodIn wsX3_differs wsX3_pictureSlot := goodIn_r _ [11] (by decide +kernel) (by decide +kernel)
set_option maxRecDepth 20000 in
theorem gX3_differs_X3_pictureSlot : GoodIn wsX3_differs (va_wsS RX3 48 yX3_pictureSlot wsX3_pictureSlot) := goodIn_app (goodIn_of _ (by decide +kernel)) ggX3_differs_X3_pictureSlot
set_option maxRecDepth 20000 in
theorem ggX3_differs_X1_at : GoodIn wsX3_differs wsX1_at := goodIn_r _ [16, 17, 18, 19, 15, 20, 21, 4, 22, 23, 24, 25, 26, 27, 28, 85, 86] (by decide +kernel) (by decide +kernel)
set_option maxRecDepth 20000 in
theorem gX3_differs_X1_at : GoodIn wsX3_differs (wsV RX3 59 RX1 yX1_at wsX1_at) := goodIn_app (goodIn_of _ (by decide +kernel)) ggX3_differs_X1_at
set_option maxRecDepth 20000 in
theorem ggX3_differs_X3_isAlike : GoodIn wsX3_differs wsX3_isAlike := goodIn_r _ [31, 32, 33, 34, 35] (by decide +kernel) (by decide +kernel)
set_option maxRecDepth 20000 in
theorem gX3_differs_X3_isAlike : GoodIn wsX3_differs (va_wsS RX3 154 yX3_isAlike wsX3_isAlike) := goodIn_app (goodIn_of _ (by decide +kernel)) ggX3_differs_X3_isAlike
set_option maxRecDepth 20000 in
theorem ggX3_differs_X3_isMoved : GoodIn wsX3_differs wsX3_isMoved := goodIn_r _ [39, 40, 41, 42, 43, 44, 45, 46, 47, 48, 49, 50, 4, 51, 25, 21, 22, 52, 53, 54, 55, 56, 57, 81, 82, 83, 84, 87, 88, 89, 90] (by decide +kernel) (by decide +kernel)
set_option maxRecDepth 20000 in
theorem gX3_differs_X3_isMoved : GoodIn wsX3_differs (wsV RX3 157 RX3 yX3_isMoved wsX3_isMoved) := goodIn_app (goodIn_of _ (by decide +kernel)) ggX3_differs_X3_isMoved
set_option maxRecDepth 20000 in
theorem ggX3_differs_X3_isMasked : GoodIn wsX3_differs wsX3_isMasked := goodIn_r _ [61, 40, 62, 52, 53, 4, 54, 63, 64, 65, 44, 66, 46, 50, 51, 25, 21, 22, 55, 56, 57, 67, 68, 69, 70, 48, 41, 42, 43, 45, 47, 49, 81, 82, 83, 84, 87, 88, 89, 90] (by decide +kernel) (by decide +kernel)
set_option maxRecDepth 20000 in
theorem gX3_differs_X3_isMasked : GoodIn wsX3_differs (wsV RX3 160 RX3 yX3_isMasked wsX3_isMasked) := goodIn_app (goodIn_of _ (by decide +kernel)) ggX3_differs_X3_isMasked
set_option maxRecDepth 20000 in
theorem ggX3_differs_X3_isSoft : GoodIn wsX3_differs wsX3_isSoft := goodIn_r _ [74, 75, 76, 34, 77, 78, 79, 80, 1, 9, 10, 4, 11, 12, 13, 14, 15, 16, 17, 18, 19, 20, 21, 22, 23, 24, 25, 26, 27, 28, 29, 30, 31, 32, 33, 35, 81, 82, 83, 84, 85, 86] (by decide +kernel) (by decide +kernel)
set_option maxRecDepth 20000 in
theorem gX3_differs_X3_isSoft : GoodIn wsX3_differs (wsV RX3 128 RX3 yX3_isSoft wsX3_isSoft) := goodIn_app (goodIn_of _ (by decide +kernel)) ggX3_differs_X3_isSoft
theorem dX3_differs_0 : decode cX3_differs 0 = .ok (.iload 5, 2) := by decide +kernel
theorem dX3_differs_2 : decode cX3_differs 2 = .ok (.invokestatic 122, 3) := by decide +kernel
theorem dX3_differs_5 : decode cX3_differs 5 = .ok (.istore 6, 2) := by decide +kernel
theorem dX3_differs_7 : decode cX3_differs 7 = .ok (.iload 5, 2) := by decide +kernel
theorem dX3_differs_9 : decode cX3_differs 9 = .ok (.invokestatic 125, 3) := by decide +kernel
theorem dX3_differs_12 : decode cX3_differs 12 = .ok (.istore 7, 2) := by decide +kernel
theorem dX3_differs_14 : decode cX3_differs 14 = .ok (.aload_n 0, 1) := by decide +kernel
theorem dX3_differs_15 : decode cX3_differs 15 = .ok (.getfield 12, 3) := by decide +kernel
theorem dX3_differs_18 : decode cX3_differs 18 = .ok (.iload_n 2, 1) := by decide +kernel
theorem dX3_differs_19 : decode cX3_differs 19 = .ok (.invokestatic 48, 3) := by decide +kernel
theorem dX3_differs_22 : decode cX3_differs 22 = .ok (.iload 6, 2) := by decide +kernel
theorem dX3_differs_24 : decode cX3_differs 24 = .ok (.iload 7, 2) := by decide +kernel
theorem dX3_differs_26 : decode cX3_differs 26 = .ok (.invokevirtual 59, 3) := by decide +kernel
theorem dX3_differs_29 : decode cX3_differs 29 = .ok (.istore 8, 2) := by decide +kernel
theorem dX3_differs_31 : decode cX3_differs 31 = .ok (.aload_n 0, 1) := by decide +kernel
theorem dX3_differs_32 : decode cX3_differs 32 = .ok (.getfield 12, 3) := by decide +kernel
theorem dX3_differs_35 : decode cX3_differs 35 = .ok (.iload_n 1, 1) := by decide +kernel
theorem dX3_differs_36 : decode cX3_differs 36 = .ok (.iload 6, 2) := by decide +kernel
theorem dX3_differs_38 : decode cX3_differs 38 = .ok (.iload 7, 2) := by decide +kernel
theorem dX3_differs_40 : decode cX3_differs 40 = .ok (.invokevirtual 59, 3) := by decide +kernel
theorem dX3_differs_43 : decode cX3_differs 43 = .ok (.istore 9, 2) := by decide +kernel
theorem dX3_differs_45 : decode cX3_differs 45 = .ok (.iload 8, 2) := by decide +kernel
theorem dX3_differs_47 : decode cX3_differs 47 = .ok (.iload 9, 2) := by decide +kernel
theorem dX3_differs_49 : decode cX3_differs 49 = .ok (.iload_n 3, 1) := by decide +kernel
theorem dX3_differs_50 : decode cX3_differs 50 = .ok (.invokestatic 154, 3) := by decide +kernel
theorem dX3_differs_53 : decode cX3_differs 53 = .ok (.ifCond .ne 49, 3) := by decide +kernel
theorem dX3_differs_56 : decode cX3_differs 56 = .ok (.aload_n 0, 1) := by decide +kernel
theorem dX3_differs_57 : decode cX3_differs 57 = .ok (.iload_n 2, 1) := by decide +kernel
theorem dX3_differs_58 : decode cX3_differs 58 = .ok (.iload 4, 2) := by decide +kernel
theorem dX3_differs_60 : decode cX3_differs 60 = .ok (.iload 6, 2) := by decide +kernel
theorem dX3_differs_62 : decode cX3_differs 62 = .ok (.iload 7, 2) := by decide +kernel
theorem dX3_differs_64 : decode cX3_differs 64 = .ok (.invokevirtual 157, 3) := by decide +kernel
theorem dX3_differs_67 : decode cX3_differs 67 = .ok (.ifCond .ne 35, 3) := by decide +kernel
theorem dX3_differs_70 : decode cX3_differs 70 = .ok (.aload_n 0, 1) := by decide +kernel
theorem dX3_differs_71 : decode cX3_differs 71 = .ok (.iload_n 2, 1) := by decide +kernel
theorem dX3_differs_72 : decode cX3_differs 72 = .ok (.iload 4, 2) := by decide +kernel
theorem dX3_differs_74 : decode cX3_differs 74 = .ok (.iload 6, 2) := by decide +kernel
theorem dX3_differs_76 : decode cX3_differs 76 = .ok (.iload 7, 2) := by decide +kernel
theorem dX3_differs_78 : decode cX3_differs 78 = .ok (.invokevirtual 160, 3) := by decide +kernel
theorem dX3_differs_81 : decode cX3_differs 81 = .ok (.ifCond .ne 21, 3) := by decide +kernel
theorem dX3_differs_84 : decode cX3_differs 84 = .ok (.aload_n 0, 1) := by decide +kernel
theorem dX3_differs_85 : decode cX3_differs 85 = .ok (.iload_n 1, 1) := by decide +kernel
theorem dX3_differs_86 : decode cX3_differs 86 = .ok (.iload_n 2, 1) := by decide +kernel
theorem dX3_differs_87 : decode cX3_differs 87 = .ok (.iload_n 3, 1) := by decide +kernel
theorem dX3_differs_88 : decode cX3_differs 88 = .ok (.iload 6, 2) := by decide +kernel
theorem dX3_differs_90 : decode cX3_differs 90 = .ok (.iload 7, 2) := by decide +kernel
theorem dX3_differs_92 : decode cX3_differs 92 = .ok (.invokevirtual 128, 3) := by decide +kernel
theorem dX3_differs_95 : decode cX3_differs 95 = .ok (.ifCond .ne 7, 3) := by decide +kernel
theorem dX3_differs_98 : decode cX3_differs 98 = .ok (.iconst 1, 1) := by decide +kernel
theorem dX3_differs_99 : decode cX3_differs 99 = .ok (.goto 4, 3) := by decide +kernel
theorem dX3_differs_102 : decode cX3_differs 102 = .ok (.iconst 0, 1) := by decide +kernel
theorem dX3_differs_103 : decode cX3_differs 103 = .ok (.ireturn, 1) := by decide +kernel
theorem dX3_isAlike_0 : decode cX3_isAlike 0 = .ok (.iload_n 0, 1) := by decide +kernel
theorem dX3_isAlike_1 : decode cX3_isAlike 1 = .ok (.iload_n 1, 1) := by decide +kernel
theorem dX3_isAlike_2 : decode cX3_isAlike 2 = .ok (.isub, 1) := by decide +kernel
theorem dX3_isAlike_3 : decode cX3_isAlike 3 = .ok (.invokestatic 163, 3) := by decide +kernel
theorem dX3_isAlike_6 : decode cX3_isAlike 6 = .ok (.iload_n 2, 1) := by decide +kernel
theorem dX3_isAlike_7 : decode cX3_isAlike 7 = .ok (.if_icmp .gt 7, 3) := by decide +kernel
theorem dX3_isAlike_10 : decode cX3_isAlike 10 = .ok (.iconst 1, 1) := by decide +kernel
theorem dX3_isAlike_11 : decode cX3_isAlike 11 = .ok (.goto 4, 3) := by decide +kernel
theorem dX3_isAlike_14 : decode cX3_isAlike 14 = .ok (.iconst 0, 1) := by decide +kernel
theorem dX3_isAlike_15 : decode cX3_isAlike 15 = .ok (.ireturn, 1) := by decide +kernel
set_option maxRecDepth 20000 in
theorem ggX3_isSoft_X3_pictureSlot : GoodIn wsX3_isSoft wsX3_pictureSlot := goodIn_r _ [12] (by decide +kernel) (by decide +kernel)
set_option maxRecDepth 20000 in
theorem gX3_isSoft_X3_pictureSlot : GoodIn wsX3_isSoft (va_wsS RX3 48 yX3_pictureSlot wsX3_pictureSlot) := goodIn_app (goodIn_of _ (by decide +kernel)) ggX3_isSoft_X3_pictureSlot
set_option maxRecDepth 20000 in
theorem ggX3_isSoft_X1_at : GoodIn wsX3_isSoft wsX1_at := goodIn_r _ [17, 18, 19, 20, 16, 21, 22, 11, 23, 24, 25, 26, 27, 28, 29, 40, 41] (by decide +kernel) (by decide +kernel)
set_option maxRecDepth 20000 in
theorem gX3_isSoft_X1_at : GoodIn wsX3_isSoft (wsV RX3 59 RX1 yX1_at wsX1_at) := goodIn_app (goodIn_of _ (by decide +kernel)) ggX3_isSoft_X1_at
set_option maxRecDepth 20000 in
theorem ggX3_isSoft_X3_isAlike : GoodIn wsX3_isSoft wsX3_isAlike := goodIn_r _ [32, 33, 34, 3, 35] (by decide +kernel) (by decide +kernel)
set_option maxRecDepth 20000 in
theorem gX3_isSoft_X3_isAlike : GoodIn wsX3_isSoft (va_wsS RX3 154 yX3_isAlike wsX3_isAlike) := goodIn_app (goodIn_of _ (by decide +kernel)) ggX3_isSoft_X3_isAlike
set_option maxRecDepth 20000 in
theorem ggX3_isSoft_X3_isWithin : GoodIn wsX3_isSoft wsX3_isWithin := goodIn_r _ [23] (by decide +kernel) (by decide +kernel)
set_option maxRecDepth 20000 in
theorem gX3_isSoft_X3_isWithin : GoodIn wsX3_isSoft (va_wsS RX3 70 yX3_isWithin wsX3_isWithin) := goodIn_app (goodIn_of _ (by decide +kernel)) ggX3_isSoft_X3_isWithin
theorem dX3_isSoft_0 : decode cX3_isSoft 0 = .ok (.sipush 255, 3) := by decide +kernel
theorem dX3_isSoft_3 : decode cX3_isSoft 3 = .ok (.istore 6, 2) := by decide +kernel
theorem dX3_isSoft_5 : decode cX3_isSoft 5 = .ok (.iconst 0, 1) := by decide +kernel
theorem dX3_isSoft_6 : decode cX3_isSoft 6 = .ok (.istore 7, 2) := by decide +kernel
theorem dX3_isSoft_8 : decode cX3_isSoft 8 = .ok (.iload 5, 2) := by decide +kernel
theorem dX3_isSoft_10 : decode cX3_isSoft 10 = .ok (.iconst 1, 1) := by decide +kernel
theorem dX3_isSoft_11 : decode cX3_isSoft 11 = .ok (.iadd, 1) := by decide +kernel
theorem dX3_isSoft_12 : decode cX3_isSoft 12 = .ok (.bipush 7, 2) := by decide +kernel
theorem dX3_isSoft_14 : decode cX3_isSoft 14 = .ok (.invokestatic 168, 3) := by decide +kernel
theorem dX3_isSoft_17 : decode cX3_isSoft 17 = .ok (.istore 8, 2) := by decide +kernel
theorem dX3_isSoft_19 : decode cX3_isSoft 19 = .ok (.iload 4, 2) := by decide +kernel
theorem dX3_isSoft_21 : decode cX3_isSoft 21 = .ok (.iconst 1, 1) := by decide +kernel
theorem dX3_isSoft_22 : decode cX3_isSoft 22 = .ok (.iadd, 1) := by decide +kernel
theorem dX3_isSoft_23 : decode cX3_isSoft 23 = .ok (.bipush 7, 2) := by decide +kernel
theorem dX3_isSoft_25 : decode cX3_isSoft 25 = .ok (.invokestatic 168, 3) := by decide +kernel
theorem dX3_isSoft_28 : decode cX3_isSoft 28 = .ok (.istore 9, 2) := by decide +kernel
theorem dX3_isSoft_30 : decode cX3_isSoft 30 = .ok (.iload 5, 2) := by decide +kernel
theorem dX3_isSoft_32 : decode cX3_isSoft 32 = .ok (.iconst 1, 1) := by decide +kernel
theorem dX3_isSoft_33 : decode cX3_isSoft 33 = .ok (.isub, 1) := by decide +kernel
theorem dX3_isSoft_34 : decode cX3_isSoft 34 = .ok (.iconst 0, 1) := by decide +kernel
theorem dX3_isSoft_35 : decode cX3_isSoft 35 = .ok (.invokestatic 171, 3) := by decide +kernel
theorem dX3_isSoft_38 : decode cX3_isSoft 38 = .ok (.istore 10, 2) := by decide +kernel
theorem dX3_isSoft_40 : decode cX3_isSoft 40 = .ok (.iload 10, 2) := by decide +kernel
theorem dX3_isSoft_42 : decode cX3_isSoft 42 = .ok (.iload 8, 2) := by decide +kernel
theorem dX3_isSoft_44 : decode cX3_isSoft 44 = .ok (.if_icmp .gt 67, 3) := by decide +kernel
theorem dX3_isSoft_47 : decode cX3_isSoft 47 = .ok (.iload 4, 2) := by decide +kernel
theorem dX3_isSoft_49 : decode cX3_isSoft 49 = .ok (.iconst 1, 1) := by decide +kernel
theorem dX3_isSoft_50 : decode cX3_isSoft 50 = .ok (.isub, 1) := by decide +kernel
theorem dX3_isSoft_51 : decode cX3_isSoft 51 = .ok (.iconst 0, 1) := by decide +kernel
theorem dX3_isSoft_52 : decode cX3_isSoft 52 = .ok (.invokestatic 171, 3) := by decide +kernel
theorem dX3_isSoft_55 : decode cX3_isSoft 55 = .ok (.istore 11, 2) := by decide +kernel
theorem dX3_isSoft_57 : decode cX3_isSoft 57 = .ok (.iload 11, 2) := by decide +kernel
theorem dX3_isSoft_59 : decode cX3_isSoft 59 = .ok (.iload 9, 2) := by decide +kernel
theorem dX3_isSoft_61 : decode cX3_isSoft 61 = .ok (.if_icmp .gt 44, 3) := by decide +kernel
theorem dX3_isSoft_64 : decode cX3_isSoft 64 = .ok (.aload_n 0, 1) := by decide +kernel
theorem dX3_isSoft_65 : decode cX3_isSoft 65 = .ok (.getfield 12, 3) := by decide +kernel
theorem dX3_isSoft_68 : decode cX3_isSoft 68 = .ok (.iload_n 2, 1) := by decide +kernel
theorem dX3_isSoft_69 : decode cX3_isSoft 69 = .ok (.invokestatic 48, 3) := by decide +kernel
theorem dX3_isSoft_72 : decode cX3_isSoft 72 = .ok (.iload 11, 2) := by decide +kernel
theorem dX3_isSoft_74 : decode cX3_isSoft 74 = .ok (.iload 10, 2) := by decide +kernel
theorem dX3_isSoft_76 : decode cX3_isSoft 76 = .ok (.invokevirtual 59, 3) := by decide +kernel
theorem dX3_isSoft_79 : decode cX3_isSoft 79 = .ok (.istore 12, 2) := by decide +kernel
theorem dX3_isSoft_81 : decode cX3_isSoft 81 = .ok (.iload 6, 2) := by decide +kernel
theorem dX3_isSoft_83 : decode cX3_isSoft 83 = .ok (.iload 12, 2) := by decide +kernel
theorem dX3_isSoft_85 : decode cX3_isSoft 85 = .ok (.invokestatic 168, 3) := by decide +kernel
theorem dX3_isSoft_88 : decode cX3_isSoft 88 = .ok (.istore 6, 2) := by decide +kernel
theorem dX3_isSoft_90 : decode cX3_isSoft 90 = .ok (.iload 7, 2) := by decide +kernel
theorem dX3_isSoft_92 : decode cX3_isSoft 92 = .ok (.iload 12, 2) := by decide +kernel
theorem dX3_isSoft_94 : decode cX3_isSoft 94 = .ok (.invokestatic 171, 3) := by decide +kernel
theorem dX3_isSoft_97 : decode cX3_isSoft 97 = .ok (.istore 7, 2) := by decide +kernel
theorem dX3_isSoft_99 : decode cX3_isSoft 99 = .ok (.iinc 11 1, 3) := by decide +kernel
theorem dX3_isSoft_102 : decode cX3_isSoft 102 = .ok (.goto (-45), 3) := by decide +kernel
theorem dX3_isSoft_105 : decode cX3_isSoft 105 = .ok (.iinc 10 1, 3) := by decide +kernel
theorem dX3_isSoft_108 : decode cX3_isSoft 108 = .ok (.goto (-68), 3) := by decide +kernel
theorem dX3_isSoft_111 : decode cX3_isSoft 111 = .ok (.iload 6, 2) := by decide +kernel
theorem dX3_isSoft_113 : decode cX3_isSoft 113 = .ok (.iload 7, 2) := by decide +kernel
theorem dX3_isSoft_115 : decode cX3_isSoft 115 = .ok (.iload_n 3, 1) := by decide +kernel
theorem dX3_isSoft_116 : decode cX3_isSoft 116 = .ok (.invokestatic 154, 3) := by decide +kernel
theorem dX3_isSoft_119 : decode cX3_isSoft 119 = .ok (.ifCond .ne 29, 3) := by decide +kernel
theorem dX3_isSoft_122 : decode cX3_isSoft 122 = .ok (.aload_n 0, 1) := by decide +kernel
theorem dX3_isSoft_123 : decode cX3_isSoft 123 = .ok (.getfield 12, 3) := by decide +kernel
theorem dX3_isSoft_126 : decode cX3_isSoft 126 = .ok (.iload_n 1, 1) := by decide +kernel
theorem dX3_isSoft_127 : decode cX3_isSoft 127 = .ok (.iload 4, 2) := by decide +kernel
theorem dX3_isSoft_129 : decode cX3_isSoft 129 = .ok (.iload 5, 2) := by decide +kernel
theorem dX3_isSoft_131 : decode cX3_isSoft 131 = .ok (.invokevirtual 59, 3) := by decide +kernel
theorem dX3_isSoft_134 : decode cX3_isSoft 134 = .ok (.iload 6, 2) := by decide +kernel
theorem dX3_isSoft_136 : decode cX3_isSoft 136 = .ok (.iload 7, 2) := by decide +kernel
theorem dX3_isSoft_138 : decode cX3_isSoft 138 = .ok (.invokestatic 70, 3) := by decide +kernel
theorem dX3_isSoft_141 : decode cX3_isSoft 141 = .ok (.ifCond .eq 7, 3) := by decide +kernel
theorem dX3_isSoft_144 : decode cX3_isSoft 144 = .ok (.iconst 1, 1) := by decide +kernel
theorem dX3_isSoft_145 : decode cX3_isSoft 145 = .ok (.goto 4, 3) := by decide +kernel
theorem dX3_isSoft_148 : decode cX3_isSoft 148 = .ok (.iconst 0, 1) := by decide +kernel
theorem dX3_isSoft_149 : decode cX3_isSoft 149 = .ok (.ireturn, 1) := by decide +kernel
set_option maxRecDepth 20000 in
theorem ggX3_isMoved_X2_holds : GoodIn wsX3_isMoved wsX2_holds := goodIn_r _ [6, 7, 8, 9, 10, 11, 12, 13, 14, 15, 16, 27, 28, 29, 30] (by decide +kernel) (by decide +kernel)
set_option maxRecDepth 20000 in
theorem gX3_isMoved_X2_holds : GoodIn wsX3_isMoved (wsV RX3 174 RX2 yX2_holds wsX2_holds) := goodIn_app (goodIn_of _ (by decide +kernel)) ggX3_isMoved_X2_holds
set_option maxRecDepth 20000 in
theorem ggX3_isMoved_X3_columnsOf : GoodIn wsX3_isMoved wsX3_columnsOf := goodIn_r _ [19] (by decide +kernel) (by decide +kernel)
set_option maxRecDepth 20000 in
theorem gX3_isMoved_X3_columnsOf : GoodIn wsX3_isMoved (va_wsS RX3 177 yX3_columnsOf wsX3_columnsOf) := goodIn_app (goodIn_of _ (by decide +kernel)) ggX3_isMoved_X3_columnsOf
set_option maxRecDepth 20000 in
theorem ggX3_isMoved_X3_rowsOf : GoodIn wsX3_isMoved wsX3_rowsOf := goodIn_r _ [22] (by decide +kernel) (by decide +kernel)
set_option maxRecDepth 20000 in
theorem gX3_isMoved_X3_rowsOf : GoodIn wsX3_isMoved (va_wsS RX3 180 yX3_rowsOf wsX3_rowsOf) := goodIn_app (goodIn_of _ (by decide +kernel)) ggX3_isMoved_X3_rowsOf
theorem dX3_isMoved_0 : decode cX3_isMoved 0 = .ok (.iload_n 2, 1) := by decide +kernel
theorem dX3_isMoved_1 : decode cX3_isMoved 1 = .ok (.sipush 5050, 3) := by decide +kernel
theorem dX3_isMoved_4 : decode cX3_isMoved 4 = .ok (.if_icmp .ne 5, 3) := by decide +kernel
theorem dX3_isMoved_7 : decode cX3_isMoved 7 = .ok (.iconst 0, 1) := by decide +kernel
theorem dX3_isMoved_8 : decode cX3_isMoved 8 = .ok (.ireturn, 1) := by decide +kernel
theorem dX3_isMoved_9 : decode cX3_isMoved 9 = .ok (.aload_n 0, 1) := by decide +kernel
theorem dX3_isMoved_10 : decode cX3_isMoved 10 = .ok (.getfield 19, 3) := by decide +kernel
theorem dX3_isMoved_13 : decode cX3_isMoved 13 = .ok (.iload_n 1, 1) := by decide +kernel
theorem dX3_isMoved_14 : decode cX3_isMoved 14 = .ok (.iload_n 3, 1) := by decide +kernel
theorem dX3_isMoved_15 : decode cX3_isMoved 15 = .ok (.iload 4, 2) := by decide +kernel
theorem dX3_isMoved_17 : decode cX3_isMoved 17 = .ok (.invokevirtual 174, 3) := by decide +kernel
theorem dX3_isMoved_20 : decode cX3_isMoved 20 = .ok (.ifCond .ne 27, 3) := by decide +kernel
theorem dX3_isMoved_23 : decode cX3_isMoved 23 = .ok (.aload_n 0, 1) := by decide +kernel
theorem dX3_isMoved_24 : decode cX3_isMoved 24 = .ok (.getfield 19, 3) := by decide +kernel
theorem dX3_isMoved_27 : decode cX3_isMoved 27 = .ok (.iload_n 1, 1) := by decide +kernel
theorem dX3_isMoved_28 : decode cX3_isMoved 28 = .ok (.iload_n 3, 1) := by decide +kernel
theorem dX3_isMoved_29 : decode cX3_isMoved 29 = .ok (.iload_n 2, 1) := by decide +kernel
theorem dX3_isMoved_30 : decode cX3_isMoved 30 = .ok (.invokestatic 177, 3) := by decide +kernel
theorem dX3_isMoved_33 : decode cX3_isMoved 33 = .ok (.isub, 1) := by decide +kernel
theorem dX3_isMoved_34 : decode cX3_isMoved 34 = .ok (.iload 4, 2) := by decide +kernel
theorem dX3_isMoved_36 : decode cX3_isMoved 36 = .ok (.iload_n 2, 1) := by decide +kernel
theorem dX3_isMoved_37 : decode cX3_isMoved 37 = .ok (.invokestatic 180, 3) := by decide +kernel
theorem dX3_isMoved_40 : decode cX3_isMoved 40 = .ok (.isub, 1) := by decide +kernel
theorem dX3_isMoved_41 : decode cX3_isMoved 41 = .ok (.invokevirtual 174, 3) := by decide +kernel
theorem dX3_isMoved_44 : decode cX3_isMoved 44 = .ok (.ifCond .eq 7, 3) := by decide +kernel
theorem dX3_isMoved_47 : decode cX3_isMoved 47 = .ok (.iconst 1, 1) := by decide +kernel
theorem dX3_isMoved_48 : decode cX3_isMoved 48 = .ok (.goto 4, 3) := by decide +kernel
theorem dX3_isMoved_51 : decode cX3_isMoved 51 = .ok (.iconst 0, 1) := by decide +kernel
theorem dX3_isMoved_52 : decode cX3_isMoved 52 = .ok (.ireturn, 1) := by decide +kernel
set_option maxRecDepth 20000 in
theorem ggX3_isMasked_X3_columnsOf : GoodIn wsX3_isMasked wsX3_columnsOf := goodIn_r _ [6] (by decide +kernel) (by decide +kernel)
set_option maxRecDepth 20000 in
theorem gX3_isMasked_X3_columnsOf : GoodIn wsX3_isMasked (va_wsS RX3 177 yX3_columnsOf wsX3_columnsOf) := goodIn_app (goodIn_of _ (by decide +kernel)) ggX3_isMasked_X3_columnsOf
set_option maxRecDepth 20000 in
theorem ggX3_isMasked_X2_left : GoodIn wsX3_isMasked wsX2_left := goodIn_r _ [11, 12, 13, 5, 14, 15, 16, 17, 36, 37, 38, 39] (by decide +kernel) (by decide +kernel)
set_option maxRecDepth 20000 in
theorem gX3_isMasked_X2_left : GoodIn wsX3_isMasked (wsV RX3 183 RX2 yX2_left wsX2_left) := goodIn_app (goodIn_of _ (by decide +kernel)) ggX3_isMasked_X2_left
set_option maxRecDepth 20000 in
theorem ggX3_isMasked_X3_rowsOf : GoodIn wsX3_isMasked wsX3_rowsOf := goodIn_r _ [20] (by decide +kernel) (by decide +kernel)
set_option maxRecDepth 20000 in
theorem gX3_isMasked_X3_rowsOf : GoodIn wsX3_isMasked (va_wsS RX3 180 yX3_rowsOf wsX3_rowsOf) := goodIn_app (goodIn_of _ (by decide +kernel)) ggX3_isMasked_X3_rowsOf
set_option maxRecDepth 20000 in
theorem ggX3_isMasked_X2_top : GoodIn wsX3_isMasked wsX2_top := goodIn_r _ [24, 25, 13, 5, 14, 15, 16, 17, 36, 37, 38, 39] (by decide +kernel) (by decide +kernel)
set_option maxRecDepth 20000 in
theorem gX3_isMasked_X2_top : GoodIn wsX3_isMasked (wsV RX3 186 RX2 yX2_top wsX2_top) := goodIn_app (goodIn_of _ (by decide +kernel)) ggX3_isMasked_X2_top
set_option maxRecDepth 20000 in
theorem ggX3_isMasked_X2_holds : GoodIn wsX3_isMasked wsX2_holds := goodIn_r _ [29, 12, 30, 25, 31, 13, 5, 14, 15, 16, 17, 36, 37, 38, 39] (by decide +kernel) (by decide +kernel)
set_option maxRecDepth 20000 in
theorem gX3_isMasked_X2_holds : GoodIn wsX3_isMasked (wsV RX3 174 RX2 yX2_holds wsX2_holds) := goodIn_app (goodIn_of _ (by decide +kernel)) ggX3_isMasked_X2_holds
theorem dX3_isMasked_0 : decode cX3_isMasked 0 = .ok (.iload_n 3, 1) := by decide +kernel
theorem dX3_isMasked_1 : decode cX3_isMasked 1 = .ok (.iload_n 2, 1) := by decide +kernel
theorem dX3_isMasked_2 : decode cX3_isMasked 2 = .ok (.invokestatic 177, 3) := by decide +kernel
theorem dX3_isMasked_5 : decode cX3_isMasked 5 = .ok (.isub, 1) := by decide +kernel
theorem dX3_isMasked_6 : decode cX3_isMasked 6 = .ok (.aload_n 0, 1) := by decide +kernel
theorem dX3_isMasked_7 : decode cX3_isMasked 7 = .ok (.getfield 19, 3) := by decide +kernel
theorem dX3_isMasked_10 : decode cX3_isMasked 10 = .ok (.iload_n 1, 1) := by decide +kernel
theorem dX3_isMasked_11 : decode cX3_isMasked 11 = .ok (.invokevirtual 183, 3) := by decide +kernel
theorem dX3_isMasked_14 : decode cX3_isMasked 14 = .ok (.isub, 1) := by decide +kernel
theorem dX3_isMasked_15 : decode cX3_isMasked 15 = .ok (.istore 5, 2) := by decide +kernel
theorem dX3_isMasked_17 : decode cX3_isMasked 17 = .ok (.iload 4, 2) := by decide +kernel
theorem dX3_isMasked_19 : decode cX3_isMasked 19 = .ok (.iload_n 2, 1) := by decide +kernel
theorem dX3_isMasked_20 : decode cX3_isMasked 20 = .ok (.invokestatic 180, 3) := by decide +kernel
theorem dX3_isMasked_23 : decode cX3_isMasked 23 = .ok (.isub, 1) := by decide +kernel
theorem dX3_isMasked_24 : decode cX3_isMasked 24 = .ok (.aload_n 0, 1) := by decide +kernel
theorem dX3_isMasked_25 : decode cX3_isMasked 25 = .ok (.getfield 19, 3) := by decide +kernel
theorem dX3_isMasked_28 : decode cX3_isMasked 28 = .ok (.iload_n 1, 1) := by decide +kernel
theorem dX3_isMasked_29 : decode cX3_isMasked 29 = .ok (.invokevirtual 186, 3) := by decide +kernel
theorem dX3_isMasked_32 : decode cX3_isMasked 32 = .ok (.isub, 1) := by decide +kernel
theorem dX3_isMasked_33 : decode cX3_isMasked 33 = .ok (.istore 6, 2) := by decide +kernel
theorem dX3_isMasked_35 : decode cX3_isMasked 35 = .ok (.aload_n 0, 1) := by decide +kernel
theorem dX3_isMasked_36 : decode cX3_isMasked 36 = .ok (.getfield 23, 3) := by decide +kernel
theorem dX3_isMasked_39 : decode cX3_isMasked 39 = .ok (.iload_n 1, 1) := by decide +kernel
theorem dX3_isMasked_40 : decode cX3_isMasked 40 = .ok (.iload 5, 2) := by decide +kernel
theorem dX3_isMasked_42 : decode cX3_isMasked 42 = .ok (.iload 6, 2) := by decide +kernel
theorem dX3_isMasked_44 : decode cX3_isMasked 44 = .ok (.invokevirtual 174, 3) := by decide +kernel
theorem dX3_isMasked_47 : decode cX3_isMasked 47 = .ok (.ireturn, 1) := by decide +kernel
theorem dX3_moveBy_0 : decode cX3_moveBy 0 = .ok (.sipush 5050, 3) := by decide +kernel
theorem dX3_moveBy_3 : decode cX3_moveBy 3 = .ok (.bipush 100, 2) := by decide +kernel
theorem dX3_moveBy_5 : decode cX3_moveBy 5 = .ok (.iload_n 1, 1) := by decide +kernel
theorem dX3_moveBy_6 : decode cX3_moveBy 6 = .ok (.imul, 1) := by decide +kernel
theorem dX3_moveBy_7 : decode cX3_moveBy 7 = .ok (.iadd, 1) := by decide +kernel
theorem dX3_moveBy_8 : decode cX3_moveBy 8 = .ok (.iload_n 0, 1) := by decide +kernel
theorem dX3_moveBy_9 : decode cX3_moveBy 9 = .ok (.iadd, 1) := by decide +kernel
theorem dX3_moveBy_10 : decode cX3_moveBy 10 = .ok (.ireturn, 1) := by decide +kernel
theorem dX3_columnsOf_0 : decode cX3_columnsOf 0 = .ok (.iload_n 0, 1) := by decide +kernel
theorem dX3_columnsOf_1 : decode cX3_columnsOf 1 = .ok (.bipush 100, 2) := by decide +kernel
theorem dX3_columnsOf_3 : decode cX3_columnsOf 3 = .ok (.irem, 1) := by decide +kernel
theorem dX3_columnsOf_4 : decode cX3_columnsOf 4 = .ok (.bipush 50, 2) := by decide +kernel
theorem dX3_columnsOf_6 : decode cX3_columnsOf 6 = .ok (.isub, 1) := by decide +kernel
theorem dX3_columnsOf_7 : decode cX3_columnsOf 7 = .ok (.ireturn, 1) := by decide +kernel
theorem dX3_rowsOf_0 : decode cX3_rowsOf 0 = .ok (.iload_n 0, 1) := by decide +kernel
theorem dX3_rowsOf_1 : decode cX3_rowsOf 1 = .ok (.bipush 100, 2) := by decide +kernel
theorem dX3_rowsOf_3 : decode cX3_rowsOf 3 = .ok (.idiv, 1) := by decide +kernel
theorem dX3_rowsOf_4 : decode cX3_rowsOf 4 = .ok (.bipush 50, 2) := by decide +kernel
theorem dX3_rowsOf_6 : decode cX3_rowsOf 6 = .ok (.isub, 1) := by decide +kernel
theorem dX3_rowsOf_7 : decode cX3_rowsOf 7 = .ok (.ireturn, 1) := by decide +kernel
set_option maxRecDepth 20000 in
theorem ggX3_findMove_X2_has : GoodIn wsX3_findMove wsX2_has := goodIn_r _ [10, 11, 12, 13, 14, 15, 16, 17, 18, 70, 71, 72, 73] (by decide +kernel) (by decide +kernel)
set_option maxRecDepth 20000 in
theorem gX3_findMove_X2_has : GoodIn wsX3_findMove (wsV RX3 74 RX2 yX2_has wsX2_has) := goodIn_app (goodIn_of _ (by decide +kernel)) ggX3_findMove_X2_has
set_option maxRecDepth 20000 in
theorem ggX3_findMove_X3_fits : GoodIn wsX3_findMove wsX3_fits := goodIn_r _ [22, 1, 23, 24, 25, 26, 9, 27, 28, 13, 14, 15, 16, 17, 18, 29, 30, 31, 32, 12, 33, 34, 35, 36, 37, 38, 39, 40, 41, 11, 42, 43, 44, 45, 46, 47, 48, 49, 50, 51, 52, 53, 54, 55, 56, 57, 58, 59, 60, 61, 62, 2, 3, 4, 5, 66, 67, 68, 69, 70, 71, 72, 73, 74, 75] (by decide +kernel) (by decide +kernel)
set_option maxRecDepth 20000 in
theorem gX3_findMove_X3_fits : GoodIn wsX3_findMove (wsV RX3 189 RX3 yX3_fits wsX3_fits) := goodIn_app (goodIn_of _ (by decide +kernel)) ggX3_findMove_X3_fits
set_option maxRecDepth 20000 in
theorem ggX3_findMove_X3_moveBy : GoodIn wsX3_findMove wsX3_moveBy := goodIn_r _ [65] (by decide +kernel) (by decide +kernel)
set_option maxRecDepth 20000 in
theorem gX3_findMove_X3_moveBy : GoodIn wsX3_findMove (va_wsS RX3 192 yX3_moveBy wsX3_moveBy) := goodIn_app (goodIn_of _ (by decide +kernel)) ggX3_findMove_X3_moveBy
theorem dX3_findMove_0 : decode cX3_findMove 0 = .ok (.aload_n 0, 1) := by decide +kernel
theorem dX3_findMove_1 : decode cX3_findMove 1 = .ok (.getfield 19, 3) := by decide +kernel
theorem dX3_findMove_4 : decode cX3_findMove 4 = .ok (.iload_n 2, 1) := by decide +kernel
theorem dX3_findMove_5 : decode cX3_findMove 5 = .ok (.invokevirtual 74, 3) := by decide +kernel
theorem dX3_findMove_8 : decode cX3_findMove 8 = .ok (.ifCond .eq 15, 3) := by decide +kernel
theorem dX3_findMove_11 : decode cX3_findMove 11 = .ok (.aload_n 0, 1) := by decide +kernel
theorem dX3_findMove_12 : decode cX3_findMove 12 = .ok (.iload_n 1, 1) := by decide +kernel
theorem dX3_findMove_13 : decode cX3_findMove 13 = .ok (.iload_n 2, 1) := by decide +kernel
theorem dX3_findMove_14 : decode cX3_findMove 14 = .ok (.iload_n 3, 1) := by decide +kernel
theorem dX3_findMove_15 : decode cX3_findMove 15 = .ok (.iconst 0, 1) := by decide +kernel
theorem dX3_findMove_16 : decode cX3_findMove 16 = .ok (.iconst 0, 1) := by decide +kernel
theorem dX3_findMove_17 : decode cX3_findMove 17 = .ok (.invokevirtual 189, 3) := by decide +kernel
theorem dX3_findMove_20 : decode cX3_findMove 20 = .ok (.ifCond .eq 7, 3) := by decide +kernel
theorem dX3_findMove_23 : decode cX3_findMove 23 = .ok (.sipush 5050, 3) := by decide +kernel
theorem dX3_findMove_26 : decode cX3_findMove 26 = .ok (.ireturn, 1) := by decide +kernel
theorem dX3_findMove_27 : decode cX3_findMove 27 = .ok (.sipush 5050, 3) := by decide +kernel
theorem dX3_findMove_30 : decode cX3_findMove 30 = .ok (.istore 4, 2) := by decide +kernel
theorem dX3_findMove_32 : decode cX3_findMove 32 = .ok (.iconst 5, 1) := by decide +kernel
theorem dX3_findMove_33 : decode cX3_findMove 33 = .ok (.istore 5, 2) := by decide +kernel
theorem dX3_findMove_35 : decode cX3_findMove 35 = .ok (.bipush (-2), 2) := by decide +kernel
theorem dX3_findMove_37 : decode cX3_findMove 37 = .ok (.istore 6, 2) := by decide +kernel
theorem dX3_findMove_39 : decode cX3_findMove 39 = .ok (.iload 6, 2) := by decide +kernel
theorem dX3_findMove_41 : decode cX3_findMove 41 = .ok (.iconst 2, 1) := by decide +kernel
theorem dX3_findMove_42 : decode cX3_findMove 42 = .ok (.if_icmp .gt 72, 3) := by decide +kernel
theorem dX3_findMove_45 : decode cX3_findMove 45 = .ok (.bipush (-2), 2) := by decide +kernel
theorem dX3_findMove_47 : decode cX3_findMove 47 = .ok (.istore 7, 2) := by decide +kernel
theorem dX3_findMove_49 : decode cX3_findMove 49 = .ok (.iload 7, 2) := by decide +kernel
theorem dX3_findMove_51 : decode cX3_findMove 51 = .ok (.iconst 2, 1) := by decide +kernel
theorem dX3_findMove_52 : decode cX3_findMove 52 = .ok (.if_icmp .gt 56, 3) := by decide +kernel
theorem dX3_findMove_55 : decode cX3_findMove 55 = .ok (.iload 6, 2) := by decide +kernel
theorem dX3_findMove_57 : decode cX3_findMove 57 = .ok (.invokestatic 163, 3) := by decide +kernel
theorem dX3_findMove_60 : decode cX3_findMove 60 = .ok (.iload 7, 2) := by decide +kernel
theorem dX3_findMove_62 : decode cX3_findMove 62 = .ok (.invokestatic 163, 3) := by decide +kernel
theorem dX3_findMove_65 : decode cX3_findMove 65 = .ok (.iadd, 1) := by decide +kernel
theorem dX3_findMove_66 : decode cX3_findMove 66 = .ok (.istore 8, 2) := by decide +kernel
theorem dX3_findMove_68 : decode cX3_findMove 68 = .ok (.iload 8, 2) := by decide +kernel
theorem dX3_findMove_70 : decode cX3_findMove 70 = .ok (.iload 5, 2) := by decide +kernel
theorem dX3_findMove_72 : decode cX3_findMove 72 = .ok (.if_icmp .ge 30, 3) := by decide +kernel
theorem dX3_findMove_75 : decode cX3_findMove 75 = .ok (.aload_n 0, 1) := by decide +kernel
theorem dX3_findMove_76 : decode cX3_findMove 76 = .ok (.iload_n 1, 1) := by decide +kernel
theorem dX3_findMove_77 : decode cX3_findMove 77 = .ok (.iload_n 2, 1) := by decide +kernel
theorem dX3_findMove_78 : decode cX3_findMove 78 = .ok (.iload_n 3, 1) := by decide +kernel
theorem dX3_findMove_79 : decode cX3_findMove 79 = .ok (.iload 7, 2) := by decide +kernel
theorem dX3_findMove_81 : decode cX3_findMove 81 = .ok (.iload 6, 2) := by decide +kernel
theorem dX3_findMove_83 : decode cX3_findMove 83 = .ok (.invokevirtual 189, 3) := by decide +kernel
theorem dX3_findMove_86 : decode cX3_findMove 86 = .ok (.ifCond .eq 16, 3) := by decide +kernel
theorem dX3_findMove_89 : decode cX3_findMove 89 = .ok (.iload 8, 2) := by decide +kernel
theorem dX3_findMove_91 : decode cX3_findMove 91 = .ok (.istore 5, 2) := by decide +kernel
theorem dX3_findMove_93 : decode cX3_findMove 93 = .ok (.iload 7, 2) := by decide +kernel
theorem dX3_findMove_95 : decode cX3_findMove 95 = .ok (.iload 6, 2) := by decide +kernel
theorem dX3_findMove_97 : decode cX3_findMove 97 = .ok (.invokestatic 192, 3) := by decide +kernel
theorem dX3_findMove_100 : decode cX3_findMove 100 = .ok (.istore 4, 2) := by decide +kernel
theorem dX3_findMove_102 : decode cX3_findMove 102 = .ok (.iinc 7 1, 3) := by decide +kernel
theorem dX3_findMove_105 : decode cX3_findMove 105 = .ok (.goto (-56), 3) := by decide +kernel
theorem dX3_findMove_108 : decode cX3_findMove 108 = .ok (.iinc 6 1, 3) := by decide +kernel
theorem dX3_findMove_111 : decode cX3_findMove 111 = .ok (.goto (-72), 3) := by decide +kernel
theorem dX3_findMove_114 : decode cX3_findMove 114 = .ok (.iload 4, 2) := by decide +kernel
theorem dX3_findMove_116 : decode cX3_findMove 116 = .ok (.ireturn, 1) := by decide +kernel
set_option maxRecDepth 20000 in
theorem ggX3_fits_X2_bottom : GoodIn wsX3_fits wsX2_bottom := goodIn_r _ [7, 8, 9, 10, 11, 12, 13, 14, 59, 60, 61, 62] (by decide +kernel) (by decide +kernel)
set_option maxRecDepth 20000 in
theorem gX3_fits_X2_bottom : GoodIn wsX3_fits (wsV RX3 195 RX2 yX2_bottom wsX2_bottom) := goodIn_app (goodIn_of _ (by decide +kernel)) ggX3_fits_X2_bottom
set_option maxRecDepth 20000 in
theorem ggX3_fits_X2_right : GoodIn wsX3_fits wsX2_right := goodIn_r _ [18, 19, 9, 10, 11, 12, 13, 14, 59, 60, 61, 62] (by decide +kernel) (by decide +kernel)
set_option maxRecDepth 20000 in
theorem gX3_fits_X2_right : GoodIn wsX3_fits (wsV RX3 198 RX2 yX2_right wsX2_right) := goodIn_app (goodIn_of _ (by decide +kernel)) ggX3_fits_X2_right
set_option maxRecDepth 20000 in
theorem ggX3_fits_X2_top : GoodIn wsX3_fits wsX2_top := goodIn_r _ [23, 24, 9, 10, 11, 12, 13, 14, 59, 60, 61, 62] (by decide +kernel) (by decide +kernel)
set_option maxRecDepth 20000 in
theorem gX3_fits_X2_top : GoodIn wsX3_fits (wsV RX3 186 RX2 yX2_top wsX2_top) := goodIn_app (goodIn_of _ (by decide +kernel)) ggX3_fits_X2_top
set_option maxRecDepth 20000 in
theorem ggX3_fits_X2_left : GoodIn wsX3_fits wsX2_left := goodIn_r _ [28, 29, 9, 10, 11, 12, 13, 14, 59, 60, 61, 62] (by decide +kernel) (by decide +kernel)
set_option maxRecDepth 20000 in
theorem gX3_fits_X2_left : GoodIn wsX3_fits (wsV RX3 183 RX2 yX2_left wsX2_left) := goodIn_app (goodIn_of _ (by decide +kernel)) ggX3_fits_X2_left
set_option maxRecDepth 20000 in
theorem ggX3_fits_X3_isCell : GoodIn wsX3_fits wsX3_isCell := goodIn_r _ [32, 12, 13, 10, 14] (by decide +kernel) (by decide +kernel)
set_option maxRecDepth 20000 in
theorem gX3_fits_X3_isCell : GoodIn wsX3_fits (va_wsS RX3 55 yX3_isCell wsX3_isCell) := goodIn_app (goodIn_of _ (by decide +kernel)) ggX3_fits_X3_isCell
set_option maxRecDepth 20000 in
theorem ggX3_fits_X3_pictureSlot : GoodIn wsX3_fits wsX3_pictureSlot := goodIn_r _ [35] (by decide +kernel) (by decide +kernel)
set_option maxRecDepth 20000 in
theorem gX3_fits_X3_pictureSlot : GoodIn wsX3_fits (va_wsS RX3 48 yX3_pictureSlot wsX3_pictureSlot) := goodIn_app (goodIn_of _ (by decide +kernel)) ggX3_fits_X3_pictureSlot
set_option maxRecDepth 20000 in
theorem ggX3_fits_X1_at : GoodIn wsX3_fits wsX1_at := goodIn_r _ [40, 41, 42, 43, 39, 44, 13, 10, 14, 31, 32, 12, 45, 46, 47, 63, 64] (by decide +kernel) (by decide +kernel)
set_option maxRecDepth 20000 in
theorem gX3_fits_X1_at : GoodIn wsX3_fits (wsV RX3 59 RX1 yX1_at wsX1_at) := goodIn_app (goodIn_of _ (by decide +kernel)) ggX3_fits_X1_at
set_option maxRecDepth 20000 in
theorem ggX3_fits_X3_isAlike : GoodIn wsX3_fits wsX3_isAlike := goodIn_r _ [50, 51, 52, 53, 54] (by decide +kernel) (by decide +kernel)
set_option maxRecDepth 20000 in
theorem gX3_fits_X3_isAlike : GoodIn wsX3_fits (va_wsS RX3 154 yX3_isAlike wsX3_isAlike) := goodIn_app (goodIn_of _ (by decide +kernel)) ggX3_fits_X3_isAlike
theorem dX3_fits_0 : decode cX3_fits 0 = .ok (.aload_n 0, 1) := by decide +kernel
theorem dX3_fits_1 : decode cX3_fits 1 = .ok (.getfield 19, 3) := by decide +kernel
theorem dX3_fits_4 : decode cX3_fits 4 = .ok (.iload_n 2, 1) := by decide +kernel
theorem dX3_fits_5 : decode cX3_fits 5 = .ok (.invokevirtual 195, 3) := by decide +kernel
theorem dX3_fits_8 : decode cX3_fits 8 = .ok (.istore 6, 2) := by decide +kernel
theorem dX3_fits_10 : decode cX3_fits 10 = .ok (.aload_n 0, 1) := by decide +kernel
theorem dX3_fits_11 : decode cX3_fits 11 = .ok (.getfield 19, 3) := by decide +kernel
theorem dX3_fits_14 : decode cX3_fits 14 = .ok (.iload_n 2, 1) := by decide +kernel
theorem dX3_fits_15 : decode cX3_fits 15 = .ok (.invokevirtual 198, 3) := by decide +kernel
theorem dX3_fits_18 : decode cX3_fits 18 = .ok (.istore 7, 2) := by decide +kernel
theorem dX3_fits_20 : decode cX3_fits 20 = .ok (.aload_n 0, 1) := by decide +kernel
theorem dX3_fits_21 : decode cX3_fits 21 = .ok (.getfield 19, 3) := by decide +kernel
theorem dX3_fits_24 : decode cX3_fits 24 = .ok (.iload_n 2, 1) := by decide +kernel
theorem dX3_fits_25 : decode cX3_fits 25 = .ok (.invokevirtual 186, 3) := by decide +kernel
theorem dX3_fits_28 : decode cX3_fits 28 = .ok (.istore 8, 2) := by decide +kernel
theorem dX3_fits_30 : decode cX3_fits 30 = .ok (.iload 8, 2) := by decide +kernel
theorem dX3_fits_32 : decode cX3_fits 32 = .ok (.iload 6, 2) := by decide +kernel
theorem dX3_fits_34 : decode cX3_fits 34 = .ok (.if_icmp .ge 96, 3) := by decide +kernel
theorem dX3_fits_37 : decode cX3_fits 37 = .ok (.aload_n 0, 1) := by decide +kernel
theorem dX3_fits_38 : decode cX3_fits 38 = .ok (.getfield 19, 3) := by decide +kernel
theorem dX3_fits_41 : decode cX3_fits 41 = .ok (.iload_n 2, 1) := by decide +kernel
theorem dX3_fits_42 : decode cX3_fits 42 = .ok (.invokevirtual 183, 3) := by decide +kernel
theorem dX3_fits_45 : decode cX3_fits 45 = .ok (.istore 9, 2) := by decide +kernel
theorem dX3_fits_47 : decode cX3_fits 47 = .ok (.iload 9, 2) := by decide +kernel
theorem dX3_fits_49 : decode cX3_fits 49 = .ok (.iload 7, 2) := by decide +kernel
theorem dX3_fits_51 : decode cX3_fits 51 = .ok (.if_icmp .ge 73, 3) := by decide +kernel
theorem dX3_fits_54 : decode cX3_fits 54 = .ok (.iload 9, 2) := by decide +kernel
theorem dX3_fits_56 : decode cX3_fits 56 = .ok (.iload 4, 2) := by decide +kernel
theorem dX3_fits_58 : decode cX3_fits 58 = .ok (.iadd, 1) := by decide +kernel
theorem dX3_fits_59 : decode cX3_fits 59 = .ok (.iload 8, 2) := by decide +kernel
theorem dX3_fits_61 : decode cX3_fits 61 = .ok (.iload 5, 2) := by decide +kernel
theorem dX3_fits_63 : decode cX3_fits 63 = .ok (.iadd, 1) := by decide +kernel
theorem dX3_fits_64 : decode cX3_fits 64 = .ok (.invokestatic 55, 3) := by decide +kernel
theorem dX3_fits_67 : decode cX3_fits 67 = .ok (.ifCond .ne 5, 3) := by decide +kernel
theorem dX3_fits_70 : decode cX3_fits 70 = .ok (.iconst 0, 1) := by decide +kernel
theorem dX3_fits_71 : decode cX3_fits 71 = .ok (.ireturn, 1) := by decide +kernel
theorem dX3_fits_72 : decode cX3_fits 72 = .ok (.aload_n 0, 1) := by decide +kernel
theorem dX3_fits_73 : decode cX3_fits 73 = .ok (.getfield 12, 3) := by decide +kernel
theorem dX3_fits_76 : decode cX3_fits 76 = .ok (.iload_n 2, 1) := by decide +kernel
theorem dX3_fits_77 : decode cX3_fits 77 = .ok (.invokestatic 48, 3) := by decide +kernel
theorem dX3_fits_80 : decode cX3_fits 80 = .ok (.iload 9, 2) := by decide +kernel
theorem dX3_fits_82 : decode cX3_fits 82 = .ok (.iload 4, 2) := by decide +kernel
theorem dX3_fits_84 : decode cX3_fits 84 = .ok (.iadd, 1) := by decide +kernel
theorem dX3_fits_85 : decode cX3_fits 85 = .ok (.iload 8, 2) := by decide +kernel
theorem dX3_fits_87 : decode cX3_fits 87 = .ok (.iload 5, 2) := by decide +kernel
theorem dX3_fits_89 : decode cX3_fits 89 = .ok (.iadd, 1) := by decide +kernel
theorem dX3_fits_90 : decode cX3_fits 90 = .ok (.invokevirtual 59, 3) := by decide +kernel
theorem dX3_fits_93 : decode cX3_fits 93 = .ok (.istore 10, 2) := by decide +kernel
theorem dX3_fits_95 : decode cX3_fits 95 = .ok (.iload 10, 2) := by decide +kernel
theorem dX3_fits_97 : decode cX3_fits 97 = .ok (.aload_n 0, 1) := by decide +kernel
theorem dX3_fits_98 : decode cX3_fits 98 = .ok (.getfield 12, 3) := by decide +kernel
theorem dX3_fits_101 : decode cX3_fits 101 = .ok (.iload_n 1, 1) := by decide +kernel
theorem dX3_fits_102 : decode cX3_fits 102 = .ok (.iload 9, 2) := by decide +kernel
theorem dX3_fits_104 : decode cX3_fits 104 = .ok (.iload 8, 2) := by decide +kernel
theorem dX3_fits_106 : decode cX3_fits 106 = .ok (.invokevirtual 59, 3) := by decide +kernel
theorem dX3_fits_109 : decode cX3_fits 109 = .ok (.iload_n 3, 1) := by decide +kernel
theorem dX3_fits_110 : decode cX3_fits 110 = .ok (.invokestatic 154, 3) := by decide +kernel
theorem dX3_fits_113 : decode cX3_fits 113 = .ok (.ifCond .ne 5, 3) := by decide +kernel
theorem dX3_fits_116 : decode cX3_fits 116 = .ok (.iconst 0, 1) := by decide +kernel
theorem dX3_fits_117 : decode cX3_fits 117 = .ok (.ireturn, 1) := by decide +kernel
theorem dX3_fits_118 : decode cX3_fits 118 = .ok (.iinc 9 1, 3) := by decide +kernel
theorem dX3_fits_121 : decode cX3_fits 121 = .ok (.goto (-74), 3) := by decide +kernel
theorem dX3_fits_124 : decode cX3_fits 124 = .ok (.iinc 8 1, 3) := by decide +kernel
theorem dX3_fits_127 : decode cX3_fits 127 = .ok (.goto (-97), 3) := by decide +kernel
theorem dX3_fits_130 : decode cX3_fits 130 = .ok (.iconst 1, 1) := by decide +kernel
theorem dX3_fits_131 : decode cX3_fits 131 = .ok (.ireturn, 1) := by decide +kernel
theorem dJ6_bitCount_0f7a4_0 : decode cJ6_bitCount_0f7a4 0 = .ok (.iload_n 0, 1) := by decide +kernel
theorem dJ6_bitCount_0f7a4_1 : decode cJ6_bitCount_0f7a4 1 = .ok (.iload_n 0, 1) := by decide +kernel
theorem dJ6_bitCount_0f7a4_2 : decode cJ6_bitCount_0f7a4 2 = .ok (.iconst 1, 1) := by decide +kernel
theorem dJ6_bitCount_0f7a4_3 : decode cJ6_bitCount_0f7a4 3 = .ok (.iushr, 1) := by decide +kernel
theorem dJ6_bitCount_0f7a4_4 : decode cJ6_bitCount_0f7a4 4 = .ok (.ldc_w 265, 3) := by decide +kernel
theorem dJ6_bitCount_0f7a4_7 : decode cJ6_bitCount_0f7a4 7 = .ok (.iand, 1) := by decide +kernel
theorem dJ6_bitCount_0f7a4_8 : decode cJ6_bitCount_0f7a4 8 = .ok (.isub, 1) := by decide +kernel
theorem dJ6_bitCount_0f7a4_9 : decode cJ6_bitCount_0f7a4 9 = .ok (.istore_n 0, 1) := by decide +kernel
theorem dJ6_bitCount_0f7a4_10 : decode cJ6_bitCount_0f7a4 10 = .ok (.iload_n 0, 1) := by decide +kernel
theorem dJ6_bitCount_0f7a4_11 : decode cJ6_bitCount_0f7a4 11 = .ok (.ldc_w 266, 3) := by decide +kernel
theorem dJ6_bitCount_0f7a4_14 : decode cJ6_bitCount_0f7a4 14 = .ok (.iand, 1) := by decide +kernel
theorem dJ6_bitCount_0f7a4_15 : decode cJ6_bitCount_0f7a4 15 = .ok (.iload_n 0, 1) := by decide +kernel
theorem dJ6_bitCount_0f7a4_16 : decode cJ6_bitCount_0f7a4 16 = .ok (.iconst 2, 1) := by decide +kernel
theorem dJ6_bitCount_0f7a4_17 : decode cJ6_bitCount_0f7a4 17 = .ok (.iushr, 1) := by decide +kernel
theorem dJ6_bitCount_0f7a4_18 : decode cJ6_bitCount_0f7a4 18 = .ok (.ldc_w 266, 3) := by decide +kernel
theorem dJ6_bitCount_0f7a4_21 : decode cJ6_bitCount_0f7a4 21 = .ok (.iand, 1) := by decide +kernel
theorem dJ6_bitCount_0f7a4_22 : decode cJ6_bitCount_0f7a4 22 = .ok (.iadd, 1) := by decide +kernel
theorem dJ6_bitCount_0f7a4_23 : decode cJ6_bitCount_0f7a4 23 = .ok (.istore_n 0, 1) := by decide +kernel
theorem dJ6_bitCount_0f7a4_24 : decode cJ6_bitCount_0f7a4 24 = .ok (.iload_n 0, 1) := by decide +kernel
theorem dJ6_bitCount_0f7a4_25 : decode cJ6_bitCount_0f7a4 25 = .ok (.iload_n 0, 1) := by decide +kernel
theorem dJ6_bitCount_0f7a4_26 : decode cJ6_bitCount_0f7a4 26 = .ok (.iconst 4, 1) := by decide +kernel
theorem dJ6_bitCount_0f7a4_27 : decode cJ6_bitCount_0f7a4 27 = .ok (.iushr, 1) := by decide +kernel
theorem dJ6_bitCount_0f7a4_28 : decode cJ6_bitCount_0f7a4 28 = .ok (.iadd, 1) := by decide +kernel
theorem dJ6_bitCount_0f7a4_29 : decode cJ6_bitCount_0f7a4 29 = .ok (.ldc_w 267, 3) := by decide +kernel
theorem dJ6_bitCount_0f7a4_32 : decode cJ6_bitCount_0f7a4 32 = .ok (.iand, 1) := by decide +kernel
theorem dJ6_bitCount_0f7a4_33 : decode cJ6_bitCount_0f7a4 33 = .ok (.istore_n 0, 1) := by decide +kernel
theorem dJ6_bitCount_0f7a4_34 : decode cJ6_bitCount_0f7a4 34 = .ok (.iload_n 0, 1) := by decide +kernel
theorem dJ6_bitCount_0f7a4_35 : decode cJ6_bitCount_0f7a4 35 = .ok (.iload_n 0, 1) := by decide +kernel
theorem dJ6_bitCount_0f7a4_36 : decode cJ6_bitCount_0f7a4 36 = .ok (.bipush 8, 2) := by decide +kernel
theorem dJ6_bitCount_0f7a4_38 : decode cJ6_bitCount_0f7a4 38 = .ok (.iushr, 1) := by decide +kernel
theorem dJ6_bitCount_0f7a4_39 : decode cJ6_bitCount_0f7a4 39 = .ok (.iadd, 1) := by decide +kernel
theorem dJ6_bitCount_0f7a4_40 : decode cJ6_bitCount_0f7a4 40 = .ok (.istore_n 0, 1) := by decide +kernel
theorem dJ6_bitCount_0f7a4_41 : decode cJ6_bitCount_0f7a4 41 = .ok (.iload_n 0, 1) := by decide +kernel
theorem dJ6_bitCount_0f7a4_42 : decode cJ6_bitCount_0f7a4 42 = .ok (.iload_n 0, 1) := by decide +kernel
theorem dJ6_bitCount_0f7a4_43 : decode cJ6_bitCount_0f7a4 43 = .ok (.bipush 16, 2) := by decide +kernel
theorem dJ6_bitCount_0f7a4_45 : decode cJ6_bitCount_0f7a4 45 = .ok (.iushr, 1) := by decide +kernel
theorem dJ6_bitCount_0f7a4_46 : decode cJ6_bitCount_0f7a4 46 = .ok (.iadd, 1) := by decide +kernel
theorem dJ6_bitCount_0f7a4_47 : decode cJ6_bitCount_0f7a4 47 = .ok (.istore_n 0, 1) := by decide +kernel
theorem dJ6_bitCount_0f7a4_48 : decode cJ6_bitCount_0f7a4 48 = .ok (.iload_n 0, 1) := by decide +kernel
theorem dJ6_bitCount_0f7a4_49 : decode cJ6_bitCount_0f7a4 49 = .ok (.bipush 63, 2) := by decide +kernel
theorem dJ6_bitCount_0f7a4_51 : decode cJ6_bitCount_0f7a4 51 = .ok (.iand, 1) := by decide +kernel
theorem dJ6_bitCount_0f7a4_52 : decode cJ6_bitCount_0f7a4 52 = .ok (.ireturn, 1) := by decide +kernel
theorem dJ9_abs_0f7a4_0 : decode cJ9_abs_0f7a4 0 = .ok (.iload_n 0, 1) := by decide +kernel
theorem dJ9_abs_0f7a4_1 : decode cJ9_abs_0f7a4 1 = .ok (.ifCond .ge 8, 3) := by decide +kernel
theorem dJ9_abs_0f7a4_4 : decode cJ9_abs_0f7a4 4 = .ok (.iload_n 0, 1) := by decide +kernel
theorem dJ9_abs_0f7a4_5 : decode cJ9_abs_0f7a4 5 = .ok (.ineg, 1) := by decide +kernel
theorem dJ9_abs_0f7a4_6 : decode cJ9_abs_0f7a4 6 = .ok (.goto 4, 3) := by decide +kernel
theorem dJ9_abs_0f7a4_9 : decode cJ9_abs_0f7a4 9 = .ok (.iload_n 0, 1) := by decide +kernel
theorem dJ9_abs_0f7a4_10 : decode cJ9_abs_0f7a4 10 = .ok (.ireturn, 1) := by decide +kernel
theorem dJ9_max_7cf53_0 : decode cJ9_max_7cf53 0 = .ok (.iload_n 0, 1) := by decide +kernel
theorem dJ9_max_7cf53_1 : decode cJ9_max_7cf53 1 = .ok (.iload_n 1, 1) := by decide +kernel
theorem dJ9_max_7cf53_2 : decode cJ9_max_7cf53 2 = .ok (.if_icmp .lt 7, 3) := by decide +kernel
theorem dJ9_max_7cf53_5 : decode cJ9_max_7cf53 5 = .ok (.iload_n 0, 1) := by decide +kernel
theorem dJ9_max_7cf53_6 : decode cJ9_max_7cf53 6 = .ok (.goto 4, 3) := by decide +kernel
theorem dJ9_max_7cf53_9 : decode cJ9_max_7cf53 9 = .ok (.iload_n 1, 1) := by decide +kernel
theorem dJ9_max_7cf53_10 : decode cJ9_max_7cf53 10 = .ok (.ireturn, 1) := by decide +kernel
theorem dJ9_min_7cf53_0 : decode cJ9_min_7cf53 0 = .ok (.iload_n 0, 1) := by decide +kernel
theorem dJ9_min_7cf53_1 : decode cJ9_min_7cf53 1 = .ok (.iload_n 1, 1) := by decide +kernel
theorem dJ9_min_7cf53_2 : decode cJ9_min_7cf53 2 = .ok (.if_icmp .gt 7, 3) := by decide +kernel
theorem dJ9_min_7cf53_5 : decode cJ9_min_7cf53 5 = .ok (.iload_n 0, 1) := by decide +kernel
theorem dJ9_min_7cf53_6 : decode cJ9_min_7cf53 6 = .ok (.goto 4, 3) := by decide +kernel
theorem dJ9_min_7cf53_9 : decode cJ9_min_7cf53 9 = .ok (.iload_n 1, 1) := by decide +kernel
theorem dJ9_min_7cf53_10 : decode cJ9_min_7cf53 10 = .ok (.ireturn, 1) := by decide +kernel
theorem dL_cell_0 : decode cL_cell 0 = .ok (.iload_n 1, 1) := by decide +kernel
theorem dL_cell_1 : decode cL_cell 1 = .ok (.aload_n 0, 1) := by decide +kernel
theorem dL_cell_2 : decode cL_cell 2 = .ok (.arraylength, 1) := by decide +kernel
theorem dL_cell_3 : decode cL_cell 3 = .ok (.if_icmp .ge 9, 3) := by decide +kernel
theorem dL_cell_6 : decode cL_cell 6 = .ok (.aload_n 0, 1) := by decide +kernel
theorem dL_cell_7 : decode cL_cell 7 = .ok (.iload_n 1, 1) := by decide +kernel
theorem dL_cell_8 : decode cL_cell 8 = .ok (.iaload, 1) := by decide +kernel
theorem dL_cell_9 : decode cL_cell 9 = .ok (.goto 18, 3) := by decide +kernel
theorem dL_cell_12 : decode cL_cell 12 = .ok (.sipush 7919, 3) := by decide +kernel
theorem dL_cell_15 : decode cL_cell 15 = .ok (.iload_n 1, 1) := by decide +kernel
theorem dL_cell_16 : decode cL_cell 16 = .ok (.sipush 839, 3) := by decide +kernel
theorem dL_cell_19 : decode cL_cell 19 = .ok (.iadd, 1) := by decide +kernel
theorem dL_cell_20 : decode cL_cell 20 = .ok (.imul, 1) := by decide +kernel
theorem dL_cell_21 : decode cL_cell 21 = .ok (.iload_n 1, 1) := by decide +kernel
theorem dL_cell_22 : decode cL_cell 22 = .ok (.sipush 997, 3) := by decide +kernel
theorem dL_cell_25 : decode cL_cell 25 = .ok (.iadd, 1) := by decide +kernel
theorem dL_cell_26 : decode cL_cell 26 = .ok (.imul, 1) := by decide +kernel
theorem dL_cell_27 : decode cL_cell 27 = .ok (.ireturn, 1) := by decide +kernel
theorem dL_low_0 : decode cL_low 0 = .ok (.iload_n 0, 1) := by decide +kernel
theorem dL_low_1 : decode cL_low 1 = .ok (.ldc 7, 2) := by decide +kernel
theorem dL_low_3 : decode cL_low 3 = .ok (.iand, 1) := by decide +kernel
theorem dL_low_4 : decode cL_low 4 = .ok (.iload_n 1, 1) := by decide +kernel
theorem dL_low_5 : decode cL_low 5 = .ok (.irem, 1) := by decide +kernel
theorem dL_low_6 : decode cL_low 6 = .ok (.ireturn, 1) := by decide +kernel
set_option maxRecDepth 20000 in
theorem ggL_paint_X3_paint : GoodIn wsL_paint wsX3_paint := goodIn_ca (goodIn_r _ [7, 8, 9, 10, 6, 11, 12, 13, 14, 15, 16, 17, 18, 19, 20, 21, 22, 23, 24, 25, 26, 27, 28, 29, 30, 31, 32, 33, 34, 35, 36, 37, 38, 39, 40, 41, 42, 43, 44, 45, 46, 47, 48, 49] (by decide +kernel) (by decide +kernel)) (goodIn_sub (fun _ h => List.mem_cons_of_mem _ (List.mem_append_right _ h)) (by decide +kernel))
set_option maxRecDepth 20000 in
theorem gL_paint_X3_paint : GoodIn wsL_paint (wsV RL 8 RX3 yX3_paint wsX3_paint) := goodIn_app (goodIn_of _ (by decide +kernel)) ggL_paint_X3_paint
theorem dL_paint_0 : decode cL_paint 0 = .ok (.aload_n 0, 1) := by decide +kernel
theorem dL_paint_1 : decode cL_paint 1 = .ok (.iload_n 1, 1) := by decide +kernel
theorem dL_paint_2 : decode cL_paint 2 = .ok (.iload_n 2, 1) := by decide +kernel
theorem dL_paint_3 : decode cL_paint 3 = .ok (.iload_n 3, 1) := by decide +kernel
theorem dL_paint_4 : decode cL_paint 4 = .ok (.iload 4, 2) := by decide +kernel
theorem dL_paint_6 : decode cL_paint 6 = .ok (.iload 5, 2) := by decide +kernel
theorem dL_paint_8 : decode cL_paint 8 = .ok (.iload 6, 2) := by decide +kernel
theorem dL_paint_10 : decode cL_paint 10 = .ok (.invokevirtual 8, 3) := by decide +kernel
theorem dL_paint_13 : decode cL_paint 13 = .ok (.ireturn, 1) := by decide +kernel
theorem dL_paint_14 : decode cL_paint 14 = .ok (.astore 7, 2) := by decide +kernel
theorem dL_paint_16 : decode cL_paint 16 = .ok (.ldc 16, 2) := by decide +kernel
theorem dL_paint_18 : decode cL_paint 18 = .ok (.ireturn, 1) := by decide +kernel
set_option maxRecDepth 20000 in
theorem ggL_setPart_X3_setPart : GoodIn wsL_setPart wsX3_setPart := goodIn_ca (goodIn_r _ [7, 8, 9, 10, 11, 6, 12, 13, 14, 15, 16, 17, 18, 19, 20, 21, 22, 23, 24, 25, 26, 27, 28, 29, 30, 31, 32, 33, 34, 35, 36, 37, 38, 39, 40, 41, 42, 43, 44, 45, 46, 47, 48] (by decide +kernel) (by decide +kernel)) (goodIn_sub (fun _ h => List.mem_cons_of_mem _ (List.mem_append_right _ h)) (by decide +kernel))
set_option maxRecDepth 20000 in
theorem gL_setPart_X3_setPart : GoodIn wsL_setPart (wsV RL 17 RX3 yX3_setPart wsX3_setPart) := goodIn_app (goodIn_of _ (by decide +kernel)) ggL_setPart_X3_setPart
theorem dL_setPart_0 : decode cL_setPart 0 = .ok (.aload_n 0, 1) := by decide +kernel
theorem dL_setPart_1 : decode cL_setPart 1 = .ok (.iload_n 1, 1) := by decide +kernel
theorem dL_setPart_2 : decode cL_setPart 2 = .ok (.iload_n 2, 1) := by decide +kernel
theorem dL_setPart_3 : decode cL_setPart 3 = .ok (.iload_n 3, 1) := by decide +kernel
theorem dL_setPart_4 : decode cL_setPart 4 = .ok (.iload 4, 2) := by decide +kernel
theorem dL_setPart_6 : decode cL_setPart 6 = .ok (.iload 5, 2) := by decide +kernel
theorem dL_setPart_8 : decode cL_setPart 8 = .ok (.invokevirtual 17, 3) := by decide +kernel
theorem dL_setPart_11 : decode cL_setPart 11 = .ok (.iconst 0, 1) := by decide +kernel
theorem dL_setPart_12 : decode cL_setPart 12 = .ok (.ireturn, 1) := by decide +kernel
theorem dL_setPart_13 : decode cL_setPart 13 = .ok (.astore 6, 2) := by decide +kernel
theorem dL_setPart_15 : decode cL_setPart 15 = .ok (.ldc 16, 2) := by decide +kernel
theorem dL_setPart_17 : decode cL_setPart 17 = .ok (.ireturn, 1) := by decide +kernel
set_option maxRecDepth 20000 in
theorem ggL_setMask_X3_setMask : GoodIn wsL_setMask wsX3_setMask := goodIn_ca (goodIn_ca (goodIn_r _ [8, 9, 10, 11, 12, 13, 14, 7, 15, 16, 17, 18, 19, 20, 21, 22, 23, 24, 25, 26, 27, 28, 29, 30, 31, 32, 33, 34, 35, 36, 37, 38, 39, 40, 41, 42, 43, 44] (by decide +kernel) (by decide +kernel)) (goodIn_sub (fun _ h => List.mem_cons_of_mem _ (List.mem_append_left _ (List.mem_append_right _ h))) (by decide +kernel))) (goodIn_sub (fun _ h => List.mem_cons_of_mem _ (List.mem_append_right _ h)) (by decide +kernel))
set_option maxRecDepth 20000 in
theorem gL_setMask_X3_setMask : GoodIn wsL_setMask (wsV RL 21 RX3 yX3_setMask wsX3_setMask) := goodIn_app (goodIn_of _ (by decide +kernel)) ggL_setMask_X3_setMask
theorem dL_setMask_0 : decode cL_setMask 0 = .ok (.aload_n 0, 1) := by decide +kernel
theorem dL_setMask_1 : decode cL_setMask 1 = .ok (.iload_n 1, 1) := by decide +kernel
theorem dL_setMask_2 : decode cL_setMask 2 = .ok (.iload_n 2, 1) := by decide +kernel
theorem dL_setMask_3 : decode cL_setMask 3 = .ok (.iload_n 3, 1) := by decide +kernel
theorem dL_setMask_4 : decode cL_setMask 4 = .ok (.iload 4, 2) := by decide +kernel
theorem dL_setMask_6 : decode cL_setMask 6 = .ok (.iload 5, 2) := by decide +kernel
theorem dL_setMask_8 : decode cL_setMask 8 = .ok (.invokevirtual 21, 3) := by decide +kernel
theorem dL_setMask_11 : decode cL_setMask 11 = .ok (.iconst 0, 1) := by decide +kernel
theorem dL_setMask_12 : decode cL_setMask 12 = .ok (.ireturn, 1) := by decide +kernel
theorem dL_setMask_13 : decode cL_setMask 13 = .ok (.astore 6, 2) := by decide +kernel
theorem dL_setMask_15 : decode cL_setMask 15 = .ok (.ldc 16, 2) := by decide +kernel
theorem dL_setMask_17 : decode cL_setMask 17 = .ok (.ireturn, 1) := by decide +kernel
theorem dL_setMask_18 : decode cL_setMask 18 = .ok (.astore 6, 2) := by decide +kernel
theorem dL_setMask_20 : decode cL_setMask 20 = .ok (.ldc 16, 2) := by decide +kernel
theorem dL_setMask_22 : decode cL_setMask 22 = .ok (.ireturn, 1) := by decide +kernel
set_option maxRecDepth 20000 in
theorem ggL_approve_X3_approve : GoodIn wsL_approve wsX3_approve := goodIn_ca (goodIn_r _ [7, 8, 9, 10, 6, 11, 12, 13, 14, 15, 16, 17, 18, 19, 20, 21, 22, 23, 24, 25, 26, 27, 28, 29, 30, 31, 32, 33, 34, 35, 36, 37, 38, 39, 40, 41, 42, 43, 44, 45, 46, 47, 48, 49, 50, 51, 52] (by decide +kernel) (by decide +kernel)) (goodIn_sub (fun _ h => List.mem_cons_of_mem _ (List.mem_append_right _ h)) (by decide +kernel))
set_option maxRecDepth 20000 in
theorem gL_approve_X3_approve : GoodIn wsL_approve (wsV RL 26 RX3 yX3_approve wsX3_approve) := goodIn_app (goodIn_of _ (by decide +kernel)) ggL_approve_X3_approve
theorem dL_approve_0 : decode cL_approve 0 = .ok (.aload_n 0, 1) := by decide +kernel
theorem dL_approve_1 : decode cL_approve 1 = .ok (.iload_n 1, 1) := by decide +kernel
theorem dL_approve_2 : decode cL_approve 2 = .ok (.iload_n 2, 1) := by decide +kernel
theorem dL_approve_3 : decode cL_approve 3 = .ok (.invokevirtual 26, 3) := by decide +kernel
theorem dL_approve_6 : decode cL_approve 6 = .ok (.ifCond .eq 7, 3) := by decide +kernel
theorem dL_approve_9 : decode cL_approve 9 = .ok (.iconst 1, 1) := by decide +kernel
theorem dL_approve_10 : decode cL_approve 10 = .ok (.goto 4, 3) := by decide +kernel
theorem dL_approve_13 : decode cL_approve 13 = .ok (.iconst 0, 1) := by decide +kernel
theorem dL_approve_14 : decode cL_approve 14 = .ok (.ireturn, 1) := by decide +kernel
theorem dL_approve_15 : decode cL_approve 15 = .ok (.astore_n 3, 1) := by decide +kernel
theorem dL_approve_16 : decode cL_approve 16 = .ok (.ldc 16, 2) := by decide +kernel
theorem dL_approve_18 : decode cL_approve 18 = .ok (.ireturn, 1) := by decide +kernel
set_option maxRecDepth 20000 in
theorem ggL_begin_X3_begin : GoodIn wsL_begin wsX3_begin := goodIn_ca (goodIn_r _ [7, 8, 9, 10, 6, 11, 12, 13, 14, 15, 16, 17, 18, 19, 20, 21, 22, 23, 24, 25, 26, 27, 28, 29, 30, 31, 32, 33, 34, 35, 36, 37, 38, 39, 40, 41, 42, 43, 44, 45, 46, 47, 48, 49, 50, 51, 52, 53] (by decide +kernel) (by decide +kernel)) (goodIn_sub (fun _ h => List.mem_cons_of_mem _ (List.mem_append_right _ h)) (by decide +kernel))
set_option maxRecDepth 20000 in
theorem gL_begin_X3_begin : GoodIn wsL_begin (wsV RL 30 RX3 yX3_begin wsX3_begin) := goodIn_app (goodIn_of _ (by decide +kernel)) ggL_begin_X3_begin
theorem dL_begin_0 : decode cL_begin 0 = .ok (.aload_n 0, 1) := by decide +kernel
theorem dL_begin_1 : decode cL_begin 1 = .ok (.iload_n 1, 1) := by decide +kernel
theorem dL_begin_2 : decode cL_begin 2 = .ok (.invokevirtual 30, 3) := by decide +kernel
theorem dL_begin_5 : decode cL_begin 5 = .ok (.ireturn, 1) := by decide +kernel
theorem dL_begin_6 : decode cL_begin 6 = .ok (.astore_n 2, 1) := by decide +kernel
theorem dL_begin_7 : decode cL_begin 7 = .ok (.ldc 16, 2) := by decide +kernel
theorem dL_begin_9 : decode cL_begin 9 = .ok (.ireturn, 1) := by decide +kernel
set_option maxRecDepth 20000 in
theorem ggL_join_X3_join : GoodIn wsL_join wsX3_join := goodIn_ca (goodIn_r _ [7, 8, 9, 6, 10, 11, 12, 13, 14, 15, 16, 17, 18, 19, 20, 21, 22, 23, 24, 25, 26, 27, 28, 29, 30, 31, 32, 33, 34, 35, 36, 37, 38, 39, 40, 41, 42, 43, 44, 45, 46, 47, 48, 49, 50, 51, 52, 53, 54, 55, 56, 57, 58, 59, 60, 61, 62, 63, 64, 65] (by decide +kernel) (by decide +kernel)) (goodIn_sub (fun _ h => List.mem_cons_of_mem _ (List.mem_append_right _ h)) (by decide +kernel))
set_option maxRecDepth 20000 in
theorem gL_join_X3_join : GoodIn wsL_join (wsV RL 34 RX3 yX3_join wsX3_join) := goodIn_app (goodIn_of _ (by decide +kernel)) ggL_join_X3_join
theorem dL_join_0 : decode cL_join 0 = .ok (.aload_n 0, 1) := by decide +kernel
theorem dL_join_1 : decode cL_join 1 = .ok (.iload_n 1, 1) := by decide +kernel
theorem dL_join_2 : decode cL_join 2 = .ok (.invokevirtual 34, 3) := by decide +kernel
theorem dL_join_5 : decode cL_join 5 = .ok (.ireturn, 1) := by decide +kernel
theorem dL_join_6 : decode cL_join 6 = .ok (.astore_n 2, 1) := by decide +kernel
theorem dL_join_7 : decode cL_join 7 = .ok (.ldc 16, 2) := by decide +kernel
theorem dL_join_9 : decode cL_join 9 = .ok (.ireturn, 1) := by decide +kernel
set_option maxRecDepth 20000 in
theorem ggL_run_X3_run : GoodIn wsL_run wsX3_run := goodIn_ca (goodIn_ca (goodIn_r _ [9, 10, 11, 12, 13, 8, 14, 15, 16, 17, 18, 19, 20, 21, 22, 23, 24, 25, 26, 27, 28, 29, 30, 31, 32, 33, 34, 35, 36, 37, 38, 39, 40, 41, 42, 43, 44, 45, 46, 47, 48, 49, 50, 51, 52, 53, 54, 55, 56, 57, 58, 59, 60, 61, 62, 63, 64, 65, 66, 67, 68, 69, 70, 71, 72, 73, 74, 75, 76, 77, 78, 79, 80, 81, 82, 83, 84, 85, 86, 87, 88, 89, 90, 91, 92, 93, 94, 95, 96, 97, 98, 99, 100, 101, 102, 103, 104, 105, 106, 107, 108, 109, 110, 111, 112, 113, 114, 115, 116, 117, 118, 119, 120, 121, 122, 123, 124, 125, 126, 127, 128, 129, 130, 131, 132, 133, 134, 135, 136, 137, 138, 139, 140, 141, 142, 143, 144, 145, 146, 147, 148, 149, 150, 151, 152, 153, 154, 155, 156, 157, 158, 159, 160, 161, 162, 163, 164, 165, 166, 167] (by decide +kernel) (by decide +kernel)) (goodIn_sub (fun _ h => List.mem_cons_of_mem _ (List.mem_append_left _ (List.mem_append_right _ h))) (by decide +kernel))) (goodIn_sub (fun _ h => List.mem_cons_of_mem _ (List.mem_append_right _ h)) (by decide +kernel))
set_option maxRecDepth 20000 in
theorem gL_run_X3_run : GoodIn wsL_run (wsV RL 37 RX3 yX3_run wsX3_run) := goodIn_app (goodIn_of _ (by decide +kernel)) ggL_run_X3_run
theorem dL_run_0 : decode cL_run 0 = .ok (.aload_n 0, 1) := by decide +kernel
theorem dL_run_1 : decode cL_run 1 = .ok (.iload_n 1, 1) := by decide +kernel
theorem dL_run_2 : decode cL_run 2 = .ok (.iload_n 2, 1) := by decide +kernel
theorem dL_run_3 : decode cL_run 3 = .ok (.iload_n 3, 1) := by decide +kernel
theorem dL_run_4 : decode cL_run 4 = .ok (.invokevirtual 37, 3) := by decide +kernel
theorem dL_run_7 : decode cL_run 7 = .ok (.ifCond .eq 7, 3) := by decide +kernel
theorem dL_run_10 : decode cL_run 10 = .ok (.iconst 1, 1) := by decide +kernel
theorem dL_run_11 : decode cL_run 11 = .ok (.goto 4, 3) := by decide +kernel
theorem dL_run_14 : decode cL_run 14 = .ok (.iconst 0, 1) := by decide +kernel
theorem dL_run_15 : decode cL_run 15 = .ok (.ireturn, 1) := by decide +kernel
theorem dL_run_16 : decode cL_run 16 = .ok (.astore 4, 2) := by decide +kernel
theorem dL_run_18 : decode cL_run 18 = .ok (.ldc 16, 2) := by decide +kernel
theorem dL_run_20 : decode cL_run 20 = .ok (.ireturn, 1) := by decide +kernel
theorem dL_run_21 : decode cL_run 21 = .ok (.astore 4, 2) := by decide +kernel
theorem dL_run_23 : decode cL_run 23 = .ok (.ldc 41, 2) := by decide +kernel
theorem dL_run_25 : decode cL_run 25 = .ok (.ireturn, 1) := by decide +kernel
set_option maxRecDepth 20000 in
theorem ggL_differences_X3_differences : GoodIn wsL_differences wsX3_differences := goodIn_ca (goodIn_ca (goodIn_r _ [8, 9, 10, 11, 7, 12, 13, 14, 15, 16, 17, 18, 19, 20, 21, 22, 23, 24, 25, 26, 27, 28, 29, 30, 31, 32, 33, 34, 35, 36, 37, 38, 39, 40, 41, 42, 43, 44, 45, 46, 47, 48, 49, 50, 51, 52, 53, 54, 55, 56, 57, 58, 59, 60, 61, 62, 63, 64, 65, 66, 67, 68, 69, 70, 71, 72, 73, 74, 75, 76, 77, 78, 79, 80, 81, 82, 83, 84, 85, 86, 87, 88, 89, 90, 91, 92, 93, 94, 95, 96, 97, 98, 99, 100, 101, 102, 103, 104, 105, 106, 107, 108, 109, 110, 111, 112, 113, 114, 115, 116, 117, 118, 119, 120, 121, 122, 123, 124, 125, 126, 127, 128, 129, 130, 131, 132, 133, 134, 135, 136, 137, 138, 139, 140, 141, 142, 143, 144, 145, 146, 147, 148, 149, 150, 151] (by decide +kernel) (by decide +kernel)) (goodIn_sub (fun _ h => List.mem_cons_of_mem _ (List.mem_append_left _ (List.mem_append_right _ h))) (by decide +kernel))) (goodIn_sub (fun _ h => List.mem_cons_of_mem _ (List.mem_append_right _ h)) (by decide +kernel))
set_option maxRecDepth 20000 in
theorem gL_differences_X3_differences : GoodIn wsL_differences (wsV RL 42 RX3 yX3_differences wsX3_differences) := goodIn_app (goodIn_of _ (by decide +kernel)) ggL_differences_X3_differences
theorem dL_differences_0 : decode cL_differences 0 = .ok (.aload_n 0, 1) := by decide +kernel
theorem dL_differences_1 : decode cL_differences 1 = .ok (.iload_n 1, 1) := by decide +kernel
theorem dL_differences_2 : decode cL_differences 2 = .ok (.iload_n 2, 1) := by decide +kernel
theorem dL_differences_3 : decode cL_differences 3 = .ok (.iload_n 3, 1) := by decide +kernel
theorem dL_differences_4 : decode cL_differences 4 = .ok (.invokevirtual 42, 3) := by decide +kernel
theorem dL_differences_7 : decode cL_differences 7 = .ok (.ireturn, 1) := by decide +kernel
theorem dL_differences_8 : decode cL_differences 8 = .ok (.astore 4, 2) := by decide +kernel
theorem dL_differences_10 : decode cL_differences 10 = .ok (.ldc 16, 2) := by decide +kernel
theorem dL_differences_12 : decode cL_differences 12 = .ok (.ireturn, 1) := by decide +kernel
theorem dL_differences_13 : decode cL_differences 13 = .ok (.astore 4, 2) := by decide +kernel
theorem dL_differences_15 : decode cL_differences 15 = .ok (.iconst (-1), 1) := by decide +kernel
theorem dL_differences_16 : decode cL_differences 16 = .ok (.ireturn, 1) := by decide +kernel
set_option maxRecDepth 20000 in
theorem ggL_act_L_low : GoodIn wsL_act wsL_low := goodIn_r _ [4, 5] (by decide +kernel) (by decide +kernel)
set_option maxRecDepth 20000 in
theorem gL_act_L_low : GoodIn wsL_act (va_wsS RL 46 yL_low wsL_low) := goodIn_app (goodIn_of _ (by decide +kernel)) ggL_act_L_low
set_option maxRecDepth 20000 in
theorem ggL_act_L_approve : GoodIn wsL_act wsL_approve := goodIn_ca (goodIn_r _ [8, 9, 10, 11, 12, 13, 14, 15, 16, 17, 18, 19, 20, 21, 22, 23, 24, 25, 26, 27, 28, 29, 30, 31, 32, 33, 34, 35, 36, 37, 38, 39, 40, 41, 42, 43, 44, 45, 46, 47, 48, 49, 50, 51, 52, 53, 54, 253, 254, 255, 256, 257, 258] (by decide +kernel) (by decide +kernel)) (goodIn_sub (fun _ h => List.mem_cons_of_mem _ (List.mem_append_left _ (List.mem_append_right _ h))) (by decide +kernel))
set_option maxRecDepth 20000 in
theorem gL_act_L_approve : GoodIn wsL_act (va_wsS RL 52 yL_approve wsL_approve) := goodIn_app (goodIn_of _ (by decide +kernel)) ggL_act_L_approve
set_option maxRecDepth 20000 in
theorem ggL_act_L_begin : GoodIn wsL_act wsL_begin := goodIn_ca (goodIn_r _ [57, 9, 10, 58, 59, 60, 14, 61, 16, 62, 63, 64, 20, 21, 22, 26, 27, 28, 29, 30, 65, 66, 67, 68, 31, 32, 33, 69, 70, 71, 46, 47, 48, 37, 49, 50, 51, 52, 53, 54, 39, 40, 41, 42, 34, 35, 36, 38, 253, 254, 255, 256, 257, 258] (by decide +kernel) (by decide +kernel)) (goodIn_sub (fun _ h => List.mem_cons_of_mem _ (List.mem_append_left _ (List.mem_append_right _ h))) (by decide +kernel))
set_option maxRecDepth 20000 in
theorem gL_act_L_begin : GoodIn wsL_act (va_wsS RL 55 yL_begin wsL_begin) := goodIn_app (goodIn_of _ (by decide +kernel)) ggL_act_L_begin
set_option maxRecDepth 20000 in
theorem ggL_act_L_join : GoodIn wsL_act wsL_join := goodIn_ca (goodIn_r _ [74, 9, 10, 75, 76, 77, 14, 78, 62, 63, 64, 20, 21, 22, 26, 27, 28, 29, 30, 79, 80, 81, 82, 16, 31, 32, 33, 69, 70, 71, 83, 84, 85, 37, 86, 50, 87, 35, 36, 38, 39, 40, 41, 42, 88, 89, 90, 91, 46, 47, 48, 49, 51, 52, 53, 54, 65, 66, 67, 68, 253, 254, 255, 256, 257, 258] (by decide +kernel) (by decide +kernel)) (goodIn_sub (fun _ h => List.mem_cons_of_mem _ (List.mem_append_left _ (List.mem_append_right _ h))) (by decide +kernel))
set_option maxRecDepth 20000 in
theorem gL_act_L_join : GoodIn wsL_act (va_wsS RL 58 yL_join wsL_join) := goodIn_app (goodIn_of _ (by decide +kernel)) ggL_act_L_join
set_option maxRecDepth 20000 in
theorem ggL_act_L_setPart : GoodIn wsL_act wsL_setPart := goodIn_ca (goodIn_r _ [94, 9, 10, 95, 96, 97, 14, 98, 99, 100, 23, 24, 25, 20, 21, 22, 101, 102, 103, 104, 105, 106, 26, 27, 28, 29, 30, 107, 108, 109, 110, 111, 112, 113, 114, 115, 116, 117, 118, 119, 120, 253, 254, 255, 256, 259, 260, 261, 262] (by decide +kernel) (by decide +kernel)) (goodIn_sub (fun _ h => List.mem_cons_of_mem _ (List.mem_append_left _ (List.mem_append_right _ h))) (by decide +kernel))
set_option maxRecDepth 20000 in
theorem gL_act_L_setPart : GoodIn wsL_act (va_wsS RL 60 yL_setPart wsL_setPart) := goodIn_app (goodIn_of _ (by decide +kernel)) ggL_act_L_setPart
set_option maxRecDepth 20000 in
theorem ggL_act_L_setMask : GoodIn wsL_act wsL_setMask := goodIn_ca (goodIn_ca (goodIn_r _ [123, 9, 124, 10, 125, 126, 127, 14, 128, 129, 130, 99, 100, 23, 24, 25, 20, 21, 22, 26, 27, 28, 29, 30, 131, 132, 133, 110, 134, 112, 114, 107, 108, 109, 111, 113, 115, 253, 254, 255, 256, 259, 260, 261, 262] (by decide +kernel) (by decide +kernel)) (goodIn_sub (fun _ h => List.mem_cons_of_mem _ (List.mem_append_right _ h)) (by decide +kernel))) (goodIn_sub (fun _ h => List.mem_cons_of_mem _ (List.mem_append_left _ (List.mem_append_right _ h))) (by decide +kernel))
set_option maxRecDepth 20000 in
theorem gL_act_L_setMask : GoodIn wsL_act (va_wsS RL 63 yL_setMask wsL_setMask) := goodIn_app (goodIn_of _ (by decide +kernel)) ggL_act_L_setMask
set_option maxRecDepth 20000 in
theorem ggL_act_L_run : GoodIn wsL_act wsL_run := goodIn_ca (goodIn_ca (goodIn_r _ [137, 9, 124, 10, 138, 139, 140, 141, 14, 142, 143, 144, 145, 146, 147, 129, 130, 16, 17, 18, 19, 20, 21, 22, 23, 24, 25, 148, 149, 150, 26, 27, 28, 29, 30, 31, 32, 33, 34, 35, 36, 37, 38, 39, 40, 41, 42, 151, 152, 153, 154, 155, 156, 157, 158, 99, 159, 160, 161, 162, 131, 132, 133, 110, 134, 112, 114, 163, 164, 165, 166, 167, 168, 169, 170, 115, 171, 172, 173, 174, 175, 176, 177, 178, 113, 179, 180, 181, 182, 104, 105, 106, 43, 44, 45, 183, 184, 185, 186, 50, 187, 188, 189, 190, 191, 192, 193, 194, 195, 196, 197, 198, 199, 200, 201, 202, 203, 204, 205, 206, 207, 208, 209, 210, 211, 212, 213, 214, 215, 216, 217, 218, 219, 220, 221, 222, 223, 100, 224, 225, 226, 227, 228, 229, 230, 231, 232, 233, 234, 235, 236, 237, 238, 239, 240, 241, 253, 254, 255, 256, 257, 258, 259, 260, 261, 262, 263, 264] (by decide +kernel) (by decide +kernel)) (goodIn_sub (fun _ h => List.mem_cons_of_mem _ (List.mem_append_right _ h)) (by decide +kernel))) (goodIn_sub (fun _ h => List.mem_cons_of_mem _ (List.mem_append_left _ (List.mem_append_right _ h))) (by decide +kernel))
set_option maxRecDepth 20000 in
theorem gL_act_L_run : GoodIn wsL_act (va_wsS RL 65 yL_run wsL_run) := goodIn_app (goodIn_of _ (by decide +kernel)) ggL_act_L_run
set_option maxRecDepth 20000 in
theorem ggL_act_L_paint : GoodIn wsL_act wsL_paint := goodIn_ca (goodIn_r _ [244, 9, 10, 245, 246, 247, 14, 248, 16, 23, 24, 25, 20, 21, 22, 101, 102, 103, 104, 105, 106, 148, 149, 150, 26, 27, 28, 29, 30, 43, 44, 45, 249, 250, 251, 37, 252, 50, 40, 41, 42, 187, 188, 189, 253, 254, 255, 256, 257, 258] (by decide +kernel) (by decide +kernel)) (goodIn_sub (fun _ h => List.mem_cons_of_mem _ (List.mem_append_left _ (List.mem_append_right _ h))) (by decide +kernel))
set_option maxRecDepth 20000 in
theorem gL_act_L_paint : GoodIn wsL_act (va_wsS RL 68 yL_paint wsL_paint) := goodIn_app (goodIn_of _ (by decide +kernel)) ggL_act_L_paint
theorem dL_act_0 : decode cL_act 0 = .ok (.iload_n 1, 1) := by decide +kernel
theorem dL_act_1 : decode cL_act 1 = .ok (.bipush 24, 2) := by decide +kernel
theorem dL_act_3 : decode cL_act 3 = .ok (.ishr, 1) := by decide +kernel
theorem dL_act_4 : decode cL_act 4 = .ok (.bipush 9, 2) := by decide +kernel
theorem dL_act_6 : decode cL_act 6 = .ok (.invokestatic 46, 3) := by decide +kernel
theorem dL_act_9 : decode cL_act 9 = .ok (.ifCond .ne 7, 3) := by decide +kernel
theorem dL_act_12 : decode cL_act 12 = .ok (.iconst 1, 1) := by decide +kernel
theorem dL_act_13 : decode cL_act 13 = .ok (.goto 4, 3) := by decide +kernel
theorem dL_act_16 : decode cL_act 16 = .ok (.iconst 0, 1) := by decide +kernel
theorem dL_act_17 : decode cL_act 17 = .ok (.istore_n 2, 1) := by decide +kernel
theorem dL_act_18 : decode cL_act 18 = .ok (.iload_n 1, 1) := by decide +kernel
theorem dL_act_19 : decode cL_act 19 = .ok (.iconst 4, 1) := by decide +kernel
theorem dL_act_20 : decode cL_act 20 = .ok (.ishr, 1) := by decide +kernel
theorem dL_act_21 : decode cL_act 21 = .ok (.iload_n 2, 1) := by decide +kernel
theorem dL_act_22 : decode cL_act 22 = .ok (.ifCond .eq 8, 3) := by decide +kernel
theorem dL_act_25 : decode cL_act 25 = .ok (.bipush 6, 2) := by decide +kernel
theorem dL_act_27 : decode cL_act 27 = .ok (.goto 4, 3) := by decide +kernel
theorem dL_act_30 : decode cL_act 30 = .ok (.iconst 2, 1) := by decide +kernel
theorem dL_act_31 : decode cL_act 31 = .ok (.invokestatic 46, 3) := by decide +kernel
theorem dL_act_34 : decode cL_act 34 = .ok (.istore_n 3, 1) := by decide +kernel
theorem dL_act_35 : decode cL_act 35 = .ok (.iload_n 1, 1) := by decide +kernel
