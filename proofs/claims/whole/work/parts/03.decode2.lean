theorem dX3_run_0 : decode cX3_run 0 = .ok (.aload_n 0, 1) := by decide +kernel
theorem dX3_run_1 : decode cX3_run 1 = .ok (.iload_n 1, 1) := by decide +kernel
theorem dX3_run_2 : decode cX3_run 2 = .ok (.iload_n 2, 1) := by decide +kernel
theorem dX3_run_3 : decode cX3_run 3 = .ok (.iload_n 3, 1) := by decide +kernel
theorem dX3_run_4 : decode cX3_run 4 = .ok (.invokevirtual 108, 3) := by decide +kernel
theorem dX3_run_7 : decode cX3_run 7 = .ok (.aload_n 0, 1) := by decide +kernel
theorem dX3_run_8 : decode cX3_run 8 = .ok (.iload_n 1, 1) := by decide +kernel
theorem dX3_run_9 : decode cX3_run 9 = .ok (.iload_n 2, 1) := by decide +kernel
theorem dX3_run_10 : decode cX3_run 10 = .ok (.invokestatic 87, 3) := by decide +kernel
theorem dX3_run_13 : decode cX3_run 13 = .ok (.iload_n 2, 1) := by decide +kernel
theorem dX3_run_14 : decode cX3_run 14 = .ok (.iload_n 3, 1) := by decide +kernel
theorem dX3_run_15 : decode cX3_run 15 = .ok (.invokevirtual 119, 3) := by decide +kernel
theorem dX3_run_18 : decode cX3_run 18 = .ok (.ifCond .ge 7, 3) := by decide +kernel
theorem dX3_run_21 : decode cX3_run 21 = .ok (.iconst 1, 1) := by decide +kernel
theorem dX3_run_22 : decode cX3_run 22 = .ok (.goto 4, 3) := by decide +kernel
theorem dX3_run_25 : decode cX3_run 25 = .ok (.iconst 0, 1) := by decide +kernel
theorem dX3_run_26 : decode cX3_run 26 = .ok (.istore 4, 2) := by decide +kernel
theorem dX3_run_28 : decode cX3_run 28 = .ok (.aload_n 0, 1) := by decide +kernel
theorem dX3_run_29 : decode cX3_run 29 = .ok (.getfield 29, 3) := by decide +kernel
theorem dX3_run_32 : decode cX3_run 32 = .ok (.iload_n 2, 1) := by decide +kernel
theorem dX3_run_33 : decode cX3_run 33 = .ok (.iload 4, 2) := by decide +kernel
theorem dX3_run_35 : decode cX3_run 35 = .ok (.invokevirtual 131, 3) := by decide +kernel
theorem dX3_run_38 : decode cX3_run 38 = .ok (.iload 4, 2) := by decide +kernel
theorem dX3_run_40 : decode cX3_run 40 = .ok (.ireturn, 1) := by decide +kernel
set_option maxRecDepth 20000 in
theorem ggX3_runs_X3_isTest : GoodIn wsX3_runs wsX3_isTest := goodIn_r _ [5, 6, 7, 4, 8] (by decide +kernel) (by decide +kernel)
set_option maxRecDepth 20000 in
theorem gX3_runs_X3_isTest : GoodIn wsX3_runs (va_wsS RX3 33 yX3_isTest wsX3_isTest) := goodIn_app (goodIn_of _ (by decide +kernel)) ggX3_runs_X3_isTest
set_option maxRecDepth 20000 in
theorem ggX3_runs_X3_checkArguments : GoodIn wsX3_runs wsX3_checkArguments := goodIn_ca (goodIn_r _ [11, 12, 13] (by decide +kernel) (by decide +kernel)) (goodIn_sub (fun _ h => List.mem_cons_of_mem _ (List.mem_append_right _ h)) (by decide +kernel))
set_option maxRecDepth 20000 in
theorem gX3_runs_X3_checkArguments : GoodIn wsX3_runs (va_wsS RX3 44 yX3_checkArguments wsX3_checkArguments) := goodIn_app (goodIn_of _ (by decide +kernel)) ggX3_runs_X3_checkArguments
set_option maxRecDepth 20000 in
theorem ggX3_runs_X0_length : GoodIn wsX3_runs wsX0_length := goodIn_r _ [18, 19, 3, 4, 5, 6, 7, 8, 24, 25] (by decide +kernel) (by decide +kernel)
set_option maxRecDepth 20000 in
theorem gX3_runs_X0_length : GoodIn wsX3_runs (wsV RX3 135 RX0 yX0_length wsX0_length) := goodIn_app (goodIn_of _ (by decide +kernel)) ggX3_runs_X0_length
theorem dX3_runs_0 : decode cX3_runs 0 = .ok (.iload_n 1, 1) := by decide +kernel
theorem dX3_runs_1 : decode cX3_runs 1 = .ok (.invokestatic 33, 3) := by decide +kernel
theorem dX3_runs_4 : decode cX3_runs 4 = .ok (.invokestatic 44, 3) := by decide +kernel
theorem dX3_runs_7 : decode cX3_runs 7 = .ok (.aload_n 0, 1) := by decide +kernel
theorem dX3_runs_8 : decode cX3_runs 8 = .ok (.getfield 29, 3) := by decide +kernel
theorem dX3_runs_11 : decode cX3_runs 11 = .ok (.iload_n 1, 1) := by decide +kernel
theorem dX3_runs_12 : decode cX3_runs 12 = .ok (.invokevirtual 135, 3) := by decide +kernel
theorem dX3_runs_15 : decode cX3_runs 15 = .ok (.ireturn, 1) := by decide +kernel
set_option maxRecDepth 20000 in
theorem ggX3_doubt_X3_isTest : GoodIn wsX3_doubt wsX3_isTest := goodIn_r _ [5, 6, 7, 4, 8] (by decide +kernel) (by decide +kernel)
set_option maxRecDepth 20000 in
theorem gX3_doubt_X3_isTest : GoodIn wsX3_doubt (va_wsS RX3 33 yX3_isTest wsX3_isTest) := goodIn_app (goodIn_of _ (by decide +kernel)) ggX3_doubt_X3_isTest
set_option maxRecDepth 20000 in
theorem ggX3_doubt_X3_checkArguments : GoodIn wsX3_doubt wsX3_checkArguments := goodIn_ca (goodIn_r _ [11, 12, 13] (by decide +kernel) (by decide +kernel)) (goodIn_sub (fun _ h => List.mem_cons_of_mem _ (List.mem_append_right _ h)) (by decide +kernel))
set_option maxRecDepth 20000 in
theorem gX3_doubt_X3_checkArguments : GoodIn wsX3_doubt (va_wsS RX3 44 yX3_checkArguments wsX3_checkArguments) := goodIn_app (goodIn_of _ (by decide +kernel)) ggX3_doubt_X3_checkArguments
set_option maxRecDepth 20000 in
theorem ggX3_doubt_X0_length : GoodIn wsX3_doubt wsX0_length := goodIn_r _ [18, 19, 3, 4, 5, 6, 7, 8, 36, 37] (by decide +kernel) (by decide +kernel)
set_option maxRecDepth 20000 in
theorem gX3_doubt_X0_length : GoodIn wsX3_doubt (wsV RX3 135 RX0 yX0_length wsX0_length) := goodIn_app (goodIn_of _ (by decide +kernel)) ggX3_doubt_X0_length
set_option maxRecDepth 20000 in
theorem ggX3_doubt_X0_changes : GoodIn wsX3_doubt wsX0_changes := goodIn_r _ [23, 19, 24, 3, 4, 5, 6, 7, 8, 25, 26, 27, 28, 29, 30, 31, 36, 37] (by decide +kernel) (by decide +kernel)
set_option maxRecDepth 20000 in
theorem gX3_doubt_X0_changes : GoodIn wsX3_doubt (wsV RX3 138 RX0 yX0_changes wsX0_changes) := goodIn_app (goodIn_of _ (by decide +kernel)) ggX3_doubt_X0_changes
theorem dX3_doubt_0 : decode cX3_doubt 0 = .ok (.iload_n 1, 1) := by decide +kernel
theorem dX3_doubt_1 : decode cX3_doubt 1 = .ok (.invokestatic 33, 3) := by decide +kernel
theorem dX3_doubt_4 : decode cX3_doubt 4 = .ok (.invokestatic 44, 3) := by decide +kernel
theorem dX3_doubt_7 : decode cX3_doubt 7 = .ok (.aload_n 0, 1) := by decide +kernel
theorem dX3_doubt_8 : decode cX3_doubt 8 = .ok (.getfield 29, 3) := by decide +kernel
theorem dX3_doubt_11 : decode cX3_doubt 11 = .ok (.iload_n 1, 1) := by decide +kernel
theorem dX3_doubt_12 : decode cX3_doubt 12 = .ok (.invokevirtual 135, 3) := by decide +kernel
theorem dX3_doubt_15 : decode cX3_doubt 15 = .ok (.iconst 1, 1) := by decide +kernel
theorem dX3_doubt_16 : decode cX3_doubt 16 = .ok (.isub, 1) := by decide +kernel
theorem dX3_doubt_17 : decode cX3_doubt 17 = .ok (.istore_n 2, 1) := by decide +kernel
theorem dX3_doubt_18 : decode cX3_doubt 18 = .ok (.iload_n 2, 1) := by decide +kernel
theorem dX3_doubt_19 : decode cX3_doubt 19 = .ok (.iconst 1, 1) := by decide +kernel
theorem dX3_doubt_20 : decode cX3_doubt 20 = .ok (.if_icmp .ge 5, 3) := by decide +kernel
theorem dX3_doubt_23 : decode cX3_doubt 23 = .ok (.iconst 0, 1) := by decide +kernel
theorem dX3_doubt_24 : decode cX3_doubt 24 = .ok (.ireturn, 1) := by decide +kernel
theorem dX3_doubt_25 : decode cX3_doubt 25 = .ok (.bipush 100, 2) := by decide +kernel
theorem dX3_doubt_27 : decode cX3_doubt 27 = .ok (.aload_n 0, 1) := by decide +kernel
theorem dX3_doubt_28 : decode cX3_doubt 28 = .ok (.getfield 29, 3) := by decide +kernel
theorem dX3_doubt_31 : decode cX3_doubt 31 = .ok (.iload_n 1, 1) := by decide +kernel
theorem dX3_doubt_32 : decode cX3_doubt 32 = .ok (.invokevirtual 138, 3) := by decide +kernel
theorem dX3_doubt_35 : decode cX3_doubt 35 = .ok (.imul, 1) := by decide +kernel
theorem dX3_doubt_36 : decode cX3_doubt 36 = .ok (.iload_n 2, 1) := by decide +kernel
theorem dX3_doubt_37 : decode cX3_doubt 37 = .ok (.idiv, 1) := by decide +kernel
theorem dX3_doubt_38 : decode cX3_doubt 38 = .ok (.ireturn, 1) := by decide +kernel
theorem dX3_checkArguments_0 : decode cX3_checkArguments 0 = .ok (.iload_n 0, 1) := by decide +kernel
theorem dX3_checkArguments_1 : decode cX3_checkArguments 1 = .ok (.ifCond .ne 13, 3) := by decide +kernel
theorem dX3_checkArguments_4 : decode cX3_checkArguments 4 = .ok (.new 141, 3) := by decide +kernel
theorem dX3_checkArguments_7 : decode cX3_checkArguments 7 = .ok (.dup, 1) := by decide +kernel
theorem dX3_checkArguments_8 : decode cX3_checkArguments 8 = .ok (.ldc 143, 2) := by decide +kernel
theorem dX3_checkArguments_10 : decode cX3_checkArguments 10 = .ok (.invokespecial 145, 3) := by decide +kernel
theorem dX3_checkArguments_13 : decode cX3_checkArguments 13 = .ok (.athrow, 1) := by decide +kernel
theorem dX3_checkArguments_14 : decode cX3_checkArguments 14 = .ok (.return_, 1) := by decide +kernel
set_option maxRecDepth 20000 in
theorem ggX3_checkComparison_X3_isBranch : GoodIn wsX3_checkComparison wsX3_isBranch := goodIn_r _ [7, 8, 9, 6, 10] (by decide +kernel) (by decide +kernel)
set_option maxRecDepth 20000 in
theorem gX3_checkComparison_X3_isBranch : GoodIn wsX3_checkComparison (va_wsS RX3 84 yX3_isBranch wsX3_isBranch) := goodIn_app (goodIn_of _ (by decide +kernel)) ggX3_checkComparison_X3_isBranch
set_option maxRecDepth 20000 in
theorem ggX3_checkComparison_X3_isTest : GoodIn wsX3_checkComparison wsX3_isTest := goodIn_r _ [13, 8, 9, 6, 10] (by decide +kernel) (by decide +kernel)
set_option maxRecDepth 20000 in
theorem gX3_checkComparison_X3_isTest : GoodIn wsX3_checkComparison (va_wsS RX3 33 yX3_isTest wsX3_isTest) := goodIn_app (goodIn_of _ (by decide +kernel)) ggX3_checkComparison_X3_isTest
set_option maxRecDepth 20000 in
theorem ggX3_checkComparison_X3_isShade : GoodIn wsX3_checkComparison wsX3_isShade := goodIn_r _ [16, 8, 9, 6, 10] (by decide +kernel) (by decide +kernel)
set_option maxRecDepth 20000 in
theorem gX3_checkComparison_X3_isShade : GoodIn wsX3_checkComparison (va_wsS RX3 41 yX3_isShade wsX3_isShade) := goodIn_app (goodIn_of _ (by decide +kernel)) ggX3_checkComparison_X3_isShade
set_option maxRecDepth 20000 in
theorem ggX3_checkComparison_X3_checkArguments : GoodIn wsX3_checkComparison wsX3_checkArguments := goodIn_ca (goodIn_r _ [19, 20, 21] (by decide +kernel) (by decide +kernel)) (goodIn_sub (fun _ h => List.mem_cons_of_mem _ (List.mem_append_right _ h)) (by decide +kernel))
set_option maxRecDepth 20000 in
theorem gX3_checkComparison_X3_checkArguments : GoodIn wsX3_checkComparison (va_wsS RX3 44 yX3_checkArguments wsX3_checkArguments) := goodIn_app (goodIn_of _ (by decide +kernel)) ggX3_checkComparison_X3_checkArguments
set_option maxRecDepth 20000 in
theorem ggX3_checkComparison_X3_approvedSlot : GoodIn wsX3_checkComparison wsX3_approvedSlot := goodIn_r _ [24] (by decide +kernel) (by decide +kernel)
set_option maxRecDepth 20000 in
theorem gX3_checkComparison_X3_approvedSlot : GoodIn wsX3_checkComparison (va_wsS RX3 87 yX3_approvedSlot wsX3_approvedSlot) := goodIn_app (goodIn_of _ (by decide +kernel)) ggX3_checkComparison_X3_approvedSlot
set_option maxRecDepth 20000 in
theorem ggX3_checkComparison_X1_has : GoodIn wsX3_checkComparison wsX1_has := goodIn_r _ [29, 30, 31, 32, 28, 33, 9, 6, 10, 38, 39] (by decide +kernel) (by decide +kernel)
set_option maxRecDepth 20000 in
theorem gX3_checkComparison_X1_has : GoodIn wsX3_checkComparison (wsV RX3 91 RX1 yX1_has wsX1_has) := goodIn_app (goodIn_of _ (by decide +kernel)) ggX3_checkComparison_X1_has
theorem dX3_checkComparison_0 : decode cX3_checkComparison 0 = .ok (.iload_n 1, 1) := by decide +kernel
theorem dX3_checkComparison_1 : decode cX3_checkComparison 1 = .ok (.invokestatic 84, 3) := by decide +kernel
theorem dX3_checkComparison_4 : decode cX3_checkComparison 4 = .ok (.ifCond .eq 21, 3) := by decide +kernel
theorem dX3_checkComparison_7 : decode cX3_checkComparison 7 = .ok (.iload_n 2, 1) := by decide +kernel
theorem dX3_checkComparison_8 : decode cX3_checkComparison 8 = .ok (.invokestatic 33, 3) := by decide +kernel
theorem dX3_checkComparison_11 : decode cX3_checkComparison 11 = .ok (.ifCond .eq 14, 3) := by decide +kernel
theorem dX3_checkComparison_14 : decode cX3_checkComparison 14 = .ok (.iload_n 3, 1) := by decide +kernel
theorem dX3_checkComparison_15 : decode cX3_checkComparison 15 = .ok (.invokestatic 41, 3) := by decide +kernel
theorem dX3_checkComparison_18 : decode cX3_checkComparison 18 = .ok (.ifCond .eq 7, 3) := by decide +kernel
theorem dX3_checkComparison_21 : decode cX3_checkComparison 21 = .ok (.iconst 1, 1) := by decide +kernel
theorem dX3_checkComparison_22 : decode cX3_checkComparison 22 = .ok (.goto 4, 3) := by decide +kernel
theorem dX3_checkComparison_25 : decode cX3_checkComparison 25 = .ok (.iconst 0, 1) := by decide +kernel
theorem dX3_checkComparison_26 : decode cX3_checkComparison 26 = .ok (.invokestatic 44, 3) := by decide +kernel
theorem dX3_checkComparison_29 : decode cX3_checkComparison 29 = .ok (.aload_n 0, 1) := by decide +kernel
theorem dX3_checkComparison_30 : decode cX3_checkComparison 30 = .ok (.getfield 12, 3) := by decide +kernel
theorem dX3_checkComparison_33 : decode cX3_checkComparison 33 = .ok (.iload_n 1, 1) := by decide +kernel
theorem dX3_checkComparison_34 : decode cX3_checkComparison 34 = .ok (.iload_n 2, 1) := by decide +kernel
theorem dX3_checkComparison_35 : decode cX3_checkComparison 35 = .ok (.invokestatic 87, 3) := by decide +kernel
theorem dX3_checkComparison_38 : decode cX3_checkComparison 38 = .ok (.invokevirtual 91, 3) := by decide +kernel
theorem dX3_checkComparison_41 : decode cX3_checkComparison 41 = .ok (.ifCond .ne 13, 3) := by decide +kernel
theorem dX3_checkComparison_44 : decode cX3_checkComparison 44 = .ok (.new 77, 3) := by decide +kernel
theorem dX3_checkComparison_47 : decode cX3_checkComparison 47 = .ok (.dup, 1) := by decide +kernel
theorem dX3_checkComparison_48 : decode cX3_checkComparison 48 = .ok (.ldc 146, 2) := by decide +kernel
theorem dX3_checkComparison_50 : decode cX3_checkComparison 50 = .ok (.invokespecial 81, 3) := by decide +kernel
theorem dX3_checkComparison_53 : decode cX3_checkComparison 53 = .ok (.athrow, 1) := by decide +kernel
theorem dX3_checkComparison_54 : decode cX3_checkComparison 54 = .ok (.return_, 1) := by decide +kernel
theorem dX3_isWithin_0 : decode cX3_isWithin 0 = .ok (.iload_n 0, 1) := by decide +kernel
theorem dX3_isWithin_1 : decode cX3_isWithin 1 = .ok (.iload_n 1, 1) := by decide +kernel
theorem dX3_isWithin_2 : decode cX3_isWithin 2 = .ok (.if_icmp .lt 12, 3) := by decide +kernel
theorem dX3_isWithin_5 : decode cX3_isWithin 5 = .ok (.iload_n 0, 1) := by decide +kernel
theorem dX3_isWithin_6 : decode cX3_isWithin 6 = .ok (.iload_n 2, 1) := by decide +kernel
theorem dX3_isWithin_7 : decode cX3_isWithin 7 = .ok (.if_icmp .gt 7, 3) := by decide +kernel
theorem dX3_isWithin_10 : decode cX3_isWithin 10 = .ok (.iconst 1, 1) := by decide +kernel
theorem dX3_isWithin_11 : decode cX3_isWithin 11 = .ok (.goto 4, 3) := by decide +kernel
theorem dX3_isWithin_14 : decode cX3_isWithin 14 = .ok (.iconst 0, 1) := by decide +kernel
theorem dX3_isWithin_15 : decode cX3_isWithin 15 = .ok (.ireturn, 1) := by decide +kernel
set_option maxRecDepth 20000 in
theorem ggX3_isTest_X3_isWithin : GoodIn wsX3_isTest wsX3_isWithin := goodIn_r _ [4] (by decide +kernel) (by decide +kernel)
set_option maxRecDepth 20000 in
theorem gX3_isTest_X3_isWithin : GoodIn wsX3_isTest (va_wsS RX3 70 yX3_isWithin wsX3_isWithin) := goodIn_app (goodIn_of _ (by decide +kernel)) ggX3_isTest_X3_isWithin
theorem dX3_isTest_0 : decode cX3_isTest 0 = .ok (.iload_n 0, 1) := by decide +kernel
theorem dX3_isTest_1 : decode cX3_isTest 1 = .ok (.iconst 0, 1) := by decide +kernel
theorem dX3_isTest_2 : decode cX3_isTest 2 = .ok (.iconst 4, 1) := by decide +kernel
theorem dX3_isTest_3 : decode cX3_isTest 3 = .ok (.invokestatic 70, 3) := by decide +kernel
theorem dX3_isTest_6 : decode cX3_isTest 6 = .ok (.ireturn, 1) := by decide +kernel
set_option maxRecDepth 20000 in
theorem ggX3_isBranch_X3_isWithin : GoodIn wsX3_isBranch wsX3_isWithin := goodIn_r _ [4] (by decide +kernel) (by decide +kernel)
set_option maxRecDepth 20000 in
theorem gX3_isBranch_X3_isWithin : GoodIn wsX3_isBranch (va_wsS RX3 70 yX3_isWithin wsX3_isWithin) := goodIn_app (goodIn_of _ (by decide +kernel)) ggX3_isBranch_X3_isWithin
theorem dX3_isBranch_0 : decode cX3_isBranch 0 = .ok (.iload_n 0, 1) := by decide +kernel
theorem dX3_isBranch_1 : decode cX3_isBranch 1 = .ok (.iconst 0, 1) := by decide +kernel
theorem dX3_isBranch_2 : decode cX3_isBranch 2 = .ok (.iconst 3, 1) := by decide +kernel
theorem dX3_isBranch_3 : decode cX3_isBranch 3 = .ok (.invokestatic 70, 3) := by decide +kernel
theorem dX3_isBranch_6 : decode cX3_isBranch 6 = .ok (.ireturn, 1) := by decide +kernel
set_option maxRecDepth 20000 in
theorem ggX3_isSideBranch_X3_isWithin : GoodIn wsX3_isSideBranch wsX3_isWithin := goodIn_r _ [4] (by decide +kernel) (by decide +kernel)
set_option maxRecDepth 20000 in
theorem gX3_isSideBranch_X3_isWithin : GoodIn wsX3_isSideBranch (va_wsS RX3 70 yX3_isWithin wsX3_isWithin) := goodIn_app (goodIn_of _ (by decide +kernel)) ggX3_isSideBranch_X3_isWithin
theorem dX3_isSideBranch_0 : decode cX3_isSideBranch 0 = .ok (.iload_n 0, 1) := by decide +kernel
theorem dX3_isSideBranch_1 : decode cX3_isSideBranch 1 = .ok (.iconst 1, 1) := by decide +kernel
theorem dX3_isSideBranch_2 : decode cX3_isSideBranch 2 = .ok (.iconst 3, 1) := by decide +kernel
theorem dX3_isSideBranch_3 : decode cX3_isSideBranch 3 = .ok (.invokestatic 70, 3) := by decide +kernel
theorem dX3_isSideBranch_6 : decode cX3_isSideBranch 6 = .ok (.ireturn, 1) := by decide +kernel
set_option maxRecDepth 20000 in
theorem ggX3_isShade_X3_isWithin : GoodIn wsX3_isShade wsX3_isWithin := goodIn_r _ [4] (by decide +kernel) (by decide +kernel)
set_option maxRecDepth 20000 in
theorem gX3_isShade_X3_isWithin : GoodIn wsX3_isShade (va_wsS RX3 70 yX3_isWithin wsX3_isWithin) := goodIn_app (goodIn_of _ (by decide +kernel)) ggX3_isShade_X3_isWithin
theorem dX3_isShade_0 : decode cX3_isShade 0 = .ok (.iload_n 0, 1) := by decide +kernel
theorem dX3_isShade_1 : decode cX3_isShade 1 = .ok (.iconst 0, 1) := by decide +kernel
theorem dX3_isShade_2 : decode cX3_isShade 2 = .ok (.sipush 255, 3) := by decide +kernel
theorem dX3_isShade_5 : decode cX3_isShade 5 = .ok (.invokestatic 70, 3) := by decide +kernel
theorem dX3_isShade_8 : decode cX3_isShade 8 = .ok (.ireturn, 1) := by decide +kernel
set_option maxRecDepth 20000 in
theorem ggX3_isCell_X3_isWithin : GoodIn wsX3_isCell wsX3_isWithin := goodIn_r _ [4] (by decide +kernel) (by decide +kernel)
set_option maxRecDepth 20000 in
theorem gX3_isCell_X3_isWithin : GoodIn wsX3_isCell (va_wsS RX3 70 yX3_isWithin wsX3_isWithin) := goodIn_app (goodIn_of _ (by decide +kernel)) ggX3_isCell_X3_isWithin
theorem dX3_isCell_0 : decode cX3_isCell 0 = .ok (.iload_n 0, 1) := by decide +kernel
theorem dX3_isCell_1 : decode cX3_isCell 1 = .ok (.iconst 0, 1) := by decide +kernel
theorem dX3_isCell_2 : decode cX3_isCell 2 = .ok (.bipush 7, 2) := by decide +kernel
theorem dX3_isCell_4 : decode cX3_isCell 4 = .ok (.invokestatic 70, 3) := by decide +kernel
theorem dX3_isCell_7 : decode cX3_isCell 7 = .ok (.ifCond .eq 17, 3) := by decide +kernel
theorem dX3_isCell_10 : decode cX3_isCell 10 = .ok (.iload_n 1, 1) := by decide +kernel
theorem dX3_isCell_11 : decode cX3_isCell 11 = .ok (.iconst 0, 1) := by decide +kernel
theorem dX3_isCell_12 : decode cX3_isCell 12 = .ok (.bipush 7, 2) := by decide +kernel
theorem dX3_isCell_14 : decode cX3_isCell 14 = .ok (.invokestatic 70, 3) := by decide +kernel
theorem dX3_isCell_17 : decode cX3_isCell 17 = .ok (.ifCond .eq 7, 3) := by decide +kernel
theorem dX3_isCell_20 : decode cX3_isCell 20 = .ok (.iconst 1, 1) := by decide +kernel
theorem dX3_isCell_21 : decode cX3_isCell 21 = .ok (.goto 4, 3) := by decide +kernel
theorem dX3_isCell_24 : decode cX3_isCell 24 = .ok (.iconst 0, 1) := by decide +kernel
theorem dX3_isCell_25 : decode cX3_isCell 25 = .ok (.ireturn, 1) := by decide +kernel
set_option maxRecDepth 20000 in
theorem ggX3_isRectangle_X3_isCell : GoodIn wsX3_isRectangle wsX3_isCell := goodIn_r _ [4, 5, 6, 3, 7] (by decide +kernel) (by decide +kernel)
set_option maxRecDepth 20000 in
theorem gX3_isRectangle_X3_isCell : GoodIn wsX3_isRectangle (va_wsS RX3 55 yX3_isCell wsX3_isCell) := goodIn_app (goodIn_of _ (by decide +kernel)) ggX3_isRectangle_X3_isCell
set_option maxRecDepth 20000 in
theorem ggX3_isRectangle_X3_isWithin : GoodIn wsX3_isRectangle wsX3_isWithin := goodIn_r _ [7] (by decide +kernel) (by decide +kernel)
set_option maxRecDepth 20000 in
theorem gX3_isRectangle_X3_isWithin : GoodIn wsX3_isRectangle (va_wsS RX3 70 yX3_isWithin wsX3_isWithin) := goodIn_app (goodIn_of _ (by decide +kernel)) ggX3_isRectangle_X3_isWithin
theorem dX3_isRectangle_0 : decode cX3_isRectangle 0 = .ok (.iload_n 0, 1) := by decide +kernel
theorem dX3_isRectangle_1 : decode cX3_isRectangle 1 = .ok (.iload_n 1, 1) := by decide +kernel
theorem dX3_isRectangle_2 : decode cX3_isRectangle 2 = .ok (.invokestatic 55, 3) := by decide +kernel
theorem dX3_isRectangle_5 : decode cX3_isRectangle 5 = .ok (.ifCond .eq 31, 3) := by decide +kernel
theorem dX3_isRectangle_8 : decode cX3_isRectangle 8 = .ok (.iload_n 2, 1) := by decide +kernel
theorem dX3_isRectangle_9 : decode cX3_isRectangle 9 = .ok (.iconst 1, 1) := by decide +kernel
theorem dX3_isRectangle_10 : decode cX3_isRectangle 10 = .ok (.bipush 8, 2) := by decide +kernel
theorem dX3_isRectangle_12 : decode cX3_isRectangle 12 = .ok (.iload_n 0, 1) := by decide +kernel
theorem dX3_isRectangle_13 : decode cX3_isRectangle 13 = .ok (.isub, 1) := by decide +kernel
theorem dX3_isRectangle_14 : decode cX3_isRectangle 14 = .ok (.invokestatic 70, 3) := by decide +kernel
theorem dX3_isRectangle_17 : decode cX3_isRectangle 17 = .ok (.ifCond .eq 19, 3) := by decide +kernel
theorem dX3_isRectangle_20 : decode cX3_isRectangle 20 = .ok (.iload_n 3, 1) := by decide +kernel
theorem dX3_isRectangle_21 : decode cX3_isRectangle 21 = .ok (.iconst 1, 1) := by decide +kernel
theorem dX3_isRectangle_22 : decode cX3_isRectangle 22 = .ok (.bipush 8, 2) := by decide +kernel
theorem dX3_isRectangle_24 : decode cX3_isRectangle 24 = .ok (.iload_n 1, 1) := by decide +kernel
theorem dX3_isRectangle_25 : decode cX3_isRectangle 25 = .ok (.isub, 1) := by decide +kernel
theorem dX3_isRectangle_26 : decode cX3_isRectangle 26 = .ok (.invokestatic 70, 3) := by decide +kernel
theorem dX3_isRectangle_29 : decode cX3_isRectangle 29 = .ok (.ifCond .eq 7, 3) := by decide +kernel
theorem dX3_isRectangle_32 : decode cX3_isRectangle 32 = .ok (.iconst 1, 1) := by decide +kernel
theorem dX3_isRectangle_33 : decode cX3_isRectangle 33 = .ok (.goto 4, 3) := by decide +kernel
theorem dX3_isRectangle_36 : decode cX3_isRectangle 36 = .ok (.iconst 0, 1) := by decide +kernel
theorem dX3_isRectangle_37 : decode cX3_isRectangle 37 = .ok (.ireturn, 1) := by decide +kernel
theorem dX3_pictureSlot_0 : decode cX3_pictureSlot 0 = .ok (.iload_n 0, 1) := by decide +kernel
theorem dX3_pictureSlot_1 : decode cX3_pictureSlot 1 = .ok (.ireturn, 1) := by decide +kernel
theorem dX3_approvedSlot_0 : decode cX3_approvedSlot 0 = .ok (.iconst 5, 1) := by decide +kernel
theorem dX3_approvedSlot_1 : decode cX3_approvedSlot 1 = .ok (.iload_n 0, 1) := by decide +kernel
theorem dX3_approvedSlot_2 : decode cX3_approvedSlot 2 = .ok (.iconst 5, 1) := by decide +kernel
theorem dX3_approvedSlot_3 : decode cX3_approvedSlot 3 = .ok (.imul, 1) := by decide +kernel
theorem dX3_approvedSlot_4 : decode cX3_approvedSlot 4 = .ok (.iadd, 1) := by decide +kernel
theorem dX3_approvedSlot_5 : decode cX3_approvedSlot 5 = .ok (.iload_n 1, 1) := by decide +kernel
theorem dX3_approvedSlot_6 : decode cX3_approvedSlot 6 = .ok (.iadd, 1) := by decide +kernel
theorem dX3_approvedSlot_7 : decode cX3_approvedSlot 7 = .ok (.ireturn, 1) := by decide +kernel
theorem dX3_baseSlot_0 : decode cX3_baseSlot 0 = .ok (.bipush 25, 2) := by decide +kernel
theorem dX3_baseSlot_2 : decode cX3_baseSlot 2 = .ok (.iload_n 0, 1) := by decide +kernel
theorem dX3_baseSlot_3 : decode cX3_baseSlot 3 = .ok (.iconst 5, 1) := by decide +kernel
theorem dX3_baseSlot_4 : decode cX3_baseSlot 4 = .ok (.imul, 1) := by decide +kernel
theorem dX3_baseSlot_5 : decode cX3_baseSlot 5 = .ok (.iadd, 1) := by decide +kernel
theorem dX3_baseSlot_6 : decode cX3_baseSlot 6 = .ok (.iload_n 1, 1) := by decide +kernel
theorem dX3_baseSlot_7 : decode cX3_baseSlot 7 = .ok (.iadd, 1) := by decide +kernel
theorem dX3_baseSlot_8 : decode cX3_baseSlot 8 = .ok (.ireturn, 1) := by decide +kernel
theorem dX3_columnOf_0 : decode cX3_columnOf 0 = .ok (.iload_n 0, 1) := by decide +kernel
theorem dX3_columnOf_1 : decode cX3_columnOf 1 = .ok (.bipush 8, 2) := by decide +kernel
theorem dX3_columnOf_3 : decode cX3_columnOf 3 = .ok (.irem, 1) := by decide +kernel
theorem dX3_columnOf_4 : decode cX3_columnOf 4 = .ok (.ireturn, 1) := by decide +kernel
theorem dX3_rowOf_0 : decode cX3_rowOf 0 = .ok (.iload_n 0, 1) := by decide +kernel
theorem dX3_rowOf_1 : decode cX3_rowOf 1 = .ok (.bipush 8, 2) := by decide +kernel
theorem dX3_rowOf_3 : decode cX3_rowOf 3 = .ok (.idiv, 1) := by decide +kernel
theorem dX3_rowOf_4 : decode cX3_rowOf 4 = .ok (.ireturn, 1) := by decide +kernel
set_option maxRecDepth 20000 in
theorem ggX3_clashes_X3_approvedSlot : GoodIn wsX3_clashes wsX3_approvedSlot := goodIn_r _ [5] (by decide +kernel) (by decide +kernel)
set_option maxRecDepth 20000 in
theorem gX3_clashes_X3_approvedSlot : GoodIn wsX3_clashes (va_wsS RX3 87 yX3_approvedSlot wsX3_approvedSlot) := goodIn_app (goodIn_of _ (by decide +kernel)) ggX3_clashes_X3_approvedSlot
set_option maxRecDepth 20000 in
theorem ggX3_clashes_X3_baseSlot : GoodIn wsX3_clashes wsX3_baseSlot := goodIn_r _ [8] (by decide +kernel) (by decide +kernel)
set_option maxRecDepth 20000 in
theorem gX3_clashes_X3_baseSlot : GoodIn wsX3_clashes (va_wsS RX3 148 yX3_baseSlot wsX3_baseSlot) := goodIn_app (goodIn_of _ (by decide +kernel)) ggX3_clashes_X3_baseSlot
set_option maxRecDepth 20000 in
theorem ggX3_clashes_X1_same : GoodIn wsX3_clashes wsX1_same := goodIn_r _ [13, 14, 15, 16, 17, 12, 18, 19, 20, 21, 22, 23, 4, 24, 29, 30] (by decide +kernel) (by decide +kernel)
set_option maxRecDepth 20000 in
theorem gX3_clashes_X1_same : GoodIn wsX3_clashes (wsV RX3 151 RX1 yX1_same wsX1_same) := goodIn_app (goodIn_of _ (by decide +kernel)) ggX3_clashes_X1_same
theorem dX3_clashes_0 : decode cX3_clashes 0 = .ok (.iload_n 1, 1) := by decide +kernel
theorem dX3_clashes_1 : decode cX3_clashes 1 = .ok (.iload_n 2, 1) := by decide +kernel
theorem dX3_clashes_2 : decode cX3_clashes 2 = .ok (.invokestatic 87, 3) := by decide +kernel
theorem dX3_clashes_5 : decode cX3_clashes 5 = .ok (.istore_n 3, 1) := by decide +kernel
theorem dX3_clashes_6 : decode cX3_clashes 6 = .ok (.iconst 0, 1) := by decide +kernel
theorem dX3_clashes_7 : decode cX3_clashes 7 = .ok (.iload_n 2, 1) := by decide +kernel
theorem dX3_clashes_8 : decode cX3_clashes 8 = .ok (.invokestatic 87, 3) := by decide +kernel
theorem dX3_clashes_11 : decode cX3_clashes 11 = .ok (.istore 4, 2) := by decide +kernel
theorem dX3_clashes_13 : decode cX3_clashes 13 = .ok (.iload_n 1, 1) := by decide +kernel
theorem dX3_clashes_14 : decode cX3_clashes 14 = .ok (.iload_n 2, 1) := by decide +kernel
theorem dX3_clashes_15 : decode cX3_clashes 15 = .ok (.invokestatic 148, 3) := by decide +kernel
theorem dX3_clashes_18 : decode cX3_clashes 18 = .ok (.istore 5, 2) := by decide +kernel
theorem dX3_clashes_20 : decode cX3_clashes 20 = .ok (.aload_n 0, 1) := by decide +kernel
theorem dX3_clashes_21 : decode cX3_clashes 21 = .ok (.getfield 12, 3) := by decide +kernel
theorem dX3_clashes_24 : decode cX3_clashes 24 = .ok (.iload_n 3, 1) := by decide +kernel
theorem dX3_clashes_25 : decode cX3_clashes 25 = .ok (.iload 5, 2) := by decide +kernel
theorem dX3_clashes_27 : decode cX3_clashes 27 = .ok (.invokevirtual 151, 3) := by decide +kernel
theorem dX3_clashes_30 : decode cX3_clashes 30 = .ok (.ifCond .ne 34, 3) := by decide +kernel
theorem dX3_clashes_33 : decode cX3_clashes 33 = .ok (.aload_n 0, 1) := by decide +kernel
theorem dX3_clashes_34 : decode cX3_clashes 34 = .ok (.getfield 12, 3) := by decide +kernel
theorem dX3_clashes_37 : decode cX3_clashes 37 = .ok (.iload 4, 2) := by decide +kernel
theorem dX3_clashes_39 : decode cX3_clashes 39 = .ok (.iload 5, 2) := by decide +kernel
theorem dX3_clashes_41 : decode cX3_clashes 41 = .ok (.invokevirtual 151, 3) := by decide +kernel
theorem dX3_clashes_44 : decode cX3_clashes 44 = .ok (.ifCond .ne 20, 3) := by decide +kernel
theorem dX3_clashes_47 : decode cX3_clashes 47 = .ok (.aload_n 0, 1) := by decide +kernel
theorem dX3_clashes_48 : decode cX3_clashes 48 = .ok (.getfield 12, 3) := by decide +kernel
theorem dX3_clashes_51 : decode cX3_clashes 51 = .ok (.iload_n 3, 1) := by decide +kernel
theorem dX3_clashes_52 : decode cX3_clashes 52 = .ok (.iload 4, 2) := by decide +kernel
theorem dX3_clashes_54 : decode cX3_clashes 54 = .ok (.invokevirtual 151, 3) := by decide +kernel
theorem dX3_clashes_57 : decode cX3_clashes 57 = .ok (.ifCond .ne 7, 3) := by decide +kernel
theorem dX3_clashes_60 : decode cX3_clashes 60 = .ok (.iconst 1, 1) := by decide +kernel
theorem dX3_clashes_61 : decode cX3_clashes 61 = .ok (.goto 4, 3) := by decide +kernel
theorem dX3_clashes_64 : decode cX3_clashes 64 = .ok (.iconst 0, 1) := by decide +kernel
theorem dX3_clashes_65 : decode cX3_clashes 65 = .ok (.ireturn, 1) := by decide +kernel
set_option maxRecDepth 20000 in
theorem ggX3_takeOver_X3_approvedSlot : GoodIn wsX3_takeOver wsX3_approvedSlot := goodIn_r _ [5] (by decide +kernel) (by decide +kernel)
set_option maxRecDepth 20000 in
theorem gX3_takeOver_X3_approvedSlot : GoodIn wsX3_takeOver (va_wsS RX3 87 yX3_approvedSlot wsX3_approvedSlot) := goodIn_app (goodIn_of _ (by decide +kernel)) ggX3_takeOver_X3_approvedSlot
set_option maxRecDepth 20000 in
theorem ggX3_takeOver_X3_baseSlot : GoodIn wsX3_takeOver wsX3_baseSlot := goodIn_r _ [8] (by decide +kernel) (by decide +kernel)
set_option maxRecDepth 20000 in
theorem gX3_takeOver_X3_baseSlot : GoodIn wsX3_takeOver (va_wsS RX3 148 yX3_baseSlot wsX3_baseSlot) := goodIn_app (goodIn_of _ (by decide +kernel)) ggX3_takeOver_X3_baseSlot
set_option maxRecDepth 20000 in
theorem ggX3_takeOver_X1_same : GoodIn wsX3_takeOver wsX1_same := goodIn_r _ [13, 14, 15, 16, 17, 12, 18, 19, 20, 21, 22, 23, 4, 24, 37, 38] (by decide +kernel) (by decide +kernel)
set_option maxRecDepth 20000 in
theorem gX3_takeOver_X1_same : GoodIn wsX3_takeOver (wsV RX3 151 RX1 yX1_same wsX1_same) := goodIn_app (goodIn_of _ (by decide +kernel)) ggX3_takeOver_X1_same
set_option maxRecDepth 20000 in
theorem ggX3_takeOver_X1_copy : GoodIn wsX3_takeOver wsX1_copy := goodIn_r _ [28, 14, 29, 30, 31, 32, 19, 20, 21, 12, 22, 23, 4, 24, 37, 38] (by decide +kernel) (by decide +kernel)
set_option maxRecDepth 20000 in
theorem gX3_takeOver_X1_copy : GoodIn wsX3_takeOver (wsV RX3 92 RX1 yX1_copy wsX1_copy) := goodIn_app (goodIn_of _ (by decide +kernel)) ggX3_takeOver_X1_copy
theorem dX3_takeOver_0 : decode cX3_takeOver 0 = .ok (.iload_n 1, 1) := by decide +kernel
theorem dX3_takeOver_1 : decode cX3_takeOver 1 = .ok (.iload_n 2, 1) := by decide +kernel
theorem dX3_takeOver_2 : decode cX3_takeOver 2 = .ok (.invokestatic 87, 3) := by decide +kernel
theorem dX3_takeOver_5 : decode cX3_takeOver 5 = .ok (.istore_n 3, 1) := by decide +kernel
theorem dX3_takeOver_6 : decode cX3_takeOver 6 = .ok (.iconst 0, 1) := by decide +kernel
theorem dX3_takeOver_7 : decode cX3_takeOver 7 = .ok (.iload_n 2, 1) := by decide +kernel
theorem dX3_takeOver_8 : decode cX3_takeOver 8 = .ok (.invokestatic 87, 3) := by decide +kernel
theorem dX3_takeOver_11 : decode cX3_takeOver 11 = .ok (.istore 4, 2) := by decide +kernel
theorem dX3_takeOver_13 : decode cX3_takeOver 13 = .ok (.iload_n 1, 1) := by decide +kernel
theorem dX3_takeOver_14 : decode cX3_takeOver 14 = .ok (.iload_n 2, 1) := by decide +kernel
theorem dX3_takeOver_15 : decode cX3_takeOver 15 = .ok (.invokestatic 148, 3) := by decide +kernel
theorem dX3_takeOver_18 : decode cX3_takeOver 18 = .ok (.istore 5, 2) := by decide +kernel
theorem dX3_takeOver_20 : decode cX3_takeOver 20 = .ok (.aload_n 0, 1) := by decide +kernel
theorem dX3_takeOver_21 : decode cX3_takeOver 21 = .ok (.getfield 12, 3) := by decide +kernel
theorem dX3_takeOver_24 : decode cX3_takeOver 24 = .ok (.iload 4, 2) := by decide +kernel
theorem dX3_takeOver_26 : decode cX3_takeOver 26 = .ok (.iload 5, 2) := by decide +kernel
theorem dX3_takeOver_28 : decode cX3_takeOver 28 = .ok (.invokevirtual 151, 3) := by decide +kernel
theorem dX3_takeOver_31 : decode cX3_takeOver 31 = .ok (.ifCond .eq 13, 3) := by decide +kernel
theorem dX3_takeOver_34 : decode cX3_takeOver 34 = .ok (.aload_n 0, 1) := by decide +kernel
theorem dX3_takeOver_35 : decode cX3_takeOver 35 = .ok (.getfield 12, 3) := by decide +kernel
theorem dX3_takeOver_38 : decode cX3_takeOver 38 = .ok (.iload_n 3, 1) := by decide +kernel
theorem dX3_takeOver_39 : decode cX3_takeOver 39 = .ok (.iload 4, 2) := by decide +kernel
theorem dX3_takeOver_41 : decode cX3_takeOver 41 = .ok (.invokevirtual 92, 3) := by decide +kernel
theorem dX3_takeOver_44 : decode cX3_takeOver 44 = .ok (.return_, 1) := by decide +kernel
set_option maxRecDepth 20000 in
theorem ggX3_followMain_X3_approvedSlot : GoodIn wsX3_followMain wsX3_approvedSlot := goodIn_r _ [5] (by decide +kernel) (by decide +kernel)
set_option maxRecDepth 20000 in
theorem gX3_followMain_X3_approvedSlot : GoodIn wsX3_followMain (va_wsS RX3 87 yX3_approvedSlot wsX3_approvedSlot) := goodIn_app (goodIn_of _ (by decide +kernel)) ggX3_followMain_X3_approvedSlot
set_option maxRecDepth 20000 in
theorem ggX3_followMain_X3_baseSlot : GoodIn wsX3_followMain wsX3_baseSlot := goodIn_r _ [8] (by decide +kernel) (by decide +kernel)
set_option maxRecDepth 20000 in
theorem gX3_followMain_X3_baseSlot : GoodIn wsX3_followMain (va_wsS RX3 148 yX3_baseSlot wsX3_baseSlot) := goodIn_app (goodIn_of _ (by decide +kernel)) ggX3_followMain_X3_baseSlot
set_option maxRecDepth 20000 in
theorem ggX3_followMain_X1_copy : GoodIn wsX3_followMain wsX1_copy := goodIn_r _ [13, 14, 15, 16, 17, 18, 19, 20, 21, 12, 22, 23, 4, 24, 29, 30] (by decide +kernel) (by decide +kernel)
set_option maxRecDepth 20000 in
theorem gX3_followMain_X1_copy : GoodIn wsX3_followMain (wsV RX3 92 RX1 yX1_copy wsX1_copy) := goodIn_app (goodIn_of _ (by decide +kernel)) ggX3_followMain_X1_copy
theorem dX3_followMain_0 : decode cX3_followMain 0 = .ok (.aload_n 0, 1) := by decide +kernel
theorem dX3_followMain_1 : decode cX3_followMain 1 = .ok (.getfield 12, 3) := by decide +kernel
theorem dX3_followMain_4 : decode cX3_followMain 4 = .ok (.iconst 0, 1) := by decide +kernel
theorem dX3_followMain_5 : decode cX3_followMain 5 = .ok (.iload_n 2, 1) := by decide +kernel
theorem dX3_followMain_6 : decode cX3_followMain 6 = .ok (.invokestatic 87, 3) := by decide +kernel
theorem dX3_followMain_9 : decode cX3_followMain 9 = .ok (.iload_n 1, 1) := by decide +kernel
theorem dX3_followMain_10 : decode cX3_followMain 10 = .ok (.iload_n 2, 1) := by decide +kernel
theorem dX3_followMain_11 : decode cX3_followMain 11 = .ok (.invokestatic 148, 3) := by decide +kernel
theorem dX3_followMain_14 : decode cX3_followMain 14 = .ok (.invokevirtual 92, 3) := by decide +kernel
theorem dX3_followMain_17 : decode cX3_followMain 17 = .ok (.aload_n 0, 1) := by decide +kernel
theorem dX3_followMain_18 : decode cX3_followMain 18 = .ok (.getfield 12, 3) := by decide +kernel
theorem dX3_followMain_21 : decode cX3_followMain 21 = .ok (.iconst 0, 1) := by decide +kernel
theorem dX3_followMain_22 : decode cX3_followMain 22 = .ok (.iload_n 2, 1) := by decide +kernel
theorem dX3_followMain_23 : decode cX3_followMain 23 = .ok (.invokestatic 87, 3) := by decide +kernel
theorem dX3_followMain_26 : decode cX3_followMain 26 = .ok (.iload_n 1, 1) := by decide +kernel
theorem dX3_followMain_27 : decode cX3_followMain 27 = .ok (.iload_n 2, 1) := by decide +kernel
theorem dX3_followMain_28 : decode cX3_followMain 28 = .ok (.invokestatic 87, 3) := by decide +kernel
theorem dX3_followMain_31 : decode cX3_followMain 31 = .ok (.invokevirtual 92, 3) := by decide +kernel
theorem dX3_followMain_34 : decode cX3_followMain 34 = .ok (.return_, 1) := by decide +kernel
set_option maxRecDepth 20000 in
theorem ggX3_findDifference_X3_findMove : GoodIn wsX3_findDifference wsX3_findMove := goodIn_r _ [5, 6, 7, 8, 9, 10, 11, 12, 13, 14, 15, 16, 17, 18, 4, 19, 20, 21, 22, 23, 24, 25, 26, 27, 28, 29, 30, 31, 32, 33, 34, 35, 36, 37, 38, 39, 40, 41, 42, 43, 44, 45, 46, 47, 48, 49, 50, 51, 52, 53, 54, 55, 56, 57, 58, 59, 60, 61, 62, 63, 64, 65, 66, 67, 68, 69, 109, 110, 111, 112, 113, 114, 115, 116, 117, 118] (by decide +kernel) (by decide +kernel)
set_option maxRecDepth 20000 in
theorem gX3_findDifference_X3_findMove : GoodIn wsX3_findDifference (wsV RX3 112 RX3 yX3_findMove wsX3_findMove) := goodIn_app (goodIn_of _ (by decide +kernel)) ggX3_findDifference_X3_findMove
set_option maxRecDepth 20000 in
theorem ggX3_findDifference_X3_differs : GoodIn wsX3_findDifference wsX3_differs := goodIn_r _ [73, 27, 74, 75, 4, 76, 77, 78, 79, 49, 50, 51, 52, 53, 54, 55, 56, 57, 58, 59, 60, 21, 22, 47, 48, 20, 61, 62, 63, 64, 65, 66, 7, 8, 9, 10, 80, 81, 82, 83, 6, 84, 85, 86, 14, 87, 16, 17, 41, 32, 18, 19, 88, 89, 90, 91, 92, 93, 94, 95, 96, 97, 98, 42, 43, 44, 45, 37, 38, 39, 40, 99, 100, 101, 102, 103, 104, 105, 106, 107, 108, 109, 110, 111, 112, 117, 118, 113, 114, 115, 116] (by decide +kernel) (by decide +kernel)
set_option maxRecDepth 20000 in
theorem gX3_findDifference_X3_differs : GoodIn wsX3_findDifference (wsV RX3 115 RX3 yX3_differs wsX3_differs) := goodIn_app (goodIn_of _ (by decide +kernel)) ggX3_findDifference_X3_differs
theorem dX3_findDifference_0 : decode cX3_findDifference 0 = .ok (.aload_n 0, 1) := by decide +kernel
theorem dX3_findDifference_1 : decode cX3_findDifference 1 = .ok (.iload_n 1, 1) := by decide +kernel
theorem dX3_findDifference_2 : decode cX3_findDifference 2 = .ok (.iload_n 2, 1) := by decide +kernel
theorem dX3_findDifference_3 : decode cX3_findDifference 3 = .ok (.iload_n 3, 1) := by decide +kernel
theorem dX3_findDifference_4 : decode cX3_findDifference 4 = .ok (.invokevirtual 112, 3) := by decide +kernel
theorem dX3_findDifference_7 : decode cX3_findDifference 7 = .ok (.istore 4, 2) := by decide +kernel
theorem dX3_findDifference_9 : decode cX3_findDifference 9 = .ok (.iconst 0, 1) := by decide +kernel
theorem dX3_findDifference_10 : decode cX3_findDifference 10 = .ok (.istore 5, 2) := by decide +kernel
theorem dX3_findDifference_12 : decode cX3_findDifference 12 = .ok (.iload 5, 2) := by decide +kernel
theorem dX3_findDifference_14 : decode cX3_findDifference 14 = .ok (.bipush 64, 2) := by decide +kernel
theorem dX3_findDifference_16 : decode cX3_findDifference 16 = .ok (.if_icmp .ge 26, 3) := by decide +kernel
theorem dX3_findDifference_19 : decode cX3_findDifference 19 = .ok (.aload_n 0, 1) := by decide +kernel
theorem dX3_findDifference_20 : decode cX3_findDifference 20 = .ok (.iload_n 1, 1) := by decide +kernel
theorem dX3_findDifference_21 : decode cX3_findDifference 21 = .ok (.iload_n 2, 1) := by decide +kernel
theorem dX3_findDifference_22 : decode cX3_findDifference 22 = .ok (.iload_n 3, 1) := by decide +kernel
theorem dX3_findDifference_23 : decode cX3_findDifference 23 = .ok (.iload 4, 2) := by decide +kernel
theorem dX3_findDifference_25 : decode cX3_findDifference 25 = .ok (.iload 5, 2) := by decide +kernel
theorem dX3_findDifference_27 : decode cX3_findDifference 27 = .ok (.invokevirtual 115, 3) := by decide +kernel
theorem dX3_findDifference_30 : decode cX3_findDifference 30 = .ok (.ifCond .eq 6, 3) := by decide +kernel
theorem dX3_findDifference_33 : decode cX3_findDifference 33 = .ok (.iload 5, 2) := by decide +kernel
theorem dX3_findDifference_35 : decode cX3_findDifference 35 = .ok (.ireturn, 1) := by decide +kernel
theorem dX3_findDifference_36 : decode cX3_findDifference 36 = .ok (.iinc 5 1, 3) := by decide +kernel
theorem dX3_findDifference_39 : decode cX3_findDifference 39 = .ok (.goto (-27), 3) := by decide +kernel
theorem dX3_findDifference_42 : decode cX3_findDifference 42 = .ok (.iconst (-1), 1) := by decide +kernel
theorem dX3_findDifference_43 : decode cX3_findDifference 43 = .ok (.ireturn, 1) := by decide +kernel
set_option maxRecDepth 20000 in
theorem ggX3_differs_X3_columnOf : GoodIn wsX3_differs wsX3_columnOf := goodIn_r _ [5] (by decide +kernel) (by decide +kernel)
set_option maxRecDepth 20000 in
theorem gX3_differs_X3_columnOf : GoodIn wsX3_differs (va_wsS RX3 122 yX3_columnOf wsX3_columnOf) := goodIn_app (goodIn_of _ (by decide +kernel)) ggX3_differs_X3_columnOf
set_option maxRecDepth 20000 in
theorem ggX3_differs_X3_rowOf : GoodIn wsX3_differs wsX3_rowOf := goodIn_r _ [8] (by decide +kernel) (by decide +kernel)
set_option maxRecDepth 20000 in
theorem gX3_differs_X3_rowOf : GoodIn wsX3_differs (va_wsS RX3 125 yX3_rowOf wsX3_rowOf) := goodIn_app (goodIn_of _ (by decide +kernel)) ggX3_differs_X3_rowOf
set_option maxRecDepth 20000 in
theorem ggX3_differs_X3_pictureSlot : GoodIn wsX3_differs wsX3_pictureSlot := goodIn_r _ [11] (by decide +kernel) (by decide +kernel)
set_option maxRecDepth 20000 in
theorem gX3_differs_X3_pictureSlot : GoodIn wsX3_differs (va_wsS RX3 48 yX3_pictureSlot wsX3_pictureSlot) := goodIn_app (goodIn_of _ (by decide +kernel)) ggX3_differs_X3_pictureSlot
set_option maxRecDepth 20000 in
theorem ggX3_differs_X1_at : GoodIn wsX3_differs wsX1_at := goodIn_r _ [16, 17, 18, 19, 15, 20, 21, 4, 22, 23, 24, 25, 26, 27, 28, 85, 86] (by decide +kernel) (by decide +kernel)
set_option maxRecDepth 20000 in
theorem gX3_differs_X1_at : GoodIn wsX3_differs (wsV RX3 59 RX1 yX1_at wsX1_at) := goodIn_app (goodIn_of _ (by decide +kernel)) ggX3_differs_X1_at
set_option maxRecDepth 20000 in
theorem ggX3_differs_X3_isAlike : GoodIn wsX3_differs wsX3_isAlike := goodIn_r _ [31, 32, 33, 34, 35] (by decide +kernel) (by decide +kernel)
set_option maxRecDepth 20000 in
theorem gX3_differs_X3_isAlike : GoodIn wsX3_differs (va_wsS RX3 154 yX3_isAlike wsX3_isAlike) := goodIn_app (goodIn_of _ (by decide +kernel)) ggX3_differs_X3_isAlike
set_option maxRecDepth 20000 in
theorem ggX3_differs_X3_isMoved : GoodIn wsX3_differs wsX3_isMoved := goodIn_r _ [39, 40, 41, 42, 43, 44, 45, 46, 47, 48, 49, 50, 4, 51, 25, 21, 22, 52, 53, 54, 55, 56, 57, 81, 82, 83, 84, 87, 88, 89, 90] (by decide +kernel) (by decide +kernel)
set_option maxRecDepth 20000 in
theorem gX3_differs_X3_isMoved : GoodIn wsX3_differs (wsV RX3 157 RX3 yX3_isMoved wsX3_isMoved) := goodIn_app (goodIn_of _ (by decide +kernel)) ggX3_differs_X3_isMoved
set_option maxRecDepth 20000 in
theorem ggX3_differs_X3_isMasked : GoodIn wsX3_differs wsX3_isMasked := goodIn_r _ [61, 40, 62, 52, 53, 4, 54, 63, 64, 65, 44, 66, 46, 50, 51, 25, 21, 22, 55, 56, 57, 67, 68, 69, 70, 48, 41, 42, 43, 45, 47, 49, 81, 82, 83, 84, 87, 88, 89, 90] (by decide +kernel) (by decide +kernel)
set_option maxRecDepth 20000 in
theorem gX3_differs_X3_isMasked : GoodIn wsX3_differs (wsV RX3 160 RX3 yX3_isMasked wsX3_isMasked) := goodIn_app (goodIn_of _ (by decide +kernel)) ggX3_differs_X3_isMasked
set_option maxRecDepth 20000 in
theorem ggX3_differs_X3_isSoft : GoodIn wsX3_differs wsX3_isSoft := goodIn_r _ [74, 75, 76, 34, 77, 78, 79, 80, 1, 9, 10, 4, 11, 12, 13, 14, 15, 16, 17, 18, 19, 20, 21, 22, 23, 24, 25, 26, 27, 28, 29, 30, 31, 32, 33, 35, 81, 82, 83, 84, 85, 86] (by decide +kernel) (by decide +kernel)
set_option maxRecDepth 20000 in
theorem gX3_differs_X3_isSoft : GoodIn wsX3_differs (wsV RX3 128 RX3 yX3_isSoft wsX3_isSoft) := goodIn_app (goodIn_of _ (by decide +kernel)) ggX3_differs_X3_isSoft
theorem dX3_differs_0 : decode cX3_differs 0 = .ok (.iload 5, 2) := by decide +kernel
theorem dX3_differs_2 : decode cX3_differs 2 = .ok (.invokestatic 122, 3) := by decide +kernel
theorem dX3_differs_5 : decode cX3_differs 5 = .ok (.istore 6, 2) := by decide +kernel
theorem dX3_differs_7 : decode cX3_differs 7 = .ok (.iload 5, 2) := by decide +kernel
theorem dX3_differs_9 : decode cX3_differs 9 = .ok (.invokestatic 125, 3) := by decide +kernel
theorem dX3_differs_12 : decode cX3_differs 12 = .ok (.istore 7, 2) := by decide +kernel
theorem dX3_differs_14 : decode cX3_differs 14 = .ok (.aload_n 0, 1) := by decide +kernel
theorem dX3_differs_15 : decode cX3_differs 15 = .ok (.getfield 12, 3) := by decide +kernel
theorem dX3_differs_18 : decode cX3_differs 18 = .ok (.iload_n 2, 1) := by decide +kernel
theorem dX3_differs_19 : decode cX3_differs 19 = .ok (.invokestatic 48, 3) := by decide +kernel
theorem dX3_differs_22 : decode cX3_differs 22 = .ok (.iload 6, 2) := by decide +kernel
theorem dX3_differs_24 : decode cX3_differs 24 = .ok (.iload 7, 2) := by decide +kernel
theorem dX3_differs_26 : decode cX3_differs 26 = .ok (.invokevirtual 59, 3) := by decide +kernel
theorem dX3_differs_29 : decode cX3_differs 29 = .ok (.istore 8, 2) := by decide +kernel
theorem dX3_differs_31 : decode cX3_differs 31 = .ok (.aload_n 0, 1) := by decide +kernel
theorem dX3_differs_32 : decode cX3_differs 32 = .ok (.getfield 12, 3) := by decide +kernel
theorem dX3_differs_35 : decode cX3_differs 35 = .ok (.iload_n 1, 1) := by decide +kernel
theorem dX3_differs_36 : decode cX3_differs 36 = .ok (.iload 6, 2) := by decide +kernel
theorem dX3_differs_38 : decode cX3_differs 38 = .ok (.iload 7, 2) := by decide +kernel
theorem dX3_differs_40 : decode cX3_differs 40 = .ok (.invokevirtual 59, 3) := by decide +kernel
theorem dX3_differs_43 : decode cX3_differs 43 = .ok (.istore 9, 2) := by decide +kernel
theorem dX3_differs_45 : decode cX3_differs 45 = .ok (.iload 8, 2) := by decide +kernel
theorem dX3_differs_47 : decode cX3_differs 47 = .ok (.iload 9, 2) := by decide +kernel
theorem dX3_differs_49 : decode cX3_differs 49 = .ok (.iload_n 3, 1) := by decide +kernel
theorem dX3_differs_50 : decode cX3_differs 50 = .ok (.invokestatic 154, 3) := by decide +kernel
theorem dX3_differs_53 : decode cX3_differs 53 = .ok (.ifCond .ne 49, 3) := by decide +kernel
theorem dX3_differs_56 : decode cX3_differs 56 = .ok (.aload_n 0, 1) := by decide +kernel
theorem dX3_differs_57 : decode cX3_differs 57 = .ok (.iload_n 2, 1) := by decide +kernel
theorem dX3_differs_58 : decode cX3_differs 58 = .ok (.iload 4, 2) := by decide +kernel
theorem dX3_differs_60 : decode cX3_differs 60 = .ok (.iload 6, 2) := by decide +kernel
theorem dX3_differs_62 : decode cX3_differs 62 = .ok (.iload 7, 2) := by decide +kernel
theorem dX3_differs_64 : decode cX3_differs 64 = .ok (.invokevirtual 157, 3) := by decide +kernel
theorem dX3_differs_67 : decode cX3_differs 67 = .ok (.ifCond .ne 35, 3) := by decide +kernel
theorem dX3_differs_70 : decode cX3_differs 70 = .ok (.aload_n 0, 1) := by decide +kernel
theorem dX3_differs_71 : decode cX3_differs 71 = .ok (.iload_n 2, 1) := by decide +kernel
theorem dX3_differs_72 : decode cX3_differs 72 = .ok (.iload 4, 2) := by decide +kernel
theorem dX3_differs_74 : decode cX3_differs 74 = .ok (.iload 6, 2) := by decide +kernel
theorem dX3_differs_76 : decode cX3_differs 76 = .ok (.iload 7, 2) := by decide +kernel
theorem dX3_differs_78 : decode cX3_differs 78 = .ok (.invokevirtual 160, 3) := by decide +kernel
theorem dX3_differs_81 : decode cX3_differs 81 = .ok (.ifCond .ne 21, 3) := by decide +kernel
theorem dX3_differs_84 : decode cX3_differs 84 = .ok (.aload_n 0, 1) := by decide +kernel
theorem dX3_differs_85 : decode cX3_differs 85 = .ok (.iload_n 1, 1) := by decide +kernel
theorem dX3_differs_86 : decode cX3_differs 86 = .ok (.iload_n 2, 1) := by decide +kernel
theorem dX3_differs_87 : decode cX3_differs 87 = .ok (.iload_n 3, 1) := by decide +kernel
theorem dX3_differs_88 : decode cX3_differs 88 = .ok (.iload 6, 2) := by decide +kernel
theorem dX3_differs_90 : decode cX3_differs 90 = .ok (.iload 7, 2) := by decide +kernel
theorem dX3_differs_92 : decode cX3_differs 92 = .ok (.invokevirtual 128, 3) := by decide +kernel
theorem dX3_differs_95 : decode cX3_differs 95 = .ok (.ifCond .ne 7, 3) := by decide +kernel
theorem dX3_differs_98 : decode cX3_differs 98 = .ok (.iconst 1, 1) := by decide +kernel
theorem dX3_differs_99 : decode cX3_differs 99 = .ok (.goto 4, 3) := by decide +kernel
theorem dX3_differs_102 : decode cX3_differs 102 = .ok (.iconst 0, 1) := by decide +kernel
theorem dX3_differs_103 : decode cX3_differs 103 = .ok (.ireturn, 1) := by decide +kernel
theorem dX3_isAlike_0 : decode cX3_isAlike 0 = .ok (.iload_n 0, 1) := by decide +kernel
theorem dX3_isAlike_1 : decode cX3_isAlike 1 = .ok (.iload_n 1, 1) := by decide +kernel
theorem dX3_isAlike_2 : decode cX3_isAlike 2 = .ok (.isub, 1) := by decide +kernel
theorem dX3_isAlike_3 : decode cX3_isAlike 3 = .ok (.invokestatic 163, 3) := by decide +kernel
theorem dX3_isAlike_6 : decode cX3_isAlike 6 = .ok (.iload_n 2, 1) := by decide +kernel
theorem dX3_isAlike_7 : decode cX3_isAlike 7 = .ok (.if_icmp .gt 7, 3) := by decide +kernel
theorem dX3_isAlike_10 : decode cX3_isAlike 10 = .ok (.iconst 1, 1) := by decide +kernel
theorem dX3_isAlike_11 : decode cX3_isAlike 11 = .ok (.goto 4, 3) := by decide +kernel
theorem dX3_isAlike_14 : decode cX3_isAlike 14 = .ok (.iconst 0, 1) := by decide +kernel
theorem dX3_isAlike_15 : decode cX3_isAlike 15 = .ok (.ireturn, 1) := by decide +kernel
set_option maxRecDepth 20000 in
theorem ggX3_isSoft_X3_pictureSlot : GoodIn wsX3_isSoft wsX3_pictureSlot := goodIn_r _ [12] (by decide +kernel) (by decide +kernel)
set_option maxRecDepth 20000 in
theorem gX3_isSoft_X3_pictureSlot : GoodIn wsX3_isSoft (va_wsS RX3 48 yX3_pictureSlot wsX3_pictureSlot) := goodIn_app (goodIn_of _ (by decide +kernel)) ggX3_isSoft_X3_pictureSlot
set_option maxRecDepth 20000 in
theorem ggX3_isSoft_X1_at : GoodIn wsX3_isSoft wsX1_at := goodIn_r _ [17, 18, 19, 20, 16, 21, 22, 11, 23, 24, 25, 26, 27, 28, 29, 40, 41] (by decide +kernel) (by decide +kernel)
set_option maxRecDepth 20000 in
theorem gX3_isSoft_X1_at : GoodIn wsX3_isSoft (wsV RX3 59 RX1 yX1_at wsX1_at) := goodIn_app (goodIn_of _ (by decide +kernel)) ggX3_isSoft_X1_at
set_option maxRecDepth 20000 in
theorem ggX3_isSoft_X3_isAlike : GoodIn wsX3_isSoft wsX3_isAlike := goodIn_r _ [32, 33, 34, 3, 35] (by decide +kernel) (by decide +kernel)
set_option maxRecDepth 20000 in
theorem gX3_isSoft_X3_isAlike : GoodIn wsX3_isSoft (va_wsS RX3 154 yX3_isAlike wsX3_isAlike) := goodIn_app (goodIn_of _ (by decide +kernel)) ggX3_isSoft_X3_isAlike
set_option maxRecDepth 20000 in
theorem ggX3_isSoft_X3_isWithin : GoodIn wsX3_isSoft wsX3_isWithin := goodIn_r _ [23] (by decide +kernel) (by decide +kernel)
set_option maxRecDepth 20000 in
theorem gX3_isSoft_X3_isWithin : GoodIn wsX3_isSoft (va_wsS RX3 70 yX3_isWithin wsX3_isWithin) := goodIn_app (goodIn_of _ (by decide +kernel)) ggX3_isSoft_X3_isWithin
theorem dX3_isSoft_0 : decode cX3_isSoft 0 = .ok (.sipush 255, 3) := by decide +kernel
theorem dX3_isSoft_3 : decode cX3_isSoft 3 = .ok (.istore 6, 2) := by decide +kernel
theorem dX3_isSoft_5 : decode cX3_isSoft 5 = .ok (.iconst 0, 1) := by decide +kernel
theorem dX3_isSoft_6 : decode cX3_isSoft 6 = .ok (.istore 7, 2) := by decide +kernel
theorem dX3_isSoft_8 : decode cX3_isSoft 8 = .ok (.iload 5, 2) := by decide +kernel
theorem dX3_isSoft_10 : decode cX3_isSoft 10 = .ok (.iconst 1, 1) := by decide +kernel
theorem dX3_isSoft_11 : decode cX3_isSoft 11 = .ok (.iadd, 1) := by decide +kernel
theorem dX3_isSoft_12 : decode cX3_isSoft 12 = .ok (.bipush 7, 2) := by decide +kernel
theorem dX3_isSoft_14 : decode cX3_isSoft 14 = .ok (.invokestatic 168, 3) := by decide +kernel
theorem dX3_isSoft_17 : decode cX3_isSoft 17 = .ok (.istore 8, 2) := by decide +kernel
theorem dX3_isSoft_19 : decode cX3_isSoft 19 = .ok (.iload 4, 2) := by decide +kernel
theorem dX3_isSoft_21 : decode cX3_isSoft 21 = .ok (.iconst 1, 1) := by decide +kernel
theorem dX3_isSoft_22 : decode cX3_isSoft 22 = .ok (.iadd, 1) := by decide +kernel
theorem dX3_isSoft_23 : decode cX3_isSoft 23 = .ok (.bipush 7, 2) := by decide +kernel
theorem dX3_isSoft_25 : decode cX3_isSoft 25 = .ok (.invokestatic 168, 3) := by decide +kernel
theorem dX3_isSoft_28 : decode cX3_isSoft 28 = .ok (.istore 9, 2) := by decide +kernel
theorem dX3_isSoft_30 : decode cX3_isSoft 30 = .ok (.iload 5, 2) := by decide +kernel
theorem dX3_isSoft_32 : decode cX3_isSoft 32 = .ok (.iconst 1, 1) := by decide +kernel
theorem dX3_isSoft_33 : decode cX3_isSoft 33 = .ok (.isub, 1) := by decide +kernel
theorem dX3_isSoft_34 : decode cX3_isSoft 34 = .ok (.iconst 0, 1) := by decide +kernel
theorem dX3_isSoft_35 : decode cX3_isSoft 35 = .ok (.invokestatic 171, 3) := by decide +kernel
theorem dX3_isSoft_38 : decode cX3_isSoft 38 = .ok (.istore 10, 2) := by decide +kernel
theorem dX3_isSoft_40 : decode cX3_isSoft 40 = .ok (.iload 10, 2) := by decide +kernel
theorem dX3_isSoft_42 : decode cX3_isSoft 42 = .ok (.iload 8, 2) := by decide +kernel
theorem dX3_isSoft_44 : decode cX3_isSoft 44 = .ok (.if_icmp .gt 67, 3) := by decide +kernel
theorem dX3_isSoft_47 : decode cX3_isSoft 47 = .ok (.iload 4, 2) := by decide +kernel
theorem dX3_isSoft_49 : decode cX3_isSoft 49 = .ok (.iconst 1, 1) := by decide +kernel
theorem dX3_isSoft_50 : decode cX3_isSoft 50 = .ok (.isub, 1) := by decide +kernel
theorem dX3_isSoft_51 : decode cX3_isSoft 51 = .ok (.iconst 0, 1) := by decide +kernel
theorem dX3_isSoft_52 : decode cX3_isSoft 52 = .ok (.invokestatic 171, 3) := by decide +kernel
theorem dX3_isSoft_55 : decode cX3_isSoft 55 = .ok (.istore 11, 2) := by decide +kernel
theorem dX3_isSoft_57 : decode cX3_isSoft 57 = .ok (.iload 11, 2) := by decide +kernel
theorem dX3_isSoft_59 : decode cX3_isSoft 59 = .ok (.iload 9, 2) := by decide +kernel
theorem dX3_isSoft_61 : decode cX3_isSoft 61 = .ok (.if_icmp .gt 44, 3) := by decide +kernel
theorem dX3_isSoft_64 : decode cX3_isSoft 64 = .ok (.aload_n 0, 1) := by decide +kernel
theorem dX3_isSoft_65 : decode cX3_isSoft 65 = .ok (.getfield 12, 3) := by decide +kernel
theorem dX3_isSoft_68 : decode cX3_isSoft 68 = .ok (.iload_n 2, 1) := by decide +kernel
theorem dX3_isSoft_69 : decode cX3_isSoft 69 = .ok (.invokestatic 48, 3) := by decide +kernel
theorem dX3_isSoft_72 : decode cX3_isSoft 72 = .ok (.iload 11, 2) := by decide +kernel
theorem dX3_isSoft_74 : decode cX3_isSoft 74 = .ok (.iload 10, 2) := by decide +kernel
theorem dX3_isSoft_76 : decode cX3_isSoft 76 = .ok (.invokevirtual 59, 3) := by decide +kernel
theorem dX3_isSoft_79 : decode cX3_isSoft 79 = .ok (.istore 12, 2) := by decide +kernel
theorem dX3_isSoft_81 : decode cX3_isSoft 81 = .ok (.iload 6, 2) := by decide +kernel
theorem dX3_isSoft_83 : decode cX3_isSoft 83 = .ok (.iload 12, 2) := by decide +kernel
theorem dX3_isSoft_85 : decode cX3_isSoft 85 = .ok (.invokestatic 168, 3) := by decide +kernel
theorem dX3_isSoft_88 : decode cX3_isSoft 88 = .ok (.istore 6, 2) := by decide +kernel
theorem dX3_isSoft_90 : decode cX3_isSoft 90 = .ok (.iload 7, 2) := by decide +kernel
theorem dX3_isSoft_92 : decode cX3_isSoft 92 = .ok (.iload 12, 2) := by decide +kernel
theorem dX3_isSoft_94 : decode cX3_isSoft 94 = .ok (.invokestatic 171, 3) := by decide +kernel
theorem dX3_isSoft_97 : decode cX3_isSoft 97 = .ok (.istore 7, 2) := by decide +kernel
theorem dX3_isSoft_99 : decode cX3_isSoft 99 = .ok (.iinc 11 1, 3) := by decide +kernel
theorem dX3_isSoft_102 : decode cX3_isSoft 102 = .ok (.goto (-45), 3) := by decide +kernel
theorem dX3_isSoft_105 : decode cX3_isSoft 105 = .ok (.iinc 10 1, 3) := by decide +kernel
theorem dX3_isSoft_108 : decode cX3_isSoft 108 = .ok (.goto (-68), 3) := by decide +kernel
theorem dX3_isSoft_111 : decode cX3_isSoft 111 = .ok (.iload 6, 2) := by decide +kernel
theorem dX3_isSoft_113 : decode cX3_isSoft 113 = .ok (.iload 7, 2) := by decide +kernel
theorem dX3_isSoft_115 : decode cX3_isSoft 115 = .ok (.iload_n 3, 1) := by decide +kernel
theorem dX3_isSoft_116 : decode cX3_isSoft 116 = .ok (.invokestatic 154, 3) := by decide +kernel
theorem dX3_isSoft_119 : decode cX3_isSoft 119 = .ok (.ifCond .ne 29, 3) := by decide +kernel
theorem dX3_isSoft_122 : decode cX3_isSoft 122 = .ok (.aload_n 0, 1) := by decide +kernel
theorem dX3_isSoft_123 : decode cX3_isSoft 123 = .ok (.getfield 12, 3) := by decide +kernel
theorem dX3_isSoft_126 : decode cX3_isSoft 126 = .ok (.iload_n 1, 1) := by decide +kernel
theorem dX3_isSoft_127 : decode cX3_isSoft 127 = .ok (.iload 4, 2) := by decide +kernel
theorem dX3_isSoft_129 : decode cX3_isSoft 129 = .ok (.iload 5, 2) := by decide +kernel
theorem dX3_isSoft_131 : decode cX3_isSoft 131 = .ok (.invokevirtual 59, 3) := by decide +kernel
theorem dX3_isSoft_134 : decode cX3_isSoft 134 = .ok (.iload 6, 2) := by decide +kernel
theorem dX3_isSoft_136 : decode cX3_isSoft 136 = .ok (.iload 7, 2) := by decide +kernel
theorem dX3_isSoft_138 : decode cX3_isSoft 138 = .ok (.invokestatic 70, 3) := by decide +kernel
theorem dX3_isSoft_141 : decode cX3_isSoft 141 = .ok (.ifCond .eq 7, 3) := by decide +kernel
theorem dX3_isSoft_144 : decode cX3_isSoft 144 = .ok (.iconst 1, 1) := by decide +kernel
theorem dX3_isSoft_145 : decode cX3_isSoft 145 = .ok (.goto 4, 3) := by decide +kernel
theorem dX3_isSoft_148 : decode cX3_isSoft 148 = .ok (.iconst 0, 1) := by decide +kernel
theorem dX3_isSoft_149 : decode cX3_isSoft 149 = .ok (.ireturn, 1) := by decide +kernel
set_option maxRecDepth 20000 in
theorem ggX3_isMoved_X2_holds : GoodIn wsX3_isMoved wsX2_holds := goodIn_r _ [6, 7, 8, 9, 10, 11, 12, 13, 14, 15, 16, 27, 28, 29, 30] (by decide +kernel) (by decide +kernel)
set_option maxRecDepth 20000 in
theorem gX3_isMoved_X2_holds : GoodIn wsX3_isMoved (wsV RX3 174 RX2 yX2_holds wsX2_holds) := goodIn_app (goodIn_of _ (by decide +kernel)) ggX3_isMoved_X2_holds
set_option maxRecDepth 20000 in
theorem ggX3_isMoved_X3_columnsOf : GoodIn wsX3_isMoved wsX3_columnsOf := goodIn_r _ [19] (by decide +kernel) (by decide +kernel)
set_option maxRecDepth 20000 in
theorem gX3_isMoved_X3_columnsOf : GoodIn wsX3_isMoved (va_wsS RX3 177 yX3_columnsOf wsX3_columnsOf) := goodIn_app (goodIn_of _ (by decide +kernel)) ggX3_isMoved_X3_columnsOf
set_option maxRecDepth 20000 in
theorem ggX3_isMoved_X3_rowsOf : GoodIn wsX3_isMoved wsX3_rowsOf := goodIn_r _ [22] (by decide +kernel) (by decide +kernel)
set_option maxRecDepth 20000 in
theorem gX3_isMoved_X3_rowsOf : GoodIn wsX3_isMoved (va_wsS RX3 180 yX3_rowsOf wsX3_rowsOf) := goodIn_app (goodIn_of _ (by decide +kernel)) ggX3_isMoved_X3_rowsOf
theorem dX3_isMoved_0 : decode cX3_isMoved 0 = .ok (.iload_n 2, 1) := by decide +kernel
theorem dX3_isMoved_1 : decode cX3_isMoved 1 = .ok (.sipush 5050, 3) := by decide +kernel
theorem dX3_isMoved_4 : decode cX3_isMoved 4 = .ok (.if_icmp .ne 5, 3) := by decide +kernel
theorem dX3_isMoved_7 : decode cX3_isMoved 7 = .ok (.iconst 0, 1) := by decide +kernel
theorem dX3_isMoved_8 : decode cX3_isMoved 8 = .ok (.ireturn, 1) := by decide +kernel
theorem dX3_isMoved_9 : decode cX3_isMoved 9 = .ok (.aload_n 0, 1) := by decide +kernel
theorem dX3_isMoved_10 : decode cX3_isMoved 10 = .ok (.getfield 19, 3) := by decide +kernel
theorem dX3_isMoved_13 : decode cX3_isMoved 13 = .ok (.iload_n 1, 1) := by decide +kernel
theorem dX3_isMoved_14 : decode cX3_isMoved 14 = .ok (.iload_n 3, 1) := by decide +kernel
theorem dX3_isMoved_15 : decode cX3_isMoved 15 = .ok (.iload 4, 2) := by decide +kernel
theorem dX3_isMoved_17 : decode cX3_isMoved 17 = .ok (.invokevirtual 174, 3) := by decide +kernel
theorem dX3_isMoved_20 : decode cX3_isMoved 20 = .ok (.ifCond .ne 27, 3) := by decide +kernel
theorem dX3_isMoved_23 : decode cX3_isMoved 23 = .ok (.aload_n 0, 1) := by decide +kernel
theorem dX3_isMoved_24 : decode cX3_isMoved 24 = .ok (.getfield 19, 3) := by decide +kernel
theorem dX3_isMoved_27 : decode cX3_isMoved 27 = .ok (.iload_n 1, 1) := by decide +kernel
theorem dX3_isMoved_28 : decode cX3_isMoved 28 = .ok (.iload_n 3, 1) := by decide +kernel
theorem dX3_isMoved_29 : decode cX3_isMoved 29 = .ok (.iload_n 2, 1) := by decide +kernel
theorem dX3_isMoved_30 : decode cX3_isMoved 30 = .ok (.invokestatic 177, 3) := by decide +kernel
theorem dX3_isMoved_33 : decode cX3_isMoved 33 = .ok (.isub, 1) := by decide +kernel
theorem dX3_isMoved_34 : decode cX3_isMoved 34 = .ok (.iload 4, 2) := by decide +kernel
theorem dX3_isMoved_36 : decode cX3_isMoved 36 = .ok (.iload_n 2, 1) := by decide +kernel
theorem dX3_isMoved_37 : decode cX3_isMoved 37 = .ok (.invokestatic 180, 3) := by decide +kernel
theorem dX3_isMoved_40 : decode cX3_isMoved 40 = .ok (.isub, 1) := by decide +kernel
theorem dX3_isMoved_41 : decode cX3_isMoved 41 = .ok (.invokevirtual 174, 3) := by decide +kernel
theorem dX3_isMoved_44 : decode cX3_isMoved 44 = .ok (.ifCond .eq 7, 3) := by decide +kernel
theorem dX3_isMoved_47 : decode cX3_isMoved 47 = .ok (.iconst 1, 1) := by decide +kernel
theorem dX3_isMoved_48 : decode cX3_isMoved 48 = .ok (.goto 4, 3) := by decide +kernel
theorem dX3_isMoved_51 : decode cX3_isMoved 51 = .ok (.iconst 0, 1) := by decide +kernel
theorem dX3_isMoved_52 : decode cX3_isMoved 52 = .ok (.ireturn, 1) := by decide +kernel
set_option maxRecDepth 20000 in
theorem ggX3_isMasked_X3_columnsOf : GoodIn wsX3_isMasked wsX3_columnsOf := goodIn_r _ [6] (by decide +kernel) (by decide +kernel)
set_option maxRecDepth 20000 in
theorem gX3_isMasked_X3_columnsOf : GoodIn wsX3_isMasked (va_wsS RX3 177 yX3_columnsOf wsX3_columnsOf) := goodIn_app (goodIn_of _ (by decide +kernel)) ggX3_isMasked_X3_columnsOf
set_option maxRecDepth 20000 in
theorem ggX3_isMasked_X2_left : GoodIn wsX3_isMasked wsX2_left := goodIn_r _ [11, 12, 13, 5, 14, 15, 16, 17, 36, 37, 38, 39] (by decide +kernel) (by decide +kernel)
set_option maxRecDepth 20000 in
theorem gX3_isMasked_X2_left : GoodIn wsX3_isMasked (wsV RX3 183 RX2 yX2_left wsX2_left) := goodIn_app (goodIn_of _ (by decide +kernel)) ggX3_isMasked_X2_left
set_option maxRecDepth 20000 in
theorem ggX3_isMasked_X3_rowsOf : GoodIn wsX3_isMasked wsX3_rowsOf := goodIn_r _ [20] (by decide +kernel) (by decide +kernel)
set_option maxRecDepth 20000 in
theorem gX3_isMasked_X3_rowsOf : GoodIn wsX3_isMasked (va_wsS RX3 180 yX3_rowsOf wsX3_rowsOf) := goodIn_app (goodIn_of _ (by decide +kernel)) ggX3_isMasked_X3_rowsOf
set_option maxRecDepth 20000 in
theorem ggX3_isMasked_X2_top : GoodIn wsX3_isMasked wsX2_top := goodIn_r _ [24, 25, 13, 5, 14, 15, 16, 17, 36, 37, 38, 39] (by decide +kernel) (by decide +kernel)
set_option maxRecDepth 20000 in
theorem gX3_isMasked_X2_top : GoodIn wsX3_isMasked (wsV RX3 186 RX2 yX2_top wsX2_top) := goodIn_app (goodIn_of _ (by decide +kernel)) ggX3_isMasked_X2_top
set_option maxRecDepth 20000 in
theorem ggX3_isMasked_X2_holds : GoodIn wsX3_isMasked wsX2_holds := goodIn_r _ [29, 12, 30, 25, 31, 13, 5, 14, 15, 16, 17, 36, 37, 38, 39] (by decide +kernel) (by decide +kernel)
set_option maxRecDepth 20000 in
theorem gX3_isMasked_X2_holds : GoodIn wsX3_isMasked (wsV RX3 174 RX2 yX2_holds wsX2_holds) := goodIn_app (goodIn_of _ (by decide +kernel)) ggX3_isMasked_X2_holds
theorem dX3_isMasked_0 : decode cX3_isMasked 0 = .ok (.iload_n 3, 1) := by decide +kernel
theorem dX3_isMasked_1 : decode cX3_isMasked 1 = .ok (.iload_n 2, 1) := by decide +kernel
theorem dX3_isMasked_2 : decode cX3_isMasked 2 = .ok (.invokestatic 177, 3) := by decide +kernel
theorem dX3_isMasked_5 : decode cX3_isMasked 5 = .ok (.isub, 1) := by decide +kernel
theorem dX3_isMasked_6 : decode cX3_isMasked 6 = .ok (.aload_n 0, 1) := by decide +kernel
theorem dX3_isMasked_7 : decode cX3_isMasked 7 = .ok (.getfield 19, 3) := by decide +kernel
theorem dX3_isMasked_10 : decode cX3_isMasked 10 = .ok (.iload_n 1, 1) := by decide +kernel
theorem dX3_isMasked_11 : decode cX3_isMasked 11 = .ok (.invokevirtual 183, 3) := by decide +kernel
theorem dX3_isMasked_14 : decode cX3_isMasked 14 = .ok (.isub, 1) := by decide +kernel
theorem dX3_isMasked_15 : decode cX3_isMasked 15 = .ok (.istore 5, 2) := by decide +kernel
theorem dX3_isMasked_17 : decode cX3_isMasked 17 = .ok (.iload 4, 2) := by decide +kernel
theorem dX3_isMasked_19 : decode cX3_isMasked 19 = .ok (.iload_n 2, 1) := by decide +kernel
theorem dX3_isMasked_20 : decode cX3_isMasked 20 = .ok (.invokestatic 180, 3) := by decide +kernel
theorem dX3_isMasked_23 : decode cX3_isMasked 23 = .ok (.isub, 1) := by decide +kernel
theorem dX3_isMasked_24 : decode cX3_isMasked 24 = .ok (.aload_n 0, 1) := by decide +kernel
theorem dX3_isMasked_25 : decode cX3_isMasked 25 = .ok (.getfield 19, 3) := by decide +kernel
theorem dX3_isMasked_28 : decode cX3_isMasked 28 = .ok (.iload_n 1, 1) := by decide +kernel
theorem dX3_isMasked_29 : decode cX3_isMasked 29 = .ok (.invokevirtual 186, 3) := by decide +kernel
theorem dX3_isMasked_32 : decode cX3_isMasked 32 = .ok (.isub, 1) := by decide +kernel
theorem dX3_isMasked_33 : decode cX3_isMasked 33 = .ok (.istore 6, 2) := by decide +kernel
theorem dX3_isMasked_35 : decode cX3_isMasked 35 = .ok (.aload_n 0, 1) := by decide +kernel
theorem dX3_isMasked_36 : decode cX3_isMasked 36 = .ok (.getfield 23, 3) := by decide +kernel
theorem dX3_isMasked_39 : decode cX3_isMasked 39 = .ok (.iload_n 1, 1) := by decide +kernel
theorem dX3_isMasked_40 : decode cX3_isMasked 40 = .ok (.iload 5, 2) := by decide +kernel
theorem dX3_isMasked_42 : decode cX3_isMasked 42 = .ok (.iload 6, 2) := by decide +kernel
theorem dX3_isMasked_44 : decode cX3_isMasked 44 = .ok (.invokevirtual 174, 3) := by decide +kernel
theorem dX3_isMasked_47 : decode cX3_isMasked 47 = .ok (.ireturn, 1) := by decide +kernel
theorem dX3_moveBy_0 : decode cX3_moveBy 0 = .ok (.sipush 5050, 3) := by decide +kernel
theorem dX3_moveBy_3 : decode cX3_moveBy 3 = .ok (.bipush 100, 2) := by decide +kernel
theorem dX3_moveBy_5 : decode cX3_moveBy 5 = .ok (.iload_n 1, 1) := by decide +kernel
theorem dX3_moveBy_6 : decode cX3_moveBy 6 = .ok (.imul, 1) := by decide +kernel
theorem dX3_moveBy_7 : decode cX3_moveBy 7 = .ok (.iadd, 1) := by decide +kernel
theorem dX3_moveBy_8 : decode cX3_moveBy 8 = .ok (.iload_n 0, 1) := by decide +kernel
theorem dX3_moveBy_9 : decode cX3_moveBy 9 = .ok (.iadd, 1) := by decide +kernel
theorem dX3_moveBy_10 : decode cX3_moveBy 10 = .ok (.ireturn, 1) := by decide +kernel
theorem dX3_columnsOf_0 : decode cX3_columnsOf 0 = .ok (.iload_n 0, 1) := by decide +kernel
theorem dX3_columnsOf_1 : decode cX3_columnsOf 1 = .ok (.bipush 100, 2) := by decide +kernel
theorem dX3_columnsOf_3 : decode cX3_columnsOf 3 = .ok (.irem, 1) := by decide +kernel
theorem dX3_columnsOf_4 : decode cX3_columnsOf 4 = .ok (.bipush 50, 2) := by decide +kernel
theorem dX3_columnsOf_6 : decode cX3_columnsOf 6 = .ok (.isub, 1) := by decide +kernel
theorem dX3_columnsOf_7 : decode cX3_columnsOf 7 = .ok (.ireturn, 1) := by decide +kernel
theorem dX3_rowsOf_0 : decode cX3_rowsOf 0 = .ok (.iload_n 0, 1) := by decide +kernel
theorem dX3_rowsOf_1 : decode cX3_rowsOf 1 = .ok (.bipush 100, 2) := by decide +kernel
theorem dX3_rowsOf_3 : decode cX3_rowsOf 3 = .ok (.idiv, 1) := by decide +kernel
theorem dX3_rowsOf_4 : decode cX3_rowsOf 4 = .ok (.bipush 50, 2) := by decide +kernel
theorem dX3_rowsOf_6 : decode cX3_rowsOf 6 = .ok (.isub, 1) := by decide +kernel
theorem dX3_rowsOf_7 : decode cX3_rowsOf 7 = .ok (.ireturn, 1) := by decide +kernel
set_option maxRecDepth 20000 in
theorem ggX3_findMove_X2_has : GoodIn wsX3_findMove wsX2_has := goodIn_r _ [10, 11, 12, 13, 14, 15, 16, 17, 18, 70, 71, 72, 73] (by decide +kernel) (by decide +kernel)
set_option maxRecDepth 20000 in
theorem gX3_findMove_X2_has : GoodIn wsX3_findMove (wsV RX3 74 RX2 yX2_has wsX2_has) := goodIn_app (goodIn_of _ (by decide +kernel)) ggX3_findMove_X2_has
set_option maxRecDepth 20000 in
theorem ggX3_findMove_X3_fits : GoodIn wsX3_findMove wsX3_fits := goodIn_r _ [22, 1, 23, 24, 25, 26, 9, 27, 28, 13, 14, 15, 16, 17, 18, 29, 30, 31, 32, 12, 33, 34, 35, 36, 37, 38, 39, 40, 41, 11, 42, 43, 44, 45, 46, 47, 48, 49, 50, 51, 52, 53, 54, 55, 56, 57, 58, 59, 60, 61, 62, 2, 3, 4, 5, 66, 67, 68, 69, 70, 71, 72, 73, 74, 75] (by decide +kernel) (by decide +kernel)
set_option maxRecDepth 20000 in
theorem gX3_findMove_X3_fits : GoodIn wsX3_findMove (wsV RX3 189 RX3 yX3_fits wsX3_fits) := goodIn_app (goodIn_of _ (by decide +kernel)) ggX3_findMove_X3_fits
set_option maxRecDepth 20000 in
theorem ggX3_findMove_X3_moveBy : GoodIn wsX3_findMove wsX3_moveBy := goodIn_r _ [65] (by decide +kernel) (by decide +kernel)
set_option maxRecDepth 20000 in
theorem gX3_findMove_X3_moveBy : GoodIn wsX3_findMove (va_wsS RX3 192 yX3_moveBy wsX3_moveBy) := goodIn_app (goodIn_of _ (by decide +kernel)) ggX3_findMove_X3_moveBy
theorem dX3_findMove_0 : decode cX3_findMove 0 = .ok (.aload_n 0, 1) := by decide +kernel
theorem dX3_findMove_1 : decode cX3_findMove 1 = .ok (.getfield 19, 3) := by decide +kernel
theorem dX3_findMove_4 : decode cX3_findMove 4 = .ok (.iload_n 2, 1) := by decide +kernel
theorem dX3_findMove_5 : decode cX3_findMove 5 = .ok (.invokevirtual 74, 3) := by decide +kernel
theorem dX3_findMove_8 : decode cX3_findMove 8 = .ok (.ifCond .eq 15, 3) := by decide +kernel
theorem dX3_findMove_11 : decode cX3_findMove 11 = .ok (.aload_n 0, 1) := by decide +kernel
theorem dX3_findMove_12 : decode cX3_findMove 12 = .ok (.iload_n 1, 1) := by decide +kernel
theorem dX3_findMove_13 : decode cX3_findMove 13 = .ok (.iload_n 2, 1) := by decide +kernel
theorem dX3_findMove_14 : decode cX3_findMove 14 = .ok (.iload_n 3, 1) := by decide +kernel
theorem dX3_findMove_15 : decode cX3_findMove 15 = .ok (.iconst 0, 1) := by decide +kernel
theorem dX3_findMove_16 : decode cX3_findMove 16 = .ok (.iconst 0, 1) := by decide +kernel
theorem dX3_findMove_17 : decode cX3_findMove 17 = .ok (.invokevirtual 189, 3) := by decide +kernel
theorem dX3_findMove_20 : decode cX3_findMove 20 = .ok (.ifCond .eq 7, 3) := by decide +kernel
theorem dX3_findMove_23 : decode cX3_findMove 23 = .ok (.sipush 5050, 3) := by decide +kernel
theorem dX3_findMove_26 : decode cX3_findMove 26 = .ok (.ireturn, 1) := by decide +kernel
theorem dX3_findMove_27 : decode cX3_findMove 27 = .ok (.sipush 5050, 3) := by decide +kernel
theorem dX3_findMove_30 : decode cX3_findMove 30 = .ok (.istore 4, 2) := by decide +kernel
theorem dX3_findMove_32 : decode cX3_findMove 32 = .ok (.iconst 5, 1) := by decide +kernel
theorem dX3_findMove_33 : decode cX3_findMove 33 = .ok (.istore 5, 2) := by decide +kernel
theorem dX3_findMove_35 : decode cX3_findMove 35 = .ok (.bipush (-2), 2) := by decide +kernel
theorem dX3_findMove_37 : decode cX3_findMove 37 = .ok (.istore 6, 2) := by decide +kernel
theorem dX3_findMove_39 : decode cX3_findMove 39 = .ok (.iload 6, 2) := by decide +kernel
theorem dX3_findMove_41 : decode cX3_findMove 41 = .ok (.iconst 2, 1) := by decide +kernel
theorem dX3_findMove_42 : decode cX3_findMove 42 = .ok (.if_icmp .gt 72, 3) := by decide +kernel
theorem dX3_findMove_45 : decode cX3_findMove 45 = .ok (.bipush (-2), 2) := by decide +kernel
theorem dX3_findMove_47 : decode cX3_findMove 47 = .ok (.istore 7, 2) := by decide +kernel
theorem dX3_findMove_49 : decode cX3_findMove 49 = .ok (.iload 7, 2) := by decide +kernel
theorem dX3_findMove_51 : decode cX3_findMove 51 = .ok (.iconst 2, 1) := by decide +kernel
theorem dX3_findMove_52 : decode cX3_findMove 52 = .ok (.if_icmp .gt 56, 3) := by decide +kernel
theorem dX3_findMove_55 : decode cX3_findMove 55 = .ok (.iload 6, 2) := by decide +kernel
theorem dX3_findMove_57 : decode cX3_findMove 57 = .ok (.invokestatic 163, 3) := by decide +kernel
theorem dX3_findMove_60 : decode cX3_findMove 60 = .ok (.iload 7, 2) := by decide +kernel
theorem dX3_findMove_62 : decode cX3_findMove 62 = .ok (.invokestatic 163, 3) := by decide +kernel
theorem dX3_findMove_65 : decode cX3_findMove 65 = .ok (.iadd, 1) := by decide +kernel
theorem dX3_findMove_66 : decode cX3_findMove 66 = .ok (.istore 8, 2) := by decide +kernel
theorem dX3_findMove_68 : decode cX3_findMove 68 = .ok (.iload 8, 2) := by decide +kernel
theorem dX3_findMove_70 : decode cX3_findMove 70 = .ok (.iload 5, 2) := by decide +kernel
theorem dX3_findMove_72 : decode cX3_findMove 72 = .ok (.if_icmp .ge 30, 3) := by decide +kernel
theorem dX3_findMove_75 : decode cX3_findMove 75 = .ok (.aload_n 0, 1) := by decide +kernel
theorem dX3_findMove_76 : decode cX3_findMove 76 = .ok (.iload_n 1, 1) := by decide +kernel
theorem dX3_findMove_77 : decode cX3_findMove 77 = .ok (.iload_n 2, 1) := by decide +kernel
theorem dX3_findMove_78 : decode cX3_findMove 78 = .ok (.iload_n 3, 1) := by decide +kernel
theorem dX3_findMove_79 : decode cX3_findMove 79 = .ok (.iload 7, 2) := by decide +kernel
theorem dX3_findMove_81 : decode cX3_findMove 81 = .ok (.iload 6, 2) := by decide +kernel
theorem dX3_findMove_83 : decode cX3_findMove 83 = .ok (.invokevirtual 189, 3) := by decide +kernel
theorem dX3_findMove_86 : decode cX3_findMove 86 = .ok (.ifCond .eq 16, 3) := by decide +kernel
theorem dX3_findMove_89 : decode cX3_findMove 89 = .ok (.iload 8, 2) := by decide +kernel
theorem dX3_findMove_91 : decode cX3_findMove 91 = .ok (.istore 5, 2) := by decide +kernel
theorem dX3_findMove_93 : decode cX3_findMove 93 = .ok (.iload 7, 2) := by decide +kernel
theorem dX3_findMove_95 : decode cX3_findMove 95 = .ok (.iload 6, 2) := by decide +kernel
theorem dX3_findMove_97 : decode cX3_findMove 97 = .ok (.invokestatic 192, 3) := by decide +kernel
theorem dX3_findMove_100 : decode cX3_findMove 100 = .ok (.istore 4, 2) := by decide +kernel
theorem dX3_findMove_102 : decode cX3_findMove 102 = .ok (.iinc 7 1, 3) := by decide +kernel
theorem dX3_findMove_105 : decode cX3_findMove 105 = .ok (.goto (-56), 3) := by decide +kernel
theorem dX3_findMove_108 : decode cX3_findMove 108 = .ok (.iinc 6 1, 3) := by decide +kernel
theorem dX3_findMove_111 : decode cX3_findMove 111 = .ok (.goto (-72), 3) := by decide +kernel
theorem dX3_findMove_114 : decode cX3_findMove 114 = .ok (.iload 4, 2) := by decide +kernel
theorem dX3_findMove_116 : decode cX3_findMove 116 = .ok (.ireturn, 1) := by decide +kernel
set_option maxRecDepth 20000 in
theorem ggX3_fits_X2_bottom : GoodIn wsX3_fits wsX2_bottom := goodIn_r _ [7, 8, 9, 10, 11, 12, 13, 14, 59, 60, 61, 62] (by decide +kernel) (by decide +kernel)
set_option maxRecDepth 20000 in
theorem gX3_fits_X2_bottom : GoodIn wsX3_fits (wsV RX3 195 RX2 yX2_bottom wsX2_bottom) := goodIn_app (goodIn_of _ (by decide +kernel)) ggX3_fits_X2_bottom
set_option maxRecDepth 20000 in
theorem ggX3_fits_X2_right : GoodIn wsX3_fits wsX2_right := goodIn_r _ [18, 19, 9, 10, 11, 12, 13, 14, 59, 60, 61, 62] (by decide +kernel) (by decide +kernel)
set_option maxRecDepth 20000 in
theorem gX3_fits_X2_right : GoodIn wsX3_fits (wsV RX3 198 RX2 yX2_right wsX2_right) := goodIn_app (goodIn_of _ (by decide +kernel)) ggX3_fits_X2_right
set_option maxRecDepth 20000 in
theorem ggX3_fits_X2_top : GoodIn wsX3_fits wsX2_top := goodIn_r _ [23, 24, 9, 10, 11, 12, 13, 14, 59, 60, 61, 62] (by decide +kernel) (by decide +kernel)
set_option maxRecDepth 20000 in
theorem gX3_fits_X2_top : GoodIn wsX3_fits (wsV RX3 186 RX2 yX2_top wsX2_top) := goodIn_app (goodIn_of _ (by decide +kernel)) ggX3_fits_X2_top
set_option maxRecDepth 20000 in
theorem ggX3_fits_X2_left : GoodIn wsX3_fits wsX2_left := goodIn_r _ [28, 29, 9, 10, 11, 12, 13, 14, 59, 60, 61, 62] (by decide +kernel) (by decide +kernel)
set_option maxRecDepth 20000 in
theorem gX3_fits_X2_left : GoodIn wsX3_fits (wsV RX3 183 RX2 yX2_left wsX2_left) := goodIn_app (goodIn_of _ (by decide +kernel)) ggX3_fits_X2_left
set_option maxRecDepth 20000 in
theorem ggX3_fits_X3_isCell : GoodIn wsX3_fits wsX3_isCell := goodIn_r _ [32, 12, 13, 10, 14] (by decide +kernel) (by decide +kernel)
set_option maxRecDepth 20000 in
theorem gX3_fits_X3_isCell : GoodIn wsX3_fits (va_wsS RX3 55 yX3_isCell wsX3_isCell) := goodIn_app (goodIn_of _ (by decide +kernel)) ggX3_fits_X3_isCell
set_option maxRecDepth 20000 in
theorem ggX3_fits_X3_pictureSlot : GoodIn wsX3_fits wsX3_pictureSlot := goodIn_r _ [35] (by decide +kernel) (by decide +kernel)
set_option maxRecDepth 20000 in
theorem gX3_fits_X3_pictureSlot : GoodIn wsX3_fits (va_wsS RX3 48 yX3_pictureSlot wsX3_pictureSlot) := goodIn_app (goodIn_of _ (by decide +kernel)) ggX3_fits_X3_pictureSlot
set_option maxRecDepth 20000 in
theorem ggX3_fits_X1_at : GoodIn wsX3_fits wsX1_at := goodIn_r _ [40, 41, 42, 43, 39, 44, 13, 10, 14, 31, 32, 12, 45, 46, 47, 63, 64] (by decide +kernel) (by decide +kernel)
set_option maxRecDepth 20000 in
theorem gX3_fits_X1_at : GoodIn wsX3_fits (wsV RX3 59 RX1 yX1_at wsX1_at) := goodIn_app (goodIn_of _ (by decide +kernel)) ggX3_fits_X1_at
set_option maxRecDepth 20000 in
theorem ggX3_fits_X3_isAlike : GoodIn wsX3_fits wsX3_isAlike := goodIn_r _ [50, 51, 52, 53, 54] (by decide +kernel) (by decide +kernel)
set_option maxRecDepth 20000 in
theorem gX3_fits_X3_isAlike : GoodIn wsX3_fits (va_wsS RX3 154 yX3_isAlike wsX3_isAlike) := goodIn_app (goodIn_of _ (by decide +kernel)) ggX3_fits_X3_isAlike
theorem dX3_fits_0 : decode cX3_fits 0 = .ok (.aload_n 0, 1) := by decide +kernel
theorem dX3_fits_1 : decode cX3_fits 1 = .ok (.getfield 19, 3) := by decide +kernel
theorem dX3_fits_4 : decode cX3_fits 4 = .ok (.iload_n 2, 1) := by decide +kernel
theorem dX3_fits_5 : decode cX3_fits 5 = .ok (.invokevirtual 195, 3) := by decide +kernel
theorem dX3_fits_8 : decode cX3_fits 8 = .ok (.istore 6, 2) := by decide +kernel
theorem dX3_fits_10 : decode cX3_fits 10 = .ok (.aload_n 0, 1) := by decide +kernel
theorem dX3_fits_11 : decode cX3_fits 11 = .ok (.getfield 19, 3) := by decide +kernel
theorem dX3_fits_14 : decode cX3_fits 14 = .ok (.iload_n 2, 1) := by decide +kernel
theorem dX3_fits_15 : decode cX3_fits 15 = .ok (.invokevirtual 198, 3) := by decide +kernel
theorem dX3_fits_18 : decode cX3_fits 18 = .ok (.istore 7, 2) := by decide +kernel
theorem dX3_fits_20 : decode cX3_fits 20 = .ok (.aload_n 0, 1) := by decide +kernel
theorem dX3_fits_21 : decode cX3_fits 21 = .ok (.getfield 19, 3) := by decide +kernel
theorem dX3_fits_24 : decode cX3_fits 24 = .ok (.iload_n 2, 1) := by decide +kernel
theorem dX3_fits_25 : decode cX3_fits 25 = .ok (.invokevirtual 186, 3) := by decide +kernel
theorem dX3_fits_28 : decode cX3_fits 28 = .ok (.istore 8, 2) := by decide +kernel
theorem dX3_fits_30 : decode cX3_fits 30 = .ok (.iload 8, 2) := by decide +kernel
theorem dX3_fits_32 : decode cX3_fits 32 = .ok (.iload 6, 2) := by decide +kernel
theorem dX3_fits_34 : decode cX3_fits 34 = .ok (.if_icmp .ge 96, 3) := by decide +kernel
theorem dX3_fits_37 : decode cX3_fits 37 = .ok (.aload_n 0, 1) := by decide +kernel
theorem dX3_fits_38 : decode cX3_fits 38 = .ok (.getfield 19, 3) := by decide +kernel
theorem dX3_fits_41 : decode cX3_fits 41 = .ok (.iload_n 2, 1) := by decide +kernel
theorem dX3_fits_42 : decode cX3_fits 42 = .ok (.invokevirtual 183, 3) := by decide +kernel
theorem dX3_fits_45 : decode cX3_fits 45 = .ok (.istore 9, 2) := by decide +kernel
theorem dX3_fits_47 : decode cX3_fits 47 = .ok (.iload 9, 2) := by decide +kernel
theorem dX3_fits_49 : decode cX3_fits 49 = .ok (.iload 7, 2) := by decide +kernel
theorem dX3_fits_51 : decode cX3_fits 51 = .ok (.if_icmp .ge 73, 3) := by decide +kernel
theorem dX3_fits_54 : decode cX3_fits 54 = .ok (.iload 9, 2) := by decide +kernel
theorem dX3_fits_56 : decode cX3_fits 56 = .ok (.iload 4, 2) := by decide +kernel
theorem dX3_fits_58 : decode cX3_fits 58 = .ok (.iadd, 1) := by decide +kernel
theorem dX3_fits_59 : decode cX3_fits 59 = .ok (.iload 8, 2) := by decide +kernel
theorem dX3_fits_61 : decode cX3_fits 61 = .ok (.iload 5, 2) := by decide +kernel
theorem dX3_fits_63 : decode cX3_fits 63 = .ok (.iadd, 1) := by decide +kernel
theorem dX3_fits_64 : decode cX3_fits 64 = .ok (.invokestatic 55, 3) := by decide +kernel
theorem dX3_fits_67 : decode cX3_fits 67 = .ok (.ifCond .ne 5, 3) := by decide +kernel
theorem dX3_fits_70 : decode cX3_fits 70 = .ok (.iconst 0, 1) := by decide +kernel
theorem dX3_fits_71 : decode cX3_fits 71 = .ok (.ireturn, 1) := by decide +kernel
theorem dX3_fits_72 : decode cX3_fits 72 = .ok (.aload_n 0, 1) := by decide +kernel
theorem dX3_fits_73 : decode cX3_fits 73 = .ok (.getfield 12, 3) := by decide +kernel
theorem dX3_fits_76 : decode cX3_fits 76 = .ok (.iload_n 2, 1) := by decide +kernel
theorem dX3_fits_77 : decode cX3_fits 77 = .ok (.invokestatic 48, 3) := by decide +kernel
theorem dX3_fits_80 : decode cX3_fits 80 = .ok (.iload 9, 2) := by decide +kernel
theorem dX3_fits_82 : decode cX3_fits 82 = .ok (.iload 4, 2) := by decide +kernel
theorem dX3_fits_84 : decode cX3_fits 84 = .ok (.iadd, 1) := by decide +kernel
theorem dX3_fits_85 : decode cX3_fits 85 = .ok (.iload 8, 2) := by decide +kernel
theorem dX3_fits_87 : decode cX3_fits 87 = .ok (.iload 5, 2) := by decide +kernel
theorem dX3_fits_89 : decode cX3_fits 89 = .ok (.iadd, 1) := by decide +kernel
theorem dX3_fits_90 : decode cX3_fits 90 = .ok (.invokevirtual 59, 3) := by decide +kernel
theorem dX3_fits_93 : decode cX3_fits 93 = .ok (.istore 10, 2) := by decide +kernel
theorem dX3_fits_95 : decode cX3_fits 95 = .ok (.iload 10, 2) := by decide +kernel
theorem dX3_fits_97 : decode cX3_fits 97 = .ok (.aload_n 0, 1) := by decide +kernel
theorem dX3_fits_98 : decode cX3_fits 98 = .ok (.getfield 12, 3) := by decide +kernel
theorem dX3_fits_101 : decode cX3_fits 101 = .ok (.iload_n 1, 1) := by decide +kernel
theorem dX3_fits_102 : decode cX3_fits 102 = .ok (.iload 9, 2) := by decide +kernel
theorem dX3_fits_104 : decode cX3_fits 104 = .ok (.iload 8, 2) := by decide +kernel
theorem dX3_fits_106 : decode cX3_fits 106 = .ok (.invokevirtual 59, 3) := by decide +kernel
theorem dX3_fits_109 : decode cX3_fits 109 = .ok (.iload_n 3, 1) := by decide +kernel
theorem dX3_fits_110 : decode cX3_fits 110 = .ok (.invokestatic 154, 3) := by decide +kernel
theorem dX3_fits_113 : decode cX3_fits 113 = .ok (.ifCond .ne 5, 3) := by decide +kernel
theorem dX3_fits_116 : decode cX3_fits 116 = .ok (.iconst 0, 1) := by decide +kernel
theorem dX3_fits_117 : decode cX3_fits 117 = .ok (.ireturn, 1) := by decide +kernel
theorem dX3_fits_118 : decode cX3_fits 118 = .ok (.iinc 9 1, 3) := by decide +kernel
theorem dX3_fits_121 : decode cX3_fits 121 = .ok (.goto (-74), 3) := by decide +kernel
theorem dX3_fits_124 : decode cX3_fits 124 = .ok (.iinc 8 1, 3) := by decide +kernel
theorem dX3_fits_127 : decode cX3_fits 127 = .ok (.goto (-97), 3) := by decide +kernel
theorem dX3_fits_130 : decode cX3_fits 130 = .ok (.iconst 1, 1) := by decide +kernel
theorem dX3_fits_131 : decode cX3_fits 131 = .ok (.ireturn, 1) := by decide +kernel
theorem dX4_init_0 : decode cX4_init 0 = .ok (.aload_n 0, 1) := by decide +kernel
theorem dX4_init_1 : decode cX4_init 1 = .ok (.invokespecial 1, 3) := by decide +kernel
theorem dX4_init_4 : decode cX4_init 4 = .ok (.aload_n 0, 1) := by decide +kernel
theorem dX4_init_5 : decode cX4_init 5 = .ok (.sipush 320, 3) := by decide +kernel
theorem dX4_init_8 : decode cX4_init 8 = .ok (.newarray .int, 2) := by decide +kernel
theorem dX4_init_10 : decode cX4_init 10 = .ok (.putfield 7, 3) := by decide +kernel
theorem dX4_init_13 : decode cX4_init 13 = .ok (.aload_n 0, 1) := by decide +kernel
theorem dX4_init_14 : decode cX4_init 14 = .ok (.sipush 2240, 3) := by decide +kernel
theorem dX4_init_17 : decode cX4_init 17 = .ok (.newarray .int, 2) := by decide +kernel
theorem dX4_init_19 : decode cX4_init 19 = .ok (.putfield 13, 3) := by decide +kernel
theorem dX4_init_22 : decode cX4_init 22 = .ok (.aload_n 0, 1) := by decide +kernel
theorem dX4_init_23 : decode cX4_init 23 = .ok (.bipush 35, 2) := by decide +kernel
theorem dX4_init_25 : decode cX4_init 25 = .ok (.newarray .boolean, 2) := by decide +kernel
theorem dX4_init_27 : decode cX4_init 27 = .ok (.putfield 16, 3) := by decide +kernel
theorem dX4_init_30 : decode cX4_init 30 = .ok (.aload_n 0, 1) := by decide +kernel
theorem dX4_init_31 : decode cX4_init 31 = .ok (.bipush 20, 2) := by decide +kernel
theorem dX4_init_33 : decode cX4_init 33 = .ok (.newarray .int, 2) := by decide +kernel
theorem dX4_init_35 : decode cX4_init 35 = .ok (.putfield 20, 3) := by decide +kernel
theorem dX4_init_38 : decode cX4_init 38 = .ok (.aload_n 0, 1) := by decide +kernel
theorem dX4_init_39 : decode cX4_init 39 = .ok (.bipush 20, 2) := by decide +kernel
theorem dX4_init_41 : decode cX4_init 41 = .ok (.newarray .int, 2) := by decide +kernel
theorem dX4_init_43 : decode cX4_init 43 = .ok (.putfield 23, 3) := by decide +kernel
theorem dX4_init_46 : decode cX4_init 46 = .ok (.aload_n 0, 1) := by decide +kernel
theorem dX4_init_47 : decode cX4_init 47 = .ok (.bipush 50, 2) := by decide +kernel
theorem dX4_init_49 : decode cX4_init 49 = .ok (.newarray .int, 2) := by decide +kernel
theorem dX4_init_51 : decode cX4_init 51 = .ok (.putfield 26, 3) := by decide +kernel
theorem dX4_init_54 : decode cX4_init 54 = .ok (.aload_n 0, 1) := by decide +kernel
theorem dX4_init_55 : decode cX4_init 55 = .ok (.iconst 5, 1) := by decide +kernel
theorem dX4_init_56 : decode cX4_init 56 = .ok (.newarray .int, 2) := by decide +kernel
theorem dX4_init_58 : decode cX4_init 58 = .ok (.putfield 29, 3) := by decide +kernel
theorem dX4_init_61 : decode cX4_init 61 = .ok (.return_, 1) := by decide +kernel
theorem dX4_thrown_0 : decode cX4_thrown 0 = .ok (.aload_n 0, 1) := by decide +kernel
theorem dX4_thrown_1 : decode cX4_thrown 1 = .ok (.getfield 32, 3) := by decide +kernel
theorem dX4_thrown_4 : decode cX4_thrown 4 = .ok (.ireturn, 1) := by decide +kernel
theorem dX4_goesWell_0 : decode cX4_goesWell 0 = .ok (.aload_n 0, 1) := by decide +kernel
theorem dX4_goesWell_1 : decode cX4_goesWell 1 = .ok (.iload_n 1, 1) := by decide +kernel
theorem dX4_goesWell_2 : decode cX4_goesWell 2 = .ok (.putfield 32, 3) := by decide +kernel
theorem dX4_goesWell_5 : decode cX4_goesWell 5 = .ok (.iload_n 1, 1) := by decide +kernel
theorem dX4_goesWell_6 : decode cX4_goesWell 6 = .ok (.ifCond .ne 7, 3) := by decide +kernel
theorem dX4_goesWell_9 : decode cX4_goesWell 9 = .ok (.iconst 1, 1) := by decide +kernel
theorem dX4_goesWell_10 : decode cX4_goesWell 10 = .ok (.goto 4, 3) := by decide +kernel
theorem dX4_goesWell_13 : decode cX4_goesWell 13 = .ok (.iconst 0, 1) := by decide +kernel
theorem dX4_goesWell_14 : decode cX4_goesWell 14 = .ok (.ireturn, 1) := by decide +kernel
theorem dX4_in_0 : decode cX4_in 0 = .ok (.iload_n 0, 1) := by decide +kernel
theorem dX4_in_1 : decode cX4_in 1 = .ok (.iload_n 1, 1) := by decide +kernel
theorem dX4_in_2 : decode cX4_in 2 = .ok (.if_icmp .lt 12, 3) := by decide +kernel
theorem dX4_in_5 : decode cX4_in 5 = .ok (.iload_n 0, 1) := by decide +kernel
theorem dX4_in_6 : decode cX4_in 6 = .ok (.iload_n 2, 1) := by decide +kernel
theorem dX4_in_7 : decode cX4_in 7 = .ok (.if_icmp .gt 7, 3) := by decide +kernel
theorem dX4_in_10 : decode cX4_in 10 = .ok (.iconst 1, 1) := by decide +kernel
theorem dX4_in_11 : decode cX4_in 11 = .ok (.goto 4, 3) := by decide +kernel
theorem dX4_in_14 : decode cX4_in 14 = .ok (.iconst 0, 1) := by decide +kernel
theorem dX4_in_15 : decode cX4_in 15 = .ok (.ireturn, 1) := by decide +kernel
set_option maxRecDepth 20000 in
theorem ggX4_isTest_X4_in : GoodIn wsX4_isTest wsX4_in := goodIn_r _ [4] (by decide +kernel) (by decide +kernel)
set_option maxRecDepth 20000 in
theorem gX4_isTest_X4_in : GoodIn wsX4_isTest (va_wsS RX4 36 yX4_in wsX4_in) := goodIn_app (goodIn_of _ (by decide +kernel)) ggX4_isTest_X4_in
theorem dX4_isTest_0 : decode cX4_isTest 0 = .ok (.iload_n 0, 1) := by decide +kernel
theorem dX4_isTest_1 : decode cX4_isTest 1 = .ok (.iconst 0, 1) := by decide +kernel
theorem dX4_isTest_2 : decode cX4_isTest 2 = .ok (.iconst 4, 1) := by decide +kernel
theorem dX4_isTest_3 : decode cX4_isTest 3 = .ok (.invokestatic 36, 3) := by decide +kernel
theorem dX4_isTest_6 : decode cX4_isTest 6 = .ok (.ireturn, 1) := by decide +kernel
set_option maxRecDepth 20000 in
theorem ggX4_isCell_X4_in : GoodIn wsX4_isCell wsX4_in := goodIn_r _ [4] (by decide +kernel) (by decide +kernel)
set_option maxRecDepth 20000 in
theorem gX4_isCell_X4_in : GoodIn wsX4_isCell (va_wsS RX4 36 yX4_in wsX4_in) := goodIn_app (goodIn_of _ (by decide +kernel)) ggX4_isCell_X4_in
theorem dX4_isCell_0 : decode cX4_isCell 0 = .ok (.iload_n 0, 1) := by decide +kernel
theorem dX4_isCell_1 : decode cX4_isCell 1 = .ok (.iconst 0, 1) := by decide +kernel
theorem dX4_isCell_2 : decode cX4_isCell 2 = .ok (.bipush 7, 2) := by decide +kernel
theorem dX4_isCell_4 : decode cX4_isCell 4 = .ok (.invokestatic 36, 3) := by decide +kernel
theorem dX4_isCell_7 : decode cX4_isCell 7 = .ok (.ifCond .eq 17, 3) := by decide +kernel
theorem dX4_isCell_10 : decode cX4_isCell 10 = .ok (.iload_n 1, 1) := by decide +kernel
theorem dX4_isCell_11 : decode cX4_isCell 11 = .ok (.iconst 0, 1) := by decide +kernel
theorem dX4_isCell_12 : decode cX4_isCell 12 = .ok (.bipush 7, 2) := by decide +kernel
theorem dX4_isCell_14 : decode cX4_isCell 14 = .ok (.invokestatic 36, 3) := by decide +kernel
theorem dX4_isCell_17 : decode cX4_isCell 17 = .ok (.ifCond .eq 7, 3) := by decide +kernel
theorem dX4_isCell_20 : decode cX4_isCell 20 = .ok (.iconst 1, 1) := by decide +kernel
theorem dX4_isCell_21 : decode cX4_isCell 21 = .ok (.goto 4, 3) := by decide +kernel
theorem dX4_isCell_24 : decode cX4_isCell 24 = .ok (.iconst 0, 1) := by decide +kernel
theorem dX4_isCell_25 : decode cX4_isCell 25 = .ok (.ireturn, 1) := by decide +kernel
set_option maxRecDepth 20000 in
theorem ggX4_isBox_X4_isCell : GoodIn wsX4_isBox wsX4_isCell := goodIn_r _ [4, 5, 6, 3, 7] (by decide +kernel) (by decide +kernel)
set_option maxRecDepth 20000 in
theorem gX4_isBox_X4_isCell : GoodIn wsX4_isBox (va_wsS RX4 40 yX4_isCell wsX4_isCell) := goodIn_app (goodIn_of _ (by decide +kernel)) ggX4_isBox_X4_isCell
set_option maxRecDepth 20000 in
theorem ggX4_isBox_X4_in : GoodIn wsX4_isBox wsX4_in := goodIn_r _ [7] (by decide +kernel) (by decide +kernel)
set_option maxRecDepth 20000 in
theorem gX4_isBox_X4_in : GoodIn wsX4_isBox (va_wsS RX4 36 yX4_in wsX4_in) := goodIn_app (goodIn_of _ (by decide +kernel)) ggX4_isBox_X4_in
theorem dX4_isBox_0 : decode cX4_isBox 0 = .ok (.iload_n 0, 1) := by decide +kernel
theorem dX4_isBox_1 : decode cX4_isBox 1 = .ok (.iload_n 1, 1) := by decide +kernel
theorem dX4_isBox_2 : decode cX4_isBox 2 = .ok (.invokestatic 40, 3) := by decide +kernel
theorem dX4_isBox_5 : decode cX4_isBox 5 = .ok (.ifCond .eq 31, 3) := by decide +kernel
theorem dX4_isBox_8 : decode cX4_isBox 8 = .ok (.iload_n 2, 1) := by decide +kernel
theorem dX4_isBox_9 : decode cX4_isBox 9 = .ok (.iconst 1, 1) := by decide +kernel
theorem dX4_isBox_10 : decode cX4_isBox 10 = .ok (.bipush 8, 2) := by decide +kernel
theorem dX4_isBox_12 : decode cX4_isBox 12 = .ok (.iload_n 0, 1) := by decide +kernel
theorem dX4_isBox_13 : decode cX4_isBox 13 = .ok (.isub, 1) := by decide +kernel
theorem dX4_isBox_14 : decode cX4_isBox 14 = .ok (.invokestatic 36, 3) := by decide +kernel
theorem dX4_isBox_17 : decode cX4_isBox 17 = .ok (.ifCond .eq 19, 3) := by decide +kernel
theorem dX4_isBox_20 : decode cX4_isBox 20 = .ok (.iload_n 3, 1) := by decide +kernel
theorem dX4_isBox_21 : decode cX4_isBox 21 = .ok (.iconst 1, 1) := by decide +kernel
theorem dX4_isBox_22 : decode cX4_isBox 22 = .ok (.bipush 8, 2) := by decide +kernel
theorem dX4_isBox_24 : decode cX4_isBox 24 = .ok (.iload_n 1, 1) := by decide +kernel
theorem dX4_isBox_25 : decode cX4_isBox 25 = .ok (.isub, 1) := by decide +kernel
theorem dX4_isBox_26 : decode cX4_isBox 26 = .ok (.invokestatic 36, 3) := by decide +kernel
theorem dX4_isBox_29 : decode cX4_isBox 29 = .ok (.ifCond .eq 7, 3) := by decide +kernel
theorem dX4_isBox_32 : decode cX4_isBox 32 = .ok (.iconst 1, 1) := by decide +kernel
theorem dX4_isBox_33 : decode cX4_isBox 33 = .ok (.goto 4, 3) := by decide +kernel
theorem dX4_isBox_36 : decode cX4_isBox 36 = .ok (.iconst 0, 1) := by decide +kernel
theorem dX4_isBox_37 : decode cX4_isBox 37 = .ok (.ireturn, 1) := by decide +kernel
set_option maxRecDepth 20000 in
theorem ggX4_paint_X4_isTest : GoodIn wsX4_paint wsX4_isTest := goodIn_r _ [5, 6, 7, 4, 8] (by decide +kernel) (by decide +kernel)
set_option maxRecDepth 20000 in
theorem gX4_paint_X4_isTest : GoodIn wsX4_paint (va_wsS RX4 44 yX4_isTest wsX4_isTest) := goodIn_app (goodIn_of _ (by decide +kernel)) ggX4_paint_X4_isTest
set_option maxRecDepth 20000 in
theorem ggX4_paint_X4_isBox : GoodIn wsX4_paint wsX4_isBox := goodIn_r _ [11, 12, 13, 4, 14, 6, 7, 8] (by decide +kernel) (by decide +kernel)
set_option maxRecDepth 20000 in
theorem gX4_paint_X4_isBox : GoodIn wsX4_paint (va_wsS RX4 48 yX4_isBox wsX4_isBox) := goodIn_app (goodIn_of _ (by decide +kernel)) ggX4_paint_X4_isBox
set_option maxRecDepth 20000 in
theorem ggX4_paint_X4_in : GoodIn wsX4_paint wsX4_in := goodIn_r _ [8] (by decide +kernel) (by decide +kernel)
set_option maxRecDepth 20000 in
theorem gX4_paint_X4_in : GoodIn wsX4_paint (va_wsS RX4 36 yX4_in wsX4_in) := goodIn_app (goodIn_of _ (by decide +kernel)) ggX4_paint_X4_in
set_option maxRecDepth 20000 in
theorem ggX4_paint_X4_goesWell : GoodIn wsX4_paint wsX4_goesWell := goodIn_r _ [18, 19, 20, 21, 22, 23, 24, 25, 26, 27, 28, 29] (by decide +kernel) (by decide +kernel)
set_option maxRecDepth 20000 in
theorem gX4_paint_X4_goesWell : GoodIn wsX4_paint (wsV RX4 52 RX4 yX4_goesWell wsX4_goesWell) := goodIn_app (goodIn_of _ (by decide +kernel)) ggX4_paint_X4_goesWell
theorem dX4_paint_0 : decode cX4_paint 0 = .ok (.aload_n 0, 1) := by decide +kernel
theorem dX4_paint_1 : decode cX4_paint 1 = .ok (.iload_n 1, 1) := by decide +kernel
theorem dX4_paint_2 : decode cX4_paint 2 = .ok (.invokestatic 44, 3) := by decide +kernel
theorem dX4_paint_5 : decode cX4_paint 5 = .ok (.ifCond .eq 31, 3) := by decide +kernel
theorem dX4_paint_8 : decode cX4_paint 8 = .ok (.iload_n 2, 1) := by decide +kernel
theorem dX4_paint_9 : decode cX4_paint 9 = .ok (.iload_n 3, 1) := by decide +kernel
theorem dX4_paint_10 : decode cX4_paint 10 = .ok (.iload 4, 2) := by decide +kernel
theorem dX4_paint_12 : decode cX4_paint 12 = .ok (.iload 5, 2) := by decide +kernel
theorem dX4_paint_14 : decode cX4_paint 14 = .ok (.invokestatic 48, 3) := by decide +kernel
theorem dX4_paint_17 : decode cX4_paint 17 = .ok (.ifCond .eq 19, 3) := by decide +kernel
theorem dX4_paint_20 : decode cX4_paint 20 = .ok (.iload 6, 2) := by decide +kernel
theorem dX4_paint_22 : decode cX4_paint 22 = .ok (.iconst 0, 1) := by decide +kernel
theorem dX4_paint_23 : decode cX4_paint 23 = .ok (.sipush 255, 3) := by decide +kernel
theorem dX4_paint_26 : decode cX4_paint 26 = .ok (.invokestatic 36, 3) := by decide +kernel
theorem dX4_paint_29 : decode cX4_paint 29 = .ok (.ifCond .eq 7, 3) := by decide +kernel
theorem dX4_paint_32 : decode cX4_paint 32 = .ok (.iconst 0, 1) := by decide +kernel
theorem dX4_paint_33 : decode cX4_paint 33 = .ok (.goto 4, 3) := by decide +kernel
theorem dX4_paint_36 : decode cX4_paint 36 = .ok (.iconst 1, 1) := by decide +kernel
theorem dX4_paint_37 : decode cX4_paint 37 = .ok (.invokevirtual 52, 3) := by decide +kernel
theorem dX4_paint_40 : decode cX4_paint 40 = .ok (.ifCond .ne 5, 3) := by decide +kernel
theorem dX4_paint_43 : decode cX4_paint 43 = .ok (.iconst 0, 1) := by decide +kernel
theorem dX4_paint_44 : decode cX4_paint 44 = .ok (.ireturn, 1) := by decide +kernel
theorem dX4_paint_45 : decode cX4_paint 45 = .ok (.iconst 0, 1) := by decide +kernel
theorem dX4_paint_46 : decode cX4_paint 46 = .ok (.istore 7, 2) := by decide +kernel
theorem dX4_paint_48 : decode cX4_paint 48 = .ok (.iconst 0, 1) := by decide +kernel
theorem dX4_paint_49 : decode cX4_paint 49 = .ok (.istore 8, 2) := by decide +kernel
theorem dX4_paint_51 : decode cX4_paint 51 = .ok (.iload 8, 2) := by decide +kernel
theorem dX4_paint_53 : decode cX4_paint 53 = .ok (.iload 4, 2) := by decide +kernel
theorem dX4_paint_55 : decode cX4_paint 55 = .ok (.iload 5, 2) := by decide +kernel
theorem dX4_paint_57 : decode cX4_paint 57 = .ok (.imul, 1) := by decide +kernel
theorem dX4_paint_58 : decode cX4_paint 58 = .ok (.if_icmp .ge 65, 3) := by decide +kernel
theorem dX4_paint_61 : decode cX4_paint 61 = .ok (.bipush 64, 2) := by decide +kernel
theorem dX4_paint_63 : decode cX4_paint 63 = .ok (.iload_n 1, 1) := by decide +kernel
theorem dX4_paint_64 : decode cX4_paint 64 = .ok (.imul, 1) := by decide +kernel
theorem dX4_paint_65 : decode cX4_paint 65 = .ok (.bipush 8, 2) := by decide +kernel
theorem dX4_paint_67 : decode cX4_paint 67 = .ok (.iload_n 3, 1) := by decide +kernel
theorem dX4_paint_68 : decode cX4_paint 68 = .ok (.iload 8, 2) := by decide +kernel
theorem dX4_paint_70 : decode cX4_paint 70 = .ok (.iload 4, 2) := by decide +kernel
theorem dX4_paint_72 : decode cX4_paint 72 = .ok (.idiv, 1) := by decide +kernel
theorem dX4_paint_73 : decode cX4_paint 73 = .ok (.iadd, 1) := by decide +kernel
theorem dX4_paint_74 : decode cX4_paint 74 = .ok (.imul, 1) := by decide +kernel
theorem dX4_paint_75 : decode cX4_paint 75 = .ok (.iadd, 1) := by decide +kernel
theorem dX4_paint_76 : decode cX4_paint 76 = .ok (.iload_n 2, 1) := by decide +kernel
theorem dX4_paint_77 : decode cX4_paint 77 = .ok (.iadd, 1) := by decide +kernel
theorem dX4_paint_78 : decode cX4_paint 78 = .ok (.iload 8, 2) := by decide +kernel
theorem dX4_paint_80 : decode cX4_paint 80 = .ok (.iload 4, 2) := by decide +kernel
theorem dX4_paint_82 : decode cX4_paint 82 = .ok (.irem, 1) := by decide +kernel
theorem dX4_paint_83 : decode cX4_paint 83 = .ok (.iadd, 1) := by decide +kernel
theorem dX4_paint_84 : decode cX4_paint 84 = .ok (.istore 9, 2) := by decide +kernel
theorem dX4_paint_86 : decode cX4_paint 86 = .ok (.iload 7, 2) := by decide +kernel
theorem dX4_paint_88 : decode cX4_paint 88 = .ok (.aload_n 0, 1) := by decide +kernel
theorem dX4_paint_89 : decode cX4_paint 89 = .ok (.getfield 7, 3) := by decide +kernel
theorem dX4_paint_92 : decode cX4_paint 92 = .ok (.iload 9, 2) := by decide +kernel
theorem dX4_paint_94 : decode cX4_paint 94 = .ok (.iaload, 1) := by decide +kernel
theorem dX4_paint_95 : decode cX4_paint 95 = .ok (.iload 6, 2) := by decide +kernel
theorem dX4_paint_97 : decode cX4_paint 97 = .ok (.if_icmp .ne 7, 3) := by decide +kernel
theorem dX4_paint_100 : decode cX4_paint 100 = .ok (.iconst 0, 1) := by decide +kernel
theorem dX4_paint_101 : decode cX4_paint 101 = .ok (.goto 4, 3) := by decide +kernel
theorem dX4_paint_104 : decode cX4_paint 104 = .ok (.iconst 1, 1) := by decide +kernel
theorem dX4_paint_105 : decode cX4_paint 105 = .ok (.iadd, 1) := by decide +kernel
theorem dX4_paint_106 : decode cX4_paint 106 = .ok (.istore 7, 2) := by decide +kernel
theorem dX4_paint_108 : decode cX4_paint 108 = .ok (.aload_n 0, 1) := by decide +kernel
theorem dX4_paint_109 : decode cX4_paint 109 = .ok (.getfield 7, 3) := by decide +kernel
theorem dX4_paint_112 : decode cX4_paint 112 = .ok (.iload 9, 2) := by decide +kernel
theorem dX4_paint_114 : decode cX4_paint 114 = .ok (.iload 6, 2) := by decide +kernel
theorem dX4_paint_116 : decode cX4_paint 116 = .ok (.iastore, 1) := by decide +kernel
theorem dX4_paint_117 : decode cX4_paint 117 = .ok (.iinc 8 1, 3) := by decide +kernel
theorem dX4_paint_120 : decode cX4_paint 120 = .ok (.goto (-69), 3) := by decide +kernel
theorem dX4_paint_123 : decode cX4_paint 123 = .ok (.iload 7, 2) := by decide +kernel
theorem dX4_paint_125 : decode cX4_paint 125 = .ok (.ireturn, 1) := by decide +kernel
set_option maxRecDepth 20000 in
theorem ggX4_shade_X4_isTest : GoodIn wsX4_shade wsX4_isTest := goodIn_r _ [5, 6, 7, 4, 8] (by decide +kernel) (by decide +kernel)
set_option maxRecDepth 20000 in
theorem gX4_shade_X4_isTest : GoodIn wsX4_shade (va_wsS RX4 44 yX4_isTest wsX4_isTest) := goodIn_app (goodIn_of _ (by decide +kernel)) ggX4_shade_X4_isTest
set_option maxRecDepth 20000 in
theorem ggX4_shade_X4_isCell : GoodIn wsX4_shade wsX4_isCell := goodIn_r _ [11, 6, 7, 4, 8] (by decide +kernel) (by decide +kernel)
set_option maxRecDepth 20000 in
theorem gX4_shade_X4_isCell : GoodIn wsX4_shade (va_wsS RX4 40 yX4_isCell wsX4_isCell) := goodIn_app (goodIn_of _ (by decide +kernel)) ggX4_shade_X4_isCell
set_option maxRecDepth 20000 in
theorem ggX4_shade_X4_goesWell : GoodIn wsX4_shade wsX4_goesWell := goodIn_r _ [15, 16, 17, 18, 19, 20, 21, 22, 23, 24, 25, 26] (by decide +kernel) (by decide +kernel)
set_option maxRecDepth 20000 in
theorem gX4_shade_X4_goesWell : GoodIn wsX4_shade (wsV RX4 52 RX4 yX4_goesWell wsX4_goesWell) := goodIn_app (goodIn_of _ (by decide +kernel)) ggX4_shade_X4_goesWell
theorem dX4_shade_0 : decode cX4_shade 0 = .ok (.aload_n 0, 1) := by decide +kernel
theorem dX4_shade_1 : decode cX4_shade 1 = .ok (.iload_n 1, 1) := by decide +kernel
theorem dX4_shade_2 : decode cX4_shade 2 = .ok (.invokestatic 44, 3) := by decide +kernel
theorem dX4_shade_5 : decode cX4_shade 5 = .ok (.ifCond .eq 15, 3) := by decide +kernel
theorem dX4_shade_8 : decode cX4_shade 8 = .ok (.iload_n 2, 1) := by decide +kernel
theorem dX4_shade_9 : decode cX4_shade 9 = .ok (.iload_n 3, 1) := by decide +kernel
theorem dX4_shade_10 : decode cX4_shade 10 = .ok (.invokestatic 40, 3) := by decide +kernel
theorem dX4_shade_13 : decode cX4_shade 13 = .ok (.ifCond .eq 7, 3) := by decide +kernel
theorem dX4_shade_16 : decode cX4_shade 16 = .ok (.iconst 0, 1) := by decide +kernel
theorem dX4_shade_17 : decode cX4_shade 17 = .ok (.goto 4, 3) := by decide +kernel
theorem dX4_shade_20 : decode cX4_shade 20 = .ok (.iconst 1, 1) := by decide +kernel
theorem dX4_shade_21 : decode cX4_shade 21 = .ok (.invokevirtual 52, 3) := by decide +kernel
theorem dX4_shade_24 : decode cX4_shade 24 = .ok (.ifCond .eq 22, 3) := by decide +kernel
theorem dX4_shade_27 : decode cX4_shade 27 = .ok (.aload_n 0, 1) := by decide +kernel
theorem dX4_shade_28 : decode cX4_shade 28 = .ok (.getfield 7, 3) := by decide +kernel
theorem dX4_shade_31 : decode cX4_shade 31 = .ok (.bipush 64, 2) := by decide +kernel
theorem dX4_shade_33 : decode cX4_shade 33 = .ok (.iload_n 1, 1) := by decide +kernel
theorem dX4_shade_34 : decode cX4_shade 34 = .ok (.imul, 1) := by decide +kernel
theorem dX4_shade_35 : decode cX4_shade 35 = .ok (.bipush 8, 2) := by decide +kernel
theorem dX4_shade_37 : decode cX4_shade 37 = .ok (.iload_n 3, 1) := by decide +kernel
theorem dX4_shade_38 : decode cX4_shade 38 = .ok (.imul, 1) := by decide +kernel
