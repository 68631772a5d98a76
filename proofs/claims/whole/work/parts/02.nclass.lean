set_option maxRecDepth 20000 in
theorem ggX0_init_X9_init : GoodIn wsX0_init wsX9_init := goodIn_r _ [3, 4, 5, 6] (by decide +kernel) (by decide +kernel)
set_option maxRecDepth 20000 in
theorem gX0_init_X9_init_n1 : GoodIn wsX0_init (wsX9_init) := ggX0_init_X9_init
theorem dX0_init_0 : decode cX0_init 0 = .ok (.aload_n 0, 1) := by decide +kernel
theorem dX0_init_1 : decode cX0_init 1 = .ok (.invokespecial 1, 3) := by decide +kernel
theorem dX0_init_4 : decode cX0_init 4 = .ok (.return_, 1) := by decide +kernel
theorem dX0_kind_0 : decode cX0_kind 0 = .ok (.iconst 2, 1) := by decide +kernel
theorem dX0_kind_1 : decode cX0_kind 1 = .ok (.ireturn, 1) := by decide +kernel
set_option maxRecDepth 20000 in
theorem ggX0_score_X8_boiledWeight : GoodIn wsX0_score wsX8_boiledWeight := goodIn_r _ [5, 6, 7, 8, 9, 10, 11, 12, 13, 14, 15, 16, 17, 18, 19] (by decide +kernel) (by decide +kernel)
set_option maxRecDepth 20000 in
theorem gX0_score_X8_boiledWeight : GoodIn wsX0_score (wsV RX0 7 RX8 yX8_boiledWeight wsX8_boiledWeight) := goodIn_app (goodIn_of _ (by decide +kernel)) ggX0_score_X8_boiledWeight
theorem dX0_score_0 : decode cX0_score 0 = .ok (.aload_n 1, 1) := by decide +kernel
theorem dX0_score_1 : decode cX0_score 1 = .ok (.iload_n 2, 1) := by decide +kernel
theorem dX0_score_2 : decode cX0_score 2 = .ok (.invokevirtual 7, 3) := by decide +kernel
theorem dX0_score_5 : decode cX0_score 5 = .ok (.lreturn, 1) := by decide +kernel
theorem dX1_init_0 : decode cX1_init 0 = .ok (.aload_n 0, 1) := by decide +kernel
theorem dX1_init_1 : decode cX1_init 1 = .ok (.invokespecial 3, 3) := by decide +kernel
theorem dX1_init_4 : decode cX1_init 4 = .ok (.aload_n 0, 1) := by decide +kernel
theorem dX1_init_5 : decode cX1_init 5 = .ok (.sipush 729, 3) := by decide +kernel
theorem dX1_init_8 : decode cX1_init 8 = .ok (.newarray .long, 2) := by decide +kernel
theorem dX1_init_10 : decode cX1_init 10 = .ok (.putfield 11, 3) := by decide +kernel
theorem dX1_init_13 : decode cX1_init 13 = .ok (.aload_n 0, 1) := by decide +kernel
theorem dX1_init_14 : decode cX1_init 14 = .ok (.sipush 729, 3) := by decide +kernel
theorem dX1_init_17 : decode cX1_init 17 = .ok (.newarray .long, 2) := by decide +kernel
theorem dX1_init_19 : decode cX1_init 19 = .ok (.putfield 15, 3) := by decide +kernel
theorem dX1_init_22 : decode cX1_init 22 = .ok (.aload_n 0, 1) := by decide +kernel
theorem dX1_init_23 : decode cX1_init 23 = .ok (.sipush 729, 3) := by decide +kernel
theorem dX1_init_26 : decode cX1_init 26 = .ok (.newarray .int, 2) := by decide +kernel
theorem dX1_init_28 : decode cX1_init 28 = .ok (.putfield 18, 3) := by decide +kernel
theorem dX1_init_31 : decode cX1_init 31 = .ok (.return_, 1) := by decide +kernel
set_option maxRecDepth 20000 in
theorem ggX1_solve_X8_howManyInBox : GoodIn wsX1_solve wsX8_howManyInBox := goodIn_r _ [7, 8, 9, 10, 11, 12, 13, 14, 15, 59, 60, 61, 62, 63, 64, 65, 66] (by decide +kernel) (by decide +kernel)
set_option maxRecDepth 20000 in
theorem gX1_solve_X8_howManyInBox : GoodIn wsX1_solve (wsV RX1 26 RX8 yX8_howManyInBox wsX8_howManyInBox) := goodIn_app (goodIn_of _ (by decide +kernel)) ggX1_solve_X8_howManyInBox
set_option maxRecDepth 20000 in
theorem ggX1_solve_X1_spread : GoodIn wsX1_solve wsX1_spread := goodIn_r _ [20, 21, 22, 23, 24, 19, 25, 26, 27, 28, 6, 29, 8, 30, 31, 32, 53, 54, 55, 56, 57, 58, 59, 60, 61, 62, 63, 64, 65, 66] (by decide +kernel) (by decide +kernel)
set_option maxRecDepth 20000 in
theorem gX1_solve_X1_spread : GoodIn wsX1_solve (wsV RX1 35 RX1 yX1_spread wsX1_spread) := goodIn_app (goodIn_of _ (by decide +kernel)) ggX1_solve_X1_spread
set_option maxRecDepth 20000 in
theorem ggX1_solve_X1_solveState : GoodIn wsX1_solve wsX1_solveState := goodIn_r _ [36, 2, 37, 38, 21, 1, 39, 40, 41, 19, 42, 43, 44, 45, 46, 47, 48, 49, 50, 51, 52, 53, 54, 55, 56, 57, 58] (by decide +kernel) (by decide +kernel)
set_option maxRecDepth 20000 in
theorem gX1_solve_X1_solveState : GoodIn wsX1_solve (wsV RX1 39 RX1 yX1_solveState wsX1_solveState) := goodIn_app (goodIn_of _ (by decide +kernel)) ggX1_solve_X1_solveState
theorem dX1_solve_0 : decode cX1_solve 0 = .ok (.aload_n 0, 1) := by decide +kernel
theorem dX1_solve_1 : decode cX1_solve 1 = .ok (.iload_n 2, 1) := by decide +kernel
theorem dX1_solve_2 : decode cX1_solve 2 = .ok (.putfield 22, 3) := by decide +kernel
theorem dX1_solve_5 : decode cX1_solve 5 = .ok (.aload_n 0, 1) := by decide +kernel
theorem dX1_solve_6 : decode cX1_solve 6 = .ok (.aload_n 1, 1) := by decide +kernel
theorem dX1_solve_7 : decode cX1_solve 7 = .ok (.invokevirtual 26, 3) := by decide +kernel
theorem dX1_solve_10 : decode cX1_solve 10 = .ok (.putfield 32, 3) := by decide +kernel
theorem dX1_solve_13 : decode cX1_solve 13 = .ok (.iconst 1, 1) := by decide +kernel
theorem dX1_solve_14 : decode cX1_solve 14 = .ok (.istore_n 3, 1) := by decide +kernel
theorem dX1_solve_15 : decode cX1_solve 15 = .ok (.iconst 0, 1) := by decide +kernel
theorem dX1_solve_16 : decode cX1_solve 16 = .ok (.istore 4, 2) := by decide +kernel
theorem dX1_solve_18 : decode cX1_solve 18 = .ok (.iload 4, 2) := by decide +kernel
theorem dX1_solve_20 : decode cX1_solve 20 = .ok (.aload_n 0, 1) := by decide +kernel
theorem dX1_solve_21 : decode cX1_solve 21 = .ok (.getfield 32, 3) := by decide +kernel
theorem dX1_solve_24 : decode cX1_solve 24 = .ok (.if_icmp .ge 13, 3) := by decide +kernel
theorem dX1_solve_27 : decode cX1_solve 27 = .ok (.iload_n 3, 1) := by decide +kernel
theorem dX1_solve_28 : decode cX1_solve 28 = .ok (.iconst 3, 1) := by decide +kernel
theorem dX1_solve_29 : decode cX1_solve 29 = .ok (.imul, 1) := by decide +kernel
theorem dX1_solve_30 : decode cX1_solve 30 = .ok (.istore_n 3, 1) := by decide +kernel
theorem dX1_solve_31 : decode cX1_solve 31 = .ok (.iinc 4 1, 3) := by decide +kernel
theorem dX1_solve_34 : decode cX1_solve 34 = .ok (.goto (-16), 3) := by decide +kernel
theorem dX1_solve_37 : decode cX1_solve 37 = .ok (.aload_n 0, 1) := by decide +kernel
theorem dX1_solve_38 : decode cX1_solve 38 = .ok (.aload_n 1, 1) := by decide +kernel
theorem dX1_solve_39 : decode cX1_solve 39 = .ok (.iload_n 3, 1) := by decide +kernel
theorem dX1_solve_40 : decode cX1_solve 40 = .ok (.invokevirtual 35, 3) := by decide +kernel
theorem dX1_solve_43 : decode cX1_solve 43 = .ok (.iload_n 3, 1) := by decide +kernel
theorem dX1_solve_44 : decode cX1_solve 44 = .ok (.iconst 1, 1) := by decide +kernel
theorem dX1_solve_45 : decode cX1_solve 45 = .ok (.isub, 1) := by decide +kernel
theorem dX1_solve_46 : decode cX1_solve 46 = .ok (.istore 4, 2) := by decide +kernel
theorem dX1_solve_48 : decode cX1_solve 48 = .ok (.iload 4, 2) := by decide +kernel
theorem dX1_solve_50 : decode cX1_solve 50 = .ok (.ifCond .lt 15, 3) := by decide +kernel
theorem dX1_solve_53 : decode cX1_solve 53 = .ok (.aload_n 0, 1) := by decide +kernel
theorem dX1_solve_54 : decode cX1_solve 54 = .ok (.iload 4, 2) := by decide +kernel
theorem dX1_solve_56 : decode cX1_solve 56 = .ok (.invokevirtual 39, 3) := by decide +kernel
theorem dX1_solve_59 : decode cX1_solve 59 = .ok (.iinc 4 (-1), 3) := by decide +kernel
theorem dX1_solve_62 : decode cX1_solve 62 = .ok (.goto (-14), 3) := by decide +kernel
theorem dX1_solve_65 : decode cX1_solve 65 = .ok (.return_, 1) := by decide +kernel
theorem dX1_fewestAtWorst_0 : decode cX1_fewestAtWorst 0 = .ok (.aload_n 0, 1) := by decide +kernel
theorem dX1_fewestAtWorst_1 : decode cX1_fewestAtWorst 1 = .ok (.getfield 18, 3) := by decide +kernel
theorem dX1_fewestAtWorst_4 : decode cX1_fewestAtWorst 4 = .ok (.iconst 0, 1) := by decide +kernel
theorem dX1_fewestAtWorst_5 : decode cX1_fewestAtWorst 5 = .ok (.iaload, 1) := by decide +kernel
theorem dX1_fewestAtWorst_6 : decode cX1_fewestAtWorst 6 = .ok (.ireturn, 1) := by decide +kernel
theorem dX1_fewestByWeight_0 : decode cX1_fewestByWeight 0 = .ok (.aload_n 0, 1) := by decide +kernel
theorem dX1_fewestByWeight_1 : decode cX1_fewestByWeight 1 = .ok (.getfield 15, 3) := by decide +kernel
theorem dX1_fewestByWeight_4 : decode cX1_fewestByWeight 4 = .ok (.iconst 0, 1) := by decide +kernel
theorem dX1_fewestByWeight_5 : decode cX1_fewestByWeight 5 = .ok (.laload, 1) := by decide +kernel
theorem dX1_fewestByWeight_6 : decode cX1_fewestByWeight 6 = .ok (.lreturn, 1) := by decide +kernel
theorem dX1_firstPlace_0 : decode cX1_firstPlace 0 = .ok (.aload_n 0, 1) := by decide +kernel
theorem dX1_firstPlace_1 : decode cX1_firstPlace 1 = .ok (.getfield 43, 3) := by decide +kernel
theorem dX1_firstPlace_4 : decode cX1_firstPlace 4 = .ok (.ireturn, 1) := by decide +kernel
set_option maxRecDepth 20000 in
theorem ggX1_spread_X1_lastState : GoodIn wsX1_spread wsX1_lastState := goodIn_r _ [6, 7, 8, 9, 10, 11, 12, 13, 14, 15, 22, 23, 24, 25, 26, 27, 28, 29] (by decide +kernel) (by decide +kernel)
set_option maxRecDepth 20000 in
theorem gX1_spread_X1_lastState : GoodIn wsX1_spread (wsV RX1 52 RX1 yX1_lastState wsX1_lastState) := goodIn_app (goodIn_of _ (by decide +kernel)) ggX1_spread_X1_lastState
theorem dX1_spread_0 : decode cX1_spread 0 = .ok (.iconst 0, 1) := by decide +kernel
theorem dX1_spread_1 : decode cX1_spread 1 = .ok (.istore_n 3, 1) := by decide +kernel
theorem dX1_spread_2 : decode cX1_spread 2 = .ok (.iload_n 3, 1) := by decide +kernel
theorem dX1_spread_3 : decode cX1_spread 3 = .ok (.iload_n 2, 1) := by decide +kernel
theorem dX1_spread_4 : decode cX1_spread 4 = .ok (.if_icmp .ge 16, 3) := by decide +kernel
theorem dX1_spread_7 : decode cX1_spread 7 = .ok (.aload_n 0, 1) := by decide +kernel
theorem dX1_spread_8 : decode cX1_spread 8 = .ok (.getfield 11, 3) := by decide +kernel
theorem dX1_spread_11 : decode cX1_spread 11 = .ok (.iload_n 3, 1) := by decide +kernel
theorem dX1_spread_12 : decode cX1_spread 12 = .ok (.lconst 0, 1) := by decide +kernel
theorem dX1_spread_13 : decode cX1_spread 13 = .ok (.lastore, 1) := by decide +kernel
theorem dX1_spread_14 : decode cX1_spread 14 = .ok (.iinc 3 1, 3) := by decide +kernel
theorem dX1_spread_17 : decode cX1_spread 17 = .ok (.goto (-15), 3) := by decide +kernel
theorem dX1_spread_20 : decode cX1_spread 20 = .ok (.iconst 0, 1) := by decide +kernel
theorem dX1_spread_21 : decode cX1_spread 21 = .ok (.istore_n 3, 1) := by decide +kernel
theorem dX1_spread_22 : decode cX1_spread 22 = .ok (.iload_n 3, 1) := by decide +kernel
theorem dX1_spread_23 : decode cX1_spread 23 = .ok (.aload_n 1, 1) := by decide +kernel
theorem dX1_spread_24 : decode cX1_spread 24 = .ok (.getfield 46, 3) := by decide +kernel
theorem dX1_spread_27 : decode cX1_spread 27 = .ok (.if_icmp .ge 34, 3) := by decide +kernel
theorem dX1_spread_30 : decode cX1_spread 30 = .ok (.aload_n 0, 1) := by decide +kernel
theorem dX1_spread_31 : decode cX1_spread 31 = .ok (.getfield 11, 3) := by decide +kernel
theorem dX1_spread_34 : decode cX1_spread 34 = .ok (.aload_n 0, 1) := by decide +kernel
theorem dX1_spread_35 : decode cX1_spread 35 = .ok (.aload_n 1, 1) := by decide +kernel
theorem dX1_spread_36 : decode cX1_spread 36 = .ok (.aload_n 1, 1) := by decide +kernel
theorem dX1_spread_37 : decode cX1_spread 37 = .ok (.getfield 49, 3) := by decide +kernel
theorem dX1_spread_40 : decode cX1_spread 40 = .ok (.iload_n 3, 1) := by decide +kernel
theorem dX1_spread_41 : decode cX1_spread 41 = .ok (.iaload, 1) := by decide +kernel
theorem dX1_spread_42 : decode cX1_spread 42 = .ok (.invokevirtual 52, 3) := by decide +kernel
theorem dX1_spread_45 : decode cX1_spread 45 = .ok (.dup2, 1) := by decide +kernel
theorem dX1_spread_46 : decode cX1_spread 46 = .ok (.laload, 1) := by decide +kernel
theorem dX1_spread_47 : decode cX1_spread 47 = .ok (.aload_n 1, 1) := by decide +kernel
theorem dX1_spread_48 : decode cX1_spread 48 = .ok (.getfield 56, 3) := by decide +kernel
theorem dX1_spread_51 : decode cX1_spread 51 = .ok (.iload_n 3, 1) := by decide +kernel
theorem dX1_spread_52 : decode cX1_spread 52 = .ok (.laload, 1) := by decide +kernel
theorem dX1_spread_53 : decode cX1_spread 53 = .ok (.ladd, 1) := by decide +kernel
theorem dX1_spread_54 : decode cX1_spread 54 = .ok (.lastore, 1) := by decide +kernel
theorem dX1_spread_55 : decode cX1_spread 55 = .ok (.iinc 3 1, 3) := by decide +kernel
theorem dX1_spread_58 : decode cX1_spread 58 = .ok (.goto (-36), 3) := by decide +kernel
theorem dX1_spread_61 : decode cX1_spread 61 = .ok (.return_, 1) := by decide +kernel
set_option maxRecDepth 20000 in
theorem ggX1_lastState_X8_isInBox : GoodIn wsX1_lastState wsX8_isInBox := goodIn_r _ [5, 6, 7, 8, 9, 10, 11, 12, 13, 14, 15, 16, 17] (by decide +kernel) (by decide +kernel)
set_option maxRecDepth 20000 in
theorem gX1_lastState_X8_isInBox : GoodIn wsX1_lastState (wsV RX1 57 RX8 yX8_isInBox wsX8_isInBox) := goodIn_app (goodIn_of _ (by decide +kernel)) ggX1_lastState_X8_isInBox
set_option maxRecDepth 20000 in
theorem ggX1_lastState_X10_has : GoodIn wsX1_lastState wsX10_has := goodIn_r _ [9] (by decide +kernel) (by decide +kernel)
set_option maxRecDepth 20000 in
theorem gX1_lastState_X10_has_n61 : GoodIn wsX1_lastState (wsX10_has) := ggX1_lastState_X10_has
theorem dX1_lastState_0 : decode cX1_lastState 0 = .ok (.iconst 0, 1) := by decide +kernel
theorem dX1_lastState_1 : decode cX1_lastState 1 = .ok (.istore_n 3, 1) := by decide +kernel
theorem dX1_lastState_2 : decode cX1_lastState 2 = .ok (.iconst 1, 1) := by decide +kernel
theorem dX1_lastState_3 : decode cX1_lastState 3 = .ok (.istore 4, 2) := by decide +kernel
theorem dX1_lastState_5 : decode cX1_lastState 5 = .ok (.iconst 0, 1) := by decide +kernel
theorem dX1_lastState_6 : decode cX1_lastState 6 = .ok (.istore 5, 2) := by decide +kernel
theorem dX1_lastState_8 : decode cX1_lastState 8 = .ok (.iload 5, 2) := by decide +kernel
theorem dX1_lastState_10 : decode cX1_lastState 10 = .ok (.bipush 6, 2) := by decide +kernel
theorem dX1_lastState_12 : decode cX1_lastState 12 = .ok (.if_icmp .ge 44, 3) := by decide +kernel
theorem dX1_lastState_15 : decode cX1_lastState 15 = .ok (.aload_n 1, 1) := by decide +kernel
theorem dX1_lastState_16 : decode cX1_lastState 16 = .ok (.iload 5, 2) := by decide +kernel
theorem dX1_lastState_18 : decode cX1_lastState 18 = .ok (.invokevirtual 57, 3) := by decide +kernel
theorem dX1_lastState_21 : decode cX1_lastState 21 = .ok (.ifCond .eq 29, 3) := by decide +kernel
theorem dX1_lastState_24 : decode cX1_lastState 24 = .ok (.iload_n 3, 1) := by decide +kernel
theorem dX1_lastState_25 : decode cX1_lastState 25 = .ok (.iload 4, 2) := by decide +kernel
theorem dX1_lastState_27 : decode cX1_lastState 27 = .ok (.iload_n 2, 1) := by decide +kernel
theorem dX1_lastState_28 : decode cX1_lastState 28 = .ok (.iload 5, 2) := by decide +kernel
theorem dX1_lastState_30 : decode cX1_lastState 30 = .ok (.invokestatic 61, 3) := by decide +kernel
theorem dX1_lastState_33 : decode cX1_lastState 33 = .ok (.ifCond .eq 7, 3) := by decide +kernel
theorem dX1_lastState_36 : decode cX1_lastState 36 = .ok (.iconst 2, 1) := by decide +kernel
theorem dX1_lastState_37 : decode cX1_lastState 37 = .ok (.goto 4, 3) := by decide +kernel
theorem dX1_lastState_40 : decode cX1_lastState 40 = .ok (.iconst 1, 1) := by decide +kernel
theorem dX1_lastState_41 : decode cX1_lastState 41 = .ok (.imul, 1) := by decide +kernel
theorem dX1_lastState_42 : decode cX1_lastState 42 = .ok (.iadd, 1) := by decide +kernel
theorem dX1_lastState_43 : decode cX1_lastState 43 = .ok (.istore_n 3, 1) := by decide +kernel
theorem dX1_lastState_44 : decode cX1_lastState 44 = .ok (.iload 4, 2) := by decide +kernel
theorem dX1_lastState_46 : decode cX1_lastState 46 = .ok (.iconst 3, 1) := by decide +kernel
theorem dX1_lastState_47 : decode cX1_lastState 47 = .ok (.imul, 1) := by decide +kernel
theorem dX1_lastState_48 : decode cX1_lastState 48 = .ok (.istore 4, 2) := by decide +kernel
theorem dX1_lastState_50 : decode cX1_lastState 50 = .ok (.iinc 5 1, 3) := by decide +kernel
theorem dX1_lastState_53 : decode cX1_lastState 53 = .ok (.goto (-45), 3) := by decide +kernel
theorem dX1_lastState_56 : decode cX1_lastState 56 = .ok (.iload_n 3, 1) := by decide +kernel
theorem dX1_lastState_57 : decode cX1_lastState 57 = .ok (.ireturn, 1) := by decide +kernel
set_option maxRecDepth 20000 in
theorem ggX1_solveState_X1_breakNext : GoodIn wsX1_solveState wsX1_breakNext := goodIn_r _ [10, 11, 12, 1, 2, 13, 3, 14, 15, 16, 17, 18, 19, 20, 4, 21, 22, 23, 24, 25, 26] (by decide +kernel) (by decide +kernel)
set_option maxRecDepth 20000 in
theorem gX1_solveState_X1_breakNext : GoodIn wsX1_solveState (wsV RX1 65 RX1 yX1_breakNext wsX1_breakNext) := goodIn_app (goodIn_of _ (by decide +kernel)) ggX1_solveState_X1_breakNext
theorem dX1_solveState_0 : decode cX1_solveState 0 = .ok (.iconst 0, 1) := by decide +kernel
theorem dX1_solveState_1 : decode cX1_solveState 1 = .ok (.istore_n 2, 1) := by decide +kernel
theorem dX1_solveState_2 : decode cX1_solveState 2 = .ok (.iconst 0, 1) := by decide +kernel
theorem dX1_solveState_3 : decode cX1_solveState 3 = .ok (.istore_n 3, 1) := by decide +kernel
theorem dX1_solveState_4 : decode cX1_solveState 4 = .ok (.iconst 1, 1) := by decide +kernel
theorem dX1_solveState_5 : decode cX1_solveState 5 = .ok (.istore 4, 2) := by decide +kernel
theorem dX1_solveState_7 : decode cX1_solveState 7 = .ok (.iload_n 1, 1) := by decide +kernel
theorem dX1_solveState_8 : decode cX1_solveState 8 = .ok (.istore 5, 2) := by decide +kernel
theorem dX1_solveState_10 : decode cX1_solveState 10 = .ok (.iconst 0, 1) := by decide +kernel
theorem dX1_solveState_11 : decode cX1_solveState 11 = .ok (.istore 6, 2) := by decide +kernel
theorem dX1_solveState_13 : decode cX1_solveState 13 = .ok (.iload 6, 2) := by decide +kernel
theorem dX1_solveState_15 : decode cX1_solveState 15 = .ok (.aload_n 0, 1) := by decide +kernel
theorem dX1_solveState_16 : decode cX1_solveState 16 = .ok (.getfield 32, 3) := by decide +kernel
theorem dX1_solveState_19 : decode cX1_solveState 19 = .ok (.if_icmp .ge 44, 3) := by decide +kernel
theorem dX1_solveState_22 : decode cX1_solveState 22 = .ok (.iload 5, 2) := by decide +kernel
theorem dX1_solveState_24 : decode cX1_solveState 24 = .ok (.iconst 3, 1) := by decide +kernel
theorem dX1_solveState_25 : decode cX1_solveState 25 = .ok (.irem, 1) := by decide +kernel
theorem dX1_solveState_26 : decode cX1_solveState 26 = .ok (.istore 7, 2) := by decide +kernel
theorem dX1_solveState_28 : decode cX1_solveState 28 = .ok (.iload 7, 2) := by decide +kernel
theorem dX1_solveState_30 : decode cX1_solveState 30 = .ok (.iconst 1, 1) := by decide +kernel
theorem dX1_solveState_31 : decode cX1_solveState 31 = .ok (.if_icmp .ne 6, 3) := by decide +kernel
theorem dX1_solveState_34 : decode cX1_solveState 34 = .ok (.iinc 2 1, 3) := by decide +kernel
theorem dX1_solveState_37 : decode cX1_solveState 37 = .ok (.iload 7, 2) := by decide +kernel
theorem dX1_solveState_39 : decode cX1_solveState 39 = .ok (.ifCond .ne 6, 3) := by decide +kernel
theorem dX1_solveState_42 : decode cX1_solveState 42 = .ok (.iload 4, 2) := by decide +kernel
theorem dX1_solveState_44 : decode cX1_solveState 44 = .ok (.istore_n 3, 1) := by decide +kernel
theorem dX1_solveState_45 : decode cX1_solveState 45 = .ok (.iload 5, 2) := by decide +kernel
theorem dX1_solveState_47 : decode cX1_solveState 47 = .ok (.iconst 3, 1) := by decide +kernel
theorem dX1_solveState_48 : decode cX1_solveState 48 = .ok (.idiv, 1) := by decide +kernel
theorem dX1_solveState_49 : decode cX1_solveState 49 = .ok (.istore 5, 2) := by decide +kernel
theorem dX1_solveState_51 : decode cX1_solveState 51 = .ok (.iload 4, 2) := by decide +kernel
theorem dX1_solveState_53 : decode cX1_solveState 53 = .ok (.iconst 3, 1) := by decide +kernel
theorem dX1_solveState_54 : decode cX1_solveState 54 = .ok (.imul, 1) := by decide +kernel
theorem dX1_solveState_55 : decode cX1_solveState 55 = .ok (.istore 4, 2) := by decide +kernel
theorem dX1_solveState_57 : decode cX1_solveState 57 = .ok (.iinc 6 1, 3) := by decide +kernel
theorem dX1_solveState_60 : decode cX1_solveState 60 = .ok (.goto (-47), 3) := by decide +kernel
theorem dX1_solveState_63 : decode cX1_solveState 63 = .ok (.aload_n 0, 1) := by decide +kernel
theorem dX1_solveState_64 : decode cX1_solveState 64 = .ok (.getfield 15, 3) := by decide +kernel
theorem dX1_solveState_67 : decode cX1_solveState 67 = .ok (.iload_n 1, 1) := by decide +kernel
theorem dX1_solveState_68 : decode cX1_solveState 68 = .ok (.lconst 0, 1) := by decide +kernel
theorem dX1_solveState_69 : decode cX1_solveState 69 = .ok (.lastore, 1) := by decide +kernel
theorem dX1_solveState_70 : decode cX1_solveState 70 = .ok (.aload_n 0, 1) := by decide +kernel
theorem dX1_solveState_71 : decode cX1_solveState 71 = .ok (.getfield 18, 3) := by decide +kernel
theorem dX1_solveState_74 : decode cX1_solveState 74 = .ok (.iload_n 1, 1) := by decide +kernel
theorem dX1_solveState_75 : decode cX1_solveState 75 = .ok (.iconst 0, 1) := by decide +kernel
theorem dX1_solveState_76 : decode cX1_solveState 76 = .ok (.iastore, 1) := by decide +kernel
theorem dX1_solveState_77 : decode cX1_solveState 77 = .ok (.iload_n 3, 1) := by decide +kernel
theorem dX1_solveState_78 : decode cX1_solveState 78 = .ok (.ifCond .ne 4, 3) := by decide +kernel
theorem dX1_solveState_81 : decode cX1_solveState 81 = .ok (.return_, 1) := by decide +kernel
theorem dX1_solveState_82 : decode cX1_solveState 82 = .ok (.aload_n 0, 1) := by decide +kernel
theorem dX1_solveState_83 : decode cX1_solveState 83 = .ok (.getfield 11, 3) := by decide +kernel
theorem dX1_solveState_86 : decode cX1_solveState 86 = .ok (.iload_n 1, 1) := by decide +kernel
theorem dX1_solveState_87 : decode cX1_solveState 87 = .ok (.aload_n 0, 1) := by decide +kernel
theorem dX1_solveState_88 : decode cX1_solveState 88 = .ok (.getfield 11, 3) := by decide +kernel
theorem dX1_solveState_91 : decode cX1_solveState 91 = .ok (.iload_n 1, 1) := by decide +kernel
theorem dX1_solveState_92 : decode cX1_solveState 92 = .ok (.iconst 1, 1) := by decide +kernel
theorem dX1_solveState_93 : decode cX1_solveState 93 = .ok (.iload_n 3, 1) := by decide +kernel
theorem dX1_solveState_94 : decode cX1_solveState 94 = .ok (.imul, 1) := by decide +kernel
theorem dX1_solveState_95 : decode cX1_solveState 95 = .ok (.iadd, 1) := by decide +kernel
theorem dX1_solveState_96 : decode cX1_solveState 96 = .ok (.laload, 1) := by decide +kernel
theorem dX1_solveState_97 : decode cX1_solveState 97 = .ok (.aload_n 0, 1) := by decide +kernel
theorem dX1_solveState_98 : decode cX1_solveState 98 = .ok (.getfield 11, 3) := by decide +kernel
theorem dX1_solveState_101 : decode cX1_solveState 101 = .ok (.iload_n 1, 1) := by decide +kernel
theorem dX1_solveState_102 : decode cX1_solveState 102 = .ok (.iconst 2, 1) := by decide +kernel
theorem dX1_solveState_103 : decode cX1_solveState 103 = .ok (.iload_n 3, 1) := by decide +kernel
theorem dX1_solveState_104 : decode cX1_solveState 104 = .ok (.imul, 1) := by decide +kernel
theorem dX1_solveState_105 : decode cX1_solveState 105 = .ok (.iadd, 1) := by decide +kernel
theorem dX1_solveState_106 : decode cX1_solveState 106 = .ok (.laload, 1) := by decide +kernel
theorem dX1_solveState_107 : decode cX1_solveState 107 = .ok (.ladd, 1) := by decide +kernel
theorem dX1_solveState_108 : decode cX1_solveState 108 = .ok (.lastore, 1) := by decide +kernel
theorem dX1_solveState_109 : decode cX1_solveState 109 = .ok (.aload_n 0, 1) := by decide +kernel
theorem dX1_solveState_110 : decode cX1_solveState 110 = .ok (.getfield 11, 3) := by decide +kernel
theorem dX1_solveState_113 : decode cX1_solveState 113 = .ok (.iload_n 1, 1) := by decide +kernel
theorem dX1_solveState_114 : decode cX1_solveState 114 = .ok (.laload, 1) := by decide +kernel
theorem dX1_solveState_115 : decode cX1_solveState 115 = .ok (.lconst 0, 1) := by decide +kernel
theorem dX1_solveState_116 : decode cX1_solveState 116 = .ok (.lcmp, 1) := by decide +kernel
theorem dX1_solveState_117 : decode cX1_solveState 117 = .ok (.ifCond .le 16, 3) := by decide +kernel
theorem dX1_solveState_120 : decode cX1_solveState 120 = .ok (.iload_n 2, 1) := by decide +kernel
theorem dX1_solveState_121 : decode cX1_solveState 121 = .ok (.aload_n 0, 1) := by decide +kernel
theorem dX1_solveState_122 : decode cX1_solveState 122 = .ok (.getfield 22, 3) := by decide +kernel
theorem dX1_solveState_125 : decode cX1_solveState 125 = .ok (.if_icmp .ge 8, 3) := by decide +kernel
theorem dX1_solveState_128 : decode cX1_solveState 128 = .ok (.aload_n 0, 1) := by decide +kernel
theorem dX1_solveState_129 : decode cX1_solveState 129 = .ok (.iload_n 1, 1) := by decide +kernel
theorem dX1_solveState_130 : decode cX1_solveState 130 = .ok (.invokevirtual 65, 3) := by decide +kernel
theorem dX1_solveState_133 : decode cX1_solveState 133 = .ok (.return_, 1) := by decide +kernel
theorem dX1_breakNext_0 : decode cX1_breakNext 0 = .ok (.ldc2_w 70, 3) := by decide +kernel
theorem dX1_breakNext_3 : decode cX1_breakNext 3 = .ok (.lstore_n 2, 1) := by decide +kernel
theorem dX1_breakNext_4 : decode cX1_breakNext 4 = .ok (.ldc 74, 2) := by decide +kernel
theorem dX1_breakNext_6 : decode cX1_breakNext 6 = .ok (.istore 4, 2) := by decide +kernel
theorem dX1_breakNext_8 : decode cX1_breakNext 8 = .ok (.iconst 1, 1) := by decide +kernel
theorem dX1_breakNext_9 : decode cX1_breakNext 9 = .ok (.istore 5, 2) := by decide +kernel
theorem dX1_breakNext_11 : decode cX1_breakNext 11 = .ok (.iload_n 1, 1) := by decide +kernel
theorem dX1_breakNext_12 : decode cX1_breakNext 12 = .ok (.istore 6, 2) := by decide +kernel
theorem dX1_breakNext_14 : decode cX1_breakNext 14 = .ok (.iconst 0, 1) := by decide +kernel
theorem dX1_breakNext_15 : decode cX1_breakNext 15 = .ok (.istore 7, 2) := by decide +kernel
theorem dX1_breakNext_17 : decode cX1_breakNext 17 = .ok (.iload 7, 2) := by decide +kernel
theorem dX1_breakNext_19 : decode cX1_breakNext 19 = .ok (.aload_n 0, 1) := by decide +kernel
theorem dX1_breakNext_20 : decode cX1_breakNext 20 = .ok (.getfield 32, 3) := by decide +kernel
theorem dX1_breakNext_23 : decode cX1_breakNext 23 = .ok (.if_icmp .ge 101, 3) := by decide +kernel
theorem dX1_breakNext_26 : decode cX1_breakNext 26 = .ok (.iload 6, 2) := by decide +kernel
theorem dX1_breakNext_28 : decode cX1_breakNext 28 = .ok (.iconst 3, 1) := by decide +kernel
theorem dX1_breakNext_29 : decode cX1_breakNext 29 = .ok (.irem, 1) := by decide +kernel
theorem dX1_breakNext_30 : decode cX1_breakNext 30 = .ok (.ifCond .ne 76, 3) := by decide +kernel
theorem dX1_breakNext_33 : decode cX1_breakNext 33 = .ok (.iload_n 1, 1) := by decide +kernel
theorem dX1_breakNext_34 : decode cX1_breakNext 34 = .ok (.iconst 1, 1) := by decide +kernel
theorem dX1_breakNext_35 : decode cX1_breakNext 35 = .ok (.iload 5, 2) := by decide +kernel
theorem dX1_breakNext_37 : decode cX1_breakNext 37 = .ok (.imul, 1) := by decide +kernel
theorem dX1_breakNext_38 : decode cX1_breakNext 38 = .ok (.iadd, 1) := by decide +kernel
theorem dX1_breakNext_39 : decode cX1_breakNext 39 = .ok (.istore 8, 2) := by decide +kernel
theorem dX1_breakNext_41 : decode cX1_breakNext 41 = .ok (.iload_n 1, 1) := by decide +kernel
theorem dX1_breakNext_42 : decode cX1_breakNext 42 = .ok (.iconst 2, 1) := by decide +kernel
theorem dX1_breakNext_43 : decode cX1_breakNext 43 = .ok (.iload 5, 2) := by decide +kernel
theorem dX1_breakNext_45 : decode cX1_breakNext 45 = .ok (.imul, 1) := by decide +kernel
theorem dX1_breakNext_46 : decode cX1_breakNext 46 = .ok (.iadd, 1) := by decide +kernel
theorem dX1_breakNext_47 : decode cX1_breakNext 47 = .ok (.istore 9, 2) := by decide +kernel
theorem dX1_breakNext_49 : decode cX1_breakNext 49 = .ok (.aload_n 0, 1) := by decide +kernel
theorem dX1_breakNext_50 : decode cX1_breakNext 50 = .ok (.getfield 15, 3) := by decide +kernel
theorem dX1_breakNext_53 : decode cX1_breakNext 53 = .ok (.iload 8, 2) := by decide +kernel
theorem dX1_breakNext_55 : decode cX1_breakNext 55 = .ok (.laload, 1) := by decide +kernel
theorem dX1_breakNext_56 : decode cX1_breakNext 56 = .ok (.aload_n 0, 1) := by decide +kernel
theorem dX1_breakNext_57 : decode cX1_breakNext 57 = .ok (.getfield 15, 3) := by decide +kernel
theorem dX1_breakNext_60 : decode cX1_breakNext 60 = .ok (.iload 9, 2) := by decide +kernel
theorem dX1_breakNext_62 : decode cX1_breakNext 62 = .ok (.laload, 1) := by decide +kernel
theorem dX1_breakNext_63 : decode cX1_breakNext 63 = .ok (.ladd, 1) := by decide +kernel
theorem dX1_breakNext_64 : decode cX1_breakNext 64 = .ok (.lstore 10, 2) := by decide +kernel
theorem dX1_breakNext_66 : decode cX1_breakNext 66 = .ok (.lload 10, 2) := by decide +kernel
theorem dX1_breakNext_68 : decode cX1_breakNext 68 = .ok (.lload_n 2, 1) := by decide +kernel
theorem dX1_breakNext_69 : decode cX1_breakNext 69 = .ok (.lcmp, 1) := by decide +kernel
theorem dX1_breakNext_70 : decode cX1_breakNext 70 = .ok (.ifCond .ge 12, 3) := by decide +kernel
theorem dX1_breakNext_73 : decode cX1_breakNext 73 = .ok (.lload 10, 2) := by decide +kernel
theorem dX1_breakNext_75 : decode cX1_breakNext 75 = .ok (.lstore_n 2, 1) := by decide +kernel
theorem dX1_breakNext_76 : decode cX1_breakNext 76 = .ok (.aload_n 0, 1) := by decide +kernel
theorem dX1_breakNext_77 : decode cX1_breakNext 77 = .ok (.iload 7, 2) := by decide +kernel
theorem dX1_breakNext_79 : decode cX1_breakNext 79 = .ok (.putfield 43, 3) := by decide +kernel
theorem dX1_breakNext_82 : decode cX1_breakNext 82 = .ok (.iload 4, 2) := by decide +kernel
theorem dX1_breakNext_84 : decode cX1_breakNext 84 = .ok (.aload_n 0, 1) := by decide +kernel
theorem dX1_breakNext_85 : decode cX1_breakNext 85 = .ok (.getfield 18, 3) := by decide +kernel
theorem dX1_breakNext_88 : decode cX1_breakNext 88 = .ok (.iload 8, 2) := by decide +kernel
theorem dX1_breakNext_90 : decode cX1_breakNext 90 = .ok (.iaload, 1) := by decide +kernel
theorem dX1_breakNext_91 : decode cX1_breakNext 91 = .ok (.aload_n 0, 1) := by decide +kernel
theorem dX1_breakNext_92 : decode cX1_breakNext 92 = .ok (.getfield 18, 3) := by decide +kernel
theorem dX1_breakNext_95 : decode cX1_breakNext 95 = .ok (.iload 9, 2) := by decide +kernel
theorem dX1_breakNext_97 : decode cX1_breakNext 97 = .ok (.iaload, 1) := by decide +kernel
theorem dX1_breakNext_98 : decode cX1_breakNext 98 = .ok (.invokestatic 75, 3) := by decide +kernel
theorem dX1_breakNext_101 : decode cX1_breakNext 101 = .ok (.invokestatic 81, 3) := by decide +kernel
theorem dX1_breakNext_104 : decode cX1_breakNext 104 = .ok (.istore 4, 2) := by decide +kernel
theorem dX1_breakNext_106 : decode cX1_breakNext 106 = .ok (.iload 6, 2) := by decide +kernel
theorem dX1_breakNext_108 : decode cX1_breakNext 108 = .ok (.iconst 3, 1) := by decide +kernel
theorem dX1_breakNext_109 : decode cX1_breakNext 109 = .ok (.idiv, 1) := by decide +kernel
theorem dX1_breakNext_110 : decode cX1_breakNext 110 = .ok (.istore 6, 2) := by decide +kernel
theorem dX1_breakNext_112 : decode cX1_breakNext 112 = .ok (.iload 5, 2) := by decide +kernel
theorem dX1_breakNext_114 : decode cX1_breakNext 114 = .ok (.iconst 3, 1) := by decide +kernel
theorem dX1_breakNext_115 : decode cX1_breakNext 115 = .ok (.imul, 1) := by decide +kernel
theorem dX1_breakNext_116 : decode cX1_breakNext 116 = .ok (.istore 5, 2) := by decide +kernel
theorem dX1_breakNext_118 : decode cX1_breakNext 118 = .ok (.iinc 7 1, 3) := by decide +kernel
theorem dX1_breakNext_121 : decode cX1_breakNext 121 = .ok (.goto (-104), 3) := by decide +kernel
theorem dX1_breakNext_124 : decode cX1_breakNext 124 = .ok (.aload_n 0, 1) := by decide +kernel
theorem dX1_breakNext_125 : decode cX1_breakNext 125 = .ok (.getfield 15, 3) := by decide +kernel
theorem dX1_breakNext_128 : decode cX1_breakNext 128 = .ok (.iload_n 1, 1) := by decide +kernel
theorem dX1_breakNext_129 : decode cX1_breakNext 129 = .ok (.aload_n 0, 1) := by decide +kernel
theorem dX1_breakNext_130 : decode cX1_breakNext 130 = .ok (.getfield 11, 3) := by decide +kernel
theorem dX1_breakNext_133 : decode cX1_breakNext 133 = .ok (.iload_n 1, 1) := by decide +kernel
theorem dX1_breakNext_134 : decode cX1_breakNext 134 = .ok (.laload, 1) := by decide +kernel
theorem dX1_breakNext_135 : decode cX1_breakNext 135 = .ok (.lload_n 2, 1) := by decide +kernel
theorem dX1_breakNext_136 : decode cX1_breakNext 136 = .ok (.ladd, 1) := by decide +kernel
theorem dX1_breakNext_137 : decode cX1_breakNext 137 = .ok (.lastore, 1) := by decide +kernel
theorem dX1_breakNext_138 : decode cX1_breakNext 138 = .ok (.aload_n 0, 1) := by decide +kernel
theorem dX1_breakNext_139 : decode cX1_breakNext 139 = .ok (.getfield 18, 3) := by decide +kernel
theorem dX1_breakNext_142 : decode cX1_breakNext 142 = .ok (.iload_n 1, 1) := by decide +kernel
theorem dX1_breakNext_143 : decode cX1_breakNext 143 = .ok (.iconst 1, 1) := by decide +kernel
theorem dX1_breakNext_144 : decode cX1_breakNext 144 = .ok (.iload 4, 2) := by decide +kernel
theorem dX1_breakNext_146 : decode cX1_breakNext 146 = .ok (.iadd, 1) := by decide +kernel
theorem dX1_breakNext_147 : decode cX1_breakNext 147 = .ok (.iastore, 1) := by decide +kernel
theorem dX1_breakNext_148 : decode cX1_breakNext 148 = .ok (.return_, 1) := by decide +kernel
set_option maxRecDepth 20000 in
theorem ggX2_init_X9_init : GoodIn wsX2_init wsX9_init := goodIn_r _ [3, 4, 5, 6] (by decide +kernel) (by decide +kernel)
set_option maxRecDepth 20000 in
theorem gX2_init_X9_init_n1 : GoodIn wsX2_init (wsX9_init) := ggX2_init_X9_init
theorem dX2_init_0 : decode cX2_init 0 = .ok (.aload_n 0, 1) := by decide +kernel
theorem dX2_init_1 : decode cX2_init 1 = .ok (.invokespecial 1, 3) := by decide +kernel
theorem dX2_init_4 : decode cX2_init 4 = .ok (.return_, 1) := by decide +kernel
theorem dX2_kind_0 : decode cX2_kind 0 = .ok (.iconst 1, 1) := by decide +kernel
theorem dX2_kind_1 : decode cX2_kind 1 = .ok (.ireturn, 1) := by decide +kernel
set_option maxRecDepth 20000 in
theorem ggX2_score_X8_boiledWeight : GoodIn wsX2_score wsX8_boiledWeight := goodIn_r _ [10, 11, 12, 13, 14, 15, 16, 21, 22, 23, 24, 25, 26, 27, 28] (by decide +kernel) (by decide +kernel)
set_option maxRecDepth 20000 in
theorem gX2_score_X8_boiledWeight : GoodIn wsX2_score (wsV RX2 9 RX8 yX8_boiledWeight wsX8_boiledWeight) := goodIn_app (goodIn_of _ (by decide +kernel)) ggX2_score_X8_boiledWeight
set_option maxRecDepth 20000 in
theorem ggX2_score_X8_allWeight : GoodIn wsX2_score wsX8_allWeight := goodIn_r _ [20, 11, 13, 21, 22, 23, 24, 25, 26, 27, 28] (by decide +kernel) (by decide +kernel)
set_option maxRecDepth 20000 in
theorem gX2_score_X8_allWeight : GoodIn wsX2_score (wsV RX2 15 RX8 yX8_allWeight wsX8_allWeight) := goodIn_app (goodIn_of _ (by decide +kernel)) ggX2_score_X8_allWeight
theorem dX2_score_0 : decode cX2_score 0 = .ok (.ldc2_w 7, 3) := by decide +kernel
theorem dX2_score_3 : decode cX2_score 3 = .ok (.aload_n 1, 1) := by decide +kernel
theorem dX2_score_4 : decode cX2_score 4 = .ok (.iload_n 2, 1) := by decide +kernel
theorem dX2_score_5 : decode cX2_score 5 = .ok (.invokevirtual 9, 3) := by decide +kernel
theorem dX2_score_8 : decode cX2_score 8 = .ok (.lmul, 1) := by decide +kernel
theorem dX2_score_9 : decode cX2_score 9 = .ok (.aload_n 1, 1) := by decide +kernel
theorem dX2_score_10 : decode cX2_score 10 = .ok (.invokevirtual 15, 3) := by decide +kernel
theorem dX2_score_13 : decode cX2_score 13 = .ok (.lsub, 1) := by decide +kernel
theorem dX2_score_14 : decode cX2_score 14 = .ok (.invokestatic 19, 3) := by decide +kernel
theorem dX2_score_17 : decode cX2_score 17 = .ok (.lreturn, 1) := by decide +kernel
theorem dX3_init_0 : decode cX3_init 0 = .ok (.aload_n 0, 1) := by decide +kernel
theorem dX3_init_1 : decode cX3_init 1 = .ok (.invokespecial 1, 3) := by decide +kernel
theorem dX3_init_4 : decode cX3_init 4 = .ok (.return_, 1) := by decide +kernel
theorem dX3_startFrom_0 : decode cX3_startFrom 0 = .ok (.aload_n 0, 1) := by decide +kernel
theorem dX3_startFrom_1 : decode cX3_startFrom 1 = .ok (.iload_n 1, 1) := by decide +kernel
theorem dX3_startFrom_2 : decode cX3_startFrom 2 = .ok (.i2l, 1) := by decide +kernel
theorem dX3_startFrom_3 : decode cX3_startFrom 3 = .ok (.putfield 7, 3) := by decide +kernel
theorem dX3_startFrom_6 : decode cX3_startFrom 6 = .ok (.return_, 1) := by decide +kernel
theorem dX3_next_0 : decode cX3_next 0 = .ok (.aload_n 0, 1) := by decide +kernel
theorem dX3_next_1 : decode cX3_next 1 = .ok (.ldc2_w 13, 3) := by decide +kernel
theorem dX3_next_4 : decode cX3_next 4 = .ok (.aload_n 0, 1) := by decide +kernel
theorem dX3_next_5 : decode cX3_next 5 = .ok (.getfield 7, 3) := by decide +kernel
theorem dX3_next_8 : decode cX3_next 8 = .ok (.lmul, 1) := by decide +kernel
theorem dX3_next_9 : decode cX3_next 9 = .ok (.ldc2_w 15, 3) := by decide +kernel
theorem dX3_next_12 : decode cX3_next 12 = .ok (.ladd, 1) := by decide +kernel
theorem dX3_next_13 : decode cX3_next 13 = .ok (.ldc2_w 17, 3) := by decide +kernel
theorem dX3_next_16 : decode cX3_next 16 = .ok (.lrem, 1) := by decide +kernel
theorem dX3_next_17 : decode cX3_next 17 = .ok (.putfield 7, 3) := by decide +kernel
theorem dX3_next_20 : decode cX3_next 20 = .ok (.iload_n 1, 1) := by decide +kernel
theorem dX3_next_21 : decode cX3_next 21 = .ok (.ifCond .le 18, 3) := by decide +kernel
theorem dX3_next_24 : decode cX3_next 24 = .ok (.aload_n 0, 1) := by decide +kernel
theorem dX3_next_25 : decode cX3_next 25 = .ok (.getfield 7, 3) := by decide +kernel
theorem dX3_next_28 : decode cX3_next 28 = .ok (.ldc2_w 19, 3) := by decide +kernel
theorem dX3_next_31 : decode cX3_next 31 = .ok (.ldiv, 1) := by decide +kernel
theorem dX3_next_32 : decode cX3_next 32 = .ok (.iload_n 1, 1) := by decide +kernel
theorem dX3_next_33 : decode cX3_next 33 = .ok (.i2l, 1) := by decide +kernel
theorem dX3_next_34 : decode cX3_next 34 = .ok (.lrem, 1) := by decide +kernel
theorem dX3_next_35 : decode cX3_next 35 = .ok (.l2i, 1) := by decide +kernel
theorem dX3_next_36 : decode cX3_next 36 = .ok (.goto 4, 3) := by decide +kernel
theorem dX3_next_39 : decode cX3_next 39 = .ok (.iconst 0, 1) := by decide +kernel
theorem dX3_next_40 : decode cX3_next 40 = .ok (.ireturn, 1) := by decide +kernel
set_option maxRecDepth 20000 in
theorem ggX4_init_X5_init : GoodIn wsX4_init wsX5_init := goodIn_r _ [3, 4, 5, 6, 7, 8, 9] (by decide +kernel) (by decide +kernel)
set_option maxRecDepth 20000 in
theorem gX4_init_X5_init_n1 : GoodIn wsX4_init (wsX5_init) := ggX4_init_X5_init
theorem dX4_init_0 : decode cX4_init 0 = .ok (.aload_n 0, 1) := by decide +kernel
theorem dX4_init_1 : decode cX4_init 1 = .ok (.invokespecial 1, 3) := by decide +kernel
theorem dX4_init_4 : decode cX4_init 4 = .ok (.return_, 1) := by decide +kernel
theorem dX4_kind_0 : decode cX4_kind 0 = .ok (.iconst 4, 1) := by decide +kernel
theorem dX4_kind_1 : decode cX4_kind 1 = .ok (.ireturn, 1) := by decide +kernel
theorem dX4_takesLast_0 : decode cX4_takesLast 0 = .ok (.iconst 1, 1) := by decide +kernel
theorem dX4_takesLast_1 : decode cX4_takesLast 1 = .ok (.ireturn, 1) := by decide +kernel
set_option maxRecDepth 20000 in
theorem ggX5_init_X9_init : GoodIn wsX5_init wsX9_init := goodIn_r _ [3, 4, 5, 6] (by decide +kernel) (by decide +kernel)
set_option maxRecDepth 20000 in
theorem gX5_init_X9_init_n1 : GoodIn wsX5_init (wsX9_init) := ggX5_init_X9_init
theorem dX5_init_0 : decode cX5_init 0 = .ok (.aload_n 0, 1) := by decide +kernel
theorem dX5_init_1 : decode cX5_init 1 = .ok (.invokespecial 1, 3) := by decide +kernel
theorem dX5_init_4 : decode cX5_init 4 = .ok (.return_, 1) := by decide +kernel
theorem dX5_kind_0 : decode cX5_kind 0 = .ok (.iconst 3, 1) := by decide +kernel
theorem dX5_kind_1 : decode cX5_kind 1 = .ok (.ireturn, 1) := by decide +kernel
set_option maxRecDepth 20000 in
theorem ggX5_score_X8_boiledWeight : GoodIn wsX5_score wsX8_boiledWeight := goodIn_r _ [5, 6, 7, 8, 9, 10, 11, 12, 13, 14, 15, 16, 17, 18, 19] (by decide +kernel) (by decide +kernel)
set_option maxRecDepth 20000 in
theorem gX5_score_X8_boiledWeight : GoodIn wsX5_score (wsV RX5 7 RX8 yX8_boiledWeight wsX8_boiledWeight) := goodIn_app (goodIn_of _ (by decide +kernel)) ggX5_score_X8_boiledWeight
theorem dX5_score_0 : decode cX5_score 0 = .ok (.aload_n 1, 1) := by decide +kernel
theorem dX5_score_1 : decode cX5_score 1 = .ok (.iload_n 2, 1) := by decide +kernel
theorem dX5_score_2 : decode cX5_score 2 = .ok (.invokevirtual 7, 3) := by decide +kernel
theorem dX5_score_5 : decode cX5_score 5 = .ok (.lneg, 1) := by decide +kernel
theorem dX5_score_6 : decode cX5_score 6 = .ok (.lreturn, 1) := by decide +kernel
theorem dX6_init_0 : decode cX6_init 0 = .ok (.aload_n 0, 1) := by decide +kernel
theorem dX6_init_1 : decode cX6_init 1 = .ok (.invokespecial 3, 3) := by decide +kernel
theorem dX6_init_4 : decode cX6_init 4 = .ok (.aload_n 0, 1) := by decide +kernel
theorem dX6_init_5 : decode cX6_init 5 = .ok (.bipush 6, 2) := by decide +kernel
theorem dX6_init_7 : decode cX6_init 7 = .ok (.newarray .int, 2) := by decide +kernel
theorem dX6_init_9 : decode cX6_init 9 = .ok (.putfield 9, 3) := by decide +kernel
theorem dX6_init_12 : decode cX6_init 12 = .ok (.return_, 1) := by decide +kernel
set_option maxRecDepth 20000 in
theorem ggX6_readFrom_X7_digit : GoodIn wsX6_readFrom wsX7_digit := goodIn_r _ [15, 16, 17, 24, 25] (by decide +kernel) (by decide +kernel)
set_option maxRecDepth 20000 in
theorem gX6_readFrom_X7_digit : GoodIn wsX6_readFrom (wsV RX6 15 RX7 yX7_digit wsX7_digit) := goodIn_app (goodIn_of _ (by decide +kernel)) ggX6_readFrom_X7_digit
theorem dX6_readFrom_0 : decode cX6_readFrom 0 = .ok (.aload_n 0, 1) := by decide +kernel
theorem dX6_readFrom_1 : decode cX6_readFrom 1 = .ok (.aload_n 1, 1) := by decide +kernel
theorem dX6_readFrom_2 : decode cX6_readFrom 2 = .ok (.iconst 0, 1) := by decide +kernel
theorem dX6_readFrom_3 : decode cX6_readFrom 3 = .ok (.invokevirtual 15, 3) := by decide +kernel
theorem dX6_readFrom_6 : decode cX6_readFrom 6 = .ok (.bipush 6, 2) := by decide +kernel
theorem dX6_readFrom_8 : decode cX6_readFrom 8 = .ok (.invokestatic 21, 3) := by decide +kernel
theorem dX6_readFrom_11 : decode cX6_readFrom 11 = .ok (.putfield 27, 3) := by decide +kernel
theorem dX6_readFrom_14 : decode cX6_readFrom 14 = .ok (.aload_n 0, 1) := by decide +kernel
theorem dX6_readFrom_15 : decode cX6_readFrom 15 = .ok (.aload_n 1, 1) := by decide +kernel
theorem dX6_readFrom_16 : decode cX6_readFrom 16 = .ok (.iconst 1, 1) := by decide +kernel
theorem dX6_readFrom_17 : decode cX6_readFrom 17 = .ok (.invokevirtual 15, 3) := by decide +kernel
theorem dX6_readFrom_20 : decode cX6_readFrom 20 = .ok (.putfield 31, 3) := by decide +kernel
theorem dX6_readFrom_23 : decode cX6_readFrom 23 = .ok (.aload_n 0, 1) := by decide +kernel
theorem dX6_readFrom_24 : decode cX6_readFrom 24 = .ok (.aload_n 1, 1) := by decide +kernel
theorem dX6_readFrom_25 : decode cX6_readFrom 25 = .ok (.iconst 3, 1) := by decide +kernel
theorem dX6_readFrom_26 : decode cX6_readFrom 26 = .ok (.invokevirtual 15, 3) := by decide +kernel
theorem dX6_readFrom_29 : decode cX6_readFrom 29 = .ok (.putfield 34, 3) := by decide +kernel
theorem dX6_readFrom_32 : decode cX6_readFrom 32 = .ok (.aload_n 0, 1) := by decide +kernel
theorem dX6_readFrom_33 : decode cX6_readFrom 33 = .ok (.aload_n 1, 1) := by decide +kernel
theorem dX6_readFrom_34 : decode cX6_readFrom 34 = .ok (.iconst 4, 1) := by decide +kernel
theorem dX6_readFrom_35 : decode cX6_readFrom 35 = .ok (.invokevirtual 15, 3) := by decide +kernel
theorem dX6_readFrom_38 : decode cX6_readFrom 38 = .ok (.putfield 37, 3) := by decide +kernel
theorem dX6_readFrom_41 : decode cX6_readFrom 41 = .ok (.aload_n 0, 1) := by decide +kernel
theorem dX6_readFrom_42 : decode cX6_readFrom 42 = .ok (.aload_n 1, 1) := by decide +kernel
theorem dX6_readFrom_43 : decode cX6_readFrom 43 = .ok (.iconst 5, 1) := by decide +kernel
theorem dX6_readFrom_44 : decode cX6_readFrom 44 = .ok (.invokevirtual 15, 3) := by decide +kernel
theorem dX6_readFrom_47 : decode cX6_readFrom 47 = .ok (.putfield 40, 3) := by decide +kernel
theorem dX6_readFrom_50 : decode cX6_readFrom 50 = .ok (.iconst 0, 1) := by decide +kernel
theorem dX6_readFrom_51 : decode cX6_readFrom 51 = .ok (.istore_n 2, 1) := by decide +kernel
theorem dX6_readFrom_52 : decode cX6_readFrom 52 = .ok (.iload_n 2, 1) := by decide +kernel
theorem dX6_readFrom_53 : decode cX6_readFrom 53 = .ok (.aload_n 0, 1) := by decide +kernel
theorem dX6_readFrom_54 : decode cX6_readFrom 54 = .ok (.getfield 27, 3) := by decide +kernel
theorem dX6_readFrom_57 : decode cX6_readFrom 57 = .ok (.if_icmp .ge 23, 3) := by decide +kernel
theorem dX6_readFrom_60 : decode cX6_readFrom 60 = .ok (.aload_n 0, 1) := by decide +kernel
theorem dX6_readFrom_61 : decode cX6_readFrom 61 = .ok (.getfield 9, 3) := by decide +kernel
theorem dX6_readFrom_64 : decode cX6_readFrom 64 = .ok (.iload_n 2, 1) := by decide +kernel
theorem dX6_readFrom_65 : decode cX6_readFrom 65 = .ok (.aload_n 1, 1) := by decide +kernel
theorem dX6_readFrom_66 : decode cX6_readFrom 66 = .ok (.bipush 7, 2) := by decide +kernel
theorem dX6_readFrom_68 : decode cX6_readFrom 68 = .ok (.iload_n 2, 1) := by decide +kernel
theorem dX6_readFrom_69 : decode cX6_readFrom 69 = .ok (.iadd, 1) := by decide +kernel
theorem dX6_readFrom_70 : decode cX6_readFrom 70 = .ok (.invokevirtual 15, 3) := by decide +kernel
theorem dX6_readFrom_73 : decode cX6_readFrom 73 = .ok (.iastore, 1) := by decide +kernel
theorem dX6_readFrom_74 : decode cX6_readFrom 74 = .ok (.iinc 2 1, 3) := by decide +kernel
theorem dX6_readFrom_77 : decode cX6_readFrom 77 = .ok (.goto (-25), 3) := by decide +kernel
theorem dX6_readFrom_80 : decode cX6_readFrom 80 = .ok (.return_, 1) := by decide +kernel
theorem dX6_allEggs_0 : decode cX6_allEggs 0 = .ok (.iconst 1, 1) := by decide +kernel
theorem dX6_allEggs_1 : decode cX6_allEggs 1 = .ok (.aload_n 0, 1) := by decide +kernel
theorem dX6_allEggs_2 : decode cX6_allEggs 2 = .ok (.getfield 27, 3) := by decide +kernel
theorem dX6_allEggs_5 : decode cX6_allEggs 5 = .ok (.ishl, 1) := by decide +kernel
theorem dX6_allEggs_6 : decode cX6_allEggs 6 = .ok (.iconst 1, 1) := by decide +kernel
theorem dX6_allEggs_7 : decode cX6_allEggs 7 = .ok (.isub, 1) := by decide +kernel
theorem dX6_allEggs_8 : decode cX6_allEggs 8 = .ok (.ireturn, 1) := by decide +kernel
theorem dX6_tenthsOf_0 : decode cX6_tenthsOf 0 = .ok (.iload_n 1, 1) := by decide +kernel
theorem dX6_tenthsOf_1 : decode cX6_tenthsOf 1 = .ok (.ifCond .eq 10, 3) := by decide +kernel
theorem dX6_tenthsOf_4 : decode cX6_tenthsOf 4 = .ok (.aload_n 0, 1) := by decide +kernel
theorem dX6_tenthsOf_5 : decode cX6_tenthsOf 5 = .ok (.getfield 34, 3) := by decide +kernel
theorem dX6_tenthsOf_8 : decode cX6_tenthsOf 8 = .ok (.goto 7, 3) := by decide +kernel
theorem dX6_tenthsOf_11 : decode cX6_tenthsOf 11 = .ok (.aload_n 0, 1) := by decide +kernel
theorem dX6_tenthsOf_12 : decode cX6_tenthsOf 12 = .ok (.getfield 37, 3) := by decide +kernel
theorem dX6_tenthsOf_15 : decode cX6_tenthsOf 15 = .ok (.istore_n 3, 1) := by decide +kernel
theorem dX6_tenthsOf_16 : decode cX6_tenthsOf 16 = .ok (.iload_n 2, 1) := by decide +kernel
theorem dX6_tenthsOf_17 : decode cX6_tenthsOf 17 = .ok (.ifCond .eq 7, 3) := by decide +kernel
theorem dX6_tenthsOf_20 : decode cX6_tenthsOf 20 = .ok (.iload_n 3, 1) := by decide +kernel
theorem dX6_tenthsOf_21 : decode cX6_tenthsOf 21 = .ok (.goto 7, 3) := by decide +kernel
theorem dX6_tenthsOf_24 : decode cX6_tenthsOf 24 = .ok (.bipush 10, 2) := by decide +kernel
theorem dX6_tenthsOf_26 : decode cX6_tenthsOf 26 = .ok (.iload_n 3, 1) := by decide +kernel
theorem dX6_tenthsOf_27 : decode cX6_tenthsOf 27 = .ok (.isub, 1) := by decide +kernel
theorem dX6_tenthsOf_28 : decode cX6_tenthsOf 28 = .ok (.ireturn, 1) := by decide +kernel
set_option maxRecDepth 20000 in
theorem ggX6_habitsOf_X10_has : GoodIn wsX6_habitsOf wsX10_has := goodIn_r _ [5] (by decide +kernel) (by decide +kernel)
set_option maxRecDepth 20000 in
theorem gX6_habitsOf_X10_has_n43 : GoodIn wsX6_habitsOf (wsX10_has) := ggX6_habitsOf_X10_has
theorem dX6_habitsOf_0 : decode cX6_habitsOf 0 = .ok (.lconst 1, 1) := by decide +kernel
theorem dX6_habitsOf_1 : decode cX6_habitsOf 1 = .ok (.lstore_n 2, 1) := by decide +kernel
theorem dX6_habitsOf_2 : decode cX6_habitsOf 2 = .ok (.iconst 0, 1) := by decide +kernel
theorem dX6_habitsOf_3 : decode cX6_habitsOf 3 = .ok (.istore 4, 2) := by decide +kernel
theorem dX6_habitsOf_5 : decode cX6_habitsOf 5 = .ok (.iload 4, 2) := by decide +kernel
theorem dX6_habitsOf_7 : decode cX6_habitsOf 7 = .ok (.aload_n 0, 1) := by decide +kernel
theorem dX6_habitsOf_8 : decode cX6_habitsOf 8 = .ok (.getfield 27, 3) := by decide +kernel
theorem dX6_habitsOf_11 : decode cX6_habitsOf 11 = .ok (.if_icmp .ge 29, 3) := by decide +kernel
theorem dX6_habitsOf_14 : decode cX6_habitsOf 14 = .ok (.iload_n 1, 1) := by decide +kernel
theorem dX6_habitsOf_15 : decode cX6_habitsOf 15 = .ok (.iload 4, 2) := by decide +kernel
theorem dX6_habitsOf_17 : decode cX6_habitsOf 17 = .ok (.invokestatic 43, 3) := by decide +kernel
theorem dX6_habitsOf_20 : decode cX6_habitsOf 20 = .ok (.ifCond .eq 14, 3) := by decide +kernel
theorem dX6_habitsOf_23 : decode cX6_habitsOf 23 = .ok (.lload_n 2, 1) := by decide +kernel
theorem dX6_habitsOf_24 : decode cX6_habitsOf 24 = .ok (.aload_n 0, 1) := by decide +kernel
theorem dX6_habitsOf_25 : decode cX6_habitsOf 25 = .ok (.getfield 9, 3) := by decide +kernel
theorem dX6_habitsOf_28 : decode cX6_habitsOf 28 = .ok (.iload 4, 2) := by decide +kernel
theorem dX6_habitsOf_30 : decode cX6_habitsOf 30 = .ok (.iaload, 1) := by decide +kernel
theorem dX6_habitsOf_31 : decode cX6_habitsOf 31 = .ok (.i2l, 1) := by decide +kernel
theorem dX6_habitsOf_32 : decode cX6_habitsOf 32 = .ok (.lmul, 1) := by decide +kernel
theorem dX6_habitsOf_33 : decode cX6_habitsOf 33 = .ok (.lstore_n 2, 1) := by decide +kernel
theorem dX6_habitsOf_34 : decode cX6_habitsOf 34 = .ok (.iinc 4 1, 3) := by decide +kernel
theorem dX6_habitsOf_37 : decode cX6_habitsOf 37 = .ok (.goto (-32), 3) := by decide +kernel
theorem dX6_habitsOf_40 : decode cX6_habitsOf 40 = .ok (.lload_n 2, 1) := by decide +kernel
theorem dX6_habitsOf_41 : decode cX6_habitsOf 41 = .ok (.lreturn, 1) := by decide +kernel
theorem dX7_init_0 : decode cX7_init 0 = .ok (.aload_n 0, 1) := by decide +kernel
theorem dX7_init_1 : decode cX7_init 1 = .ok (.invokespecial 3, 3) := by decide +kernel
theorem dX7_init_4 : decode cX7_init 4 = .ok (.aload_n 0, 1) := by decide +kernel
theorem dX7_init_5 : decode cX7_init 5 = .ok (.bipush 14, 2) := by decide +kernel
theorem dX7_init_7 : decode cX7_init 7 = .ok (.newarray .int, 2) := by decide +kernel
theorem dX7_init_9 : decode cX7_init 9 = .ok (.putfield 9, 3) := by decide +kernel
theorem dX7_init_12 : decode cX7_init 12 = .ok (.return_, 1) := by decide +kernel
theorem dX7_isFull_0 : decode cX7_isFull 0 = .ok (.aload_n 0, 1) := by decide +kernel
theorem dX7_isFull_1 : decode cX7_isFull 1 = .ok (.getfield 15, 3) := by decide +kernel
theorem dX7_isFull_4 : decode cX7_isFull 4 = .ok (.bipush 14, 2) := by decide +kernel
theorem dX7_isFull_6 : decode cX7_isFull 6 = .ok (.if_icmp .lt 7, 3) := by decide +kernel
theorem dX7_isFull_9 : decode cX7_isFull 9 = .ok (.iconst 1, 1) := by decide +kernel
theorem dX7_isFull_10 : decode cX7_isFull 10 = .ok (.goto 4, 3) := by decide +kernel
theorem dX7_isFull_13 : decode cX7_isFull 13 = .ok (.iconst 0, 1) := by decide +kernel
theorem dX7_isFull_14 : decode cX7_isFull 14 = .ok (.ireturn, 1) := by decide +kernel
set_option maxRecDepth 20000 in
theorem ggX7_append_X7_isFull : GoodIn wsX7_append wsX7_isFull := goodIn_r _ [7, 2, 8, 9] (by decide +kernel) (by decide +kernel)
set_option maxRecDepth 20000 in
theorem gX7_append_X7_isFull : GoodIn wsX7_append (wsV RX7 19 RX7 yX7_isFull wsX7_isFull) := goodIn_app (goodIn_of _ (by decide +kernel)) ggX7_append_X7_isFull
theorem dX7_append_0 : decode cX7_append 0 = .ok (.aload_n 0, 1) := by decide +kernel
theorem dX7_append_1 : decode cX7_append 1 = .ok (.invokevirtual 19, 3) := by decide +kernel
theorem dX7_append_4 : decode cX7_append 4 = .ok (.ifCond .ne 20, 3) := by decide +kernel
theorem dX7_append_7 : decode cX7_append 7 = .ok (.aload_n 0, 1) := by decide +kernel
theorem dX7_append_8 : decode cX7_append 8 = .ok (.getfield 9, 3) := by decide +kernel
theorem dX7_append_11 : decode cX7_append 11 = .ok (.aload_n 0, 1) := by decide +kernel
theorem dX7_append_12 : decode cX7_append 12 = .ok (.dup, 1) := by decide +kernel
theorem dX7_append_13 : decode cX7_append 13 = .ok (.getfield 15, 3) := by decide +kernel
theorem dX7_append_16 : decode cX7_append 16 = .ok (.dup_x1, 1) := by decide +kernel
theorem dX7_append_17 : decode cX7_append 17 = .ok (.iconst 1, 1) := by decide +kernel
theorem dX7_append_18 : decode cX7_append 18 = .ok (.iadd, 1) := by decide +kernel
theorem dX7_append_19 : decode cX7_append 19 = .ok (.putfield 15, 3) := by decide +kernel
theorem dX7_append_22 : decode cX7_append 22 = .ok (.iload_n 1, 1) := by decide +kernel
theorem dX7_append_23 : decode cX7_append 23 = .ok (.iastore, 1) := by decide +kernel
theorem dX7_append_24 : decode cX7_append 24 = .ok (.aload_n 0, 1) := by decide +kernel
theorem dX7_append_25 : decode cX7_append 25 = .ok (.getfield 15, 3) := by decide +kernel
theorem dX7_append_28 : decode cX7_append 28 = .ok (.ireturn, 1) := by decide +kernel
theorem dX7_clear_0 : decode cX7_clear 0 = .ok (.aload_n 0, 1) := by decide +kernel
theorem dX7_clear_1 : decode cX7_clear 1 = .ok (.getfield 15, 3) := by decide +kernel
theorem dX7_clear_4 : decode cX7_clear 4 = .ok (.istore_n 1, 1) := by decide +kernel
theorem dX7_clear_5 : decode cX7_clear 5 = .ok (.aload_n 0, 1) := by decide +kernel
theorem dX7_clear_6 : decode cX7_clear 6 = .ok (.iconst 0, 1) := by decide +kernel
theorem dX7_clear_7 : decode cX7_clear 7 = .ok (.putfield 15, 3) := by decide +kernel
theorem dX7_clear_10 : decode cX7_clear 10 = .ok (.iload_n 1, 1) := by decide +kernel
theorem dX7_clear_11 : decode cX7_clear 11 = .ok (.ireturn, 1) := by decide +kernel
set_option maxRecDepth 20000 in
theorem ggX7_firstFault_X7_suits : GoodIn wsX7_firstFault wsX7_suits := goodIn_r _ [6, 7, 8, 9, 10, 5, 11, 12, 13, 14, 15, 1, 16, 17] (by decide +kernel) (by decide +kernel)
set_option maxRecDepth 20000 in
theorem gX7_firstFault_X7_suits : GoodIn wsX7_firstFault (wsV RX7 23 RX7 yX7_suits wsX7_suits) := goodIn_app (goodIn_of _ (by decide +kernel)) ggX7_firstFault_X7_suits
theorem dX7_firstFault_0 : decode cX7_firstFault 0 = .ok (.iconst 0, 1) := by decide +kernel
theorem dX7_firstFault_1 : decode cX7_firstFault 1 = .ok (.istore_n 1, 1) := by decide +kernel
theorem dX7_firstFault_2 : decode cX7_firstFault 2 = .ok (.iload_n 1, 1) := by decide +kernel
theorem dX7_firstFault_3 : decode cX7_firstFault 3 = .ok (.aload_n 0, 1) := by decide +kernel
theorem dX7_firstFault_4 : decode cX7_firstFault 4 = .ok (.getfield 15, 3) := by decide +kernel
theorem dX7_firstFault_7 : decode cX7_firstFault 7 = .ok (.if_icmp .ge 19, 3) := by decide +kernel
theorem dX7_firstFault_10 : decode cX7_firstFault 10 = .ok (.aload_n 0, 1) := by decide +kernel
theorem dX7_firstFault_11 : decode cX7_firstFault 11 = .ok (.iload_n 1, 1) := by decide +kernel
theorem dX7_firstFault_12 : decode cX7_firstFault 12 = .ok (.invokevirtual 23, 3) := by decide +kernel
theorem dX7_firstFault_15 : decode cX7_firstFault 15 = .ok (.ifCond .ne 5, 3) := by decide +kernel
theorem dX7_firstFault_18 : decode cX7_firstFault 18 = .ok (.iload_n 1, 1) := by decide +kernel
theorem dX7_firstFault_19 : decode cX7_firstFault 19 = .ok (.ireturn, 1) := by decide +kernel
theorem dX7_firstFault_20 : decode cX7_firstFault 20 = .ok (.iinc 1 1, 3) := by decide +kernel
theorem dX7_firstFault_23 : decode cX7_firstFault 23 = .ok (.goto (-21), 3) := by decide +kernel
theorem dX7_firstFault_26 : decode cX7_firstFault 26 = .ok (.aload_n 0, 1) := by decide +kernel
theorem dX7_firstFault_27 : decode cX7_firstFault 27 = .ok (.getfield 15, 3) := by decide +kernel
theorem dX7_firstFault_30 : decode cX7_firstFault 30 = .ok (.ireturn, 1) := by decide +kernel
set_option maxRecDepth 20000 in
theorem ggX7_isWholeKitchen_X7_digit : GoodIn wsX7_isWholeKitchen wsX7_digit := goodIn_r _ [6, 1, 7, 20, 21] (by decide +kernel) (by decide +kernel)
set_option maxRecDepth 20000 in
theorem gX7_isWholeKitchen_X7_digit : GoodIn wsX7_isWholeKitchen (wsV RX7 27 RX7 yX7_digit wsX7_digit) := goodIn_app (goodIn_of _ (by decide +kernel)) ggX7_isWholeKitchen_X7_digit
set_option maxRecDepth 20000 in
theorem ggX7_isWholeKitchen_X7_firstFault : GoodIn wsX7_isWholeKitchen wsX7_firstFault := goodIn_r _ [11, 1, 12, 13, 14, 5, 15, 7, 16, 17, 18, 19, 2, 3, 4, 6, 20, 21] (by decide +kernel) (by decide +kernel)
set_option maxRecDepth 20000 in
theorem gX7_isWholeKitchen_X7_firstFault : GoodIn wsX7_isWholeKitchen (wsV RX7 31 RX7 yX7_firstFault wsX7_firstFault) := goodIn_app (goodIn_of _ (by decide +kernel)) ggX7_isWholeKitchen_X7_firstFault
theorem dX7_isWholeKitchen_0 : decode cX7_isWholeKitchen 0 = .ok (.aload_n 0, 1) := by decide +kernel
theorem dX7_isWholeKitchen_1 : decode cX7_isWholeKitchen 1 = .ok (.getfield 15, 3) := by decide +kernel
theorem dX7_isWholeKitchen_4 : decode cX7_isWholeKitchen 4 = .ok (.bipush 7, 2) := by decide +kernel
theorem dX7_isWholeKitchen_6 : decode cX7_isWholeKitchen 6 = .ok (.if_icmp .le 33, 3) := by decide +kernel
theorem dX7_isWholeKitchen_9 : decode cX7_isWholeKitchen 9 = .ok (.aload_n 0, 1) := by decide +kernel
theorem dX7_isWholeKitchen_10 : decode cX7_isWholeKitchen 10 = .ok (.getfield 15, 3) := by decide +kernel
theorem dX7_isWholeKitchen_13 : decode cX7_isWholeKitchen 13 = .ok (.bipush 7, 2) := by decide +kernel
theorem dX7_isWholeKitchen_15 : decode cX7_isWholeKitchen 15 = .ok (.aload_n 0, 1) := by decide +kernel
theorem dX7_isWholeKitchen_16 : decode cX7_isWholeKitchen 16 = .ok (.iconst 0, 1) := by decide +kernel
theorem dX7_isWholeKitchen_17 : decode cX7_isWholeKitchen 17 = .ok (.invokevirtual 27, 3) := by decide +kernel
theorem dX7_isWholeKitchen_20 : decode cX7_isWholeKitchen 20 = .ok (.iadd, 1) := by decide +kernel
theorem dX7_isWholeKitchen_21 : decode cX7_isWholeKitchen 21 = .ok (.if_icmp .ne 18, 3) := by decide +kernel
theorem dX7_isWholeKitchen_24 : decode cX7_isWholeKitchen 24 = .ok (.aload_n 0, 1) := by decide +kernel
theorem dX7_isWholeKitchen_25 : decode cX7_isWholeKitchen 25 = .ok (.invokevirtual 31, 3) := by decide +kernel
theorem dX7_isWholeKitchen_28 : decode cX7_isWholeKitchen 28 = .ok (.aload_n 0, 1) := by decide +kernel
theorem dX7_isWholeKitchen_29 : decode cX7_isWholeKitchen 29 = .ok (.getfield 15, 3) := by decide +kernel
theorem dX7_isWholeKitchen_32 : decode cX7_isWholeKitchen 32 = .ok (.if_icmp .ne 7, 3) := by decide +kernel
theorem dX7_isWholeKitchen_35 : decode cX7_isWholeKitchen 35 = .ok (.iconst 1, 1) := by decide +kernel
theorem dX7_isWholeKitchen_36 : decode cX7_isWholeKitchen 36 = .ok (.goto 4, 3) := by decide +kernel
theorem dX7_isWholeKitchen_39 : decode cX7_isWholeKitchen 39 = .ok (.iconst 0, 1) := by decide +kernel
theorem dX7_isWholeKitchen_40 : decode cX7_isWholeKitchen 40 = .ok (.ireturn, 1) := by decide +kernel
theorem dX7_digit_0 : decode cX7_digit 0 = .ok (.iload_n 1, 1) := by decide +kernel
theorem dX7_digit_1 : decode cX7_digit 1 = .ok (.ifCond .lt 23, 3) := by decide +kernel
theorem dX7_digit_4 : decode cX7_digit 4 = .ok (.iload_n 1, 1) := by decide +kernel
theorem dX7_digit_5 : decode cX7_digit 5 = .ok (.aload_n 0, 1) := by decide +kernel
theorem dX7_digit_6 : decode cX7_digit 6 = .ok (.getfield 15, 3) := by decide +kernel
theorem dX7_digit_9 : decode cX7_digit 9 = .ok (.if_icmp .ge 15, 3) := by decide +kernel
theorem dX7_digit_12 : decode cX7_digit 12 = .ok (.aload_n 0, 1) := by decide +kernel
theorem dX7_digit_13 : decode cX7_digit 13 = .ok (.getfield 9, 3) := by decide +kernel
theorem dX7_digit_16 : decode cX7_digit 16 = .ok (.iload_n 1, 1) := by decide +kernel
theorem dX7_digit_17 : decode cX7_digit 17 = .ok (.iaload, 1) := by decide +kernel
theorem dX7_digit_18 : decode cX7_digit 18 = .ok (.bipush 48, 2) := by decide +kernel
theorem dX7_digit_20 : decode cX7_digit 20 = .ok (.isub, 1) := by decide +kernel
theorem dX7_digit_21 : decode cX7_digit 21 = .ok (.goto 4, 3) := by decide +kernel
theorem dX7_digit_24 : decode cX7_digit 24 = .ok (.iconst (-1), 1) := by decide +kernel
theorem dX7_digit_25 : decode cX7_digit 25 = .ok (.ireturn, 1) := by decide +kernel
set_option maxRecDepth 20000 in
theorem ggX7_suits_X7_isDigit : GoodIn wsX7_suits wsX7_isDigit := goodIn_r _ [6, 7, 8, 9, 5, 10, 11, 1, 12, 13] (by decide +kernel) (by decide +kernel)
set_option maxRecDepth 20000 in
theorem gX7_suits_X7_isDigit : GoodIn wsX7_suits (wsV RX7 35 RX7 yX7_isDigit wsX7_isDigit) := goodIn_app (goodIn_of _ (by decide +kernel)) ggX7_suits_X7_isDigit
set_option maxRecDepth 20000 in
theorem ggX7_suits_X7_digit : GoodIn wsX7_suits wsX7_digit := goodIn_r _ [10, 11, 1, 12, 13] (by decide +kernel) (by decide +kernel)
set_option maxRecDepth 20000 in
theorem gX7_suits_X7_digit : GoodIn wsX7_suits (wsV RX7 27 RX7 yX7_digit wsX7_digit) := goodIn_app (goodIn_of _ (by decide +kernel)) ggX7_suits_X7_digit
theorem dX7_suits_0 : decode cX7_suits 0 = .ok (.iload_n 1, 1) := by decide +kernel
theorem dX7_suits_1 : decode cX7_suits 1 = .ok (.tableswitch 107 0 6 #[43, 52, 64, 81, 81, 81, 90], 43) := by decide +kernel
theorem dX7_suits_44 : decode cX7_suits 44 = .ok (.aload_n 0, 1) := by decide +kernel
theorem dX7_suits_45 : decode cX7_suits 45 = .ok (.iload_n 1, 1) := by decide +kernel
theorem dX7_suits_46 : decode cX7_suits 46 = .ok (.iconst 2, 1) := by decide +kernel
theorem dX7_suits_47 : decode cX7_suits 47 = .ok (.bipush 6, 2) := by decide +kernel
theorem dX7_suits_49 : decode cX7_suits 49 = .ok (.invokevirtual 35, 3) := by decide +kernel
theorem dX7_suits_52 : decode cX7_suits 52 = .ok (.ireturn, 1) := by decide +kernel
theorem dX7_suits_53 : decode cX7_suits 53 = .ok (.aload_n 0, 1) := by decide +kernel
theorem dX7_suits_54 : decode cX7_suits 54 = .ok (.iload_n 1, 1) := by decide +kernel
theorem dX7_suits_55 : decode cX7_suits 55 = .ok (.iconst 0, 1) := by decide +kernel
theorem dX7_suits_56 : decode cX7_suits 56 = .ok (.aload_n 0, 1) := by decide +kernel
theorem dX7_suits_57 : decode cX7_suits 57 = .ok (.iconst 0, 1) := by decide +kernel
theorem dX7_suits_58 : decode cX7_suits 58 = .ok (.invokevirtual 27, 3) := by decide +kernel
theorem dX7_suits_61 : decode cX7_suits 61 = .ok (.invokevirtual 35, 3) := by decide +kernel
theorem dX7_suits_64 : decode cX7_suits 64 = .ok (.ireturn, 1) := by decide +kernel
theorem dX7_suits_65 : decode cX7_suits 65 = .ok (.aload_n 0, 1) := by decide +kernel
theorem dX7_suits_66 : decode cX7_suits 66 = .ok (.getfield 9, 3) := by decide +kernel
theorem dX7_suits_69 : decode cX7_suits 69 = .ok (.iload_n 1, 1) := by decide +kernel
theorem dX7_suits_70 : decode cX7_suits 70 = .ok (.iaload, 1) := by decide +kernel
theorem dX7_suits_71 : decode cX7_suits 71 = .ok (.bipush 58, 2) := by decide +kernel
theorem dX7_suits_73 : decode cX7_suits 73 = .ok (.if_icmp .ne 7, 3) := by decide +kernel
theorem dX7_suits_76 : decode cX7_suits 76 = .ok (.iconst 1, 1) := by decide +kernel
theorem dX7_suits_77 : decode cX7_suits 77 = .ok (.goto 4, 3) := by decide +kernel
theorem dX7_suits_80 : decode cX7_suits 80 = .ok (.iconst 0, 1) := by decide +kernel
theorem dX7_suits_81 : decode cX7_suits 81 = .ok (.ireturn, 1) := by decide +kernel
theorem dX7_suits_82 : decode cX7_suits 82 = .ok (.aload_n 0, 1) := by decide +kernel
theorem dX7_suits_83 : decode cX7_suits 83 = .ok (.iload_n 1, 1) := by decide +kernel
theorem dX7_suits_84 : decode cX7_suits 84 = .ok (.iconst 0, 1) := by decide +kernel
theorem dX7_suits_85 : decode cX7_suits 85 = .ok (.bipush 9, 2) := by decide +kernel
theorem dX7_suits_87 : decode cX7_suits 87 = .ok (.invokevirtual 35, 3) := by decide +kernel
theorem dX7_suits_90 : decode cX7_suits 90 = .ok (.ireturn, 1) := by decide +kernel
theorem dX7_suits_91 : decode cX7_suits 91 = .ok (.aload_n 0, 1) := by decide +kernel
theorem dX7_suits_92 : decode cX7_suits 92 = .ok (.getfield 9, 3) := by decide +kernel
theorem dX7_suits_95 : decode cX7_suits 95 = .ok (.iload_n 1, 1) := by decide +kernel
theorem dX7_suits_96 : decode cX7_suits 96 = .ok (.iaload, 1) := by decide +kernel
theorem dX7_suits_97 : decode cX7_suits 97 = .ok (.bipush 59, 2) := by decide +kernel
theorem dX7_suits_99 : decode cX7_suits 99 = .ok (.if_icmp .ne 7, 3) := by decide +kernel
theorem dX7_suits_102 : decode cX7_suits 102 = .ok (.iconst 1, 1) := by decide +kernel
theorem dX7_suits_103 : decode cX7_suits 103 = .ok (.goto 4, 3) := by decide +kernel
theorem dX7_suits_106 : decode cX7_suits 106 = .ok (.iconst 0, 1) := by decide +kernel
theorem dX7_suits_107 : decode cX7_suits 107 = .ok (.ireturn, 1) := by decide +kernel
theorem dX7_suits_108 : decode cX7_suits 108 = .ok (.iload_n 1, 1) := by decide +kernel
theorem dX7_suits_109 : decode cX7_suits 109 = .ok (.bipush 7, 2) := by decide +kernel
theorem dX7_suits_111 : decode cX7_suits 111 = .ok (.aload_n 0, 1) := by decide +kernel
theorem dX7_suits_112 : decode cX7_suits 112 = .ok (.iconst 0, 1) := by decide +kernel
theorem dX7_suits_113 : decode cX7_suits 113 = .ok (.invokevirtual 27, 3) := by decide +kernel
theorem dX7_suits_116 : decode cX7_suits 116 = .ok (.iadd, 1) := by decide +kernel
theorem dX7_suits_117 : decode cX7_suits 117 = .ok (.if_icmp .ge 17, 3) := by decide +kernel
theorem dX7_suits_120 : decode cX7_suits 120 = .ok (.aload_n 0, 1) := by decide +kernel
theorem dX7_suits_121 : decode cX7_suits 121 = .ok (.iload_n 1, 1) := by decide +kernel
theorem dX7_suits_122 : decode cX7_suits 122 = .ok (.iconst 1, 1) := by decide +kernel
theorem dX7_suits_123 : decode cX7_suits 123 = .ok (.iconst 4, 1) := by decide +kernel
theorem dX7_suits_124 : decode cX7_suits 124 = .ok (.invokevirtual 35, 3) := by decide +kernel
theorem dX7_suits_127 : decode cX7_suits 127 = .ok (.ifCond .eq 7, 3) := by decide +kernel
theorem dX7_suits_130 : decode cX7_suits 130 = .ok (.iconst 1, 1) := by decide +kernel
theorem dX7_suits_131 : decode cX7_suits 131 = .ok (.goto 4, 3) := by decide +kernel
theorem dX7_suits_134 : decode cX7_suits 134 = .ok (.iconst 0, 1) := by decide +kernel
theorem dX7_suits_135 : decode cX7_suits 135 = .ok (.ireturn, 1) := by decide +kernel
set_option maxRecDepth 20000 in
theorem ggX7_isDigit_X7_digit : GoodIn wsX7_isDigit wsX7_digit := goodIn_r _ [5, 6, 7, 8, 9] (by decide +kernel) (by decide +kernel)
set_option maxRecDepth 20000 in
theorem gX7_isDigit_X7_digit : GoodIn wsX7_isDigit (wsV RX7 27 RX7 yX7_digit wsX7_digit) := goodIn_app (goodIn_of _ (by decide +kernel)) ggX7_isDigit_X7_digit
theorem dX7_isDigit_0 : decode cX7_isDigit 0 = .ok (.aload_n 0, 1) := by decide +kernel
theorem dX7_isDigit_1 : decode cX7_isDigit 1 = .ok (.iload_n 1, 1) := by decide +kernel
theorem dX7_isDigit_2 : decode cX7_isDigit 2 = .ok (.invokevirtual 27, 3) := by decide +kernel
theorem dX7_isDigit_5 : decode cX7_isDigit 5 = .ok (.istore 4, 2) := by decide +kernel
theorem dX7_isDigit_7 : decode cX7_isDigit 7 = .ok (.iload 4, 2) := by decide +kernel
theorem dX7_isDigit_9 : decode cX7_isDigit 9 = .ok (.iload_n 2, 1) := by decide +kernel
theorem dX7_isDigit_10 : decode cX7_isDigit 10 = .ok (.if_icmp .lt 13, 3) := by decide +kernel
theorem dX7_isDigit_13 : decode cX7_isDigit 13 = .ok (.iload 4, 2) := by decide +kernel
theorem dX7_isDigit_15 : decode cX7_isDigit 15 = .ok (.iload_n 3, 1) := by decide +kernel
theorem dX7_isDigit_16 : decode cX7_isDigit 16 = .ok (.if_icmp .gt 7, 3) := by decide +kernel
theorem dX7_isDigit_19 : decode cX7_isDigit 19 = .ok (.iconst 1, 1) := by decide +kernel
theorem dX7_isDigit_20 : decode cX7_isDigit 20 = .ok (.goto 4, 3) := by decide +kernel
theorem dX7_isDigit_23 : decode cX7_isDigit 23 = .ok (.iconst 0, 1) := by decide +kernel
theorem dX7_isDigit_24 : decode cX7_isDigit 24 = .ok (.ireturn, 1) := by decide +kernel
theorem dX8_init_0 : decode cX8_init 0 = .ok (.aload_n 0, 1) := by decide +kernel
theorem dX8_init_1 : decode cX8_init 1 = .ok (.invokespecial 3, 3) := by decide +kernel
theorem dX8_init_4 : decode cX8_init 4 = .ok (.aload_n 0, 1) := by decide +kernel
theorem dX8_init_5 : decode cX8_init 5 = .ok (.bipush 20, 2) := by decide +kernel
theorem dX8_init_7 : decode cX8_init 7 = .ok (.newarray .int, 2) := by decide +kernel
theorem dX8_init_9 : decode cX8_init 9 = .ok (.putfield 9, 3) := by decide +kernel
theorem dX8_init_12 : decode cX8_init 12 = .ok (.aload_n 0, 1) := by decide +kernel
theorem dX8_init_13 : decode cX8_init 13 = .ok (.bipush 20, 2) := by decide +kernel
theorem dX8_init_15 : decode cX8_init 15 = .ok (.newarray .long, 2) := by decide +kernel
theorem dX8_init_17 : decode cX8_init 17 = .ok (.putfield 15, 3) := by decide +kernel
theorem dX8_init_20 : decode cX8_init 20 = .ok (.aload_n 0, 1) := by decide +kernel
theorem dX8_init_21 : decode cX8_init 21 = .ok (.bipush 6, 2) := by decide +kernel
theorem dX8_init_23 : decode cX8_init 23 = .ok (.newarray .int, 2) := by decide +kernel
theorem dX8_init_25 : decode cX8_init 25 = .ok (.putfield 19, 3) := by decide +kernel
theorem dX8_init_28 : decode cX8_init 28 = .ok (.aload_n 0, 1) := by decide +kernel
theorem dX8_init_29 : decode cX8_init 29 = .ok (.bipush 6, 2) := by decide +kernel
theorem dX8_init_31 : decode cX8_init 31 = .ok (.newarray .int, 2) := by decide +kernel
theorem dX8_init_33 : decode cX8_init 33 = .ok (.putfield 22, 3) := by decide +kernel
theorem dX8_init_36 : decode cX8_init 36 = .ok (.aload_n 0, 1) := by decide +kernel
theorem dX8_init_37 : decode cX8_init 37 = .ok (.bipush 6, 2) := by decide +kernel
theorem dX8_init_39 : decode cX8_init 39 = .ok (.newarray .int, 2) := by decide +kernel
theorem dX8_init_41 : decode cX8_init 41 = .ok (.putfield 25, 3) := by decide +kernel
theorem dX8_init_44 : decode cX8_init 44 = .ok (.return_, 1) := by decide +kernel
set_option maxRecDepth 20000 in
theorem ggX8_begin_X6_allEggs : GoodIn wsX8_begin wsX6_allEggs := goodIn_r _ [11, 12, 43, 44, 45, 46, 47, 48] (by decide +kernel) (by decide +kernel)
set_option maxRecDepth 20000 in
theorem gX8_begin_X6_allEggs : GoodIn wsX8_begin (wsV RX8 32 RX6 yX6_allEggs wsX6_allEggs) := goodIn_app (goodIn_of _ (by decide +kernel)) ggX8_begin_X6_allEggs
set_option maxRecDepth 20000 in
theorem ggX8_begin_J6_bitCount_0f7a4 : GoodIn wsX8_begin wsJ6_bitCount_0f7a4 := goodIn_r _ [16, 17, 18, 19] (by decide +kernel) (by decide +kernel)
set_option maxRecDepth 20000 in
theorem gX8_begin_J6_bitCount_0f7a4 : GoodIn wsX8_begin (va_wsS RX8 38 yJ6_bitCount_0f7a4 wsJ6_bitCount_0f7a4) := goodIn_app (goodIn_of _ (by decide +kernel)) ggX8_begin_J6_bitCount_0f7a4
set_option maxRecDepth 20000 in
theorem ggX8_begin_X6_habitsOf : GoodIn wsX8_begin wsX6_habitsOf := goodIn_r _ [23, 12, 24, 25, 26, 27, 43, 44, 45, 46, 47, 48] (by decide +kernel) (by decide +kernel)
set_option maxRecDepth 20000 in
theorem gX8_begin_X6_habitsOf : GoodIn wsX8_begin (wsV RX8 47 RX6 yX6_habitsOf wsX6_habitsOf) := goodIn_app (goodIn_of _ (by decide +kernel)) ggX8_begin_X6_habitsOf
set_option maxRecDepth 20000 in
theorem ggX8_begin_X8_keep : GoodIn wsX8_begin wsX8_keep := goodIn_r _ [32, 1, 33, 34, 35, 36, 37, 38, 39, 40, 41, 42] (by decide +kernel) (by decide +kernel)
set_option maxRecDepth 20000 in
theorem gX8_begin_X8_keep : GoodIn wsX8_begin (wsV RX8 51 RX8 yX8_keep wsX8_keep) := goodIn_app (goodIn_of _ (by decide +kernel)) ggX8_begin_X8_keep
theorem dX8_begin_0 : decode cX8_begin 0 = .ok (.aload_n 0, 1) := by decide +kernel
theorem dX8_begin_1 : decode cX8_begin 1 = .ok (.iconst 0, 1) := by decide +kernel
theorem dX8_begin_2 : decode cX8_begin 2 = .ok (.putfield 28, 3) := by decide +kernel
theorem dX8_begin_5 : decode cX8_begin 5 = .ok (.aload_n 1, 1) := by decide +kernel
theorem dX8_begin_6 : decode cX8_begin 6 = .ok (.invokevirtual 32, 3) := by decide +kernel
theorem dX8_begin_9 : decode cX8_begin 9 = .ok (.istore_n 2, 1) := by decide +kernel
theorem dX8_begin_10 : decode cX8_begin 10 = .ok (.iconst 0, 1) := by decide +kernel
theorem dX8_begin_11 : decode cX8_begin 11 = .ok (.istore_n 3, 1) := by decide +kernel
theorem dX8_begin_12 : decode cX8_begin 12 = .ok (.iload_n 3, 1) := by decide +kernel
theorem dX8_begin_13 : decode cX8_begin 13 = .ok (.iload_n 2, 1) := by decide +kernel
theorem dX8_begin_14 : decode cX8_begin 14 = .ok (.if_icmp .gt 30, 3) := by decide +kernel
theorem dX8_begin_17 : decode cX8_begin 17 = .ok (.iload_n 3, 1) := by decide +kernel
theorem dX8_begin_18 : decode cX8_begin 18 = .ok (.invokestatic 38, 3) := by decide +kernel
theorem dX8_begin_21 : decode cX8_begin 21 = .ok (.aload_n 1, 1) := by decide +kernel
theorem dX8_begin_22 : decode cX8_begin 22 = .ok (.getfield 44, 3) := by decide +kernel
theorem dX8_begin_25 : decode cX8_begin 25 = .ok (.if_icmp .ne 13, 3) := by decide +kernel
theorem dX8_begin_28 : decode cX8_begin 28 = .ok (.aload_n 0, 1) := by decide +kernel
theorem dX8_begin_29 : decode cX8_begin 29 = .ok (.iload_n 3, 1) := by decide +kernel
theorem dX8_begin_30 : decode cX8_begin 30 = .ok (.aload_n 1, 1) := by decide +kernel
theorem dX8_begin_31 : decode cX8_begin 31 = .ok (.iload_n 3, 1) := by decide +kernel
theorem dX8_begin_32 : decode cX8_begin 32 = .ok (.invokevirtual 47, 3) := by decide +kernel
theorem dX8_begin_35 : decode cX8_begin 35 = .ok (.invokevirtual 51, 3) := by decide +kernel
theorem dX8_begin_38 : decode cX8_begin 38 = .ok (.iinc 3 1, 3) := by decide +kernel
theorem dX8_begin_41 : decode cX8_begin 41 = .ok (.goto (-29), 3) := by decide +kernel
theorem dX8_begin_44 : decode cX8_begin 44 = .ok (.iconst 0, 1) := by decide +kernel
theorem dX8_begin_45 : decode cX8_begin 45 = .ok (.istore_n 3, 1) := by decide +kernel
theorem dX8_begin_46 : decode cX8_begin 46 = .ok (.iload_n 3, 1) := by decide +kernel
theorem dX8_begin_47 : decode cX8_begin 47 = .ok (.bipush 6, 2) := by decide +kernel
theorem dX8_begin_49 : decode cX8_begin 49 = .ok (.if_icmp .ge 30, 3) := by decide +kernel
theorem dX8_begin_52 : decode cX8_begin 52 = .ok (.aload_n 0, 1) := by decide +kernel
theorem dX8_begin_53 : decode cX8_begin 53 = .ok (.getfield 19, 3) := by decide +kernel
theorem dX8_begin_56 : decode cX8_begin 56 = .ok (.iload_n 3, 1) := by decide +kernel
theorem dX8_begin_57 : decode cX8_begin 57 = .ok (.iconst 0, 1) := by decide +kernel
theorem dX8_begin_58 : decode cX8_begin 58 = .ok (.iastore, 1) := by decide +kernel
theorem dX8_begin_59 : decode cX8_begin 59 = .ok (.aload_n 0, 1) := by decide +kernel
theorem dX8_begin_60 : decode cX8_begin 60 = .ok (.getfield 22, 3) := by decide +kernel
theorem dX8_begin_63 : decode cX8_begin 63 = .ok (.iload_n 3, 1) := by decide +kernel
theorem dX8_begin_64 : decode cX8_begin 64 = .ok (.iconst 0, 1) := by decide +kernel
theorem dX8_begin_65 : decode cX8_begin 65 = .ok (.iastore, 1) := by decide +kernel
theorem dX8_begin_66 : decode cX8_begin 66 = .ok (.aload_n 0, 1) := by decide +kernel
theorem dX8_begin_67 : decode cX8_begin 67 = .ok (.getfield 25, 3) := by decide +kernel
theorem dX8_begin_70 : decode cX8_begin 70 = .ok (.iload_n 3, 1) := by decide +kernel
theorem dX8_begin_71 : decode cX8_begin 71 = .ok (.iconst (-1), 1) := by decide +kernel
theorem dX8_begin_72 : decode cX8_begin 72 = .ok (.iastore, 1) := by decide +kernel
theorem dX8_begin_73 : decode cX8_begin 73 = .ok (.iinc 3 1, 3) := by decide +kernel
theorem dX8_begin_76 : decode cX8_begin 76 = .ok (.goto (-30), 3) := by decide +kernel
theorem dX8_begin_79 : decode cX8_begin 79 = .ok (.aload_n 0, 1) := by decide +kernel
theorem dX8_begin_80 : decode cX8_begin 80 = .ok (.iload_n 2, 1) := by decide +kernel
theorem dX8_begin_81 : decode cX8_begin 81 = .ok (.putfield 55, 3) := by decide +kernel
theorem dX8_begin_84 : decode cX8_begin 84 = .ok (.aload_n 0, 1) := by decide +kernel
theorem dX8_begin_85 : decode cX8_begin 85 = .ok (.iconst 0, 1) := by decide +kernel
theorem dX8_begin_86 : decode cX8_begin 86 = .ok (.putfield 58, 3) := by decide +kernel
theorem dX8_begin_89 : decode cX8_begin 89 = .ok (.return_, 1) := by decide +kernel
theorem dX8_copyFrom_0 : decode cX8_copyFrom 0 = .ok (.aload_n 1, 1) := by decide +kernel
theorem dX8_copyFrom_1 : decode cX8_copyFrom 1 = .ok (.getfield 9, 3) := by decide +kernel
theorem dX8_copyFrom_4 : decode cX8_copyFrom 4 = .ok (.iconst 0, 1) := by decide +kernel
theorem dX8_copyFrom_5 : decode cX8_copyFrom 5 = .ok (.aload_n 0, 1) := by decide +kernel
theorem dX8_copyFrom_6 : decode cX8_copyFrom 6 = .ok (.getfield 9, 3) := by decide +kernel
theorem dX8_copyFrom_9 : decode cX8_copyFrom 9 = .ok (.iconst 0, 1) := by decide +kernel
theorem dX8_copyFrom_10 : decode cX8_copyFrom 10 = .ok (.bipush 20, 2) := by decide +kernel
theorem dX8_copyFrom_12 : decode cX8_copyFrom 12 = .ok (.invokestatic 61, 3) := by decide +kernel
theorem dX8_copyFrom_15 : decode cX8_copyFrom 15 = .ok (.aload_n 1, 1) := by decide +kernel
theorem dX8_copyFrom_16 : decode cX8_copyFrom 16 = .ok (.getfield 15, 3) := by decide +kernel
theorem dX8_copyFrom_19 : decode cX8_copyFrom 19 = .ok (.iconst 0, 1) := by decide +kernel
theorem dX8_copyFrom_20 : decode cX8_copyFrom 20 = .ok (.aload_n 0, 1) := by decide +kernel
theorem dX8_copyFrom_21 : decode cX8_copyFrom 21 = .ok (.getfield 15, 3) := by decide +kernel
theorem dX8_copyFrom_24 : decode cX8_copyFrom 24 = .ok (.iconst 0, 1) := by decide +kernel
theorem dX8_copyFrom_25 : decode cX8_copyFrom 25 = .ok (.bipush 20, 2) := by decide +kernel
theorem dX8_copyFrom_27 : decode cX8_copyFrom 27 = .ok (.invokestatic 61, 3) := by decide +kernel
theorem dX8_copyFrom_30 : decode cX8_copyFrom 30 = .ok (.aload_n 1, 1) := by decide +kernel
theorem dX8_copyFrom_31 : decode cX8_copyFrom 31 = .ok (.getfield 19, 3) := by decide +kernel
theorem dX8_copyFrom_34 : decode cX8_copyFrom 34 = .ok (.iconst 0, 1) := by decide +kernel
theorem dX8_copyFrom_35 : decode cX8_copyFrom 35 = .ok (.aload_n 0, 1) := by decide +kernel
theorem dX8_copyFrom_36 : decode cX8_copyFrom 36 = .ok (.getfield 19, 3) := by decide +kernel
theorem dX8_copyFrom_39 : decode cX8_copyFrom 39 = .ok (.iconst 0, 1) := by decide +kernel
theorem dX8_copyFrom_40 : decode cX8_copyFrom 40 = .ok (.bipush 6, 2) := by decide +kernel
theorem dX8_copyFrom_42 : decode cX8_copyFrom 42 = .ok (.invokestatic 61, 3) := by decide +kernel
theorem dX8_copyFrom_45 : decode cX8_copyFrom 45 = .ok (.aload_n 1, 1) := by decide +kernel
theorem dX8_copyFrom_46 : decode cX8_copyFrom 46 = .ok (.getfield 22, 3) := by decide +kernel
theorem dX8_copyFrom_49 : decode cX8_copyFrom 49 = .ok (.iconst 0, 1) := by decide +kernel
theorem dX8_copyFrom_50 : decode cX8_copyFrom 50 = .ok (.aload_n 0, 1) := by decide +kernel
theorem dX8_copyFrom_51 : decode cX8_copyFrom 51 = .ok (.getfield 22, 3) := by decide +kernel
theorem dX8_copyFrom_54 : decode cX8_copyFrom 54 = .ok (.iconst 0, 1) := by decide +kernel
theorem dX8_copyFrom_55 : decode cX8_copyFrom 55 = .ok (.bipush 6, 2) := by decide +kernel
theorem dX8_copyFrom_57 : decode cX8_copyFrom 57 = .ok (.invokestatic 61, 3) := by decide +kernel
theorem dX8_copyFrom_60 : decode cX8_copyFrom 60 = .ok (.aload_n 1, 1) := by decide +kernel
theorem dX8_copyFrom_61 : decode cX8_copyFrom 61 = .ok (.getfield 25, 3) := by decide +kernel
theorem dX8_copyFrom_64 : decode cX8_copyFrom 64 = .ok (.iconst 0, 1) := by decide +kernel
theorem dX8_copyFrom_65 : decode cX8_copyFrom 65 = .ok (.aload_n 0, 1) := by decide +kernel
theorem dX8_copyFrom_66 : decode cX8_copyFrom 66 = .ok (.getfield 25, 3) := by decide +kernel
theorem dX8_copyFrom_69 : decode cX8_copyFrom 69 = .ok (.iconst 0, 1) := by decide +kernel
theorem dX8_copyFrom_70 : decode cX8_copyFrom 70 = .ok (.bipush 6, 2) := by decide +kernel
theorem dX8_copyFrom_72 : decode cX8_copyFrom 72 = .ok (.invokestatic 61, 3) := by decide +kernel
theorem dX8_copyFrom_75 : decode cX8_copyFrom 75 = .ok (.aload_n 0, 1) := by decide +kernel
theorem dX8_copyFrom_76 : decode cX8_copyFrom 76 = .ok (.aload_n 1, 1) := by decide +kernel
theorem dX8_copyFrom_77 : decode cX8_copyFrom 77 = .ok (.getfield 28, 3) := by decide +kernel
theorem dX8_copyFrom_80 : decode cX8_copyFrom 80 = .ok (.putfield 28, 3) := by decide +kernel
theorem dX8_copyFrom_83 : decode cX8_copyFrom 83 = .ok (.aload_n 0, 1) := by decide +kernel
theorem dX8_copyFrom_84 : decode cX8_copyFrom 84 = .ok (.aload_n 1, 1) := by decide +kernel
theorem dX8_copyFrom_85 : decode cX8_copyFrom 85 = .ok (.getfield 55, 3) := by decide +kernel
theorem dX8_copyFrom_88 : decode cX8_copyFrom 88 = .ok (.putfield 55, 3) := by decide +kernel
theorem dX8_copyFrom_91 : decode cX8_copyFrom 91 = .ok (.aload_n 0, 1) := by decide +kernel
theorem dX8_copyFrom_92 : decode cX8_copyFrom 92 = .ok (.aload_n 1, 1) := by decide +kernel
theorem dX8_copyFrom_93 : decode cX8_copyFrom 93 = .ok (.getfield 58, 3) := by decide +kernel
theorem dX8_copyFrom_96 : decode cX8_copyFrom 96 = .ok (.putfield 58, 3) := by decide +kernel
theorem dX8_copyFrom_99 : decode cX8_copyFrom 99 = .ok (.return_, 1) := by decide +kernel
theorem dX8_keep_0 : decode cX8_keep 0 = .ok (.lload_n 2, 1) := by decide +kernel
theorem dX8_keep_1 : decode cX8_keep 1 = .ok (.lconst 0, 1) := by decide +kernel
theorem dX8_keep_2 : decode cX8_keep 2 = .ok (.lcmp, 1) := by decide +kernel
theorem dX8_keep_3 : decode cX8_keep 3 = .ok (.ifCond .le 42, 3) := by decide +kernel
theorem dX8_keep_6 : decode cX8_keep 6 = .ok (.aload_n 0, 1) := by decide +kernel
theorem dX8_keep_7 : decode cX8_keep 7 = .ok (.getfield 28, 3) := by decide +kernel
theorem dX8_keep_10 : decode cX8_keep 10 = .ok (.bipush 20, 2) := by decide +kernel
theorem dX8_keep_12 : decode cX8_keep 12 = .ok (.if_icmp .ge 33, 3) := by decide +kernel
theorem dX8_keep_15 : decode cX8_keep 15 = .ok (.aload_n 0, 1) := by decide +kernel
theorem dX8_keep_16 : decode cX8_keep 16 = .ok (.getfield 9, 3) := by decide +kernel
theorem dX8_keep_19 : decode cX8_keep 19 = .ok (.aload_n 0, 1) := by decide +kernel
theorem dX8_keep_20 : decode cX8_keep 20 = .ok (.getfield 28, 3) := by decide +kernel
theorem dX8_keep_23 : decode cX8_keep 23 = .ok (.iload_n 1, 1) := by decide +kernel
theorem dX8_keep_24 : decode cX8_keep 24 = .ok (.iastore, 1) := by decide +kernel
theorem dX8_keep_25 : decode cX8_keep 25 = .ok (.aload_n 0, 1) := by decide +kernel
theorem dX8_keep_26 : decode cX8_keep 26 = .ok (.getfield 15, 3) := by decide +kernel
theorem dX8_keep_29 : decode cX8_keep 29 = .ok (.aload_n 0, 1) := by decide +kernel
theorem dX8_keep_30 : decode cX8_keep 30 = .ok (.getfield 28, 3) := by decide +kernel
theorem dX8_keep_33 : decode cX8_keep 33 = .ok (.lload_n 2, 1) := by decide +kernel
theorem dX8_keep_34 : decode cX8_keep 34 = .ok (.lastore, 1) := by decide +kernel
theorem dX8_keep_35 : decode cX8_keep 35 = .ok (.aload_n 0, 1) := by decide +kernel
theorem dX8_keep_36 : decode cX8_keep 36 = .ok (.dup, 1) := by decide +kernel
theorem dX8_keep_37 : decode cX8_keep 37 = .ok (.getfield 28, 3) := by decide +kernel
theorem dX8_keep_40 : decode cX8_keep 40 = .ok (.iconst 1, 1) := by decide +kernel
theorem dX8_keep_41 : decode cX8_keep 41 = .ok (.iadd, 1) := by decide +kernel
theorem dX8_keep_42 : decode cX8_keep 42 = .ok (.putfield 28, 3) := by decide +kernel
theorem dX8_keep_45 : decode cX8_keep 45 = .ok (.return_, 1) := by decide +kernel
set_option maxRecDepth 20000 in
theorem ggX8_canBe_X8_boiledWeight : GoodIn wsX8_canBe wsX8_boiledWeight := goodIn_r _ [5, 6, 7, 8, 9, 10, 11, 16, 17, 18, 19, 20, 21, 22, 23] (by decide +kernel) (by decide +kernel)
set_option maxRecDepth 20000 in
theorem gX8_canBe_X8_boiledWeight : GoodIn wsX8_canBe (wsV RX8 67 RX8 yX8_boiledWeight wsX8_boiledWeight) := goodIn_app (goodIn_of _ (by decide +kernel)) ggX8_canBe_X8_boiledWeight
set_option maxRecDepth 20000 in
theorem ggX8_canBe_X8_allWeight : GoodIn wsX8_canBe wsX8_allWeight := goodIn_r _ [15, 6, 8, 16, 17, 18, 19, 20, 21, 22, 23] (by decide +kernel) (by decide +kernel)
set_option maxRecDepth 20000 in
theorem gX8_canBe_X8_allWeight : GoodIn wsX8_canBe (wsV RX8 70 RX8 yX8_allWeight wsX8_allWeight) := goodIn_app (goodIn_of _ (by decide +kernel)) ggX8_canBe_X8_allWeight
theorem dX8_canBe_0 : decode cX8_canBe 0 = .ok (.aload_n 0, 1) := by decide +kernel
theorem dX8_canBe_1 : decode cX8_canBe 1 = .ok (.iload_n 1, 1) := by decide +kernel
theorem dX8_canBe_2 : decode cX8_canBe 2 = .ok (.invokevirtual 67, 3) := by decide +kernel
theorem dX8_canBe_5 : decode cX8_canBe 5 = .ok (.lstore 4, 2) := by decide +kernel
theorem dX8_canBe_7 : decode cX8_canBe 7 = .ok (.lload 4, 2) := by decide +kernel
theorem dX8_canBe_9 : decode cX8_canBe 9 = .ok (.iload_n 2, 1) := by decide +kernel
theorem dX8_canBe_10 : decode cX8_canBe 10 = .ok (.i2l, 1) := by decide +kernel
theorem dX8_canBe_11 : decode cX8_canBe 11 = .ok (.lmul, 1) := by decide +kernel
theorem dX8_canBe_12 : decode cX8_canBe 12 = .ok (.aload_n 0, 1) := by decide +kernel
theorem dX8_canBe_13 : decode cX8_canBe 13 = .ok (.invokevirtual 70, 3) := by decide +kernel
theorem dX8_canBe_16 : decode cX8_canBe 16 = .ok (.lload 4, 2) := by decide +kernel
theorem dX8_canBe_18 : decode cX8_canBe 18 = .ok (.lsub, 1) := by decide +kernel
theorem dX8_canBe_19 : decode cX8_canBe 19 = .ok (.iload_n 3, 1) := by decide +kernel
theorem dX8_canBe_20 : decode cX8_canBe 20 = .ok (.i2l, 1) := by decide +kernel
theorem dX8_canBe_21 : decode cX8_canBe 21 = .ok (.lmul, 1) := by decide +kernel
theorem dX8_canBe_22 : decode cX8_canBe 22 = .ok (.ladd, 1) := by decide +kernel
theorem dX8_canBe_23 : decode cX8_canBe 23 = .ok (.lconst 0, 1) := by decide +kernel
theorem dX8_canBe_24 : decode cX8_canBe 24 = .ok (.lcmp, 1) := by decide +kernel
theorem dX8_canBe_25 : decode cX8_canBe 25 = .ok (.ifCond .le 7, 3) := by decide +kernel
theorem dX8_canBe_28 : decode cX8_canBe 28 = .ok (.iconst 1, 1) := by decide +kernel
theorem dX8_canBe_29 : decode cX8_canBe 29 = .ok (.goto 4, 3) := by decide +kernel
theorem dX8_canBe_32 : decode cX8_canBe 32 = .ok (.iconst 0, 1) := by decide +kernel
theorem dX8_canBe_33 : decode cX8_canBe 33 = .ok (.ireturn, 1) := by decide +kernel
set_option maxRecDepth 20000 in
theorem ggX8_canBeSure_X8_canBe : GoodIn wsX8_canBeSure wsX8_canBe := goodIn_r _ [5, 6, 7, 8, 4, 9, 10, 11, 12, 13, 14, 15, 16, 17, 18, 19, 20, 21, 22, 23, 24, 25, 26, 27] (by decide +kernel) (by decide +kernel)
set_option maxRecDepth 20000 in
theorem gX8_canBeSure_X8_canBe : GoodIn wsX8_canBeSure (wsV RX8 74 RX8 yX8_canBe wsX8_canBe) := goodIn_app (goodIn_of _ (by decide +kernel)) ggX8_canBeSure_X8_canBe
theorem dX8_canBeSure_0 : decode cX8_canBeSure 0 = .ok (.aload_n 0, 1) := by decide +kernel
theorem dX8_canBeSure_1 : decode cX8_canBeSure 1 = .ok (.iload_n 1, 1) := by decide +kernel
theorem dX8_canBeSure_2 : decode cX8_canBeSure 2 = .ok (.iload_n 2, 1) := by decide +kernel
theorem dX8_canBeSure_3 : decode cX8_canBeSure 3 = .ok (.ifCond .eq 7, 3) := by decide +kernel
theorem dX8_canBeSure_6 : decode cX8_canBeSure 6 = .ok (.iconst 1, 1) := by decide +kernel
theorem dX8_canBeSure_7 : decode cX8_canBeSure 7 = .ok (.goto 4, 3) := by decide +kernel
theorem dX8_canBeSure_10 : decode cX8_canBeSure 10 = .ok (.iconst 0, 1) := by decide +kernel
theorem dX8_canBeSure_11 : decode cX8_canBeSure 11 = .ok (.iload_n 2, 1) := by decide +kernel
theorem dX8_canBeSure_12 : decode cX8_canBeSure 12 = .ok (.ifCond .eq 7, 3) := by decide +kernel
theorem dX8_canBeSure_15 : decode cX8_canBeSure 15 = .ok (.iconst 0, 1) := by decide +kernel
theorem dX8_canBeSure_16 : decode cX8_canBeSure 16 = .ok (.goto 4, 3) := by decide +kernel
theorem dX8_canBeSure_19 : decode cX8_canBeSure 19 = .ok (.iconst 1, 1) := by decide +kernel
theorem dX8_canBeSure_20 : decode cX8_canBeSure 20 = .ok (.invokevirtual 74, 3) := by decide +kernel
theorem dX8_canBeSure_23 : decode cX8_canBeSure 23 = .ok (.ireturn, 1) := by decide +kernel
set_option maxRecDepth 20000 in
theorem ggX8_weigh_X10_has : GoodIn wsX8_weigh wsX10_has := goodIn_r _ [6] (by decide +kernel) (by decide +kernel)
set_option maxRecDepth 20000 in
theorem gX8_weigh_X10_has_n78 : GoodIn wsX8_weigh (wsX10_has) := ggX8_weigh_X10_has
set_option maxRecDepth 20000 in
theorem ggX8_weigh_X8_keep : GoodIn wsX8_weigh wsX8_keep := goodIn_r _ [11, 1, 2, 3, 12, 13, 14, 15, 16, 17, 18, 19] (by decide +kernel) (by decide +kernel)
set_option maxRecDepth 20000 in
theorem gX8_weigh_X8_keep : GoodIn wsX8_weigh (wsV RX8 51 RX8 yX8_keep wsX8_keep) := goodIn_app (goodIn_of _ (by decide +kernel)) ggX8_weigh_X8_keep
theorem dX8_weigh_0 : decode cX8_weigh 0 = .ok (.aload_n 0, 1) := by decide +kernel
theorem dX8_weigh_1 : decode cX8_weigh 1 = .ok (.getfield 28, 3) := by decide +kernel
theorem dX8_weigh_4 : decode cX8_weigh 4 = .ok (.istore 4, 2) := by decide +kernel
theorem dX8_weigh_6 : decode cX8_weigh 6 = .ok (.aload_n 0, 1) := by decide +kernel
theorem dX8_weigh_7 : decode cX8_weigh 7 = .ok (.iconst 0, 1) := by decide +kernel
theorem dX8_weigh_8 : decode cX8_weigh 8 = .ok (.putfield 28, 3) := by decide +kernel
theorem dX8_weigh_11 : decode cX8_weigh 11 = .ok (.iconst 0, 1) := by decide +kernel
theorem dX8_weigh_12 : decode cX8_weigh 12 = .ok (.istore 5, 2) := by decide +kernel
theorem dX8_weigh_14 : decode cX8_weigh 14 = .ok (.iload 5, 2) := by decide +kernel
theorem dX8_weigh_16 : decode cX8_weigh 16 = .ok (.iload 4, 2) := by decide +kernel
theorem dX8_weigh_18 : decode cX8_weigh 18 = .ok (.if_icmp .ge 48, 3) := by decide +kernel
theorem dX8_weigh_21 : decode cX8_weigh 21 = .ok (.aload_n 0, 1) := by decide +kernel
theorem dX8_weigh_22 : decode cX8_weigh 22 = .ok (.aload_n 0, 1) := by decide +kernel
theorem dX8_weigh_23 : decode cX8_weigh 23 = .ok (.getfield 9, 3) := by decide +kernel
theorem dX8_weigh_26 : decode cX8_weigh 26 = .ok (.iload 5, 2) := by decide +kernel
theorem dX8_weigh_28 : decode cX8_weigh 28 = .ok (.iaload, 1) := by decide +kernel
theorem dX8_weigh_29 : decode cX8_weigh 29 = .ok (.aload_n 0, 1) := by decide +kernel
theorem dX8_weigh_30 : decode cX8_weigh 30 = .ok (.getfield 15, 3) := by decide +kernel
theorem dX8_weigh_33 : decode cX8_weigh 33 = .ok (.iload 5, 2) := by decide +kernel
theorem dX8_weigh_35 : decode cX8_weigh 35 = .ok (.laload, 1) := by decide +kernel
theorem dX8_weigh_36 : decode cX8_weigh 36 = .ok (.aload_n 0, 1) := by decide +kernel
theorem dX8_weigh_37 : decode cX8_weigh 37 = .ok (.getfield 9, 3) := by decide +kernel
theorem dX8_weigh_40 : decode cX8_weigh 40 = .ok (.iload 5, 2) := by decide +kernel
theorem dX8_weigh_42 : decode cX8_weigh 42 = .ok (.iaload, 1) := by decide +kernel
theorem dX8_weigh_43 : decode cX8_weigh 43 = .ok (.iload_n 1, 1) := by decide +kernel
theorem dX8_weigh_44 : decode cX8_weigh 44 = .ok (.invokestatic 78, 3) := by decide +kernel
theorem dX8_weigh_47 : decode cX8_weigh 47 = .ok (.ifCond .eq 7, 3) := by decide +kernel
theorem dX8_weigh_50 : decode cX8_weigh 50 = .ok (.iload_n 2, 1) := by decide +kernel
theorem dX8_weigh_51 : decode cX8_weigh 51 = .ok (.goto 4, 3) := by decide +kernel
theorem dX8_weigh_54 : decode cX8_weigh 54 = .ok (.iload_n 3, 1) := by decide +kernel
theorem dX8_weigh_55 : decode cX8_weigh 55 = .ok (.i2l, 1) := by decide +kernel
theorem dX8_weigh_56 : decode cX8_weigh 56 = .ok (.lmul, 1) := by decide +kernel
theorem dX8_weigh_57 : decode cX8_weigh 57 = .ok (.invokevirtual 51, 3) := by decide +kernel
theorem dX8_weigh_60 : decode cX8_weigh 60 = .ok (.iinc 5 1, 3) := by decide +kernel
theorem dX8_weigh_63 : decode cX8_weigh 63 = .ok (.goto (-49), 3) := by decide +kernel
theorem dX8_weigh_66 : decode cX8_weigh 66 = .ok (.return_, 1) := by decide +kernel
theorem dX8_countSpin_0 : decode cX8_countSpin 0 = .ok (.aload_n 0, 1) := by decide +kernel
theorem dX8_countSpin_1 : decode cX8_countSpin 1 = .ok (.getfield 19, 3) := by decide +kernel
theorem dX8_countSpin_4 : decode cX8_countSpin 4 = .ok (.iload_n 1, 1) := by decide +kernel
theorem dX8_countSpin_5 : decode cX8_countSpin 5 = .ok (.dup2, 1) := by decide +kernel
theorem dX8_countSpin_6 : decode cX8_countSpin 6 = .ok (.iaload, 1) := by decide +kernel
theorem dX8_countSpin_7 : decode cX8_countSpin 7 = .ok (.iconst 1, 1) := by decide +kernel
theorem dX8_countSpin_8 : decode cX8_countSpin 8 = .ok (.iadd, 1) := by decide +kernel
theorem dX8_countSpin_9 : decode cX8_countSpin 9 = .ok (.iastore, 1) := by decide +kernel
theorem dX8_countSpin_10 : decode cX8_countSpin 10 = .ok (.iload_n 2, 1) := by decide +kernel
theorem dX8_countSpin_11 : decode cX8_countSpin 11 = .ok (.ifCond .eq 13, 3) := by decide +kernel
theorem dX8_countSpin_14 : decode cX8_countSpin 14 = .ok (.aload_n 0, 1) := by decide +kernel
theorem dX8_countSpin_15 : decode cX8_countSpin 15 = .ok (.getfield 22, 3) := by decide +kernel
theorem dX8_countSpin_18 : decode cX8_countSpin 18 = .ok (.iload_n 1, 1) := by decide +kernel
theorem dX8_countSpin_19 : decode cX8_countSpin 19 = .ok (.dup2, 1) := by decide +kernel
theorem dX8_countSpin_20 : decode cX8_countSpin 20 = .ok (.iaload, 1) := by decide +kernel
theorem dX8_countSpin_21 : decode cX8_countSpin 21 = .ok (.iconst 1, 1) := by decide +kernel
theorem dX8_countSpin_22 : decode cX8_countSpin 22 = .ok (.iadd, 1) := by decide +kernel
theorem dX8_countSpin_23 : decode cX8_countSpin 23 = .ok (.iastore, 1) := by decide +kernel
theorem dX8_countSpin_24 : decode cX8_countSpin 24 = .ok (.aload_n 0, 1) := by decide +kernel
theorem dX8_countSpin_25 : decode cX8_countSpin 25 = .ok (.dup, 1) := by decide +kernel
theorem dX8_countSpin_26 : decode cX8_countSpin 26 = .ok (.getfield 58, 3) := by decide +kernel
theorem dX8_countSpin_29 : decode cX8_countSpin 29 = .ok (.iconst 1, 1) := by decide +kernel
theorem dX8_countSpin_30 : decode cX8_countSpin 30 = .ok (.iadd, 1) := by decide +kernel
theorem dX8_countSpin_31 : decode cX8_countSpin 31 = .ok (.putfield 58, 3) := by decide +kernel
theorem dX8_countSpin_34 : decode cX8_countSpin 34 = .ok (.return_, 1) := by decide +kernel
set_option maxRecDepth 20000 in
theorem ggX8_makeSure_X8_weigh : GoodIn wsX8_makeSure wsX8_weigh := goodIn_r _ [6, 7, 8, 9, 10, 11, 12, 13, 14, 15, 5, 16, 17, 18, 19, 20, 21, 22, 23, 24] (by decide +kernel) (by decide +kernel)
set_option maxRecDepth 20000 in
theorem gX8_makeSure_X8_weigh : GoodIn wsX8_makeSure (wsV RX8 82 RX8 yX8_weigh wsX8_weigh) := goodIn_app (goodIn_of _ (by decide +kernel)) ggX8_makeSure_X8_weigh
theorem dX8_makeSure_0 : decode cX8_makeSure 0 = .ok (.aload_n 0, 1) := by decide +kernel
theorem dX8_makeSure_1 : decode cX8_makeSure 1 = .ok (.iload_n 1, 1) := by decide +kernel
theorem dX8_makeSure_2 : decode cX8_makeSure 2 = .ok (.iload_n 2, 1) := by decide +kernel
theorem dX8_makeSure_3 : decode cX8_makeSure 3 = .ok (.ifCond .eq 7, 3) := by decide +kernel
theorem dX8_makeSure_6 : decode cX8_makeSure 6 = .ok (.iconst 1, 1) := by decide +kernel
theorem dX8_makeSure_7 : decode cX8_makeSure 7 = .ok (.goto 4, 3) := by decide +kernel
theorem dX8_makeSure_10 : decode cX8_makeSure 10 = .ok (.iconst 0, 1) := by decide +kernel
theorem dX8_makeSure_11 : decode cX8_makeSure 11 = .ok (.iload_n 2, 1) := by decide +kernel
theorem dX8_makeSure_12 : decode cX8_makeSure 12 = .ok (.ifCond .eq 7, 3) := by decide +kernel
theorem dX8_makeSure_15 : decode cX8_makeSure 15 = .ok (.iconst 0, 1) := by decide +kernel
theorem dX8_makeSure_16 : decode cX8_makeSure 16 = .ok (.goto 4, 3) := by decide +kernel
theorem dX8_makeSure_19 : decode cX8_makeSure 19 = .ok (.iconst 1, 1) := by decide +kernel
theorem dX8_makeSure_20 : decode cX8_makeSure 20 = .ok (.invokevirtual 82, 3) := by decide +kernel
theorem dX8_makeSure_23 : decode cX8_makeSure 23 = .ok (.aload_n 0, 1) := by decide +kernel
theorem dX8_makeSure_24 : decode cX8_makeSure 24 = .ok (.getfield 25, 3) := by decide +kernel
theorem dX8_makeSure_27 : decode cX8_makeSure 27 = .ok (.iload_n 1, 1) := by decide +kernel
theorem dX8_makeSure_28 : decode cX8_makeSure 28 = .ok (.iload_n 2, 1) := by decide +kernel
theorem dX8_makeSure_29 : decode cX8_makeSure 29 = .ok (.ifCond .eq 7, 3) := by decide +kernel
theorem dX8_makeSure_32 : decode cX8_makeSure 32 = .ok (.iconst 1, 1) := by decide +kernel
theorem dX8_makeSure_33 : decode cX8_makeSure 33 = .ok (.goto 4, 3) := by decide +kernel
theorem dX8_makeSure_36 : decode cX8_makeSure 36 = .ok (.iconst 0, 1) := by decide +kernel
theorem dX8_makeSure_37 : decode cX8_makeSure 37 = .ok (.iastore, 1) := by decide +kernel
theorem dX8_makeSure_38 : decode cX8_makeSure 38 = .ok (.return_, 1) := by decide +kernel
theorem dX8_takeOut_0 : decode cX8_takeOut 0 = .ok (.aload_n 0, 1) := by decide +kernel
theorem dX8_takeOut_1 : decode cX8_takeOut 1 = .ok (.dup, 1) := by decide +kernel
theorem dX8_takeOut_2 : decode cX8_takeOut 2 = .ok (.getfield 55, 3) := by decide +kernel
theorem dX8_takeOut_5 : decode cX8_takeOut 5 = .ok (.iconst 1, 1) := by decide +kernel
theorem dX8_takeOut_6 : decode cX8_takeOut 6 = .ok (.iload_n 1, 1) := by decide +kernel
theorem dX8_takeOut_7 : decode cX8_takeOut 7 = .ok (.ishl, 1) := by decide +kernel
theorem dX8_takeOut_8 : decode cX8_takeOut 8 = .ok (.iconst (-1), 1) := by decide +kernel
theorem dX8_takeOut_9 : decode cX8_takeOut 9 = .ok (.ixor, 1) := by decide +kernel
theorem dX8_takeOut_10 : decode cX8_takeOut 10 = .ok (.iand, 1) := by decide +kernel
theorem dX8_takeOut_11 : decode cX8_takeOut 11 = .ok (.putfield 55, 3) := by decide +kernel
theorem dX8_takeOut_14 : decode cX8_takeOut 14 = .ok (.return_, 1) := by decide +kernel
set_option maxRecDepth 20000 in
theorem ggX8_isInBox_X10_has : GoodIn wsX8_isInBox wsX10_has := goodIn_r _ [4] (by decide +kernel) (by decide +kernel)
set_option maxRecDepth 20000 in
theorem gX8_isInBox_X10_has_n78 : GoodIn wsX8_isInBox (wsX10_has) := ggX8_isInBox_X10_has
theorem dX8_isInBox_0 : decode cX8_isInBox 0 = .ok (.aload_n 0, 1) := by decide +kernel
theorem dX8_isInBox_1 : decode cX8_isInBox 1 = .ok (.getfield 55, 3) := by decide +kernel
theorem dX8_isInBox_4 : decode cX8_isInBox 4 = .ok (.iload_n 1, 1) := by decide +kernel
theorem dX8_isInBox_5 : decode cX8_isInBox 5 = .ok (.invokestatic 78, 3) := by decide +kernel
theorem dX8_isInBox_8 : decode cX8_isInBox 8 = .ok (.ireturn, 1) := by decide +kernel
set_option maxRecDepth 20000 in
theorem ggX8_howManyInBox_J6_bitCount_0f7a4 : GoodIn wsX8_howManyInBox wsJ6_bitCount_0f7a4 := goodIn_r _ [5, 6, 7, 8] (by decide +kernel) (by decide +kernel)
set_option maxRecDepth 20000 in
theorem gX8_howManyInBox_J6_bitCount_0f7a4 : GoodIn wsX8_howManyInBox (va_wsS RX8 38 yJ6_bitCount_0f7a4 wsJ6_bitCount_0f7a4) := goodIn_app (goodIn_of _ (by decide +kernel)) ggX8_howManyInBox_J6_bitCount_0f7a4
theorem dX8_howManyInBox_0 : decode cX8_howManyInBox 0 = .ok (.aload_n 0, 1) := by decide +kernel
theorem dX8_howManyInBox_1 : decode cX8_howManyInBox 1 = .ok (.getfield 55, 3) := by decide +kernel
theorem dX8_howManyInBox_4 : decode cX8_howManyInBox 4 = .ok (.invokestatic 38, 3) := by decide +kernel
theorem dX8_howManyInBox_7 : decode cX8_howManyInBox 7 = .ok (.ireturn, 1) := by decide +kernel
set_option maxRecDepth 20000 in
theorem ggX8_eggAtPlace_X8_isInBox : GoodIn wsX8_eggAtPlace wsX8_isInBox := goodIn_r _ [5, 6, 7, 8, 9, 10, 11, 12, 13, 14, 15, 16, 17] (by decide +kernel) (by decide +kernel)
set_option maxRecDepth 20000 in
theorem gX8_eggAtPlace_X8_isInBox : GoodIn wsX8_eggAtPlace (wsV RX8 86 RX8 yX8_isInBox wsX8_isInBox) := goodIn_app (goodIn_of _ (by decide +kernel)) ggX8_eggAtPlace_X8_isInBox
theorem dX8_eggAtPlace_0 : decode cX8_eggAtPlace 0 = .ok (.iconst 0, 1) := by decide +kernel
theorem dX8_eggAtPlace_1 : decode cX8_eggAtPlace 1 = .ok (.istore_n 2, 1) := by decide +kernel
theorem dX8_eggAtPlace_2 : decode cX8_eggAtPlace 2 = .ok (.iconst 0, 1) := by decide +kernel
theorem dX8_eggAtPlace_3 : decode cX8_eggAtPlace 3 = .ok (.istore_n 3, 1) := by decide +kernel
theorem dX8_eggAtPlace_4 : decode cX8_eggAtPlace 4 = .ok (.iload_n 3, 1) := by decide +kernel
theorem dX8_eggAtPlace_5 : decode cX8_eggAtPlace 5 = .ok (.bipush 6, 2) := by decide +kernel
theorem dX8_eggAtPlace_7 : decode cX8_eggAtPlace 7 = .ok (.if_icmp .ge 27, 3) := by decide +kernel
theorem dX8_eggAtPlace_10 : decode cX8_eggAtPlace 10 = .ok (.aload_n 0, 1) := by decide +kernel
theorem dX8_eggAtPlace_11 : decode cX8_eggAtPlace 11 = .ok (.iload_n 3, 1) := by decide +kernel
theorem dX8_eggAtPlace_12 : decode cX8_eggAtPlace 12 = .ok (.invokevirtual 86, 3) := by decide +kernel
theorem dX8_eggAtPlace_15 : decode cX8_eggAtPlace 15 = .ok (.ifCond .eq 13, 3) := by decide +kernel
theorem dX8_eggAtPlace_18 : decode cX8_eggAtPlace 18 = .ok (.iload_n 2, 1) := by decide +kernel
theorem dX8_eggAtPlace_19 : decode cX8_eggAtPlace 19 = .ok (.iload_n 1, 1) := by decide +kernel
theorem dX8_eggAtPlace_20 : decode cX8_eggAtPlace 20 = .ok (.if_icmp .ne 5, 3) := by decide +kernel
theorem dX8_eggAtPlace_23 : decode cX8_eggAtPlace 23 = .ok (.iload_n 3, 1) := by decide +kernel
theorem dX8_eggAtPlace_24 : decode cX8_eggAtPlace 24 = .ok (.ireturn, 1) := by decide +kernel
theorem dX8_eggAtPlace_25 : decode cX8_eggAtPlace 25 = .ok (.iinc 2 1, 3) := by decide +kernel
theorem dX8_eggAtPlace_28 : decode cX8_eggAtPlace 28 = .ok (.iinc 3 1, 3) := by decide +kernel
theorem dX8_eggAtPlace_31 : decode cX8_eggAtPlace 31 = .ok (.goto (-27), 3) := by decide +kernel
theorem dX8_eggAtPlace_34 : decode cX8_eggAtPlace 34 = .ok (.iconst (-1), 1) := by decide +kernel
theorem dX8_eggAtPlace_35 : decode cX8_eggAtPlace 35 = .ok (.ireturn, 1) := by decide +kernel
theorem dX8_allWeight_0 : decode cX8_allWeight 0 = .ok (.lconst 0, 1) := by decide +kernel
theorem dX8_allWeight_1 : decode cX8_allWeight 1 = .ok (.lstore_n 1, 1) := by decide +kernel
theorem dX8_allWeight_2 : decode cX8_allWeight 2 = .ok (.iconst 0, 1) := by decide +kernel
theorem dX8_allWeight_3 : decode cX8_allWeight 3 = .ok (.istore_n 3, 1) := by decide +kernel
theorem dX8_allWeight_4 : decode cX8_allWeight 4 = .ok (.iload_n 3, 1) := by decide +kernel
theorem dX8_allWeight_5 : decode cX8_allWeight 5 = .ok (.aload_n 0, 1) := by decide +kernel
theorem dX8_allWeight_6 : decode cX8_allWeight 6 = .ok (.getfield 28, 3) := by decide +kernel
theorem dX8_allWeight_9 : decode cX8_allWeight 9 = .ok (.if_icmp .ge 18, 3) := by decide +kernel
theorem dX8_allWeight_12 : decode cX8_allWeight 12 = .ok (.lload_n 1, 1) := by decide +kernel
theorem dX8_allWeight_13 : decode cX8_allWeight 13 = .ok (.aload_n 0, 1) := by decide +kernel
theorem dX8_allWeight_14 : decode cX8_allWeight 14 = .ok (.getfield 15, 3) := by decide +kernel
theorem dX8_allWeight_17 : decode cX8_allWeight 17 = .ok (.iload_n 3, 1) := by decide +kernel
theorem dX8_allWeight_18 : decode cX8_allWeight 18 = .ok (.laload, 1) := by decide +kernel
theorem dX8_allWeight_19 : decode cX8_allWeight 19 = .ok (.ladd, 1) := by decide +kernel
theorem dX8_allWeight_20 : decode cX8_allWeight 20 = .ok (.lstore_n 1, 1) := by decide +kernel
theorem dX8_allWeight_21 : decode cX8_allWeight 21 = .ok (.iinc 3 1, 3) := by decide +kernel
theorem dX8_allWeight_24 : decode cX8_allWeight 24 = .ok (.goto (-20), 3) := by decide +kernel
theorem dX8_allWeight_27 : decode cX8_allWeight 27 = .ok (.lload_n 1, 1) := by decide +kernel
theorem dX8_allWeight_28 : decode cX8_allWeight 28 = .ok (.lreturn, 1) := by decide +kernel
set_option maxRecDepth 20000 in
theorem ggX8_boiledWeight_X10_has : GoodIn wsX8_boiledWeight wsX10_has := goodIn_r _ [6] (by decide +kernel) (by decide +kernel)
set_option maxRecDepth 20000 in
theorem gX8_boiledWeight_X10_has_n78 : GoodIn wsX8_boiledWeight (wsX10_has) := ggX8_boiledWeight_X10_has
theorem dX8_boiledWeight_0 : decode cX8_boiledWeight 0 = .ok (.lconst 0, 1) := by decide +kernel
theorem dX8_boiledWeight_1 : decode cX8_boiledWeight 1 = .ok (.lstore_n 2, 1) := by decide +kernel
theorem dX8_boiledWeight_2 : decode cX8_boiledWeight 2 = .ok (.iconst 0, 1) := by decide +kernel
theorem dX8_boiledWeight_3 : decode cX8_boiledWeight 3 = .ok (.istore 4, 2) := by decide +kernel
theorem dX8_boiledWeight_5 : decode cX8_boiledWeight 5 = .ok (.iload 4, 2) := by decide +kernel
theorem dX8_boiledWeight_7 : decode cX8_boiledWeight 7 = .ok (.aload_n 0, 1) := by decide +kernel
theorem dX8_boiledWeight_8 : decode cX8_boiledWeight 8 = .ok (.getfield 28, 3) := by decide +kernel
theorem dX8_boiledWeight_11 : decode cX8_boiledWeight 11 = .ok (.if_icmp .ge 33, 3) := by decide +kernel
theorem dX8_boiledWeight_14 : decode cX8_boiledWeight 14 = .ok (.aload_n 0, 1) := by decide +kernel
theorem dX8_boiledWeight_15 : decode cX8_boiledWeight 15 = .ok (.getfield 9, 3) := by decide +kernel
theorem dX8_boiledWeight_18 : decode cX8_boiledWeight 18 = .ok (.iload 4, 2) := by decide +kernel
theorem dX8_boiledWeight_20 : decode cX8_boiledWeight 20 = .ok (.iaload, 1) := by decide +kernel
theorem dX8_boiledWeight_21 : decode cX8_boiledWeight 21 = .ok (.iload_n 1, 1) := by decide +kernel
theorem dX8_boiledWeight_22 : decode cX8_boiledWeight 22 = .ok (.invokestatic 78, 3) := by decide +kernel
theorem dX8_boiledWeight_25 : decode cX8_boiledWeight 25 = .ok (.ifCond .eq 13, 3) := by decide +kernel
theorem dX8_boiledWeight_28 : decode cX8_boiledWeight 28 = .ok (.lload_n 2, 1) := by decide +kernel
theorem dX8_boiledWeight_29 : decode cX8_boiledWeight 29 = .ok (.aload_n 0, 1) := by decide +kernel
theorem dX8_boiledWeight_30 : decode cX8_boiledWeight 30 = .ok (.getfield 15, 3) := by decide +kernel
theorem dX8_boiledWeight_33 : decode cX8_boiledWeight 33 = .ok (.iload 4, 2) := by decide +kernel
theorem dX8_boiledWeight_35 : decode cX8_boiledWeight 35 = .ok (.laload, 1) := by decide +kernel
theorem dX8_boiledWeight_36 : decode cX8_boiledWeight 36 = .ok (.ladd, 1) := by decide +kernel
theorem dX8_boiledWeight_37 : decode cX8_boiledWeight 37 = .ok (.lstore_n 2, 1) := by decide +kernel
theorem dX8_boiledWeight_38 : decode cX8_boiledWeight 38 = .ok (.iinc 4 1, 3) := by decide +kernel
theorem dX8_boiledWeight_41 : decode cX8_boiledWeight 41 = .ok (.goto (-36), 3) := by decide +kernel
theorem dX8_boiledWeight_44 : decode cX8_boiledWeight 44 = .ok (.lload_n 2, 1) := by decide +kernel
theorem dX8_boiledWeight_45 : decode cX8_boiledWeight 45 = .ok (.lreturn, 1) := by decide +kernel
theorem dX8_fittingBox_0 : decode cX8_fittingBox 0 = .ok (.iload_n 1, 1) := by decide +kernel
theorem dX8_fittingBox_1 : decode cX8_fittingBox 1 = .ok (.ifCond .lt 20, 3) := by decide +kernel
theorem dX8_fittingBox_4 : decode cX8_fittingBox 4 = .ok (.iload_n 1, 1) := by decide +kernel
theorem dX8_fittingBox_5 : decode cX8_fittingBox 5 = .ok (.aload_n 0, 1) := by decide +kernel
theorem dX8_fittingBox_6 : decode cX8_fittingBox 6 = .ok (.getfield 28, 3) := by decide +kernel
theorem dX8_fittingBox_9 : decode cX8_fittingBox 9 = .ok (.if_icmp .ge 12, 3) := by decide +kernel
theorem dX8_fittingBox_12 : decode cX8_fittingBox 12 = .ok (.aload_n 0, 1) := by decide +kernel
theorem dX8_fittingBox_13 : decode cX8_fittingBox 13 = .ok (.getfield 9, 3) := by decide +kernel
theorem dX8_fittingBox_16 : decode cX8_fittingBox 16 = .ok (.iload_n 1, 1) := by decide +kernel
theorem dX8_fittingBox_17 : decode cX8_fittingBox 17 = .ok (.iaload, 1) := by decide +kernel
theorem dX8_fittingBox_18 : decode cX8_fittingBox 18 = .ok (.goto 4, 3) := by decide +kernel
theorem dX8_fittingBox_21 : decode cX8_fittingBox 21 = .ok (.iconst 0, 1) := by decide +kernel
theorem dX8_fittingBox_22 : decode cX8_fittingBox 22 = .ok (.ireturn, 1) := by decide +kernel
theorem dX8_heaviestBox_0 : decode cX8_heaviestBox 0 = .ok (.iconst 0, 1) := by decide +kernel
theorem dX8_heaviestBox_1 : decode cX8_heaviestBox 1 = .ok (.istore_n 1, 1) := by decide +kernel
theorem dX8_heaviestBox_2 : decode cX8_heaviestBox 2 = .ok (.iconst 1, 1) := by decide +kernel
theorem dX8_heaviestBox_3 : decode cX8_heaviestBox 3 = .ok (.istore_n 2, 1) := by decide +kernel
theorem dX8_heaviestBox_4 : decode cX8_heaviestBox 4 = .ok (.iload_n 2, 1) := by decide +kernel
theorem dX8_heaviestBox_5 : decode cX8_heaviestBox 5 = .ok (.aload_n 0, 1) := by decide +kernel
theorem dX8_heaviestBox_6 : decode cX8_heaviestBox 6 = .ok (.getfield 28, 3) := by decide +kernel
theorem dX8_heaviestBox_9 : decode cX8_heaviestBox 9 = .ok (.if_icmp .ge 27, 3) := by decide +kernel
theorem dX8_heaviestBox_12 : decode cX8_heaviestBox 12 = .ok (.aload_n 0, 1) := by decide +kernel
theorem dX8_heaviestBox_13 : decode cX8_heaviestBox 13 = .ok (.getfield 15, 3) := by decide +kernel
theorem dX8_heaviestBox_16 : decode cX8_heaviestBox 16 = .ok (.iload_n 2, 1) := by decide +kernel
theorem dX8_heaviestBox_17 : decode cX8_heaviestBox 17 = .ok (.laload, 1) := by decide +kernel
theorem dX8_heaviestBox_18 : decode cX8_heaviestBox 18 = .ok (.aload_n 0, 1) := by decide +kernel
theorem dX8_heaviestBox_19 : decode cX8_heaviestBox 19 = .ok (.getfield 15, 3) := by decide +kernel
theorem dX8_heaviestBox_22 : decode cX8_heaviestBox 22 = .ok (.iload_n 1, 1) := by decide +kernel
theorem dX8_heaviestBox_23 : decode cX8_heaviestBox 23 = .ok (.laload, 1) := by decide +kernel
theorem dX8_heaviestBox_24 : decode cX8_heaviestBox 24 = .ok (.lcmp, 1) := by decide +kernel
theorem dX8_heaviestBox_25 : decode cX8_heaviestBox 25 = .ok (.ifCond .le 5, 3) := by decide +kernel
theorem dX8_heaviestBox_28 : decode cX8_heaviestBox 28 = .ok (.iload_n 2, 1) := by decide +kernel
theorem dX8_heaviestBox_29 : decode cX8_heaviestBox 29 = .ok (.istore_n 1, 1) := by decide +kernel
theorem dX8_heaviestBox_30 : decode cX8_heaviestBox 30 = .ok (.iinc 2 1, 3) := by decide +kernel
theorem dX8_heaviestBox_33 : decode cX8_heaviestBox 33 = .ok (.goto (-29), 3) := by decide +kernel
theorem dX8_heaviestBox_36 : decode cX8_heaviestBox 36 = .ok (.aload_n 0, 1) := by decide +kernel
theorem dX8_heaviestBox_37 : decode cX8_heaviestBox 37 = .ok (.getfield 9, 3) := by decide +kernel
theorem dX8_heaviestBox_40 : decode cX8_heaviestBox 40 = .ok (.iload_n 1, 1) := by decide +kernel
theorem dX8_heaviestBox_41 : decode cX8_heaviestBox 41 = .ok (.iaload, 1) := by decide +kernel
theorem dX8_heaviestBox_42 : decode cX8_heaviestBox 42 = .ok (.ireturn, 1) := by decide +kernel
theorem dX8_surelyBoiled_0 : decode cX8_surelyBoiled 0 = .ok (.iload_n 1, 1) := by decide +kernel
theorem dX8_surelyBoiled_1 : decode cX8_surelyBoiled 1 = .ok (.istore_n 2, 1) := by decide +kernel
theorem dX8_surelyBoiled_2 : decode cX8_surelyBoiled 2 = .ok (.iconst 0, 1) := by decide +kernel
theorem dX8_surelyBoiled_3 : decode cX8_surelyBoiled 3 = .ok (.istore_n 3, 1) := by decide +kernel
theorem dX8_surelyBoiled_4 : decode cX8_surelyBoiled 4 = .ok (.iload_n 3, 1) := by decide +kernel
theorem dX8_surelyBoiled_5 : decode cX8_surelyBoiled 5 = .ok (.aload_n 0, 1) := by decide +kernel
theorem dX8_surelyBoiled_6 : decode cX8_surelyBoiled 6 = .ok (.getfield 28, 3) := by decide +kernel
theorem dX8_surelyBoiled_9 : decode cX8_surelyBoiled 9 = .ok (.if_icmp .ge 18, 3) := by decide +kernel
theorem dX8_surelyBoiled_12 : decode cX8_surelyBoiled 12 = .ok (.iload_n 2, 1) := by decide +kernel
theorem dX8_surelyBoiled_13 : decode cX8_surelyBoiled 13 = .ok (.aload_n 0, 1) := by decide +kernel
theorem dX8_surelyBoiled_14 : decode cX8_surelyBoiled 14 = .ok (.getfield 9, 3) := by decide +kernel
theorem dX8_surelyBoiled_17 : decode cX8_surelyBoiled 17 = .ok (.iload_n 3, 1) := by decide +kernel
theorem dX8_surelyBoiled_18 : decode cX8_surelyBoiled 18 = .ok (.iaload, 1) := by decide +kernel
theorem dX8_surelyBoiled_19 : decode cX8_surelyBoiled 19 = .ok (.iand, 1) := by decide +kernel
theorem dX8_surelyBoiled_20 : decode cX8_surelyBoiled 20 = .ok (.istore_n 2, 1) := by decide +kernel
theorem dX8_surelyBoiled_21 : decode cX8_surelyBoiled 21 = .ok (.iinc 3 1, 3) := by decide +kernel
theorem dX8_surelyBoiled_24 : decode cX8_surelyBoiled 24 = .ok (.goto (-20), 3) := by decide +kernel
theorem dX8_surelyBoiled_27 : decode cX8_surelyBoiled 27 = .ok (.iload_n 2, 1) := by decide +kernel
theorem dX8_surelyBoiled_28 : decode cX8_surelyBoiled 28 = .ok (.ireturn, 1) := by decide +kernel
theorem dX8_surelyRaw_0 : decode cX8_surelyRaw 0 = .ok (.iload_n 1, 1) := by decide +kernel
theorem dX8_surelyRaw_1 : decode cX8_surelyRaw 1 = .ok (.istore_n 2, 1) := by decide +kernel
theorem dX8_surelyRaw_2 : decode cX8_surelyRaw 2 = .ok (.iconst 0, 1) := by decide +kernel
theorem dX8_surelyRaw_3 : decode cX8_surelyRaw 3 = .ok (.istore_n 3, 1) := by decide +kernel
theorem dX8_surelyRaw_4 : decode cX8_surelyRaw 4 = .ok (.iload_n 3, 1) := by decide +kernel
theorem dX8_surelyRaw_5 : decode cX8_surelyRaw 5 = .ok (.aload_n 0, 1) := by decide +kernel
theorem dX8_surelyRaw_6 : decode cX8_surelyRaw 6 = .ok (.getfield 28, 3) := by decide +kernel
theorem dX8_surelyRaw_9 : decode cX8_surelyRaw 9 = .ok (.if_icmp .ge 20, 3) := by decide +kernel
theorem dX8_surelyRaw_12 : decode cX8_surelyRaw 12 = .ok (.iload_n 2, 1) := by decide +kernel
theorem dX8_surelyRaw_13 : decode cX8_surelyRaw 13 = .ok (.aload_n 0, 1) := by decide +kernel
theorem dX8_surelyRaw_14 : decode cX8_surelyRaw 14 = .ok (.getfield 9, 3) := by decide +kernel
theorem dX8_surelyRaw_17 : decode cX8_surelyRaw 17 = .ok (.iload_n 3, 1) := by decide +kernel
theorem dX8_surelyRaw_18 : decode cX8_surelyRaw 18 = .ok (.iaload, 1) := by decide +kernel
theorem dX8_surelyRaw_19 : decode cX8_surelyRaw 19 = .ok (.iconst (-1), 1) := by decide +kernel
theorem dX8_surelyRaw_20 : decode cX8_surelyRaw 20 = .ok (.ixor, 1) := by decide +kernel
theorem dX8_surelyRaw_21 : decode cX8_surelyRaw 21 = .ok (.iand, 1) := by decide +kernel
theorem dX8_surelyRaw_22 : decode cX8_surelyRaw 22 = .ok (.istore_n 2, 1) := by decide +kernel
theorem dX8_surelyRaw_23 : decode cX8_surelyRaw 23 = .ok (.iinc 3 1, 3) := by decide +kernel
theorem dX8_surelyRaw_26 : decode cX8_surelyRaw 26 = .ok (.goto (-22), 3) := by decide +kernel
theorem dX8_surelyRaw_29 : decode cX8_surelyRaw 29 = .ok (.iload_n 2, 1) := by decide +kernel
theorem dX8_surelyRaw_30 : decode cX8_surelyRaw 30 = .ok (.ireturn, 1) := by decide +kernel
set_option maxRecDepth 20000 in
theorem ggX8_hasRawInBox_J6_bitCount_0f7a4 : GoodIn wsX8_hasRawInBox wsJ6_bitCount_0f7a4 := goodIn_r _ [7, 8, 9, 10] (by decide +kernel) (by decide +kernel)
set_option maxRecDepth 20000 in
theorem gX8_hasRawInBox_J6_bitCount_0f7a4 : GoodIn wsX8_hasRawInBox (va_wsS RX8 38 yJ6_bitCount_0f7a4 wsJ6_bitCount_0f7a4) := goodIn_app (goodIn_of _ (by decide +kernel)) ggX8_hasRawInBox_J6_bitCount_0f7a4
theorem dX8_hasRawInBox_0 : decode cX8_hasRawInBox 0 = .ok (.iconst 0, 1) := by decide +kernel
theorem dX8_hasRawInBox_1 : decode cX8_hasRawInBox 1 = .ok (.istore_n 2, 1) := by decide +kernel
theorem dX8_hasRawInBox_2 : decode cX8_hasRawInBox 2 = .ok (.iload_n 2, 1) := by decide +kernel
theorem dX8_hasRawInBox_3 : decode cX8_hasRawInBox 3 = .ok (.aload_n 0, 1) := by decide +kernel
theorem dX8_hasRawInBox_4 : decode cX8_hasRawInBox 4 = .ok (.getfield 28, 3) := by decide +kernel
theorem dX8_hasRawInBox_7 : decode cX8_hasRawInBox 7 = .ok (.if_icmp .ge 31, 3) := by decide +kernel
theorem dX8_hasRawInBox_10 : decode cX8_hasRawInBox 10 = .ok (.aload_n 0, 1) := by decide +kernel
theorem dX8_hasRawInBox_11 : decode cX8_hasRawInBox 11 = .ok (.getfield 55, 3) := by decide +kernel
theorem dX8_hasRawInBox_14 : decode cX8_hasRawInBox 14 = .ok (.aload_n 0, 1) := by decide +kernel
theorem dX8_hasRawInBox_15 : decode cX8_hasRawInBox 15 = .ok (.getfield 9, 3) := by decide +kernel
theorem dX8_hasRawInBox_18 : decode cX8_hasRawInBox 18 = .ok (.iload_n 2, 1) := by decide +kernel
theorem dX8_hasRawInBox_19 : decode cX8_hasRawInBox 19 = .ok (.iaload, 1) := by decide +kernel
theorem dX8_hasRawInBox_20 : decode cX8_hasRawInBox 20 = .ok (.iconst (-1), 1) := by decide +kernel
theorem dX8_hasRawInBox_21 : decode cX8_hasRawInBox 21 = .ok (.ixor, 1) := by decide +kernel
theorem dX8_hasRawInBox_22 : decode cX8_hasRawInBox 22 = .ok (.iand, 1) := by decide +kernel
theorem dX8_hasRawInBox_23 : decode cX8_hasRawInBox 23 = .ok (.invokestatic 38, 3) := by decide +kernel
theorem dX8_hasRawInBox_26 : decode cX8_hasRawInBox 26 = .ok (.iload_n 1, 1) := by decide +kernel
theorem dX8_hasRawInBox_27 : decode cX8_hasRawInBox 27 = .ok (.if_icmp .ge 5, 3) := by decide +kernel
theorem dX8_hasRawInBox_30 : decode cX8_hasRawInBox 30 = .ok (.iconst 0, 1) := by decide +kernel
theorem dX8_hasRawInBox_31 : decode cX8_hasRawInBox 31 = .ok (.ireturn, 1) := by decide +kernel
theorem dX8_hasRawInBox_32 : decode cX8_hasRawInBox 32 = .ok (.iinc 2 1, 3) := by decide +kernel
theorem dX8_hasRawInBox_35 : decode cX8_hasRawInBox 35 = .ok (.goto (-33), 3) := by decide +kernel
theorem dX8_hasRawInBox_38 : decode cX8_hasRawInBox 38 = .ok (.iconst 1, 1) := by decide +kernel
theorem dX8_hasRawInBox_39 : decode cX8_hasRawInBox 39 = .ok (.ireturn, 1) := by decide +kernel
theorem dX9_init_0 : decode cX9_init 0 = .ok (.aload_n 0, 1) := by decide +kernel
theorem dX9_init_1 : decode cX9_init 1 = .ok (.invokespecial 3, 3) := by decide +kernel
theorem dX9_init_4 : decode cX9_init 4 = .ok (.return_, 1) := by decide +kernel
theorem dX9_kind_0 : decode cX9_kind 0 = .ok (.iconst 0, 1) := by decide +kernel
theorem dX9_kind_1 : decode cX9_kind 1 = .ok (.ireturn, 1) := by decide +kernel
theorem dX9_score_0 : decode cX9_score 0 = .ok (.lconst 0, 1) := by decide +kernel
theorem dX9_score_1 : decode cX9_score 1 = .ok (.lreturn, 1) := by decide +kernel
theorem dX9_takesLast_0 : decode cX9_takesLast 0 = .ok (.iconst 0, 1) := by decide +kernel
theorem dX9_takesLast_1 : decode cX9_takesLast 1 = .ok (.ireturn, 1) := by decide +kernel
set_option maxRecDepth 20000 in
theorem ggX9_nextEgg_X8_isInBox : GoodIn wsX9_nextEgg wsX8_isInBox := goodIn_r _ [5, 6, 7, 8, 9, 63, 64, 65, 66, 67, 68, 69, 70] (by decide +kernel) (by decide +kernel)
set_option maxRecDepth 20000 in
theorem gX9_nextEgg_X8_isInBox : GoodIn wsX9_nextEgg (wsV RX9 9 RX8 yX8_isInBox wsX8_isInBox) := goodIn_app (goodIn_of _ (by decide +kernel)) ggX9_nextEgg_X8_isInBox
set_option maxRecDepth 20000 in
theorem ggX9_nextEgg_X0_score : GoodIn wsX9_nextEgg wsX0_score := goodIn_r _ [16, 17, 18, 19, 4, 20, 21, 22, 23, 7, 8, 9, 63, 64, 65, 66, 67, 68, 69, 70] (by decide +kernel) (by decide +kernel)
set_option maxRecDepth 20000 in
theorem gX9_nextEgg_X0_score_u15X0 : GoodIn wsX9_nextEgg (va_wsO RX9 15 RX0 "BoiledEggs$Trier" ⟨"BoiledEggs$Trier", "score", "(LBoiledEggs$Told;I)J"⟩ yX0_score wsX0_score) := goodIn_app (goodIn_of _ (by decide +kernel)) ggX9_nextEgg_X0_score
set_option maxRecDepth 20000 in
theorem ggX9_nextEgg_X2_score : GoodIn wsX9_nextEgg wsX2_score := goodIn_r _ [28, 29, 30, 31, 32, 33, 34, 18, 19, 4, 20, 21, 22, 23, 7, 8, 9, 35, 36, 37, 38, 63, 64, 65, 66, 67, 68, 69, 70] (by decide +kernel) (by decide +kernel)
set_option maxRecDepth 20000 in
theorem gX9_nextEgg_X2_score_u15X2 : GoodIn wsX9_nextEgg (va_wsO RX9 15 RX2 "BoiledEggs$Trier" ⟨"BoiledEggs$Trier", "score", "(LBoiledEggs$Told;I)J"⟩ yX2_score wsX2_score) := goodIn_app (goodIn_of _ (by decide +kernel)) ggX9_nextEgg_X2_score
set_option maxRecDepth 20000 in
theorem ggX9_nextEgg_X5_score : GoodIn wsX9_nextEgg wsX5_score := goodIn_r _ [42, 43, 18, 19, 4, 20, 21, 22, 23, 7, 8, 9, 63, 64, 65, 66, 67, 68, 69, 70] (by decide +kernel) (by decide +kernel)
set_option maxRecDepth 20000 in
theorem gX9_nextEgg_X5_score_u15X4 : GoodIn wsX9_nextEgg (va_wsO RX9 15 RX4 "BoiledEggs$Trier" ⟨"BoiledEggs$Trier", "score", "(LBoiledEggs$Told;I)J"⟩ yX5_score wsX5_score) := goodIn_app (goodIn_of _ (by decide +kernel)) ggX9_nextEgg_X5_score
set_option maxRecDepth 20000 in
theorem gX9_nextEgg_X5_score_u15X5 : GoodIn wsX9_nextEgg (va_wsO RX9 15 RX5 "BoiledEggs$Trier" ⟨"BoiledEggs$Trier", "score", "(LBoiledEggs$Told;I)J"⟩ yX5_score wsX5_score) := goodIn_app (goodIn_of _ (by decide +kernel)) ggX9_nextEgg_X5_score
set_option maxRecDepth 20000 in
theorem ggX9_nextEgg_X9_score : GoodIn wsX9_nextEgg wsX9_score := goodIn_r _ [24] (by decide +kernel) (by decide +kernel)
set_option maxRecDepth 20000 in
theorem gX9_nextEgg_X9_score : GoodIn wsX9_nextEgg (wsV RX9 15 RX9 yX9_score wsX9_score) := goodIn_app (goodIn_of _ (by decide +kernel)) ggX9_nextEgg_X9_score
set_option maxRecDepth 20000 in
theorem ggX9_nextEgg_X9_takesLast : GoodIn wsX9_nextEgg wsX9_takesLast := goodIn_r _ [53] (by decide +kernel) (by decide +kernel)
set_option maxRecDepth 20000 in
theorem gX9_nextEgg_X9_takesLast_u21X0 : GoodIn wsX9_nextEgg (va_wsU RX9 21 RX0 "BoiledEggs$Trier" ⟨"BoiledEggs$Trier", "takesLast", "()Z"⟩ yX9_takesLast wsX9_takesLast) := goodIn_app (goodIn_of _ (by decide +kernel)) ggX9_nextEgg_X9_takesLast
set_option maxRecDepth 20000 in
theorem gX9_nextEgg_X9_takesLast_u21X2 : GoodIn wsX9_nextEgg (va_wsU RX9 21 RX2 "BoiledEggs$Trier" ⟨"BoiledEggs$Trier", "takesLast", "()Z"⟩ yX9_takesLast wsX9_takesLast) := goodIn_app (goodIn_of _ (by decide +kernel)) ggX9_nextEgg_X9_takesLast
set_option maxRecDepth 20000 in
theorem ggX9_nextEgg_X4_takesLast : GoodIn wsX9_nextEgg wsX4_takesLast := goodIn_r _ [59] (by decide +kernel) (by decide +kernel)
set_option maxRecDepth 20000 in
theorem gX9_nextEgg_X4_takesLast_u21X4 : GoodIn wsX9_nextEgg (va_wsO RX9 21 RX4 "BoiledEggs$Trier" ⟨"BoiledEggs$Trier", "takesLast", "()Z"⟩ yX4_takesLast wsX4_takesLast) := goodIn_app (goodIn_of _ (by decide +kernel)) ggX9_nextEgg_X4_takesLast
set_option maxRecDepth 20000 in
theorem gX9_nextEgg_X9_takesLast_u21X5 : GoodIn wsX9_nextEgg (va_wsU RX9 21 RX5 "BoiledEggs$Trier" ⟨"BoiledEggs$Trier", "takesLast", "()Z"⟩ yX9_takesLast wsX9_takesLast) := goodIn_app (goodIn_of _ (by decide +kernel)) ggX9_nextEgg_X9_takesLast
set_option maxRecDepth 20000 in
theorem gX9_nextEgg_X9_takesLast : GoodIn wsX9_nextEgg (wsV RX9 21 RX9 yX9_takesLast wsX9_takesLast) := goodIn_app (goodIn_of _ (by decide +kernel)) ggX9_nextEgg_X9_takesLast
theorem dX9_nextEgg_0 : decode cX9_nextEgg 0 = .ok (.iconst (-1), 1) := by decide +kernel
theorem dX9_nextEgg_1 : decode cX9_nextEgg 1 = .ok (.istore_n 2, 1) := by decide +kernel
theorem dX9_nextEgg_2 : decode cX9_nextEgg 2 = .ok (.lconst 0, 1) := by decide +kernel
theorem dX9_nextEgg_3 : decode cX9_nextEgg 3 = .ok (.lstore_n 3, 1) := by decide +kernel
theorem dX9_nextEgg_4 : decode cX9_nextEgg 4 = .ok (.iconst 0, 1) := by decide +kernel
theorem dX9_nextEgg_5 : decode cX9_nextEgg 5 = .ok (.istore 5, 2) := by decide +kernel
theorem dX9_nextEgg_7 : decode cX9_nextEgg 7 = .ok (.iload 5, 2) := by decide +kernel
theorem dX9_nextEgg_9 : decode cX9_nextEgg 9 = .ok (.bipush 6, 2) := by decide +kernel
theorem dX9_nextEgg_11 : decode cX9_nextEgg 11 = .ok (.if_icmp .ge 71, 3) := by decide +kernel
theorem dX9_nextEgg_14 : decode cX9_nextEgg 14 = .ok (.aload_n 1, 1) := by decide +kernel
theorem dX9_nextEgg_15 : decode cX9_nextEgg 15 = .ok (.iload 5, 2) := by decide +kernel
theorem dX9_nextEgg_17 : decode cX9_nextEgg 17 = .ok (.invokevirtual 9, 3) := by decide +kernel
theorem dX9_nextEgg_20 : decode cX9_nextEgg 20 = .ok (.ifCond .eq 56, 3) := by decide +kernel
theorem dX9_nextEgg_23 : decode cX9_nextEgg 23 = .ok (.aload_n 0, 1) := by decide +kernel
theorem dX9_nextEgg_24 : decode cX9_nextEgg 24 = .ok (.aload_n 1, 1) := by decide +kernel
theorem dX9_nextEgg_25 : decode cX9_nextEgg 25 = .ok (.iload 5, 2) := by decide +kernel
theorem dX9_nextEgg_27 : decode cX9_nextEgg 27 = .ok (.invokevirtual 15, 3) := by decide +kernel
theorem dX9_nextEgg_30 : decode cX9_nextEgg 30 = .ok (.lstore 6, 2) := by decide +kernel
theorem dX9_nextEgg_32 : decode cX9_nextEgg 32 = .ok (.lload 6, 2) := by decide +kernel
theorem dX9_nextEgg_34 : decode cX9_nextEgg 34 = .ok (.lload_n 3, 1) := by decide +kernel
theorem dX9_nextEgg_35 : decode cX9_nextEgg 35 = .ok (.lcmp, 1) := by decide +kernel
theorem dX9_nextEgg_36 : decode cX9_nextEgg 36 = .ok (.ifCond .ne 14, 3) := by decide +kernel
theorem dX9_nextEgg_39 : decode cX9_nextEgg 39 = .ok (.aload_n 0, 1) := by decide +kernel
theorem dX9_nextEgg_40 : decode cX9_nextEgg 40 = .ok (.invokevirtual 21, 3) := by decide +kernel
theorem dX9_nextEgg_43 : decode cX9_nextEgg 43 = .ok (.ifCond .eq 7, 3) := by decide +kernel
theorem dX9_nextEgg_46 : decode cX9_nextEgg 46 = .ok (.iconst 1, 1) := by decide +kernel
theorem dX9_nextEgg_47 : decode cX9_nextEgg 47 = .ok (.goto 4, 3) := by decide +kernel
theorem dX9_nextEgg_50 : decode cX9_nextEgg 50 = .ok (.iconst 0, 1) := by decide +kernel
theorem dX9_nextEgg_51 : decode cX9_nextEgg 51 = .ok (.istore 8, 2) := by decide +kernel
theorem dX9_nextEgg_53 : decode cX9_nextEgg 53 = .ok (.iload_n 2, 1) := by decide +kernel
theorem dX9_nextEgg_54 : decode cX9_nextEgg 54 = .ok (.iconst (-1), 1) := by decide +kernel
theorem dX9_nextEgg_55 : decode cX9_nextEgg 55 = .ok (.if_icmp .eq 15, 3) := by decide +kernel
theorem dX9_nextEgg_58 : decode cX9_nextEgg 58 = .ok (.lload 6, 2) := by decide +kernel
theorem dX9_nextEgg_60 : decode cX9_nextEgg 60 = .ok (.lload_n 3, 1) := by decide +kernel
theorem dX9_nextEgg_61 : decode cX9_nextEgg 61 = .ok (.lcmp, 1) := by decide +kernel
theorem dX9_nextEgg_62 : decode cX9_nextEgg 62 = .ok (.ifCond .lt 8, 3) := by decide +kernel
theorem dX9_nextEgg_65 : decode cX9_nextEgg 65 = .ok (.iload 8, 2) := by decide +kernel
theorem dX9_nextEgg_67 : decode cX9_nextEgg 67 = .ok (.ifCond .eq 9, 3) := by decide +kernel
theorem dX9_nextEgg_70 : decode cX9_nextEgg 70 = .ok (.iload 5, 2) := by decide +kernel
theorem dX9_nextEgg_72 : decode cX9_nextEgg 72 = .ok (.istore_n 2, 1) := by decide +kernel
theorem dX9_nextEgg_73 : decode cX9_nextEgg 73 = .ok (.lload 6, 2) := by decide +kernel
theorem dX9_nextEgg_75 : decode cX9_nextEgg 75 = .ok (.lstore_n 3, 1) := by decide +kernel
theorem dX9_nextEgg_76 : decode cX9_nextEgg 76 = .ok (.iinc 5 1, 3) := by decide +kernel
theorem dX9_nextEgg_79 : decode cX9_nextEgg 79 = .ok (.goto (-72), 3) := by decide +kernel
theorem dX9_nextEgg_82 : decode cX9_nextEgg 82 = .ok (.iload_n 2, 1) := by decide +kernel
theorem dX9_nextEgg_83 : decode cX9_nextEgg 83 = .ok (.ireturn, 1) := by decide +kernel
set_option maxRecDepth 20000 in
theorem ggX10_init_X7_init : GoodIn wsX10_init wsX7_init := goodIn_r _ [28, 29, 2, 3, 30, 31, 54, 55] (by decide +kernel) (by decide +kernel)
set_option maxRecDepth 20000 in
theorem gX10_init_X7_init_n9 : GoodIn wsX10_init (wsX7_init) := ggX10_init_X7_init
set_option maxRecDepth 20000 in
theorem ggX10_init_X6_init : GoodIn wsX10_init wsX6_init := goodIn_r _ [33, 34, 2, 3, 30, 35, 68, 69, 70, 71, 72, 73] (by decide +kernel) (by decide +kernel)
set_option maxRecDepth 20000 in
theorem gX10_init_X6_init_n18 : GoodIn wsX10_init (wsX6_init) := ggX10_init_X6_init
set_option maxRecDepth 20000 in
theorem ggX10_init_X8_init : GoodIn wsX10_init wsX8_init := goodIn_r _ [37, 38, 2, 3, 30, 39, 40, 41, 42, 43, 44, 74, 75, 76, 77, 78, 79, 80, 81] (by decide +kernel) (by decide +kernel)
set_option maxRecDepth 20000 in
theorem gX10_init_X8_init_n25 : GoodIn wsX10_init (wsX8_init) := ggX10_init_X8_init
set_option maxRecDepth 20000 in
theorem ggX10_init_X1_init : GoodIn wsX10_init wsX1_init := goodIn_r _ [46, 47, 2, 3, 40, 48, 49, 30, 50, 82, 83, 84, 85, 86, 87] (by decide +kernel) (by decide +kernel)
set_option maxRecDepth 20000 in
theorem gX10_init_X1_init_n35 : GoodIn wsX10_init (wsX1_init) := ggX10_init_X1_init
set_option maxRecDepth 20000 in
theorem ggX10_init_X3_init : GoodIn wsX10_init wsX3_init := goodIn_r _ [52, 53, 2, 3] (by decide +kernel) (by decide +kernel)
set_option maxRecDepth 20000 in
theorem gX10_init_X3_init_n42 : GoodIn wsX10_init (wsX3_init) := ggX10_init_X3_init
theorem dX10_init_0 : decode cX10_init 0 = .ok (.aload_n 0, 1) := by decide +kernel
theorem dX10_init_1 : decode cX10_init 1 = .ok (.invokespecial 1, 3) := by decide +kernel
theorem dX10_init_4 : decode cX10_init 4 = .ok (.aload_n 0, 1) := by decide +kernel
theorem dX10_init_5 : decode cX10_init 5 = .ok (.new 7, 3) := by decide +kernel
theorem dX10_init_8 : decode cX10_init 8 = .ok (.dup, 1) := by decide +kernel
theorem dX10_init_9 : decode cX10_init 9 = .ok (.invokespecial 9, 3) := by decide +kernel
theorem dX10_init_12 : decode cX10_init 12 = .ok (.putfield 10, 3) := by decide +kernel
theorem dX10_init_15 : decode cX10_init 15 = .ok (.aload_n 0, 1) := by decide +kernel
theorem dX10_init_16 : decode cX10_init 16 = .ok (.new 16, 3) := by decide +kernel
theorem dX10_init_19 : decode cX10_init 19 = .ok (.dup, 1) := by decide +kernel
theorem dX10_init_20 : decode cX10_init 20 = .ok (.invokespecial 18, 3) := by decide +kernel
theorem dX10_init_23 : decode cX10_init 23 = .ok (.putfield 19, 3) := by decide +kernel
theorem dX10_init_26 : decode cX10_init 26 = .ok (.aload_n 0, 1) := by decide +kernel
theorem dX10_init_27 : decode cX10_init 27 = .ok (.new 23, 3) := by decide +kernel
theorem dX10_init_30 : decode cX10_init 30 = .ok (.dup, 1) := by decide +kernel
theorem dX10_init_31 : decode cX10_init 31 = .ok (.invokespecial 25, 3) := by decide +kernel
theorem dX10_init_34 : decode cX10_init 34 = .ok (.putfield 26, 3) := by decide +kernel
theorem dX10_init_37 : decode cX10_init 37 = .ok (.aload_n 0, 1) := by decide +kernel
theorem dX10_init_38 : decode cX10_init 38 = .ok (.new 23, 3) := by decide +kernel
theorem dX10_init_41 : decode cX10_init 41 = .ok (.dup, 1) := by decide +kernel
theorem dX10_init_42 : decode cX10_init 42 = .ok (.invokespecial 25, 3) := by decide +kernel
theorem dX10_init_45 : decode cX10_init 45 = .ok (.putfield 30, 3) := by decide +kernel
theorem dX10_init_48 : decode cX10_init 48 = .ok (.aload_n 0, 1) := by decide +kernel
theorem dX10_init_49 : decode cX10_init 49 = .ok (.new 33, 3) := by decide +kernel
theorem dX10_init_52 : decode cX10_init 52 = .ok (.dup, 1) := by decide +kernel
theorem dX10_init_53 : decode cX10_init 53 = .ok (.invokespecial 35, 3) := by decide +kernel
theorem dX10_init_56 : decode cX10_init 56 = .ok (.putfield 36, 3) := by decide +kernel
theorem dX10_init_59 : decode cX10_init 59 = .ok (.aload_n 0, 1) := by decide +kernel
theorem dX10_init_60 : decode cX10_init 60 = .ok (.new 40, 3) := by decide +kernel
theorem dX10_init_63 : decode cX10_init 63 = .ok (.dup, 1) := by decide +kernel
theorem dX10_init_64 : decode cX10_init 64 = .ok (.invokespecial 42, 3) := by decide +kernel
theorem dX10_init_67 : decode cX10_init 67 = .ok (.putfield 43, 3) := by decide +kernel
theorem dX10_init_70 : decode cX10_init 70 = .ok (.aload_n 0, 1) := by decide +kernel
theorem dX10_init_71 : decode cX10_init 71 = .ok (.iconst 4, 1) := by decide +kernel
theorem dX10_init_72 : decode cX10_init 72 = .ok (.anewarray 47, 3) := by decide +kernel
theorem dX10_init_75 : decode cX10_init 75 = .ok (.putfield 49, 3) := by decide +kernel
theorem dX10_init_78 : decode cX10_init 78 = .ok (.return_, 1) := by decide +kernel
set_option maxRecDepth 20000 in
theorem ggX10_letter_X7_isFull : GoodIn wsX10_letter wsX7_isFull := goodIn_r _ [6, 7, 26, 27] (by decide +kernel) (by decide +kernel)
set_option maxRecDepth 20000 in
theorem gX10_letter_X7_isFull : GoodIn wsX10_letter (wsV RX10 53 RX7 yX7_isFull wsX7_isFull) := goodIn_app (goodIn_of _ (by decide +kernel)) ggX10_letter_X7_isFull
set_option maxRecDepth 20000 in
theorem ggX10_letter_X7_append : GoodIn wsX10_letter wsX7_append := goodIn_r _ [11, 12, 7, 13, 3, 4, 5, 6, 26, 27] (by decide +kernel) (by decide +kernel)
set_option maxRecDepth 20000 in
theorem gX10_letter_X7_append : GoodIn wsX10_letter (wsV RX10 57 RX7 yX7_append wsX7_append) := goodIn_app (goodIn_of _ (by decide +kernel)) ggX10_letter_X7_append
theorem dX10_letter_0 : decode cX10_letter 0 = .ok (.iload_n 1, 1) := by decide +kernel
theorem dX10_letter_1 : decode cX10_letter 1 = .ok (.bipush 32, 2) := by decide +kernel
theorem dX10_letter_3 : decode cX10_letter 3 = .ok (.if_icmp .lt 9, 3) := by decide +kernel
theorem dX10_letter_6 : decode cX10_letter 6 = .ok (.iload_n 1, 1) := by decide +kernel
theorem dX10_letter_7 : decode cX10_letter 7 = .ok (.bipush 126, 2) := by decide +kernel
theorem dX10_letter_9 : decode cX10_letter 9 = .ok (.if_icmp .le 6, 3) := by decide +kernel
theorem dX10_letter_12 : decode cX10_letter 12 = .ok (.bipush (-102), 2) := by decide +kernel
theorem dX10_letter_14 : decode cX10_letter 14 = .ok (.ireturn, 1) := by decide +kernel
theorem dX10_letter_15 : decode cX10_letter 15 = .ok (.aload_n 0, 1) := by decide +kernel
theorem dX10_letter_16 : decode cX10_letter 16 = .ok (.getfield 10, 3) := by decide +kernel
theorem dX10_letter_19 : decode cX10_letter 19 = .ok (.invokevirtual 53, 3) := by decide +kernel
theorem dX10_letter_22 : decode cX10_letter 22 = .ok (.ifCond .eq 6, 3) := by decide +kernel
theorem dX10_letter_25 : decode cX10_letter 25 = .ok (.bipush (-104), 2) := by decide +kernel
theorem dX10_letter_27 : decode cX10_letter 27 = .ok (.ireturn, 1) := by decide +kernel
theorem dX10_letter_28 : decode cX10_letter 28 = .ok (.aload_n 0, 1) := by decide +kernel
theorem dX10_letter_29 : decode cX10_letter 29 = .ok (.getfield 10, 3) := by decide +kernel
theorem dX10_letter_32 : decode cX10_letter 32 = .ok (.iload_n 1, 1) := by decide +kernel
theorem dX10_letter_33 : decode cX10_letter 33 = .ok (.invokevirtual 57, 3) := by decide +kernel
theorem dX10_letter_36 : decode cX10_letter 36 = .ok (.ireturn, 1) := by decide +kernel
set_option maxRecDepth 20000 in
theorem ggX10_blank_X7_clear : GoodIn wsX10_blank wsX7_clear := goodIn_r _ [6, 7, 20, 21] (by decide +kernel) (by decide +kernel)
set_option maxRecDepth 20000 in
theorem gX10_blank_X7_clear : GoodIn wsX10_blank (wsV RX10 61 RX7 yX7_clear wsX7_clear) := goodIn_app (goodIn_of _ (by decide +kernel)) ggX10_blank_X7_clear
theorem dX10_blank_0 : decode cX10_blank 0 = .ok (.aload_n 0, 1) := by decide +kernel
theorem dX10_blank_1 : decode cX10_blank 1 = .ok (.getfield 10, 3) := by decide +kernel
theorem dX10_blank_4 : decode cX10_blank 4 = .ok (.invokevirtual 61, 3) := by decide +kernel
theorem dX10_blank_7 : decode cX10_blank 7 = .ok (.ireturn, 1) := by decide +kernel
set_option maxRecDepth 20000 in
theorem ggX10_fault_X7_firstFault : GoodIn wsX10_fault wsX7_firstFault := goodIn_r _ [6, 7, 8, 9, 10, 5, 11, 12, 13, 14, 15, 16, 17, 18, 19, 20, 33, 34] (by decide +kernel) (by decide +kernel)
set_option maxRecDepth 20000 in
theorem gX10_fault_X7_firstFault : GoodIn wsX10_fault (wsV RX10 65 RX7 yX7_firstFault wsX7_firstFault) := goodIn_app (goodIn_of _ (by decide +kernel)) ggX10_fault_X7_firstFault
theorem dX10_fault_0 : decode cX10_fault 0 = .ok (.aload_n 0, 1) := by decide +kernel
theorem dX10_fault_1 : decode cX10_fault 1 = .ok (.getfield 10, 3) := by decide +kernel
theorem dX10_fault_4 : decode cX10_fault 4 = .ok (.invokevirtual 65, 3) := by decide +kernel
theorem dX10_fault_7 : decode cX10_fault 7 = .ok (.ireturn, 1) := by decide +kernel
set_option maxRecDepth 20000 in
theorem ggX10_kitchen_X7_isWholeKitchen : GoodIn wsX10_kitchen wsX7_isWholeKitchen := goodIn_r _ [11, 12, 13, 14, 15, 10, 16, 17, 18, 19, 20, 21, 22, 23, 24, 25, 26, 27, 28, 29, 103, 104] (by decide +kernel) (by decide +kernel)
set_option maxRecDepth 20000 in
theorem gX10_kitchen_X7_isWholeKitchen : GoodIn wsX10_kitchen (wsV RX10 68 RX7 yX7_isWholeKitchen wsX7_isWholeKitchen) := goodIn_app (goodIn_of _ (by decide +kernel)) ggX10_kitchen_X7_isWholeKitchen
set_option maxRecDepth 20000 in
theorem ggX10_kitchen_X6_readFrom : GoodIn wsX10_kitchen wsX6_readFrom := goodIn_r _ [34, 35, 36, 37, 38, 39, 40, 41, 42, 43, 44, 45, 14, 15, 10, 16, 12, 17, 97, 98, 99, 100, 101, 102, 103, 104] (by decide +kernel) (by decide +kernel)
set_option maxRecDepth 20000 in
theorem gX10_kitchen_X6_readFrom : GoodIn wsX10_kitchen (wsV RX10 71 RX6 yX6_readFrom wsX6_readFrom) := goodIn_app (goodIn_of _ (by decide +kernel)) ggX10_kitchen_X6_readFrom
set_option maxRecDepth 20000 in
theorem ggX10_kitchen_X7_clear : GoodIn wsX10_kitchen wsX7_clear := goodIn_r _ [49, 12, 103, 104] (by decide +kernel) (by decide +kernel)
set_option maxRecDepth 20000 in
theorem gX10_kitchen_X7_clear : GoodIn wsX10_kitchen (wsV RX10 61 RX7 yX7_clear wsX7_clear) := goodIn_app (goodIn_of _ (by decide +kernel)) ggX10_kitchen_X7_clear
set_option maxRecDepth 20000 in
theorem ggX10_kitchen_X8_begin : GoodIn wsX10_kitchen wsX8_begin := goodIn_r _ [54, 55, 56, 57, 58, 59, 60, 61, 62, 63, 33, 64, 39, 65, 66, 67, 68, 69, 70, 71, 72, 73, 74, 75, 44, 76, 77, 78, 79, 80, 81, 53, 82, 83, 84, 105, 106, 107, 108, 109, 110, 111, 112, 97, 98, 99, 100, 101, 102] (by decide +kernel) (by decide +kernel)
set_option maxRecDepth 20000 in
theorem gX10_kitchen_X8_begin : GoodIn wsX10_kitchen (wsV RX10 75 RX8 yX8_begin wsX8_begin) := goodIn_app (goodIn_of _ (by decide +kernel)) ggX10_kitchen_X8_begin
theorem dX10_kitchen_0 : decode cX10_kitchen 0 = .ok (.aload_n 0, 1) := by decide +kernel
theorem dX10_kitchen_1 : decode cX10_kitchen 1 = .ok (.getfield 10, 3) := by decide +kernel
theorem dX10_kitchen_4 : decode cX10_kitchen 4 = .ok (.invokevirtual 68, 3) := by decide +kernel
theorem dX10_kitchen_7 : decode cX10_kitchen 7 = .ok (.ifCond .ne 6, 3) := by decide +kernel
theorem dX10_kitchen_10 : decode cX10_kitchen 10 = .ok (.bipush (-103), 2) := by decide +kernel
theorem dX10_kitchen_12 : decode cX10_kitchen 12 = .ok (.ireturn, 1) := by decide +kernel
theorem dX10_kitchen_13 : decode cX10_kitchen 13 = .ok (.aload_n 0, 1) := by decide +kernel
theorem dX10_kitchen_14 : decode cX10_kitchen 14 = .ok (.getfield 19, 3) := by decide +kernel
theorem dX10_kitchen_17 : decode cX10_kitchen 17 = .ok (.aload_n 0, 1) := by decide +kernel
theorem dX10_kitchen_18 : decode cX10_kitchen 18 = .ok (.getfield 10, 3) := by decide +kernel
theorem dX10_kitchen_21 : decode cX10_kitchen 21 = .ok (.invokevirtual 71, 3) := by decide +kernel
theorem dX10_kitchen_24 : decode cX10_kitchen 24 = .ok (.aload_n 0, 1) := by decide +kernel
theorem dX10_kitchen_25 : decode cX10_kitchen 25 = .ok (.getfield 10, 3) := by decide +kernel
theorem dX10_kitchen_28 : decode cX10_kitchen 28 = .ok (.invokevirtual 61, 3) := by decide +kernel
theorem dX10_kitchen_31 : decode cX10_kitchen 31 = .ok (.pop, 1) := by decide +kernel
theorem dX10_kitchen_32 : decode cX10_kitchen 32 = .ok (.aload_n 0, 1) := by decide +kernel
theorem dX10_kitchen_33 : decode cX10_kitchen 33 = .ok (.getfield 26, 3) := by decide +kernel
theorem dX10_kitchen_36 : decode cX10_kitchen 36 = .ok (.aload_n 0, 1) := by decide +kernel
theorem dX10_kitchen_37 : decode cX10_kitchen 37 = .ok (.getfield 19, 3) := by decide +kernel
theorem dX10_kitchen_40 : decode cX10_kitchen 40 = .ok (.invokevirtual 75, 3) := by decide +kernel
theorem dX10_kitchen_43 : decode cX10_kitchen 43 = .ok (.aload_n 0, 1) := by decide +kernel
theorem dX10_kitchen_44 : decode cX10_kitchen 44 = .ok (.iconst 0, 1) := by decide +kernel
theorem dX10_kitchen_45 : decode cX10_kitchen 45 = .ok (.putfield 79, 3) := by decide +kernel
theorem dX10_kitchen_48 : decode cX10_kitchen 48 = .ok (.aload_n 0, 1) := by decide +kernel
theorem dX10_kitchen_49 : decode cX10_kitchen 49 = .ok (.iconst 0, 1) := by decide +kernel
theorem dX10_kitchen_50 : decode cX10_kitchen 50 = .ok (.putfield 83, 3) := by decide +kernel
theorem dX10_kitchen_53 : decode cX10_kitchen 53 = .ok (.aload_n 0, 1) := by decide +kernel
theorem dX10_kitchen_54 : decode cX10_kitchen 54 = .ok (.dup, 1) := by decide +kernel
theorem dX10_kitchen_55 : decode cX10_kitchen 55 = .ok (.getfield 87, 3) := by decide +kernel
theorem dX10_kitchen_58 : decode cX10_kitchen 58 = .ok (.iconst 1, 1) := by decide +kernel
theorem dX10_kitchen_59 : decode cX10_kitchen 59 = .ok (.iadd, 1) := by decide +kernel
theorem dX10_kitchen_60 : decode cX10_kitchen 60 = .ok (.putfield 87, 3) := by decide +kernel
theorem dX10_kitchen_63 : decode cX10_kitchen 63 = .ok (.aload_n 0, 1) := by decide +kernel
theorem dX10_kitchen_64 : decode cX10_kitchen 64 = .ok (.getfield 19, 3) := by decide +kernel
theorem dX10_kitchen_67 : decode cX10_kitchen 67 = .ok (.getfield 90, 3) := by decide +kernel
theorem dX10_kitchen_70 : decode cX10_kitchen 70 = .ok (.ireturn, 1) := by decide +kernel
set_option maxRecDepth 20000 in
theorem ggX10_egg_X10_isEgg : GoodIn wsX10_egg wsX10_isEgg := goodIn_r _ [7, 1, 16, 17, 18, 19, 20, 21, 22, 23, 24, 25, 26, 27, 28, 29, 30, 31, 32, 33] (by decide +kernel) (by decide +kernel)
set_option maxRecDepth 20000 in
theorem gX10_egg_X10_isEgg : GoodIn wsX10_egg (wsV RX10 93 RX10 yX10_isEgg wsX10_isEgg) := goodIn_app (goodIn_of _ (by decide +kernel)) ggX10_egg_X10_isEgg
set_option maxRecDepth 20000 in
theorem ggX10_egg_X8_isInBox : GoodIn wsX10_egg wsX8_isInBox := goodIn_r _ [12, 13, 14, 6, 15, 34, 35, 36, 37, 38, 39, 40, 41] (by decide +kernel) (by decide +kernel)
set_option maxRecDepth 20000 in
theorem gX10_egg_X8_isInBox : GoodIn wsX10_egg (wsV RX10 101 RX8 yX8_isInBox wsX8_isInBox) := goodIn_app (goodIn_of _ (by decide +kernel)) ggX10_egg_X8_isInBox
theorem dX10_egg_0 : decode cX10_egg 0 = .ok (.aload_n 0, 1) := by decide +kernel
theorem dX10_egg_1 : decode cX10_egg 1 = .ok (.iload_n 1, 1) := by decide +kernel
theorem dX10_egg_2 : decode cX10_egg 2 = .ok (.invokevirtual 93, 3) := by decide +kernel
theorem dX10_egg_5 : decode cX10_egg 5 = .ok (.ifCond .ne 6, 3) := by decide +kernel
theorem dX10_egg_8 : decode cX10_egg 8 = .ok (.bipush (-101), 2) := by decide +kernel
theorem dX10_egg_10 : decode cX10_egg 10 = .ok (.ireturn, 1) := by decide +kernel
theorem dX10_egg_11 : decode cX10_egg 11 = .ok (.iload_n 2, 1) := by decide +kernel
theorem dX10_egg_12 : decode cX10_egg 12 = .ok (.tableswitch 93 0 4 #[36, 46, 63, 73, 83], 36) := by decide +kernel
theorem dX10_egg_48 : decode cX10_egg 48 = .ok (.aload_n 0, 1) := by decide +kernel
theorem dX10_egg_49 : decode cX10_egg 49 = .ok (.getfield 19, 3) := by decide +kernel
theorem dX10_egg_52 : decode cX10_egg 52 = .ok (.getfield 97, 3) := by decide +kernel
theorem dX10_egg_55 : decode cX10_egg 55 = .ok (.iload_n 1, 1) := by decide +kernel
theorem dX10_egg_56 : decode cX10_egg 56 = .ok (.iaload, 1) := by decide +kernel
theorem dX10_egg_57 : decode cX10_egg 57 = .ok (.ireturn, 1) := by decide +kernel
theorem dX10_egg_58 : decode cX10_egg 58 = .ok (.aload_n 0, 1) := by decide +kernel
theorem dX10_egg_59 : decode cX10_egg 59 = .ok (.getfield 26, 3) := by decide +kernel
theorem dX10_egg_62 : decode cX10_egg 62 = .ok (.iload_n 1, 1) := by decide +kernel
theorem dX10_egg_63 : decode cX10_egg 63 = .ok (.invokevirtual 101, 3) := by decide +kernel
theorem dX10_egg_66 : decode cX10_egg 66 = .ok (.ifCond .eq 7, 3) := by decide +kernel
theorem dX10_egg_69 : decode cX10_egg 69 = .ok (.iconst 1, 1) := by decide +kernel
theorem dX10_egg_70 : decode cX10_egg 70 = .ok (.goto 4, 3) := by decide +kernel
theorem dX10_egg_73 : decode cX10_egg 73 = .ok (.iconst 0, 1) := by decide +kernel
theorem dX10_egg_74 : decode cX10_egg 74 = .ok (.ireturn, 1) := by decide +kernel
theorem dX10_egg_75 : decode cX10_egg 75 = .ok (.aload_n 0, 1) := by decide +kernel
theorem dX10_egg_76 : decode cX10_egg 76 = .ok (.getfield 26, 3) := by decide +kernel
theorem dX10_egg_79 : decode cX10_egg 79 = .ok (.getfield 104, 3) := by decide +kernel
theorem dX10_egg_82 : decode cX10_egg 82 = .ok (.iload_n 1, 1) := by decide +kernel
theorem dX10_egg_83 : decode cX10_egg 83 = .ok (.iaload, 1) := by decide +kernel
theorem dX10_egg_84 : decode cX10_egg 84 = .ok (.ireturn, 1) := by decide +kernel
theorem dX10_egg_85 : decode cX10_egg 85 = .ok (.aload_n 0, 1) := by decide +kernel
theorem dX10_egg_86 : decode cX10_egg 86 = .ok (.getfield 26, 3) := by decide +kernel
theorem dX10_egg_89 : decode cX10_egg 89 = .ok (.getfield 107, 3) := by decide +kernel
theorem dX10_egg_92 : decode cX10_egg 92 = .ok (.iload_n 1, 1) := by decide +kernel
theorem dX10_egg_93 : decode cX10_egg 93 = .ok (.iaload, 1) := by decide +kernel
theorem dX10_egg_94 : decode cX10_egg 94 = .ok (.ireturn, 1) := by decide +kernel
theorem dX10_egg_95 : decode cX10_egg 95 = .ok (.aload_n 0, 1) := by decide +kernel
theorem dX10_egg_96 : decode cX10_egg 96 = .ok (.getfield 26, 3) := by decide +kernel
theorem dX10_egg_99 : decode cX10_egg 99 = .ok (.getfield 110, 3) := by decide +kernel
theorem dX10_egg_102 : decode cX10_egg 102 = .ok (.iload_n 1, 1) := by decide +kernel
theorem dX10_egg_103 : decode cX10_egg 103 = .ok (.iaload, 1) := by decide +kernel
theorem dX10_egg_104 : decode cX10_egg 104 = .ok (.ireturn, 1) := by decide +kernel
theorem dX10_egg_105 : decode cX10_egg 105 = .ok (.bipush (-102), 2) := by decide +kernel
theorem dX10_egg_107 : decode cX10_egg 107 = .ok (.ireturn, 1) := by decide +kernel
set_option maxRecDepth 20000 in
theorem ggX10_spin_X10_isEgg : GoodIn wsX10_spin wsX10_isEgg := goodIn_r _ [7, 1, 53, 54, 55, 56, 57, 58, 59, 60, 61, 62, 63, 64, 73, 74, 75, 76, 77, 78] (by decide +kernel) (by decide +kernel)
set_option maxRecDepth 20000 in
theorem gX10_spin_X10_isEgg : GoodIn wsX10_spin (wsV RX10 93 RX10 yX10_isEgg wsX10_isEgg) := goodIn_app (goodIn_of _ (by decide +kernel)) ggX10_spin_X10_isEgg
set_option maxRecDepth 20000 in
theorem ggX10_spin_X6_tenthsOf : GoodIn wsX10_spin wsX6_tenthsOf := goodIn_r _ [12, 13, 14, 73, 74, 75, 76, 77, 78] (by decide +kernel) (by decide +kernel)
set_option maxRecDepth 20000 in
theorem gX10_spin_X6_tenthsOf : GoodIn wsX10_spin (wsV RX10 113 RX6 yX6_tenthsOf wsX6_tenthsOf) := goodIn_app (goodIn_of _ (by decide +kernel)) ggX10_spin_X6_tenthsOf
set_option maxRecDepth 20000 in
theorem ggX10_spin_X8_isInBox : GoodIn wsX10_spin wsX8_isInBox := goodIn_r _ [19, 20, 21, 6, 22, 65, 66, 67, 68, 69, 70, 71, 72] (by decide +kernel) (by decide +kernel)
set_option maxRecDepth 20000 in
theorem gX10_spin_X8_isInBox : GoodIn wsX10_spin (wsV RX10 101 RX8 yX8_isInBox wsX8_isInBox) := goodIn_app (goodIn_of _ (by decide +kernel)) ggX10_spin_X8_isInBox
set_option maxRecDepth 20000 in
theorem ggX10_spin_X8_canBe : GoodIn wsX10_spin wsX8_canBe := goodIn_r _ [26, 27, 28, 29, 18, 30, 31, 32, 33, 21, 6, 22, 34, 35, 36, 37, 65, 66, 67, 68, 69, 70, 71, 72] (by decide +kernel) (by decide +kernel)
set_option maxRecDepth 20000 in
theorem gX10_spin_X8_canBe : GoodIn wsX10_spin (wsV RX10 117 RX8 yX8_canBe wsX8_canBe) := goodIn_app (goodIn_of _ (by decide +kernel)) ggX10_spin_X8_canBe
set_option maxRecDepth 20000 in
theorem ggX10_spin_X8_weigh : GoodIn wsX10_spin wsX8_weigh := goodIn_r _ [41, 31, 32, 33, 21, 6, 22, 42, 43, 44, 18, 45, 65, 66, 67, 68, 69, 70, 71, 72] (by decide +kernel) (by decide +kernel)
set_option maxRecDepth 20000 in
theorem gX10_spin_X8_weigh : GoodIn wsX10_spin (wsV RX10 124 RX8 yX8_weigh wsX8_weigh) := goodIn_app (goodIn_of _ (by decide +kernel)) ggX10_spin_X8_weigh
set_option maxRecDepth 20000 in
theorem ggX10_spin_X8_countSpin : GoodIn wsX10_spin wsX8_countSpin := goodIn_r _ [49, 50, 51, 52, 65, 66, 67, 68, 69, 70, 71, 72] (by decide +kernel) (by decide +kernel)
set_option maxRecDepth 20000 in
theorem gX10_spin_X8_countSpin : GoodIn wsX10_spin (wsV RX10 128 RX8 yX8_countSpin wsX8_countSpin) := goodIn_app (goodIn_of _ (by decide +kernel)) ggX10_spin_X8_countSpin
theorem dX10_spin_0 : decode cX10_spin 0 = .ok (.aload_n 0, 1) := by decide +kernel
theorem dX10_spin_1 : decode cX10_spin 1 = .ok (.iload_n 1, 1) := by decide +kernel
theorem dX10_spin_2 : decode cX10_spin 2 = .ok (.invokevirtual 93, 3) := by decide +kernel
theorem dX10_spin_5 : decode cX10_spin 5 = .ok (.ifCond .ne 6, 3) := by decide +kernel
theorem dX10_spin_8 : decode cX10_spin 8 = .ok (.bipush (-101), 2) := by decide +kernel
theorem dX10_spin_10 : decode cX10_spin 10 = .ok (.ireturn, 1) := by decide +kernel
theorem dX10_spin_11 : decode cX10_spin 11 = .ok (.aload_n 0, 1) := by decide +kernel
theorem dX10_spin_12 : decode cX10_spin 12 = .ok (.getfield 19, 3) := by decide +kernel
theorem dX10_spin_15 : decode cX10_spin 15 = .ok (.iconst 1, 1) := by decide +kernel
theorem dX10_spin_16 : decode cX10_spin 16 = .ok (.iload_n 2, 1) := by decide +kernel
theorem dX10_spin_17 : decode cX10_spin 17 = .ok (.invokevirtual 113, 3) := by decide +kernel
theorem dX10_spin_20 : decode cX10_spin 20 = .ok (.istore_n 3, 1) := by decide +kernel
theorem dX10_spin_21 : decode cX10_spin 21 = .ok (.aload_n 0, 1) := by decide +kernel
theorem dX10_spin_22 : decode cX10_spin 22 = .ok (.getfield 19, 3) := by decide +kernel
theorem dX10_spin_25 : decode cX10_spin 25 = .ok (.iconst 0, 1) := by decide +kernel
theorem dX10_spin_26 : decode cX10_spin 26 = .ok (.iload_n 2, 1) := by decide +kernel
theorem dX10_spin_27 : decode cX10_spin 27 = .ok (.invokevirtual 113, 3) := by decide +kernel
theorem dX10_spin_30 : decode cX10_spin 30 = .ok (.istore 4, 2) := by decide +kernel
theorem dX10_spin_32 : decode cX10_spin 32 = .ok (.aload_n 0, 1) := by decide +kernel
theorem dX10_spin_33 : decode cX10_spin 33 = .ok (.getfield 26, 3) := by decide +kernel
theorem dX10_spin_36 : decode cX10_spin 36 = .ok (.iload_n 1, 1) := by decide +kernel
theorem dX10_spin_37 : decode cX10_spin 37 = .ok (.invokevirtual 101, 3) := by decide +kernel
theorem dX10_spin_40 : decode cX10_spin 40 = .ok (.ifCond .eq 17, 3) := by decide +kernel
theorem dX10_spin_43 : decode cX10_spin 43 = .ok (.aload_n 0, 1) := by decide +kernel
theorem dX10_spin_44 : decode cX10_spin 44 = .ok (.getfield 26, 3) := by decide +kernel
theorem dX10_spin_47 : decode cX10_spin 47 = .ok (.iload_n 1, 1) := by decide +kernel
theorem dX10_spin_48 : decode cX10_spin 48 = .ok (.iload_n 3, 1) := by decide +kernel
theorem dX10_spin_49 : decode cX10_spin 49 = .ok (.iload 4, 2) := by decide +kernel
theorem dX10_spin_51 : decode cX10_spin 51 = .ok (.invokevirtual 117, 3) := by decide +kernel
theorem dX10_spin_54 : decode cX10_spin 54 = .ok (.ifCond .ne 6, 3) := by decide +kernel
theorem dX10_spin_57 : decode cX10_spin 57 = .ok (.bipush (-103), 2) := by decide +kernel
theorem dX10_spin_59 : decode cX10_spin 59 = .ok (.ireturn, 1) := by decide +kernel
theorem dX10_spin_60 : decode cX10_spin 60 = .ok (.aload_n 0, 1) := by decide +kernel
theorem dX10_spin_61 : decode cX10_spin 61 = .ok (.getfield 26, 3) := by decide +kernel
theorem dX10_spin_64 : decode cX10_spin 64 = .ok (.getfield 121, 3) := by decide +kernel
theorem dX10_spin_67 : decode cX10_spin 67 = .ok (.bipush 8, 2) := by decide +kernel
theorem dX10_spin_69 : decode cX10_spin 69 = .ok (.if_icmp .lt 6, 3) := by decide +kernel
theorem dX10_spin_72 : decode cX10_spin 72 = .ok (.bipush (-104), 2) := by decide +kernel
theorem dX10_spin_74 : decode cX10_spin 74 = .ok (.ireturn, 1) := by decide +kernel
theorem dX10_spin_75 : decode cX10_spin 75 = .ok (.aload_n 0, 1) := by decide +kernel
theorem dX10_spin_76 : decode cX10_spin 76 = .ok (.getfield 26, 3) := by decide +kernel
theorem dX10_spin_79 : decode cX10_spin 79 = .ok (.iload_n 1, 1) := by decide +kernel
theorem dX10_spin_80 : decode cX10_spin 80 = .ok (.iload_n 3, 1) := by decide +kernel
theorem dX10_spin_81 : decode cX10_spin 81 = .ok (.iload 4, 2) := by decide +kernel
theorem dX10_spin_83 : decode cX10_spin 83 = .ok (.invokevirtual 124, 3) := by decide +kernel
theorem dX10_spin_86 : decode cX10_spin 86 = .ok (.aload_n 0, 1) := by decide +kernel
theorem dX10_spin_87 : decode cX10_spin 87 = .ok (.getfield 26, 3) := by decide +kernel
theorem dX10_spin_90 : decode cX10_spin 90 = .ok (.iload_n 1, 1) := by decide +kernel
theorem dX10_spin_91 : decode cX10_spin 91 = .ok (.iload_n 2, 1) := by decide +kernel
theorem dX10_spin_92 : decode cX10_spin 92 = .ok (.invokevirtual 128, 3) := by decide +kernel
theorem dX10_spin_95 : decode cX10_spin 95 = .ok (.aload_n 0, 1) := by decide +kernel
theorem dX10_spin_96 : decode cX10_spin 96 = .ok (.getfield 26, 3) := by decide +kernel
theorem dX10_spin_99 : decode cX10_spin 99 = .ok (.getfield 121, 3) := by decide +kernel
theorem dX10_spin_102 : decode cX10_spin 102 = .ok (.ireturn, 1) := by decide +kernel
set_option maxRecDepth 20000 in
theorem ggX10_stop_X10_isEgg : GoodIn wsX10_stop wsX10_isEgg := goodIn_r _ [7, 2, 63, 64, 65, 66, 67, 68, 69, 70, 71, 72, 73, 74, 75, 76, 77, 78, 79, 80] (by decide +kernel) (by decide +kernel)
set_option maxRecDepth 20000 in
theorem gX10_stop_X10_isEgg : GoodIn wsX10_stop (wsV RX10 93 RX10 yX10_isEgg wsX10_isEgg) := goodIn_app (goodIn_of _ (by decide +kernel)) ggX10_stop_X10_isEgg
set_option maxRecDepth 20000 in
theorem ggX10_stop_X8_isInBox : GoodIn wsX10_stop wsX8_isInBox := goodIn_r _ [12, 13, 14, 6, 15, 81, 82, 83, 84, 85, 86, 87, 88] (by decide +kernel) (by decide +kernel)
set_option maxRecDepth 20000 in
theorem gX10_stop_X8_isInBox : GoodIn wsX10_stop (wsV RX10 101 RX8 yX8_isInBox wsX8_isInBox) := goodIn_app (goodIn_of _ (by decide +kernel)) ggX10_stop_X8_isInBox
set_option maxRecDepth 20000 in
theorem ggX10_stop_X8_takeOut : GoodIn wsX10_stop wsX8_takeOut := goodIn_r _ [19, 13, 81, 82, 83, 84, 85, 86, 87, 88] (by decide +kernel) (by decide +kernel)
set_option maxRecDepth 20000 in
theorem gX10_stop_X8_takeOut : GoodIn wsX10_stop (wsV RX10 135 RX8 yX8_takeOut wsX8_takeOut) := goodIn_app (goodIn_of _ (by decide +kernel)) ggX10_stop_X8_takeOut
set_option maxRecDepth 20000 in
theorem ggX10_stop_X8_canBeSure : GoodIn wsX10_stop wsX8_canBeSure := goodIn_r _ [23, 24, 25, 26, 11, 27, 28, 29, 30, 31, 32, 33, 34, 14, 6, 15, 35, 36, 37, 38, 81, 82, 83, 84, 85, 86, 87, 88] (by decide +kernel) (by decide +kernel)
set_option maxRecDepth 20000 in
theorem gX10_stop_X8_canBeSure : GoodIn wsX10_stop (wsV RX10 139 RX8 yX8_canBeSure wsX8_canBeSure) := goodIn_app (goodIn_of _ (by decide +kernel)) ggX10_stop_X8_canBeSure
set_option maxRecDepth 20000 in
theorem ggX10_stop_X8_makeSure : GoodIn wsX10_stop wsX8_makeSure := goodIn_r _ [42, 43, 44, 45, 46, 11, 47, 32, 33, 34, 14, 6, 15, 48, 49, 50, 51, 81, 82, 83, 84, 85, 86, 87, 88] (by decide +kernel) (by decide +kernel)
set_option maxRecDepth 20000 in
theorem gX10_stop_X8_makeSure : GoodIn wsX10_stop (wsV RX10 143 RX8 yX8_makeSure wsX8_makeSure) := goodIn_app (goodIn_of _ (by decide +kernel)) ggX10_stop_X8_makeSure
set_option maxRecDepth 20000 in
theorem ggX10_stop_X8_howManyInBox : GoodIn wsX10_stop wsX8_howManyInBox := goodIn_r _ [55, 13, 56, 57, 58, 59, 60, 61, 62, 81, 82, 83, 84, 85, 86, 87, 88] (by decide +kernel) (by decide +kernel)
set_option maxRecDepth 20000 in
theorem gX10_stop_X8_howManyInBox : GoodIn wsX10_stop (wsV RX10 146 RX8 yX8_howManyInBox wsX8_howManyInBox) := goodIn_app (goodIn_of _ (by decide +kernel)) ggX10_stop_X8_howManyInBox
theorem dX10_stop_0 : decode cX10_stop 0 = .ok (.aload_n 0, 1) := by decide +kernel
theorem dX10_stop_1 : decode cX10_stop 1 = .ok (.iload_n 1, 1) := by decide +kernel
theorem dX10_stop_2 : decode cX10_stop 2 = .ok (.invokevirtual 93, 3) := by decide +kernel
theorem dX10_stop_5 : decode cX10_stop 5 = .ok (.ifCond .ne 6, 3) := by decide +kernel
theorem dX10_stop_8 : decode cX10_stop 8 = .ok (.bipush (-101), 2) := by decide +kernel
theorem dX10_stop_10 : decode cX10_stop 10 = .ok (.ireturn, 1) := by decide +kernel
theorem dX10_stop_11 : decode cX10_stop 11 = .ok (.iload_n 2, 1) := by decide +kernel
theorem dX10_stop_12 : decode cX10_stop 12 = .ok (.ifCond .lt 8, 3) := by decide +kernel
theorem dX10_stop_15 : decode cX10_stop 15 = .ok (.iload_n 2, 1) := by decide +kernel
theorem dX10_stop_16 : decode cX10_stop 16 = .ok (.iconst 2, 1) := by decide +kernel
theorem dX10_stop_17 : decode cX10_stop 17 = .ok (.if_icmp .le 6, 3) := by decide +kernel
theorem dX10_stop_20 : decode cX10_stop 20 = .ok (.bipush (-102), 2) := by decide +kernel
theorem dX10_stop_22 : decode cX10_stop 22 = .ok (.ireturn, 1) := by decide +kernel
theorem dX10_stop_23 : decode cX10_stop 23 = .ok (.aload_n 0, 1) := by decide +kernel
theorem dX10_stop_24 : decode cX10_stop 24 = .ok (.getfield 26, 3) := by decide +kernel
theorem dX10_stop_27 : decode cX10_stop 27 = .ok (.iload_n 1, 1) := by decide +kernel
theorem dX10_stop_28 : decode cX10_stop 28 = .ok (.invokevirtual 101, 3) := by decide +kernel
theorem dX10_stop_31 : decode cX10_stop 31 = .ok (.ifCond .ne 6, 3) := by decide +kernel
theorem dX10_stop_34 : decode cX10_stop 34 = .ok (.bipush (-103), 2) := by decide +kernel
theorem dX10_stop_36 : decode cX10_stop 36 = .ok (.ireturn, 1) := by decide +kernel
theorem dX10_stop_37 : decode cX10_stop 37 = .ok (.iload_n 2, 1) := by decide +kernel
theorem dX10_stop_38 : decode cX10_stop 38 = .ok (.iconst 2, 1) := by decide +kernel
theorem dX10_stop_39 : decode cX10_stop 39 = .ok (.if_icmp .ne 27, 3) := by decide +kernel
theorem dX10_stop_42 : decode cX10_stop 42 = .ok (.aload_n 0, 1) := by decide +kernel
theorem dX10_stop_43 : decode cX10_stop 43 = .ok (.getfield 19, 3) := by decide +kernel
theorem dX10_stop_46 : decode cX10_stop 46 = .ok (.getfield 132, 3) := by decide +kernel
theorem dX10_stop_49 : decode cX10_stop 49 = .ok (.ifCond .ne 6, 3) := by decide +kernel
theorem dX10_stop_52 : decode cX10_stop 52 = .ok (.bipush (-103), 2) := by decide +kernel
theorem dX10_stop_54 : decode cX10_stop 54 = .ok (.ireturn, 1) := by decide +kernel
theorem dX10_stop_55 : decode cX10_stop 55 = .ok (.aload_n 0, 1) := by decide +kernel
theorem dX10_stop_56 : decode cX10_stop 56 = .ok (.getfield 26, 3) := by decide +kernel
theorem dX10_stop_59 : decode cX10_stop 59 = .ok (.iload_n 1, 1) := by decide +kernel
theorem dX10_stop_60 : decode cX10_stop 60 = .ok (.invokevirtual 135, 3) := by decide +kernel
theorem dX10_stop_63 : decode cX10_stop 63 = .ok (.goto 45, 3) := by decide +kernel
theorem dX10_stop_66 : decode cX10_stop 66 = .ok (.aload_n 0, 1) := by decide +kernel
theorem dX10_stop_67 : decode cX10_stop 67 = .ok (.getfield 26, 3) := by decide +kernel
theorem dX10_stop_70 : decode cX10_stop 70 = .ok (.iload_n 1, 1) := by decide +kernel
theorem dX10_stop_71 : decode cX10_stop 71 = .ok (.iload_n 2, 1) := by decide +kernel
theorem dX10_stop_72 : decode cX10_stop 72 = .ok (.iconst 1, 1) := by decide +kernel
theorem dX10_stop_73 : decode cX10_stop 73 = .ok (.if_icmp .ne 7, 3) := by decide +kernel
theorem dX10_stop_76 : decode cX10_stop 76 = .ok (.iconst 1, 1) := by decide +kernel
theorem dX10_stop_77 : decode cX10_stop 77 = .ok (.goto 4, 3) := by decide +kernel
theorem dX10_stop_80 : decode cX10_stop 80 = .ok (.iconst 0, 1) := by decide +kernel
theorem dX10_stop_81 : decode cX10_stop 81 = .ok (.invokevirtual 139, 3) := by decide +kernel
theorem dX10_stop_84 : decode cX10_stop 84 = .ok (.ifCond .ne 6, 3) := by decide +kernel
theorem dX10_stop_87 : decode cX10_stop 87 = .ok (.bipush (-103), 2) := by decide +kernel
theorem dX10_stop_89 : decode cX10_stop 89 = .ok (.ireturn, 1) := by decide +kernel
theorem dX10_stop_90 : decode cX10_stop 90 = .ok (.aload_n 0, 1) := by decide +kernel
theorem dX10_stop_91 : decode cX10_stop 91 = .ok (.getfield 26, 3) := by decide +kernel
theorem dX10_stop_94 : decode cX10_stop 94 = .ok (.iload_n 1, 1) := by decide +kernel
theorem dX10_stop_95 : decode cX10_stop 95 = .ok (.iload_n 2, 1) := by decide +kernel
theorem dX10_stop_96 : decode cX10_stop 96 = .ok (.iconst 1, 1) := by decide +kernel
theorem dX10_stop_97 : decode cX10_stop 97 = .ok (.if_icmp .ne 7, 3) := by decide +kernel
theorem dX10_stop_100 : decode cX10_stop 100 = .ok (.iconst 1, 1) := by decide +kernel
theorem dX10_stop_101 : decode cX10_stop 101 = .ok (.goto 4, 3) := by decide +kernel
theorem dX10_stop_104 : decode cX10_stop 104 = .ok (.iconst 0, 1) := by decide +kernel
theorem dX10_stop_105 : decode cX10_stop 105 = .ok (.invokevirtual 143, 3) := by decide +kernel
theorem dX10_stop_108 : decode cX10_stop 108 = .ok (.aload_n 0, 1) := by decide +kernel
theorem dX10_stop_109 : decode cX10_stop 109 = .ok (.getfield 26, 3) := by decide +kernel
theorem dX10_stop_112 : decode cX10_stop 112 = .ok (.invokevirtual 146, 3) := by decide +kernel
theorem dX10_stop_115 : decode cX10_stop 115 = .ok (.ireturn, 1) := by decide +kernel
set_option maxRecDepth 20000 in
theorem ggX10_crack_X10_isEgg : GoodIn wsX10_crack wsX10_isEgg := goodIn_r _ [6, 7, 63, 64, 65, 66, 67, 68, 69, 70, 71, 72, 73, 74, 75, 76, 77, 78, 79, 80] (by decide +kernel) (by decide +kernel)
set_option maxRecDepth 20000 in
theorem gX10_crack_X10_isEgg : GoodIn wsX10_crack (wsV RX10 93 RX10 yX10_isEgg wsX10_isEgg) := goodIn_app (goodIn_of _ (by decide +kernel)) ggX10_crack_X10_isEgg
set_option maxRecDepth 20000 in
theorem ggX10_crack_X8_isInBox : GoodIn wsX10_crack wsX8_isInBox := goodIn_r _ [12, 13, 14, 5, 15, 81, 82, 83, 84, 85, 86, 87, 88] (by decide +kernel) (by decide +kernel)
set_option maxRecDepth 20000 in
theorem gX10_crack_X8_isInBox : GoodIn wsX10_crack (wsV RX10 101 RX8 yX8_isInBox wsX8_isInBox) := goodIn_app (goodIn_of _ (by decide +kernel)) ggX10_crack_X8_isInBox
set_option maxRecDepth 20000 in
theorem ggX10_crack_X8_canBeSure : GoodIn wsX10_crack wsX8_canBeSure := goodIn_r _ [19, 20, 21, 22, 11, 23, 24, 25, 26, 27, 28, 29, 30, 14, 5, 15, 31, 32, 33, 34, 81, 82, 83, 84, 85, 86, 87, 88] (by decide +kernel) (by decide +kernel)
set_option maxRecDepth 20000 in
theorem gX10_crack_X8_canBeSure : GoodIn wsX10_crack (wsV RX10 139 RX8 yX8_canBeSure wsX8_canBeSure) := goodIn_app (goodIn_of _ (by decide +kernel)) ggX10_crack_X8_canBeSure
set_option maxRecDepth 20000 in
theorem ggX10_crack_X8_makeSure : GoodIn wsX10_crack wsX8_makeSure := goodIn_r _ [38, 39, 40, 41, 42, 11, 43, 28, 29, 30, 14, 5, 15, 44, 45, 46, 47, 81, 82, 83, 84, 85, 86, 87, 88] (by decide +kernel) (by decide +kernel)
set_option maxRecDepth 20000 in
theorem gX10_crack_X8_makeSure : GoodIn wsX10_crack (wsV RX10 143 RX8 yX8_makeSure wsX8_makeSure) := goodIn_app (goodIn_of _ (by decide +kernel)) ggX10_crack_X8_makeSure
set_option maxRecDepth 20000 in
theorem ggX10_crack_X8_takeOut : GoodIn wsX10_crack wsX8_takeOut := goodIn_r _ [51, 13, 81, 82, 83, 84, 85, 86, 87, 88] (by decide +kernel) (by decide +kernel)
set_option maxRecDepth 20000 in
theorem gX10_crack_X8_takeOut : GoodIn wsX10_crack (wsV RX10 135 RX8 yX8_takeOut wsX8_takeOut) := goodIn_app (goodIn_of _ (by decide +kernel)) ggX10_crack_X8_takeOut
set_option maxRecDepth 20000 in
theorem ggX10_crack_X8_howManyInBox : GoodIn wsX10_crack wsX8_howManyInBox := goodIn_r _ [55, 13, 56, 57, 58, 59, 60, 61, 62, 81, 82, 83, 84, 85, 86, 87, 88] (by decide +kernel) (by decide +kernel)
set_option maxRecDepth 20000 in
theorem gX10_crack_X8_howManyInBox : GoodIn wsX10_crack (wsV RX10 146 RX8 yX8_howManyInBox wsX8_howManyInBox) := goodIn_app (goodIn_of _ (by decide +kernel)) ggX10_crack_X8_howManyInBox
theorem dX10_crack_0 : decode cX10_crack 0 = .ok (.aload_n 0, 1) := by decide +kernel
theorem dX10_crack_1 : decode cX10_crack 1 = .ok (.iload_n 1, 1) := by decide +kernel
theorem dX10_crack_2 : decode cX10_crack 2 = .ok (.invokevirtual 93, 3) := by decide +kernel
theorem dX10_crack_5 : decode cX10_crack 5 = .ok (.ifCond .ne 6, 3) := by decide +kernel
theorem dX10_crack_8 : decode cX10_crack 8 = .ok (.bipush (-101), 2) := by decide +kernel
theorem dX10_crack_10 : decode cX10_crack 10 = .ok (.ireturn, 1) := by decide +kernel
theorem dX10_crack_11 : decode cX10_crack 11 = .ok (.aload_n 0, 1) := by decide +kernel
theorem dX10_crack_12 : decode cX10_crack 12 = .ok (.getfield 26, 3) := by decide +kernel
theorem dX10_crack_15 : decode cX10_crack 15 = .ok (.iload_n 1, 1) := by decide +kernel
theorem dX10_crack_16 : decode cX10_crack 16 = .ok (.invokevirtual 101, 3) := by decide +kernel
theorem dX10_crack_19 : decode cX10_crack 19 = .ok (.ifCond .eq 15, 3) := by decide +kernel
theorem dX10_crack_22 : decode cX10_crack 22 = .ok (.aload_n 0, 1) := by decide +kernel
theorem dX10_crack_23 : decode cX10_crack 23 = .ok (.getfield 26, 3) := by decide +kernel
theorem dX10_crack_26 : decode cX10_crack 26 = .ok (.iload_n 1, 1) := by decide +kernel
theorem dX10_crack_27 : decode cX10_crack 27 = .ok (.iload_n 2, 1) := by decide +kernel
theorem dX10_crack_28 : decode cX10_crack 28 = .ok (.invokevirtual 139, 3) := by decide +kernel
theorem dX10_crack_31 : decode cX10_crack 31 = .ok (.ifCond .ne 6, 3) := by decide +kernel
theorem dX10_crack_34 : decode cX10_crack 34 = .ok (.bipush (-103), 2) := by decide +kernel
theorem dX10_crack_36 : decode cX10_crack 36 = .ok (.ireturn, 1) := by decide +kernel
theorem dX10_crack_37 : decode cX10_crack 37 = .ok (.aload_n 0, 1) := by decide +kernel
theorem dX10_crack_38 : decode cX10_crack 38 = .ok (.getfield 26, 3) := by decide +kernel
theorem dX10_crack_41 : decode cX10_crack 41 = .ok (.iload_n 1, 1) := by decide +kernel
theorem dX10_crack_42 : decode cX10_crack 42 = .ok (.iload_n 2, 1) := by decide +kernel
theorem dX10_crack_43 : decode cX10_crack 43 = .ok (.invokevirtual 143, 3) := by decide +kernel
theorem dX10_crack_46 : decode cX10_crack 46 = .ok (.aload_n 0, 1) := by decide +kernel
theorem dX10_crack_47 : decode cX10_crack 47 = .ok (.getfield 26, 3) := by decide +kernel
theorem dX10_crack_50 : decode cX10_crack 50 = .ok (.iload_n 1, 1) := by decide +kernel
theorem dX10_crack_51 : decode cX10_crack 51 = .ok (.invokevirtual 135, 3) := by decide +kernel
theorem dX10_crack_54 : decode cX10_crack 54 = .ok (.aload_n 0, 1) := by decide +kernel
theorem dX10_crack_55 : decode cX10_crack 55 = .ok (.getfield 26, 3) := by decide +kernel
theorem dX10_crack_58 : decode cX10_crack 58 = .ok (.invokevirtual 146, 3) := by decide +kernel
theorem dX10_crack_61 : decode cX10_crack 61 = .ok (.ireturn, 1) := by decide +kernel
set_option maxRecDepth 20000 in
theorem ggX10_likely_X10_isEgg : GoodIn wsX10_likely wsX10_isEgg := goodIn_r _ [8, 9, 33, 34, 35, 36, 37, 38, 39, 40, 41, 42, 43, 44, 45, 46, 47, 48, 49, 50] (by decide +kernel) (by decide +kernel)
set_option maxRecDepth 20000 in
theorem gX10_likely_X10_isEgg : GoodIn wsX10_likely (wsV RX10 93 RX10 yX10_isEgg wsX10_isEgg) := goodIn_app (goodIn_of _ (by decide +kernel)) ggX10_likely_X10_isEgg
set_option maxRecDepth 20000 in
theorem ggX10_likely_X10_isPart : GoodIn wsX10_likely wsX10_isPart := goodIn_r _ [12] (by decide +kernel) (by decide +kernel)
set_option maxRecDepth 20000 in
theorem gX10_likely_X10_isPart : GoodIn wsX10_likely (va_wsS RX10 151 yX10_isPart wsX10_isPart) := goodIn_app (goodIn_of _ (by decide +kernel)) ggX10_likely_X10_isPart
set_option maxRecDepth 20000 in
theorem ggX10_likely_X8_boiledWeight : GoodIn wsX10_likely wsX8_boiledWeight := goodIn_r _ [17, 18, 19, 20, 21, 7, 22, 51, 52, 53, 54, 55, 56, 57, 58] (by decide +kernel) (by decide +kernel)
set_option maxRecDepth 20000 in
theorem gX10_likely_X8_boiledWeight : GoodIn wsX10_likely (wsV RX10 156 RX8 yX8_boiledWeight wsX8_boiledWeight) := goodIn_app (goodIn_of _ (by decide +kernel)) ggX10_likely_X8_boiledWeight
set_option maxRecDepth 20000 in
theorem ggX10_likely_X8_allWeight : GoodIn wsX10_likely wsX8_allWeight := goodIn_r _ [26, 18, 20, 51, 52, 53, 54, 55, 56, 57, 58] (by decide +kernel) (by decide +kernel)
set_option maxRecDepth 20000 in
theorem gX10_likely_X8_allWeight : GoodIn wsX10_likely (wsV RX10 160 RX8 yX8_allWeight wsX8_allWeight) := goodIn_app (goodIn_of _ (by decide +kernel)) ggX10_likely_X8_allWeight
set_option maxRecDepth 20000 in
theorem ggX10_likely_X10_inLowestTerms : GoodIn wsX10_likely wsX10_inLowestTerms := goodIn_r _ [29, 30, 31, 7, 32] (by decide +kernel) (by decide +kernel)
set_option maxRecDepth 20000 in
theorem gX10_likely_X10_inLowestTerms : GoodIn wsX10_likely (va_wsS RX10 164 yX10_inLowestTerms wsX10_inLowestTerms) := goodIn_app (goodIn_of _ (by decide +kernel)) ggX10_likely_X10_inLowestTerms
theorem dX10_likely_0 : decode cX10_likely 0 = .ok (.aload_n 0, 1) := by decide +kernel
theorem dX10_likely_1 : decode cX10_likely 1 = .ok (.iload_n 1, 1) := by decide +kernel
theorem dX10_likely_2 : decode cX10_likely 2 = .ok (.invokevirtual 93, 3) := by decide +kernel
theorem dX10_likely_5 : decode cX10_likely 5 = .ok (.ifCond .ne 7, 3) := by decide +kernel
theorem dX10_likely_8 : decode cX10_likely 8 = .ok (.ldc2_w 149, 3) := by decide +kernel
theorem dX10_likely_11 : decode cX10_likely 11 = .ok (.lreturn, 1) := by decide +kernel
theorem dX10_likely_12 : decode cX10_likely 12 = .ok (.iload_n 2, 1) := by decide +kernel
theorem dX10_likely_13 : decode cX10_likely 13 = .ok (.invokestatic 151, 3) := by decide +kernel
theorem dX10_likely_16 : decode cX10_likely 16 = .ok (.ifCond .ne 7, 3) := by decide +kernel
theorem dX10_likely_19 : decode cX10_likely 19 = .ok (.ldc2_w 154, 3) := by decide +kernel
theorem dX10_likely_22 : decode cX10_likely 22 = .ok (.lreturn, 1) := by decide +kernel
theorem dX10_likely_23 : decode cX10_likely 23 = .ok (.aload_n 0, 1) := by decide +kernel
theorem dX10_likely_24 : decode cX10_likely 24 = .ok (.getfield 26, 3) := by decide +kernel
theorem dX10_likely_27 : decode cX10_likely 27 = .ok (.iload_n 1, 1) := by decide +kernel
theorem dX10_likely_28 : decode cX10_likely 28 = .ok (.invokevirtual 156, 3) := by decide +kernel
theorem dX10_likely_31 : decode cX10_likely 31 = .ok (.aload_n 0, 1) := by decide +kernel
theorem dX10_likely_32 : decode cX10_likely 32 = .ok (.getfield 26, 3) := by decide +kernel
theorem dX10_likely_35 : decode cX10_likely 35 = .ok (.invokevirtual 160, 3) := by decide +kernel
theorem dX10_likely_38 : decode cX10_likely 38 = .ok (.iload_n 2, 1) := by decide +kernel
theorem dX10_likely_39 : decode cX10_likely 39 = .ok (.invokestatic 164, 3) := by decide +kernel
theorem dX10_likely_42 : decode cX10_likely 42 = .ok (.lreturn, 1) := by decide +kernel
set_option maxRecDepth 20000 in
theorem ggX10_likeliest_X10_hasKitchen : GoodIn wsX10_likeliest wsX10_hasKitchen := goodIn_r _ [6, 7, 16, 17, 18, 19, 20, 21, 22, 23, 24, 25, 26, 27, 28, 29, 30, 31, 32, 33] (by decide +kernel) (by decide +kernel)
set_option maxRecDepth 20000 in
theorem gX10_likeliest_X10_hasKitchen : GoodIn wsX10_likeliest (wsV RX10 168 RX10 yX10_hasKitchen wsX10_hasKitchen) := goodIn_app (goodIn_of _ (by decide +kernel)) ggX10_likeliest_X10_hasKitchen
set_option maxRecDepth 20000 in
theorem ggX10_likeliest_X8_heaviestBox : GoodIn wsX10_likeliest wsX8_heaviestBox := goodIn_r _ [12, 13, 14, 15, 34, 35, 36, 37, 38, 39, 40, 41] (by decide +kernel) (by decide +kernel)
set_option maxRecDepth 20000 in
theorem gX10_likeliest_X8_heaviestBox : GoodIn wsX10_likeliest (wsV RX10 171 RX8 yX8_heaviestBox wsX8_heaviestBox) := goodIn_app (goodIn_of _ (by decide +kernel)) ggX10_likeliest_X8_heaviestBox
theorem dX10_likeliest_0 : decode cX10_likeliest 0 = .ok (.aload_n 0, 1) := by decide +kernel
theorem dX10_likeliest_1 : decode cX10_likeliest 1 = .ok (.invokevirtual 168, 3) := by decide +kernel
theorem dX10_likeliest_4 : decode cX10_likeliest 4 = .ok (.ifCond .ne 6, 3) := by decide +kernel
theorem dX10_likeliest_7 : decode cX10_likeliest 7 = .ok (.bipush (-103), 2) := by decide +kernel
theorem dX10_likeliest_9 : decode cX10_likeliest 9 = .ok (.ireturn, 1) := by decide +kernel
theorem dX10_likeliest_10 : decode cX10_likeliest 10 = .ok (.aload_n 0, 1) := by decide +kernel
theorem dX10_likeliest_11 : decode cX10_likeliest 11 = .ok (.getfield 26, 3) := by decide +kernel
theorem dX10_likeliest_14 : decode cX10_likeliest 14 = .ok (.invokevirtual 171, 3) := by decide +kernel
theorem dX10_likeliest_17 : decode cX10_likeliest 17 = .ok (.ireturn, 1) := by decide +kernel
set_option maxRecDepth 20000 in
theorem ggX10_turning_X10_isEgg : GoodIn wsX10_turning wsX10_isEgg := goodIn_r _ [8, 3, 23, 24, 25, 26, 27, 28, 29, 30, 31, 32, 33, 34, 35, 36, 37, 38, 39, 40] (by decide +kernel) (by decide +kernel)
set_option maxRecDepth 20000 in
theorem gX10_turning_X10_isEgg : GoodIn wsX10_turning (wsV RX10 93 RX10 yX10_isEgg wsX10_isEgg) := goodIn_app (goodIn_of _ (by decide +kernel)) ggX10_turning_X10_isEgg
set_option maxRecDepth 20000 in
theorem ggX10_turning_X8_boiledWeight : GoodIn wsX10_turning wsX8_boiledWeight := goodIn_r _ [13, 14, 15, 16, 17, 7, 18, 41, 42, 43, 44, 45, 46, 47, 48] (by decide +kernel) (by decide +kernel)
set_option maxRecDepth 20000 in
theorem gX10_turning_X8_boiledWeight : GoodIn wsX10_turning (wsV RX10 156 RX8 yX8_boiledWeight wsX8_boiledWeight) := goodIn_app (goodIn_of _ (by decide +kernel)) ggX10_turning_X8_boiledWeight
set_option maxRecDepth 20000 in
theorem ggX10_turning_X8_allWeight : GoodIn wsX10_turning wsX8_allWeight := goodIn_r _ [22, 14, 16, 41, 42, 43, 44, 45, 46, 47, 48] (by decide +kernel) (by decide +kernel)
set_option maxRecDepth 20000 in
theorem gX10_turning_X8_allWeight : GoodIn wsX10_turning (wsV RX10 160 RX8 yX8_allWeight wsX8_allWeight) := goodIn_app (goodIn_of _ (by decide +kernel)) ggX10_turning_X8_allWeight
theorem dX10_turning_0 : decode cX10_turning 0 = .ok (.aload_n 0, 1) := by decide +kernel
theorem dX10_turning_1 : decode cX10_turning 1 = .ok (.iload_n 1, 1) := by decide +kernel
theorem dX10_turning_2 : decode cX10_turning 2 = .ok (.invokevirtual 93, 3) := by decide +kernel
theorem dX10_turning_5 : decode cX10_turning 5 = .ok (.ifCond .ne 6, 3) := by decide +kernel
theorem dX10_turning_8 : decode cX10_turning 8 = .ok (.bipush (-101), 2) := by decide +kernel
theorem dX10_turning_10 : decode cX10_turning 10 = .ok (.ireturn, 1) := by decide +kernel
theorem dX10_turning_11 : decode cX10_turning 11 = .ok (.iload_n 2, 1) := by decide +kernel
theorem dX10_turning_12 : decode cX10_turning 12 = .ok (.iconst 1, 1) := by decide +kernel
theorem dX10_turning_13 : decode cX10_turning 13 = .ok (.if_icmp .lt 9, 3) := by decide +kernel
theorem dX10_turning_16 : decode cX10_turning 16 = .ok (.iload_n 2, 1) := by decide +kernel
theorem dX10_turning_17 : decode cX10_turning 17 = .ok (.bipush 10, 2) := by decide +kernel
theorem dX10_turning_19 : decode cX10_turning 19 = .ok (.if_icmp .lt 6, 3) := by decide +kernel
theorem dX10_turning_22 : decode cX10_turning 22 = .ok (.bipush (-102), 2) := by decide +kernel
theorem dX10_turning_24 : decode cX10_turning 24 = .ok (.ireturn, 1) := by decide +kernel
theorem dX10_turning_25 : decode cX10_turning 25 = .ok (.aload_n 0, 1) := by decide +kernel
theorem dX10_turning_26 : decode cX10_turning 26 = .ok (.getfield 26, 3) := by decide +kernel
theorem dX10_turning_29 : decode cX10_turning 29 = .ok (.iload_n 1, 1) := by decide +kernel
theorem dX10_turning_30 : decode cX10_turning 30 = .ok (.invokevirtual 156, 3) := by decide +kernel
theorem dX10_turning_33 : decode cX10_turning 33 = .ok (.lstore_n 3, 1) := by decide +kernel
theorem dX10_turning_34 : decode cX10_turning 34 = .ok (.aload_n 0, 1) := by decide +kernel
theorem dX10_turning_35 : decode cX10_turning 35 = .ok (.getfield 26, 3) := by decide +kernel
theorem dX10_turning_38 : decode cX10_turning 38 = .ok (.invokevirtual 160, 3) := by decide +kernel
theorem dX10_turning_41 : decode cX10_turning 41 = .ok (.lload_n 3, 1) := by decide +kernel
theorem dX10_turning_42 : decode cX10_turning 42 = .ok (.lsub, 1) := by decide +kernel
theorem dX10_turning_43 : decode cX10_turning 43 = .ok (.lstore 5, 2) := by decide +kernel
theorem dX10_turning_45 : decode cX10_turning 45 = .ok (.iconst 0, 1) := by decide +kernel
theorem dX10_turning_46 : decode cX10_turning 46 = .ok (.istore 7, 2) := by decide +kernel
theorem dX10_turning_48 : decode cX10_turning 48 = .ok (.iload 7, 2) := by decide +kernel
theorem dX10_turning_50 : decode cX10_turning 50 = .ok (.iconst 5, 1) := by decide +kernel
theorem dX10_turning_51 : decode cX10_turning 51 = .ok (.if_icmp .gt 63, 3) := by decide +kernel
theorem dX10_turning_54 : decode cX10_turning 54 = .ok (.lload_n 3, 1) := by decide +kernel
theorem dX10_turning_55 : decode cX10_turning 55 = .ok (.lload 5, 2) := by decide +kernel
theorem dX10_turning_57 : decode cX10_turning 57 = .ok (.ladd, 1) := by decide +kernel
theorem dX10_turning_58 : decode cX10_turning 58 = .ok (.lstore 8, 2) := by decide +kernel
theorem dX10_turning_60 : decode cX10_turning 60 = .ok (.lload 8, 2) := by decide +kernel
theorem dX10_turning_62 : decode cX10_turning 62 = .ok (.lconst 0, 1) := by decide +kernel
theorem dX10_turning_63 : decode cX10_turning 63 = .ok (.lcmp, 1) := by decide +kernel
theorem dX10_turning_64 : decode cX10_turning 64 = .ok (.ifCond .le 20, 3) := by decide +kernel
theorem dX10_turning_67 : decode cX10_turning 67 = .ok (.lload_n 3, 1) := by decide +kernel
theorem dX10_turning_68 : decode cX10_turning 68 = .ok (.ldc2_w 174, 3) := by decide +kernel
theorem dX10_turning_71 : decode cX10_turning 71 = .ok (.lmul, 1) := by decide +kernel
theorem dX10_turning_72 : decode cX10_turning 72 = .ok (.lload 8, 2) := by decide +kernel
theorem dX10_turning_74 : decode cX10_turning 74 = .ok (.iload_n 2, 1) := by decide +kernel
theorem dX10_turning_75 : decode cX10_turning 75 = .ok (.i2l, 1) := by decide +kernel
theorem dX10_turning_76 : decode cX10_turning 76 = .ok (.lmul, 1) := by decide +kernel
theorem dX10_turning_77 : decode cX10_turning 77 = .ok (.lcmp, 1) := by decide +kernel
theorem dX10_turning_78 : decode cX10_turning 78 = .ok (.ifCond .lt 6, 3) := by decide +kernel
theorem dX10_turning_81 : decode cX10_turning 81 = .ok (.iload 7, 2) := by decide +kernel
theorem dX10_turning_83 : decode cX10_turning 83 = .ok (.ireturn, 1) := by decide +kernel
theorem dX10_turning_84 : decode cX10_turning 84 = .ok (.lload_n 3, 1) := by decide +kernel
theorem dX10_turning_85 : decode cX10_turning 85 = .ok (.aload_n 0, 1) := by decide +kernel
theorem dX10_turning_86 : decode cX10_turning 86 = .ok (.getfield 19, 3) := by decide +kernel
theorem dX10_turning_89 : decode cX10_turning 89 = .ok (.getfield 176, 3) := by decide +kernel
theorem dX10_turning_92 : decode cX10_turning 92 = .ok (.i2l, 1) := by decide +kernel
theorem dX10_turning_93 : decode cX10_turning 93 = .ok (.lmul, 1) := by decide +kernel
theorem dX10_turning_94 : decode cX10_turning 94 = .ok (.lstore_n 3, 1) := by decide +kernel
theorem dX10_turning_95 : decode cX10_turning 95 = .ok (.lload 5, 2) := by decide +kernel
theorem dX10_turning_97 : decode cX10_turning 97 = .ok (.aload_n 0, 1) := by decide +kernel
theorem dX10_turning_98 : decode cX10_turning 98 = .ok (.getfield 19, 3) := by decide +kernel
theorem dX10_turning_101 : decode cX10_turning 101 = .ok (.getfield 179, 3) := by decide +kernel
theorem dX10_turning_104 : decode cX10_turning 104 = .ok (.i2l, 1) := by decide +kernel
theorem dX10_turning_105 : decode cX10_turning 105 = .ok (.lmul, 1) := by decide +kernel
theorem dX10_turning_106 : decode cX10_turning 106 = .ok (.lstore 5, 2) := by decide +kernel
theorem dX10_turning_108 : decode cX10_turning 108 = .ok (.iinc 7 1, 3) := by decide +kernel
theorem dX10_turning_111 : decode cX10_turning 111 = .ok (.goto (-63), 3) := by decide +kernel
theorem dX10_turning_114 : decode cX10_turning 114 = .ok (.iconst (-1), 1) := by decide +kernel
theorem dX10_turning_115 : decode cX10_turning 115 = .ok (.ireturn, 1) := by decide +kernel
set_option maxRecDepth 20000 in
theorem ggX10_worst_X10_isRawNumber : GoodIn wsX10_worst wsX10_isRawNumber := goodIn_r _ [7] (by decide +kernel) (by decide +kernel)
set_option maxRecDepth 20000 in
theorem gX10_worst_X10_isRawNumber : GoodIn wsX10_worst (va_wsS RX10 182 yX10_isRawNumber wsX10_isRawNumber) := goodIn_app (goodIn_of _ (by decide +kernel)) ggX10_worst_X10_isRawNumber
set_option maxRecDepth 20000 in
theorem ggX10_worst_X10_mayBreak : GoodIn wsX10_worst wsX10_mayBreak := goodIn_r _ [11, 1, 12, 13, 14, 6, 15, 16, 91, 92, 93, 94, 95, 96, 97, 98, 99, 100, 101, 102, 103, 104, 105, 106, 107, 108] (by decide +kernel) (by decide +kernel)
set_option maxRecDepth 20000 in
theorem gX10_worst_X10_mayBreak : GoodIn wsX10_worst (wsV RX10 185 RX10 yX10_mayBreak wsX10_mayBreak) := goodIn_app (goodIn_of _ (by decide +kernel)) ggX10_worst_X10_mayBreak
set_option maxRecDepth 20000 in
theorem ggX10_worst_X8_hasRawInBox : GoodIn wsX10_worst wsX8_hasRawInBox := goodIn_r _ [21, 22, 23, 24, 25, 26, 27, 28, 29, 30, 31, 109, 110, 111, 112, 113, 114, 115, 116] (by decide +kernel) (by decide +kernel)
set_option maxRecDepth 20000 in
theorem gX10_worst_X8_hasRawInBox : GoodIn wsX10_worst (wsV RX10 191 RX8 yX8_hasRawInBox wsX8_hasRawInBox) := goodIn_app (goodIn_of _ (by decide +kernel)) ggX10_worst_X8_hasRawInBox
set_option maxRecDepth 20000 in
theorem ggX10_worst_X1_solve : GoodIn wsX10_worst wsX1_solve := goodIn_r _ [36, 37, 38, 39, 40, 41, 20, 42, 23, 25, 26, 27, 28, 29, 30, 31, 43, 44, 45, 35, 46, 47, 48, 49, 50, 51, 52, 53, 54, 55, 56, 6, 57, 58, 59, 60, 61, 62, 63, 64, 65, 66, 67, 68, 69, 70, 71, 72, 73, 74, 75, 76, 77, 117, 118, 119, 120, 121, 122, 109, 110, 111, 112, 113, 114, 115, 116] (by decide +kernel) (by decide +kernel)
set_option maxRecDepth 20000 in
theorem gX10_worst_X1_solve : GoodIn wsX10_worst (wsV RX10 194 RX1 yX1_solve wsX1_solve) := goodIn_app (goodIn_of _ (by decide +kernel)) ggX10_worst_X1_solve
set_option maxRecDepth 20000 in
theorem ggX10_worst_X1_fewestAtWorst : GoodIn wsX10_worst wsX1_fewestAtWorst := goodIn_r _ [81, 63, 117, 118, 119, 120, 121, 122] (by decide +kernel) (by decide +kernel)
set_option maxRecDepth 20000 in
theorem gX10_worst_X1_fewestAtWorst : GoodIn wsX10_worst (wsV RX10 198 RX1 yX1_fewestAtWorst wsX1_fewestAtWorst) := goodIn_app (goodIn_of _ (by decide +kernel)) ggX10_worst_X1_fewestAtWorst
set_option maxRecDepth 20000 in
theorem ggX10_worst_X1_firstPlace : GoodIn wsX10_worst wsX1_firstPlace := goodIn_r _ [85, 70, 117, 118, 119, 120, 121, 122] (by decide +kernel) (by decide +kernel)
set_option maxRecDepth 20000 in
theorem gX10_worst_X1_firstPlace : GoodIn wsX10_worst (wsV RX10 201 RX1 yX1_firstPlace wsX1_firstPlace) := goodIn_app (goodIn_of _ (by decide +kernel)) ggX10_worst_X1_firstPlace
set_option maxRecDepth 20000 in
theorem ggX10_worst_X8_eggAtPlace : GoodIn wsX10_worst wsX8_eggAtPlace := goodIn_r _ [89, 90, 53, 54, 20, 55, 23, 56, 6, 57, 109, 110, 111, 112, 113, 114, 115, 116] (by decide +kernel) (by decide +kernel)
set_option maxRecDepth 20000 in
theorem gX10_worst_X8_eggAtPlace : GoodIn wsX10_worst (wsV RX10 204 RX8 yX8_eggAtPlace wsX8_eggAtPlace) := goodIn_app (goodIn_of _ (by decide +kernel)) ggX10_worst_X8_eggAtPlace
theorem dX10_worst_0 : decode cX10_worst 0 = .ok (.iload_n 1, 1) := by decide +kernel
theorem dX10_worst_1 : decode cX10_worst 1 = .ok (.invokestatic 182, 3) := by decide +kernel
theorem dX10_worst_4 : decode cX10_worst 4 = .ok (.ifCond .eq 12, 3) := by decide +kernel
theorem dX10_worst_7 : decode cX10_worst 7 = .ok (.iload_n 2, 1) := by decide +kernel
theorem dX10_worst_8 : decode cX10_worst 8 = .ok (.ifCond .lt 8, 3) := by decide +kernel
theorem dX10_worst_11 : decode cX10_worst 11 = .ok (.iload_n 2, 1) := by decide +kernel
theorem dX10_worst_12 : decode cX10_worst 12 = .ok (.iconst 1, 1) := by decide +kernel
theorem dX10_worst_13 : decode cX10_worst 13 = .ok (.if_icmp .le 6, 3) := by decide +kernel
theorem dX10_worst_16 : decode cX10_worst 16 = .ok (.bipush (-102), 2) := by decide +kernel
theorem dX10_worst_18 : decode cX10_worst 18 = .ok (.ireturn, 1) := by decide +kernel
theorem dX10_worst_19 : decode cX10_worst 19 = .ok (.aload_n 0, 1) := by decide +kernel
theorem dX10_worst_20 : decode cX10_worst 20 = .ok (.invokevirtual 185, 3) := by decide +kernel
theorem dX10_worst_23 : decode cX10_worst 23 = .ok (.ifCond .ne 6, 3) := by decide +kernel
theorem dX10_worst_26 : decode cX10_worst 26 = .ok (.bipush (-103), 2) := by decide +kernel
theorem dX10_worst_28 : decode cX10_worst 28 = .ok (.ireturn, 1) := by decide +kernel
theorem dX10_worst_29 : decode cX10_worst 29 = .ok (.aload_n 0, 1) := by decide +kernel
theorem dX10_worst_30 : decode cX10_worst 30 = .ok (.dup, 1) := by decide +kernel
theorem dX10_worst_31 : decode cX10_worst 31 = .ok (.getfield 188, 3) := by decide +kernel
theorem dX10_worst_34 : decode cX10_worst 34 = .ok (.iconst 1, 1) := by decide +kernel
theorem dX10_worst_35 : decode cX10_worst 35 = .ok (.iadd, 1) := by decide +kernel
theorem dX10_worst_36 : decode cX10_worst 36 = .ok (.putfield 188, 3) := by decide +kernel
theorem dX10_worst_39 : decode cX10_worst 39 = .ok (.aload_n 0, 1) := by decide +kernel
theorem dX10_worst_40 : decode cX10_worst 40 = .ok (.getfield 26, 3) := by decide +kernel
theorem dX10_worst_43 : decode cX10_worst 43 = .ok (.iload_n 1, 1) := by decide +kernel
theorem dX10_worst_44 : decode cX10_worst 44 = .ok (.invokevirtual 191, 3) := by decide +kernel
theorem dX10_worst_47 : decode cX10_worst 47 = .ok (.ifCond .ne 5, 3) := by decide +kernel
theorem dX10_worst_50 : decode cX10_worst 50 = .ok (.iconst (-1), 1) := by decide +kernel
theorem dX10_worst_51 : decode cX10_worst 51 = .ok (.ireturn, 1) := by decide +kernel
theorem dX10_worst_52 : decode cX10_worst 52 = .ok (.aload_n 0, 1) := by decide +kernel
theorem dX10_worst_53 : decode cX10_worst 53 = .ok (.getfield 36, 3) := by decide +kernel
theorem dX10_worst_56 : decode cX10_worst 56 = .ok (.aload_n 0, 1) := by decide +kernel
theorem dX10_worst_57 : decode cX10_worst 57 = .ok (.getfield 26, 3) := by decide +kernel
theorem dX10_worst_60 : decode cX10_worst 60 = .ok (.iload_n 1, 1) := by decide +kernel
theorem dX10_worst_61 : decode cX10_worst 61 = .ok (.invokevirtual 194, 3) := by decide +kernel
theorem dX10_worst_64 : decode cX10_worst 64 = .ok (.iload_n 2, 1) := by decide +kernel
theorem dX10_worst_65 : decode cX10_worst 65 = .ok (.ifCond .ne 13, 3) := by decide +kernel
theorem dX10_worst_68 : decode cX10_worst 68 = .ok (.aload_n 0, 1) := by decide +kernel
theorem dX10_worst_69 : decode cX10_worst 69 = .ok (.getfield 36, 3) := by decide +kernel
theorem dX10_worst_72 : decode cX10_worst 72 = .ok (.invokevirtual 198, 3) := by decide +kernel
theorem dX10_worst_75 : decode cX10_worst 75 = .ok (.goto 17, 3) := by decide +kernel
theorem dX10_worst_78 : decode cX10_worst 78 = .ok (.aload_n 0, 1) := by decide +kernel
theorem dX10_worst_79 : decode cX10_worst 79 = .ok (.getfield 26, 3) := by decide +kernel
theorem dX10_worst_82 : decode cX10_worst 82 = .ok (.aload_n 0, 1) := by decide +kernel
theorem dX10_worst_83 : decode cX10_worst 83 = .ok (.getfield 36, 3) := by decide +kernel
theorem dX10_worst_86 : decode cX10_worst 86 = .ok (.invokevirtual 201, 3) := by decide +kernel
theorem dX10_worst_89 : decode cX10_worst 89 = .ok (.invokevirtual 204, 3) := by decide +kernel
theorem dX10_worst_92 : decode cX10_worst 92 = .ok (.ireturn, 1) := by decide +kernel
set_option maxRecDepth 20000 in
theorem ggX10_mean_X10_isRawNumber : GoodIn wsX10_mean wsX10_isRawNumber := goodIn_r _ [10] (by decide +kernel) (by decide +kernel)
set_option maxRecDepth 20000 in
theorem gX10_mean_X10_isRawNumber : GoodIn wsX10_mean (va_wsS RX10 182 yX10_isRawNumber wsX10_isRawNumber) := goodIn_app (goodIn_of _ (by decide +kernel)) ggX10_mean_X10_isRawNumber
set_option maxRecDepth 20000 in
theorem ggX10_mean_X10_isPart : GoodIn wsX10_mean wsX10_isPart := goodIn_r _ [13] (by decide +kernel) (by decide +kernel)
set_option maxRecDepth 20000 in
theorem gX10_mean_X10_isPart : GoodIn wsX10_mean (va_wsS RX10 151 yX10_isPart wsX10_isPart) := goodIn_app (goodIn_of _ (by decide +kernel)) ggX10_mean_X10_isPart
set_option maxRecDepth 20000 in
theorem ggX10_mean_X10_mayBreak : GoodIn wsX10_mean wsX10_mayBreak := goodIn_r _ [17, 3, 18, 19, 20, 9, 21, 22, 99, 100, 101, 102, 103, 104, 105, 106, 107, 108, 109, 110, 111, 112, 113, 114, 115, 116] (by decide +kernel) (by decide +kernel)
set_option maxRecDepth 20000 in
theorem gX10_mean_X10_mayBreak : GoodIn wsX10_mean (wsV RX10 185 RX10 yX10_mayBreak wsX10_mayBreak) := goodIn_app (goodIn_of _ (by decide +kernel)) ggX10_mean_X10_mayBreak
set_option maxRecDepth 20000 in
theorem ggX10_mean_X8_hasRawInBox : GoodIn wsX10_mean wsX8_hasRawInBox := goodIn_r _ [27, 28, 29, 30, 31, 32, 33, 34, 35, 36, 37, 117, 118, 119, 120, 121, 122, 123, 124] (by decide +kernel) (by decide +kernel)
set_option maxRecDepth 20000 in
theorem gX10_mean_X8_hasRawInBox : GoodIn wsX10_mean (wsV RX10 191 RX8 yX8_hasRawInBox wsX8_hasRawInBox) := goodIn_app (goodIn_of _ (by decide +kernel)) ggX10_mean_X8_hasRawInBox
set_option maxRecDepth 20000 in
theorem ggX10_mean_X1_solve : GoodIn wsX10_mean wsX1_solve := goodIn_r _ [42, 43, 44, 45, 46, 47, 26, 48, 29, 31, 32, 33, 34, 35, 36, 37, 49, 50, 51, 41, 52, 53, 54, 55, 56, 57, 58, 59, 60, 61, 62, 9, 63, 64, 65, 66, 67, 68, 69, 70, 71, 72, 73, 74, 75, 76, 77, 78, 79, 80, 81, 82, 83, 125, 126, 127, 128, 129, 130, 117, 118, 119, 120, 121, 122, 123, 124] (by decide +kernel) (by decide +kernel)
set_option maxRecDepth 20000 in
theorem gX10_mean_X1_solve : GoodIn wsX10_mean (wsV RX10 194 RX1 yX1_solve wsX1_solve) := goodIn_app (goodIn_of _ (by decide +kernel)) ggX10_mean_X1_solve
set_option maxRecDepth 20000 in
theorem ggX10_mean_X1_fewestByWeight : GoodIn wsX10_mean wsX1_fewestByWeight := goodIn_r _ [87, 68, 125, 126, 127, 128, 129, 130] (by decide +kernel) (by decide +kernel)
set_option maxRecDepth 20000 in
theorem gX10_mean_X1_fewestByWeight : GoodIn wsX10_mean (wsV RX10 211 RX1 yX1_fewestByWeight wsX1_fewestByWeight) := goodIn_app (goodIn_of _ (by decide +kernel)) ggX10_mean_X1_fewestByWeight
set_option maxRecDepth 20000 in
theorem ggX10_mean_X8_allWeight : GoodIn wsX10_mean wsX8_allWeight := goodIn_r _ [91, 28, 92, 117, 118, 119, 120, 121, 122, 123, 124] (by decide +kernel) (by decide +kernel)
set_option maxRecDepth 20000 in
theorem gX10_mean_X8_allWeight : GoodIn wsX10_mean (wsV RX10 160 RX8 yX8_allWeight wsX8_allWeight) := goodIn_app (goodIn_of _ (by decide +kernel)) ggX10_mean_X8_allWeight
set_option maxRecDepth 20000 in
theorem ggX10_mean_X10_inLowestTerms : GoodIn wsX10_mean wsX10_inLowestTerms := goodIn_r _ [95, 96, 97, 9, 98] (by decide +kernel) (by decide +kernel)
set_option maxRecDepth 20000 in
theorem gX10_mean_X10_inLowestTerms : GoodIn wsX10_mean (va_wsS RX10 164 yX10_inLowestTerms wsX10_inLowestTerms) := goodIn_app (goodIn_of _ (by decide +kernel)) ggX10_mean_X10_inLowestTerms
theorem dX10_mean_0 : decode cX10_mean 0 = .ok (.iload_n 1, 1) := by decide +kernel
theorem dX10_mean_1 : decode cX10_mean 1 = .ok (.invokestatic 182, 3) := by decide +kernel
theorem dX10_mean_4 : decode cX10_mean 4 = .ok (.ifCond .eq 10, 3) := by decide +kernel
theorem dX10_mean_7 : decode cX10_mean 7 = .ok (.iload_n 2, 1) := by decide +kernel
theorem dX10_mean_8 : decode cX10_mean 8 = .ok (.invokestatic 151, 3) := by decide +kernel
theorem dX10_mean_11 : decode cX10_mean 11 = .ok (.ifCond .ne 7, 3) := by decide +kernel
theorem dX10_mean_14 : decode cX10_mean 14 = .ok (.ldc2_w 154, 3) := by decide +kernel
theorem dX10_mean_17 : decode cX10_mean 17 = .ok (.lreturn, 1) := by decide +kernel
theorem dX10_mean_18 : decode cX10_mean 18 = .ok (.aload_n 0, 1) := by decide +kernel
theorem dX10_mean_19 : decode cX10_mean 19 = .ok (.invokevirtual 185, 3) := by decide +kernel
theorem dX10_mean_22 : decode cX10_mean 22 = .ok (.ifCond .ne 7, 3) := by decide +kernel
theorem dX10_mean_25 : decode cX10_mean 25 = .ok (.ldc2_w 207, 3) := by decide +kernel
theorem dX10_mean_28 : decode cX10_mean 28 = .ok (.lreturn, 1) := by decide +kernel
theorem dX10_mean_29 : decode cX10_mean 29 = .ok (.aload_n 0, 1) := by decide +kernel
theorem dX10_mean_30 : decode cX10_mean 30 = .ok (.dup, 1) := by decide +kernel
theorem dX10_mean_31 : decode cX10_mean 31 = .ok (.getfield 188, 3) := by decide +kernel
theorem dX10_mean_34 : decode cX10_mean 34 = .ok (.iconst 1, 1) := by decide +kernel
theorem dX10_mean_35 : decode cX10_mean 35 = .ok (.iadd, 1) := by decide +kernel
theorem dX10_mean_36 : decode cX10_mean 36 = .ok (.putfield 188, 3) := by decide +kernel
theorem dX10_mean_39 : decode cX10_mean 39 = .ok (.aload_n 0, 1) := by decide +kernel
theorem dX10_mean_40 : decode cX10_mean 40 = .ok (.getfield 26, 3) := by decide +kernel
theorem dX10_mean_43 : decode cX10_mean 43 = .ok (.iload_n 1, 1) := by decide +kernel
theorem dX10_mean_44 : decode cX10_mean 44 = .ok (.invokevirtual 191, 3) := by decide +kernel
theorem dX10_mean_47 : decode cX10_mean 47 = .ok (.ifCond .ne 15, 3) := by decide +kernel
theorem dX10_mean_50 : decode cX10_mean 50 = .ok (.iload_n 2, 1) := by decide +kernel
theorem dX10_mean_51 : decode cX10_mean 51 = .ok (.ifCond .ne 9, 3) := by decide +kernel
theorem dX10_mean_54 : decode cX10_mean 54 = .ok (.ldc2_w 209, 3) := by decide +kernel
theorem dX10_mean_57 : decode cX10_mean 57 = .ok (.goto 4, 3) := by decide +kernel
theorem dX10_mean_60 : decode cX10_mean 60 = .ok (.lconst 0, 1) := by decide +kernel
theorem dX10_mean_61 : decode cX10_mean 61 = .ok (.lreturn, 1) := by decide +kernel
theorem dX10_mean_62 : decode cX10_mean 62 = .ok (.aload_n 0, 1) := by decide +kernel
theorem dX10_mean_63 : decode cX10_mean 63 = .ok (.getfield 36, 3) := by decide +kernel
theorem dX10_mean_66 : decode cX10_mean 66 = .ok (.aload_n 0, 1) := by decide +kernel
theorem dX10_mean_67 : decode cX10_mean 67 = .ok (.getfield 26, 3) := by decide +kernel
theorem dX10_mean_70 : decode cX10_mean 70 = .ok (.iload_n 1, 1) := by decide +kernel
theorem dX10_mean_71 : decode cX10_mean 71 = .ok (.invokevirtual 194, 3) := by decide +kernel
theorem dX10_mean_74 : decode cX10_mean 74 = .ok (.aload_n 0, 1) := by decide +kernel
theorem dX10_mean_75 : decode cX10_mean 75 = .ok (.getfield 36, 3) := by decide +kernel
theorem dX10_mean_78 : decode cX10_mean 78 = .ok (.invokevirtual 211, 3) := by decide +kernel
theorem dX10_mean_81 : decode cX10_mean 81 = .ok (.aload_n 0, 1) := by decide +kernel
theorem dX10_mean_82 : decode cX10_mean 82 = .ok (.getfield 26, 3) := by decide +kernel
theorem dX10_mean_85 : decode cX10_mean 85 = .ok (.invokevirtual 160, 3) := by decide +kernel
theorem dX10_mean_88 : decode cX10_mean 88 = .ok (.iload_n 2, 1) := by decide +kernel
theorem dX10_mean_89 : decode cX10_mean 89 = .ok (.invokestatic 164, 3) := by decide +kernel
theorem dX10_mean_92 : decode cX10_mean 92 = .ok (.lreturn, 1) := by decide +kernel
set_option maxRecDepth 20000 in
theorem ggX10_risk_X10_isEgg : GoodIn wsX10_risk wsX10_isEgg := goodIn_r _ [11, 5, 40, 41, 42, 43, 44, 45, 46, 47, 48, 49, 50, 51, 52, 53, 54, 55, 56, 57] (by decide +kernel) (by decide +kernel)
set_option maxRecDepth 20000 in
theorem gX10_risk_X10_isEgg : GoodIn wsX10_risk (wsV RX10 93 RX10 yX10_isEgg wsX10_isEgg) := goodIn_app (goodIn_of _ (by decide +kernel)) ggX10_risk_X10_isEgg
set_option maxRecDepth 20000 in
theorem ggX10_risk_X10_isPart : GoodIn wsX10_risk wsX10_isPart := goodIn_r _ [14] (by decide +kernel) (by decide +kernel)
set_option maxRecDepth 20000 in
theorem gX10_risk_X10_isPart : GoodIn wsX10_risk (va_wsS RX10 151 yX10_isPart wsX10_isPart) := goodIn_app (goodIn_of _ (by decide +kernel)) ggX10_risk_X10_isPart
set_option maxRecDepth 20000 in
theorem ggX10_risk_X8_isInBox : GoodIn wsX10_risk wsX8_isInBox := goodIn_r _ [19, 20, 21, 10, 22, 58, 59, 60, 61, 62, 63, 64, 65] (by decide +kernel) (by decide +kernel)
set_option maxRecDepth 20000 in
theorem gX10_risk_X8_isInBox : GoodIn wsX10_risk (wsV RX10 101 RX8 yX8_isInBox wsX8_isInBox) := goodIn_app (goodIn_of _ (by decide +kernel)) ggX10_risk_X8_isInBox
set_option maxRecDepth 20000 in
theorem ggX10_risk_X8_allWeight : GoodIn wsX10_risk wsX8_allWeight := goodIn_r _ [26, 27, 28, 58, 59, 60, 61, 62, 63, 64, 65] (by decide +kernel) (by decide +kernel)
set_option maxRecDepth 20000 in
theorem gX10_risk_X8_allWeight : GoodIn wsX10_risk (wsV RX10 160 RX8 yX8_allWeight wsX8_allWeight) := goodIn_app (goodIn_of _ (by decide +kernel)) ggX10_risk_X8_allWeight
set_option maxRecDepth 20000 in
theorem ggX10_risk_X8_boiledWeight : GoodIn wsX10_risk wsX8_boiledWeight := goodIn_r _ [32, 27, 33, 28, 21, 10, 22, 58, 59, 60, 61, 62, 63, 64, 65] (by decide +kernel) (by decide +kernel)
set_option maxRecDepth 20000 in
theorem gX10_risk_X8_boiledWeight : GoodIn wsX10_risk (wsV RX10 156 RX8 yX8_boiledWeight wsX8_boiledWeight) := goodIn_app (goodIn_of _ (by decide +kernel)) ggX10_risk_X8_boiledWeight
set_option maxRecDepth 20000 in
theorem ggX10_risk_X10_inLowestTerms : GoodIn wsX10_risk wsX10_inLowestTerms := goodIn_r _ [36, 37, 38, 10, 39] (by decide +kernel) (by decide +kernel)
set_option maxRecDepth 20000 in
theorem gX10_risk_X10_inLowestTerms : GoodIn wsX10_risk (va_wsS RX10 164 yX10_inLowestTerms wsX10_inLowestTerms) := goodIn_app (goodIn_of _ (by decide +kernel)) ggX10_risk_X10_inLowestTerms
theorem dX10_risk_0 : decode cX10_risk 0 = .ok (.aload_n 0, 1) := by decide +kernel
theorem dX10_risk_1 : decode cX10_risk 1 = .ok (.iload_n 1, 1) := by decide +kernel
theorem dX10_risk_2 : decode cX10_risk 2 = .ok (.invokevirtual 93, 3) := by decide +kernel
theorem dX10_risk_5 : decode cX10_risk 5 = .ok (.ifCond .ne 7, 3) := by decide +kernel
theorem dX10_risk_8 : decode cX10_risk 8 = .ok (.ldc2_w 149, 3) := by decide +kernel
theorem dX10_risk_11 : decode cX10_risk 11 = .ok (.lreturn, 1) := by decide +kernel
theorem dX10_risk_12 : decode cX10_risk 12 = .ok (.iload_n 2, 1) := by decide +kernel
theorem dX10_risk_13 : decode cX10_risk 13 = .ok (.invokestatic 151, 3) := by decide +kernel
theorem dX10_risk_16 : decode cX10_risk 16 = .ok (.ifCond .ne 7, 3) := by decide +kernel
theorem dX10_risk_19 : decode cX10_risk 19 = .ok (.ldc2_w 154, 3) := by decide +kernel
theorem dX10_risk_22 : decode cX10_risk 22 = .ok (.lreturn, 1) := by decide +kernel
theorem dX10_risk_23 : decode cX10_risk 23 = .ok (.aload_n 0, 1) := by decide +kernel
theorem dX10_risk_24 : decode cX10_risk 24 = .ok (.getfield 26, 3) := by decide +kernel
theorem dX10_risk_27 : decode cX10_risk 27 = .ok (.iload_n 1, 1) := by decide +kernel
theorem dX10_risk_28 : decode cX10_risk 28 = .ok (.invokevirtual 101, 3) := by decide +kernel
theorem dX10_risk_31 : decode cX10_risk 31 = .ok (.ifCond .ne 7, 3) := by decide +kernel
theorem dX10_risk_34 : decode cX10_risk 34 = .ok (.ldc2_w 207, 3) := by decide +kernel
theorem dX10_risk_37 : decode cX10_risk 37 = .ok (.lreturn, 1) := by decide +kernel
theorem dX10_risk_38 : decode cX10_risk 38 = .ok (.aload_n 0, 1) := by decide +kernel
theorem dX10_risk_39 : decode cX10_risk 39 = .ok (.getfield 26, 3) := by decide +kernel
theorem dX10_risk_42 : decode cX10_risk 42 = .ok (.invokevirtual 160, 3) := by decide +kernel
theorem dX10_risk_45 : decode cX10_risk 45 = .ok (.lstore_n 3, 1) := by decide +kernel
theorem dX10_risk_46 : decode cX10_risk 46 = .ok (.lload_n 3, 1) := by decide +kernel
theorem dX10_risk_47 : decode cX10_risk 47 = .ok (.aload_n 0, 1) := by decide +kernel
theorem dX10_risk_48 : decode cX10_risk 48 = .ok (.getfield 26, 3) := by decide +kernel
theorem dX10_risk_51 : decode cX10_risk 51 = .ok (.iload_n 1, 1) := by decide +kernel
theorem dX10_risk_52 : decode cX10_risk 52 = .ok (.invokevirtual 156, 3) := by decide +kernel
theorem dX10_risk_55 : decode cX10_risk 55 = .ok (.lsub, 1) := by decide +kernel
theorem dX10_risk_56 : decode cX10_risk 56 = .ok (.lstore 5, 2) := by decide +kernel
theorem dX10_risk_58 : decode cX10_risk 58 = .ok (.lload 5, 2) := by decide +kernel
theorem dX10_risk_60 : decode cX10_risk 60 = .ok (.aload_n 0, 1) := by decide +kernel
theorem dX10_risk_61 : decode cX10_risk 61 = .ok (.getfield 19, 3) := by decide +kernel
theorem dX10_risk_64 : decode cX10_risk 64 = .ok (.getfield 132, 3) := by decide +kernel
theorem dX10_risk_67 : decode cX10_risk 67 = .ok (.i2l, 1) := by decide +kernel
theorem dX10_risk_68 : decode cX10_risk 68 = .ok (.lmul, 1) := by decide +kernel
theorem dX10_risk_69 : decode cX10_risk 69 = .ok (.lload_n 3, 1) := by decide +kernel
theorem dX10_risk_70 : decode cX10_risk 70 = .ok (.ldc2_w 174, 3) := by decide +kernel
theorem dX10_risk_73 : decode cX10_risk 73 = .ok (.lmul, 1) := by decide +kernel
theorem dX10_risk_74 : decode cX10_risk 74 = .ok (.iload_n 2, 1) := by decide +kernel
theorem dX10_risk_75 : decode cX10_risk 75 = .ok (.invokestatic 164, 3) := by decide +kernel
theorem dX10_risk_78 : decode cX10_risk 78 = .ok (.lreturn, 1) := by decide +kernel
set_option maxRecDepth 20000 in
theorem ggX10_trier_X10_isKind : GoodIn wsX10_trier wsX10_isKind := goodIn_r _ [6] (by decide +kernel) (by decide +kernel)
set_option maxRecDepth 20000 in
theorem gX10_trier_X10_isKind : GoodIn wsX10_trier (va_wsS RX10 214 yX10_isKind wsX10_isKind) := goodIn_app (goodIn_of _ (by decide +kernel)) ggX10_trier_X10_isKind
set_option maxRecDepth 20000 in
theorem ggX10_trier_X10_hasKitchen : GoodIn wsX10_trier wsX10_hasKitchen := goodIn_r _ [10, 11, 43, 44, 45, 46, 47, 48, 49, 50, 51, 52, 53, 54, 55, 56, 57, 58, 59, 60] (by decide +kernel) (by decide +kernel)
set_option maxRecDepth 20000 in
theorem gX10_trier_X10_hasKitchen : GoodIn wsX10_trier (wsV RX10 168 RX10 yX10_hasKitchen wsX10_hasKitchen) := goodIn_app (goodIn_of _ (by decide +kernel)) ggX10_trier_X10_hasKitchen
set_option maxRecDepth 20000 in
theorem ggX10_trier_X10_newTrier : GoodIn wsX10_trier wsX10_newTrier := goodIn_r _ [14, 15, 16, 17, 18, 19, 20, 21, 22, 23, 24, 25, 26, 27, 28, 29, 30, 31, 32, 33, 34, 35, 36, 37, 38, 39, 40, 41, 42] (by decide +kernel) (by decide +kernel)
set_option maxRecDepth 20000 in
theorem gX10_trier_X10_newTrier : GoodIn wsX10_trier (va_wsS RX10 217 yX10_newTrier wsX10_newTrier) := goodIn_app (goodIn_of _ (by decide +kernel)) ggX10_trier_X10_newTrier
theorem dX10_trier_0 : decode cX10_trier 0 = .ok (.iload_n 1, 1) := by decide +kernel
theorem dX10_trier_1 : decode cX10_trier 1 = .ok (.invokestatic 214, 3) := by decide +kernel
theorem dX10_trier_4 : decode cX10_trier 4 = .ok (.ifCond .ne 6, 3) := by decide +kernel
theorem dX10_trier_7 : decode cX10_trier 7 = .ok (.bipush (-102), 2) := by decide +kernel
theorem dX10_trier_9 : decode cX10_trier 9 = .ok (.ireturn, 1) := by decide +kernel
theorem dX10_trier_10 : decode cX10_trier 10 = .ok (.aload_n 0, 1) := by decide +kernel
theorem dX10_trier_11 : decode cX10_trier 11 = .ok (.invokevirtual 168, 3) := by decide +kernel
theorem dX10_trier_14 : decode cX10_trier 14 = .ok (.ifCond .ne 6, 3) := by decide +kernel
theorem dX10_trier_17 : decode cX10_trier 17 = .ok (.bipush (-103), 2) := by decide +kernel
theorem dX10_trier_19 : decode cX10_trier 19 = .ok (.ireturn, 1) := by decide +kernel
theorem dX10_trier_20 : decode cX10_trier 20 = .ok (.aload_n 0, 1) := by decide +kernel
theorem dX10_trier_21 : decode cX10_trier 21 = .ok (.getfield 79, 3) := by decide +kernel
theorem dX10_trier_24 : decode cX10_trier 24 = .ok (.iconst 4, 1) := by decide +kernel
theorem dX10_trier_25 : decode cX10_trier 25 = .ok (.if_icmp .lt 6, 3) := by decide +kernel
theorem dX10_trier_28 : decode cX10_trier 28 = .ok (.bipush (-104), 2) := by decide +kernel
theorem dX10_trier_30 : decode cX10_trier 30 = .ok (.ireturn, 1) := by decide +kernel
theorem dX10_trier_31 : decode cX10_trier 31 = .ok (.aload_n 0, 1) := by decide +kernel
theorem dX10_trier_32 : decode cX10_trier 32 = .ok (.getfield 49, 3) := by decide +kernel
theorem dX10_trier_35 : decode cX10_trier 35 = .ok (.aload_n 0, 1) := by decide +kernel
theorem dX10_trier_36 : decode cX10_trier 36 = .ok (.getfield 79, 3) := by decide +kernel
theorem dX10_trier_39 : decode cX10_trier 39 = .ok (.iload_n 1, 1) := by decide +kernel
theorem dX10_trier_40 : decode cX10_trier 40 = .ok (.invokestatic 217, 3) := by decide +kernel
theorem dX10_trier_43 : decode cX10_trier 43 = .ok (.aastore, 1) := by decide +kernel
theorem dX10_trier_44 : decode cX10_trier 44 = .ok (.aload_n 0, 1) := by decide +kernel
theorem dX10_trier_45 : decode cX10_trier 45 = .ok (.dup, 1) := by decide +kernel
theorem dX10_trier_46 : decode cX10_trier 46 = .ok (.getfield 79, 3) := by decide +kernel
theorem dX10_trier_49 : decode cX10_trier 49 = .ok (.dup_x1, 1) := by decide +kernel
theorem dX10_trier_50 : decode cX10_trier 50 = .ok (.iconst 1, 1) := by decide +kernel
theorem dX10_trier_51 : decode cX10_trier 51 = .ok (.iadd, 1) := by decide +kernel
theorem dX10_trier_52 : decode cX10_trier 52 = .ok (.putfield 79, 3) := by decide +kernel
theorem dX10_trier_55 : decode cX10_trier 55 = .ok (.ireturn, 1) := by decide +kernel
set_option maxRecDepth 20000 in
theorem ggX10_about_X10_trierOf : GoodIn wsX10_about wsX10_trierOf := goodIn_r _ [6, 7, 8, 99, 100, 101, 102, 103, 104, 105, 106, 107, 108, 109, 110] (by decide +kernel) (by decide +kernel)
set_option maxRecDepth 20000 in
theorem gX10_about_X10_trierOf : GoodIn wsX10_about (wsV RX10 221 RX10 yX10_trierOf wsX10_trierOf) := goodIn_app (goodIn_of _ (by decide +kernel)) ggX10_about_X10_trierOf
set_option maxRecDepth 20000 in
theorem ggX10_about_X0_kind : GoodIn wsX10_about wsX0_kind := goodIn_r _ [15] (by decide +kernel) (by decide +kernel)
set_option maxRecDepth 20000 in
theorem gX10_about_X0_kind_u224X0 : GoodIn wsX10_about (va_wsO RX10 224 RX0 "BoiledEggs$Trier" ⟨"BoiledEggs$Trier", "kind", "()I"⟩ yX0_kind wsX0_kind) := goodIn_app (goodIn_of _ (by decide +kernel)) ggX10_about_X0_kind
set_option maxRecDepth 20000 in
theorem ggX10_about_X2_kind : GoodIn wsX10_about wsX2_kind := goodIn_r _ [20] (by decide +kernel) (by decide +kernel)
set_option maxRecDepth 20000 in
theorem gX10_about_X2_kind_u224X2 : GoodIn wsX10_about (va_wsO RX10 224 RX2 "BoiledEggs$Trier" ⟨"BoiledEggs$Trier", "kind", "()I"⟩ yX2_kind wsX2_kind) := goodIn_app (goodIn_of _ (by decide +kernel)) ggX10_about_X2_kind
set_option maxRecDepth 20000 in
theorem ggX10_about_X4_kind : GoodIn wsX10_about wsX4_kind := goodIn_r _ [24] (by decide +kernel) (by decide +kernel)
set_option maxRecDepth 20000 in
theorem gX10_about_X4_kind_u224X4 : GoodIn wsX10_about (va_wsO RX10 224 RX4 "BoiledEggs$Trier" ⟨"BoiledEggs$Trier", "kind", "()I"⟩ yX4_kind wsX4_kind) := goodIn_app (goodIn_of _ (by decide +kernel)) ggX10_about_X4_kind
set_option maxRecDepth 20000 in
theorem ggX10_about_X5_kind : GoodIn wsX10_about wsX5_kind := goodIn_r _ [28] (by decide +kernel) (by decide +kernel)
set_option maxRecDepth 20000 in
theorem gX10_about_X5_kind_u224X5 : GoodIn wsX10_about (va_wsO RX10 224 RX5 "BoiledEggs$Trier" ⟨"BoiledEggs$Trier", "kind", "()I"⟩ yX5_kind wsX5_kind) := goodIn_app (goodIn_of _ (by decide +kernel)) ggX10_about_X5_kind
set_option maxRecDepth 20000 in
theorem ggX10_about_X9_kind : GoodIn wsX10_about wsX9_kind := goodIn_r _ [16] (by decide +kernel) (by decide +kernel)
set_option maxRecDepth 20000 in
theorem gX10_about_X9_kind : GoodIn wsX10_about (wsV RX10 224 RX9 yX9_kind wsX9_kind) := goodIn_app (goodIn_of _ (by decide +kernel)) ggX10_about_X9_kind
set_option maxRecDepth 20000 in
theorem ggX10_about_X9_nextEgg : GoodIn wsX10_about wsX9_nextEgg := goodIn_r _ [37, 38, 39, 40, 41, 42, 43, 44, 5, 45, 46, 47, 48, 49, 50, 14, 51, 52, 53, 54, 55, 56, 57, 58, 59, 60, 61, 19, 62, 63, 64, 65, 66, 67, 68, 69, 70, 71, 72, 73, 74, 27, 75, 76, 77, 78, 79, 80, 32, 81, 82, 83, 84, 85, 86, 87, 88, 89, 23, 90, 91, 92, 93, 111, 112, 113, 114, 115, 116, 117, 118] (by decide +kernel) (by decide +kernel)
set_option maxRecDepth 20000 in
theorem gX10_about_X9_nextEgg_u227X0 : GoodIn wsX10_about (va_wsU RX10 227 RX0 "BoiledEggs$Trier" ⟨"BoiledEggs$Trier", "nextEgg", "(LBoiledEggs$Told;)I"⟩ yX9_nextEgg wsX9_nextEgg) := goodIn_app (goodIn_of _ (by decide +kernel)) ggX10_about_X9_nextEgg
set_option maxRecDepth 20000 in
theorem gX10_about_X9_nextEgg_u227X2 : GoodIn wsX10_about (va_wsU RX10 227 RX2 "BoiledEggs$Trier" ⟨"BoiledEggs$Trier", "nextEgg", "(LBoiledEggs$Told;)I"⟩ yX9_nextEgg wsX9_nextEgg) := goodIn_app (goodIn_of _ (by decide +kernel)) ggX10_about_X9_nextEgg
set_option maxRecDepth 20000 in
theorem gX10_about_X9_nextEgg_u227X4 : GoodIn wsX10_about (va_wsU RX10 227 RX4 "BoiledEggs$Trier" ⟨"BoiledEggs$Trier", "nextEgg", "(LBoiledEggs$Told;)I"⟩ yX9_nextEgg wsX9_nextEgg) := goodIn_app (goodIn_of _ (by decide +kernel)) ggX10_about_X9_nextEgg
set_option maxRecDepth 20000 in
theorem gX10_about_X9_nextEgg_u227X5 : GoodIn wsX10_about (va_wsU RX10 227 RX5 "BoiledEggs$Trier" ⟨"BoiledEggs$Trier", "nextEgg", "(LBoiledEggs$Told;)I"⟩ yX9_nextEgg wsX9_nextEgg) := goodIn_app (goodIn_of _ (by decide +kernel)) ggX10_about_X9_nextEgg
set_option maxRecDepth 20000 in
theorem gX10_about_X9_nextEgg : GoodIn wsX10_about (wsV RX10 227 RX9 yX9_nextEgg wsX9_nextEgg) := goodIn_app (goodIn_of _ (by decide +kernel)) ggX10_about_X9_nextEgg
theorem dX10_about_0 : decode cX10_about 0 = .ok (.aload_n 0, 1) := by decide +kernel
theorem dX10_about_1 : decode cX10_about 1 = .ok (.iload_n 1, 1) := by decide +kernel
theorem dX10_about_2 : decode cX10_about 2 = .ok (.invokevirtual 221, 3) := by decide +kernel
theorem dX10_about_5 : decode cX10_about 5 = .ok (.astore_n 3, 1) := by decide +kernel
theorem dX10_about_6 : decode cX10_about 6 = .ok (.aload_n 3, 1) := by decide +kernel
theorem dX10_about_7 : decode cX10_about 7 = .ok (.ifnonnull 6, 3) := by decide +kernel
theorem dX10_about_10 : decode cX10_about 10 = .ok (.bipush (-101), 2) := by decide +kernel
theorem dX10_about_12 : decode cX10_about 12 = .ok (.ireturn, 1) := by decide +kernel
theorem dX10_about_13 : decode cX10_about 13 = .ok (.iload_n 2, 1) := by decide +kernel
theorem dX10_about_14 : decode cX10_about 14 = .ok (.ifCond .lt 8, 3) := by decide +kernel
theorem dX10_about_17 : decode cX10_about 17 = .ok (.iload_n 2, 1) := by decide +kernel
theorem dX10_about_18 : decode cX10_about 18 = .ok (.iconst 1, 1) := by decide +kernel
theorem dX10_about_19 : decode cX10_about 19 = .ok (.if_icmp .le 6, 3) := by decide +kernel
theorem dX10_about_22 : decode cX10_about 22 = .ok (.bipush (-102), 2) := by decide +kernel
theorem dX10_about_24 : decode cX10_about 24 = .ok (.ireturn, 1) := by decide +kernel
theorem dX10_about_25 : decode cX10_about 25 = .ok (.iload_n 2, 1) := by decide +kernel
theorem dX10_about_26 : decode cX10_about 26 = .ok (.ifCond .ne 10, 3) := by decide +kernel
theorem dX10_about_29 : decode cX10_about 29 = .ok (.aload_n 3, 1) := by decide +kernel
theorem dX10_about_30 : decode cX10_about 30 = .ok (.invokevirtual 224, 3) := by decide +kernel
theorem dX10_about_33 : decode cX10_about 33 = .ok (.goto 11, 3) := by decide +kernel
theorem dX10_about_36 : decode cX10_about 36 = .ok (.aload_n 3, 1) := by decide +kernel
theorem dX10_about_37 : decode cX10_about 37 = .ok (.aload_n 0, 1) := by decide +kernel
theorem dX10_about_38 : decode cX10_about 38 = .ok (.getfield 26, 3) := by decide +kernel
theorem dX10_about_41 : decode cX10_about 41 = .ok (.invokevirtual 227, 3) := by decide +kernel
theorem dX10_about_44 : decode cX10_about 44 = .ok (.ireturn, 1) := by decide +kernel
set_option maxRecDepth 20000 in
theorem ggX10_as_X10_trierOf : GoodIn wsX10_as wsX10_trierOf := goodIn_r _ [5, 6, 7, 18, 19, 20, 21, 22, 23, 24, 25, 26, 27, 28, 29] (by decide +kernel) (by decide +kernel)
set_option maxRecDepth 20000 in
theorem gX10_as_X10_trierOf : GoodIn wsX10_as (wsV RX10 221 RX10 yX10_trierOf wsX10_trierOf) := goodIn_app (goodIn_of _ (by decide +kernel)) ggX10_as_X10_trierOf
set_option maxRecDepth 20000 in
theorem ggX10_as_X10_isKind : GoodIn wsX10_as wsX10_isKind := goodIn_r _ [10] (by decide +kernel) (by decide +kernel)
set_option maxRecDepth 20000 in
theorem gX10_as_X10_isKind : GoodIn wsX10_as (va_wsS RX10 214 yX10_isKind wsX10_isKind) := goodIn_app (goodIn_of _ (by decide +kernel)) ggX10_as_X10_isKind
set_option maxRecDepth 20000 in
theorem ggX10_as_X10_isOfKind : GoodIn wsX10_as wsX10_isOfKind := goodIn_r _ [13, 14, 15, 16, 17] (by decide +kernel) (by decide +kernel)
set_option maxRecDepth 20000 in
theorem gX10_as_X10_isOfKind : GoodIn wsX10_as (va_wsS RX10 231 yX10_isOfKind wsX10_isOfKind) := goodIn_app (goodIn_of _ (by decide +kernel)) ggX10_as_X10_isOfKind
theorem dX10_as_0 : decode cX10_as 0 = .ok (.aload_n 0, 1) := by decide +kernel
theorem dX10_as_1 : decode cX10_as 1 = .ok (.iload_n 1, 1) := by decide +kernel
theorem dX10_as_2 : decode cX10_as 2 = .ok (.invokevirtual 221, 3) := by decide +kernel
theorem dX10_as_5 : decode cX10_as 5 = .ok (.astore_n 3, 1) := by decide +kernel
theorem dX10_as_6 : decode cX10_as 6 = .ok (.aload_n 3, 1) := by decide +kernel
theorem dX10_as_7 : decode cX10_as 7 = .ok (.ifnonnull 6, 3) := by decide +kernel
theorem dX10_as_10 : decode cX10_as 10 = .ok (.bipush (-101), 2) := by decide +kernel
theorem dX10_as_12 : decode cX10_as 12 = .ok (.ireturn, 1) := by decide +kernel
theorem dX10_as_13 : decode cX10_as 13 = .ok (.iload_n 2, 1) := by decide +kernel
theorem dX10_as_14 : decode cX10_as 14 = .ok (.invokestatic 214, 3) := by decide +kernel
theorem dX10_as_17 : decode cX10_as 17 = .ok (.ifCond .ne 6, 3) := by decide +kernel
theorem dX10_as_20 : decode cX10_as 20 = .ok (.bipush (-102), 2) := by decide +kernel
theorem dX10_as_22 : decode cX10_as 22 = .ok (.ireturn, 1) := by decide +kernel
theorem dX10_as_23 : decode cX10_as 23 = .ok (.aload_n 3, 1) := by decide +kernel
theorem dX10_as_24 : decode cX10_as 24 = .ok (.iload_n 2, 1) := by decide +kernel
theorem dX10_as_25 : decode cX10_as 25 = .ok (.invokestatic 231, 3) := by decide +kernel
theorem dX10_as_28 : decode cX10_as 28 = .ok (.ifCond .eq 7, 3) := by decide +kernel
theorem dX10_as_31 : decode cX10_as 31 = .ok (.iload_n 1, 1) := by decide +kernel
theorem dX10_as_32 : decode cX10_as 32 = .ok (.goto 4, 3) := by decide +kernel
theorem dX10_as_35 : decode cX10_as 35 = .ok (.iconst (-1), 1) := by decide +kernel
theorem dX10_as_36 : decode cX10_as 36 = .ok (.ireturn, 1) := by decide +kernel
set_option maxRecDepth 20000 in
theorem ggX10_fits_X10_hasKitchen : GoodIn wsX10_fits wsX10_hasKitchen := goodIn_r _ [7, 2, 25, 26, 27, 28, 29, 30, 31, 32, 33, 34, 35, 36, 45, 46, 47, 48, 49, 50] (by decide +kernel) (by decide +kernel)
set_option maxRecDepth 20000 in
theorem gX10_fits_X10_hasKitchen : GoodIn wsX10_fits (wsV RX10 168 RX10 yX10_hasKitchen wsX10_hasKitchen) := goodIn_app (goodIn_of _ (by decide +kernel)) ggX10_fits_X10_hasKitchen
set_option maxRecDepth 20000 in
theorem ggX10_fits_X6_allEggs : GoodIn wsX10_fits wsX6_allEggs := goodIn_r _ [12, 13, 45, 46, 47, 48, 49, 50] (by decide +kernel) (by decide +kernel)
set_option maxRecDepth 20000 in
theorem gX10_fits_X6_allEggs : GoodIn wsX10_fits (wsV RX10 238 RX6 yX6_allEggs wsX6_allEggs) := goodIn_app (goodIn_of _ (by decide +kernel)) ggX10_fits_X6_allEggs
set_option maxRecDepth 20000 in
theorem ggX10_fits_X8_surelyBoiled : GoodIn wsX10_fits wsX8_surelyBoiled := goodIn_r _ [18, 19, 20, 37, 38, 39, 40, 41, 42, 43, 44] (by decide +kernel) (by decide +kernel)
set_option maxRecDepth 20000 in
theorem gX10_fits_X8_surelyBoiled : GoodIn wsX10_fits (wsV RX10 241 RX8 yX8_surelyBoiled wsX8_surelyBoiled) := goodIn_app (goodIn_of _ (by decide +kernel)) ggX10_fits_X8_surelyBoiled
set_option maxRecDepth 20000 in
theorem ggX10_fits_X8_surelyRaw : GoodIn wsX10_fits wsX8_surelyRaw := goodIn_r _ [24, 19, 20, 37, 38, 39, 40, 41, 42, 43, 44] (by decide +kernel) (by decide +kernel)
set_option maxRecDepth 20000 in
theorem gX10_fits_X8_surelyRaw : GoodIn wsX10_fits (wsV RX10 244 RX8 yX8_surelyRaw wsX8_surelyRaw) := goodIn_app (goodIn_of _ (by decide +kernel)) ggX10_fits_X8_surelyRaw
theorem dX10_fits_0 : decode cX10_fits 0 = .ok (.iload_n 1, 1) := by decide +kernel
theorem dX10_fits_1 : decode cX10_fits 1 = .ok (.ifCond .lt 8, 3) := by decide +kernel
theorem dX10_fits_4 : decode cX10_fits 4 = .ok (.iload_n 1, 1) := by decide +kernel
theorem dX10_fits_5 : decode cX10_fits 5 = .ok (.iconst 2, 1) := by decide +kernel
theorem dX10_fits_6 : decode cX10_fits 6 = .ok (.if_icmp .le 6, 3) := by decide +kernel
theorem dX10_fits_9 : decode cX10_fits 9 = .ok (.bipush (-102), 2) := by decide +kernel
theorem dX10_fits_11 : decode cX10_fits 11 = .ok (.ireturn, 1) := by decide +kernel
theorem dX10_fits_12 : decode cX10_fits 12 = .ok (.aload_n 0, 1) := by decide +kernel
theorem dX10_fits_13 : decode cX10_fits 13 = .ok (.invokevirtual 168, 3) := by decide +kernel
theorem dX10_fits_16 : decode cX10_fits 16 = .ok (.ifCond .ne 6, 3) := by decide +kernel
theorem dX10_fits_19 : decode cX10_fits 19 = .ok (.bipush (-103), 2) := by decide +kernel
theorem dX10_fits_21 : decode cX10_fits 21 = .ok (.ireturn, 1) := by decide +kernel
theorem dX10_fits_22 : decode cX10_fits 22 = .ok (.iload_n 1, 1) := by decide +kernel
theorem dX10_fits_23 : decode cX10_fits 23 = .ok (.ifCond .ne 11, 3) := by decide +kernel
theorem dX10_fits_26 : decode cX10_fits 26 = .ok (.aload_n 0, 1) := by decide +kernel
theorem dX10_fits_27 : decode cX10_fits 27 = .ok (.getfield 26, 3) := by decide +kernel
theorem dX10_fits_30 : decode cX10_fits 30 = .ok (.getfield 235, 3) := by decide +kernel
theorem dX10_fits_33 : decode cX10_fits 33 = .ok (.ireturn, 1) := by decide +kernel
theorem dX10_fits_34 : decode cX10_fits 34 = .ok (.iload_n 1, 1) := by decide +kernel
theorem dX10_fits_35 : decode cX10_fits 35 = .ok (.iconst 1, 1) := by decide +kernel
theorem dX10_fits_36 : decode cX10_fits 36 = .ok (.if_icmp .ne 20, 3) := by decide +kernel
theorem dX10_fits_39 : decode cX10_fits 39 = .ok (.aload_n 0, 1) := by decide +kernel
theorem dX10_fits_40 : decode cX10_fits 40 = .ok (.getfield 26, 3) := by decide +kernel
theorem dX10_fits_43 : decode cX10_fits 43 = .ok (.aload_n 0, 1) := by decide +kernel
theorem dX10_fits_44 : decode cX10_fits 44 = .ok (.getfield 19, 3) := by decide +kernel
theorem dX10_fits_47 : decode cX10_fits 47 = .ok (.invokevirtual 238, 3) := by decide +kernel
theorem dX10_fits_50 : decode cX10_fits 50 = .ok (.invokevirtual 241, 3) := by decide +kernel
theorem dX10_fits_53 : decode cX10_fits 53 = .ok (.goto 17, 3) := by decide +kernel
theorem dX10_fits_56 : decode cX10_fits 56 = .ok (.aload_n 0, 1) := by decide +kernel
theorem dX10_fits_57 : decode cX10_fits 57 = .ok (.getfield 26, 3) := by decide +kernel
theorem dX10_fits_60 : decode cX10_fits 60 = .ok (.aload_n 0, 1) := by decide +kernel
theorem dX10_fits_61 : decode cX10_fits 61 = .ok (.getfield 19, 3) := by decide +kernel
theorem dX10_fits_64 : decode cX10_fits 64 = .ok (.invokevirtual 238, 3) := by decide +kernel
theorem dX10_fits_67 : decode cX10_fits 67 = .ok (.invokevirtual 244, 3) := by decide +kernel
theorem dX10_fits_70 : decode cX10_fits 70 = .ok (.ireturn, 1) := by decide +kernel
set_option maxRecDepth 20000 in
theorem ggX10_mornings_X10_hasKitchen : GoodIn wsX10_mornings wsX10_hasKitchen := goodIn_r _ [7, 8, 44, 45, 46, 47, 48, 49, 50, 51, 52, 53, 54, 55, 65, 66, 67, 68, 69, 70] (by decide +kernel) (by decide +kernel)
set_option maxRecDepth 20000 in
theorem gX10_mornings_X10_hasKitchen : GoodIn wsX10_mornings (wsV RX10 168 RX10 yX10_hasKitchen wsX10_hasKitchen) := goodIn_app (goodIn_of _ (by decide +kernel)) ggX10_mornings_X10_hasKitchen
set_option maxRecDepth 20000 in
theorem ggX10_mornings_X3_startFrom : GoodIn wsX10_mornings wsX3_startFrom := goodIn_r _ [13, 14, 64] (by decide +kernel) (by decide +kernel)
set_option maxRecDepth 20000 in
theorem gX10_mornings_X3_startFrom : GoodIn wsX10_mornings (wsV RX10 247 RX3 yX3_startFrom wsX3_startFrom) := goodIn_app (goodIn_of _ (by decide +kernel)) ggX10_mornings_X3_startFrom
set_option maxRecDepth 20000 in
theorem ggX10_mornings_X3_next : GoodIn wsX10_mornings wsX3_next := goodIn_r _ [18, 19, 14, 20, 21, 22, 64] (by decide +kernel) (by decide +kernel)
set_option maxRecDepth 20000 in
theorem gX10_mornings_X3_next : GoodIn wsX10_mornings (wsV RX10 250 RX3 yX3_next wsX3_next) := goodIn_app (goodIn_of _ (by decide +kernel)) ggX10_mornings_X3_next
set_option maxRecDepth 20000 in
theorem ggX10_mornings_X8_fittingBox : GoodIn wsX10_mornings wsX8_fittingBox := goodIn_r _ [27, 28, 29, 56, 57, 58, 59, 60, 61, 62, 63] (by decide +kernel) (by decide +kernel)
set_option maxRecDepth 20000 in
theorem gX10_mornings_X8_fittingBox : GoodIn wsX10_mornings (wsV RX10 253 RX8 yX8_fittingBox wsX8_fittingBox) := goodIn_app (goodIn_of _ (by decide +kernel)) ggX10_mornings_X8_fittingBox
set_option maxRecDepth 20000 in
theorem ggX10_mornings_X10_eggsAsMeant : GoodIn wsX10_mornings wsX10_eggsAsMeant := goodIn_r _ [33, 8, 1, 34, 35, 6, 36, 15, 16, 17, 12, 18, 19, 14, 20, 21, 22, 37, 38, 39, 40, 41, 42, 43, 44, 45, 46, 47, 48, 49, 50, 51, 52, 53, 54, 55, 65, 66, 67, 68, 69, 70, 64] (by decide +kernel) (by decide +kernel)
set_option maxRecDepth 20000 in
theorem gX10_mornings_X10_eggsAsMeant : GoodIn wsX10_mornings (wsV RX10 256 RX10 yX10_eggsAsMeant wsX10_eggsAsMeant) := goodIn_app (goodIn_of _ (by decide +kernel)) ggX10_mornings_X10_eggsAsMeant
theorem dX10_mornings_0 : decode cX10_mornings 0 = .ok (.iload_n 1, 1) := by decide +kernel
theorem dX10_mornings_1 : decode cX10_mornings 1 = .ok (.iconst 1, 1) := by decide +kernel
theorem dX10_mornings_2 : decode cX10_mornings 2 = .ok (.if_icmp .lt 22, 3) := by decide +kernel
theorem dX10_mornings_5 : decode cX10_mornings 5 = .ok (.iload_n 1, 1) := by decide +kernel
theorem dX10_mornings_6 : decode cX10_mornings 6 = .ok (.bipush 40, 2) := by decide +kernel
theorem dX10_mornings_8 : decode cX10_mornings 8 = .ok (.if_icmp .gt 16, 3) := by decide +kernel
theorem dX10_mornings_11 : decode cX10_mornings 11 = .ok (.iload_n 2, 1) := by decide +kernel
theorem dX10_mornings_12 : decode cX10_mornings 12 = .ok (.ifCond .lt 12, 3) := by decide +kernel
theorem dX10_mornings_15 : decode cX10_mornings 15 = .ok (.iload_n 3, 1) := by decide +kernel
theorem dX10_mornings_16 : decode cX10_mornings 16 = .ok (.ifCond .lt 8, 3) := by decide +kernel
theorem dX10_mornings_19 : decode cX10_mornings 19 = .ok (.iload_n 3, 1) := by decide +kernel
theorem dX10_mornings_20 : decode cX10_mornings 20 = .ok (.iconst 1, 1) := by decide +kernel
theorem dX10_mornings_21 : decode cX10_mornings 21 = .ok (.if_icmp .le 6, 3) := by decide +kernel
theorem dX10_mornings_24 : decode cX10_mornings 24 = .ok (.bipush (-102), 2) := by decide +kernel
theorem dX10_mornings_26 : decode cX10_mornings 26 = .ok (.ireturn, 1) := by decide +kernel
theorem dX10_mornings_27 : decode cX10_mornings 27 = .ok (.aload_n 0, 1) := by decide +kernel
theorem dX10_mornings_28 : decode cX10_mornings 28 = .ok (.invokevirtual 168, 3) := by decide +kernel
theorem dX10_mornings_31 : decode cX10_mornings 31 = .ok (.ifCond .ne 6, 3) := by decide +kernel
theorem dX10_mornings_34 : decode cX10_mornings 34 = .ok (.bipush (-103), 2) := by decide +kernel
theorem dX10_mornings_36 : decode cX10_mornings 36 = .ok (.ireturn, 1) := by decide +kernel
theorem dX10_mornings_37 : decode cX10_mornings 37 = .ok (.aload_n 0, 1) := by decide +kernel
theorem dX10_mornings_38 : decode cX10_mornings 38 = .ok (.getfield 43, 3) := by decide +kernel
theorem dX10_mornings_41 : decode cX10_mornings 41 = .ok (.iload_n 2, 1) := by decide +kernel
theorem dX10_mornings_42 : decode cX10_mornings 42 = .ok (.invokevirtual 247, 3) := by decide +kernel
theorem dX10_mornings_45 : decode cX10_mornings 45 = .ok (.iconst 0, 1) := by decide +kernel
theorem dX10_mornings_46 : decode cX10_mornings 46 = .ok (.istore 4, 2) := by decide +kernel
theorem dX10_mornings_48 : decode cX10_mornings 48 = .ok (.iconst 0, 1) := by decide +kernel
theorem dX10_mornings_49 : decode cX10_mornings 49 = .ok (.istore 5, 2) := by decide +kernel
theorem dX10_mornings_51 : decode cX10_mornings 51 = .ok (.iload 5, 2) := by decide +kernel
theorem dX10_mornings_53 : decode cX10_mornings 53 = .ok (.iload_n 1, 1) := by decide +kernel
theorem dX10_mornings_54 : decode cX10_mornings 54 = .ok (.if_icmp .ge 43, 3) := by decide +kernel
theorem dX10_mornings_57 : decode cX10_mornings 57 = .ok (.aload_n 0, 1) := by decide +kernel
theorem dX10_mornings_58 : decode cX10_mornings 58 = .ok (.getfield 26, 3) := by decide +kernel
theorem dX10_mornings_61 : decode cX10_mornings 61 = .ok (.aload_n 0, 1) := by decide +kernel
theorem dX10_mornings_62 : decode cX10_mornings 62 = .ok (.getfield 43, 3) := by decide +kernel
theorem dX10_mornings_65 : decode cX10_mornings 65 = .ok (.aload_n 0, 1) := by decide +kernel
theorem dX10_mornings_66 : decode cX10_mornings 66 = .ok (.getfield 26, 3) := by decide +kernel
theorem dX10_mornings_69 : decode cX10_mornings 69 = .ok (.getfield 235, 3) := by decide +kernel
theorem dX10_mornings_72 : decode cX10_mornings 72 = .ok (.invokevirtual 250, 3) := by decide +kernel
theorem dX10_mornings_75 : decode cX10_mornings 75 = .ok (.invokevirtual 253, 3) := by decide +kernel
theorem dX10_mornings_78 : decode cX10_mornings 78 = .ok (.istore 6, 2) := by decide +kernel
theorem dX10_mornings_80 : decode cX10_mornings 80 = .ok (.iload 4, 2) := by decide +kernel
theorem dX10_mornings_82 : decode cX10_mornings 82 = .ok (.aload_n 0, 1) := by decide +kernel
theorem dX10_mornings_83 : decode cX10_mornings 83 = .ok (.iload 6, 2) := by decide +kernel
theorem dX10_mornings_85 : decode cX10_mornings 85 = .ok (.invokevirtual 256, 3) := by decide +kernel
theorem dX10_mornings_88 : decode cX10_mornings 88 = .ok (.iadd, 1) := by decide +kernel
theorem dX10_mornings_89 : decode cX10_mornings 89 = .ok (.istore 4, 2) := by decide +kernel
theorem dX10_mornings_91 : decode cX10_mornings 91 = .ok (.iinc 5 1, 3) := by decide +kernel
theorem dX10_mornings_94 : decode cX10_mornings 94 = .ok (.goto (-43), 3) := by decide +kernel
theorem dX10_mornings_97 : decode cX10_mornings 97 = .ok (.iload_n 3, 1) := by decide +kernel
theorem dX10_mornings_98 : decode cX10_mornings 98 = .ok (.ifCond .ne 8, 3) := by decide +kernel
theorem dX10_mornings_101 : decode cX10_mornings 101 = .ok (.iload 4, 2) := by decide +kernel
theorem dX10_mornings_103 : decode cX10_mornings 103 = .ok (.goto 11, 3) := by decide +kernel
theorem dX10_mornings_106 : decode cX10_mornings 106 = .ok (.aload_n 0, 1) := by decide +kernel
theorem dX10_mornings_107 : decode cX10_mornings 107 = .ok (.getfield 43, 3) := by decide +kernel
theorem dX10_mornings_110 : decode cX10_mornings 110 = .ok (.getfield 259, 3) := by decide +kernel
theorem dX10_mornings_113 : decode cX10_mornings 113 = .ok (.l2i, 1) := by decide +kernel
theorem dX10_mornings_114 : decode cX10_mornings 114 = .ok (.ireturn, 1) := by decide +kernel
set_option maxRecDepth 20000 in
theorem ggX10_image_X10_hasKitchen : GoodIn wsX10_image wsX10_hasKitchen := goodIn_r _ [10, 11, 40, 41, 42, 43, 44, 45, 46, 47, 48, 49, 50, 51, 52, 53, 54, 55, 56, 57] (by decide +kernel) (by decide +kernel)
set_option maxRecDepth 20000 in
theorem gX10_image_X10_hasKitchen : GoodIn wsX10_image (wsV RX10 168 RX10 yX10_hasKitchen wsX10_hasKitchen) := goodIn_app (goodIn_of _ (by decide +kernel)) ggX10_image_X10_hasKitchen
set_option maxRecDepth 20000 in
theorem ggX10_image_X8_copyFrom : GoodIn wsX10_image wsX8_copyFrom := goodIn_r _ [16, 17, 18, 19, 20, 21, 22, 23, 24, 25, 26, 27, 28, 58, 59, 60, 61, 62, 63, 64, 65] (by decide +kernel) (by decide +kernel)
set_option maxRecDepth 20000 in
theorem gX10_image_X8_copyFrom : GoodIn wsX10_image (wsV RX10 263 RX8 yX8_copyFrom wsX8_copyFrom) := goodIn_app (goodIn_of _ (by decide +kernel)) ggX10_image_X8_copyFrom
set_option maxRecDepth 20000 in
theorem ggX10_image_X8_howManyInBox : GoodIn wsX10_image wsX8_howManyInBox := goodIn_r _ [32, 27, 33, 34, 35, 36, 37, 38, 39, 58, 59, 60, 61, 62, 63, 64, 65] (by decide +kernel) (by decide +kernel)
set_option maxRecDepth 20000 in
theorem gX10_image_X8_howManyInBox : GoodIn wsX10_image (wsV RX10 146 RX8 yX8_howManyInBox wsX8_howManyInBox) := goodIn_app (goodIn_of _ (by decide +kernel)) ggX10_image_X8_howManyInBox
theorem dX10_image_0 : decode cX10_image 0 = .ok (.aload_n 0, 1) := by decide +kernel
theorem dX10_image_1 : decode cX10_image 1 = .ok (.invokevirtual 168, 3) := by decide +kernel
theorem dX10_image_4 : decode cX10_image 4 = .ok (.ifCond .ne 6, 3) := by decide +kernel
theorem dX10_image_7 : decode cX10_image 7 = .ok (.bipush (-103), 2) := by decide +kernel
theorem dX10_image_9 : decode cX10_image 9 = .ok (.ireturn, 1) := by decide +kernel
theorem dX10_image_10 : decode cX10_image 10 = .ok (.aload_n 0, 1) := by decide +kernel
theorem dX10_image_11 : decode cX10_image 11 = .ok (.getfield 30, 3) := by decide +kernel
theorem dX10_image_14 : decode cX10_image 14 = .ok (.aload_n 0, 1) := by decide +kernel
theorem dX10_image_15 : decode cX10_image 15 = .ok (.getfield 26, 3) := by decide +kernel
theorem dX10_image_18 : decode cX10_image 18 = .ok (.invokevirtual 263, 3) := by decide +kernel
theorem dX10_image_21 : decode cX10_image 21 = .ok (.aload_n 0, 1) := by decide +kernel
theorem dX10_image_22 : decode cX10_image 22 = .ok (.aload_n 0, 1) := by decide +kernel
theorem dX10_image_23 : decode cX10_image 23 = .ok (.getfield 79, 3) := by decide +kernel
theorem dX10_image_26 : decode cX10_image 26 = .ok (.putfield 267, 3) := by decide +kernel
theorem dX10_image_29 : decode cX10_image 29 = .ok (.aload_n 0, 1) := by decide +kernel
theorem dX10_image_30 : decode cX10_image 30 = .ok (.iconst 1, 1) := by decide +kernel
theorem dX10_image_31 : decode cX10_image 31 = .ok (.putfield 83, 3) := by decide +kernel
theorem dX10_image_34 : decode cX10_image 34 = .ok (.aload_n 0, 1) := by decide +kernel
theorem dX10_image_35 : decode cX10_image 35 = .ok (.getfield 26, 3) := by decide +kernel
theorem dX10_image_38 : decode cX10_image 38 = .ok (.invokevirtual 146, 3) := by decide +kernel
theorem dX10_image_41 : decode cX10_image 41 = .ok (.ireturn, 1) := by decide +kernel
set_option maxRecDepth 20000 in
theorem ggX10_restore_X8_copyFrom : GoodIn wsX10_restore wsX8_copyFrom := goodIn_r _ [10, 11, 12, 13, 14, 15, 16, 17, 18, 19, 20, 21, 22, 46, 47, 48, 49, 50, 51, 52, 53] (by decide +kernel) (by decide +kernel)
set_option maxRecDepth 20000 in
theorem gX10_restore_X8_copyFrom : GoodIn wsX10_restore (wsV RX10 263 RX8 yX8_copyFrom wsX8_copyFrom) := goodIn_app (goodIn_of _ (by decide +kernel)) ggX10_restore_X8_copyFrom
set_option maxRecDepth 20000 in
theorem ggX10_restore_X8_howManyInBox : GoodIn wsX10_restore wsX8_howManyInBox := goodIn_r _ [26, 21, 27, 28, 29, 30, 31, 32, 33, 46, 47, 48, 49, 50, 51, 52, 53] (by decide +kernel) (by decide +kernel)
set_option maxRecDepth 20000 in
theorem gX10_restore_X8_howManyInBox : GoodIn wsX10_restore (wsV RX10 146 RX8 yX8_howManyInBox wsX8_howManyInBox) := goodIn_app (goodIn_of _ (by decide +kernel)) ggX10_restore_X8_howManyInBox
theorem dX10_restore_0 : decode cX10_restore 0 = .ok (.aload_n 0, 1) := by decide +kernel
theorem dX10_restore_1 : decode cX10_restore 1 = .ok (.getfield 83, 3) := by decide +kernel
theorem dX10_restore_4 : decode cX10_restore 4 = .ok (.ifCond .ne 6, 3) := by decide +kernel
theorem dX10_restore_7 : decode cX10_restore 7 = .ok (.bipush (-103), 2) := by decide +kernel
theorem dX10_restore_9 : decode cX10_restore 9 = .ok (.ireturn, 1) := by decide +kernel
theorem dX10_restore_10 : decode cX10_restore 10 = .ok (.aload_n 0, 1) := by decide +kernel
theorem dX10_restore_11 : decode cX10_restore 11 = .ok (.getfield 26, 3) := by decide +kernel
theorem dX10_restore_14 : decode cX10_restore 14 = .ok (.aload_n 0, 1) := by decide +kernel
theorem dX10_restore_15 : decode cX10_restore 15 = .ok (.getfield 30, 3) := by decide +kernel
theorem dX10_restore_18 : decode cX10_restore 18 = .ok (.invokevirtual 263, 3) := by decide +kernel
theorem dX10_restore_21 : decode cX10_restore 21 = .ok (.aload_n 0, 1) := by decide +kernel
theorem dX10_restore_22 : decode cX10_restore 22 = .ok (.aload_n 0, 1) := by decide +kernel
theorem dX10_restore_23 : decode cX10_restore 23 = .ok (.getfield 267, 3) := by decide +kernel
theorem dX10_restore_26 : decode cX10_restore 26 = .ok (.putfield 79, 3) := by decide +kernel
theorem dX10_restore_29 : decode cX10_restore 29 = .ok (.aload_n 0, 1) := by decide +kernel
theorem dX10_restore_30 : decode cX10_restore 30 = .ok (.getfield 26, 3) := by decide +kernel
theorem dX10_restore_33 : decode cX10_restore 33 = .ok (.invokevirtual 146, 3) := by decide +kernel
theorem dX10_restore_36 : decode cX10_restore 36 = .ok (.ireturn, 1) := by decide +kernel
set_option maxRecDepth 20000 in
theorem ggX10_count_X8_howManyInBox : GoodIn wsX10_count wsX8_howManyInBox := goodIn_r _ [11, 12, 13, 14, 15, 16, 17, 18, 19, 38, 39, 40, 41, 42, 43, 44, 45] (by decide +kernel) (by decide +kernel)
set_option maxRecDepth 20000 in
theorem gX10_count_X8_howManyInBox : GoodIn wsX10_count (wsV RX10 146 RX8 yX8_howManyInBox wsX8_howManyInBox) := goodIn_app (goodIn_of _ (by decide +kernel)) ggX10_count_X8_howManyInBox
theorem dX10_count_0 : decode cX10_count 0 = .ok (.iload_n 1, 1) := by decide +kernel
theorem dX10_count_1 : decode cX10_count 1 = .ok (.tableswitch 138 0 10 #[59, 67, 75, 83, 91, 99, 107, 115, 120, 128, 133], 59) := by decide +kernel
theorem dX10_count_60 : decode cX10_count 60 = .ok (.aload_n 0, 1) := by decide +kernel
theorem dX10_count_61 : decode cX10_count 61 = .ok (.getfield 19, 3) := by decide +kernel
theorem dX10_count_64 : decode cX10_count 64 = .ok (.getfield 90, 3) := by decide +kernel
theorem dX10_count_67 : decode cX10_count 67 = .ok (.ireturn, 1) := by decide +kernel
theorem dX10_count_68 : decode cX10_count 68 = .ok (.aload_n 0, 1) := by decide +kernel
theorem dX10_count_69 : decode cX10_count 69 = .ok (.getfield 19, 3) := by decide +kernel
theorem dX10_count_72 : decode cX10_count 72 = .ok (.getfield 270, 3) := by decide +kernel
theorem dX10_count_75 : decode cX10_count 75 = .ok (.ireturn, 1) := by decide +kernel
theorem dX10_count_76 : decode cX10_count 76 = .ok (.aload_n 0, 1) := by decide +kernel
theorem dX10_count_77 : decode cX10_count 77 = .ok (.getfield 19, 3) := by decide +kernel
theorem dX10_count_80 : decode cX10_count 80 = .ok (.getfield 176, 3) := by decide +kernel
theorem dX10_count_83 : decode cX10_count 83 = .ok (.ireturn, 1) := by decide +kernel
theorem dX10_count_84 : decode cX10_count 84 = .ok (.aload_n 0, 1) := by decide +kernel
theorem dX10_count_85 : decode cX10_count 85 = .ok (.getfield 19, 3) := by decide +kernel
theorem dX10_count_88 : decode cX10_count 88 = .ok (.getfield 179, 3) := by decide +kernel
theorem dX10_count_91 : decode cX10_count 91 = .ok (.ireturn, 1) := by decide +kernel
theorem dX10_count_92 : decode cX10_count 92 = .ok (.aload_n 0, 1) := by decide +kernel
theorem dX10_count_93 : decode cX10_count 93 = .ok (.getfield 19, 3) := by decide +kernel
theorem dX10_count_96 : decode cX10_count 96 = .ok (.getfield 132, 3) := by decide +kernel
theorem dX10_count_99 : decode cX10_count 99 = .ok (.ireturn, 1) := by decide +kernel
theorem dX10_count_100 : decode cX10_count 100 = .ok (.aload_n 0, 1) := by decide +kernel
theorem dX10_count_101 : decode cX10_count 101 = .ok (.getfield 26, 3) := by decide +kernel
theorem dX10_count_104 : decode cX10_count 104 = .ok (.invokevirtual 146, 3) := by decide +kernel
theorem dX10_count_107 : decode cX10_count 107 = .ok (.ireturn, 1) := by decide +kernel
theorem dX10_count_108 : decode cX10_count 108 = .ok (.aload_n 0, 1) := by decide +kernel
theorem dX10_count_109 : decode cX10_count 109 = .ok (.getfield 26, 3) := by decide +kernel
theorem dX10_count_112 : decode cX10_count 112 = .ok (.getfield 121, 3) := by decide +kernel
theorem dX10_count_115 : decode cX10_count 115 = .ok (.ireturn, 1) := by decide +kernel
theorem dX10_count_116 : decode cX10_count 116 = .ok (.aload_n 0, 1) := by decide +kernel
theorem dX10_count_117 : decode cX10_count 117 = .ok (.getfield 79, 3) := by decide +kernel
theorem dX10_count_120 : decode cX10_count 120 = .ok (.ireturn, 1) := by decide +kernel
theorem dX10_count_121 : decode cX10_count 121 = .ok (.aload_n 0, 1) := by decide +kernel
theorem dX10_count_122 : decode cX10_count 122 = .ok (.getfield 10, 3) := by decide +kernel
theorem dX10_count_125 : decode cX10_count 125 = .ok (.getfield 273, 3) := by decide +kernel
theorem dX10_count_128 : decode cX10_count 128 = .ok (.ireturn, 1) := by decide +kernel
theorem dX10_count_129 : decode cX10_count 129 = .ok (.aload_n 0, 1) := by decide +kernel
theorem dX10_count_130 : decode cX10_count 130 = .ok (.getfield 87, 3) := by decide +kernel
theorem dX10_count_133 : decode cX10_count 133 = .ok (.ireturn, 1) := by decide +kernel
theorem dX10_count_134 : decode cX10_count 134 = .ok (.aload_n 0, 1) := by decide +kernel
theorem dX10_count_135 : decode cX10_count 135 = .ok (.getfield 188, 3) := by decide +kernel
theorem dX10_count_138 : decode cX10_count 138 = .ok (.ireturn, 1) := by decide +kernel
theorem dX10_count_139 : decode cX10_count 139 = .ok (.bipush (-102), 2) := by decide +kernel
theorem dX10_count_141 : decode cX10_count 141 = .ok (.ireturn, 1) := by decide +kernel
set_option maxRecDepth 20000 in
theorem ggX10_digest_X10_withEgg : GoodIn wsX10_digest wsX10_withEgg := goodIn_r _ [9, 10, 11, 12, 8, 13, 2, 14, 15, 16, 17, 18, 19, 20, 21, 22, 23, 24, 25, 26, 27, 28, 29, 30, 31, 32, 33, 34, 35, 36, 37, 38, 39, 40, 41, 42, 43, 44, 45, 46, 47, 48, 49, 50, 51, 52, 53, 54, 55, 56, 187, 188, 189, 190, 191, 192, 193, 194, 195, 196, 197, 198, 199, 200, 201, 202, 203, 204, 207, 208, 209, 210, 211, 212, 213, 214] (by decide +kernel) (by decide +kernel)
set_option maxRecDepth 20000 in
theorem gX10_digest_X10_withEgg : GoodIn wsX10_digest (wsV RX10 278 RX10 yX10_withEgg wsX10_withEgg) := goodIn_app (goodIn_of _ (by decide +kernel)) ggX10_digest_X10_withEgg
set_option maxRecDepth 20000 in
theorem ggX10_digest_X10_about : GoodIn wsX10_digest wsX10_about := goodIn_r _ [60, 14, 61, 62, 63, 8, 64, 3, 65, 66, 67, 68, 69, 70, 71, 72, 73, 74, 75, 76, 77, 78, 79, 80, 81, 82, 83, 84, 85, 86, 87, 88, 89, 90, 91, 92, 93, 94, 95, 20, 21, 22, 23, 24, 25, 26, 96, 97, 98, 99, 100, 101, 102, 41, 42, 43, 44, 45, 46, 103, 104, 105, 106, 107, 108, 109, 110, 111, 112, 113, 48, 49, 50, 114, 115, 116, 117, 118, 119, 120, 121, 122, 123, 124, 125, 126, 127, 128, 129, 130, 131, 132, 133, 134, 135, 136, 137, 138, 139, 187, 188, 189, 190, 191, 192, 193, 194, 195, 196, 197, 198, 207, 208, 209, 210, 211, 212, 213, 214] (by decide +kernel) (by decide +kernel)
set_option maxRecDepth 20000 in
theorem gX10_digest_X10_about : GoodIn wsX10_digest (wsV RX10 282 RX10 yX10_about wsX10_about) := goodIn_app (goodIn_of _ (by decide +kernel)) ggX10_digest_X10_about
set_option maxRecDepth 20000 in
theorem ggX10_digest_X10_with : GoodIn wsX10_digest wsX10_with := goodIn_r _ [29, 30] (by decide +kernel) (by decide +kernel)
set_option maxRecDepth 20000 in
theorem gX10_digest_X10_with : GoodIn wsX10_digest (va_wsS RX10 286 yX10_with wsX10_with) := goodIn_app (goodIn_of _ (by decide +kernel)) ggX10_digest_X10_with
set_option maxRecDepth 20000 in
theorem ggX10_digest_X10_hasKitchen : GoodIn wsX10_digest wsX10_hasKitchen := goodIn_r _ [143, 2, 187, 188, 189, 190, 191, 192, 193, 194, 195, 196, 197, 198, 199, 200, 201, 202, 203, 204] (by decide +kernel) (by decide +kernel)
set_option maxRecDepth 20000 in
theorem gX10_digest_X10_hasKitchen : GoodIn wsX10_digest (wsV RX10 168 RX10 yX10_hasKitchen wsX10_hasKitchen) := goodIn_app (goodIn_of _ (by decide +kernel)) ggX10_digest_X10_hasKitchen
set_option maxRecDepth 20000 in
theorem ggX10_digest_X10_likeliest : GoodIn wsX10_digest wsX10_likeliest := goodIn_r _ [147, 14, 140, 141, 142, 8, 143, 2, 148, 149, 150, 22, 151, 44, 46, 45, 187, 188, 189, 190, 191, 192, 193, 194, 195, 196, 197, 198, 199, 200, 201, 202, 203, 204, 207, 208, 209, 210, 211, 212, 213, 214] (by decide +kernel) (by decide +kernel)
set_option maxRecDepth 20000 in
theorem gX10_digest_X10_likeliest : GoodIn wsX10_digest (wsV RX10 290 RX10 yX10_likeliest wsX10_likeliest) := goodIn_app (goodIn_of _ (by decide +kernel)) ggX10_digest_X10_likeliest
set_option maxRecDepth 20000 in
theorem ggX10_digest_X10_fits : GoodIn wsX10_digest wsX10_fits := goodIn_r _ [155, 14, 2, 140, 141, 142, 8, 143, 156, 157, 158, 159, 160, 161, 162, 163, 164, 22, 165, 44, 45, 166, 167, 168, 169, 187, 188, 189, 190, 191, 192, 193, 194, 195, 196, 197, 198, 207, 208, 209, 210, 211, 212, 213, 214, 199, 200, 201, 202, 203, 204] (by decide +kernel) (by decide +kernel)
set_option maxRecDepth 20000 in
theorem gX10_digest_X10_fits : GoodIn wsX10_digest (wsV RX10 293 RX10 yX10_fits wsX10_fits) := goodIn_app (goodIn_of _ (by decide +kernel)) ggX10_digest_X10_fits
set_option maxRecDepth 20000 in
theorem ggX10_digest_X10_count : GoodIn wsX10_digest wsX10_count := goodIn_r _ [173, 2, 14, 3, 4, 174, 175, 176, 177, 178, 22, 179, 24, 180, 181, 182, 183, 184, 185, 186, 187, 188, 189, 190, 191, 192, 193, 194, 195, 196, 197, 198, 199, 200, 201, 202, 203, 204, 207, 208, 209, 210, 211, 212, 213, 214, 205, 206] (by decide +kernel) (by decide +kernel)
set_option maxRecDepth 20000 in
theorem gX10_digest_X10_count : GoodIn wsX10_digest (wsV RX10 299 RX10 yX10_count wsX10_count) := goodIn_app (goodIn_of _ (by decide +kernel)) ggX10_digest_X10_count
theorem dX10_digest_0 : decode cX10_digest 0 = .ok (.ldc2_w 276, 3) := by decide +kernel
theorem dX10_digest_3 : decode cX10_digest 3 = .ok (.lstore_n 1, 1) := by decide +kernel
theorem dX10_digest_4 : decode cX10_digest 4 = .ok (.iconst 0, 1) := by decide +kernel
theorem dX10_digest_5 : decode cX10_digest 5 = .ok (.istore_n 3, 1) := by decide +kernel
theorem dX10_digest_6 : decode cX10_digest 6 = .ok (.iload_n 3, 1) := by decide +kernel
theorem dX10_digest_7 : decode cX10_digest 7 = .ok (.aload_n 0, 1) := by decide +kernel
theorem dX10_digest_8 : decode cX10_digest 8 = .ok (.getfield 19, 3) := by decide +kernel
theorem dX10_digest_11 : decode cX10_digest 11 = .ok (.getfield 90, 3) := by decide +kernel
theorem dX10_digest_14 : decode cX10_digest 14 = .ok (.if_icmp .ge 16, 3) := by decide +kernel
theorem dX10_digest_17 : decode cX10_digest 17 = .ok (.aload_n 0, 1) := by decide +kernel
theorem dX10_digest_18 : decode cX10_digest 18 = .ok (.lload_n 1, 1) := by decide +kernel
theorem dX10_digest_19 : decode cX10_digest 19 = .ok (.iload_n 3, 1) := by decide +kernel
theorem dX10_digest_20 : decode cX10_digest 20 = .ok (.invokevirtual 278, 3) := by decide +kernel
theorem dX10_digest_23 : decode cX10_digest 23 = .ok (.lstore_n 1, 1) := by decide +kernel
theorem dX10_digest_24 : decode cX10_digest 24 = .ok (.iinc 3 1, 3) := by decide +kernel
theorem dX10_digest_27 : decode cX10_digest 27 = .ok (.goto (-21), 3) := by decide +kernel
theorem dX10_digest_30 : decode cX10_digest 30 = .ok (.iconst 0, 1) := by decide +kernel
theorem dX10_digest_31 : decode cX10_digest 31 = .ok (.istore_n 3, 1) := by decide +kernel
theorem dX10_digest_32 : decode cX10_digest 32 = .ok (.iload_n 3, 1) := by decide +kernel
theorem dX10_digest_33 : decode cX10_digest 33 = .ok (.aload_n 0, 1) := by decide +kernel
theorem dX10_digest_34 : decode cX10_digest 34 = .ok (.getfield 79, 3) := by decide +kernel
theorem dX10_digest_37 : decode cX10_digest 37 = .ok (.if_icmp .ge 37, 3) := by decide +kernel
theorem dX10_digest_40 : decode cX10_digest 40 = .ok (.iconst 0, 1) := by decide +kernel
theorem dX10_digest_41 : decode cX10_digest 41 = .ok (.istore 4, 2) := by decide +kernel
theorem dX10_digest_43 : decode cX10_digest 43 = .ok (.iload 4, 2) := by decide +kernel
theorem dX10_digest_45 : decode cX10_digest 45 = .ok (.iconst 1, 1) := by decide +kernel
theorem dX10_digest_46 : decode cX10_digest 46 = .ok (.if_icmp .gt 22, 3) := by decide +kernel
theorem dX10_digest_49 : decode cX10_digest 49 = .ok (.lload_n 1, 1) := by decide +kernel
theorem dX10_digest_50 : decode cX10_digest 50 = .ok (.aload_n 0, 1) := by decide +kernel
theorem dX10_digest_51 : decode cX10_digest 51 = .ok (.iload_n 3, 1) := by decide +kernel
theorem dX10_digest_52 : decode cX10_digest 52 = .ok (.iload 4, 2) := by decide +kernel
theorem dX10_digest_54 : decode cX10_digest 54 = .ok (.invokevirtual 282, 3) := by decide +kernel
theorem dX10_digest_57 : decode cX10_digest 57 = .ok (.i2l, 1) := by decide +kernel
theorem dX10_digest_58 : decode cX10_digest 58 = .ok (.invokestatic 286, 3) := by decide +kernel
theorem dX10_digest_61 : decode cX10_digest 61 = .ok (.lstore_n 1, 1) := by decide +kernel
theorem dX10_digest_62 : decode cX10_digest 62 = .ok (.iinc 4 1, 3) := by decide +kernel
theorem dX10_digest_65 : decode cX10_digest 65 = .ok (.goto (-22), 3) := by decide +kernel
theorem dX10_digest_68 : decode cX10_digest 68 = .ok (.iinc 3 1, 3) := by decide +kernel
theorem dX10_digest_71 : decode cX10_digest 71 = .ok (.goto (-39), 3) := by decide +kernel
theorem dX10_digest_74 : decode cX10_digest 74 = .ok (.aload_n 0, 1) := by decide +kernel
theorem dX10_digest_75 : decode cX10_digest 75 = .ok (.invokevirtual 168, 3) := by decide +kernel
theorem dX10_digest_78 : decode cX10_digest 78 = .ok (.ifCond .eq 37, 3) := by decide +kernel
theorem dX10_digest_81 : decode cX10_digest 81 = .ok (.lload_n 1, 1) := by decide +kernel
theorem dX10_digest_82 : decode cX10_digest 82 = .ok (.aload_n 0, 1) := by decide +kernel
theorem dX10_digest_83 : decode cX10_digest 83 = .ok (.invokevirtual 290, 3) := by decide +kernel
theorem dX10_digest_86 : decode cX10_digest 86 = .ok (.i2l, 1) := by decide +kernel
theorem dX10_digest_87 : decode cX10_digest 87 = .ok (.invokestatic 286, 3) := by decide +kernel
theorem dX10_digest_90 : decode cX10_digest 90 = .ok (.lstore_n 1, 1) := by decide +kernel
theorem dX10_digest_91 : decode cX10_digest 91 = .ok (.iconst 0, 1) := by decide +kernel
theorem dX10_digest_92 : decode cX10_digest 92 = .ok (.istore_n 3, 1) := by decide +kernel
theorem dX10_digest_93 : decode cX10_digest 93 = .ok (.iload_n 3, 1) := by decide +kernel
theorem dX10_digest_94 : decode cX10_digest 94 = .ok (.iconst 2, 1) := by decide +kernel
theorem dX10_digest_95 : decode cX10_digest 95 = .ok (.if_icmp .gt 20, 3) := by decide +kernel
theorem dX10_digest_98 : decode cX10_digest 98 = .ok (.lload_n 1, 1) := by decide +kernel
theorem dX10_digest_99 : decode cX10_digest 99 = .ok (.aload_n 0, 1) := by decide +kernel
theorem dX10_digest_100 : decode cX10_digest 100 = .ok (.iload_n 3, 1) := by decide +kernel
theorem dX10_digest_101 : decode cX10_digest 101 = .ok (.invokevirtual 293, 3) := by decide +kernel
theorem dX10_digest_104 : decode cX10_digest 104 = .ok (.i2l, 1) := by decide +kernel
theorem dX10_digest_105 : decode cX10_digest 105 = .ok (.invokestatic 286, 3) := by decide +kernel
theorem dX10_digest_108 : decode cX10_digest 108 = .ok (.lstore_n 1, 1) := by decide +kernel
theorem dX10_digest_109 : decode cX10_digest 109 = .ok (.iinc 3 1, 3) := by decide +kernel
theorem dX10_digest_112 : decode cX10_digest 112 = .ok (.goto (-19), 3) := by decide +kernel
theorem dX10_digest_115 : decode cX10_digest 115 = .ok (.iconst 0, 1) := by decide +kernel
theorem dX10_digest_116 : decode cX10_digest 116 = .ok (.istore_n 3, 1) := by decide +kernel
theorem dX10_digest_117 : decode cX10_digest 117 = .ok (.iload_n 3, 1) := by decide +kernel
theorem dX10_digest_118 : decode cX10_digest 118 = .ok (.aload_n 0, 1) := by decide +kernel
theorem dX10_digest_119 : decode cX10_digest 119 = .ok (.getfield 10, 3) := by decide +kernel
theorem dX10_digest_122 : decode cX10_digest 122 = .ok (.getfield 273, 3) := by decide +kernel
theorem dX10_digest_125 : decode cX10_digest 125 = .ok (.if_icmp .ge 24, 3) := by decide +kernel
theorem dX10_digest_128 : decode cX10_digest 128 = .ok (.lload_n 1, 1) := by decide +kernel
theorem dX10_digest_129 : decode cX10_digest 129 = .ok (.aload_n 0, 1) := by decide +kernel
theorem dX10_digest_130 : decode cX10_digest 130 = .ok (.getfield 10, 3) := by decide +kernel
theorem dX10_digest_133 : decode cX10_digest 133 = .ok (.getfield 296, 3) := by decide +kernel
theorem dX10_digest_136 : decode cX10_digest 136 = .ok (.iload_n 3, 1) := by decide +kernel
theorem dX10_digest_137 : decode cX10_digest 137 = .ok (.iaload, 1) := by decide +kernel
theorem dX10_digest_138 : decode cX10_digest 138 = .ok (.i2l, 1) := by decide +kernel
theorem dX10_digest_139 : decode cX10_digest 139 = .ok (.invokestatic 286, 3) := by decide +kernel
theorem dX10_digest_142 : decode cX10_digest 142 = .ok (.lstore_n 1, 1) := by decide +kernel
theorem dX10_digest_143 : decode cX10_digest 143 = .ok (.iinc 3 1, 3) := by decide +kernel
theorem dX10_digest_146 : decode cX10_digest 146 = .ok (.goto (-29), 3) := by decide +kernel
theorem dX10_digest_149 : decode cX10_digest 149 = .ok (.iconst 0, 1) := by decide +kernel
theorem dX10_digest_150 : decode cX10_digest 150 = .ok (.istore_n 3, 1) := by decide +kernel
theorem dX10_digest_151 : decode cX10_digest 151 = .ok (.iload_n 3, 1) := by decide +kernel
theorem dX10_digest_152 : decode cX10_digest 152 = .ok (.bipush 10, 2) := by decide +kernel
theorem dX10_digest_154 : decode cX10_digest 154 = .ok (.if_icmp .gt 20, 3) := by decide +kernel
theorem dX10_digest_157 : decode cX10_digest 157 = .ok (.lload_n 1, 1) := by decide +kernel
theorem dX10_digest_158 : decode cX10_digest 158 = .ok (.aload_n 0, 1) := by decide +kernel
theorem dX10_digest_159 : decode cX10_digest 159 = .ok (.iload_n 3, 1) := by decide +kernel
theorem dX10_digest_160 : decode cX10_digest 160 = .ok (.invokevirtual 299, 3) := by decide +kernel
theorem dX10_digest_163 : decode cX10_digest 163 = .ok (.i2l, 1) := by decide +kernel
theorem dX10_digest_164 : decode cX10_digest 164 = .ok (.invokestatic 286, 3) := by decide +kernel
theorem dX10_digest_167 : decode cX10_digest 167 = .ok (.lstore_n 1, 1) := by decide +kernel
theorem dX10_digest_168 : decode cX10_digest 168 = .ok (.iinc 3 1, 3) := by decide +kernel
theorem dX10_digest_171 : decode cX10_digest 171 = .ok (.goto (-20), 3) := by decide +kernel
theorem dX10_digest_174 : decode cX10_digest 174 = .ok (.lload_n 1, 1) := by decide +kernel
theorem dX10_digest_175 : decode cX10_digest 175 = .ok (.lreturn, 1) := by decide +kernel
theorem dX10_hasKitchen_0 : decode cX10_hasKitchen 0 = .ok (.aload_n 0, 1) := by decide +kernel
theorem dX10_hasKitchen_1 : decode cX10_hasKitchen 1 = .ok (.getfield 19, 3) := by decide +kernel
theorem dX10_hasKitchen_4 : decode cX10_hasKitchen 4 = .ok (.getfield 90, 3) := by decide +kernel
theorem dX10_hasKitchen_7 : decode cX10_hasKitchen 7 = .ok (.ifCond .le 7, 3) := by decide +kernel
theorem dX10_hasKitchen_10 : decode cX10_hasKitchen 10 = .ok (.iconst 1, 1) := by decide +kernel
theorem dX10_hasKitchen_11 : decode cX10_hasKitchen 11 = .ok (.goto 4, 3) := by decide +kernel
theorem dX10_hasKitchen_14 : decode cX10_hasKitchen 14 = .ok (.iconst 0, 1) := by decide +kernel
theorem dX10_hasKitchen_15 : decode cX10_hasKitchen 15 = .ok (.ireturn, 1) := by decide +kernel
theorem dX10_isEgg_0 : decode cX10_isEgg 0 = .ok (.iload_n 1, 1) := by decide +kernel
theorem dX10_isEgg_1 : decode cX10_isEgg 1 = .ok (.ifCond .lt 18, 3) := by decide +kernel
theorem dX10_isEgg_4 : decode cX10_isEgg 4 = .ok (.iload_n 1, 1) := by decide +kernel
theorem dX10_isEgg_5 : decode cX10_isEgg 5 = .ok (.aload_n 0, 1) := by decide +kernel
theorem dX10_isEgg_6 : decode cX10_isEgg 6 = .ok (.getfield 19, 3) := by decide +kernel
theorem dX10_isEgg_9 : decode cX10_isEgg 9 = .ok (.getfield 90, 3) := by decide +kernel
theorem dX10_isEgg_12 : decode cX10_isEgg 12 = .ok (.if_icmp .ge 7, 3) := by decide +kernel
theorem dX10_isEgg_15 : decode cX10_isEgg 15 = .ok (.iconst 1, 1) := by decide +kernel
theorem dX10_isEgg_16 : decode cX10_isEgg 16 = .ok (.goto 4, 3) := by decide +kernel
theorem dX10_isEgg_19 : decode cX10_isEgg 19 = .ok (.iconst 0, 1) := by decide +kernel
theorem dX10_isEgg_20 : decode cX10_isEgg 20 = .ok (.ireturn, 1) := by decide +kernel
set_option maxRecDepth 20000 in
theorem ggX10_mayBreak_X10_hasKitchen : GoodIn wsX10_mayBreak wsX10_hasKitchen := goodIn_r _ [6, 7, 8, 9, 10, 11, 12, 13, 14, 15, 16, 17, 18, 19, 20, 21, 22, 23, 24, 25] (by decide +kernel) (by decide +kernel)
set_option maxRecDepth 20000 in
theorem gX10_mayBreak_X10_hasKitchen : GoodIn wsX10_mayBreak (wsV RX10 168 RX10 yX10_hasKitchen wsX10_hasKitchen) := goodIn_app (goodIn_of _ (by decide +kernel)) ggX10_mayBreak_X10_hasKitchen
theorem dX10_mayBreak_0 : decode cX10_mayBreak 0 = .ok (.aload_n 0, 1) := by decide +kernel
theorem dX10_mayBreak_1 : decode cX10_mayBreak 1 = .ok (.invokevirtual 168, 3) := by decide +kernel
theorem dX10_mayBreak_4 : decode cX10_mayBreak 4 = .ok (.ifCond .eq 16, 3) := by decide +kernel
theorem dX10_mayBreak_7 : decode cX10_mayBreak 7 = .ok (.aload_n 0, 1) := by decide +kernel
theorem dX10_mayBreak_8 : decode cX10_mayBreak 8 = .ok (.getfield 188, 3) := by decide +kernel
theorem dX10_mayBreak_11 : decode cX10_mayBreak 11 = .ok (.bipush 60, 2) := by decide +kernel
theorem dX10_mayBreak_13 : decode cX10_mayBreak 13 = .ok (.if_icmp .ge 7, 3) := by decide +kernel
theorem dX10_mayBreak_16 : decode cX10_mayBreak 16 = .ok (.iconst 1, 1) := by decide +kernel
theorem dX10_mayBreak_17 : decode cX10_mayBreak 17 = .ok (.goto 4, 3) := by decide +kernel
theorem dX10_mayBreak_20 : decode cX10_mayBreak 20 = .ok (.iconst 0, 1) := by decide +kernel
theorem dX10_mayBreak_21 : decode cX10_mayBreak 21 = .ok (.ireturn, 1) := by decide +kernel
theorem dX10_trierOf_0 : decode cX10_trierOf 0 = .ok (.iload_n 1, 1) := by decide +kernel
theorem dX10_trierOf_1 : decode cX10_trierOf 1 = .ok (.ifCond .lt 20, 3) := by decide +kernel
theorem dX10_trierOf_4 : decode cX10_trierOf 4 = .ok (.iload_n 1, 1) := by decide +kernel
theorem dX10_trierOf_5 : decode cX10_trierOf 5 = .ok (.aload_n 0, 1) := by decide +kernel
theorem dX10_trierOf_6 : decode cX10_trierOf 6 = .ok (.getfield 79, 3) := by decide +kernel
theorem dX10_trierOf_9 : decode cX10_trierOf 9 = .ok (.if_icmp .ge 12, 3) := by decide +kernel
theorem dX10_trierOf_12 : decode cX10_trierOf 12 = .ok (.aload_n 0, 1) := by decide +kernel
theorem dX10_trierOf_13 : decode cX10_trierOf 13 = .ok (.getfield 49, 3) := by decide +kernel
theorem dX10_trierOf_16 : decode cX10_trierOf 16 = .ok (.iload_n 1, 1) := by decide +kernel
theorem dX10_trierOf_17 : decode cX10_trierOf 17 = .ok (.aaload, 1) := by decide +kernel
theorem dX10_trierOf_18 : decode cX10_trierOf 18 = .ok (.goto 4, 3) := by decide +kernel
theorem dX10_trierOf_21 : decode cX10_trierOf 21 = .ok (.aconst_null, 1) := by decide +kernel
theorem dX10_trierOf_22 : decode cX10_trierOf 22 = .ok (.areturn, 1) := by decide +kernel
set_option maxRecDepth 20000 in
theorem ggX10_eggsAsMeant_X10_has : GoodIn wsX10_eggsAsMeant wsX10_has := goodIn_r _ [6] (by decide +kernel) (by decide +kernel)
set_option maxRecDepth 20000 in
theorem gX10_eggsAsMeant_X10_has : GoodIn wsX10_eggsAsMeant (va_wsS RX10 302 yX10_has wsX10_has) := goodIn_app (goodIn_of _ (by decide +kernel)) ggX10_eggsAsMeant_X10_has
set_option maxRecDepth 20000 in
theorem ggX10_eggsAsMeant_X3_next : GoodIn wsX10_eggsAsMeant wsX3_next := goodIn_r _ [11, 12, 13, 14, 15, 16, 42] (by decide +kernel) (by decide +kernel)
set_option maxRecDepth 20000 in
theorem gX10_eggsAsMeant_X3_next : GoodIn wsX10_eggsAsMeant (wsV RX10 250 RX3 yX3_next wsX3_next) := goodIn_app (goodIn_of _ (by decide +kernel)) ggX10_eggsAsMeant_X3_next
set_option maxRecDepth 20000 in
theorem ggX10_eggsAsMeant_X6_tenthsOf : GoodIn wsX10_eggsAsMeant wsX6_tenthsOf := goodIn_r _ [21, 22, 23, 36, 37, 38, 39, 40, 41] (by decide +kernel) (by decide +kernel)
set_option maxRecDepth 20000 in
theorem gX10_eggsAsMeant_X6_tenthsOf : GoodIn wsX10_eggsAsMeant (wsV RX10 113 RX6 yX6_tenthsOf wsX6_tenthsOf) := goodIn_app (goodIn_of _ (by decide +kernel)) ggX10_eggsAsMeant_X6_tenthsOf
theorem dX10_eggsAsMeant_0 : decode cX10_eggsAsMeant 0 = .ok (.iconst 0, 1) := by decide +kernel
theorem dX10_eggsAsMeant_1 : decode cX10_eggsAsMeant 1 = .ok (.istore_n 2, 1) := by decide +kernel
theorem dX10_eggsAsMeant_2 : decode cX10_eggsAsMeant 2 = .ok (.iconst 0, 1) := by decide +kernel
theorem dX10_eggsAsMeant_3 : decode cX10_eggsAsMeant 3 = .ok (.istore_n 3, 1) := by decide +kernel
theorem dX10_eggsAsMeant_4 : decode cX10_eggsAsMeant 4 = .ok (.iload_n 3, 1) := by decide +kernel
theorem dX10_eggsAsMeant_5 : decode cX10_eggsAsMeant 5 = .ok (.aload_n 0, 1) := by decide +kernel
theorem dX10_eggsAsMeant_6 : decode cX10_eggsAsMeant 6 = .ok (.getfield 19, 3) := by decide +kernel
theorem dX10_eggsAsMeant_9 : decode cX10_eggsAsMeant 9 = .ok (.getfield 90, 3) := by decide +kernel
theorem dX10_eggsAsMeant_12 : decode cX10_eggsAsMeant 12 = .ok (.if_icmp .ge 55, 3) := by decide +kernel
theorem dX10_eggsAsMeant_15 : decode cX10_eggsAsMeant 15 = .ok (.iload_n 1, 1) := by decide +kernel
theorem dX10_eggsAsMeant_16 : decode cX10_eggsAsMeant 16 = .ok (.iload_n 3, 1) := by decide +kernel
theorem dX10_eggsAsMeant_17 : decode cX10_eggsAsMeant 17 = .ok (.invokestatic 302, 3) := by decide +kernel
theorem dX10_eggsAsMeant_20 : decode cX10_eggsAsMeant 20 = .ok (.istore 4, 2) := by decide +kernel
theorem dX10_eggsAsMeant_22 : decode cX10_eggsAsMeant 22 = .ok (.aload_n 0, 1) := by decide +kernel
theorem dX10_eggsAsMeant_23 : decode cX10_eggsAsMeant 23 = .ok (.getfield 43, 3) := by decide +kernel
theorem dX10_eggsAsMeant_26 : decode cX10_eggsAsMeant 26 = .ok (.bipush 10, 2) := by decide +kernel
theorem dX10_eggsAsMeant_28 : decode cX10_eggsAsMeant 28 = .ok (.invokevirtual 250, 3) := by decide +kernel
theorem dX10_eggsAsMeant_31 : decode cX10_eggsAsMeant 31 = .ok (.aload_n 0, 1) := by decide +kernel
theorem dX10_eggsAsMeant_32 : decode cX10_eggsAsMeant 32 = .ok (.getfield 19, 3) := by decide +kernel
theorem dX10_eggsAsMeant_35 : decode cX10_eggsAsMeant 35 = .ok (.iload 4, 2) := by decide +kernel
theorem dX10_eggsAsMeant_37 : decode cX10_eggsAsMeant 37 = .ok (.iconst 1, 1) := by decide +kernel
theorem dX10_eggsAsMeant_38 : decode cX10_eggsAsMeant 38 = .ok (.invokevirtual 113, 3) := by decide +kernel
theorem dX10_eggsAsMeant_41 : decode cX10_eggsAsMeant 41 = .ok (.if_icmp .ge 7, 3) := by decide +kernel
theorem dX10_eggsAsMeant_44 : decode cX10_eggsAsMeant 44 = .ok (.iconst 1, 1) := by decide +kernel
theorem dX10_eggsAsMeant_45 : decode cX10_eggsAsMeant 45 = .ok (.goto 4, 3) := by decide +kernel
theorem dX10_eggsAsMeant_48 : decode cX10_eggsAsMeant 48 = .ok (.iconst 0, 1) := by decide +kernel
theorem dX10_eggsAsMeant_49 : decode cX10_eggsAsMeant 49 = .ok (.istore 5, 2) := by decide +kernel
theorem dX10_eggsAsMeant_51 : decode cX10_eggsAsMeant 51 = .ok (.iload 5, 2) := by decide +kernel
theorem dX10_eggsAsMeant_53 : decode cX10_eggsAsMeant 53 = .ok (.iload 4, 2) := by decide +kernel
theorem dX10_eggsAsMeant_55 : decode cX10_eggsAsMeant 55 = .ok (.if_icmp .ne 6, 3) := by decide +kernel
theorem dX10_eggsAsMeant_58 : decode cX10_eggsAsMeant 58 = .ok (.iinc 2 1, 3) := by decide +kernel
theorem dX10_eggsAsMeant_61 : decode cX10_eggsAsMeant 61 = .ok (.iinc 3 1, 3) := by decide +kernel
theorem dX10_eggsAsMeant_64 : decode cX10_eggsAsMeant 64 = .ok (.goto (-60), 3) := by decide +kernel
theorem dX10_eggsAsMeant_67 : decode cX10_eggsAsMeant 67 = .ok (.iload_n 2, 1) := by decide +kernel
theorem dX10_eggsAsMeant_68 : decode cX10_eggsAsMeant 68 = .ok (.ireturn, 1) := by decide +kernel
set_option maxRecDepth 20000 in
theorem ggX10_withEgg_X10_egg : GoodIn wsX10_withEgg wsX10_egg := goodIn_r _ [5, 6, 7, 8, 9, 10, 4, 11, 12, 13, 14, 15, 16, 17, 18, 19, 50, 51, 52, 53, 54, 55, 56, 57, 58, 59, 60, 61, 62, 63, 64, 65, 66, 67, 68, 69, 70, 71, 72, 73, 74, 75] (by decide +kernel) (by decide +kernel)
set_option maxRecDepth 20000 in
theorem gX10_withEgg_X10_egg : GoodIn wsX10_withEgg (wsV RX10 306 RX10 yX10_egg wsX10_egg) := goodIn_app (goodIn_of _ (by decide +kernel)) ggX10_withEgg_X10_egg
set_option maxRecDepth 20000 in
theorem ggX10_withEgg_X10_with : GoodIn wsX10_withEgg wsX10_with := goodIn_r _ [22, 23] (by decide +kernel) (by decide +kernel)
set_option maxRecDepth 20000 in
theorem gX10_withEgg_X10_with : GoodIn wsX10_withEgg (va_wsS RX10 286 yX10_with wsX10_with) := goodIn_app (goodIn_of _ (by decide +kernel)) ggX10_withEgg_X10_with
set_option maxRecDepth 20000 in
theorem ggX10_withEgg_X10_likely : GoodIn wsX10_withEgg wsX10_likely := goodIn_r _ [27, 28, 29, 7, 8, 9, 10, 4, 11, 6, 30, 31, 32, 33, 34, 35, 15, 36, 37, 38, 39, 18, 19, 40, 41, 42, 43, 44, 45, 46, 47, 48, 49, 50, 51, 52, 53, 54, 55, 56, 57, 58, 59, 60, 61, 62, 63, 64, 65, 66, 67, 68, 69, 70, 71, 72, 73, 74, 75] (by decide +kernel) (by decide +kernel)
set_option maxRecDepth 20000 in
theorem gX10_withEgg_X10_likely : GoodIn wsX10_withEgg (wsV RX10 309 RX10 yX10_likely wsX10_likely) := goodIn_app (goodIn_of _ (by decide +kernel)) ggX10_withEgg_X10_likely
theorem dX10_withEgg_0 : decode cX10_withEgg 0 = .ok (.lload_n 1, 1) := by decide +kernel
theorem dX10_withEgg_1 : decode cX10_withEgg 1 = .ok (.lstore 4, 2) := by decide +kernel
theorem dX10_withEgg_3 : decode cX10_withEgg 3 = .ok (.iconst 0, 1) := by decide +kernel
theorem dX10_withEgg_4 : decode cX10_withEgg 4 = .ok (.istore 6, 2) := by decide +kernel
theorem dX10_withEgg_6 : decode cX10_withEgg 6 = .ok (.iload 6, 2) := by decide +kernel
theorem dX10_withEgg_8 : decode cX10_withEgg 8 = .ok (.iconst 4, 1) := by decide +kernel
theorem dX10_withEgg_9 : decode cX10_withEgg 9 = .ok (.if_icmp .gt 24, 3) := by decide +kernel
theorem dX10_withEgg_12 : decode cX10_withEgg 12 = .ok (.lload 4, 2) := by decide +kernel
theorem dX10_withEgg_14 : decode cX10_withEgg 14 = .ok (.aload_n 0, 1) := by decide +kernel
theorem dX10_withEgg_15 : decode cX10_withEgg 15 = .ok (.iload_n 3, 1) := by decide +kernel
theorem dX10_withEgg_16 : decode cX10_withEgg 16 = .ok (.iload 6, 2) := by decide +kernel
theorem dX10_withEgg_18 : decode cX10_withEgg 18 = .ok (.invokevirtual 306, 3) := by decide +kernel
theorem dX10_withEgg_21 : decode cX10_withEgg 21 = .ok (.i2l, 1) := by decide +kernel
theorem dX10_withEgg_22 : decode cX10_withEgg 22 = .ok (.invokestatic 286, 3) := by decide +kernel
theorem dX10_withEgg_25 : decode cX10_withEgg 25 = .ok (.lstore 4, 2) := by decide +kernel
theorem dX10_withEgg_27 : decode cX10_withEgg 27 = .ok (.iinc 6 1, 3) := by decide +kernel
theorem dX10_withEgg_30 : decode cX10_withEgg 30 = .ok (.goto (-24), 3) := by decide +kernel
theorem dX10_withEgg_33 : decode cX10_withEgg 33 = .ok (.iconst 0, 1) := by decide +kernel
theorem dX10_withEgg_34 : decode cX10_withEgg 34 = .ok (.istore 6, 2) := by decide +kernel
theorem dX10_withEgg_36 : decode cX10_withEgg 36 = .ok (.iload 6, 2) := by decide +kernel
theorem dX10_withEgg_38 : decode cX10_withEgg 38 = .ok (.iconst 1, 1) := by decide +kernel
theorem dX10_withEgg_39 : decode cX10_withEgg 39 = .ok (.if_icmp .gt 23, 3) := by decide +kernel
theorem dX10_withEgg_42 : decode cX10_withEgg 42 = .ok (.lload 4, 2) := by decide +kernel
theorem dX10_withEgg_44 : decode cX10_withEgg 44 = .ok (.aload_n 0, 1) := by decide +kernel
theorem dX10_withEgg_45 : decode cX10_withEgg 45 = .ok (.iload_n 3, 1) := by decide +kernel
theorem dX10_withEgg_46 : decode cX10_withEgg 46 = .ok (.iload 6, 2) := by decide +kernel
theorem dX10_withEgg_48 : decode cX10_withEgg 48 = .ok (.invokevirtual 309, 3) := by decide +kernel
theorem dX10_withEgg_51 : decode cX10_withEgg 51 = .ok (.invokestatic 286, 3) := by decide +kernel
theorem dX10_withEgg_54 : decode cX10_withEgg 54 = .ok (.lstore 4, 2) := by decide +kernel
theorem dX10_withEgg_56 : decode cX10_withEgg 56 = .ok (.iinc 6 1, 3) := by decide +kernel
theorem dX10_withEgg_59 : decode cX10_withEgg 59 = .ok (.goto (-23), 3) := by decide +kernel
theorem dX10_withEgg_62 : decode cX10_withEgg 62 = .ok (.lload 4, 2) := by decide +kernel
theorem dX10_withEgg_64 : decode cX10_withEgg 64 = .ok (.lreturn, 1) := by decide +kernel
theorem dX10_with_0 : decode cX10_with 0 = .ok (.ldc2_w 313, 3) := by decide +kernel
theorem dX10_with_3 : decode cX10_with 3 = .ok (.lload_n 0, 1) := by decide +kernel
theorem dX10_with_4 : decode cX10_with 4 = .ok (.lmul, 1) := by decide +kernel
theorem dX10_with_5 : decode cX10_with 5 = .ok (.lload_n 2, 1) := by decide +kernel
theorem dX10_with_6 : decode cX10_with 6 = .ok (.ladd, 1) := by decide +kernel
theorem dX10_with_7 : decode cX10_with 7 = .ok (.lreturn, 1) := by decide +kernel
theorem dX10_isPart_0 : decode cX10_isPart 0 = .ok (.iload_n 0, 1) := by decide +kernel
theorem dX10_isPart_1 : decode cX10_isPart 1 = .ok (.ifCond .eq 8, 3) := by decide +kernel
theorem dX10_isPart_4 : decode cX10_isPart 4 = .ok (.iload_n 0, 1) := by decide +kernel
theorem dX10_isPart_5 : decode cX10_isPart 5 = .ok (.iconst 1, 1) := by decide +kernel
theorem dX10_isPart_6 : decode cX10_isPart 6 = .ok (.if_icmp .ne 7, 3) := by decide +kernel
theorem dX10_isPart_9 : decode cX10_isPart 9 = .ok (.iconst 1, 1) := by decide +kernel
theorem dX10_isPart_10 : decode cX10_isPart 10 = .ok (.goto 4, 3) := by decide +kernel
theorem dX10_isPart_13 : decode cX10_isPart 13 = .ok (.iconst 0, 1) := by decide +kernel
theorem dX10_isPart_14 : decode cX10_isPart 14 = .ok (.ireturn, 1) := by decide +kernel
theorem dX10_isRawNumber_0 : decode cX10_isRawNumber 0 = .ok (.iload_n 0, 1) := by decide +kernel
theorem dX10_isRawNumber_1 : decode cX10_isRawNumber 1 = .ok (.iconst 1, 1) := by decide +kernel
theorem dX10_isRawNumber_2 : decode cX10_isRawNumber 2 = .ok (.if_icmp .lt 13, 3) := by decide +kernel
theorem dX10_isRawNumber_5 : decode cX10_isRawNumber 5 = .ok (.iload_n 0, 1) := by decide +kernel
theorem dX10_isRawNumber_6 : decode cX10_isRawNumber 6 = .ok (.bipush 6, 2) := by decide +kernel
theorem dX10_isRawNumber_8 : decode cX10_isRawNumber 8 = .ok (.if_icmp .gt 7, 3) := by decide +kernel
theorem dX10_isRawNumber_11 : decode cX10_isRawNumber 11 = .ok (.iconst 1, 1) := by decide +kernel
theorem dX10_isRawNumber_12 : decode cX10_isRawNumber 12 = .ok (.goto 4, 3) := by decide +kernel
theorem dX10_isRawNumber_15 : decode cX10_isRawNumber 15 = .ok (.iconst 0, 1) := by decide +kernel
theorem dX10_isRawNumber_16 : decode cX10_isRawNumber 16 = .ok (.ireturn, 1) := by decide +kernel
theorem dX10_isKind_0 : decode cX10_isKind 0 = .ok (.iload_n 0, 1) := by decide +kernel
theorem dX10_isKind_1 : decode cX10_isKind 1 = .ok (.ifCond .lt 12, 3) := by decide +kernel
theorem dX10_isKind_4 : decode cX10_isKind 4 = .ok (.iload_n 0, 1) := by decide +kernel
theorem dX10_isKind_5 : decode cX10_isKind 5 = .ok (.iconst 5, 1) := by decide +kernel
theorem dX10_isKind_6 : decode cX10_isKind 6 = .ok (.if_icmp .ge 7, 3) := by decide +kernel
theorem dX10_isKind_9 : decode cX10_isKind 9 = .ok (.iconst 1, 1) := by decide +kernel
theorem dX10_isKind_10 : decode cX10_isKind 10 = .ok (.goto 4, 3) := by decide +kernel
theorem dX10_isKind_13 : decode cX10_isKind 13 = .ok (.iconst 0, 1) := by decide +kernel
theorem dX10_isKind_14 : decode cX10_isKind 14 = .ok (.ireturn, 1) := by decide +kernel
theorem dX10_has_0 : decode cX10_has 0 = .ok (.iload_n 0, 1) := by decide +kernel
theorem dX10_has_1 : decode cX10_has 1 = .ok (.iload_n 1, 1) := by decide +kernel
theorem dX10_has_2 : decode cX10_has 2 = .ok (.ishr, 1) := by decide +kernel
theorem dX10_has_3 : decode cX10_has 3 = .ok (.iconst 1, 1) := by decide +kernel
theorem dX10_has_4 : decode cX10_has 4 = .ok (.iand, 1) := by decide +kernel
theorem dX10_has_5 : decode cX10_has 5 = .ok (.iconst 1, 1) := by decide +kernel
theorem dX10_has_6 : decode cX10_has 6 = .ok (.if_icmp .ne 7, 3) := by decide +kernel
theorem dX10_has_9 : decode cX10_has 9 = .ok (.iconst 1, 1) := by decide +kernel
theorem dX10_has_10 : decode cX10_has 10 = .ok (.goto 4, 3) := by decide +kernel
theorem dX10_has_13 : decode cX10_has 13 = .ok (.iconst 0, 1) := by decide +kernel
theorem dX10_has_14 : decode cX10_has 14 = .ok (.ireturn, 1) := by decide +kernel
set_option maxRecDepth 20000 in
theorem ggX10_inLowestTerms_X10_commonDivisor : GoodIn wsX10_inLowestTerms wsX10_commonDivisor := goodIn_r _ [4] (by decide +kernel) (by decide +kernel)
set_option maxRecDepth 20000 in
theorem gX10_inLowestTerms_X10_commonDivisor : GoodIn wsX10_inLowestTerms (va_wsS RX10 315 yX10_commonDivisor wsX10_commonDivisor) := goodIn_app (goodIn_of _ (by decide +kernel)) ggX10_inLowestTerms_X10_commonDivisor
theorem dX10_inLowestTerms_0 : decode cX10_inLowestTerms 0 = .ok (.lload_n 0, 1) := by decide +kernel
theorem dX10_inLowestTerms_1 : decode cX10_inLowestTerms 1 = .ok (.lload_n 2, 1) := by decide +kernel
theorem dX10_inLowestTerms_2 : decode cX10_inLowestTerms 2 = .ok (.invokestatic 315, 3) := by decide +kernel
theorem dX10_inLowestTerms_5 : decode cX10_inLowestTerms 5 = .ok (.lstore 5, 2) := by decide +kernel
theorem dX10_inLowestTerms_7 : decode cX10_inLowestTerms 7 = .ok (.iload 4, 2) := by decide +kernel
theorem dX10_inLowestTerms_9 : decode cX10_inLowestTerms 9 = .ok (.ifCond .ne 7, 3) := by decide +kernel
theorem dX10_inLowestTerms_12 : decode cX10_inLowestTerms 12 = .ok (.lload_n 0, 1) := by decide +kernel
theorem dX10_inLowestTerms_13 : decode cX10_inLowestTerms 13 = .ok (.goto 4, 3) := by decide +kernel
theorem dX10_inLowestTerms_16 : decode cX10_inLowestTerms 16 = .ok (.lload_n 2, 1) := by decide +kernel
theorem dX10_inLowestTerms_17 : decode cX10_inLowestTerms 17 = .ok (.lstore 7, 2) := by decide +kernel
theorem dX10_inLowestTerms_19 : decode cX10_inLowestTerms 19 = .ok (.lload 5, 2) := by decide +kernel
theorem dX10_inLowestTerms_21 : decode cX10_inLowestTerms 21 = .ok (.lconst 0, 1) := by decide +kernel
theorem dX10_inLowestTerms_22 : decode cX10_inLowestTerms 22 = .ok (.lcmp, 1) := by decide +kernel
theorem dX10_inLowestTerms_23 : decode cX10_inLowestTerms 23 = .ok (.ifCond .ne 8, 3) := by decide +kernel
theorem dX10_inLowestTerms_26 : decode cX10_inLowestTerms 26 = .ok (.lload 7, 2) := by decide +kernel
theorem dX10_inLowestTerms_28 : decode cX10_inLowestTerms 28 = .ok (.goto 8, 3) := by decide +kernel
theorem dX10_inLowestTerms_31 : decode cX10_inLowestTerms 31 = .ok (.lload 7, 2) := by decide +kernel
theorem dX10_inLowestTerms_33 : decode cX10_inLowestTerms 33 = .ok (.lload 5, 2) := by decide +kernel
theorem dX10_inLowestTerms_35 : decode cX10_inLowestTerms 35 = .ok (.ldiv, 1) := by decide +kernel
theorem dX10_inLowestTerms_36 : decode cX10_inLowestTerms 36 = .ok (.lreturn, 1) := by decide +kernel
theorem dX10_commonDivisor_0 : decode cX10_commonDivisor 0 = .ok (.lload_n 0, 1) := by decide +kernel
theorem dX10_commonDivisor_1 : decode cX10_commonDivisor 1 = .ok (.lstore 4, 2) := by decide +kernel
theorem dX10_commonDivisor_3 : decode cX10_commonDivisor 3 = .ok (.lload_n 2, 1) := by decide +kernel
theorem dX10_commonDivisor_4 : decode cX10_commonDivisor 4 = .ok (.lstore 6, 2) := by decide +kernel
theorem dX10_commonDivisor_6 : decode cX10_commonDivisor 6 = .ok (.iconst 0, 1) := by decide +kernel
theorem dX10_commonDivisor_7 : decode cX10_commonDivisor 7 = .ok (.istore 8, 2) := by decide +kernel
theorem dX10_commonDivisor_9 : decode cX10_commonDivisor 9 = .ok (.iload 8, 2) := by decide +kernel
theorem dX10_commonDivisor_11 : decode cX10_commonDivisor 11 = .ok (.bipush 100, 2) := by decide +kernel
theorem dX10_commonDivisor_13 : decode cX10_commonDivisor 13 = .ok (.if_icmp .ge 31, 3) := by decide +kernel
theorem dX10_commonDivisor_16 : decode cX10_commonDivisor 16 = .ok (.lload 6, 2) := by decide +kernel
theorem dX10_commonDivisor_18 : decode cX10_commonDivisor 18 = .ok (.lconst 0, 1) := by decide +kernel
theorem dX10_commonDivisor_19 : decode cX10_commonDivisor 19 = .ok (.lcmp, 1) := by decide +kernel
theorem dX10_commonDivisor_20 : decode cX10_commonDivisor 20 = .ok (.ifCond .eq 24, 3) := by decide +kernel
theorem dX10_commonDivisor_23 : decode cX10_commonDivisor 23 = .ok (.lload 4, 2) := by decide +kernel
theorem dX10_commonDivisor_25 : decode cX10_commonDivisor 25 = .ok (.lload 6, 2) := by decide +kernel
theorem dX10_commonDivisor_27 : decode cX10_commonDivisor 27 = .ok (.lrem, 1) := by decide +kernel
theorem dX10_commonDivisor_28 : decode cX10_commonDivisor 28 = .ok (.lstore 9, 2) := by decide +kernel
theorem dX10_commonDivisor_30 : decode cX10_commonDivisor 30 = .ok (.lload 6, 2) := by decide +kernel
theorem dX10_commonDivisor_32 : decode cX10_commonDivisor 32 = .ok (.lstore 4, 2) := by decide +kernel
theorem dX10_commonDivisor_34 : decode cX10_commonDivisor 34 = .ok (.lload 9, 2) := by decide +kernel
theorem dX10_commonDivisor_36 : decode cX10_commonDivisor 36 = .ok (.lstore 6, 2) := by decide +kernel
theorem dX10_commonDivisor_38 : decode cX10_commonDivisor 38 = .ok (.iinc 8 1, 3) := by decide +kernel
theorem dX10_commonDivisor_41 : decode cX10_commonDivisor 41 = .ok (.goto (-32), 3) := by decide +kernel
theorem dX10_commonDivisor_44 : decode cX10_commonDivisor 44 = .ok (.lload 4, 2) := by decide +kernel
theorem dX10_commonDivisor_46 : decode cX10_commonDivisor 46 = .ok (.lreturn, 1) := by decide +kernel
set_option maxRecDepth 20000 in
theorem ggX10_newTrier_X2_init : GoodIn wsX10_newTrier wsX2_init := goodIn_r _ [17, 18, 15, 19, 20, 21, 22] (by decide +kernel) (by decide +kernel)
set_option maxRecDepth 20000 in
theorem gX10_newTrier_X2_init_n320 : GoodIn wsX10_newTrier (wsX2_init) := ggX10_newTrier_X2_init
set_option maxRecDepth 20000 in
theorem ggX10_newTrier_X0_init : GoodIn wsX10_newTrier wsX0_init := goodIn_r _ [24, 18, 15, 19, 20, 21, 22] (by decide +kernel) (by decide +kernel)
set_option maxRecDepth 20000 in
theorem gX10_newTrier_X0_init_n323 : GoodIn wsX10_newTrier (wsX0_init) := ggX10_newTrier_X0_init
set_option maxRecDepth 20000 in
theorem ggX10_newTrier_X5_init : GoodIn wsX10_newTrier wsX5_init := goodIn_r _ [26, 18, 15, 19, 20, 21, 22] (by decide +kernel) (by decide +kernel)
set_option maxRecDepth 20000 in
theorem gX10_newTrier_X5_init_n326 : GoodIn wsX10_newTrier (wsX5_init) := ggX10_newTrier_X5_init
set_option maxRecDepth 20000 in
theorem ggX10_newTrier_X4_init : GoodIn wsX10_newTrier wsX4_init := goodIn_r _ [28, 25, 9, 26, 18, 15, 19, 20, 21, 22] (by decide +kernel) (by decide +kernel)
set_option maxRecDepth 20000 in
theorem gX10_newTrier_X4_init_n329 : GoodIn wsX10_newTrier (wsX4_init) := ggX10_newTrier_X4_init
set_option maxRecDepth 20000 in
theorem ggX10_newTrier_X9_init : GoodIn wsX10_newTrier wsX9_init := goodIn_r _ [19, 20, 21, 22] (by decide +kernel) (by decide +kernel)
set_option maxRecDepth 20000 in
theorem gX10_newTrier_X9_init_n330 : GoodIn wsX10_newTrier (wsX9_init) := ggX10_newTrier_X9_init
theorem dX10_newTrier_0 : decode cX10_newTrier 0 = .ok (.iload_n 0, 1) := by decide +kernel
theorem dX10_newTrier_1 : decode cX10_newTrier 1 = .ok (.tableswitch 63 1 4 #[31, 39, 47, 55], 31) := by decide +kernel
theorem dX10_newTrier_32 : decode cX10_newTrier 32 = .ok (.new 318, 3) := by decide +kernel
theorem dX10_newTrier_35 : decode cX10_newTrier 35 = .ok (.dup, 1) := by decide +kernel
theorem dX10_newTrier_36 : decode cX10_newTrier 36 = .ok (.invokespecial 320, 3) := by decide +kernel
theorem dX10_newTrier_39 : decode cX10_newTrier 39 = .ok (.areturn, 1) := by decide +kernel
theorem dX10_newTrier_40 : decode cX10_newTrier 40 = .ok (.new 321, 3) := by decide +kernel
theorem dX10_newTrier_43 : decode cX10_newTrier 43 = .ok (.dup, 1) := by decide +kernel
theorem dX10_newTrier_44 : decode cX10_newTrier 44 = .ok (.invokespecial 323, 3) := by decide +kernel
theorem dX10_newTrier_47 : decode cX10_newTrier 47 = .ok (.areturn, 1) := by decide +kernel
theorem dX10_newTrier_48 : decode cX10_newTrier 48 = .ok (.new 324, 3) := by decide +kernel
theorem dX10_newTrier_51 : decode cX10_newTrier 51 = .ok (.dup, 1) := by decide +kernel
theorem dX10_newTrier_52 : decode cX10_newTrier 52 = .ok (.invokespecial 326, 3) := by decide +kernel
theorem dX10_newTrier_55 : decode cX10_newTrier 55 = .ok (.areturn, 1) := by decide +kernel
theorem dX10_newTrier_56 : decode cX10_newTrier 56 = .ok (.new 327, 3) := by decide +kernel
theorem dX10_newTrier_59 : decode cX10_newTrier 59 = .ok (.dup, 1) := by decide +kernel
theorem dX10_newTrier_60 : decode cX10_newTrier 60 = .ok (.invokespecial 329, 3) := by decide +kernel
theorem dX10_newTrier_63 : decode cX10_newTrier 63 = .ok (.areturn, 1) := by decide +kernel
theorem dX10_newTrier_64 : decode cX10_newTrier 64 = .ok (.new 47, 3) := by decide +kernel
theorem dX10_newTrier_67 : decode cX10_newTrier 67 = .ok (.dup, 1) := by decide +kernel
theorem dX10_newTrier_68 : decode cX10_newTrier 68 = .ok (.invokespecial 330, 3) := by decide +kernel
theorem dX10_newTrier_71 : decode cX10_newTrier 71 = .ok (.areturn, 1) := by decide +kernel
theorem dX10_isOfKind_0 : decode cX10_isOfKind 0 = .ok (.iload_n 1, 1) := by decide +kernel
theorem dX10_isOfKind_1 : decode cX10_isOfKind 1 = .ok (.tableswitch 51 1 4 #[31, 36, 41, 46], 31) := by decide +kernel
theorem dX10_isOfKind_32 : decode cX10_isOfKind 32 = .ok (.aload_n 0, 1) := by decide +kernel
theorem dX10_isOfKind_33 : decode cX10_isOfKind 33 = .ok (.instanceof 318, 3) := by decide +kernel
theorem dX10_isOfKind_36 : decode cX10_isOfKind 36 = .ok (.ireturn, 1) := by decide +kernel
theorem dX10_isOfKind_37 : decode cX10_isOfKind 37 = .ok (.aload_n 0, 1) := by decide +kernel
theorem dX10_isOfKind_38 : decode cX10_isOfKind 38 = .ok (.instanceof 321, 3) := by decide +kernel
theorem dX10_isOfKind_41 : decode cX10_isOfKind 41 = .ok (.ireturn, 1) := by decide +kernel
theorem dX10_isOfKind_42 : decode cX10_isOfKind 42 = .ok (.aload_n 0, 1) := by decide +kernel
theorem dX10_isOfKind_43 : decode cX10_isOfKind 43 = .ok (.instanceof 324, 3) := by decide +kernel
theorem dX10_isOfKind_46 : decode cX10_isOfKind 46 = .ok (.ireturn, 1) := by decide +kernel
theorem dX10_isOfKind_47 : decode cX10_isOfKind 47 = .ok (.aload_n 0, 1) := by decide +kernel
theorem dX10_isOfKind_48 : decode cX10_isOfKind 48 = .ok (.instanceof 327, 3) := by decide +kernel
theorem dX10_isOfKind_51 : decode cX10_isOfKind 51 = .ok (.ireturn, 1) := by decide +kernel
theorem dX10_isOfKind_52 : decode cX10_isOfKind 52 = .ok (.iconst 1, 1) := by decide +kernel
theorem dX10_isOfKind_53 : decode cX10_isOfKind 53 = .ok (.ireturn, 1) := by decide +kernel
