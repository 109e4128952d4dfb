theorem dX1_takeLatest_32 : decode cX1_takeLatest 32 = .ok (.invokevirtual 29, 3) := by decide +kernel
theorem dX1_takeLatest_35 : decode cX1_takeLatest 35 = .ok (.aload_n 0, 1) := by decide +kernel
theorem dX1_takeLatest_36 : decode cX1_takeLatest 36 = .ok (.iload_n 2, 1) := by decide +kernel
theorem dX1_takeLatest_37 : decode cX1_takeLatest 37 = .ok (.putfield 21, 3) := by decide +kernel
theorem dX1_takeLatest_40 : decode cX1_takeLatest 40 = .ok (.aload_n 0, 1) := by decide +kernel
theorem dX1_takeLatest_41 : decode cX1_takeLatest 41 = .ok (.dup, 1) := by decide +kernel
theorem dX1_takeLatest_42 : decode cX1_takeLatest 42 = .ok (.getfield 17, 3) := by decide +kernel
theorem dX1_takeLatest_45 : decode cX1_takeLatest 45 = .ok (.iconst 1, 1) := by decide +kernel
theorem dX1_takeLatest_46 : decode cX1_takeLatest 46 = .ok (.isub, 1) := by decide +kernel
theorem dX1_takeLatest_47 : decode cX1_takeLatest 47 = .ok (.putfield 17, 3) := by decide +kernel
theorem dX1_takeLatest_50 : decode cX1_takeLatest 50 = .ok (.iconst 1, 1) := by decide +kernel
theorem dX1_takeLatest_51 : decode cX1_takeLatest 51 = .ok (.ireturn, 1) := by decide +kernel
theorem dX1_stateAt_0 : decode cX1_stateAt 0 = .ok (.iload_n 1, 1) := by decide +kernel
theorem dX1_stateAt_1 : decode cX1_stateAt 1 = .ok (.ifCond .lt 21, 3) := by decide +kernel
theorem dX1_stateAt_4 : decode cX1_stateAt 4 = .ok (.iload_n 1, 1) := by decide +kernel
theorem dX1_stateAt_5 : decode cX1_stateAt 5 = .ok (.aload_n 0, 1) := by decide +kernel
theorem dX1_stateAt_6 : decode cX1_stateAt 6 = .ok (.getfield 11, 3) := by decide +kernel
theorem dX1_stateAt_9 : decode cX1_stateAt 9 = .ok (.arraylength, 1) := by decide +kernel
theorem dX1_stateAt_10 : decode cX1_stateAt 10 = .ok (.if_icmp .ge 12, 3) := by decide +kernel
theorem dX1_stateAt_13 : decode cX1_stateAt 13 = .ok (.aload_n 0, 1) := by decide +kernel
theorem dX1_stateAt_14 : decode cX1_stateAt 14 = .ok (.getfield 11, 3) := by decide +kernel
theorem dX1_stateAt_17 : decode cX1_stateAt 17 = .ok (.iload_n 1, 1) := by decide +kernel
theorem dX1_stateAt_18 : decode cX1_stateAt 18 = .ok (.aaload, 1) := by decide +kernel
theorem dX1_stateAt_19 : decode cX1_stateAt 19 = .ok (.goto 4, 3) := by decide +kernel
theorem dX1_stateAt_22 : decode cX1_stateAt 22 = .ok (.aconst_null, 1) := by decide +kernel
theorem dX1_stateAt_23 : decode cX1_stateAt 23 = .ok (.areturn, 1) := by decide +kernel
theorem dX2_init_0 : decode cX2_init 0 = .ok (.aload_n 0, 1) := by decide +kernel
theorem dX2_init_1 : decode cX2_init 1 = .ok (.invokespecial 3, 3) := by decide +kernel
theorem dX2_init_4 : decode cX2_init 4 = .ok (.aload_n 0, 1) := by decide +kernel
theorem dX2_init_5 : decode cX2_init 5 = .ok (.bipush 100, 2) := by decide +kernel
theorem dX2_init_7 : decode cX2_init 7 = .ok (.newarray .int, 2) := by decide +kernel
theorem dX2_init_9 : decode cX2_init 9 = .ok (.putfield 9, 3) := by decide +kernel
theorem dX2_init_12 : decode cX2_init 12 = .ok (.aload_n 0, 1) := by decide +kernel
theorem dX2_init_13 : decode cX2_init 13 = .ok (.iconst 0, 1) := by decide +kernel
theorem dX2_init_14 : decode cX2_init 14 = .ok (.putfield 15, 3) := by decide +kernel
theorem dX2_init_17 : decode cX2_init 17 = .ok (.aload_n 0, 1) := by decide +kernel
theorem dX2_init_18 : decode cX2_init 18 = .ok (.iconst 0, 1) := by decide +kernel
theorem dX2_init_19 : decode cX2_init 19 = .ok (.putfield 19, 3) := by decide +kernel
theorem dX2_init_22 : decode cX2_init 22 = .ok (.aload_n 0, 1) := by decide +kernel
theorem dX2_init_23 : decode cX2_init 23 = .ok (.iconst 0, 1) := by decide +kernel
theorem dX2_init_24 : decode cX2_init 24 = .ok (.putfield 22, 3) := by decide +kernel
theorem dX2_init_27 : decode cX2_init 27 = .ok (.aload_n 0, 1) := by decide +kernel
theorem dX2_init_28 : decode cX2_init 28 = .ok (.iconst 0, 1) := by decide +kernel
theorem dX2_init_29 : decode cX2_init 29 = .ok (.putfield 25, 3) := by decide +kernel
theorem dX2_init_32 : decode cX2_init 32 = .ok (.aload_n 0, 1) := by decide +kernel
theorem dX2_init_33 : decode cX2_init 33 = .ok (.iconst 3, 1) := by decide +kernel
theorem dX2_init_34 : decode cX2_init 34 = .ok (.newarray .int, 2) := by decide +kernel
theorem dX2_init_36 : decode cX2_init 36 = .ok (.putfield 29, 3) := by decide +kernel
theorem dX2_init_39 : decode cX2_init 39 = .ok (.aload_n 0, 1) := by decide +kernel
theorem dX2_init_40 : decode cX2_init 40 = .ok (.iconst 0, 1) := by decide +kernel
theorem dX2_init_41 : decode cX2_init 41 = .ok (.putfield 32, 3) := by decide +kernel
theorem dX2_init_44 : decode cX2_init 44 = .ok (.aload_n 0, 1) := by decide +kernel
theorem dX2_init_45 : decode cX2_init 45 = .ok (.iconst 0, 1) := by decide +kernel
theorem dX2_init_46 : decode cX2_init 46 = .ok (.putfield 35, 3) := by decide +kernel
theorem dX2_init_49 : decode cX2_init 49 = .ok (.return_, 1) := by decide +kernel
theorem dX3_init_0 : decode cX3_init 0 = .ok (.aload_n 0, 1) := by decide +kernel
theorem dX3_init_1 : decode cX3_init 1 = .ok (.invokespecial 3, 3) := by decide +kernel
theorem dX3_init_4 : decode cX3_init 4 = .ok (.aload_n 0, 1) := by decide +kernel
theorem dX3_init_5 : decode cX3_init 5 = .ok (.bipush (-9), 2) := by decide +kernel
theorem dX3_init_7 : decode cX3_init 7 = .ok (.putfield 9, 3) := by decide +kernel
theorem dX3_init_10 : decode cX3_init 10 = .ok (.aload_n 0, 1) := by decide +kernel
theorem dX3_init_11 : decode cX3_init 11 = .ok (.bipush (-9), 2) := by decide +kernel
theorem dX3_init_13 : decode cX3_init 13 = .ok (.putfield 15, 3) := by decide +kernel
theorem dX3_init_16 : decode cX3_init 16 = .ok (.aload_n 0, 1) := by decide +kernel
theorem dX3_init_17 : decode cX3_init 17 = .ok (.bipush (-9), 2) := by decide +kernel
theorem dX3_init_19 : decode cX3_init 19 = .ok (.putfield 18, 3) := by decide +kernel
theorem dX3_init_22 : decode cX3_init 22 = .ok (.aload_n 0, 1) := by decide +kernel
theorem dX3_init_23 : decode cX3_init 23 = .ok (.iconst 0, 1) := by decide +kernel
theorem dX3_init_24 : decode cX3_init 24 = .ok (.putfield 21, 3) := by decide +kernel
theorem dX3_init_27 : decode cX3_init 27 = .ok (.aload_n 0, 1) := by decide +kernel
theorem dX3_init_28 : decode cX3_init 28 = .ok (.iconst 0, 1) := by decide +kernel
theorem dX3_init_29 : decode cX3_init 29 = .ok (.putfield 24, 3) := by decide +kernel
theorem dX3_init_32 : decode cX3_init 32 = .ok (.return_, 1) := by decide +kernel
set_option maxRecDepth 20000 in
theorem ggX3_walk_X0_target : GoodIn wsX3_walk wsX0_target := goodIn_r _ [8, 9, 10, 11, 12, 7, 13, 14, 15, 16, 17, 18, 19, 20, 21, 22, 23, 24, 25, 75, 76, 77, 78, 79, 80, 81, 82, 83, 84, 85, 86, 87] (by decide +kernel) (by decide +kernel)
set_option maxRecDepth 20000 in
theorem gX3_walk_X0_target : GoodIn wsX3_walk (wsV RX3 27 RX0 yX0_target wsX0_target) := goodIn_app (goodIn_of _ (by decide +kernel)) ggX3_walk_X0_target
set_option maxRecDepth 20000 in
theorem ggX3_walk_X3_choose : GoodIn wsX3_walk wsX3_choose := goodIn_r _ [30, 31, 32, 33, 7, 34, 35, 36, 37, 23, 24, 25, 38, 39, 40, 29, 41, 42, 18, 19, 20, 43, 44, 45, 46, 1, 47, 48, 49, 50, 51, 52, 2, 3, 53, 54, 55, 56, 57, 58, 59, 60, 75, 76, 77, 78, 79, 80, 81, 82, 83, 84, 85, 86, 87, 88, 89, 90, 91, 92] (by decide +kernel) (by decide +kernel)
set_option maxRecDepth 20000 in
theorem gX3_walk_X3_choose : GoodIn wsX3_walk (wsV RX3 33 RX3 yX3_choose wsX3_choose) := goodIn_app (goodIn_of _ (by decide +kernel)) ggX3_walk_X3_choose
set_option maxRecDepth 20000 in
theorem ggX3_walk_X4_at : GoodIn wsX3_walk wsX4_at := goodIn_r _ [25] (by decide +kernel) (by decide +kernel)
set_option maxRecDepth 20000 in
theorem gX3_walk_X4_at_n41 : GoodIn wsX3_walk (wsX4_at) := ggX3_walk_X4_at
set_option maxRecDepth 20000 in
theorem ggX3_walk_X0_takeTo : GoodIn wsX3_walk wsX0_takeTo := goodIn_r _ [64, 16, 15, 65, 66, 67, 68, 23, 24, 25, 69, 70, 71, 7, 72, 36, 73, 74, 75, 76, 77, 78, 79, 80, 81, 82, 83, 84, 85, 86, 87] (by decide +kernel) (by decide +kernel)
set_option maxRecDepth 20000 in
theorem gX3_walk_X0_takeTo : GoodIn wsX3_walk (wsV RX3 45 RX0 yX0_takeTo wsX0_takeTo) := goodIn_app (goodIn_of _ (by decide +kernel)) ggX3_walk_X0_takeTo
theorem dX3_walk_0 : decode cX3_walk 0 = .ok (.iload_n 2, 1) := by decide +kernel
theorem dX3_walk_1 : decode cX3_walk 1 = .ok (.iconst 1, 1) := by decide +kernel
theorem dX3_walk_2 : decode cX3_walk 2 = .ok (.if_icmp .lt 9, 3) := by decide +kernel
theorem dX3_walk_5 : decode cX3_walk 5 = .ok (.iload_n 2, 1) := by decide +kernel
theorem dX3_walk_6 : decode cX3_walk 6 = .ok (.bipush 30, 2) := by decide +kernel
theorem dX3_walk_8 : decode cX3_walk 8 = .ok (.if_icmp .le 5, 3) := by decide +kernel
theorem dX3_walk_11 : decode cX3_walk 11 = .ok (.iconst (-1), 1) := by decide +kernel
theorem dX3_walk_12 : decode cX3_walk 12 = .ok (.ireturn, 1) := by decide +kernel
theorem dX3_walk_13 : decode cX3_walk 13 = .ok (.aload_n 1, 1) := by decide +kernel
theorem dX3_walk_14 : decode cX3_walk 14 = .ok (.invokevirtual 27, 3) := by decide +kernel
theorem dX3_walk_17 : decode cX3_walk 17 = .ok (.istore_n 3, 1) := by decide +kernel
theorem dX3_walk_18 : decode cX3_walk 18 = .ok (.iconst 0, 1) := by decide +kernel
theorem dX3_walk_19 : decode cX3_walk 19 = .ok (.istore 4, 2) := by decide +kernel
theorem dX3_walk_21 : decode cX3_walk 21 = .ok (.iload 4, 2) := by decide +kernel
theorem dX3_walk_23 : decode cX3_walk 23 = .ok (.iload_n 2, 1) := by decide +kernel
theorem dX3_walk_24 : decode cX3_walk 24 = .ok (.if_icmp .ge 65, 3) := by decide +kernel
theorem dX3_walk_27 : decode cX3_walk 27 = .ok (.aload_n 0, 1) := by decide +kernel
theorem dX3_walk_28 : decode cX3_walk 28 = .ok (.aload_n 1, 1) := by decide +kernel
theorem dX3_walk_29 : decode cX3_walk 29 = .ok (.iload_n 3, 1) := by decide +kernel
theorem dX3_walk_30 : decode cX3_walk 30 = .ok (.invokevirtual 33, 3) := by decide +kernel
theorem dX3_walk_33 : decode cX3_walk 33 = .ok (.ifCond .ne 6, 3) := by decide +kernel
theorem dX3_walk_36 : decode cX3_walk 36 = .ok (.iload 4, 2) := by decide +kernel
theorem dX3_walk_38 : decode cX3_walk 38 = .ok (.ireturn, 1) := by decide +kernel
theorem dX3_walk_39 : decode cX3_walk 39 = .ok (.aload_n 1, 1) := by decide +kernel
theorem dX3_walk_40 : decode cX3_walk 40 = .ok (.getfield 37, 3) := by decide +kernel
theorem dX3_walk_43 : decode cX3_walk 43 = .ok (.aload_n 0, 1) := by decide +kernel
theorem dX3_walk_44 : decode cX3_walk 44 = .ok (.getfield 9, 3) := by decide +kernel
theorem dX3_walk_47 : decode cX3_walk 47 = .ok (.invokestatic 41, 3) := by decide +kernel
theorem dX3_walk_50 : decode cX3_walk 50 = .ok (.istore 5, 2) := by decide +kernel
theorem dX3_walk_52 : decode cX3_walk 52 = .ok (.aload_n 1, 1) := by decide +kernel
theorem dX3_walk_53 : decode cX3_walk 53 = .ok (.aload_n 0, 1) := by decide +kernel
theorem dX3_walk_54 : decode cX3_walk 54 = .ok (.getfield 9, 3) := by decide +kernel
theorem dX3_walk_57 : decode cX3_walk 57 = .ok (.aload_n 0, 1) := by decide +kernel
theorem dX3_walk_58 : decode cX3_walk 58 = .ok (.getfield 15, 3) := by decide +kernel
theorem dX3_walk_61 : decode cX3_walk 61 = .ok (.invokevirtual 45, 3) := by decide +kernel
theorem dX3_walk_64 : decode cX3_walk 64 = .ok (.aload_n 0, 1) := by decide +kernel
theorem dX3_walk_65 : decode cX3_walk 65 = .ok (.getfield 18, 3) := by decide +kernel
theorem dX3_walk_68 : decode cX3_walk 68 = .ok (.bipush (-9), 2) := by decide +kernel
theorem dX3_walk_70 : decode cX3_walk 70 = .ok (.if_icmp .eq 13, 3) := by decide +kernel
theorem dX3_walk_73 : decode cX3_walk 73 = .ok (.aload_n 1, 1) := by decide +kernel
theorem dX3_walk_74 : decode cX3_walk 74 = .ok (.aload_n 0, 1) := by decide +kernel
theorem dX3_walk_75 : decode cX3_walk 75 = .ok (.getfield 18, 3) := by decide +kernel
theorem dX3_walk_78 : decode cX3_walk 78 = .ok (.iload 5, 2) := by decide +kernel
theorem dX3_walk_80 : decode cX3_walk 80 = .ok (.invokevirtual 45, 3) := by decide +kernel
theorem dX3_walk_83 : decode cX3_walk 83 = .ok (.iinc 4 1, 3) := by decide +kernel
theorem dX3_walk_86 : decode cX3_walk 86 = .ok (.goto (-65), 3) := by decide +kernel
theorem dX3_walk_89 : decode cX3_walk 89 = .ok (.iload_n 2, 1) := by decide +kernel
theorem dX3_walk_90 : decode cX3_walk 90 = .ok (.ireturn, 1) := by decide +kernel
set_option maxRecDepth 20000 in
theorem ggX3_choose_X0_fullestServer : GoodIn wsX3_choose wsX0_fullestServer := goodIn_r _ [5, 6, 7, 8, 9, 10, 11, 42, 43, 44, 45, 46, 47, 48, 49, 50, 51, 52, 53, 54] (by decide +kernel) (by decide +kernel)
set_option maxRecDepth 20000 in
theorem gX3_choose_X0_fullestServer : GoodIn wsX3_choose (wsV RX3 49 RX0 yX0_fullestServer wsX0_fullestServer) := goodIn_app (goodIn_of _ (by decide +kernel)) ggX3_choose_X0_fullestServer
set_option maxRecDepth 20000 in
theorem ggX3_choose_X4_at : GoodIn wsX3_choose wsX4_at := goodIn_r _ [11] (by decide +kernel) (by decide +kernel)
set_option maxRecDepth 20000 in
theorem gX3_choose_X4_at_n41 : GoodIn wsX3_choose (wsX4_at) := ggX3_choose_X4_at
set_option maxRecDepth 20000 in
theorem ggX3_choose_X3_chooseMove : GoodIn wsX3_choose wsX3_chooseMove := goodIn_r _ [16, 17, 18, 19, 20, 9, 10, 11, 21, 22, 23, 15, 24, 25, 26, 27, 28, 29, 30, 31, 32, 33, 42, 43, 44, 45, 46, 47, 48, 49, 50, 51, 52, 53, 54, 55, 56, 57, 58, 59] (by decide +kernel) (by decide +kernel)
set_option maxRecDepth 20000 in
theorem gX3_choose_X3_chooseMove : GoodIn wsX3_choose (wsV RX3 55 RX3 yX3_chooseMove wsX3_chooseMove) := goodIn_app (goodIn_of _ (by decide +kernel)) ggX3_choose_X3_chooseMove
set_option maxRecDepth 20000 in
theorem ggX3_choose_X3_isPossible : GoodIn wsX3_choose wsX3_isPossible := goodIn_r _ [37, 25, 31, 55, 56, 57, 58, 59, 42, 43, 44, 45, 46, 47, 48, 49, 50, 51, 52, 53, 54] (by decide +kernel) (by decide +kernel)
set_option maxRecDepth 20000 in
theorem gX3_choose_X3_isPossible : GoodIn wsX3_choose (wsV RX3 59 RX3 yX3_isPossible wsX3_isPossible) := goodIn_app (goodIn_of _ (by decide +kernel)) ggX3_choose_X3_isPossible
set_option maxRecDepth 20000 in
theorem ggX3_choose_X3_chooseExchange : GoodIn wsX3_choose wsX3_chooseExchange := goodIn_r _ [41, 17, 18, 19, 20, 9, 10, 11, 21, 22, 23, 15, 24, 25, 26, 27, 28, 29, 30, 31, 32, 33, 42, 43, 44, 45, 46, 47, 48, 49, 50, 51, 52, 53, 54, 55, 56, 57, 58, 59] (by decide +kernel) (by decide +kernel)
set_option maxRecDepth 20000 in
theorem gX3_choose_X3_chooseExchange : GoodIn wsX3_choose (wsV RX3 63 RX3 yX3_chooseExchange wsX3_chooseExchange) := goodIn_app (goodIn_of _ (by decide +kernel)) ggX3_choose_X3_chooseExchange
theorem dX3_choose_0 : decode cX3_choose 0 = .ok (.aload_n 1, 1) := by decide +kernel
theorem dX3_choose_1 : decode cX3_choose 1 = .ok (.invokevirtual 49, 3) := by decide +kernel
theorem dX3_choose_4 : decode cX3_choose 4 = .ok (.istore_n 3, 1) := by decide +kernel
theorem dX3_choose_5 : decode cX3_choose 5 = .ok (.aload_n 1, 1) := by decide +kernel
theorem dX3_choose_6 : decode cX3_choose 6 = .ok (.getfield 52, 3) := by decide +kernel
theorem dX3_choose_9 : decode cX3_choose 9 = .ok (.iload_n 3, 1) := by decide +kernel
theorem dX3_choose_10 : decode cX3_choose 10 = .ok (.invokestatic 41, 3) := by decide +kernel
theorem dX3_choose_13 : decode cX3_choose 13 = .ok (.iload_n 2, 1) := by decide +kernel
theorem dX3_choose_14 : decode cX3_choose 14 = .ok (.if_icmp .gt 5, 3) := by decide +kernel
theorem dX3_choose_17 : decode cX3_choose 17 = .ok (.iconst 0, 1) := by decide +kernel
theorem dX3_choose_18 : decode cX3_choose 18 = .ok (.ireturn, 1) := by decide +kernel
theorem dX3_choose_19 : decode cX3_choose 19 = .ok (.aload_n 0, 1) := by decide +kernel
theorem dX3_choose_20 : decode cX3_choose 20 = .ok (.aload_n 1, 1) := by decide +kernel
theorem dX3_choose_21 : decode cX3_choose 21 = .ok (.iload_n 3, 1) := by decide +kernel
theorem dX3_choose_22 : decode cX3_choose 22 = .ok (.invokevirtual 55, 3) := by decide +kernel
theorem dX3_choose_25 : decode cX3_choose 25 = .ok (.aload_n 0, 1) := by decide +kernel
theorem dX3_choose_26 : decode cX3_choose 26 = .ok (.aload_n 1, 1) := by decide +kernel
theorem dX3_choose_27 : decode cX3_choose 27 = .ok (.invokevirtual 59, 3) := by decide +kernel
theorem dX3_choose_30 : decode cX3_choose 30 = .ok (.ifCond .eq 5, 3) := by decide +kernel
theorem dX3_choose_33 : decode cX3_choose 33 = .ok (.iconst 1, 1) := by decide +kernel
theorem dX3_choose_34 : decode cX3_choose 34 = .ok (.ireturn, 1) := by decide +kernel
theorem dX3_choose_35 : decode cX3_choose 35 = .ok (.aload_n 0, 1) := by decide +kernel
theorem dX3_choose_36 : decode cX3_choose 36 = .ok (.aload_n 1, 1) := by decide +kernel
theorem dX3_choose_37 : decode cX3_choose 37 = .ok (.iload_n 3, 1) := by decide +kernel
theorem dX3_choose_38 : decode cX3_choose 38 = .ok (.invokevirtual 63, 3) := by decide +kernel
theorem dX3_choose_41 : decode cX3_choose 41 = .ok (.aload_n 0, 1) := by decide +kernel
theorem dX3_choose_42 : decode cX3_choose 42 = .ok (.aload_n 1, 1) := by decide +kernel
theorem dX3_choose_43 : decode cX3_choose 43 = .ok (.invokevirtual 59, 3) := by decide +kernel
theorem dX3_choose_46 : decode cX3_choose 46 = .ok (.ireturn, 1) := by decide +kernel
theorem dX3_isPossible_0 : decode cX3_isPossible 0 = .ok (.aload_n 0, 1) := by decide +kernel
theorem dX3_isPossible_1 : decode cX3_isPossible 1 = .ok (.getfield 9, 3) := by decide +kernel
theorem dX3_isPossible_4 : decode cX3_isPossible 4 = .ok (.bipush (-9), 2) := by decide +kernel
theorem dX3_isPossible_6 : decode cX3_isPossible 6 = .ok (.if_icmp .eq 18, 3) := by decide +kernel
theorem dX3_isPossible_9 : decode cX3_isPossible 9 = .ok (.aload_n 0, 1) := by decide +kernel
theorem dX3_isPossible_10 : decode cX3_isPossible 10 = .ok (.getfield 21, 3) := by decide +kernel
theorem dX3_isPossible_13 : decode cX3_isPossible 13 = .ok (.aload_n 1, 1) := by decide +kernel
theorem dX3_isPossible_14 : decode cX3_isPossible 14 = .ok (.getfield 66, 3) := by decide +kernel
theorem dX3_isPossible_17 : decode cX3_isPossible 17 = .ok (.if_icmp .gt 7, 3) := by decide +kernel
theorem dX3_isPossible_20 : decode cX3_isPossible 20 = .ok (.iconst 1, 1) := by decide +kernel
theorem dX3_isPossible_21 : decode cX3_isPossible 21 = .ok (.goto 4, 3) := by decide +kernel
theorem dX3_isPossible_24 : decode cX3_isPossible 24 = .ok (.iconst 0, 1) := by decide +kernel
theorem dX3_isPossible_25 : decode cX3_isPossible 25 = .ok (.ireturn, 1) := by decide +kernel
set_option maxRecDepth 20000 in
theorem ggX3_chooseMove_X4_at : GoodIn wsX3_chooseMove wsX4_at := goodIn_r _ [7] (by decide +kernel) (by decide +kernel)
set_option maxRecDepth 20000 in
theorem gX3_chooseMove_X4_at_n41 : GoodIn wsX3_chooseMove (wsX4_at) := ggX3_chooseMove_X4_at
set_option maxRecDepth 20000 in
theorem ggX3_chooseMove_X3_startBelow : GoodIn wsX3_chooseMove wsX3_startBelow := goodIn_r _ [12, 13, 14, 35, 36, 37, 38, 39] (by decide +kernel) (by decide +kernel)
set_option maxRecDepth 20000 in
theorem gX3_chooseMove_X3_startBelow : GoodIn wsX3_chooseMove (wsV RX3 69 RX3 yX3_startBelow wsX3_startBelow) := goodIn_app (goodIn_of _ (by decide +kernel)) ggX3_chooseMove_X3_startBelow
set_option maxRecDepth 20000 in
theorem ggX3_chooseMove_X3_offer : GoodIn wsX3_chooseMove wsX3_offer := goodIn_r _ [18, 13, 14, 19, 20, 21, 35, 36, 37, 38, 39] (by decide +kernel) (by decide +kernel)
set_option maxRecDepth 20000 in
theorem gX3_chooseMove_X3_offer : GoodIn wsX3_chooseMove (wsV RX3 94 RX3 yX3_offer wsX3_offer) := goodIn_app (goodIn_of _ (by decide +kernel)) ggX3_chooseMove_X3_offer
theorem dX3_chooseMove_0 : decode cX3_chooseMove 0 = .ok (.aload_n 1, 1) := by decide +kernel
theorem dX3_chooseMove_1 : decode cX3_chooseMove 1 = .ok (.getfield 52, 3) := by decide +kernel
theorem dX3_chooseMove_4 : decode cX3_chooseMove 4 = .ok (.iload_n 2, 1) := by decide +kernel
theorem dX3_chooseMove_5 : decode cX3_chooseMove 5 = .ok (.invokestatic 41, 3) := by decide +kernel
theorem dX3_chooseMove_8 : decode cX3_chooseMove 8 = .ok (.istore_n 3, 1) := by decide +kernel
theorem dX3_chooseMove_9 : decode cX3_chooseMove 9 = .ok (.aload_n 0, 1) := by decide +kernel
theorem dX3_chooseMove_10 : decode cX3_chooseMove 10 = .ok (.iload_n 3, 1) := by decide +kernel
theorem dX3_chooseMove_11 : decode cX3_chooseMove 11 = .ok (.invokevirtual 69, 3) := by decide +kernel
theorem dX3_chooseMove_14 : decode cX3_chooseMove 14 = .ok (.iconst 0, 1) := by decide +kernel
theorem dX3_chooseMove_15 : decode cX3_chooseMove 15 = .ok (.istore 4, 2) := by decide +kernel
theorem dX3_chooseMove_17 : decode cX3_chooseMove 17 = .ok (.iload 4, 2) := by decide +kernel
theorem dX3_chooseMove_19 : decode cX3_chooseMove 19 = .ok (.aload_n 1, 1) := by decide +kernel
theorem dX3_chooseMove_20 : decode cX3_chooseMove 20 = .ok (.getfield 73, 3) := by decide +kernel
theorem dX3_chooseMove_23 : decode cX3_chooseMove 23 = .ok (.if_icmp .ge 115, 3) := by decide +kernel
theorem dX3_chooseMove_26 : decode cX3_chooseMove 26 = .ok (.aload_n 1, 1) := by decide +kernel
theorem dX3_chooseMove_27 : decode cX3_chooseMove 27 = .ok (.getfield 37, 3) := by decide +kernel
theorem dX3_chooseMove_30 : decode cX3_chooseMove 30 = .ok (.iload 4, 2) := by decide +kernel
theorem dX3_chooseMove_32 : decode cX3_chooseMove 32 = .ok (.invokestatic 41, 3) := by decide +kernel
theorem dX3_chooseMove_35 : decode cX3_chooseMove 35 = .ok (.iload_n 2, 1) := by decide +kernel
theorem dX3_chooseMove_36 : decode cX3_chooseMove 36 = .ok (.if_icmp .eq 6, 3) := by decide +kernel
theorem dX3_chooseMove_39 : decode cX3_chooseMove 39 = .ok (.goto 93, 3) := by decide +kernel
theorem dX3_chooseMove_42 : decode cX3_chooseMove 42 = .ok (.aload_n 1, 1) := by decide +kernel
theorem dX3_chooseMove_43 : decode cX3_chooseMove 43 = .ok (.getfield 76, 3) := by decide +kernel
theorem dX3_chooseMove_46 : decode cX3_chooseMove 46 = .ok (.iload 4, 2) := by decide +kernel
theorem dX3_chooseMove_48 : decode cX3_chooseMove 48 = .ok (.invokestatic 41, 3) := by decide +kernel
theorem dX3_chooseMove_51 : decode cX3_chooseMove 51 = .ok (.istore 5, 2) := by decide +kernel
theorem dX3_chooseMove_53 : decode cX3_chooseMove 53 = .ok (.iconst 0, 1) := by decide +kernel
theorem dX3_chooseMove_54 : decode cX3_chooseMove 54 = .ok (.istore 6, 2) := by decide +kernel
theorem dX3_chooseMove_56 : decode cX3_chooseMove 56 = .ok (.iload 6, 2) := by decide +kernel
theorem dX3_chooseMove_58 : decode cX3_chooseMove 58 = .ok (.aload_n 1, 1) := by decide +kernel
theorem dX3_chooseMove_59 : decode cX3_chooseMove 59 = .ok (.getfield 79, 3) := by decide +kernel
theorem dX3_chooseMove_62 : decode cX3_chooseMove 62 = .ok (.if_icmp .ge 70, 3) := by decide +kernel
theorem dX3_chooseMove_65 : decode cX3_chooseMove 65 = .ok (.iload 6, 2) := by decide +kernel
theorem dX3_chooseMove_67 : decode cX3_chooseMove 67 = .ok (.iload_n 2, 1) := by decide +kernel
theorem dX3_chooseMove_68 : decode cX3_chooseMove 68 = .ok (.if_icmp .eq 58, 3) := by decide +kernel
theorem dX3_chooseMove_71 : decode cX3_chooseMove 71 = .ok (.aload_n 1, 1) := by decide +kernel
theorem dX3_chooseMove_72 : decode cX3_chooseMove 72 = .ok (.getfield 82, 3) := by decide +kernel
theorem dX3_chooseMove_75 : decode cX3_chooseMove 75 = .ok (.iload 6, 2) := by decide +kernel
theorem dX3_chooseMove_77 : decode cX3_chooseMove 77 = .ok (.invokestatic 41, 3) := by decide +kernel
theorem dX3_chooseMove_80 : decode cX3_chooseMove 80 = .ok (.iconst 1, 1) := by decide +kernel
theorem dX3_chooseMove_81 : decode cX3_chooseMove 81 = .ok (.if_icmp .ne 45, 3) := by decide +kernel
theorem dX3_chooseMove_84 : decode cX3_chooseMove 84 = .ok (.iload_n 3, 1) := by decide +kernel
theorem dX3_chooseMove_85 : decode cX3_chooseMove 85 = .ok (.iload 5, 2) := by decide +kernel
theorem dX3_chooseMove_87 : decode cX3_chooseMove 87 = .ok (.isub, 1) := by decide +kernel
theorem dX3_chooseMove_88 : decode cX3_chooseMove 88 = .ok (.aload_n 1, 1) := by decide +kernel
theorem dX3_chooseMove_89 : decode cX3_chooseMove 89 = .ok (.getfield 52, 3) := by decide +kernel
theorem dX3_chooseMove_92 : decode cX3_chooseMove 92 = .ok (.iload 6, 2) := by decide +kernel
theorem dX3_chooseMove_94 : decode cX3_chooseMove 94 = .ok (.invokestatic 41, 3) := by decide +kernel
theorem dX3_chooseMove_97 : decode cX3_chooseMove 97 = .ok (.iload 5, 2) := by decide +kernel
theorem dX3_chooseMove_99 : decode cX3_chooseMove 99 = .ok (.iadd, 1) := by decide +kernel
theorem dX3_chooseMove_100 : decode cX3_chooseMove 100 = .ok (.invokestatic 85, 3) := by decide +kernel
theorem dX3_chooseMove_103 : decode cX3_chooseMove 103 = .ok (.istore 7, 2) := by decide +kernel
theorem dX3_chooseMove_105 : decode cX3_chooseMove 105 = .ok (.aload_n 0, 1) := by decide +kernel
theorem dX3_chooseMove_106 : decode cX3_chooseMove 106 = .ok (.iload 4, 2) := by decide +kernel
theorem dX3_chooseMove_108 : decode cX3_chooseMove 108 = .ok (.iload 6, 2) := by decide +kernel
theorem dX3_chooseMove_110 : decode cX3_chooseMove 110 = .ok (.bipush (-9), 2) := by decide +kernel
theorem dX3_chooseMove_112 : decode cX3_chooseMove 112 = .ok (.aload_n 1, 1) := by decide +kernel
theorem dX3_chooseMove_113 : decode cX3_chooseMove 113 = .ok (.getfield 91, 3) := by decide +kernel
theorem dX3_chooseMove_116 : decode cX3_chooseMove 116 = .ok (.iload 4, 2) := by decide +kernel
theorem dX3_chooseMove_118 : decode cX3_chooseMove 118 = .ok (.invokestatic 41, 3) := by decide +kernel
theorem dX3_chooseMove_121 : decode cX3_chooseMove 121 = .ok (.iload 7, 2) := by decide +kernel
theorem dX3_chooseMove_123 : decode cX3_chooseMove 123 = .ok (.invokevirtual 94, 3) := by decide +kernel
theorem dX3_chooseMove_126 : decode cX3_chooseMove 126 = .ok (.iinc 6 1, 3) := by decide +kernel
theorem dX3_chooseMove_129 : decode cX3_chooseMove 129 = .ok (.goto (-73), 3) := by decide +kernel
theorem dX3_chooseMove_132 : decode cX3_chooseMove 132 = .ok (.iinc 4 1, 3) := by decide +kernel
theorem dX3_chooseMove_135 : decode cX3_chooseMove 135 = .ok (.goto (-118), 3) := by decide +kernel
theorem dX3_chooseMove_138 : decode cX3_chooseMove 138 = .ok (.return_, 1) := by decide +kernel
set_option maxRecDepth 20000 in
theorem ggX3_chooseExchange_X4_at : GoodIn wsX3_chooseExchange wsX4_at := goodIn_r _ [7] (by decide +kernel) (by decide +kernel)
set_option maxRecDepth 20000 in
theorem gX3_chooseExchange_X4_at_n41 : GoodIn wsX3_chooseExchange (wsX4_at) := ggX3_chooseExchange_X4_at
set_option maxRecDepth 20000 in
theorem ggX3_chooseExchange_X3_startBelow : GoodIn wsX3_chooseExchange wsX3_startBelow := goodIn_r _ [12, 13, 14, 35, 36, 37, 38, 39] (by decide +kernel) (by decide +kernel)
set_option maxRecDepth 20000 in
theorem gX3_chooseExchange_X3_startBelow : GoodIn wsX3_chooseExchange (wsV RX3 69 RX3 yX3_startBelow wsX3_startBelow) := goodIn_app (goodIn_of _ (by decide +kernel)) ggX3_chooseExchange_X3_startBelow
set_option maxRecDepth 20000 in
theorem ggX3_chooseExchange_X3_offer : GoodIn wsX3_chooseExchange wsX3_offer := goodIn_r _ [18, 13, 14, 19, 20, 21, 35, 36, 37, 38, 39] (by decide +kernel) (by decide +kernel)
set_option maxRecDepth 20000 in
theorem gX3_chooseExchange_X3_offer : GoodIn wsX3_chooseExchange (wsV RX3 94 RX3 yX3_offer wsX3_offer) := goodIn_app (goodIn_of _ (by decide +kernel)) ggX3_chooseExchange_X3_offer
theorem dX3_chooseExchange_0 : decode cX3_chooseExchange 0 = .ok (.aload_n 1, 1) := by decide +kernel
theorem dX3_chooseExchange_1 : decode cX3_chooseExchange 1 = .ok (.getfield 52, 3) := by decide +kernel
theorem dX3_chooseExchange_4 : decode cX3_chooseExchange 4 = .ok (.iload_n 2, 1) := by decide +kernel
theorem dX3_chooseExchange_5 : decode cX3_chooseExchange 5 = .ok (.invokestatic 41, 3) := by decide +kernel
theorem dX3_chooseExchange_8 : decode cX3_chooseExchange 8 = .ok (.istore_n 3, 1) := by decide +kernel
theorem dX3_chooseExchange_9 : decode cX3_chooseExchange 9 = .ok (.aload_n 0, 1) := by decide +kernel
theorem dX3_chooseExchange_10 : decode cX3_chooseExchange 10 = .ok (.iload_n 3, 1) := by decide +kernel
theorem dX3_chooseExchange_11 : decode cX3_chooseExchange 11 = .ok (.invokevirtual 69, 3) := by decide +kernel
theorem dX3_chooseExchange_14 : decode cX3_chooseExchange 14 = .ok (.iconst 0, 1) := by decide +kernel
theorem dX3_chooseExchange_15 : decode cX3_chooseExchange 15 = .ok (.istore 4, 2) := by decide +kernel
theorem dX3_chooseExchange_17 : decode cX3_chooseExchange 17 = .ok (.iload 4, 2) := by decide +kernel
theorem dX3_chooseExchange_19 : decode cX3_chooseExchange 19 = .ok (.aload_n 1, 1) := by decide +kernel
theorem dX3_chooseExchange_20 : decode cX3_chooseExchange 20 = .ok (.getfield 73, 3) := by decide +kernel
theorem dX3_chooseExchange_23 : decode cX3_chooseExchange 23 = .ok (.if_icmp .ge 144, 3) := by decide +kernel
theorem dX3_chooseExchange_26 : decode cX3_chooseExchange 26 = .ok (.aload_n 1, 1) := by decide +kernel
theorem dX3_chooseExchange_27 : decode cX3_chooseExchange 27 = .ok (.getfield 37, 3) := by decide +kernel
theorem dX3_chooseExchange_30 : decode cX3_chooseExchange 30 = .ok (.iload 4, 2) := by decide +kernel
theorem dX3_chooseExchange_32 : decode cX3_chooseExchange 32 = .ok (.invokestatic 41, 3) := by decide +kernel
theorem dX3_chooseExchange_35 : decode cX3_chooseExchange 35 = .ok (.iload_n 2, 1) := by decide +kernel
theorem dX3_chooseExchange_36 : decode cX3_chooseExchange 36 = .ok (.if_icmp .eq 6, 3) := by decide +kernel
theorem dX3_chooseExchange_39 : decode cX3_chooseExchange 39 = .ok (.goto 122, 3) := by decide +kernel
theorem dX3_chooseExchange_42 : decode cX3_chooseExchange 42 = .ok (.iconst 0, 1) := by decide +kernel
theorem dX3_chooseExchange_43 : decode cX3_chooseExchange 43 = .ok (.istore 5, 2) := by decide +kernel
theorem dX3_chooseExchange_45 : decode cX3_chooseExchange 45 = .ok (.iload 5, 2) := by decide +kernel
theorem dX3_chooseExchange_47 : decode cX3_chooseExchange 47 = .ok (.aload_n 1, 1) := by decide +kernel
theorem dX3_chooseExchange_48 : decode cX3_chooseExchange 48 = .ok (.getfield 73, 3) := by decide +kernel
theorem dX3_chooseExchange_51 : decode cX3_chooseExchange 51 = .ok (.if_icmp .ge 110, 3) := by decide +kernel
theorem dX3_chooseExchange_54 : decode cX3_chooseExchange 54 = .ok (.aload_n 1, 1) := by decide +kernel
theorem dX3_chooseExchange_55 : decode cX3_chooseExchange 55 = .ok (.getfield 37, 3) := by decide +kernel
theorem dX3_chooseExchange_58 : decode cX3_chooseExchange 58 = .ok (.iload 5, 2) := by decide +kernel
theorem dX3_chooseExchange_60 : decode cX3_chooseExchange 60 = .ok (.invokestatic 41, 3) := by decide +kernel
theorem dX3_chooseExchange_63 : decode cX3_chooseExchange 63 = .ok (.istore 6, 2) := by decide +kernel
theorem dX3_chooseExchange_65 : decode cX3_chooseExchange 65 = .ok (.iload 6, 2) := by decide +kernel
theorem dX3_chooseExchange_67 : decode cX3_chooseExchange 67 = .ok (.iload_n 2, 1) := by decide +kernel
theorem dX3_chooseExchange_68 : decode cX3_chooseExchange 68 = .ok (.if_icmp .eq 87, 3) := by decide +kernel
theorem dX3_chooseExchange_71 : decode cX3_chooseExchange 71 = .ok (.iload 6, 2) := by decide +kernel
theorem dX3_chooseExchange_73 : decode cX3_chooseExchange 73 = .ok (.bipush (-9), 2) := by decide +kernel
theorem dX3_chooseExchange_75 : decode cX3_chooseExchange 75 = .ok (.if_icmp .eq 80, 3) := by decide +kernel
theorem dX3_chooseExchange_78 : decode cX3_chooseExchange 78 = .ok (.aload_n 1, 1) := by decide +kernel
theorem dX3_chooseExchange_79 : decode cX3_chooseExchange 79 = .ok (.getfield 76, 3) := by decide +kernel
theorem dX3_chooseExchange_82 : decode cX3_chooseExchange 82 = .ok (.iload 4, 2) := by decide +kernel
theorem dX3_chooseExchange_84 : decode cX3_chooseExchange 84 = .ok (.invokestatic 41, 3) := by decide +kernel
theorem dX3_chooseExchange_87 : decode cX3_chooseExchange 87 = .ok (.aload_n 1, 1) := by decide +kernel
theorem dX3_chooseExchange_88 : decode cX3_chooseExchange 88 = .ok (.getfield 76, 3) := by decide +kernel
theorem dX3_chooseExchange_91 : decode cX3_chooseExchange 91 = .ok (.iload 5, 2) := by decide +kernel
theorem dX3_chooseExchange_93 : decode cX3_chooseExchange 93 = .ok (.invokestatic 41, 3) := by decide +kernel
theorem dX3_chooseExchange_96 : decode cX3_chooseExchange 96 = .ok (.isub, 1) := by decide +kernel
theorem dX3_chooseExchange_97 : decode cX3_chooseExchange 97 = .ok (.istore 7, 2) := by decide +kernel
theorem dX3_chooseExchange_99 : decode cX3_chooseExchange 99 = .ok (.iload_n 3, 1) := by decide +kernel
theorem dX3_chooseExchange_100 : decode cX3_chooseExchange 100 = .ok (.iload 7, 2) := by decide +kernel
theorem dX3_chooseExchange_102 : decode cX3_chooseExchange 102 = .ok (.isub, 1) := by decide +kernel
theorem dX3_chooseExchange_103 : decode cX3_chooseExchange 103 = .ok (.aload_n 1, 1) := by decide +kernel
theorem dX3_chooseExchange_104 : decode cX3_chooseExchange 104 = .ok (.getfield 52, 3) := by decide +kernel
theorem dX3_chooseExchange_107 : decode cX3_chooseExchange 107 = .ok (.iload 6, 2) := by decide +kernel
theorem dX3_chooseExchange_109 : decode cX3_chooseExchange 109 = .ok (.invokestatic 41, 3) := by decide +kernel
theorem dX3_chooseExchange_112 : decode cX3_chooseExchange 112 = .ok (.iload 7, 2) := by decide +kernel
theorem dX3_chooseExchange_114 : decode cX3_chooseExchange 114 = .ok (.iadd, 1) := by decide +kernel
theorem dX3_chooseExchange_115 : decode cX3_chooseExchange 115 = .ok (.invokestatic 85, 3) := by decide +kernel
theorem dX3_chooseExchange_118 : decode cX3_chooseExchange 118 = .ok (.istore 8, 2) := by decide +kernel
theorem dX3_chooseExchange_120 : decode cX3_chooseExchange 120 = .ok (.aload_n 1, 1) := by decide +kernel
theorem dX3_chooseExchange_121 : decode cX3_chooseExchange 121 = .ok (.getfield 91, 3) := by decide +kernel
theorem dX3_chooseExchange_124 : decode cX3_chooseExchange 124 = .ok (.iload 4, 2) := by decide +kernel
theorem dX3_chooseExchange_126 : decode cX3_chooseExchange 126 = .ok (.invokestatic 41, 3) := by decide +kernel
theorem dX3_chooseExchange_129 : decode cX3_chooseExchange 129 = .ok (.aload_n 1, 1) := by decide +kernel
theorem dX3_chooseExchange_130 : decode cX3_chooseExchange 130 = .ok (.getfield 91, 3) := by decide +kernel
theorem dX3_chooseExchange_133 : decode cX3_chooseExchange 133 = .ok (.iload 5, 2) := by decide +kernel
theorem dX3_chooseExchange_135 : decode cX3_chooseExchange 135 = .ok (.invokestatic 41, 3) := by decide +kernel
theorem dX3_chooseExchange_138 : decode cX3_chooseExchange 138 = .ok (.iadd, 1) := by decide +kernel
theorem dX3_chooseExchange_139 : decode cX3_chooseExchange 139 = .ok (.istore 9, 2) := by decide +kernel
theorem dX3_chooseExchange_141 : decode cX3_chooseExchange 141 = .ok (.aload_n 0, 1) := by decide +kernel
theorem dX3_chooseExchange_142 : decode cX3_chooseExchange 142 = .ok (.iload 4, 2) := by decide +kernel
theorem dX3_chooseExchange_144 : decode cX3_chooseExchange 144 = .ok (.iload 6, 2) := by decide +kernel
theorem dX3_chooseExchange_146 : decode cX3_chooseExchange 146 = .ok (.iload 5, 2) := by decide +kernel
theorem dX3_chooseExchange_148 : decode cX3_chooseExchange 148 = .ok (.iload 9, 2) := by decide +kernel
theorem dX3_chooseExchange_150 : decode cX3_chooseExchange 150 = .ok (.iload 8, 2) := by decide +kernel
theorem dX3_chooseExchange_152 : decode cX3_chooseExchange 152 = .ok (.invokevirtual 94, 3) := by decide +kernel
theorem dX3_chooseExchange_155 : decode cX3_chooseExchange 155 = .ok (.iinc 5 1, 3) := by decide +kernel
theorem dX3_chooseExchange_158 : decode cX3_chooseExchange 158 = .ok (.goto (-113), 3) := by decide +kernel
theorem dX3_chooseExchange_161 : decode cX3_chooseExchange 161 = .ok (.iinc 4 1, 3) := by decide +kernel
theorem dX3_chooseExchange_164 : decode cX3_chooseExchange 164 = .ok (.goto (-147), 3) := by decide +kernel
theorem dX3_chooseExchange_167 : decode cX3_chooseExchange 167 = .ok (.return_, 1) := by decide +kernel
theorem dX3_startBelow_0 : decode cX3_startBelow 0 = .ok (.aload_n 0, 1) := by decide +kernel
theorem dX3_startBelow_1 : decode cX3_startBelow 1 = .ok (.bipush (-9), 2) := by decide +kernel
theorem dX3_startBelow_3 : decode cX3_startBelow 3 = .ok (.putfield 9, 3) := by decide +kernel
theorem dX3_startBelow_6 : decode cX3_startBelow 6 = .ok (.aload_n 0, 1) := by decide +kernel
theorem dX3_startBelow_7 : decode cX3_startBelow 7 = .ok (.iload_n 1, 1) := by decide +kernel
theorem dX3_startBelow_8 : decode cX3_startBelow 8 = .ok (.putfield 24, 3) := by decide +kernel
theorem dX3_startBelow_11 : decode cX3_startBelow 11 = .ok (.return_, 1) := by decide +kernel
theorem dX3_offer_0 : decode cX3_offer 0 = .ok (.aload_n 0, 1) := by decide +kernel
theorem dX3_offer_1 : decode cX3_offer 1 = .ok (.getfield 9, 3) := by decide +kernel
theorem dX3_offer_4 : decode cX3_offer 4 = .ok (.bipush (-9), 2) := by decide +kernel
theorem dX3_offer_6 : decode cX3_offer 6 = .ok (.if_icmp .eq 25, 3) := by decide +kernel
theorem dX3_offer_9 : decode cX3_offer 9 = .ok (.iload 5, 2) := by decide +kernel
theorem dX3_offer_11 : decode cX3_offer 11 = .ok (.aload_n 0, 1) := by decide +kernel
theorem dX3_offer_12 : decode cX3_offer 12 = .ok (.getfield 24, 3) := by decide +kernel
theorem dX3_offer_15 : decode cX3_offer 15 = .ok (.if_icmp .ne 16, 3) := by decide +kernel
theorem dX3_offer_18 : decode cX3_offer 18 = .ok (.iload 4, 2) := by decide +kernel
theorem dX3_offer_20 : decode cX3_offer 20 = .ok (.aload_n 0, 1) := by decide +kernel
theorem dX3_offer_21 : decode cX3_offer 21 = .ok (.getfield 21, 3) := by decide +kernel
theorem dX3_offer_24 : decode cX3_offer 24 = .ok (.if_icmp .ge 7, 3) := by decide +kernel
theorem dX3_offer_27 : decode cX3_offer 27 = .ok (.iconst 1, 1) := by decide +kernel
theorem dX3_offer_28 : decode cX3_offer 28 = .ok (.goto 4, 3) := by decide +kernel
theorem dX3_offer_31 : decode cX3_offer 31 = .ok (.iconst 0, 1) := by decide +kernel
theorem dX3_offer_32 : decode cX3_offer 32 = .ok (.istore 6, 2) := by decide +kernel
theorem dX3_offer_34 : decode cX3_offer 34 = .ok (.iload 5, 2) := by decide +kernel
theorem dX3_offer_36 : decode cX3_offer 36 = .ok (.aload_n 0, 1) := by decide +kernel
theorem dX3_offer_37 : decode cX3_offer 37 = .ok (.getfield 24, 3) := by decide +kernel
theorem dX3_offer_40 : decode cX3_offer 40 = .ok (.if_icmp .lt 8, 3) := by decide +kernel
theorem dX3_offer_43 : decode cX3_offer 43 = .ok (.iload 6, 2) := by decide +kernel
theorem dX3_offer_45 : decode cX3_offer 45 = .ok (.ifCond .eq 30, 3) := by decide +kernel
theorem dX3_offer_48 : decode cX3_offer 48 = .ok (.aload_n 0, 1) := by decide +kernel
theorem dX3_offer_49 : decode cX3_offer 49 = .ok (.iload_n 1, 1) := by decide +kernel
theorem dX3_offer_50 : decode cX3_offer 50 = .ok (.putfield 9, 3) := by decide +kernel
theorem dX3_offer_53 : decode cX3_offer 53 = .ok (.aload_n 0, 1) := by decide +kernel
theorem dX3_offer_54 : decode cX3_offer 54 = .ok (.iload_n 2, 1) := by decide +kernel
theorem dX3_offer_55 : decode cX3_offer 55 = .ok (.putfield 15, 3) := by decide +kernel
theorem dX3_offer_58 : decode cX3_offer 58 = .ok (.aload_n 0, 1) := by decide +kernel
theorem dX3_offer_59 : decode cX3_offer 59 = .ok (.iload_n 3, 1) := by decide +kernel
theorem dX3_offer_60 : decode cX3_offer 60 = .ok (.putfield 18, 3) := by decide +kernel
theorem dX3_offer_63 : decode cX3_offer 63 = .ok (.aload_n 0, 1) := by decide +kernel
theorem dX3_offer_64 : decode cX3_offer 64 = .ok (.iload 4, 2) := by decide +kernel
theorem dX3_offer_66 : decode cX3_offer 66 = .ok (.putfield 21, 3) := by decide +kernel
theorem dX3_offer_69 : decode cX3_offer 69 = .ok (.aload_n 0, 1) := by decide +kernel
theorem dX3_offer_70 : decode cX3_offer 70 = .ok (.iload 5, 2) := by decide +kernel
theorem dX3_offer_72 : decode cX3_offer 72 = .ok (.putfield 24, 3) := by decide +kernel
theorem dX3_offer_75 : decode cX3_offer 75 = .ok (.return_, 1) := by decide +kernel
set_option maxRecDepth 20000 in
theorem ggX4_init_X0_init : GoodIn wsX4_init wsX0_init := goodIn_r _ [23, 24, 2, 3, 25, 26, 27, 28, 29, 30, 31, 32, 33, 34, 35, 36, 37, 38, 66, 67, 68, 69, 70, 71, 72, 73, 74, 75, 76, 77, 78] (by decide +kernel) (by decide +kernel)
set_option maxRecDepth 20000 in
theorem gX4_init_X0_init_n9 : GoodIn wsX4_init (wsX0_init) := ggX4_init_X0_init
set_option maxRecDepth 20000 in
theorem ggX4_init_X1_init : GoodIn wsX4_init wsX1_init := goodIn_r _ [41, 42, 2, 3, 43, 44, 45, 46, 5, 6, 22, 23, 24, 25, 26, 27, 28, 29, 30, 31, 32, 33, 34, 35, 36, 37, 38, 85, 86, 87, 66, 67, 68, 69, 70, 71, 72, 73, 74, 75, 76, 77, 78] (by decide +kernel) (by decide +kernel)
set_option maxRecDepth 20000 in
theorem gX4_init_X1_init : GoodIn wsX4_init (wsX1_init) := ggX4_init_X1_init
set_option maxRecDepth 20000 in
theorem ggX4_init_X3_init : GoodIn wsX4_init wsX3_init := goodIn_r _ [48, 49, 2, 3, 50, 51, 52, 53, 54, 88, 89, 90, 91, 92] (by decide +kernel) (by decide +kernel)
set_option maxRecDepth 20000 in
theorem gX4_init_X3_init_n31 : GoodIn wsX4_init (wsX3_init) := ggX4_init_X3_init
set_option maxRecDepth 20000 in
theorem ggX4_init_X2_init : GoodIn wsX4_init wsX2_init := goodIn_r _ [56, 57, 2, 3, 25, 58, 59, 60, 61, 62, 63, 64, 65, 93, 94, 95, 96, 97, 98, 99, 100] (by decide +kernel) (by decide +kernel)
set_option maxRecDepth 20000 in
theorem gX4_init_X2_init_n38 : GoodIn wsX4_init (wsX2_init) := ggX4_init_X2_init
theorem dX4_init_0 : decode cX4_init 0 = .ok (.aload_n 0, 1) := by decide +kernel
theorem dX4_init_1 : decode cX4_init 1 = .ok (.invokespecial 1, 3) := by decide +kernel
theorem dX4_init_4 : decode cX4_init 4 = .ok (.aload_n 0, 1) := by decide +kernel
theorem dX4_init_5 : decode cX4_init 5 = .ok (.new 7, 3) := by decide +kernel
theorem dX4_init_8 : decode cX4_init 8 = .ok (.dup, 1) := by decide +kernel
theorem dX4_init_9 : decode cX4_init 9 = .ok (.invokespecial 9, 3) := by decide +kernel
theorem dX4_init_12 : decode cX4_init 12 = .ok (.putfield 10, 3) := by decide +kernel
theorem dX4_init_15 : decode cX4_init 15 = .ok (.aload_n 0, 1) := by decide +kernel
theorem dX4_init_16 : decode cX4_init 16 = .ok (.new 7, 3) := by decide +kernel
theorem dX4_init_19 : decode cX4_init 19 = .ok (.dup, 1) := by decide +kernel
theorem dX4_init_20 : decode cX4_init 20 = .ok (.invokespecial 9, 3) := by decide +kernel
theorem dX4_init_23 : decode cX4_init 23 = .ok (.putfield 16, 3) := by decide +kernel
theorem dX4_init_26 : decode cX4_init 26 = .ok (.aload_n 0, 1) := by decide +kernel
theorem dX4_init_27 : decode cX4_init 27 = .ok (.new 7, 3) := by decide +kernel
theorem dX4_init_30 : decode cX4_init 30 = .ok (.dup, 1) := by decide +kernel
theorem dX4_init_31 : decode cX4_init 31 = .ok (.invokespecial 9, 3) := by decide +kernel
theorem dX4_init_34 : decode cX4_init 34 = .ok (.putfield 19, 3) := by decide +kernel
theorem dX4_init_37 : decode cX4_init 37 = .ok (.aload_n 0, 1) := by decide +kernel
theorem dX4_init_38 : decode cX4_init 38 = .ok (.new 22, 3) := by decide +kernel
theorem dX4_init_41 : decode cX4_init 41 = .ok (.dup, 1) := by decide +kernel
theorem dX4_init_42 : decode cX4_init 42 = .ok (.invokespecial 24, 3) := by decide +kernel
theorem dX4_init_45 : decode cX4_init 45 = .ok (.putfield 25, 3) := by decide +kernel
theorem dX4_init_48 : decode cX4_init 48 = .ok (.aload_n 0, 1) := by decide +kernel
theorem dX4_init_49 : decode cX4_init 49 = .ok (.new 29, 3) := by decide +kernel
theorem dX4_init_52 : decode cX4_init 52 = .ok (.dup, 1) := by decide +kernel
theorem dX4_init_53 : decode cX4_init 53 = .ok (.invokespecial 31, 3) := by decide +kernel
theorem dX4_init_56 : decode cX4_init 56 = .ok (.putfield 32, 3) := by decide +kernel
theorem dX4_init_59 : decode cX4_init 59 = .ok (.aload_n 0, 1) := by decide +kernel
theorem dX4_init_60 : decode cX4_init 60 = .ok (.new 36, 3) := by decide +kernel
theorem dX4_init_63 : decode cX4_init 63 = .ok (.dup, 1) := by decide +kernel
theorem dX4_init_64 : decode cX4_init 64 = .ok (.invokespecial 38, 3) := by decide +kernel
theorem dX4_init_67 : decode cX4_init 67 = .ok (.putfield 39, 3) := by decide +kernel
theorem dX4_init_70 : decode cX4_init 70 = .ok (.return_, 1) := by decide +kernel
set_option maxRecDepth 20000 in
theorem ggX4_addServer_X0_copyFrom : GoodIn wsX4_addServer wsX0_copyFrom := goodIn_r _ [7, 8, 9, 10, 11, 12, 13, 14, 15, 16, 17, 18, 19, 20, 21, 22, 23, 24, 25, 26, 27, 28, 29, 30, 31, 63, 64, 65, 66, 67, 68, 69, 70, 71, 72, 73, 74, 75] (by decide +kernel) (by decide +kernel)
set_option maxRecDepth 20000 in
theorem gX4_addServer_X0_copyFrom : GoodIn wsX4_addServer (wsV RX4 43 RX0 yX0_copyFrom wsX0_copyFrom) := goodIn_app (goodIn_of _ (by decide +kernel)) ggX4_addServer_X0_copyFrom
set_option maxRecDepth 20000 in
theorem ggX4_addServer_X0_newServer : GoodIn wsX4_addServer wsX0_newServer := goodIn_r _ [35, 14, 13, 15, 36, 22, 37, 63, 64, 65, 66, 67, 68, 69, 70, 71, 72, 73, 74, 75] (by decide +kernel) (by decide +kernel)
set_option maxRecDepth 20000 in
theorem gX4_addServer_X0_newServer : GoodIn wsX4_addServer (wsV RX4 47 RX0 yX0_newServer wsX0_newServer) := goodIn_app (goodIn_of _ (by decide +kernel)) ggX4_addServer_X0_newServer
set_option maxRecDepth 20000 in
theorem ggX4_addServer_X4_recorded : GoodIn wsX4_addServer wsX4_recorded := goodIn_r _ [41, 42, 1, 43, 44, 45, 46, 47, 48, 49, 50, 25, 26, 27, 51, 52, 53, 54, 55, 56, 4, 5, 6, 7, 8, 9, 10, 11, 12, 13, 14, 15, 16, 17, 18, 19, 20, 21, 22, 23, 24, 28, 29, 30, 31, 57, 58, 59, 60, 61, 62, 76, 77, 78, 63, 64, 65, 66, 67, 68, 69, 70, 71, 72, 73, 74, 75] (by decide +kernel) (by decide +kernel)
set_option maxRecDepth 20000 in
theorem gX4_addServer_X4_recorded : GoodIn wsX4_addServer (wsV RX4 51 RX4 yX4_recorded wsX4_recorded) := goodIn_app (goodIn_of _ (by decide +kernel)) ggX4_addServer_X4_recorded
theorem dX4_addServer_0 : decode cX4_addServer 0 = .ok (.aload_n 0, 1) := by decide +kernel
theorem dX4_addServer_1 : decode cX4_addServer 1 = .ok (.getfield 16, 3) := by decide +kernel
theorem dX4_addServer_4 : decode cX4_addServer 4 = .ok (.aload_n 0, 1) := by decide +kernel
theorem dX4_addServer_5 : decode cX4_addServer 5 = .ok (.getfield 10, 3) := by decide +kernel
theorem dX4_addServer_8 : decode cX4_addServer 8 = .ok (.invokevirtual 43, 3) := by decide +kernel
theorem dX4_addServer_11 : decode cX4_addServer 11 = .ok (.aload_n 0, 1) := by decide +kernel
theorem dX4_addServer_12 : decode cX4_addServer 12 = .ok (.aload_n 0, 1) := by decide +kernel
theorem dX4_addServer_13 : decode cX4_addServer 13 = .ok (.getfield 10, 3) := by decide +kernel
theorem dX4_addServer_16 : decode cX4_addServer 16 = .ok (.invokevirtual 47, 3) := by decide +kernel
theorem dX4_addServer_19 : decode cX4_addServer 19 = .ok (.invokevirtual 51, 3) := by decide +kernel
theorem dX4_addServer_22 : decode cX4_addServer 22 = .ok (.ireturn, 1) := by decide +kernel
set_option maxRecDepth 20000 in
theorem ggX4_add_X0_copyFrom : GoodIn wsX4_add wsX0_copyFrom := goodIn_r _ [7, 8, 9, 10, 11, 12, 13, 14, 15, 16, 17, 18, 19, 20, 21, 22, 23, 24, 25, 26, 27, 28, 29, 30, 31, 73, 74, 75, 76, 77, 78, 79, 80, 81, 82, 83, 84, 85] (by decide +kernel) (by decide +kernel)
set_option maxRecDepth 20000 in
theorem gX4_add_X0_copyFrom : GoodIn wsX4_add (wsV RX4 43 RX0 yX0_copyFrom wsX0_copyFrom) := goodIn_app (goodIn_of _ (by decide +kernel)) ggX4_add_X0_copyFrom
set_option maxRecDepth 20000 in
theorem ggX4_add_X0_newJob : GoodIn wsX4_add wsX0_newJob := goodIn_r _ [35, 16, 8, 9, 10, 11, 12, 17, 36, 37, 38, 6, 39, 14, 40, 41, 42, 43, 13, 44, 22, 45, 46, 47, 73, 74, 75, 76, 77, 78, 79, 80, 81, 82, 83, 84, 85] (by decide +kernel) (by decide +kernel)
set_option maxRecDepth 20000 in
theorem gX4_add_X0_newJob : GoodIn wsX4_add (wsV RX4 55 RX0 yX0_newJob wsX0_newJob) := goodIn_app (goodIn_of _ (by decide +kernel)) ggX4_add_X0_newJob
set_option maxRecDepth 20000 in
theorem ggX4_add_X4_recorded : GoodIn wsX4_add wsX4_recorded := goodIn_r _ [51, 52, 1, 53, 54, 55, 56, 57, 58, 59, 60, 25, 26, 27, 61, 62, 63, 64, 65, 66, 4, 5, 6, 7, 8, 9, 10, 11, 12, 13, 14, 15, 16, 17, 18, 19, 20, 21, 22, 23, 24, 28, 29, 30, 31, 67, 68, 69, 70, 71, 72, 86, 87, 88, 73, 74, 75, 76, 77, 78, 79, 80, 81, 82, 83, 84, 85] (by decide +kernel) (by decide +kernel)
set_option maxRecDepth 20000 in
theorem gX4_add_X4_recorded : GoodIn wsX4_add (wsV RX4 51 RX4 yX4_recorded wsX4_recorded) := goodIn_app (goodIn_of _ (by decide +kernel)) ggX4_add_X4_recorded
theorem dX4_add_0 : decode cX4_add 0 = .ok (.aload_n 0, 1) := by decide +kernel
theorem dX4_add_1 : decode cX4_add 1 = .ok (.getfield 16, 3) := by decide +kernel
theorem dX4_add_4 : decode cX4_add 4 = .ok (.aload_n 0, 1) := by decide +kernel
theorem dX4_add_5 : decode cX4_add 5 = .ok (.getfield 10, 3) := by decide +kernel
theorem dX4_add_8 : decode cX4_add 8 = .ok (.invokevirtual 43, 3) := by decide +kernel
theorem dX4_add_11 : decode cX4_add 11 = .ok (.aload_n 0, 1) := by decide +kernel
theorem dX4_add_12 : decode cX4_add 12 = .ok (.aload_n 0, 1) := by decide +kernel
theorem dX4_add_13 : decode cX4_add 13 = .ok (.getfield 10, 3) := by decide +kernel
theorem dX4_add_16 : decode cX4_add 16 = .ok (.iload_n 1, 1) := by decide +kernel
theorem dX4_add_17 : decode cX4_add 17 = .ok (.iload_n 2, 1) := by decide +kernel
theorem dX4_add_18 : decode cX4_add 18 = .ok (.iload_n 3, 1) := by decide +kernel
theorem dX4_add_19 : decode cX4_add 19 = .ok (.invokevirtual 55, 3) := by decide +kernel
theorem dX4_add_22 : decode cX4_add 22 = .ok (.invokevirtual 51, 3) := by decide +kernel
theorem dX4_add_25 : decode cX4_add 25 = .ok (.ireturn, 1) := by decide +kernel
set_option maxRecDepth 20000 in
theorem ggX4_finish_X0_copyFrom : GoodIn wsX4_finish wsX0_copyFrom := goodIn_r _ [7, 8, 9, 10, 11, 12, 13, 14, 15, 16, 17, 18, 19, 20, 21, 22, 23, 24, 25, 26, 27, 28, 29, 30, 31, 73, 74, 75, 76, 77, 78, 79, 80, 81, 82, 83, 84, 85] (by decide +kernel) (by decide +kernel)
set_option maxRecDepth 20000 in
theorem gX4_finish_X0_copyFrom : GoodIn wsX4_finish (wsV RX4 43 RX0 yX0_copyFrom wsX0_copyFrom) := goodIn_app (goodIn_of _ (by decide +kernel)) ggX4_finish_X0_copyFrom
set_option maxRecDepth 20000 in
theorem ggX4_finish_X0_endJob : GoodIn wsX4_finish wsX0_endJob := goodIn_r _ [35, 10, 12, 8, 17, 36, 37, 38, 6, 39, 16, 40, 41, 42, 43, 44, 22, 45, 46, 47, 73, 74, 75, 76, 77, 78, 79, 80, 81, 82, 83, 84, 85] (by decide +kernel) (by decide +kernel)
set_option maxRecDepth 20000 in
theorem gX4_finish_X0_endJob : GoodIn wsX4_finish (wsV RX4 59 RX0 yX0_endJob wsX0_endJob) := goodIn_app (goodIn_of _ (by decide +kernel)) ggX4_finish_X0_endJob
set_option maxRecDepth 20000 in
theorem ggX4_finish_X4_recorded : GoodIn wsX4_finish wsX4_recorded := goodIn_r _ [51, 52, 1, 53, 54, 55, 56, 57, 58, 59, 60, 25, 26, 27, 61, 62, 63, 64, 65, 66, 4, 5, 6, 7, 8, 9, 10, 11, 12, 13, 14, 15, 16, 17, 18, 19, 20, 21, 22, 23, 24, 28, 29, 30, 31, 67, 68, 69, 70, 71, 72, 86, 87, 88, 73, 74, 75, 76, 77, 78, 79, 80, 81, 82, 83, 84, 85] (by decide +kernel) (by decide +kernel)
set_option maxRecDepth 20000 in
theorem gX4_finish_X4_recorded : GoodIn wsX4_finish (wsV RX4 51 RX4 yX4_recorded wsX4_recorded) := goodIn_app (goodIn_of _ (by decide +kernel)) ggX4_finish_X4_recorded
theorem dX4_finish_0 : decode cX4_finish 0 = .ok (.aload_n 0, 1) := by decide +kernel
theorem dX4_finish_1 : decode cX4_finish 1 = .ok (.getfield 16, 3) := by decide +kernel
theorem dX4_finish_4 : decode cX4_finish 4 = .ok (.aload_n 0, 1) := by decide +kernel
theorem dX4_finish_5 : decode cX4_finish 5 = .ok (.getfield 10, 3) := by decide +kernel
theorem dX4_finish_8 : decode cX4_finish 8 = .ok (.invokevirtual 43, 3) := by decide +kernel
theorem dX4_finish_11 : decode cX4_finish 11 = .ok (.aload_n 0, 1) := by decide +kernel
theorem dX4_finish_12 : decode cX4_finish 12 = .ok (.aload_n 0, 1) := by decide +kernel
theorem dX4_finish_13 : decode cX4_finish 13 = .ok (.getfield 10, 3) := by decide +kernel
theorem dX4_finish_16 : decode cX4_finish 16 = .ok (.iload_n 1, 1) := by decide +kernel
theorem dX4_finish_17 : decode cX4_finish 17 = .ok (.invokevirtual 59, 3) := by decide +kernel
theorem dX4_finish_20 : decode cX4_finish 20 = .ok (.invokevirtual 51, 3) := by decide +kernel
theorem dX4_finish_23 : decode cX4_finish 23 = .ok (.ireturn, 1) := by decide +kernel
set_option maxRecDepth 20000 in
theorem ggX4_setBudget_X0_copyFrom : GoodIn wsX4_setBudget wsX0_copyFrom := goodIn_r _ [7, 8, 9, 10, 11, 12, 13, 14, 15, 16, 17, 18, 19, 20, 21, 22, 23, 24, 25, 26, 27, 28, 29, 30, 31, 61, 62, 63, 64, 65, 66, 67, 68, 69, 70, 71, 72, 73] (by decide +kernel) (by decide +kernel)
set_option maxRecDepth 20000 in
theorem gX4_setBudget_X0_copyFrom : GoodIn wsX4_setBudget (wsV RX4 43 RX0 yX0_copyFrom wsX0_copyFrom) := goodIn_app (goodIn_of _ (by decide +kernel)) ggX4_setBudget_X0_copyFrom
set_option maxRecDepth 20000 in
theorem ggX4_setBudget_X0_changeBudget : GoodIn wsX4_setBudget wsX0_changeBudget := goodIn_r _ [35, 18, 61, 62, 63, 64, 65, 66, 67, 68, 69, 70, 71, 72, 73] (by decide +kernel) (by decide +kernel)
set_option maxRecDepth 20000 in
theorem gX4_setBudget_X0_changeBudget : GoodIn wsX4_setBudget (wsV RX4 62 RX0 yX0_changeBudget wsX0_changeBudget) := goodIn_app (goodIn_of _ (by decide +kernel)) ggX4_setBudget_X0_changeBudget
set_option maxRecDepth 20000 in
theorem ggX4_setBudget_X4_recorded : GoodIn wsX4_setBudget wsX4_recorded := goodIn_r _ [39, 40, 1, 41, 42, 43, 44, 45, 46, 47, 48, 25, 26, 27, 49, 50, 51, 52, 53, 54, 4, 5, 6, 7, 8, 9, 10, 11, 12, 13, 14, 15, 16, 17, 18, 19, 20, 21, 22, 23, 24, 28, 29, 30, 31, 55, 56, 57, 58, 59, 60, 74, 75, 76, 61, 62, 63, 64, 65, 66, 67, 68, 69, 70, 71, 72, 73] (by decide +kernel) (by decide +kernel)
set_option maxRecDepth 20000 in
theorem gX4_setBudget_X4_recorded : GoodIn wsX4_setBudget (wsV RX4 51 RX4 yX4_recorded wsX4_recorded) := goodIn_app (goodIn_of _ (by decide +kernel)) ggX4_setBudget_X4_recorded
theorem dX4_setBudget_0 : decode cX4_setBudget 0 = .ok (.aload_n 0, 1) := by decide +kernel
theorem dX4_setBudget_1 : decode cX4_setBudget 1 = .ok (.getfield 16, 3) := by decide +kernel
theorem dX4_setBudget_4 : decode cX4_setBudget 4 = .ok (.aload_n 0, 1) := by decide +kernel
theorem dX4_setBudget_5 : decode cX4_setBudget 5 = .ok (.getfield 10, 3) := by decide +kernel
theorem dX4_setBudget_8 : decode cX4_setBudget 8 = .ok (.invokevirtual 43, 3) := by decide +kernel
theorem dX4_setBudget_11 : decode cX4_setBudget 11 = .ok (.aload_n 0, 1) := by decide +kernel
theorem dX4_setBudget_12 : decode cX4_setBudget 12 = .ok (.aload_n 0, 1) := by decide +kernel
theorem dX4_setBudget_13 : decode cX4_setBudget 13 = .ok (.getfield 10, 3) := by decide +kernel
theorem dX4_setBudget_16 : decode cX4_setBudget 16 = .ok (.iload_n 1, 1) := by decide +kernel
theorem dX4_setBudget_17 : decode cX4_setBudget 17 = .ok (.invokevirtual 62, 3) := by decide +kernel
theorem dX4_setBudget_20 : decode cX4_setBudget 20 = .ok (.invokevirtual 51, 3) := by decide +kernel
theorem dX4_setBudget_23 : decode cX4_setBudget 23 = .ok (.ireturn, 1) := by decide +kernel
set_option maxRecDepth 20000 in
theorem ggX4_setFactor_X0_copyFrom : GoodIn wsX4_setFactor wsX0_copyFrom := goodIn_r _ [7, 8, 9, 10, 11, 12, 13, 14, 15, 16, 17, 18, 19, 20, 21, 22, 23, 24, 25, 26, 27, 28, 29, 30, 31, 74, 75, 76, 77, 78, 79, 80, 81, 82, 83, 84, 85, 86] (by decide +kernel) (by decide +kernel)
set_option maxRecDepth 20000 in
theorem gX4_setFactor_X0_copyFrom : GoodIn wsX4_setFactor (wsV RX4 43 RX0 yX0_copyFrom wsX0_copyFrom) := goodIn_app (goodIn_of _ (by decide +kernel)) ggX4_setFactor_X0_copyFrom
set_option maxRecDepth 20000 in
theorem ggX4_setFactor_X0_changeFactor : GoodIn wsX4_setFactor wsX0_changeFactor := goodIn_r _ [35, 19, 36, 37, 38, 6, 39, 40, 41, 42, 43, 16, 10, 8, 44, 45, 26, 46, 15, 17, 47, 22, 48, 74, 75, 76, 77, 78, 79, 80, 81, 82, 83, 84, 85, 86] (by decide +kernel) (by decide +kernel)
set_option maxRecDepth 20000 in
theorem gX4_setFactor_X0_changeFactor : GoodIn wsX4_setFactor (wsV RX4 65 RX0 yX0_changeFactor wsX0_changeFactor) := goodIn_app (goodIn_of _ (by decide +kernel)) ggX4_setFactor_X0_changeFactor
set_option maxRecDepth 20000 in
theorem ggX4_setFactor_X4_recorded : GoodIn wsX4_setFactor wsX4_recorded := goodIn_r _ [52, 53, 1, 54, 55, 56, 57, 58, 59, 60, 61, 25, 26, 27, 62, 63, 64, 65, 66, 67, 4, 5, 6, 7, 8, 9, 10, 11, 12, 13, 14, 15, 16, 17, 18, 19, 20, 21, 22, 23, 24, 28, 29, 30, 31, 68, 69, 70, 71, 72, 73, 87, 88, 89, 74, 75, 76, 77, 78, 79, 80, 81, 82, 83, 84, 85, 86] (by decide +kernel) (by decide +kernel)
set_option maxRecDepth 20000 in
theorem gX4_setFactor_X4_recorded : GoodIn wsX4_setFactor (wsV RX4 51 RX4 yX4_recorded wsX4_recorded) := goodIn_app (goodIn_of _ (by decide +kernel)) ggX4_setFactor_X4_recorded
theorem dX4_setFactor_0 : decode cX4_setFactor 0 = .ok (.aload_n 0, 1) := by decide +kernel
theorem dX4_setFactor_1 : decode cX4_setFactor 1 = .ok (.getfield 16, 3) := by decide +kernel
theorem dX4_setFactor_4 : decode cX4_setFactor 4 = .ok (.aload_n 0, 1) := by decide +kernel
theorem dX4_setFactor_5 : decode cX4_setFactor 5 = .ok (.getfield 10, 3) := by decide +kernel
theorem dX4_setFactor_8 : decode cX4_setFactor 8 = .ok (.invokevirtual 43, 3) := by decide +kernel
theorem dX4_setFactor_11 : decode cX4_setFactor 11 = .ok (.aload_n 0, 1) := by decide +kernel
theorem dX4_setFactor_12 : decode cX4_setFactor 12 = .ok (.aload_n 0, 1) := by decide +kernel
theorem dX4_setFactor_13 : decode cX4_setFactor 13 = .ok (.getfield 10, 3) := by decide +kernel
theorem dX4_setFactor_16 : decode cX4_setFactor 16 = .ok (.iload_n 1, 1) := by decide +kernel
theorem dX4_setFactor_17 : decode cX4_setFactor 17 = .ok (.invokevirtual 65, 3) := by decide +kernel
theorem dX4_setFactor_20 : decode cX4_setFactor 20 = .ok (.invokevirtual 51, 3) := by decide +kernel
theorem dX4_setFactor_23 : decode cX4_setFactor 23 = .ok (.ireturn, 1) := by decide +kernel
set_option maxRecDepth 20000 in
theorem ggX4_move_X0_copyFrom : GoodIn wsX4_move wsX0_copyFrom := goodIn_r _ [7, 8, 9, 10, 11, 12, 13, 14, 15, 16, 17, 18, 19, 20, 21, 22, 23, 24, 25, 26, 27, 28, 29, 30, 31, 97, 98, 99, 100, 101, 102, 103, 104, 105, 106, 107, 108, 109] (by decide +kernel) (by decide +kernel)
set_option maxRecDepth 20000 in
theorem gX4_move_X0_copyFrom : GoodIn wsX4_move (wsV RX4 43 RX0 yX0_copyFrom wsX0_copyFrom) := goodIn_app (goodIn_of _ (by decide +kernel)) ggX4_move_X0_copyFrom
set_option maxRecDepth 20000 in
theorem ggX4_move_X0_moveJob : GoodIn wsX4_move wsX0_moveJob := goodIn_r _ [35, 10, 9, 18, 36, 37, 38, 6, 39, 16, 40, 41, 42, 43, 14, 44, 45, 46, 47, 48, 22, 49, 50, 51, 52, 53, 13, 54, 55, 56, 57, 8, 11, 20, 58, 59, 60, 61, 12, 62, 63, 64, 65, 66, 67, 68, 69, 70, 71, 97, 98, 99, 100, 101, 102, 103, 104, 105, 106, 107, 108, 109] (by decide +kernel) (by decide +kernel)
set_option maxRecDepth 20000 in
theorem gX4_move_X0_moveJob : GoodIn wsX4_move (wsV RX4 68 RX0 yX0_moveJob wsX0_moveJob) := goodIn_app (goodIn_of _ (by decide +kernel)) ggX4_move_X0_moveJob
set_option maxRecDepth 20000 in
theorem ggX4_move_X4_recorded : GoodIn wsX4_move wsX4_recorded := goodIn_r _ [75, 76, 1, 77, 78, 79, 80, 81, 82, 83, 84, 25, 26, 27, 85, 86, 87, 88, 89, 90, 4, 5, 6, 7, 8, 9, 10, 11, 12, 13, 14, 15, 16, 17, 18, 19, 20, 21, 22, 23, 24, 28, 29, 30, 31, 91, 92, 93, 94, 95, 96, 110, 111, 112, 97, 98, 99, 100, 101, 102, 103, 104, 105, 106, 107, 108, 109] (by decide +kernel) (by decide +kernel)
set_option maxRecDepth 20000 in
theorem gX4_move_X4_recorded : GoodIn wsX4_move (wsV RX4 51 RX4 yX4_recorded wsX4_recorded) := goodIn_app (goodIn_of _ (by decide +kernel)) ggX4_move_X4_recorded
theorem dX4_move_0 : decode cX4_move 0 = .ok (.aload_n 0, 1) := by decide +kernel
theorem dX4_move_1 : decode cX4_move 1 = .ok (.getfield 16, 3) := by decide +kernel
theorem dX4_move_4 : decode cX4_move 4 = .ok (.aload_n 0, 1) := by decide +kernel
theorem dX4_move_5 : decode cX4_move 5 = .ok (.getfield 10, 3) := by decide +kernel
theorem dX4_move_8 : decode cX4_move 8 = .ok (.invokevirtual 43, 3) := by decide +kernel
theorem dX4_move_11 : decode cX4_move 11 = .ok (.aload_n 0, 1) := by decide +kernel
theorem dX4_move_12 : decode cX4_move 12 = .ok (.aload_n 0, 1) := by decide +kernel
theorem dX4_move_13 : decode cX4_move 13 = .ok (.getfield 10, 3) := by decide +kernel
theorem dX4_move_16 : decode cX4_move 16 = .ok (.iload_n 1, 1) := by decide +kernel
theorem dX4_move_17 : decode cX4_move 17 = .ok (.iload_n 2, 1) := by decide +kernel
theorem dX4_move_18 : decode cX4_move 18 = .ok (.invokevirtual 68, 3) := by decide +kernel
theorem dX4_move_21 : decode cX4_move 21 = .ok (.invokevirtual 51, 3) := by decide +kernel
theorem dX4_move_24 : decode cX4_move 24 = .ok (.ireturn, 1) := by decide +kernel
set_option maxRecDepth 20000 in
theorem ggX4_exchange_X0_copyFrom : GoodIn wsX4_exchange wsX0_copyFrom := goodIn_r _ [7, 8, 9, 10, 11, 12, 13, 14, 15, 16, 17, 18, 19, 20, 21, 22, 23, 24, 25, 26, 27, 28, 29, 30, 31, 93, 94, 95, 96, 97, 98, 99, 100, 101, 102, 103, 104, 105] (by decide +kernel) (by decide +kernel)
set_option maxRecDepth 20000 in
theorem gX4_exchange_X0_copyFrom : GoodIn wsX4_exchange (wsV RX4 43 RX0 yX0_copyFrom wsX0_copyFrom) := goodIn_app (goodIn_of _ (by decide +kernel)) ggX4_exchange_X0_copyFrom
set_option maxRecDepth 20000 in
theorem ggX4_exchange_X0_exchangeJobs : GoodIn wsX4_exchange wsX0_exchangeJobs := goodIn_r _ [35, 9, 18, 10, 36, 37, 38, 6, 39, 16, 40, 41, 42, 43, 44, 45, 46, 47, 48, 22, 49, 50, 51, 52, 53, 8, 11, 20, 54, 55, 56, 57, 12, 58, 59, 60, 61, 62, 63, 64, 65, 66, 67, 14, 13, 93, 94, 95, 96, 97, 98, 99, 100, 101, 102, 103, 104, 105] (by decide +kernel) (by decide +kernel)
set_option maxRecDepth 20000 in
theorem gX4_exchange_X0_exchangeJobs : GoodIn wsX4_exchange (wsV RX4 72 RX0 yX0_exchangeJobs wsX0_exchangeJobs) := goodIn_app (goodIn_of _ (by decide +kernel)) ggX4_exchange_X0_exchangeJobs
set_option maxRecDepth 20000 in
theorem ggX4_exchange_X4_recorded : GoodIn wsX4_exchange wsX4_recorded := goodIn_r _ [71, 72, 1, 73, 74, 75, 76, 77, 78, 79, 80, 25, 26, 27, 81, 82, 83, 84, 85, 86, 4, 5, 6, 7, 8, 9, 10, 11, 12, 13, 14, 15, 16, 17, 18, 19, 20, 21, 22, 23, 24, 28, 29, 30, 31, 87, 88, 89, 90, 91, 92, 106, 107, 108, 93, 94, 95, 96, 97, 98, 99, 100, 101, 102, 103, 104, 105] (by decide +kernel) (by decide +kernel)
set_option maxRecDepth 20000 in
theorem gX4_exchange_X4_recorded : GoodIn wsX4_exchange (wsV RX4 51 RX4 yX4_recorded wsX4_recorded) := goodIn_app (goodIn_of _ (by decide +kernel)) ggX4_exchange_X4_recorded
theorem dX4_exchange_0 : decode cX4_exchange 0 = .ok (.aload_n 0, 1) := by decide +kernel
theorem dX4_exchange_1 : decode cX4_exchange 1 = .ok (.getfield 16, 3) := by decide +kernel
theorem dX4_exchange_4 : decode cX4_exchange 4 = .ok (.aload_n 0, 1) := by decide +kernel
theorem dX4_exchange_5 : decode cX4_exchange 5 = .ok (.getfield 10, 3) := by decide +kernel
theorem dX4_exchange_8 : decode cX4_exchange 8 = .ok (.invokevirtual 43, 3) := by decide +kernel
theorem dX4_exchange_11 : decode cX4_exchange 11 = .ok (.aload_n 0, 1) := by decide +kernel
theorem dX4_exchange_12 : decode cX4_exchange 12 = .ok (.aload_n 0, 1) := by decide +kernel
theorem dX4_exchange_13 : decode cX4_exchange 13 = .ok (.getfield 10, 3) := by decide +kernel
theorem dX4_exchange_16 : decode cX4_exchange 16 = .ok (.iload_n 1, 1) := by decide +kernel
theorem dX4_exchange_17 : decode cX4_exchange 17 = .ok (.iload_n 2, 1) := by decide +kernel
theorem dX4_exchange_18 : decode cX4_exchange 18 = .ok (.invokevirtual 72, 3) := by decide +kernel
theorem dX4_exchange_21 : decode cX4_exchange 21 = .ok (.invokevirtual 51, 3) := by decide +kernel
theorem dX4_exchange_24 : decode cX4_exchange 24 = .ok (.ireturn, 1) := by decide +kernel
set_option maxRecDepth 20000 in
theorem ggX4_ring_X0_copyFrom : GoodIn wsX4_ring wsX0_copyFrom := goodIn_r _ [7, 8, 9, 10, 11, 12, 13, 14, 15, 16, 17, 18, 19, 20, 21, 22, 23, 24, 25, 26, 27, 28, 29, 30, 31, 93, 94, 95, 96, 97, 98, 99, 100, 101, 102, 103, 104, 105] (by decide +kernel) (by decide +kernel)
set_option maxRecDepth 20000 in
theorem gX4_ring_X0_copyFrom : GoodIn wsX4_ring (wsV RX4 43 RX0 yX0_copyFrom wsX0_copyFrom) := goodIn_app (goodIn_of _ (by decide +kernel)) ggX4_ring_X0_copyFrom
set_option maxRecDepth 20000 in
theorem ggX4_ring_X0_moveRing : GoodIn wsX4_ring wsX0_moveRing := goodIn_r _ [35, 9, 18, 10, 36, 37, 38, 6, 39, 16, 40, 41, 42, 43, 44, 45, 46, 47, 48, 22, 49, 50, 51, 52, 53, 8, 11, 20, 54, 55, 56, 57, 12, 58, 59, 60, 61, 62, 63, 64, 65, 66, 67, 14, 13, 93, 94, 95, 96, 97, 98, 99, 100, 101, 102, 103, 104, 105] (by decide +kernel) (by decide +kernel)
set_option maxRecDepth 20000 in
theorem gX4_ring_X0_moveRing : GoodIn wsX4_ring (wsV RX4 75 RX0 yX0_moveRing wsX0_moveRing) := goodIn_app (goodIn_of _ (by decide +kernel)) ggX4_ring_X0_moveRing
set_option maxRecDepth 20000 in
theorem ggX4_ring_X4_recorded : GoodIn wsX4_ring wsX4_recorded := goodIn_r _ [71, 72, 1, 73, 74, 75, 76, 77, 78, 79, 80, 25, 26, 27, 81, 82, 83, 84, 85, 86, 4, 5, 6, 7, 8, 9, 10, 11, 12, 13, 14, 15, 16, 17, 18, 19, 20, 21, 22, 23, 24, 28, 29, 30, 31, 87, 88, 89, 90, 91, 92, 106, 107, 108, 93, 94, 95, 96, 97, 98, 99, 100, 101, 102, 103, 104, 105] (by decide +kernel) (by decide +kernel)
set_option maxRecDepth 20000 in
theorem gX4_ring_X4_recorded : GoodIn wsX4_ring (wsV RX4 51 RX4 yX4_recorded wsX4_recorded) := goodIn_app (goodIn_of _ (by decide +kernel)) ggX4_ring_X4_recorded
theorem dX4_ring_0 : decode cX4_ring 0 = .ok (.aload_n 0, 1) := by decide +kernel
theorem dX4_ring_1 : decode cX4_ring 1 = .ok (.getfield 16, 3) := by decide +kernel
theorem dX4_ring_4 : decode cX4_ring 4 = .ok (.aload_n 0, 1) := by decide +kernel
theorem dX4_ring_5 : decode cX4_ring 5 = .ok (.getfield 10, 3) := by decide +kernel
theorem dX4_ring_8 : decode cX4_ring 8 = .ok (.invokevirtual 43, 3) := by decide +kernel
theorem dX4_ring_11 : decode cX4_ring 11 = .ok (.aload_n 0, 1) := by decide +kernel
theorem dX4_ring_12 : decode cX4_ring 12 = .ok (.aload_n 0, 1) := by decide +kernel
theorem dX4_ring_13 : decode cX4_ring 13 = .ok (.getfield 10, 3) := by decide +kernel
theorem dX4_ring_16 : decode cX4_ring 16 = .ok (.iload_n 1, 1) := by decide +kernel
theorem dX4_ring_17 : decode cX4_ring 17 = .ok (.iload_n 2, 1) := by decide +kernel
theorem dX4_ring_18 : decode cX4_ring 18 = .ok (.iload_n 3, 1) := by decide +kernel
theorem dX4_ring_19 : decode cX4_ring 19 = .ok (.invokevirtual 75, 3) := by decide +kernel
theorem dX4_ring_22 : decode cX4_ring 22 = .ok (.invokevirtual 51, 3) := by decide +kernel
theorem dX4_ring_25 : decode cX4_ring 25 = .ok (.ireturn, 1) := by decide +kernel
set_option maxRecDepth 20000 in
theorem ggX4_even_X0_copyFrom : GoodIn wsX4_even wsX0_copyFrom := goodIn_r _ [8, 9, 10, 11, 12, 13, 14, 15, 16, 17, 18, 19, 20, 21, 22, 23, 24, 25, 26, 27, 28, 29, 30, 31, 32, 120, 121, 122, 123, 124, 125, 126, 127, 128, 129, 130, 131, 132] (by decide +kernel) (by decide +kernel)
set_option maxRecDepth 20000 in
theorem gX4_even_X0_copyFrom : GoodIn wsX4_even (wsV RX4 43 RX0 yX0_copyFrom wsX0_copyFrom) := goodIn_app (goodIn_of _ (by decide +kernel)) ggX4_even_X0_copyFrom
set_option maxRecDepth 20000 in
theorem ggX4_even_X3_walk : GoodIn wsX4_even wsX3_walk := goodIn_r _ [37, 38, 39, 40, 41, 42, 43, 7, 44, 20, 45, 46, 47, 48, 17, 11, 9, 49, 50, 27, 51, 16, 18, 52, 23, 53, 54, 55, 56, 36, 57, 58, 59, 60, 61, 15, 13, 14, 62, 63, 64, 65, 66, 67, 68, 69, 70, 71, 72, 73, 74, 75, 76, 77, 78, 79, 80, 81, 82, 83, 84, 85, 86, 87, 88, 12, 21, 19, 10, 89, 90, 91, 92, 93, 94, 120, 121, 122, 123, 124, 125, 126, 127, 128, 129, 130, 131, 132, 133, 134, 135, 136, 137] (by decide +kernel) (by decide +kernel)
set_option maxRecDepth 20000 in
theorem gX4_even_X3_walk : GoodIn wsX4_even (wsV RX4 78 RX3 yX3_walk wsX3_walk) := goodIn_app (goodIn_of _ (by decide +kernel)) ggX4_even_X3_walk
set_option maxRecDepth 20000 in
theorem ggX4_even_X4_recorded : GoodIn wsX4_even wsX4_recorded := goodIn_r _ [98, 99, 1, 100, 101, 102, 103, 104, 105, 106, 107, 26, 27, 28, 108, 109, 110, 111, 112, 113, 5, 6, 7, 8, 9, 10, 11, 12, 13, 14, 15, 16, 17, 18, 19, 20, 21, 22, 23, 24, 25, 29, 30, 31, 32, 114, 115, 116, 117, 118, 119, 138, 139, 140, 120, 121, 122, 123, 124, 125, 126, 127, 128, 129, 130, 131, 132] (by decide +kernel) (by decide +kernel)
set_option maxRecDepth 20000 in
theorem gX4_even_X4_recorded : GoodIn wsX4_even (wsV RX4 51 RX4 yX4_recorded wsX4_recorded) := goodIn_app (goodIn_of _ (by decide +kernel)) ggX4_even_X4_recorded
theorem dX4_even_0 : decode cX4_even 0 = .ok (.aload_n 0, 1) := by decide +kernel
theorem dX4_even_1 : decode cX4_even 1 = .ok (.getfield 16, 3) := by decide +kernel
theorem dX4_even_4 : decode cX4_even 4 = .ok (.aload_n 0, 1) := by decide +kernel
theorem dX4_even_5 : decode cX4_even 5 = .ok (.getfield 10, 3) := by decide +kernel
theorem dX4_even_8 : decode cX4_even 8 = .ok (.invokevirtual 43, 3) := by decide +kernel
theorem dX4_even_11 : decode cX4_even 11 = .ok (.aload_n 0, 1) := by decide +kernel
theorem dX4_even_12 : decode cX4_even 12 = .ok (.aload_n 0, 1) := by decide +kernel
theorem dX4_even_13 : decode cX4_even 13 = .ok (.getfield 32, 3) := by decide +kernel
theorem dX4_even_16 : decode cX4_even 16 = .ok (.aload_n 0, 1) := by decide +kernel
theorem dX4_even_17 : decode cX4_even 17 = .ok (.getfield 10, 3) := by decide +kernel
theorem dX4_even_20 : decode cX4_even 20 = .ok (.iload_n 1, 1) := by decide +kernel
theorem dX4_even_21 : decode cX4_even 21 = .ok (.invokevirtual 78, 3) := by decide +kernel
theorem dX4_even_24 : decode cX4_even 24 = .ok (.invokevirtual 51, 3) := by decide +kernel
theorem dX4_even_27 : decode cX4_even 27 = .ok (.ireturn, 1) := by decide +kernel
set_option maxRecDepth 20000 in
theorem ggX4_close_X0_copyFrom : GoodIn wsX4_close wsX0_copyFrom := goodIn_r _ [7, 8, 9, 10, 11, 12, 13, 14, 15, 16, 17, 18, 19, 20, 21, 22, 23, 24, 25, 26, 27, 28, 29, 30, 31, 116, 117, 118, 119, 120, 121, 122, 123, 124, 125, 126, 127, 128] (by decide +kernel) (by decide +kernel)
set_option maxRecDepth 20000 in
theorem gX4_close_X0_copyFrom : GoodIn wsX4_close (wsV RX4 43 RX0 yX0_copyFrom wsX0_copyFrom) := goodIn_app (goodIn_of _ (by decide +kernel)) ggX4_close_X0_copyFrom
set_option maxRecDepth 20000 in
theorem ggX4_close_X0_closeServer : GoodIn wsX4_close wsX0_closeServer := goodIn_r _ [35, 15, 18, 36, 37, 38, 6, 39, 14, 40, 41, 42, 43, 13, 44, 22, 45, 46, 47, 48, 49, 16, 10, 9, 50, 51, 52, 53, 54, 55, 56, 57, 58, 59, 60, 61, 62, 63, 64, 65, 66, 67, 68, 69, 70, 71, 72, 73, 74, 75, 76, 77, 78, 8, 79, 80, 81, 82, 12, 83, 84, 85, 86, 11, 20, 87, 88, 89, 90, 116, 117, 118, 119, 120, 121, 122, 123, 124, 125, 126, 127, 128] (by decide +kernel) (by decide +kernel)
set_option maxRecDepth 20000 in
theorem gX4_close_X0_closeServer : GoodIn wsX4_close (wsV RX4 82 RX0 yX0_closeServer wsX0_closeServer) := goodIn_app (goodIn_of _ (by decide +kernel)) ggX4_close_X0_closeServer
set_option maxRecDepth 20000 in
theorem ggX4_close_X4_recorded : GoodIn wsX4_close wsX4_recorded := goodIn_r _ [94, 95, 1, 96, 97, 98, 99, 100, 101, 102, 103, 25, 26, 27, 104, 105, 106, 107, 108, 109, 4, 5, 6, 7, 8, 9, 10, 11, 12, 13, 14, 15, 16, 17, 18, 19, 20, 21, 22, 23, 24, 28, 29, 30, 31, 110, 111, 112, 113, 114, 115, 129, 130, 131, 116, 117, 118, 119, 120, 121, 122, 123, 124, 125, 126, 127, 128] (by decide +kernel) (by decide +kernel)
set_option maxRecDepth 20000 in
theorem gX4_close_X4_recorded : GoodIn wsX4_close (wsV RX4 51 RX4 yX4_recorded wsX4_recorded) := goodIn_app (goodIn_of _ (by decide +kernel)) ggX4_close_X4_recorded
theorem dX4_close_0 : decode cX4_close 0 = .ok (.aload_n 0, 1) := by decide +kernel
theorem dX4_close_1 : decode cX4_close 1 = .ok (.getfield 16, 3) := by decide +kernel
theorem dX4_close_4 : decode cX4_close 4 = .ok (.aload_n 0, 1) := by decide +kernel
theorem dX4_close_5 : decode cX4_close 5 = .ok (.getfield 10, 3) := by decide +kernel
theorem dX4_close_8 : decode cX4_close 8 = .ok (.invokevirtual 43, 3) := by decide +kernel
theorem dX4_close_11 : decode cX4_close 11 = .ok (.aload_n 0, 1) := by decide +kernel
theorem dX4_close_12 : decode cX4_close 12 = .ok (.aload_n 0, 1) := by decide +kernel
theorem dX4_close_13 : decode cX4_close 13 = .ok (.getfield 10, 3) := by decide +kernel
theorem dX4_close_16 : decode cX4_close 16 = .ok (.iload_n 1, 1) := by decide +kernel
theorem dX4_close_17 : decode cX4_close 17 = .ok (.invokevirtual 82, 3) := by decide +kernel
theorem dX4_close_20 : decode cX4_close 20 = .ok (.invokevirtual 51, 3) := by decide +kernel
theorem dX4_close_23 : decode cX4_close 23 = .ok (.ireturn, 1) := by decide +kernel
set_option maxRecDepth 20000 in
theorem ggX4_open_X0_copyFrom : GoodIn wsX4_open wsX0_copyFrom := goodIn_r _ [7, 8, 9, 10, 11, 12, 13, 14, 15, 16, 17, 18, 19, 20, 21, 22, 23, 24, 25, 26, 27, 28, 29, 30, 31, 73, 74, 75, 76, 77, 78, 79, 80, 81, 82, 83, 84, 85] (by decide +kernel) (by decide +kernel)
set_option maxRecDepth 20000 in
theorem gX4_open_X0_copyFrom : GoodIn wsX4_open (wsV RX4 43 RX0 yX0_copyFrom wsX0_copyFrom) := goodIn_app (goodIn_of _ (by decide +kernel)) ggX4_open_X0_copyFrom
set_option maxRecDepth 20000 in
theorem ggX4_open_X0_openServer : GoodIn wsX4_open wsX0_openServer := goodIn_r _ [35, 13, 15, 36, 37, 38, 6, 39, 14, 40, 41, 42, 43, 44, 22, 45, 46, 47, 73, 74, 75, 76, 77, 78, 79, 80, 81, 82, 83, 84, 85] (by decide +kernel) (by decide +kernel)
set_option maxRecDepth 20000 in
theorem gX4_open_X0_openServer : GoodIn wsX4_open (wsV RX4 85 RX0 yX0_openServer wsX0_openServer) := goodIn_app (goodIn_of _ (by decide +kernel)) ggX4_open_X0_openServer
set_option maxRecDepth 20000 in
theorem ggX4_open_X4_recorded : GoodIn wsX4_open wsX4_recorded := goodIn_r _ [51, 52, 1, 53, 54, 55, 56, 57, 58, 59, 60, 25, 26, 27, 61, 62, 63, 64, 65, 66, 4, 5, 6, 7, 8, 9, 10, 11, 12, 13, 14, 15, 16, 17, 18, 19, 20, 21, 22, 23, 24, 28, 29, 30, 31, 67, 68, 69, 70, 71, 72, 86, 87, 88, 73, 74, 75, 76, 77, 78, 79, 80, 81, 82, 83, 84, 85] (by decide +kernel) (by decide +kernel)
set_option maxRecDepth 20000 in
theorem gX4_open_X4_recorded : GoodIn wsX4_open (wsV RX4 51 RX4 yX4_recorded wsX4_recorded) := goodIn_app (goodIn_of _ (by decide +kernel)) ggX4_open_X4_recorded
theorem dX4_open_0 : decode cX4_open 0 = .ok (.aload_n 0, 1) := by decide +kernel
theorem dX4_open_1 : decode cX4_open 1 = .ok (.getfield 16, 3) := by decide +kernel
theorem dX4_open_4 : decode cX4_open 4 = .ok (.aload_n 0, 1) := by decide +kernel
