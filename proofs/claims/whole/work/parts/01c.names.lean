theorem dX2_readLetter_20 : decode cX2_readLetter 20 = .ok (.iconst 0, 1) := by decide +kernel
theorem dX2_readLetter_21 : decode cX2_readLetter 21 = .ok (.putfield 32, 3) := by decide +kernel
theorem dX2_readLetter_24 : decode cX2_readLetter 24 = .ok (.aload_n 0, 1) := by decide +kernel
theorem dX2_readLetter_25 : decode cX2_readLetter 25 = .ok (.iconst 0, 1) := by decide +kernel
theorem dX2_readLetter_26 : decode cX2_readLetter 26 = .ok (.putfield 35, 3) := by decide +kernel
theorem dX2_readLetter_29 : decode cX2_readLetter 29 = .ok (.iconst 1, 1) := by decide +kernel
theorem dX2_readLetter_30 : decode cX2_readLetter 30 = .ok (.ireturn, 1) := by decide +kernel
set_option maxRecDepth 20000 in
theorem ggX2_readDigit_X2_beginNumber : GoodIn wsX2_readDigit wsX2_beginNumber := goodIn_r _ [8, 3, 9, 2, 1, 10, 11, 7, 12, 13, 14, 15, 18, 19, 20, 21, 22, 23, 24, 25] (by decide +kernel) (by decide +kernel)
set_option maxRecDepth 20000 in
theorem gX2_readDigit_X2_beginNumber : GoodIn wsX2_readDigit (wsV RX2 61 RX2 yX2_beginNumber wsX2_beginNumber) := goodIn_app (goodIn_of _ (by decide +kernel)) ggX2_readDigit_X2_beginNumber
set_option maxRecDepth 20000 in
theorem ggX2_readDigit_X4_at : GoodIn wsX2_readDigit wsX4_at := goodIn_r _ [17] (by decide +kernel) (by decide +kernel)
set_option maxRecDepth 20000 in
theorem gX2_readDigit_X4_at_n42 : GoodIn wsX2_readDigit (wsX4_at) := ggX2_readDigit_X4_at
set_option maxRecDepth 20000 in
theorem ggX2_readDigit_X4_put : GoodIn wsX2_readDigit wsX4_put := goodIn_r _ [15] (by decide +kernel) (by decide +kernel)
set_option maxRecDepth 20000 in
theorem gX2_readDigit_X4_put_n38 : GoodIn wsX2_readDigit (wsX4_put) := ggX2_readDigit_X4_put
theorem dX2_readDigit_0 : decode cX2_readDigit 0 = .ok (.aload_n 0, 1) := by decide +kernel
theorem dX2_readDigit_1 : decode cX2_readDigit 1 = .ok (.getfield 35, 3) := by decide +kernel
theorem dX2_readDigit_4 : decode cX2_readDigit 4 = .ok (.ifCond .ne 9, 3) := by decide +kernel
theorem dX2_readDigit_7 : decode cX2_readDigit 7 = .ok (.aload_n 0, 1) := by decide +kernel
theorem dX2_readDigit_8 : decode cX2_readDigit 8 = .ok (.iload_n 1, 1) := by decide +kernel
theorem dX2_readDigit_9 : decode cX2_readDigit 9 = .ok (.invokevirtual 61, 3) := by decide +kernel
theorem dX2_readDigit_12 : decode cX2_readDigit 12 = .ok (.ireturn, 1) := by decide +kernel
theorem dX2_readDigit_13 : decode cX2_readDigit 13 = .ok (.aload_n 0, 1) := by decide +kernel
theorem dX2_readDigit_14 : decode cX2_readDigit 14 = .ok (.getfield 29, 3) := by decide +kernel
theorem dX2_readDigit_17 : decode cX2_readDigit 17 = .ok (.aload_n 0, 1) := by decide +kernel
theorem dX2_readDigit_18 : decode cX2_readDigit 18 = .ok (.getfield 32, 3) := by decide +kernel
theorem dX2_readDigit_21 : decode cX2_readDigit 21 = .ok (.iconst 1, 1) := by decide +kernel
theorem dX2_readDigit_22 : decode cX2_readDigit 22 = .ok (.isub, 1) := by decide +kernel
theorem dX2_readDigit_23 : decode cX2_readDigit 23 = .ok (.invokestatic 42, 3) := by decide +kernel
theorem dX2_readDigit_26 : decode cX2_readDigit 26 = .ok (.istore_n 2, 1) := by decide +kernel
theorem dX2_readDigit_27 : decode cX2_readDigit 27 = .ok (.aload_n 0, 1) := by decide +kernel
theorem dX2_readDigit_28 : decode cX2_readDigit 28 = .ok (.getfield 35, 3) := by decide +kernel
theorem dX2_readDigit_31 : decode cX2_readDigit 31 = .ok (.iconst 4, 1) := by decide +kernel
theorem dX2_readDigit_32 : decode cX2_readDigit 32 = .ok (.if_icmp .ge 7, 3) := by decide +kernel
theorem dX2_readDigit_35 : decode cX2_readDigit 35 = .ok (.iload_n 2, 1) := by decide +kernel
theorem dX2_readDigit_36 : decode cX2_readDigit 36 = .ok (.ifCond .ne 5, 3) := by decide +kernel
theorem dX2_readDigit_39 : decode cX2_readDigit 39 = .ok (.iconst 0, 1) := by decide +kernel
theorem dX2_readDigit_40 : decode cX2_readDigit 40 = .ok (.ireturn, 1) := by decide +kernel
theorem dX2_readDigit_41 : decode cX2_readDigit 41 = .ok (.aload_n 0, 1) := by decide +kernel
theorem dX2_readDigit_42 : decode cX2_readDigit 42 = .ok (.getfield 29, 3) := by decide +kernel
theorem dX2_readDigit_45 : decode cX2_readDigit 45 = .ok (.aload_n 0, 1) := by decide +kernel
theorem dX2_readDigit_46 : decode cX2_readDigit 46 = .ok (.getfield 32, 3) := by decide +kernel
theorem dX2_readDigit_49 : decode cX2_readDigit 49 = .ok (.iconst 1, 1) := by decide +kernel
theorem dX2_readDigit_50 : decode cX2_readDigit 50 = .ok (.isub, 1) := by decide +kernel
theorem dX2_readDigit_51 : decode cX2_readDigit 51 = .ok (.iload_n 2, 1) := by decide +kernel
theorem dX2_readDigit_52 : decode cX2_readDigit 52 = .ok (.bipush 10, 2) := by decide +kernel
theorem dX2_readDigit_54 : decode cX2_readDigit 54 = .ok (.imul, 1) := by decide +kernel
theorem dX2_readDigit_55 : decode cX2_readDigit 55 = .ok (.iload_n 1, 1) := by decide +kernel
theorem dX2_readDigit_56 : decode cX2_readDigit 56 = .ok (.iadd, 1) := by decide +kernel
theorem dX2_readDigit_57 : decode cX2_readDigit 57 = .ok (.invokestatic 38, 3) := by decide +kernel
theorem dX2_readDigit_60 : decode cX2_readDigit 60 = .ok (.aload_n 0, 1) := by decide +kernel
theorem dX2_readDigit_61 : decode cX2_readDigit 61 = .ok (.dup, 1) := by decide +kernel
theorem dX2_readDigit_62 : decode cX2_readDigit 62 = .ok (.getfield 35, 3) := by decide +kernel
theorem dX2_readDigit_65 : decode cX2_readDigit 65 = .ok (.iconst 1, 1) := by decide +kernel
theorem dX2_readDigit_66 : decode cX2_readDigit 66 = .ok (.iadd, 1) := by decide +kernel
theorem dX2_readDigit_67 : decode cX2_readDigit 67 = .ok (.putfield 35, 3) := by decide +kernel
theorem dX2_readDigit_70 : decode cX2_readDigit 70 = .ok (.iconst 1, 1) := by decide +kernel
theorem dX2_readDigit_71 : decode cX2_readDigit 71 = .ok (.ireturn, 1) := by decide +kernel
set_option maxRecDepth 20000 in
theorem ggX2_beginNumber_X2_numbersOf : GoodIn wsX2_beginNumber wsX2_numbersOf := goodIn_r _ [8] (by decide +kernel) (by decide +kernel)
set_option maxRecDepth 20000 in
theorem gX2_beginNumber_X2_numbersOf : GoodIn wsX2_beginNumber (va_wsS RX2 53 yX2_numbersOf wsX2_numbersOf) := goodIn_app (goodIn_of _ (by decide +kernel)) ggX2_beginNumber_X2_numbersOf
set_option maxRecDepth 20000 in
theorem ggX2_beginNumber_X4_put : GoodIn wsX2_beginNumber wsX4_put := goodIn_r _ [11] (by decide +kernel) (by decide +kernel)
set_option maxRecDepth 20000 in
theorem gX2_beginNumber_X4_put_n38 : GoodIn wsX2_beginNumber (wsX4_put) := ggX2_beginNumber_X4_put
theorem dX2_beginNumber_0 : decode cX2_beginNumber 0 = .ok (.aload_n 0, 1) := by decide +kernel
theorem dX2_beginNumber_1 : decode cX2_beginNumber 1 = .ok (.getfield 32, 3) := by decide +kernel
theorem dX2_beginNumber_4 : decode cX2_beginNumber 4 = .ok (.aload_n 0, 1) := by decide +kernel
theorem dX2_beginNumber_5 : decode cX2_beginNumber 5 = .ok (.getfield 19, 3) := by decide +kernel
theorem dX2_beginNumber_8 : decode cX2_beginNumber 8 = .ok (.invokestatic 53, 3) := by decide +kernel
theorem dX2_beginNumber_11 : decode cX2_beginNumber 11 = .ok (.if_icmp .lt 5, 3) := by decide +kernel
theorem dX2_beginNumber_14 : decode cX2_beginNumber 14 = .ok (.iconst 0, 1) := by decide +kernel
theorem dX2_beginNumber_15 : decode cX2_beginNumber 15 = .ok (.ireturn, 1) := by decide +kernel
theorem dX2_beginNumber_16 : decode cX2_beginNumber 16 = .ok (.aload_n 0, 1) := by decide +kernel
theorem dX2_beginNumber_17 : decode cX2_beginNumber 17 = .ok (.getfield 29, 3) := by decide +kernel
theorem dX2_beginNumber_20 : decode cX2_beginNumber 20 = .ok (.aload_n 0, 1) := by decide +kernel
theorem dX2_beginNumber_21 : decode cX2_beginNumber 21 = .ok (.getfield 32, 3) := by decide +kernel
theorem dX2_beginNumber_24 : decode cX2_beginNumber 24 = .ok (.iload_n 1, 1) := by decide +kernel
theorem dX2_beginNumber_25 : decode cX2_beginNumber 25 = .ok (.invokestatic 38, 3) := by decide +kernel
theorem dX2_beginNumber_28 : decode cX2_beginNumber 28 = .ok (.aload_n 0, 1) := by decide +kernel
theorem dX2_beginNumber_29 : decode cX2_beginNumber 29 = .ok (.dup, 1) := by decide +kernel
theorem dX2_beginNumber_30 : decode cX2_beginNumber 30 = .ok (.getfield 32, 3) := by decide +kernel
theorem dX2_beginNumber_33 : decode cX2_beginNumber 33 = .ok (.iconst 1, 1) := by decide +kernel
theorem dX2_beginNumber_34 : decode cX2_beginNumber 34 = .ok (.iadd, 1) := by decide +kernel
theorem dX2_beginNumber_35 : decode cX2_beginNumber 35 = .ok (.putfield 32, 3) := by decide +kernel
theorem dX2_beginNumber_38 : decode cX2_beginNumber 38 = .ok (.aload_n 0, 1) := by decide +kernel
theorem dX2_beginNumber_39 : decode cX2_beginNumber 39 = .ok (.iconst 1, 1) := by decide +kernel
theorem dX2_beginNumber_40 : decode cX2_beginNumber 40 = .ok (.putfield 35, 3) := by decide +kernel
theorem dX2_beginNumber_43 : decode cX2_beginNumber 43 = .ok (.iconst 1, 1) := by decide +kernel
theorem dX2_beginNumber_44 : decode cX2_beginNumber 44 = .ok (.ireturn, 1) := by decide +kernel
theorem dX2_numbersOf_0 : decode cX2_numbersOf 0 = .ok (.iload_n 0, 1) := by decide +kernel
theorem dX2_numbersOf_1 : decode cX2_numbersOf 1 = .ok (.tableswitch 97 102 120 #[91, 97, 97, 97, 95, 97, 97, 93, 97, 97, 91, 97, 95, 97, 97, 97, 97, 97, 93], 91) := by decide +kernel
theorem dX2_numbersOf_92 : decode cX2_numbersOf 92 = .ok (.iconst 1, 1) := by decide +kernel
theorem dX2_numbersOf_93 : decode cX2_numbersOf 93 = .ok (.ireturn, 1) := by decide +kernel
theorem dX2_numbersOf_94 : decode cX2_numbersOf 94 = .ok (.iconst 2, 1) := by decide +kernel
theorem dX2_numbersOf_95 : decode cX2_numbersOf 95 = .ok (.ireturn, 1) := by decide +kernel
theorem dX2_numbersOf_96 : decode cX2_numbersOf 96 = .ok (.iconst 3, 1) := by decide +kernel
theorem dX2_numbersOf_97 : decode cX2_numbersOf 97 = .ok (.ireturn, 1) := by decide +kernel
theorem dX2_numbersOf_98 : decode cX2_numbersOf 98 = .ok (.iconst 0, 1) := by decide +kernel
theorem dX2_numbersOf_99 : decode cX2_numbersOf 99 = .ok (.ireturn, 1) := by decide +kernel
theorem dX3_init_0 : decode cX3_init 0 = .ok (.aload_n 0, 1) := by decide +kernel
theorem dX3_init_1 : decode cX3_init 1 = .ok (.invokespecial 3, 3) := by decide +kernel
theorem dX3_init_4 : decode cX3_init 4 = .ok (.aload_n 0, 1) := by decide +kernel
theorem dX3_init_5 : decode cX3_init 5 = .ok (.bipush (-9), 2) := by decide +kernel
theorem dX3_init_7 : decode cX3_init 7 = .ok (.putfield 9, 3) := by decide +kernel
theorem dX3_init_10 : decode cX3_init 10 = .ok (.aload_n 0, 1) := by decide +kernel
theorem dX3_init_11 : decode cX3_init 11 = .ok (.bipush (-9), 2) := by decide +kernel
theorem dX3_init_13 : decode cX3_init 13 = .ok (.putfield 15, 3) := by decide +kernel
theorem dX3_init_16 : decode cX3_init 16 = .ok (.aload_n 0, 1) := by decide +kernel
theorem dX3_init_17 : decode cX3_init 17 = .ok (.bipush (-9), 2) := by decide +kernel
theorem dX3_init_19 : decode cX3_init 19 = .ok (.putfield 18, 3) := by decide +kernel
theorem dX3_init_22 : decode cX3_init 22 = .ok (.aload_n 0, 1) := by decide +kernel
theorem dX3_init_23 : decode cX3_init 23 = .ok (.iconst 0, 1) := by decide +kernel
theorem dX3_init_24 : decode cX3_init 24 = .ok (.putfield 21, 3) := by decide +kernel
theorem dX3_init_27 : decode cX3_init 27 = .ok (.aload_n 0, 1) := by decide +kernel
theorem dX3_init_28 : decode cX3_init 28 = .ok (.iconst 0, 1) := by decide +kernel
theorem dX3_init_29 : decode cX3_init 29 = .ok (.putfield 24, 3) := by decide +kernel
theorem dX3_init_32 : decode cX3_init 32 = .ok (.return_, 1) := by decide +kernel
set_option maxRecDepth 20000 in
theorem ggX3_walk_X0_target : GoodIn wsX3_walk wsX0_target := goodIn_r _ [8, 9, 10, 11, 12, 7, 13, 14, 15, 16, 17, 18, 19, 20, 21, 22, 23, 24, 25, 75, 76, 77, 78, 79, 80, 81, 82, 83, 84, 85, 86, 87] (by decide +kernel) (by decide +kernel)
set_option maxRecDepth 20000 in
theorem gX3_walk_X0_target : GoodIn wsX3_walk (wsV RX3 27 RX0 yX0_target wsX0_target) := goodIn_app (goodIn_of _ (by decide +kernel)) ggX3_walk_X0_target
set_option maxRecDepth 20000 in
theorem ggX3_walk_X3_choose : GoodIn wsX3_walk wsX3_choose := goodIn_r _ [30, 31, 32, 33, 7, 34, 35, 36, 37, 23, 24, 25, 38, 39, 40, 29, 41, 42, 18, 19, 20, 43, 44, 45, 46, 1, 47, 48, 49, 50, 51, 52, 2, 3, 53, 54, 55, 56, 57, 58, 59, 60, 75, 76, 77, 78, 79, 80, 81, 82, 83, 84, 85, 86, 87, 88, 89, 90, 91, 92] (by decide +kernel) (by decide +kernel)
set_option maxRecDepth 20000 in
theorem gX3_walk_X3_choose : GoodIn wsX3_walk (wsV RX3 33 RX3 yX3_choose wsX3_choose) := goodIn_app (goodIn_of _ (by decide +kernel)) ggX3_walk_X3_choose
set_option maxRecDepth 20000 in
theorem ggX3_walk_X4_at : GoodIn wsX3_walk wsX4_at := goodIn_r _ [25] (by decide +kernel) (by decide +kernel)
set_option maxRecDepth 20000 in
theorem gX3_walk_X4_at_n41 : GoodIn wsX3_walk (wsX4_at) := ggX3_walk_X4_at
set_option maxRecDepth 20000 in
theorem ggX3_walk_X0_takeTo : GoodIn wsX3_walk wsX0_takeTo := goodIn_r _ [64, 16, 15, 65, 66, 67, 68, 23, 24, 25, 69, 70, 71, 7, 72, 36, 73, 74, 75, 76, 77, 78, 79, 80, 81, 82, 83, 84, 85, 86, 87] (by decide +kernel) (by decide +kernel)
set_option maxRecDepth 20000 in
theorem gX3_walk_X0_takeTo : GoodIn wsX3_walk (wsV RX3 45 RX0 yX0_takeTo wsX0_takeTo) := goodIn_app (goodIn_of _ (by decide +kernel)) ggX3_walk_X0_takeTo
theorem dX3_walk_0 : decode cX3_walk 0 = .ok (.iload_n 2, 1) := by decide +kernel
theorem dX3_walk_1 : decode cX3_walk 1 = .ok (.iconst 1, 1) := by decide +kernel
theorem dX3_walk_2 : decode cX3_walk 2 = .ok (.if_icmp .lt 9, 3) := by decide +kernel
theorem dX3_walk_5 : decode cX3_walk 5 = .ok (.iload_n 2, 1) := by decide +kernel
theorem dX3_walk_6 : decode cX3_walk 6 = .ok (.bipush 30, 2) := by decide +kernel
theorem dX3_walk_8 : decode cX3_walk 8 = .ok (.if_icmp .le 5, 3) := by decide +kernel
theorem dX3_walk_11 : decode cX3_walk 11 = .ok (.iconst (-1), 1) := by decide +kernel
theorem dX3_walk_12 : decode cX3_walk 12 = .ok (.ireturn, 1) := by decide +kernel
theorem dX3_walk_13 : decode cX3_walk 13 = .ok (.aload_n 1, 1) := by decide +kernel
theorem dX3_walk_14 : decode cX3_walk 14 = .ok (.invokevirtual 27, 3) := by decide +kernel
theorem dX3_walk_17 : decode cX3_walk 17 = .ok (.istore_n 3, 1) := by decide +kernel
theorem dX3_walk_18 : decode cX3_walk 18 = .ok (.iconst 0, 1) := by decide +kernel
theorem dX3_walk_19 : decode cX3_walk 19 = .ok (.istore 4, 2) := by decide +kernel
theorem dX3_walk_21 : decode cX3_walk 21 = .ok (.iload 4, 2) := by decide +kernel
theorem dX3_walk_23 : decode cX3_walk 23 = .ok (.iload_n 2, 1) := by decide +kernel
theorem dX3_walk_24 : decode cX3_walk 24 = .ok (.if_icmp .ge 65, 3) := by decide +kernel
theorem dX3_walk_27 : decode cX3_walk 27 = .ok (.aload_n 0, 1) := by decide +kernel
theorem dX3_walk_28 : decode cX3_walk 28 = .ok (.aload_n 1, 1) := by decide +kernel
theorem dX3_walk_29 : decode cX3_walk 29 = .ok (.iload_n 3, 1) := by decide +kernel
theorem dX3_walk_30 : decode cX3_walk 30 = .ok (.invokevirtual 33, 3) := by decide +kernel
theorem dX3_walk_33 : decode cX3_walk 33 = .ok (.ifCond .ne 6, 3) := by decide +kernel
theorem dX3_walk_36 : decode cX3_walk 36 = .ok (.iload 4, 2) := by decide +kernel
theorem dX3_walk_38 : decode cX3_walk 38 = .ok (.ireturn, 1) := by decide +kernel
theorem dX3_walk_39 : decode cX3_walk 39 = .ok (.aload_n 1, 1) := by decide +kernel
theorem dX3_walk_40 : decode cX3_walk 40 = .ok (.getfield 37, 3) := by decide +kernel
theorem dX3_walk_43 : decode cX3_walk 43 = .ok (.aload_n 0, 1) := by decide +kernel
theorem dX3_walk_44 : decode cX3_walk 44 = .ok (.getfield 9, 3) := by decide +kernel
theorem dX3_walk_47 : decode cX3_walk 47 = .ok (.invokestatic 41, 3) := by decide +kernel
theorem dX3_walk_50 : decode cX3_walk 50 = .ok (.istore 5, 2) := by decide +kernel
theorem dX3_walk_52 : decode cX3_walk 52 = .ok (.aload_n 1, 1) := by decide +kernel
theorem dX3_walk_53 : decode cX3_walk 53 = .ok (.aload_n 0, 1) := by decide +kernel
theorem dX3_walk_54 : decode cX3_walk 54 = .ok (.getfield 9, 3) := by decide +kernel
theorem dX3_walk_57 : decode cX3_walk 57 = .ok (.aload_n 0, 1) := by decide +kernel
theorem dX3_walk_58 : decode cX3_walk 58 = .ok (.getfield 15, 3) := by decide +kernel
theorem dX3_walk_61 : decode cX3_walk 61 = .ok (.invokevirtual 45, 3) := by decide +kernel
theorem dX3_walk_64 : decode cX3_walk 64 = .ok (.aload_n 0, 1) := by decide +kernel
theorem dX3_walk_65 : decode cX3_walk 65 = .ok (.getfield 18, 3) := by decide +kernel
theorem dX3_walk_68 : decode cX3_walk 68 = .ok (.bipush (-9), 2) := by decide +kernel
theorem dX3_walk_70 : decode cX3_walk 70 = .ok (.if_icmp .eq 13, 3) := by decide +kernel
theorem dX3_walk_73 : decode cX3_walk 73 = .ok (.aload_n 1, 1) := by decide +kernel
theorem dX3_walk_74 : decode cX3_walk 74 = .ok (.aload_n 0, 1) := by decide +kernel
theorem dX3_walk_75 : decode cX3_walk 75 = .ok (.getfield 18, 3) := by decide +kernel
theorem dX3_walk_78 : decode cX3_walk 78 = .ok (.iload 5, 2) := by decide +kernel
theorem dX3_walk_80 : decode cX3_walk 80 = .ok (.invokevirtual 45, 3) := by decide +kernel
theorem dX3_walk_83 : decode cX3_walk 83 = .ok (.iinc 4 1, 3) := by decide +kernel
theorem dX3_walk_86 : decode cX3_walk 86 = .ok (.goto (-65), 3) := by decide +kernel
theorem dX3_walk_89 : decode cX3_walk 89 = .ok (.iload_n 2, 1) := by decide +kernel
theorem dX3_walk_90 : decode cX3_walk 90 = .ok (.ireturn, 1) := by decide +kernel
set_option maxRecDepth 20000 in
theorem ggX3_choose_X0_fullestServer : GoodIn wsX3_choose wsX0_fullestServer := goodIn_r _ [5, 6, 7, 8, 9, 10, 11, 42, 43, 44, 45, 46, 47, 48, 49, 50, 51, 52, 53, 54] (by decide +kernel) (by decide +kernel)
set_option maxRecDepth 20000 in
theorem gX3_choose_X0_fullestServer : GoodIn wsX3_choose (wsV RX3 49 RX0 yX0_fullestServer wsX0_fullestServer) := goodIn_app (goodIn_of _ (by decide +kernel)) ggX3_choose_X0_fullestServer
set_option maxRecDepth 20000 in
theorem ggX3_choose_X4_at : GoodIn wsX3_choose wsX4_at := goodIn_r _ [11] (by decide +kernel) (by decide +kernel)
set_option maxRecDepth 20000 in
theorem gX3_choose_X4_at_n41 : GoodIn wsX3_choose (wsX4_at) := ggX3_choose_X4_at
set_option maxRecDepth 20000 in
theorem ggX3_choose_X3_chooseMove : GoodIn wsX3_choose wsX3_chooseMove := goodIn_r _ [16, 17, 18, 19, 20, 9, 10, 11, 21, 22, 23, 15, 24, 25, 26, 27, 28, 29, 30, 31, 32, 33, 42, 43, 44, 45, 46, 47, 48, 49, 50, 51, 52, 53, 54, 55, 56, 57, 58, 59] (by decide +kernel) (by decide +kernel)
set_option maxRecDepth 20000 in
theorem gX3_choose_X3_chooseMove : GoodIn wsX3_choose (wsV RX3 55 RX3 yX3_chooseMove wsX3_chooseMove) := goodIn_app (goodIn_of _ (by decide +kernel)) ggX3_choose_X3_chooseMove
set_option maxRecDepth 20000 in
theorem ggX3_choose_X3_isPossible : GoodIn wsX3_choose wsX3_isPossible := goodIn_r _ [37, 25, 31, 55, 56, 57, 58, 59, 42, 43, 44, 45, 46, 47, 48, 49, 50, 51, 52, 53, 54] (by decide +kernel) (by decide +kernel)
set_option maxRecDepth 20000 in
theorem gX3_choose_X3_isPossible : GoodIn wsX3_choose (wsV RX3 59 RX3 yX3_isPossible wsX3_isPossible) := goodIn_app (goodIn_of _ (by decide +kernel)) ggX3_choose_X3_isPossible
set_option maxRecDepth 20000 in
theorem ggX3_choose_X3_chooseExchange : GoodIn wsX3_choose wsX3_chooseExchange := goodIn_r _ [41, 17, 18, 19, 20, 9, 10, 11, 21, 22, 23, 15, 24, 25, 26, 27, 28, 29, 30, 31, 32, 33, 42, 43, 44, 45, 46, 47, 48, 49, 50, 51, 52, 53, 54, 55, 56, 57, 58, 59] (by decide +kernel) (by decide +kernel)
set_option maxRecDepth 20000 in
theorem gX3_choose_X3_chooseExchange : GoodIn wsX3_choose (wsV RX3 63 RX3 yX3_chooseExchange wsX3_chooseExchange) := goodIn_app (goodIn_of _ (by decide +kernel)) ggX3_choose_X3_chooseExchange
theorem dX3_choose_0 : decode cX3_choose 0 = .ok (.aload_n 1, 1) := by decide +kernel
theorem dX3_choose_1 : decode cX3_choose 1 = .ok (.invokevirtual 49, 3) := by decide +kernel
theorem dX3_choose_4 : decode cX3_choose 4 = .ok (.istore_n 3, 1) := by decide +kernel
theorem dX3_choose_5 : decode cX3_choose 5 = .ok (.aload_n 1, 1) := by decide +kernel
theorem dX3_choose_6 : decode cX3_choose 6 = .ok (.getfield 52, 3) := by decide +kernel
theorem dX3_choose_9 : decode cX3_choose 9 = .ok (.iload_n 3, 1) := by decide +kernel
theorem dX3_choose_10 : decode cX3_choose 10 = .ok (.invokestatic 41, 3) := by decide +kernel
theorem dX3_choose_13 : decode cX3_choose 13 = .ok (.iload_n 2, 1) := by decide +kernel
theorem dX3_choose_14 : decode cX3_choose 14 = .ok (.if_icmp .gt 5, 3) := by decide +kernel
theorem dX3_choose_17 : decode cX3_choose 17 = .ok (.iconst 0, 1) := by decide +kernel
theorem dX3_choose_18 : decode cX3_choose 18 = .ok (.ireturn, 1) := by decide +kernel
theorem dX3_choose_19 : decode cX3_choose 19 = .ok (.aload_n 0, 1) := by decide +kernel
theorem dX3_choose_20 : decode cX3_choose 20 = .ok (.aload_n 1, 1) := by decide +kernel
theorem dX3_choose_21 : decode cX3_choose 21 = .ok (.iload_n 3, 1) := by decide +kernel
theorem dX3_choose_22 : decode cX3_choose 22 = .ok (.invokevirtual 55, 3) := by decide +kernel
theorem dX3_choose_25 : decode cX3_choose 25 = .ok (.aload_n 0, 1) := by decide +kernel
theorem dX3_choose_26 : decode cX3_choose 26 = .ok (.aload_n 1, 1) := by decide +kernel
theorem dX3_choose_27 : decode cX3_choose 27 = .ok (.invokevirtual 59, 3) := by decide +kernel
theorem dX3_choose_30 : decode cX3_choose 30 = .ok (.ifCond .eq 5, 3) := by decide +kernel
theorem dX3_choose_33 : decode cX3_choose 33 = .ok (.iconst 1, 1) := by decide +kernel
theorem dX3_choose_34 : decode cX3_choose 34 = .ok (.ireturn, 1) := by decide +kernel
theorem dX3_choose_35 : decode cX3_choose 35 = .ok (.aload_n 0, 1) := by decide +kernel
theorem dX3_choose_36 : decode cX3_choose 36 = .ok (.aload_n 1, 1) := by decide +kernel
theorem dX3_choose_37 : decode cX3_choose 37 = .ok (.iload_n 3, 1) := by decide +kernel
theorem dX3_choose_38 : decode cX3_choose 38 = .ok (.invokevirtual 63, 3) := by decide +kernel
theorem dX3_choose_41 : decode cX3_choose 41 = .ok (.aload_n 0, 1) := by decide +kernel
theorem dX3_choose_42 : decode cX3_choose 42 = .ok (.aload_n 1, 1) := by decide +kernel
theorem dX3_choose_43 : decode cX3_choose 43 = .ok (.invokevirtual 59, 3) := by decide +kernel
theorem dX3_choose_46 : decode cX3_choose 46 = .ok (.ireturn, 1) := by decide +kernel
theorem dX3_isPossible_0 : decode cX3_isPossible 0 = .ok (.aload_n 0, 1) := by decide +kernel
theorem dX3_isPossible_1 : decode cX3_isPossible 1 = .ok (.getfield 9, 3) := by decide +kernel
theorem dX3_isPossible_4 : decode cX3_isPossible 4 = .ok (.bipush (-9), 2) := by decide +kernel
theorem dX3_isPossible_6 : decode cX3_isPossible 6 = .ok (.if_icmp .eq 18, 3) := by decide +kernel
theorem dX3_isPossible_9 : decode cX3_isPossible 9 = .ok (.aload_n 0, 1) := by decide +kernel
theorem dX3_isPossible_10 : decode cX3_isPossible 10 = .ok (.getfield 21, 3) := by decide +kernel
theorem dX3_isPossible_13 : decode cX3_isPossible 13 = .ok (.aload_n 1, 1) := by decide +kernel
theorem dX3_isPossible_14 : decode cX3_isPossible 14 = .ok (.getfield 66, 3) := by decide +kernel
theorem dX3_isPossible_17 : decode cX3_isPossible 17 = .ok (.if_icmp .gt 7, 3) := by decide +kernel
theorem dX3_isPossible_20 : decode cX3_isPossible 20 = .ok (.iconst 1, 1) := by decide +kernel
theorem dX3_isPossible_21 : decode cX3_isPossible 21 = .ok (.goto 4, 3) := by decide +kernel
theorem dX3_isPossible_24 : decode cX3_isPossible 24 = .ok (.iconst 0, 1) := by decide +kernel
theorem dX3_isPossible_25 : decode cX3_isPossible 25 = .ok (.ireturn, 1) := by decide +kernel
set_option maxRecDepth 20000 in
theorem ggX3_chooseMove_X4_at : GoodIn wsX3_chooseMove wsX4_at := goodIn_r _ [7] (by decide +kernel) (by decide +kernel)
set_option maxRecDepth 20000 in
theorem gX3_chooseMove_X4_at_n41 : GoodIn wsX3_chooseMove (wsX4_at) := ggX3_chooseMove_X4_at
set_option maxRecDepth 20000 in
theorem ggX3_chooseMove_X3_startBelow : GoodIn wsX3_chooseMove wsX3_startBelow := goodIn_r _ [12, 13, 14, 35, 36, 37, 38, 39] (by decide +kernel) (by decide +kernel)
set_option maxRecDepth 20000 in
theorem gX3_chooseMove_X3_startBelow : GoodIn wsX3_chooseMove (wsV RX3 69 RX3 yX3_startBelow wsX3_startBelow) := goodIn_app (goodIn_of _ (by decide +kernel)) ggX3_chooseMove_X3_startBelow
set_option maxRecDepth 20000 in
theorem ggX3_chooseMove_X3_offer : GoodIn wsX3_chooseMove wsX3_offer := goodIn_r _ [18, 13, 14, 19, 20, 21, 35, 36, 37, 38, 39] (by decide +kernel) (by decide +kernel)
set_option maxRecDepth 20000 in
theorem gX3_chooseMove_X3_offer : GoodIn wsX3_chooseMove (wsV RX3 94 RX3 yX3_offer wsX3_offer) := goodIn_app (goodIn_of _ (by decide +kernel)) ggX3_chooseMove_X3_offer
theorem dX3_chooseMove_0 : decode cX3_chooseMove 0 = .ok (.aload_n 1, 1) := by decide +kernel
theorem dX3_chooseMove_1 : decode cX3_chooseMove 1 = .ok (.getfield 52, 3) := by decide +kernel
theorem dX3_chooseMove_4 : decode cX3_chooseMove 4 = .ok (.iload_n 2, 1) := by decide +kernel
theorem dX3_chooseMove_5 : decode cX3_chooseMove 5 = .ok (.invokestatic 41, 3) := by decide +kernel
theorem dX3_chooseMove_8 : decode cX3_chooseMove 8 = .ok (.istore_n 3, 1) := by decide +kernel
theorem dX3_chooseMove_9 : decode cX3_chooseMove 9 = .ok (.aload_n 0, 1) := by decide +kernel
theorem dX3_chooseMove_10 : decode cX3_chooseMove 10 = .ok (.iload_n 3, 1) := by decide +kernel
theorem dX3_chooseMove_11 : decode cX3_chooseMove 11 = .ok (.invokevirtual 69, 3) := by decide +kernel
theorem dX3_chooseMove_14 : decode cX3_chooseMove 14 = .ok (.iconst 0, 1) := by decide +kernel
theorem dX3_chooseMove_15 : decode cX3_chooseMove 15 = .ok (.istore 4, 2) := by decide +kernel
theorem dX3_chooseMove_17 : decode cX3_chooseMove 17 = .ok (.iload 4, 2) := by decide +kernel
theorem dX3_chooseMove_19 : decode cX3_chooseMove 19 = .ok (.aload_n 1, 1) := by decide +kernel
theorem dX3_chooseMove_20 : decode cX3_chooseMove 20 = .ok (.getfield 73, 3) := by decide +kernel
theorem dX3_chooseMove_23 : decode cX3_chooseMove 23 = .ok (.if_icmp .ge 115, 3) := by decide +kernel
theorem dX3_chooseMove_26 : decode cX3_chooseMove 26 = .ok (.aload_n 1, 1) := by decide +kernel
theorem dX3_chooseMove_27 : decode cX3_chooseMove 27 = .ok (.getfield 37, 3) := by decide +kernel
theorem dX3_chooseMove_30 : decode cX3_chooseMove 30 = .ok (.iload 4, 2) := by decide +kernel
theorem dX3_chooseMove_32 : decode cX3_chooseMove 32 = .ok (.invokestatic 41, 3) := by decide +kernel
theorem dX3_chooseMove_35 : decode cX3_chooseMove 35 = .ok (.iload_n 2, 1) := by decide +kernel
theorem dX3_chooseMove_36 : decode cX3_chooseMove 36 = .ok (.if_icmp .eq 6, 3) := by decide +kernel
theorem dX3_chooseMove_39 : decode cX3_chooseMove 39 = .ok (.goto 93, 3) := by decide +kernel
theorem dX3_chooseMove_42 : decode cX3_chooseMove 42 = .ok (.aload_n 1, 1) := by decide +kernel
theorem dX3_chooseMove_43 : decode cX3_chooseMove 43 = .ok (.getfield 76, 3) := by decide +kernel
theorem dX3_chooseMove_46 : decode cX3_chooseMove 46 = .ok (.iload 4, 2) := by decide +kernel
theorem dX3_chooseMove_48 : decode cX3_chooseMove 48 = .ok (.invokestatic 41, 3) := by decide +kernel
theorem dX3_chooseMove_51 : decode cX3_chooseMove 51 = .ok (.istore 5, 2) := by decide +kernel
theorem dX3_chooseMove_53 : decode cX3_chooseMove 53 = .ok (.iconst 0, 1) := by decide +kernel
theorem dX3_chooseMove_54 : decode cX3_chooseMove 54 = .ok (.istore 6, 2) := by decide +kernel
theorem dX3_chooseMove_56 : decode cX3_chooseMove 56 = .ok (.iload 6, 2) := by decide +kernel
theorem dX3_chooseMove_58 : decode cX3_chooseMove 58 = .ok (.aload_n 1, 1) := by decide +kernel
theorem dX3_chooseMove_59 : decode cX3_chooseMove 59 = .ok (.getfield 79, 3) := by decide +kernel
theorem dX3_chooseMove_62 : decode cX3_chooseMove 62 = .ok (.if_icmp .ge 70, 3) := by decide +kernel
theorem dX3_chooseMove_65 : decode cX3_chooseMove 65 = .ok (.iload 6, 2) := by decide +kernel
theorem dX3_chooseMove_67 : decode cX3_chooseMove 67 = .ok (.iload_n 2, 1) := by decide +kernel
theorem dX3_chooseMove_68 : decode cX3_chooseMove 68 = .ok (.if_icmp .eq 58, 3) := by decide +kernel
theorem dX3_chooseMove_71 : decode cX3_chooseMove 71 = .ok (.aload_n 1, 1) := by decide +kernel
theorem dX3_chooseMove_72 : decode cX3_chooseMove 72 = .ok (.getfield 82, 3) := by decide +kernel
theorem dX3_chooseMove_75 : decode cX3_chooseMove 75 = .ok (.iload 6, 2) := by decide +kernel
theorem dX3_chooseMove_77 : decode cX3_chooseMove 77 = .ok (.invokestatic 41, 3) := by decide +kernel
theorem dX3_chooseMove_80 : decode cX3_chooseMove 80 = .ok (.iconst 1, 1) := by decide +kernel
theorem dX3_chooseMove_81 : decode cX3_chooseMove 81 = .ok (.if_icmp .ne 45, 3) := by decide +kernel
theorem dX3_chooseMove_84 : decode cX3_chooseMove 84 = .ok (.iload_n 3, 1) := by decide +kernel
theorem dX3_chooseMove_85 : decode cX3_chooseMove 85 = .ok (.iload 5, 2) := by decide +kernel
theorem dX3_chooseMove_87 : decode cX3_chooseMove 87 = .ok (.isub, 1) := by decide +kernel
theorem dX3_chooseMove_88 : decode cX3_chooseMove 88 = .ok (.aload_n 1, 1) := by decide +kernel
theorem dX3_chooseMove_89 : decode cX3_chooseMove 89 = .ok (.getfield 52, 3) := by decide +kernel
theorem dX3_chooseMove_92 : decode cX3_chooseMove 92 = .ok (.iload 6, 2) := by decide +kernel
theorem dX3_chooseMove_94 : decode cX3_chooseMove 94 = .ok (.invokestatic 41, 3) := by decide +kernel
theorem dX3_chooseMove_97 : decode cX3_chooseMove 97 = .ok (.iload 5, 2) := by decide +kernel
theorem dX3_chooseMove_99 : decode cX3_chooseMove 99 = .ok (.iadd, 1) := by decide +kernel
theorem dX3_chooseMove_100 : decode cX3_chooseMove 100 = .ok (.invokestatic 85, 3) := by decide +kernel
theorem dX3_chooseMove_103 : decode cX3_chooseMove 103 = .ok (.istore 7, 2) := by decide +kernel
theorem dX3_chooseMove_105 : decode cX3_chooseMove 105 = .ok (.aload_n 0, 1) := by decide +kernel
theorem dX3_chooseMove_106 : decode cX3_chooseMove 106 = .ok (.iload 4, 2) := by decide +kernel
theorem dX3_chooseMove_108 : decode cX3_chooseMove 108 = .ok (.iload 6, 2) := by decide +kernel
theorem dX3_chooseMove_110 : decode cX3_chooseMove 110 = .ok (.bipush (-9), 2) := by decide +kernel
theorem dX3_chooseMove_112 : decode cX3_chooseMove 112 = .ok (.aload_n 1, 1) := by decide +kernel
theorem dX3_chooseMove_113 : decode cX3_chooseMove 113 = .ok (.getfield 91, 3) := by decide +kernel
theorem dX3_chooseMove_116 : decode cX3_chooseMove 116 = .ok (.iload 4, 2) := by decide +kernel
theorem dX3_chooseMove_118 : decode cX3_chooseMove 118 = .ok (.invokestatic 41, 3) := by decide +kernel
theorem dX3_chooseMove_121 : decode cX3_chooseMove 121 = .ok (.iload 7, 2) := by decide +kernel
theorem dX3_chooseMove_123 : decode cX3_chooseMove 123 = .ok (.invokevirtual 94, 3) := by decide +kernel
theorem dX3_chooseMove_126 : decode cX3_chooseMove 126 = .ok (.iinc 6 1, 3) := by decide +kernel
theorem dX3_chooseMove_129 : decode cX3_chooseMove 129 = .ok (.goto (-73), 3) := by decide +kernel
theorem dX3_chooseMove_132 : decode cX3_chooseMove 132 = .ok (.iinc 4 1, 3) := by decide +kernel
theorem dX3_chooseMove_135 : decode cX3_chooseMove 135 = .ok (.goto (-118), 3) := by decide +kernel
theorem dX3_chooseMove_138 : decode cX3_chooseMove 138 = .ok (.return_, 1) := by decide +kernel
set_option maxRecDepth 20000 in
theorem ggX3_chooseExchange_X4_at : GoodIn wsX3_chooseExchange wsX4_at := goodIn_r _ [7] (by decide +kernel) (by decide +kernel)
set_option maxRecDepth 20000 in
theorem gX3_chooseExchange_X4_at_n41 : GoodIn wsX3_chooseExchange (wsX4_at) := ggX3_chooseExchange_X4_at
set_option maxRecDepth 20000 in
theorem ggX3_chooseExchange_X3_startBelow : GoodIn wsX3_chooseExchange wsX3_startBelow := goodIn_r _ [12, 13, 14, 35, 36, 37, 38, 39] (by decide +kernel) (by decide +kernel)
set_option maxRecDepth 20000 in
theorem gX3_chooseExchange_X3_startBelow : GoodIn wsX3_chooseExchange (wsV RX3 69 RX3 yX3_startBelow wsX3_startBelow) := goodIn_app (goodIn_of _ (by decide +kernel)) ggX3_chooseExchange_X3_startBelow
set_option maxRecDepth 20000 in
theorem ggX3_chooseExchange_X3_offer : GoodIn wsX3_chooseExchange wsX3_offer := goodIn_r _ [18, 13, 14, 19, 20, 21, 35, 36, 37, 38, 39] (by decide +kernel) (by decide +kernel)
set_option maxRecDepth 20000 in
theorem gX3_chooseExchange_X3_offer : GoodIn wsX3_chooseExchange (wsV RX3 94 RX3 yX3_offer wsX3_offer) := goodIn_app (goodIn_of _ (by decide +kernel)) ggX3_chooseExchange_X3_offer
theorem dX3_chooseExchange_0 : decode cX3_chooseExchange 0 = .ok (.aload_n 1, 1) := by decide +kernel
theorem dX3_chooseExchange_1 : decode cX3_chooseExchange 1 = .ok (.getfield 52, 3) := by decide +kernel
theorem dX3_chooseExchange_4 : decode cX3_chooseExchange 4 = .ok (.iload_n 2, 1) := by decide +kernel
theorem dX3_chooseExchange_5 : decode cX3_chooseExchange 5 = .ok (.invokestatic 41, 3) := by decide +kernel
theorem dX3_chooseExchange_8 : decode cX3_chooseExchange 8 = .ok (.istore_n 3, 1) := by decide +kernel
theorem dX3_chooseExchange_9 : decode cX3_chooseExchange 9 = .ok (.aload_n 0, 1) := by decide +kernel
theorem dX3_chooseExchange_10 : decode cX3_chooseExchange 10 = .ok (.iload_n 3, 1) := by decide +kernel
theorem dX3_chooseExchange_11 : decode cX3_chooseExchange 11 = .ok (.invokevirtual 69, 3) := by decide +kernel
theorem dX3_chooseExchange_14 : decode cX3_chooseExchange 14 = .ok (.iconst 0, 1) := by decide +kernel
theorem dX3_chooseExchange_15 : decode cX3_chooseExchange 15 = .ok (.istore 4, 2) := by decide +kernel
theorem dX3_chooseExchange_17 : decode cX3_chooseExchange 17 = .ok (.iload 4, 2) := by decide +kernel
theorem dX3_chooseExchange_19 : decode cX3_chooseExchange 19 = .ok (.aload_n 1, 1) := by decide +kernel
theorem dX3_chooseExchange_20 : decode cX3_chooseExchange 20 = .ok (.getfield 73, 3) := by decide +kernel
theorem dX3_chooseExchange_23 : decode cX3_chooseExchange 23 = .ok (.if_icmp .ge 144, 3) := by decide +kernel
theorem dX3_chooseExchange_26 : decode cX3_chooseExchange 26 = .ok (.aload_n 1, 1) := by decide +kernel
theorem dX3_chooseExchange_27 : decode cX3_chooseExchange 27 = .ok (.getfield 37, 3) := by decide +kernel
theorem dX3_chooseExchange_30 : decode cX3_chooseExchange 30 = .ok (.iload 4, 2) := by decide +kernel
theorem dX3_chooseExchange_32 : decode cX3_chooseExchange 32 = .ok (.invokestatic 41, 3) := by decide +kernel
theorem dX3_chooseExchange_35 : decode cX3_chooseExchange 35 = .ok (.iload_n 2, 1) := by decide +kernel
theorem dX3_chooseExchange_36 : decode cX3_chooseExchange 36 = .ok (.if_icmp .eq 6, 3) := by decide +kernel
theorem dX3_chooseExchange_39 : decode cX3_chooseExchange 39 = .ok (.goto 122, 3) := by decide +kernel
theorem dX3_chooseExchange_42 : decode cX3_chooseExchange 42 = .ok (.iconst 0, 1) := by decide +kernel
theorem dX3_chooseExchange_43 : decode cX3_chooseExchange 43 = .ok (.istore 5, 2) := by decide +kernel
theorem dX3_chooseExchange_45 : decode cX3_chooseExchange 45 = .ok (.iload 5, 2) := by decide +kernel
theorem dX3_chooseExchange_47 : decode cX3_chooseExchange 47 = .ok (.aload_n 1, 1) := by decide +kernel
theorem dX3_chooseExchange_48 : decode cX3_chooseExchange 48 = .ok (.getfield 73, 3) := by decide +kernel
theorem dX3_chooseExchange_51 : decode cX3_chooseExchange 51 = .ok (.if_icmp .ge 110, 3) := by decide +kernel
theorem dX3_chooseExchange_54 : decode cX3_chooseExchange 54 = .ok (.aload_n 1, 1) := by decide +kernel
theorem dX3_chooseExchange_55 : decode cX3_chooseExchange 55 = .ok (.getfield 37, 3) := by decide +kernel
theorem dX3_chooseExchange_58 : decode cX3_chooseExchange 58 = .ok (.iload 5, 2) := by decide +kernel
theorem dX3_chooseExchange_60 : decode cX3_chooseExchange 60 = .ok (.invokestatic 41, 3) := by decide +kernel
theorem dX3_chooseExchange_63 : decode cX3_chooseExchange 63 = .ok (.istore 6, 2) := by decide +kernel
theorem dX3_chooseExchange_65 : decode cX3_chooseExchange 65 = .ok (.iload 6, 2) := by decide +kernel
theorem dX3_chooseExchange_67 : decode cX3_chooseExchange 67 = .ok (.iload_n 2, 1) := by decide +kernel
theorem dX3_chooseExchange_68 : decode cX3_chooseExchange 68 = .ok (.if_icmp .eq 87, 3) := by decide +kernel
theorem dX3_chooseExchange_71 : decode cX3_chooseExchange 71 = .ok (.iload 6, 2) := by decide +kernel
theorem dX3_chooseExchange_73 : decode cX3_chooseExchange 73 = .ok (.bipush (-9), 2) := by decide +kernel
theorem dX3_chooseExchange_75 : decode cX3_chooseExchange 75 = .ok (.if_icmp .eq 80, 3) := by decide +kernel
theorem dX3_chooseExchange_78 : decode cX3_chooseExchange 78 = .ok (.aload_n 1, 1) := by decide +kernel
theorem dX3_chooseExchange_79 : decode cX3_chooseExchange 79 = .ok (.getfield 76, 3) := by decide +kernel
theorem dX3_chooseExchange_82 : decode cX3_chooseExchange 82 = .ok (.iload 4, 2) := by decide +kernel
theorem dX3_chooseExchange_84 : decode cX3_chooseExchange 84 = .ok (.invokestatic 41, 3) := by decide +kernel
theorem dX3_chooseExchange_87 : decode cX3_chooseExchange 87 = .ok (.aload_n 1, 1) := by decide +kernel
theorem dX3_chooseExchange_88 : decode cX3_chooseExchange 88 = .ok (.getfield 76, 3) := by decide +kernel
theorem dX3_chooseExchange_91 : decode cX3_chooseExchange 91 = .ok (.iload 5, 2) := by decide +kernel
theorem dX3_chooseExchange_93 : decode cX3_chooseExchange 93 = .ok (.invokestatic 41, 3) := by decide +kernel
theorem dX3_chooseExchange_96 : decode cX3_chooseExchange 96 = .ok (.isub, 1) := by decide +kernel
theorem dX3_chooseExchange_97 : decode cX3_chooseExchange 97 = .ok (.istore 7, 2) := by decide +kernel
theorem dX3_chooseExchange_99 : decode cX3_chooseExchange 99 = .ok (.iload_n 3, 1) := by decide +kernel
theorem dX3_chooseExchange_100 : decode cX3_chooseExchange 100 = .ok (.iload 7, 2) := by decide +kernel
theorem dX3_chooseExchange_102 : decode cX3_chooseExchange 102 = .ok (.isub, 1) := by decide +kernel
theorem dX3_chooseExchange_103 : decode cX3_chooseExchange 103 = .ok (.aload_n 1, 1) := by decide +kernel
theorem dX3_chooseExchange_104 : decode cX3_chooseExchange 104 = .ok (.getfield 52, 3) := by decide +kernel
theorem dX3_chooseExchange_107 : decode cX3_chooseExchange 107 = .ok (.iload 6, 2) := by decide +kernel
theorem dX3_chooseExchange_109 : decode cX3_chooseExchange 109 = .ok (.invokestatic 41, 3) := by decide +kernel
theorem dX3_chooseExchange_112 : decode cX3_chooseExchange 112 = .ok (.iload 7, 2) := by decide +kernel
theorem dX3_chooseExchange_114 : decode cX3_chooseExchange 114 = .ok (.iadd, 1) := by decide +kernel
theorem dX3_chooseExchange_115 : decode cX3_chooseExchange 115 = .ok (.invokestatic 85, 3) := by decide +kernel
theorem dX3_chooseExchange_118 : decode cX3_chooseExchange 118 = .ok (.istore 8, 2) := by decide +kernel
theorem dX3_chooseExchange_120 : decode cX3_chooseExchange 120 = .ok (.aload_n 1, 1) := by decide +kernel
theorem dX3_chooseExchange_121 : decode cX3_chooseExchange 121 = .ok (.getfield 91, 3) := by decide +kernel
theorem dX3_chooseExchange_124 : decode cX3_chooseExchange 124 = .ok (.iload 4, 2) := by decide +kernel
theorem dX3_chooseExchange_126 : decode cX3_chooseExchange 126 = .ok (.invokestatic 41, 3) := by decide +kernel
theorem dX3_chooseExchange_129 : decode cX3_chooseExchange 129 = .ok (.aload_n 1, 1) := by decide +kernel
theorem dX3_chooseExchange_130 : decode cX3_chooseExchange 130 = .ok (.getfield 91, 3) := by decide +kernel
theorem dX3_chooseExchange_133 : decode cX3_chooseExchange 133 = .ok (.iload 5, 2) := by decide +kernel
theorem dX3_chooseExchange_135 : decode cX3_chooseExchange 135 = .ok (.invokestatic 41, 3) := by decide +kernel
theorem dX3_chooseExchange_138 : decode cX3_chooseExchange 138 = .ok (.iadd, 1) := by decide +kernel
theorem dX3_chooseExchange_139 : decode cX3_chooseExchange 139 = .ok (.istore 9, 2) := by decide +kernel
theorem dX3_chooseExchange_141 : decode cX3_chooseExchange 141 = .ok (.aload_n 0, 1) := by decide +kernel
theorem dX3_chooseExchange_142 : decode cX3_chooseExchange 142 = .ok (.iload 4, 2) := by decide +kernel
theorem dX3_chooseExchange_144 : decode cX3_chooseExchange 144 = .ok (.iload 6, 2) := by decide +kernel
theorem dX3_chooseExchange_146 : decode cX3_chooseExchange 146 = .ok (.iload 5, 2) := by decide +kernel
theorem dX3_chooseExchange_148 : decode cX3_chooseExchange 148 = .ok (.iload 9, 2) := by decide +kernel
theorem dX3_chooseExchange_150 : decode cX3_chooseExchange 150 = .ok (.iload 8, 2) := by decide +kernel
theorem dX3_chooseExchange_152 : decode cX3_chooseExchange 152 = .ok (.invokevirtual 94, 3) := by decide +kernel
theorem dX3_chooseExchange_155 : decode cX3_chooseExchange 155 = .ok (.iinc 5 1, 3) := by decide +kernel
theorem dX3_chooseExchange_158 : decode cX3_chooseExchange 158 = .ok (.goto (-113), 3) := by decide +kernel
theorem dX3_chooseExchange_161 : decode cX3_chooseExchange 161 = .ok (.iinc 4 1, 3) := by decide +kernel
theorem dX3_chooseExchange_164 : decode cX3_chooseExchange 164 = .ok (.goto (-147), 3) := by decide +kernel
theorem dX3_chooseExchange_167 : decode cX3_chooseExchange 167 = .ok (.return_, 1) := by decide +kernel
theorem dX3_startBelow_0 : decode cX3_startBelow 0 = .ok (.aload_n 0, 1) := by decide +kernel
theorem dX3_startBelow_1 : decode cX3_startBelow 1 = .ok (.bipush (-9), 2) := by decide +kernel
theorem dX3_startBelow_3 : decode cX3_startBelow 3 = .ok (.putfield 9, 3) := by decide +kernel
theorem dX3_startBelow_6 : decode cX3_startBelow 6 = .ok (.aload_n 0, 1) := by decide +kernel
theorem dX3_startBelow_7 : decode cX3_startBelow 7 = .ok (.iload_n 1, 1) := by decide +kernel
theorem dX3_startBelow_8 : decode cX3_startBelow 8 = .ok (.putfield 24, 3) := by decide +kernel
theorem dX3_startBelow_11 : decode cX3_startBelow 11 = .ok (.return_, 1) := by decide +kernel
theorem dX3_offer_0 : decode cX3_offer 0 = .ok (.aload_n 0, 1) := by decide +kernel
theorem dX3_offer_1 : decode cX3_offer 1 = .ok (.getfield 9, 3) := by decide +kernel
theorem dX3_offer_4 : decode cX3_offer 4 = .ok (.bipush (-9), 2) := by decide +kernel
theorem dX3_offer_6 : decode cX3_offer 6 = .ok (.if_icmp .eq 25, 3) := by decide +kernel
theorem dX3_offer_9 : decode cX3_offer 9 = .ok (.iload 5, 2) := by decide +kernel
theorem dX3_offer_11 : decode cX3_offer 11 = .ok (.aload_n 0, 1) := by decide +kernel
theorem dX3_offer_12 : decode cX3_offer 12 = .ok (.getfield 24, 3) := by decide +kernel
theorem dX3_offer_15 : decode cX3_offer 15 = .ok (.if_icmp .ne 16, 3) := by decide +kernel
theorem dX3_offer_18 : decode cX3_offer 18 = .ok (.iload 4, 2) := by decide +kernel
theorem dX3_offer_20 : decode cX3_offer 20 = .ok (.aload_n 0, 1) := by decide +kernel
theorem dX3_offer_21 : decode cX3_offer 21 = .ok (.getfield 21, 3) := by decide +kernel
theorem dX3_offer_24 : decode cX3_offer 24 = .ok (.if_icmp .ge 7, 3) := by decide +kernel
theorem dX3_offer_27 : decode cX3_offer 27 = .ok (.iconst 1, 1) := by decide +kernel
theorem dX3_offer_28 : decode cX3_offer 28 = .ok (.goto 4, 3) := by decide +kernel
theorem dX3_offer_31 : decode cX3_offer 31 = .ok (.iconst 0, 1) := by decide +kernel
theorem dX3_offer_32 : decode cX3_offer 32 = .ok (.istore 6, 2) := by decide +kernel
theorem dX3_offer_34 : decode cX3_offer 34 = .ok (.iload 5, 2) := by decide +kernel
theorem dX3_offer_36 : decode cX3_offer 36 = .ok (.aload_n 0, 1) := by decide +kernel
theorem dX3_offer_37 : decode cX3_offer 37 = .ok (.getfield 24, 3) := by decide +kernel
theorem dX3_offer_40 : decode cX3_offer 40 = .ok (.if_icmp .lt 8, 3) := by decide +kernel
theorem dX3_offer_43 : decode cX3_offer 43 = .ok (.iload 6, 2) := by decide +kernel
theorem dX3_offer_45 : decode cX3_offer 45 = .ok (.ifCond .eq 30, 3) := by decide +kernel
theorem dX3_offer_48 : decode cX3_offer 48 = .ok (.aload_n 0, 1) := by decide +kernel
theorem dX3_offer_49 : decode cX3_offer 49 = .ok (.iload_n 1, 1) := by decide +kernel
theorem dX3_offer_50 : decode cX3_offer 50 = .ok (.putfield 9, 3) := by decide +kernel
theorem dX3_offer_53 : decode cX3_offer 53 = .ok (.aload_n 0, 1) := by decide +kernel
theorem dX3_offer_54 : decode cX3_offer 54 = .ok (.iload_n 2, 1) := by decide +kernel
theorem dX3_offer_55 : decode cX3_offer 55 = .ok (.putfield 15, 3) := by decide +kernel
theorem dX3_offer_58 : decode cX3_offer 58 = .ok (.aload_n 0, 1) := by decide +kernel
theorem dX3_offer_59 : decode cX3_offer 59 = .ok (.iload_n 3, 1) := by decide +kernel
theorem dX3_offer_60 : decode cX3_offer 60 = .ok (.putfield 18, 3) := by decide +kernel
theorem dX3_offer_63 : decode cX3_offer 63 = .ok (.aload_n 0, 1) := by decide +kernel
theorem dX3_offer_64 : decode cX3_offer 64 = .ok (.iload 4, 2) := by decide +kernel
theorem dX3_offer_66 : decode cX3_offer 66 = .ok (.putfield 21, 3) := by decide +kernel
theorem dX3_offer_69 : decode cX3_offer 69 = .ok (.aload_n 0, 1) := by decide +kernel
theorem dX3_offer_70 : decode cX3_offer 70 = .ok (.iload 5, 2) := by decide +kernel
theorem dX3_offer_72 : decode cX3_offer 72 = .ok (.putfield 24, 3) := by decide +kernel
theorem dX3_offer_75 : decode cX3_offer 75 = .ok (.return_, 1) := by decide +kernel
set_option maxRecDepth 20000 in
theorem ggX4_init_X0_init : GoodIn wsX4_init wsX0_init := goodIn_r _ [23, 24, 2, 3, 25, 26, 27, 28, 29, 30, 31, 32, 33, 34, 35, 36, 37, 38, 66, 67, 68, 69, 70, 71, 72, 73, 74, 75, 76, 77, 78] (by decide +kernel) (by decide +kernel)
set_option maxRecDepth 20000 in
theorem gX4_init_X0_init_n9 : GoodIn wsX4_init (wsX0_init) := ggX4_init_X0_init
set_option maxRecDepth 20000 in
theorem ggX4_init_X1_init : GoodIn wsX4_init wsX1_init := goodIn_r _ [41, 42, 2, 3, 43, 44, 45, 46, 5, 6, 22, 23, 24, 25, 26, 27, 28, 29, 30, 31, 32, 33, 34, 35, 36, 37, 38, 85, 86, 87, 66, 67, 68, 69, 70, 71, 72, 73, 74, 75, 76, 77, 78] (by decide +kernel) (by decide +kernel)
set_option maxRecDepth 20000 in
theorem gX4_init_X1_init : GoodIn wsX4_init (wsX1_init) := ggX4_init_X1_init
set_option maxRecDepth 20000 in
theorem ggX4_init_X3_init : GoodIn wsX4_init wsX3_init := goodIn_r _ [48, 49, 2, 3, 50, 51, 52, 53, 54, 88, 89, 90, 91, 92] (by decide +kernel) (by decide +kernel)
set_option maxRecDepth 20000 in
theorem gX4_init_X3_init_n31 : GoodIn wsX4_init (wsX3_init) := ggX4_init_X3_init
set_option maxRecDepth 20000 in
theorem ggX4_init_X2_init : GoodIn wsX4_init wsX2_init := goodIn_r _ [56, 57, 2, 3, 25, 58, 59, 60, 61, 62, 63, 64, 65, 93, 94, 95, 96, 97, 98, 99, 100] (by decide +kernel) (by decide +kernel)
set_option maxRecDepth 20000 in
theorem gX4_init_X2_init_n38 : GoodIn wsX4_init (wsX2_init) := ggX4_init_X2_init
theorem dX4_init_0 : decode cX4_init 0 = .ok (.aload_n 0, 1) := by decide +kernel
theorem dX4_init_1 : decode cX4_init 1 = .ok (.invokespecial 1, 3) := by decide +kernel
theorem dX4_init_4 : decode cX4_init 4 = .ok (.aload_n 0, 1) := by decide +kernel
theorem dX4_init_5 : decode cX4_init 5 = .ok (.new 7, 3) := by decide +kernel
theorem dX4_init_8 : decode cX4_init 8 = .ok (.dup, 1) := by decide +kernel
theorem dX4_init_9 : decode cX4_init 9 = .ok (.invokespecial 9, 3) := by decide +kernel
theorem dX4_init_12 : decode cX4_init 12 = .ok (.putfield 10, 3) := by decide +kernel
theorem dX4_init_15 : decode cX4_init 15 = .ok (.aload_n 0, 1) := by decide +kernel
theorem dX4_init_16 : decode cX4_init 16 = .ok (.new 7, 3) := by decide +kernel
theorem dX4_init_19 : decode cX4_init 19 = .ok (.dup, 1) := by decide +kernel
theorem dX4_init_20 : decode cX4_init 20 = .ok (.invokespecial 9, 3) := by decide +kernel
theorem dX4_init_23 : decode cX4_init 23 = .ok (.putfield 16, 3) := by decide +kernel
theorem dX4_init_26 : decode cX4_init 26 = .ok (.aload_n 0, 1) := by decide +kernel
theorem dX4_init_27 : decode cX4_init 27 = .ok (.new 7, 3) := by decide +kernel
theorem dX4_init_30 : decode cX4_init 30 = .ok (.dup, 1) := by decide +kernel
theorem dX4_init_31 : decode cX4_init 31 = .ok (.invokespecial 9, 3) := by decide +kernel
theorem dX4_init_34 : decode cX4_init 34 = .ok (.putfield 19, 3) := by decide +kernel
theorem dX4_init_37 : decode cX4_init 37 = .ok (.aload_n 0, 1) := by decide +kernel
theorem dX4_init_38 : decode cX4_init 38 = .ok (.new 22, 3) := by decide +kernel
theorem dX4_init_41 : decode cX4_init 41 = .ok (.dup, 1) := by decide +kernel
theorem dX4_init_42 : decode cX4_init 42 = .ok (.invokespecial 24, 3) := by decide +kernel
theorem dX4_init_45 : decode cX4_init 45 = .ok (.putfield 25, 3) := by decide +kernel
theorem dX4_init_48 : decode cX4_init 48 = .ok (.aload_n 0, 1) := by decide +kernel
theorem dX4_init_49 : decode cX4_init 49 = .ok (.new 29, 3) := by decide +kernel
theorem dX4_init_52 : decode cX4_init 52 = .ok (.dup, 1) := by decide +kernel
theorem dX4_init_53 : decode cX4_init 53 = .ok (.invokespecial 31, 3) := by decide +kernel
theorem dX4_init_56 : decode cX4_init 56 = .ok (.putfield 32, 3) := by decide +kernel
theorem dX4_init_59 : decode cX4_init 59 = .ok (.aload_n 0, 1) := by decide +kernel
theorem dX4_init_60 : decode cX4_init 60 = .ok (.new 36, 3) := by decide +kernel
theorem dX4_init_63 : decode cX4_init 63 = .ok (.dup, 1) := by decide +kernel
theorem dX4_init_64 : decode cX4_init 64 = .ok (.invokespecial 38, 3) := by decide +kernel
theorem dX4_init_67 : decode cX4_init 67 = .ok (.putfield 39, 3) := by decide +kernel
theorem dX4_init_70 : decode cX4_init 70 = .ok (.return_, 1) := by decide +kernel
set_option maxRecDepth 20000 in
theorem ggX4_addServer_X0_copyFrom : GoodIn wsX4_addServer wsX0_copyFrom := goodIn_r _ [7, 8, 9, 10, 11, 12, 13, 14, 15, 16, 17, 18, 19, 20, 21, 22, 23, 24, 25, 26, 27, 28, 29, 30, 31, 63, 64, 65, 66, 67, 68, 69, 70, 71, 72, 73, 74, 75] (by decide +kernel) (by decide +kernel)
set_option maxRecDepth 20000 in
theorem gX4_addServer_X0_copyFrom : GoodIn wsX4_addServer (wsV RX4 43 RX0 yX0_copyFrom wsX0_copyFrom) := goodIn_app (goodIn_of _ (by decide +kernel)) ggX4_addServer_X0_copyFrom
set_option maxRecDepth 20000 in
theorem ggX4_addServer_X0_newServer : GoodIn wsX4_addServer wsX0_newServer := goodIn_r _ [35, 14, 13, 15, 36, 22, 37, 63, 64, 65, 66, 67, 68, 69, 70, 71, 72, 73, 74, 75] (by decide +kernel) (by decide +kernel)
set_option maxRecDepth 20000 in
theorem gX4_addServer_X0_newServer : GoodIn wsX4_addServer (wsV RX4 47 RX0 yX0_newServer wsX0_newServer) := goodIn_app (goodIn_of _ (by decide +kernel)) ggX4_addServer_X0_newServer
set_option maxRecDepth 20000 in
theorem ggX4_addServer_X4_recorded : GoodIn wsX4_addServer wsX4_recorded := goodIn_r _ [41, 42, 1, 43, 44, 45, 46, 47, 48, 49, 50, 25, 26, 27, 51, 52, 53, 54, 55, 56, 4, 5, 6, 7, 8, 9, 10, 11, 12, 13, 14, 15, 16, 17, 18, 19, 20, 21, 22, 23, 24, 28, 29, 30, 31, 57, 58, 59, 60, 61, 62, 76, 77, 78, 63, 64, 65, 66, 67, 68, 69, 70, 71, 72, 73, 74, 75] (by decide +kernel) (by decide +kernel)
set_option maxRecDepth 20000 in
theorem gX4_addServer_X4_recorded : GoodIn wsX4_addServer (wsV RX4 51 RX4 yX4_recorded wsX4_recorded) := goodIn_app (goodIn_of _ (by decide +kernel)) ggX4_addServer_X4_recorded
theorem dX4_addServer_0 : decode cX4_addServer 0 = .ok (.aload_n 0, 1) := by decide +kernel
theorem dX4_addServer_1 : decode cX4_addServer 1 = .ok (.getfield 16, 3) := by decide +kernel
theorem dX4_addServer_4 : decode cX4_addServer 4 = .ok (.aload_n 0, 1) := by decide +kernel
theorem dX4_addServer_5 : decode cX4_addServer 5 = .ok (.getfield 10, 3) := by decide +kernel
theorem dX4_addServer_8 : decode cX4_addServer 8 = .ok (.invokevirtual 43, 3) := by decide +kernel
theorem dX4_addServer_11 : decode cX4_addServer 11 = .ok (.aload_n 0, 1) := by decide +kernel
theorem dX4_addServer_12 : decode cX4_addServer 12 = .ok (.aload_n 0, 1) := by decide +kernel
theorem dX4_addServer_13 : decode cX4_addServer 13 = .ok (.getfield 10, 3) := by decide +kernel
theorem dX4_addServer_16 : decode cX4_addServer 16 = .ok (.invokevirtual 47, 3) := by decide +kernel
theorem dX4_addServer_19 : decode cX4_addServer 19 = .ok (.invokevirtual 51, 3) := by decide +kernel
theorem dX4_addServer_22 : decode cX4_addServer 22 = .ok (.ireturn, 1) := by decide +kernel
set_option maxRecDepth 20000 in
theorem ggX4_add_X0_copyFrom : GoodIn wsX4_add wsX0_copyFrom := goodIn_r _ [7, 8, 9, 10, 11, 12, 13, 14, 15, 16, 17, 18, 19, 20, 21, 22, 23, 24, 25, 26, 27, 28, 29, 30, 31, 73, 74, 75, 76, 77, 78, 79, 80, 81, 82, 83, 84, 85] (by decide +kernel) (by decide +kernel)
set_option maxRecDepth 20000 in
theorem gX4_add_X0_copyFrom : GoodIn wsX4_add (wsV RX4 43 RX0 yX0_copyFrom wsX0_copyFrom) := goodIn_app (goodIn_of _ (by decide +kernel)) ggX4_add_X0_copyFrom
set_option maxRecDepth 20000 in
theorem ggX4_add_X0_newJob : GoodIn wsX4_add wsX0_newJob := goodIn_r _ [35, 16, 8, 9, 10, 11, 12, 17, 36, 37, 38, 6, 39, 14, 40, 41, 42, 43, 13, 44, 22, 45, 46, 47, 73, 74, 75, 76, 77, 78, 79, 80, 81, 82, 83, 84, 85] (by decide +kernel) (by decide +kernel)
set_option maxRecDepth 20000 in
theorem gX4_add_X0_newJob : GoodIn wsX4_add (wsV RX4 55 RX0 yX0_newJob wsX0_newJob) := goodIn_app (goodIn_of _ (by decide +kernel)) ggX4_add_X0_newJob
set_option maxRecDepth 20000 in
theorem ggX4_add_X4_recorded : GoodIn wsX4_add wsX4_recorded := goodIn_r _ [51, 52, 1, 53, 54, 55, 56, 57, 58, 59, 60, 25, 26, 27, 61, 62, 63, 64, 65, 66, 4, 5, 6, 7, 8, 9, 10, 11, 12, 13, 14, 15, 16, 17, 18, 19, 20, 21, 22, 23, 24, 28, 29, 30, 31, 67, 68, 69, 70, 71, 72, 86, 87, 88, 73, 74, 75, 76, 77, 78, 79, 80, 81, 82, 83, 84, 85] (by decide +kernel) (by decide +kernel)
set_option maxRecDepth 20000 in
theorem gX4_add_X4_recorded : GoodIn wsX4_add (wsV RX4 51 RX4 yX4_recorded wsX4_recorded) := goodIn_app (goodIn_of _ (by decide +kernel)) ggX4_add_X4_recorded
theorem dX4_add_0 : decode cX4_add 0 = .ok (.aload_n 0, 1) := by decide +kernel
theorem dX4_add_1 : decode cX4_add 1 = .ok (.getfield 16, 3) := by decide +kernel
theorem dX4_add_4 : decode cX4_add 4 = .ok (.aload_n 0, 1) := by decide +kernel
theorem dX4_add_5 : decode cX4_add 5 = .ok (.getfield 10, 3) := by decide +kernel
theorem dX4_add_8 : decode cX4_add 8 = .ok (.invokevirtual 43, 3) := by decide +kernel
theorem dX4_add_11 : decode cX4_add 11 = .ok (.aload_n 0, 1) := by decide +kernel
theorem dX4_add_12 : decode cX4_add 12 = .ok (.aload_n 0, 1) := by decide +kernel
theorem dX4_add_13 : decode cX4_add 13 = .ok (.getfield 10, 3) := by decide +kernel
theorem dX4_add_16 : decode cX4_add 16 = .ok (.iload_n 1, 1) := by decide +kernel
theorem dX4_add_17 : decode cX4_add 17 = .ok (.iload_n 2, 1) := by decide +kernel
theorem dX4_add_18 : decode cX4_add 18 = .ok (.iload_n 3, 1) := by decide +kernel
theorem dX4_add_19 : decode cX4_add 19 = .ok (.invokevirtual 55, 3) := by decide +kernel
theorem dX4_add_22 : decode cX4_add 22 = .ok (.invokevirtual 51, 3) := by decide +kernel
theorem dX4_add_25 : decode cX4_add 25 = .ok (.ireturn, 1) := by decide +kernel
set_option maxRecDepth 20000 in
theorem ggX4_finish_X0_copyFrom : GoodIn wsX4_finish wsX0_copyFrom := goodIn_r _ [7, 8, 9, 10, 11, 12, 13, 14, 15, 16, 17, 18, 19, 20, 21, 22, 23, 24, 25, 26, 27, 28, 29, 30, 31, 73, 74, 75, 76, 77, 78, 79, 80, 81, 82, 83, 84, 85] (by decide +kernel) (by decide +kernel)
set_option maxRecDepth 20000 in
theorem gX4_finish_X0_copyFrom : GoodIn wsX4_finish (wsV RX4 43 RX0 yX0_copyFrom wsX0_copyFrom) := goodIn_app (goodIn_of _ (by decide +kernel)) ggX4_finish_X0_copyFrom
set_option maxRecDepth 20000 in
theorem ggX4_finish_X0_endJob : GoodIn wsX4_finish wsX0_endJob := goodIn_r _ [35, 10, 12, 8, 17, 36, 37, 38, 6, 39, 16, 40, 41, 42, 43, 44, 22, 45, 46, 47, 73, 74, 75, 76, 77, 78, 79, 80, 81, 82, 83, 84, 85] (by decide +kernel) (by decide +kernel)
set_option maxRecDepth 20000 in
theorem gX4_finish_X0_endJob : GoodIn wsX4_finish (wsV RX4 59 RX0 yX0_endJob wsX0_endJob) := goodIn_app (goodIn_of _ (by decide +kernel)) ggX4_finish_X0_endJob
set_option maxRecDepth 20000 in
theorem ggX4_finish_X4_recorded : GoodIn wsX4_finish wsX4_recorded := goodIn_r _ [51, 52, 1, 53, 54, 55, 56, 57, 58, 59, 60, 25, 26, 27, 61, 62, 63, 64, 65, 66, 4, 5, 6, 7, 8, 9, 10, 11, 12, 13, 14, 15, 16, 17, 18, 19, 20, 21, 22, 23, 24, 28, 29, 30, 31, 67, 68, 69, 70, 71, 72, 86, 87, 88, 73, 74, 75, 76, 77, 78, 79, 80, 81, 82, 83, 84, 85] (by decide +kernel) (by decide +kernel)
set_option maxRecDepth 20000 in
theorem gX4_finish_X4_recorded : GoodIn wsX4_finish (wsV RX4 51 RX4 yX4_recorded wsX4_recorded) := goodIn_app (goodIn_of _ (by decide +kernel)) ggX4_finish_X4_recorded
theorem dX4_finish_0 : decode cX4_finish 0 = .ok (.aload_n 0, 1) := by decide +kernel
theorem dX4_finish_1 : decode cX4_finish 1 = .ok (.getfield 16, 3) := by decide +kernel
theorem dX4_finish_4 : decode cX4_finish 4 = .ok (.aload_n 0, 1) := by decide +kernel
theorem dX4_finish_5 : decode cX4_finish 5 = .ok (.getfield 10, 3) := by decide +kernel
theorem dX4_finish_8 : decode cX4_finish 8 = .ok (.invokevirtual 43, 3) := by decide +kernel
theorem dX4_finish_11 : decode cX4_finish 11 = .ok (.aload_n 0, 1) := by decide +kernel
theorem dX4_finish_12 : decode cX4_finish 12 = .ok (.aload_n 0, 1) := by decide +kernel
theorem dX4_finish_13 : decode cX4_finish 13 = .ok (.getfield 10, 3) := by decide +kernel
theorem dX4_finish_16 : decode cX4_finish 16 = .ok (.iload_n 1, 1) := by decide +kernel
theorem dX4_finish_17 : decode cX4_finish 17 = .ok (.invokevirtual 59, 3) := by decide +kernel
theorem dX4_finish_20 : decode cX4_finish 20 = .ok (.invokevirtual 51, 3) := by decide +kernel
theorem dX4_finish_23 : decode cX4_finish 23 = .ok (.ireturn, 1) := by decide +kernel
set_option maxRecDepth 20000 in
theorem ggX4_setBudget_X0_copyFrom : GoodIn wsX4_setBudget wsX0_copyFrom := goodIn_r _ [7, 8, 9, 10, 11, 12, 13, 14, 15, 16, 17, 18, 19, 20, 21, 22, 23, 24, 25, 26, 27, 28, 29, 30, 31, 61, 62, 63, 64, 65, 66, 67, 68, 69, 70, 71, 72, 73] (by decide +kernel) (by decide +kernel)
set_option maxRecDepth 20000 in
theorem gX4_setBudget_X0_copyFrom : GoodIn wsX4_setBudget (wsV RX4 43 RX0 yX0_copyFrom wsX0_copyFrom) := goodIn_app (goodIn_of _ (by decide +kernel)) ggX4_setBudget_X0_copyFrom
set_option maxRecDepth 20000 in
theorem ggX4_setBudget_X0_changeBudget : GoodIn wsX4_setBudget wsX0_changeBudget := goodIn_r _ [35, 18, 61, 62, 63, 64, 65, 66, 67, 68, 69, 70, 71, 72, 73] (by decide +kernel) (by decide +kernel)
set_option maxRecDepth 20000 in
theorem gX4_setBudget_X0_changeBudget : GoodIn wsX4_setBudget (wsV RX4 62 RX0 yX0_changeBudget wsX0_changeBudget) := goodIn_app (goodIn_of _ (by decide +kernel)) ggX4_setBudget_X0_changeBudget
set_option maxRecDepth 20000 in
theorem ggX4_setBudget_X4_recorded : GoodIn wsX4_setBudget wsX4_recorded := goodIn_r _ [39, 40, 1, 41, 42, 43, 44, 45, 46, 47, 48, 25, 26, 27, 49, 50, 51, 52, 53, 54, 4, 5, 6, 7, 8, 9, 10, 11, 12, 13, 14, 15, 16, 17, 18, 19, 20, 21, 22, 23, 24, 28, 29, 30, 31, 55, 56, 57, 58, 59, 60, 74, 75, 76, 61, 62, 63, 64, 65, 66, 67, 68, 69, 70, 71, 72, 73] (by decide +kernel) (by decide +kernel)
set_option maxRecDepth 20000 in
theorem gX4_setBudget_X4_recorded : GoodIn wsX4_setBudget (wsV RX4 51 RX4 yX4_recorded wsX4_recorded) := goodIn_app (goodIn_of _ (by decide +kernel)) ggX4_setBudget_X4_recorded
theorem dX4_setBudget_0 : decode cX4_setBudget 0 = .ok (.aload_n 0, 1) := by decide +kernel
theorem dX4_setBudget_1 : decode cX4_setBudget 1 = .ok (.getfield 16, 3) := by decide +kernel
theorem dX4_setBudget_4 : decode cX4_setBudget 4 = .ok (.aload_n 0, 1) := by decide +kernel
theorem dX4_setBudget_5 : decode cX4_setBudget 5 = .ok (.getfield 10, 3) := by decide +kernel
theorem dX4_setBudget_8 : decode cX4_setBudget 8 = .ok (.invokevirtual 43, 3) := by decide +kernel
theorem dX4_setBudget_11 : decode cX4_setBudget 11 = .ok (.aload_n 0, 1) := by decide +kernel
theorem dX4_setBudget_12 : decode cX4_setBudget 12 = .ok (.aload_n 0, 1) := by decide +kernel
theorem dX4_setBudget_13 : decode cX4_setBudget 13 = .ok (.getfield 10, 3) := by decide +kernel
theorem dX4_setBudget_16 : decode cX4_setBudget 16 = .ok (.iload_n 1, 1) := by decide +kernel
theorem dX4_setBudget_17 : decode cX4_setBudget 17 = .ok (.invokevirtual 62, 3) := by decide +kernel
theorem dX4_setBudget_20 : decode cX4_setBudget 20 = .ok (.invokevirtual 51, 3) := by decide +kernel
theorem dX4_setBudget_23 : decode cX4_setBudget 23 = .ok (.ireturn, 1) := by decide +kernel
set_option maxRecDepth 20000 in
theorem ggX4_setFactor_X0_copyFrom : GoodIn wsX4_setFactor wsX0_copyFrom := goodIn_r _ [7, 8, 9, 10, 11, 12, 13, 14, 15, 16, 17, 18, 19, 20, 21, 22, 23, 24, 25, 26, 27, 28, 29, 30, 31, 74, 75, 76, 77, 78, 79, 80, 81, 82, 83, 84, 85, 86] (by decide +kernel) (by decide +kernel)
set_option maxRecDepth 20000 in
theorem gX4_setFactor_X0_copyFrom : GoodIn wsX4_setFactor (wsV RX4 43 RX0 yX0_copyFrom wsX0_copyFrom) := goodIn_app (goodIn_of _ (by decide +kernel)) ggX4_setFactor_X0_copyFrom
set_option maxRecDepth 20000 in
theorem ggX4_setFactor_X0_changeFactor : GoodIn wsX4_setFactor wsX0_changeFactor := goodIn_r _ [35, 19, 36, 37, 38, 6, 39, 40, 41, 42, 43, 16, 10, 8, 44, 45, 26, 46, 15, 17, 47, 22, 48, 74, 75, 76, 77, 78, 79, 80, 81, 82, 83, 84, 85, 86] (by decide +kernel) (by decide +kernel)
set_option maxRecDepth 20000 in
theorem gX4_setFactor_X0_changeFactor : GoodIn wsX4_setFactor (wsV RX4 65 RX0 yX0_changeFactor wsX0_changeFactor) := goodIn_app (goodIn_of _ (by decide +kernel)) ggX4_setFactor_X0_changeFactor
set_option maxRecDepth 20000 in
theorem ggX4_setFactor_X4_recorded : GoodIn wsX4_setFactor wsX4_recorded := goodIn_r _ [52, 53, 1, 54, 55, 56, 57, 58, 59, 60, 61, 25, 26, 27, 62, 63, 64, 65, 66, 67, 4, 5, 6, 7, 8, 9, 10, 11, 12, 13, 14, 15, 16, 17, 18, 19, 20, 21, 22, 23, 24, 28, 29, 30, 31, 68, 69, 70, 71, 72, 73, 87, 88, 89, 74, 75, 76, 77, 78, 79, 80, 81, 82, 83, 84, 85, 86] (by decide +kernel) (by decide +kernel)
set_option maxRecDepth 20000 in
theorem gX4_setFactor_X4_recorded : GoodIn wsX4_setFactor (wsV RX4 51 RX4 yX4_recorded wsX4_recorded) := goodIn_app (goodIn_of _ (by decide +kernel)) ggX4_setFactor_X4_recorded
theorem dX4_setFactor_0 : decode cX4_setFactor 0 = .ok (.aload_n 0, 1) := by decide +kernel
theorem dX4_setFactor_1 : decode cX4_setFactor 1 = .ok (.getfield 16, 3) := by decide +kernel
theorem dX4_setFactor_4 : decode cX4_setFactor 4 = .ok (.aload_n 0, 1) := by decide +kernel
theorem dX4_setFactor_5 : decode cX4_setFactor 5 = .ok (.getfield 10, 3) := by decide +kernel
theorem dX4_setFactor_8 : decode cX4_setFactor 8 = .ok (.invokevirtual 43, 3) := by decide +kernel
theorem dX4_setFactor_11 : decode cX4_setFactor 11 = .ok (.aload_n 0, 1) := by decide +kernel
theorem dX4_setFactor_12 : decode cX4_setFactor 12 = .ok (.aload_n 0, 1) := by decide +kernel
theorem dX4_setFactor_13 : decode cX4_setFactor 13 = .ok (.getfield 10, 3) := by decide +kernel
theorem dX4_setFactor_16 : decode cX4_setFactor 16 = .ok (.iload_n 1, 1) := by decide +kernel
theorem dX4_setFactor_17 : decode cX4_setFactor 17 = .ok (.invokevirtual 65, 3) := by decide +kernel
theorem dX4_setFactor_20 : decode cX4_setFactor 20 = .ok (.invokevirtual 51, 3) := by decide +kernel
theorem dX4_setFactor_23 : decode cX4_setFactor 23 = .ok (.ireturn, 1) := by decide +kernel
set_option maxRecDepth 20000 in
theorem ggX4_move_X0_copyFrom : GoodIn wsX4_move wsX0_copyFrom := goodIn_r _ [7, 8, 9, 10, 11, 12, 13, 14, 15, 16, 17, 18, 19, 20, 21, 22, 23, 24, 25, 26, 27, 28, 29, 30, 31, 97, 98, 99, 100, 101, 102, 103, 104, 105, 106, 107, 108, 109] (by decide +kernel) (by decide +kernel)
set_option maxRecDepth 20000 in
theorem gX4_move_X0_copyFrom : GoodIn wsX4_move (wsV RX4 43 RX0 yX0_copyFrom wsX0_copyFrom) := goodIn_app (goodIn_of _ (by decide +kernel)) ggX4_move_X0_copyFrom
set_option maxRecDepth 20000 in
theorem ggX4_move_X0_moveJob : GoodIn wsX4_move wsX0_moveJob := goodIn_r _ [35, 10, 9, 18, 36, 37, 38, 6, 39, 16, 40, 41, 42, 43, 14, 44, 45, 46, 47, 48, 22, 49, 50, 51, 52, 53, 13, 54, 55, 56, 57, 8, 11, 20, 58, 59, 60, 61, 12, 62, 63, 64, 65, 66, 67, 68, 69, 70, 71, 97, 98, 99, 100, 101, 102, 103, 104, 105, 106, 107, 108, 109] (by decide +kernel) (by decide +kernel)
set_option maxRecDepth 20000 in
theorem gX4_move_X0_moveJob : GoodIn wsX4_move (wsV RX4 68 RX0 yX0_moveJob wsX0_moveJob) := goodIn_app (goodIn_of _ (by decide +kernel)) ggX4_move_X0_moveJob
set_option maxRecDepth 20000 in
theorem ggX4_move_X4_recorded : GoodIn wsX4_move wsX4_recorded := goodIn_r _ [75, 76, 1, 77, 78, 79, 80, 81, 82, 83, 84, 25, 26, 27, 85, 86, 87, 88, 89, 90, 4, 5, 6, 7, 8, 9, 10, 11, 12, 13, 14, 15, 16, 17, 18, 19, 20, 21, 22, 23, 24, 28, 29, 30, 31, 91, 92, 93, 94, 95, 96, 110, 111, 112, 97, 98, 99, 100, 101, 102, 103, 104, 105, 106, 107, 108, 109] (by decide +kernel) (by decide +kernel)
set_option maxRecDepth 20000 in
theorem gX4_move_X4_recorded : GoodIn wsX4_move (wsV RX4 51 RX4 yX4_recorded wsX4_recorded) := goodIn_app (goodIn_of _ (by decide +kernel)) ggX4_move_X4_recorded
theorem dX4_move_0 : decode cX4_move 0 = .ok (.aload_n 0, 1) := by decide +kernel
theorem dX4_move_1 : decode cX4_move 1 = .ok (.getfield 16, 3) := by decide +kernel
theorem dX4_move_4 : decode cX4_move 4 = .ok (.aload_n 0, 1) := by decide +kernel
theorem dX4_move_5 : decode cX4_move 5 = .ok (.getfield 10, 3) := by decide +kernel
theorem dX4_move_8 : decode cX4_move 8 = .ok (.invokevirtual 43, 3) := by decide +kernel
theorem dX4_move_11 : decode cX4_move 11 = .ok (.aload_n 0, 1) := by decide +kernel
theorem dX4_move_12 : decode cX4_move 12 = .ok (.aload_n 0, 1) := by decide +kernel
theorem dX4_move_13 : decode cX4_move 13 = .ok (.getfield 10, 3) := by decide +kernel
theorem dX4_move_16 : decode cX4_move 16 = .ok (.iload_n 1, 1) := by decide +kernel
theorem dX4_move_17 : decode cX4_move 17 = .ok (.iload_n 2, 1) := by decide +kernel
theorem dX4_move_18 : decode cX4_move 18 = .ok (.invokevirtual 68, 3) := by decide +kernel
theorem dX4_move_21 : decode cX4_move 21 = .ok (.invokevirtual 51, 3) := by decide +kernel
theorem dX4_move_24 : decode cX4_move 24 = .ok (.ireturn, 1) := by decide +kernel
set_option maxRecDepth 20000 in
theorem ggX4_exchange_X0_copyFrom : GoodIn wsX4_exchange wsX0_copyFrom := goodIn_r _ [7, 8, 9, 10, 11, 12, 13, 14, 15, 16, 17, 18, 19, 20, 21, 22, 23, 24, 25, 26, 27, 28, 29, 30, 31, 93, 94, 95, 96, 97, 98, 99, 100, 101, 102, 103, 104, 105] (by decide +kernel) (by decide +kernel)
set_option maxRecDepth 20000 in
theorem gX4_exchange_X0_copyFrom : GoodIn wsX4_exchange (wsV RX4 43 RX0 yX0_copyFrom wsX0_copyFrom) := goodIn_app (goodIn_of _ (by decide +kernel)) ggX4_exchange_X0_copyFrom
set_option maxRecDepth 20000 in
theorem ggX4_exchange_X0_exchangeJobs : GoodIn wsX4_exchange wsX0_exchangeJobs := goodIn_r _ [35, 9, 18, 10, 36, 37, 38, 6, 39, 16, 40, 41, 42, 43, 44, 45, 46, 47, 48, 22, 49, 50, 51, 52, 53, 8, 11, 20, 54, 55, 56, 57, 12, 58, 59, 60, 61, 62, 63, 64, 65, 66, 67, 14, 13, 93, 94, 95, 96, 97, 98, 99, 100, 101, 102, 103, 104, 105] (by decide +kernel) (by decide +kernel)
set_option maxRecDepth 20000 in
theorem gX4_exchange_X0_exchangeJobs : GoodIn wsX4_exchange (wsV RX4 72 RX0 yX0_exchangeJobs wsX0_exchangeJobs) := goodIn_app (goodIn_of _ (by decide +kernel)) ggX4_exchange_X0_exchangeJobs
set_option maxRecDepth 20000 in
theorem ggX4_exchange_X4_recorded : GoodIn wsX4_exchange wsX4_recorded := goodIn_r _ [71, 72, 1, 73, 74, 75, 76, 77, 78, 79, 80, 25, 26, 27, 81, 82, 83, 84, 85, 86, 4, 5, 6, 7, 8, 9, 10, 11, 12, 13, 14, 15, 16, 17, 18, 19, 20, 21, 22, 23, 24, 28, 29, 30, 31, 87, 88, 89, 90, 91, 92, 106, 107, 108, 93, 94, 95, 96, 97, 98, 99, 100, 101, 102, 103, 104, 105] (by decide +kernel) (by decide +kernel)
set_option maxRecDepth 20000 in
theorem gX4_exchange_X4_recorded : GoodIn wsX4_exchange (wsV RX4 51 RX4 yX4_recorded wsX4_recorded) := goodIn_app (goodIn_of _ (by decide +kernel)) ggX4_exchange_X4_recorded
theorem dX4_exchange_0 : decode cX4_exchange 0 = .ok (.aload_n 0, 1) := by decide +kernel
theorem dX4_exchange_1 : decode cX4_exchange 1 = .ok (.getfield 16, 3) := by decide +kernel
theorem dX4_exchange_4 : decode cX4_exchange 4 = .ok (.aload_n 0, 1) := by decide +kernel
theorem dX4_exchange_5 : decode cX4_exchange 5 = .ok (.getfield 10, 3) := by decide +kernel
theorem dX4_exchange_8 : decode cX4_exchange 8 = .ok (.invokevirtual 43, 3) := by decide +kernel
theorem dX4_exchange_11 : decode cX4_exchange 11 = .ok (.aload_n 0, 1) := by decide +kernel
theorem dX4_exchange_12 : decode cX4_exchange 12 = .ok (.aload_n 0, 1) := by decide +kernel
theorem dX4_exchange_13 : decode cX4_exchange 13 = .ok (.getfield 10, 3) := by decide +kernel
theorem dX4_exchange_16 : decode cX4_exchange 16 = .ok (.iload_n 1, 1) := by decide +kernel
theorem dX4_exchange_17 : decode cX4_exchange 17 = .ok (.iload_n 2, 1) := by decide +kernel
theorem dX4_exchange_18 : decode cX4_exchange 18 = .ok (.invokevirtual 72, 3) := by decide +kernel
theorem dX4_exchange_21 : decode cX4_exchange 21 = .ok (.invokevirtual 51, 3) := by decide +kernel
theorem dX4_exchange_24 : decode cX4_exchange 24 = .ok (.ireturn, 1) := by decide +kernel
set_option maxRecDepth 20000 in
theorem ggX4_ring_X0_copyFrom : GoodIn wsX4_ring wsX0_copyFrom := goodIn_r _ [7, 8, 9, 10, 11, 12, 13, 14, 15, 16, 17, 18, 19, 20, 21, 22, 23, 24, 25, 26, 27, 28, 29, 30, 31, 93, 94, 95, 96, 97, 98, 99, 100, 101, 102, 103, 104, 105] (by decide +kernel) (by decide +kernel)
set_option maxRecDepth 20000 in
theorem gX4_ring_X0_copyFrom : GoodIn wsX4_ring (wsV RX4 43 RX0 yX0_copyFrom wsX0_copyFrom) := goodIn_app (goodIn_of _ (by decide +kernel)) ggX4_ring_X0_copyFrom
set_option maxRecDepth 20000 in
theorem ggX4_ring_X0_moveRing : GoodIn wsX4_ring wsX0_moveRing := goodIn_r _ [35, 9, 18, 10, 36, 37, 38, 6, 39, 16, 40, 41, 42, 43, 44, 45, 46, 47, 48, 22, 49, 50, 51, 52, 53, 8, 11, 20, 54, 55, 56, 57, 12, 58, 59, 60, 61, 62, 63, 64, 65, 66, 67, 14, 13, 93, 94, 95, 96, 97, 98, 99, 100, 101, 102, 103, 104, 105] (by decide +kernel) (by decide +kernel)
set_option maxRecDepth 20000 in
theorem gX4_ring_X0_moveRing : GoodIn wsX4_ring (wsV RX4 75 RX0 yX0_moveRing wsX0_moveRing) := goodIn_app (goodIn_of _ (by decide +kernel)) ggX4_ring_X0_moveRing
set_option maxRecDepth 20000 in
theorem ggX4_ring_X4_recorded : GoodIn wsX4_ring wsX4_recorded := goodIn_r _ [71, 72, 1, 73, 74, 75, 76, 77, 78, 79, 80, 25, 26, 27, 81, 82, 83, 84, 85, 86, 4, 5, 6, 7, 8, 9, 10, 11, 12, 13, 14, 15, 16, 17, 18, 19, 20, 21, 22, 23, 24, 28, 29, 30, 31, 87, 88, 89, 90, 91, 92, 106, 107, 108, 93, 94, 95, 96, 97, 98, 99, 100, 101, 102, 103, 104, 105] (by decide +kernel) (by decide +kernel)
set_option maxRecDepth 20000 in
theorem gX4_ring_X4_recorded : GoodIn wsX4_ring (wsV RX4 51 RX4 yX4_recorded wsX4_recorded) := goodIn_app (goodIn_of _ (by decide +kernel)) ggX4_ring_X4_recorded
theorem dX4_ring_0 : decode cX4_ring 0 = .ok (.aload_n 0, 1) := by decide +kernel
theorem dX4_ring_1 : decode cX4_ring 1 = .ok (.getfield 16, 3) := by decide +kernel
theorem dX4_ring_4 : decode cX4_ring 4 = .ok (.aload_n 0, 1) := by decide +kernel
theorem dX4_ring_5 : decode cX4_ring 5 = .ok (.getfield 10, 3) := by decide +kernel
theorem dX4_ring_8 : decode cX4_ring 8 = .ok (.invokevirtual 43, 3) := by decide +kernel
theorem dX4_ring_11 : decode cX4_ring 11 = .ok (.aload_n 0, 1) := by decide +kernel
theorem dX4_ring_12 : decode cX4_ring 12 = .ok (.aload_n 0, 1) := by decide +kernel
theorem dX4_ring_13 : decode cX4_ring 13 = .ok (.getfield 10, 3) := by decide +kernel
theorem dX4_ring_16 : decode cX4_ring 16 = .ok (.iload_n 1, 1) := by decide +kernel
theorem dX4_ring_17 : decode cX4_ring 17 = .ok (.iload_n 2, 1) := by decide +kernel
theorem dX4_ring_18 : decode cX4_ring 18 = .ok (.iload_n 3, 1) := by decide +kernel
theorem dX4_ring_19 : decode cX4_ring 19 = .ok (.invokevirtual 75, 3) := by decide +kernel
theorem dX4_ring_22 : decode cX4_ring 22 = .ok (.invokevirtual 51, 3) := by decide +kernel
theorem dX4_ring_25 : decode cX4_ring 25 = .ok (.ireturn, 1) := by decide +kernel
set_option maxRecDepth 20000 in
theorem ggX4_even_X0_copyFrom : GoodIn wsX4_even wsX0_copyFrom := goodIn_r _ [8, 9, 10, 11, 12, 13, 14, 15, 16, 17, 18, 19, 20, 21, 22, 23, 24, 25, 26, 27, 28, 29, 30, 31, 32, 120, 121, 122, 123, 124, 125, 126, 127, 128, 129, 130, 131, 132] (by decide +kernel) (by decide +kernel)
set_option maxRecDepth 20000 in
theorem gX4_even_X0_copyFrom : GoodIn wsX4_even (wsV RX4 43 RX0 yX0_copyFrom wsX0_copyFrom) := goodIn_app (goodIn_of _ (by decide +kernel)) ggX4_even_X0_copyFrom
set_option maxRecDepth 20000 in
theorem ggX4_even_X3_walk : GoodIn wsX4_even wsX3_walk := goodIn_r _ [37, 38, 39, 40, 41, 42, 43, 7, 44, 20, 45, 46, 47, 48, 17, 11, 9, 49, 50, 27, 51, 16, 18, 52, 23, 53, 54, 55, 56, 36, 57, 58, 59, 60, 61, 15, 13, 14, 62, 63, 64, 65, 66, 67, 68, 69, 70, 71, 72, 73, 74, 75, 76, 77, 78, 79, 80, 81, 82, 83, 84, 85, 86, 87, 88, 12, 21, 19, 10, 89, 90, 91, 92, 93, 94, 120, 121, 122, 123, 124, 125, 126, 127, 128, 129, 130, 131, 132, 133, 134, 135, 136, 137] (by decide +kernel) (by decide +kernel)
set_option maxRecDepth 20000 in
theorem gX4_even_X3_walk : GoodIn wsX4_even (wsV RX4 78 RX3 yX3_walk wsX3_walk) := goodIn_app (goodIn_of _ (by decide +kernel)) ggX4_even_X3_walk
set_option maxRecDepth 20000 in
theorem ggX4_even_X4_recorded : GoodIn wsX4_even wsX4_recorded := goodIn_r _ [98, 99, 1, 100, 101, 102, 103, 104, 105, 106, 107, 26, 27, 28, 108, 109, 110, 111, 112, 113, 5, 6, 7, 8, 9, 10, 11, 12, 13, 14, 15, 16, 17, 18, 19, 20, 21, 22, 23, 24, 25, 29, 30, 31, 32, 114, 115, 116, 117, 118, 119, 138, 139, 140, 120, 121, 122, 123, 124, 125, 126, 127, 128, 129, 130, 131, 132] (by decide +kernel) (by decide +kernel)
set_option maxRecDepth 20000 in
theorem gX4_even_X4_recorded : GoodIn wsX4_even (wsV RX4 51 RX4 yX4_recorded wsX4_recorded) := goodIn_app (goodIn_of _ (by decide +kernel)) ggX4_even_X4_recorded
theorem dX4_even_0 : decode cX4_even 0 = .ok (.aload_n 0, 1) := by decide +kernel
theorem dX4_even_1 : decode cX4_even 1 = .ok (.getfield 16, 3) := by decide +kernel
theorem dX4_even_4 : decode cX4_even 4 = .ok (.aload_n 0, 1) := by decide +kernel
theorem dX4_even_5 : decode cX4_even 5 = .ok (.getfield 10, 3) := by decide +kernel
theorem dX4_even_8 : decode cX4_even 8 = .ok (.invokevirtual 43, 3) := by decide +kernel
theorem dX4_even_11 : decode cX4_even 11 = .ok (.aload_n 0, 1) := by decide +kernel
theorem dX4_even_12 : decode cX4_even 12 = .ok (.aload_n 0, 1) := by decide +kernel
theorem dX4_even_13 : decode cX4_even 13 = .ok (.getfield 32, 3) := by decide +kernel
theorem dX4_even_16 : decode cX4_even 16 = .ok (.aload_n 0, 1) := by decide +kernel
theorem dX4_even_17 : decode cX4_even 17 = .ok (.getfield 10, 3) := by decide +kernel
theorem dX4_even_20 : decode cX4_even 20 = .ok (.iload_n 1, 1) := by decide +kernel
theorem dX4_even_21 : decode cX4_even 21 = .ok (.invokevirtual 78, 3) := by decide +kernel
theorem dX4_even_24 : decode cX4_even 24 = .ok (.invokevirtual 51, 3) := by decide +kernel
theorem dX4_even_27 : decode cX4_even 27 = .ok (.ireturn, 1) := by decide +kernel
set_option maxRecDepth 20000 in
theorem ggX4_close_X0_copyFrom : GoodIn wsX4_close wsX0_copyFrom := goodIn_r _ [7, 8, 9, 10, 11, 12, 13, 14, 15, 16, 17, 18, 19, 20, 21, 22, 23, 24, 25, 26, 27, 28, 29, 30, 31, 116, 117, 118, 119, 120, 121, 122, 123, 124, 125, 126, 127, 128] (by decide +kernel) (by decide +kernel)
set_option maxRecDepth 20000 in
theorem gX4_close_X0_copyFrom : GoodIn wsX4_close (wsV RX4 43 RX0 yX0_copyFrom wsX0_copyFrom) := goodIn_app (goodIn_of _ (by decide +kernel)) ggX4_close_X0_copyFrom
set_option maxRecDepth 20000 in
theorem ggX4_close_X0_closeServer : GoodIn wsX4_close wsX0_closeServer := goodIn_r _ [35, 15, 18, 36, 37, 38, 6, 39, 14, 40, 41, 42, 43, 13, 44, 22, 45, 46, 47, 48, 49, 16, 10, 9, 50, 51, 52, 53, 54, 55, 56, 57, 58, 59, 60, 61, 62, 63, 64, 65, 66, 67, 68, 69, 70, 71, 72, 73, 74, 75, 76, 77, 78, 8, 79, 80, 81, 82, 12, 83, 84, 85, 86, 11, 20, 87, 88, 89, 90, 116, 117, 118, 119, 120, 121, 122, 123, 124, 125, 126, 127, 128] (by decide +kernel) (by decide +kernel)
set_option maxRecDepth 20000 in
theorem gX4_close_X0_closeServer : GoodIn wsX4_close (wsV RX4 82 RX0 yX0_closeServer wsX0_closeServer) := goodIn_app (goodIn_of _ (by decide +kernel)) ggX4_close_X0_closeServer
set_option maxRecDepth 20000 in
theorem ggX4_close_X4_recorded : GoodIn wsX4_close wsX4_recorded := goodIn_r _ [94, 95, 1, 96, 97, 98, 99, 100, 101, 102, 103, 25, 26, 27, 104, 105, 106, 107, 108, 109, 4, 5, 6, 7, 8, 9, 10, 11, 12, 13, 14, 15, 16, 17, 18, 19, 20, 21, 22, 23, 24, 28, 29, 30, 31, 110, 111, 112, 113, 114, 115, 129, 130, 131, 116, 117, 118, 119, 120, 121, 122, 123, 124, 125, 126, 127, 128] (by decide +kernel) (by decide +kernel)
set_option maxRecDepth 20000 in
theorem gX4_close_X4_recorded : GoodIn wsX4_close (wsV RX4 51 RX4 yX4_recorded wsX4_recorded) := goodIn_app (goodIn_of _ (by decide +kernel)) ggX4_close_X4_recorded
theorem dX4_close_0 : decode cX4_close 0 = .ok (.aload_n 0, 1) := by decide +kernel
theorem dX4_close_1 : decode cX4_close 1 = .ok (.getfield 16, 3) := by decide +kernel
theorem dX4_close_4 : decode cX4_close 4 = .ok (.aload_n 0, 1) := by decide +kernel
theorem dX4_close_5 : decode cX4_close 5 = .ok (.getfield 10, 3) := by decide +kernel
theorem dX4_close_8 : decode cX4_close 8 = .ok (.invokevirtual 43, 3) := by decide +kernel
theorem dX4_close_11 : decode cX4_close 11 = .ok (.aload_n 0, 1) := by decide +kernel
theorem dX4_close_12 : decode cX4_close 12 = .ok (.aload_n 0, 1) := by decide +kernel
theorem dX4_close_13 : decode cX4_close 13 = .ok (.getfield 10, 3) := by decide +kernel
theorem dX4_close_16 : decode cX4_close 16 = .ok (.iload_n 1, 1) := by decide +kernel
theorem dX4_close_17 : decode cX4_close 17 = .ok (.invokevirtual 82, 3) := by decide +kernel
theorem dX4_close_20 : decode cX4_close 20 = .ok (.invokevirtual 51, 3) := by decide +kernel
theorem dX4_close_23 : decode cX4_close 23 = .ok (.ireturn, 1) := by decide +kernel
set_option maxRecDepth 20000 in
theorem ggX4_open_X0_copyFrom : GoodIn wsX4_open wsX0_copyFrom := goodIn_r _ [7, 8, 9, 10, 11, 12, 13, 14, 15, 16, 17, 18, 19, 20, 21, 22, 23, 24, 25, 26, 27, 28, 29, 30, 31, 73, 74, 75, 76, 77, 78, 79, 80, 81, 82, 83, 84, 85] (by decide +kernel) (by decide +kernel)
set_option maxRecDepth 20000 in
theorem gX4_open_X0_copyFrom : GoodIn wsX4_open (wsV RX4 43 RX0 yX0_copyFrom wsX0_copyFrom) := goodIn_app (goodIn_of _ (by decide +kernel)) ggX4_open_X0_copyFrom
set_option maxRecDepth 20000 in
theorem ggX4_open_X0_openServer : GoodIn wsX4_open wsX0_openServer := goodIn_r _ [35, 13, 15, 36, 37, 38, 6, 39, 14, 40, 41, 42, 43, 44, 22, 45, 46, 47, 73, 74, 75, 76, 77, 78, 79, 80, 81, 82, 83, 84, 85] (by decide +kernel) (by decide +kernel)
set_option maxRecDepth 20000 in
theorem gX4_open_X0_openServer : GoodIn wsX4_open (wsV RX4 85 RX0 yX0_openServer wsX0_openServer) := goodIn_app (goodIn_of _ (by decide +kernel)) ggX4_open_X0_openServer
set_option maxRecDepth 20000 in
theorem ggX4_open_X4_recorded : GoodIn wsX4_open wsX4_recorded := goodIn_r _ [51, 52, 1, 53, 54, 55, 56, 57, 58, 59, 60, 25, 26, 27, 61, 62, 63, 64, 65, 66, 4, 5, 6, 7, 8, 9, 10, 11, 12, 13, 14, 15, 16, 17, 18, 19, 20, 21, 22, 23, 24, 28, 29, 30, 31, 67, 68, 69, 70, 71, 72, 86, 87, 88, 73, 74, 75, 76, 77, 78, 79, 80, 81, 82, 83, 84, 85] (by decide +kernel) (by decide +kernel)
set_option maxRecDepth 20000 in
theorem gX4_open_X4_recorded : GoodIn wsX4_open (wsV RX4 51 RX4 yX4_recorded wsX4_recorded) := goodIn_app (goodIn_of _ (by decide +kernel)) ggX4_open_X4_recorded
theorem dX4_open_0 : decode cX4_open 0 = .ok (.aload_n 0, 1) := by decide +kernel
theorem dX4_open_1 : decode cX4_open 1 = .ok (.getfield 16, 3) := by decide +kernel
theorem dX4_open_4 : decode cX4_open 4 = .ok (.aload_n 0, 1) := by decide +kernel
theorem dX4_open_5 : decode cX4_open 5 = .ok (.getfield 10, 3) := by decide +kernel
theorem dX4_open_8 : decode cX4_open 8 = .ok (.invokevirtual 43, 3) := by decide +kernel
theorem dX4_open_11 : decode cX4_open 11 = .ok (.aload_n 0, 1) := by decide +kernel
theorem dX4_open_12 : decode cX4_open 12 = .ok (.aload_n 0, 1) := by decide +kernel
theorem dX4_open_13 : decode cX4_open 13 = .ok (.getfield 10, 3) := by decide +kernel
theorem dX4_open_16 : decode cX4_open 16 = .ok (.iload_n 1, 1) := by decide +kernel
theorem dX4_open_17 : decode cX4_open 17 = .ok (.invokevirtual 85, 3) := by decide +kernel
theorem dX4_open_20 : decode cX4_open 20 = .ok (.invokevirtual 51, 3) := by decide +kernel
theorem dX4_open_23 : decode cX4_open 23 = .ok (.ireturn, 1) := by decide +kernel
set_option maxRecDepth 20000 in
theorem ggX4_undo_X1_takeLatest : GoodIn wsX4_undo wsX1_takeLatest := goodIn_r _ [7, 8, 9, 10, 11, 12, 6, 13, 14, 15, 16, 17, 18, 19, 20, 21, 22, 23, 24, 25, 26, 27, 28, 29, 30, 31, 32, 33, 34, 35, 36, 37, 38, 39, 40, 41, 42, 43, 50, 51, 52, 53, 54, 55, 56, 57, 58, 59, 60, 61, 62, 63, 64, 65] (by decide +kernel) (by decide +kernel)
set_option maxRecDepth 20000 in
theorem gX4_undo_X1_takeLatest : GoodIn wsX4_undo (wsV RX4 88 RX1 yX1_takeLatest wsX1_takeLatest) := goodIn_app (goodIn_of _ (by decide +kernel)) ggX4_undo_X1_takeLatest
theorem dX4_undo_0 : decode cX4_undo 0 = .ok (.aload_n 0, 1) := by decide +kernel
theorem dX4_undo_1 : decode cX4_undo 1 = .ok (.getfield 25, 3) := by decide +kernel
theorem dX4_undo_4 : decode cX4_undo 4 = .ok (.aload_n 0, 1) := by decide +kernel
theorem dX4_undo_5 : decode cX4_undo 5 = .ok (.getfield 10, 3) := by decide +kernel
theorem dX4_undo_8 : decode cX4_undo 8 = .ok (.invokevirtual 88, 3) := by decide +kernel
theorem dX4_undo_11 : decode cX4_undo 11 = .ok (.ifCond .ne 6, 3) := by decide +kernel
theorem dX4_undo_14 : decode cX4_undo 14 = .ok (.bipush (-2), 2) := by decide +kernel
theorem dX4_undo_16 : decode cX4_undo 16 = .ok (.ireturn, 1) := by decide +kernel
theorem dX4_undo_17 : decode cX4_undo 17 = .ok (.aload_n 0, 1) := by decide +kernel
theorem dX4_undo_18 : decode cX4_undo 18 = .ok (.getfield 25, 3) := by decide +kernel
theorem dX4_undo_21 : decode cX4_undo 21 = .ok (.getfield 92, 3) := by decide +kernel
theorem dX4_undo_24 : decode cX4_undo 24 = .ok (.ireturn, 1) := by decide +kernel
set_option maxRecDepth 20000 in
theorem ggX4_append_X2_addSign : GoodIn wsX4_append wsX2_addSign := goodIn_r _ [6, 7, 8, 9, 10, 11, 18, 19, 20, 21, 22, 23, 24, 25] (by decide +kernel) (by decide +kernel)
set_option maxRecDepth 20000 in
theorem gX4_append_X2_addSign : GoodIn wsX4_append (wsV RX4 96 RX2 yX2_addSign wsX2_addSign) := goodIn_app (goodIn_of _ (by decide +kernel)) ggX4_append_X2_addSign
theorem dX4_append_0 : decode cX4_append 0 = .ok (.aload_n 0, 1) := by decide +kernel
theorem dX4_append_1 : decode cX4_append 1 = .ok (.getfield 39, 3) := by decide +kernel
theorem dX4_append_4 : decode cX4_append 4 = .ok (.iload_n 1, 1) := by decide +kernel
theorem dX4_append_5 : decode cX4_append 5 = .ok (.invokevirtual 96, 3) := by decide +kernel
theorem dX4_append_8 : decode cX4_append 8 = .ok (.ireturn, 1) := by decide +kernel
theorem dX4_clearText_0 : decode cX4_clearText 0 = .ok (.aload_n 0, 1) := by decide +kernel
theorem dX4_clearText_1 : decode cX4_clearText 1 = .ok (.getfield 39, 3) := by decide +kernel
theorem dX4_clearText_4 : decode cX4_clearText 4 = .ok (.getfield 99, 3) := by decide +kernel
theorem dX4_clearText_7 : decode cX4_clearText 7 = .ok (.istore_n 1, 1) := by decide +kernel
theorem dX4_clearText_8 : decode cX4_clearText 8 = .ok (.aload_n 0, 1) := by decide +kernel
theorem dX4_clearText_9 : decode cX4_clearText 9 = .ok (.getfield 39, 3) := by decide +kernel
theorem dX4_clearText_12 : decode cX4_clearText 12 = .ok (.iconst 0, 1) := by decide +kernel
theorem dX4_clearText_13 : decode cX4_clearText 13 = .ok (.putfield 99, 3) := by decide +kernel
theorem dX4_clearText_16 : decode cX4_clearText 16 = .ok (.iload_n 1, 1) := by decide +kernel
theorem dX4_clearText_17 : decode cX4_clearText 17 = .ok (.ireturn, 1) := by decide +kernel
set_option maxRecDepth 20000 in
theorem ggX4_run_X0_copyFrom : GoodIn wsX4_run wsX0_copyFrom := goodIn_r _ [8, 9, 10, 11, 12, 13, 14, 15, 16, 17, 18, 19, 20, 21, 22, 23, 24, 25, 26, 27, 28, 29, 30, 31, 32, 220, 221, 222, 223, 224, 225, 226, 227, 228, 229, 230, 231, 232] (by decide +kernel) (by decide +kernel)
set_option maxRecDepth 20000 in
theorem gX4_run_X0_copyFrom : GoodIn wsX4_run (wsV RX4 43 RX0 yX0_copyFrom wsX0_copyFrom) := goodIn_app (goodIn_of _ (by decide +kernel)) ggX4_run_X0_copyFrom
set_option maxRecDepth 20000 in
theorem ggX4_run_X4_runOrders : GoodIn wsX4_run wsX4_runOrders := goodIn_r _ [36, 3, 37, 38, 39, 40, 41, 42, 43, 44, 45, 46, 47, 48, 49, 50, 51, 23, 52, 53, 54, 55, 56, 57, 58, 59, 60, 61, 62, 63, 64, 65, 66, 67, 68, 69, 70, 71, 72, 73, 74, 75, 76, 2, 77, 78, 79, 80, 81, 7, 82, 17, 9, 10, 11, 12, 13, 18, 83, 84, 85, 86, 15, 87, 88, 89, 90, 14, 91, 92, 93, 94, 95, 96, 97, 98, 99, 100, 101, 102, 103, 104, 105, 106, 19, 107, 108, 109, 110, 21, 111, 112, 113, 114, 115, 116, 117, 118, 119, 120, 121, 122, 123, 124, 125, 126, 127, 128, 129, 130, 131, 132, 133, 134, 135, 136, 137, 138, 139, 140, 141, 142, 143, 144, 145, 146, 20, 147, 148, 149, 150, 151, 152, 27, 153, 16, 154, 155, 156, 157, 158, 159, 160, 161, 162, 163, 164, 165, 166, 167, 168, 169, 170, 171, 172, 173, 174, 175, 176, 177, 178, 179, 180, 181, 182, 183, 184, 185, 186, 206, 207, 208, 209, 210, 211, 212, 213, 214, 215, 216, 217, 218, 219, 220, 221, 222, 223, 224, 225, 226, 227, 228, 229, 230, 231, 232, 233, 234, 235, 236, 237] (by decide +kernel) (by decide +kernel)
set_option maxRecDepth 20000 in
theorem gX4_run_X4_runOrders : GoodIn wsX4_run (wsV RX4 102 RX4 yX4_runOrders wsX4_runOrders) := goodIn_app (goodIn_of _ (by decide +kernel)) ggX4_run_X4_runOrders
set_option maxRecDepth 20000 in
theorem ggX4_run_X4_recorded : GoodIn wsX4_run wsX4_recorded := goodIn_r _ [190, 191, 1, 192, 193, 194, 195, 196, 197, 198, 199, 26, 27, 28, 200, 201, 202, 203, 204, 205, 5, 6, 7, 8, 9, 10, 11, 12, 13, 14, 15, 16, 17, 18, 19, 20, 21, 22, 23, 24, 25, 29, 30, 31, 32, 206, 207, 208, 209, 210, 211, 238, 239, 240, 220, 221, 222, 223, 224, 225, 226, 227, 228, 229, 230, 231, 232] (by decide +kernel) (by decide +kernel)
set_option maxRecDepth 20000 in
theorem gX4_run_X4_recorded : GoodIn wsX4_run (wsV RX4 51 RX4 yX4_recorded wsX4_recorded) := goodIn_app (goodIn_of _ (by decide +kernel)) ggX4_run_X4_recorded
theorem dX4_run_0 : decode cX4_run 0 = .ok (.aload_n 0, 1) := by decide +kernel
theorem dX4_run_1 : decode cX4_run 1 = .ok (.getfield 16, 3) := by decide +kernel
theorem dX4_run_4 : decode cX4_run 4 = .ok (.aload_n 0, 1) := by decide +kernel
theorem dX4_run_5 : decode cX4_run 5 = .ok (.getfield 10, 3) := by decide +kernel
theorem dX4_run_8 : decode cX4_run 8 = .ok (.invokevirtual 43, 3) := by decide +kernel
theorem dX4_run_11 : decode cX4_run 11 = .ok (.aload_n 0, 1) := by decide +kernel
theorem dX4_run_12 : decode cX4_run 12 = .ok (.invokevirtual 102, 3) := by decide +kernel
theorem dX4_run_15 : decode cX4_run 15 = .ok (.istore_n 1, 1) := by decide +kernel
theorem dX4_run_16 : decode cX4_run 16 = .ok (.iload_n 1, 1) := by decide +kernel
theorem dX4_run_17 : decode cX4_run 17 = .ok (.ifCond .ge 16, 3) := by decide +kernel
theorem dX4_run_20 : decode cX4_run 20 = .ok (.aload_n 0, 1) := by decide +kernel
theorem dX4_run_21 : decode cX4_run 21 = .ok (.getfield 10, 3) := by decide +kernel
theorem dX4_run_24 : decode cX4_run 24 = .ok (.aload_n 0, 1) := by decide +kernel
theorem dX4_run_25 : decode cX4_run 25 = .ok (.getfield 16, 3) := by decide +kernel
theorem dX4_run_28 : decode cX4_run 28 = .ok (.invokevirtual 43, 3) := by decide +kernel
theorem dX4_run_31 : decode cX4_run 31 = .ok (.iload_n 1, 1) := by decide +kernel
theorem dX4_run_32 : decode cX4_run 32 = .ok (.ireturn, 1) := by decide +kernel
theorem dX4_run_33 : decode cX4_run 33 = .ok (.aload_n 0, 1) := by decide +kernel
theorem dX4_run_34 : decode cX4_run 34 = .ok (.getfield 39, 3) := by decide +kernel
theorem dX4_run_37 : decode cX4_run 37 = .ok (.iconst 0, 1) := by decide +kernel
theorem dX4_run_38 : decode cX4_run 38 = .ok (.putfield 99, 3) := by decide +kernel
theorem dX4_run_41 : decode cX4_run 41 = .ok (.aload_n 0, 1) := by decide +kernel
theorem dX4_run_42 : decode cX4_run 42 = .ok (.iload_n 1, 1) := by decide +kernel
theorem dX4_run_43 : decode cX4_run 43 = .ok (.invokevirtual 51, 3) := by decide +kernel
theorem dX4_run_46 : decode cX4_run 46 = .ok (.ireturn, 1) := by decide +kernel
set_option maxRecDepth 20000 in
theorem ggX4_count_X0_finishedJobs : GoodIn wsX4_count wsX0_finishedJobs := goodIn_r _ [8, 9, 10, 11, 12, 7, 13, 14, 15, 16, 17, 63, 64, 65, 66, 67, 68, 69, 70, 71, 72, 73, 74, 75] (by decide +kernel) (by decide +kernel)
set_option maxRecDepth 20000 in
theorem gX4_count_X0_finishedJobs : GoodIn wsX4_count (wsV RX4 114 RX0 yX0_finishedJobs wsX0_finishedJobs) := goodIn_app (goodIn_of _ (by decide +kernel)) ggX4_count_X0_finishedJobs
set_option maxRecDepth 20000 in
theorem ggX4_count_X0_greatestLoad : GoodIn wsX4_count wsX0_greatestLoad := goodIn_r _ [21, 22, 23, 24, 25, 7, 26, 27, 28, 15, 16, 17, 63, 64, 65, 66, 67, 68, 69, 70, 71, 72, 73, 74, 75] (by decide +kernel) (by decide +kernel)
set_option maxRecDepth 20000 in
theorem gX4_count_X0_greatestLoad : GoodIn wsX4_count (wsV RX4 120 RX0 yX0_greatestLoad wsX0_greatestLoad) := goodIn_app (goodIn_of _ (by decide +kernel)) ggX4_count_X0_greatestLoad
set_option maxRecDepth 20000 in
theorem ggX4_count_X0_emptiestServer : GoodIn wsX4_count wsX0_emptiestServer := goodIn_r _ [32, 27, 22, 28, 15, 16, 17, 63, 64, 65, 66, 67, 68, 69, 70, 71, 72, 73, 74, 75] (by decide +kernel) (by decide +kernel)
set_option maxRecDepth 20000 in
theorem gX4_count_X0_emptiestServer : GoodIn wsX4_count (wsV RX4 127 RX0 yX0_emptiestServer wsX0_emptiestServer) := goodIn_app (goodIn_of _ (by decide +kernel)) ggX4_count_X0_emptiestServer
set_option maxRecDepth 20000 in
theorem ggX4_count_X4_at : GoodIn wsX4_count wsX4_at := goodIn_r _ [17] (by decide +kernel) (by decide +kernel)
set_option maxRecDepth 20000 in
theorem gX4_count_X4_at : GoodIn wsX4_count (va_wsS RX4 130 yX4_at wsX4_at) := goodIn_app (goodIn_of _ (by decide +kernel)) ggX4_count_X4_at
set_option maxRecDepth 20000 in
theorem ggX4_count_X0_bound : GoodIn wsX4_count wsX0_bound := goodIn_r _ [37, 9, 14, 38, 39, 40, 41, 42, 43, 44, 15, 16, 17, 63, 64, 65, 66, 67, 68, 69, 70, 71, 72, 73, 74, 75] (by decide +kernel) (by decide +kernel)
set_option maxRecDepth 20000 in
theorem gX4_count_X0_bound : GoodIn wsX4_count (wsV RX4 134 RX0 yX0_bound wsX0_bound) := goodIn_app (goodIn_of _ (by decide +kernel)) ggX4_count_X0_bound
set_option maxRecDepth 20000 in
theorem ggX4_count_X0_target : GoodIn wsX4_count wsX0_target := goodIn_r _ [48, 49, 50, 35, 36, 7, 37, 9, 14, 38, 39, 40, 41, 42, 43, 44, 15, 16, 17, 63, 64, 65, 66, 67, 68, 69, 70, 71, 72, 73, 74, 75] (by decide +kernel) (by decide +kernel)
set_option maxRecDepth 20000 in
theorem gX4_count_X0_target : GoodIn wsX4_count (wsV RX4 137 RX0 yX0_target wsX0_target) := goodIn_app (goodIn_of _ (by decide +kernel)) ggX4_count_X0_target
set_option maxRecDepth 20000 in
theorem ggX4_count_X0_isEven : GoodIn wsX4_count wsX0_isEven := goodIn_r _ [54, 55, 19, 20, 7, 21, 22, 23, 24, 25, 26, 27, 28, 15, 16, 17, 56, 46, 47, 48, 49, 50, 35, 36, 37, 9, 14, 38, 39, 40, 41, 42, 43, 44, 63, 64, 65, 66, 67, 68, 69, 70, 71, 72, 73, 74, 75] (by decide +kernel) (by decide +kernel)
set_option maxRecDepth 20000 in
theorem gX4_count_X0_isEven : GoodIn wsX4_count (wsV RX4 140 RX0 yX0_isEven wsX0_isEven) := goodIn_app (goodIn_of _ (by decide +kernel)) ggX4_count_X0_isEven
theorem dX4_count_0 : decode cX4_count 0 = .ok (.iload_n 1, 1) := by decide +kernel
theorem dX4_count_1 : decode cX4_count 1 = .ok (.tableswitch 213 0 14 #[75, 83, 91, 99, 107, 115, 123, 141, 149, 157, 173, 181, 189, 197, 205], 75) := by decide +kernel
theorem dX4_count_76 : decode cX4_count 76 = .ok (.aload_n 0, 1) := by decide +kernel
theorem dX4_count_77 : decode cX4_count 77 = .ok (.getfield 10, 3) := by decide +kernel
theorem dX4_count_80 : decode cX4_count 80 = .ok (.getfield 105, 3) := by decide +kernel
theorem dX4_count_83 : decode cX4_count 83 = .ok (.ireturn, 1) := by decide +kernel
theorem dX4_count_84 : decode cX4_count 84 = .ok (.aload_n 0, 1) := by decide +kernel
theorem dX4_count_85 : decode cX4_count 85 = .ok (.getfield 10, 3) := by decide +kernel
theorem dX4_count_88 : decode cX4_count 88 = .ok (.getfield 108, 3) := by decide +kernel
theorem dX4_count_91 : decode cX4_count 91 = .ok (.ireturn, 1) := by decide +kernel
theorem dX4_count_92 : decode cX4_count 92 = .ok (.aload_n 0, 1) := by decide +kernel
theorem dX4_count_93 : decode cX4_count 93 = .ok (.getfield 10, 3) := by decide +kernel
theorem dX4_count_96 : decode cX4_count 96 = .ok (.getfield 111, 3) := by decide +kernel
theorem dX4_count_99 : decode cX4_count 99 = .ok (.ireturn, 1) := by decide +kernel
theorem dX4_count_100 : decode cX4_count 100 = .ok (.aload_n 0, 1) := by decide +kernel
theorem dX4_count_101 : decode cX4_count 101 = .ok (.getfield 10, 3) := by decide +kernel
theorem dX4_count_104 : decode cX4_count 104 = .ok (.invokevirtual 114, 3) := by decide +kernel
theorem dX4_count_107 : decode cX4_count 107 = .ok (.ireturn, 1) := by decide +kernel
theorem dX4_count_108 : decode cX4_count 108 = .ok (.aload_n 0, 1) := by decide +kernel
theorem dX4_count_109 : decode cX4_count 109 = .ok (.getfield 10, 3) := by decide +kernel
theorem dX4_count_112 : decode cX4_count 112 = .ok (.getfield 117, 3) := by decide +kernel
theorem dX4_count_115 : decode cX4_count 115 = .ok (.ireturn, 1) := by decide +kernel
theorem dX4_count_116 : decode cX4_count 116 = .ok (.aload_n 0, 1) := by decide +kernel
theorem dX4_count_117 : decode cX4_count 117 = .ok (.getfield 10, 3) := by decide +kernel
theorem dX4_count_120 : decode cX4_count 120 = .ok (.invokevirtual 120, 3) := by decide +kernel
theorem dX4_count_123 : decode cX4_count 123 = .ok (.ireturn, 1) := by decide +kernel
theorem dX4_count_124 : decode cX4_count 124 = .ok (.aload_n 0, 1) := by decide +kernel
theorem dX4_count_125 : decode cX4_count 125 = .ok (.getfield 10, 3) := by decide +kernel
theorem dX4_count_128 : decode cX4_count 128 = .ok (.getfield 123, 3) := by decide +kernel
theorem dX4_count_131 : decode cX4_count 131 = .ok (.aload_n 0, 1) := by decide +kernel
theorem dX4_count_132 : decode cX4_count 132 = .ok (.getfield 10, 3) := by decide +kernel
theorem dX4_count_135 : decode cX4_count 135 = .ok (.invokevirtual 127, 3) := by decide +kernel
theorem dX4_count_138 : decode cX4_count 138 = .ok (.invokestatic 130, 3) := by decide +kernel
theorem dX4_count_141 : decode cX4_count 141 = .ok (.ireturn, 1) := by decide +kernel
theorem dX4_count_142 : decode cX4_count 142 = .ok (.aload_n 0, 1) := by decide +kernel
theorem dX4_count_143 : decode cX4_count 143 = .ok (.getfield 10, 3) := by decide +kernel
theorem dX4_count_146 : decode cX4_count 146 = .ok (.invokevirtual 134, 3) := by decide +kernel
theorem dX4_count_149 : decode cX4_count 149 = .ok (.ireturn, 1) := by decide +kernel
theorem dX4_count_150 : decode cX4_count 150 = .ok (.aload_n 0, 1) := by decide +kernel
theorem dX4_count_151 : decode cX4_count 151 = .ok (.getfield 10, 3) := by decide +kernel
theorem dX4_count_154 : decode cX4_count 154 = .ok (.invokevirtual 137, 3) := by decide +kernel
theorem dX4_count_157 : decode cX4_count 157 = .ok (.ireturn, 1) := by decide +kernel
theorem dX4_count_158 : decode cX4_count 158 = .ok (.aload_n 0, 1) := by decide +kernel
theorem dX4_count_159 : decode cX4_count 159 = .ok (.getfield 10, 3) := by decide +kernel
theorem dX4_count_162 : decode cX4_count 162 = .ok (.invokevirtual 140, 3) := by decide +kernel
theorem dX4_count_165 : decode cX4_count 165 = .ok (.ifCond .eq 7, 3) := by decide +kernel
theorem dX4_count_168 : decode cX4_count 168 = .ok (.iconst 1, 1) := by decide +kernel
theorem dX4_count_169 : decode cX4_count 169 = .ok (.goto 4, 3) := by decide +kernel
theorem dX4_count_172 : decode cX4_count 172 = .ok (.iconst 0, 1) := by decide +kernel
theorem dX4_count_173 : decode cX4_count 173 = .ok (.ireturn, 1) := by decide +kernel
theorem dX4_count_174 : decode cX4_count 174 = .ok (.aload_n 0, 1) := by decide +kernel
theorem dX4_count_175 : decode cX4_count 175 = .ok (.getfield 10, 3) := by decide +kernel
theorem dX4_count_178 : decode cX4_count 178 = .ok (.getfield 144, 3) := by decide +kernel
theorem dX4_count_181 : decode cX4_count 181 = .ok (.ireturn, 1) := by decide +kernel
theorem dX4_count_182 : decode cX4_count 182 = .ok (.aload_n 0, 1) := by decide +kernel
theorem dX4_count_183 : decode cX4_count 183 = .ok (.getfield 10, 3) := by decide +kernel
theorem dX4_count_186 : decode cX4_count 186 = .ok (.getfield 147, 3) := by decide +kernel
theorem dX4_count_189 : decode cX4_count 189 = .ok (.ireturn, 1) := by decide +kernel
theorem dX4_count_190 : decode cX4_count 190 = .ok (.aload_n 0, 1) := by decide +kernel
theorem dX4_count_191 : decode cX4_count 191 = .ok (.getfield 10, 3) := by decide +kernel
theorem dX4_count_194 : decode cX4_count 194 = .ok (.getfield 150, 3) := by decide +kernel
theorem dX4_count_197 : decode cX4_count 197 = .ok (.ireturn, 1) := by decide +kernel
theorem dX4_count_198 : decode cX4_count 198 = .ok (.aload_n 0, 1) := by decide +kernel
theorem dX4_count_199 : decode cX4_count 199 = .ok (.getfield 25, 3) := by decide +kernel
theorem dX4_count_202 : decode cX4_count 202 = .ok (.getfield 92, 3) := by decide +kernel
theorem dX4_count_205 : decode cX4_count 205 = .ok (.ireturn, 1) := by decide +kernel
theorem dX4_count_206 : decode cX4_count 206 = .ok (.aload_n 0, 1) := by decide +kernel
theorem dX4_count_207 : decode cX4_count 207 = .ok (.getfield 39, 3) := by decide +kernel
theorem dX4_count_210 : decode cX4_count 210 = .ok (.getfield 99, 3) := by decide +kernel
theorem dX4_count_213 : decode cX4_count 213 = .ok (.ireturn, 1) := by decide +kernel
theorem dX4_count_214 : decode cX4_count 214 = .ok (.iconst (-1), 1) := by decide +kernel
theorem dX4_count_215 : decode cX4_count 215 = .ok (.ireturn, 1) := by decide +kernel
set_option maxRecDepth 20000 in
theorem ggX4_server_X0_hasServer : GoodIn wsX4_server wsX0_hasServer := goodIn_r _ [6, 7, 36, 37, 38, 39, 40, 41, 42, 43, 44, 45, 46, 47, 48] (by decide +kernel) (by decide +kernel)
set_option maxRecDepth 20000 in
theorem gX4_server_X0_hasServer : GoodIn wsX4_server (wsV RX4 153 RX0 yX0_hasServer wsX0_hasServer) := goodIn_app (goodIn_of _ (by decide +kernel)) ggX4_server_X0_hasServer
set_option maxRecDepth 20000 in
theorem ggX4_server_X0_isOpen : GoodIn wsX4_server wsX0_isOpen := goodIn_r _ [11, 12, 13, 14, 15, 36, 37, 38, 39, 40, 41, 42, 43, 44, 45, 46, 47, 48] (by decide +kernel) (by decide +kernel)
set_option maxRecDepth 20000 in
theorem gX4_server_X0_isOpen : GoodIn wsX4_server (wsV RX4 157 RX0 yX0_isOpen wsX0_isOpen) := goodIn_app (goodIn_of _ (by decide +kernel)) ggX4_server_X0_isOpen
set_option maxRecDepth 20000 in
theorem ggX4_server_X4_at : GoodIn wsX4_server wsX4_at := goodIn_r _ [15] (by decide +kernel) (by decide +kernel)
set_option maxRecDepth 20000 in
theorem gX4_server_X4_at : GoodIn wsX4_server (va_wsS RX4 130 yX4_at wsX4_at) := goodIn_app (goodIn_of _ (by decide +kernel)) ggX4_server_X4_at
set_option maxRecDepth 20000 in
theorem ggX4_server_X0_jobsOn : GoodIn wsX4_server wsX0_jobsOn := goodIn_r _ [20, 21, 22, 13, 14, 15, 36, 37, 38, 39, 40, 41, 42, 43, 44, 45, 46, 47, 48] (by decide +kernel) (by decide +kernel)
set_option maxRecDepth 20000 in
theorem gX4_server_X0_jobsOn : GoodIn wsX4_server (wsV RX4 160 RX0 yX0_jobsOn wsX0_jobsOn) := goodIn_app (goodIn_of _ (by decide +kernel)) ggX4_server_X0_jobsOn
set_option maxRecDepth 20000 in
theorem ggX4_server_J6_bitCount_0f7a4 : GoodIn wsX4_server wsJ6_bitCount_0f7a4 := goodIn_r _ [26, 27, 28, 29] (by decide +kernel) (by decide +kernel)
set_option maxRecDepth 20000 in
theorem gX4_server_J6_bitCount_0f7a4 : GoodIn wsX4_server (va_wsS RX4 163 yJ6_bitCount_0f7a4 wsJ6_bitCount_0f7a4) := goodIn_app (goodIn_of _ (by decide +kernel)) ggX4_server_J6_bitCount_0f7a4
theorem dX4_server_0 : decode cX4_server 0 = .ok (.aload_n 0, 1) := by decide +kernel
theorem dX4_server_1 : decode cX4_server 1 = .ok (.getfield 10, 3) := by decide +kernel
theorem dX4_server_4 : decode cX4_server 4 = .ok (.iload_n 1, 1) := by decide +kernel
theorem dX4_server_5 : decode cX4_server 5 = .ok (.invokevirtual 153, 3) := by decide +kernel
theorem dX4_server_8 : decode cX4_server 8 = .ok (.ifCond .ne 5, 3) := by decide +kernel
theorem dX4_server_11 : decode cX4_server 11 = .ok (.iconst (-1), 1) := by decide +kernel
theorem dX4_server_12 : decode cX4_server 12 = .ok (.ireturn, 1) := by decide +kernel
theorem dX4_server_13 : decode cX4_server 13 = .ok (.iload_n 2, 1) := by decide +kernel
theorem dX4_server_14 : decode cX4_server 14 = .ok (.tableswitch 122 0 4 #[34, 51, 63, 75, 113], 34) := by decide +kernel
theorem dX4_server_48 : decode cX4_server 48 = .ok (.aload_n 0, 1) := by decide +kernel
theorem dX4_server_49 : decode cX4_server 49 = .ok (.getfield 10, 3) := by decide +kernel
theorem dX4_server_52 : decode cX4_server 52 = .ok (.iload_n 1, 1) := by decide +kernel
theorem dX4_server_53 : decode cX4_server 53 = .ok (.invokevirtual 157, 3) := by decide +kernel
theorem dX4_server_56 : decode cX4_server 56 = .ok (.ifCond .eq 7, 3) := by decide +kernel
theorem dX4_server_59 : decode cX4_server 59 = .ok (.iconst 1, 1) := by decide +kernel
theorem dX4_server_60 : decode cX4_server 60 = .ok (.goto 4, 3) := by decide +kernel
theorem dX4_server_63 : decode cX4_server 63 = .ok (.iconst 0, 1) := by decide +kernel
theorem dX4_server_64 : decode cX4_server 64 = .ok (.ireturn, 1) := by decide +kernel
theorem dX4_server_65 : decode cX4_server 65 = .ok (.aload_n 0, 1) := by decide +kernel
theorem dX4_server_66 : decode cX4_server 66 = .ok (.getfield 10, 3) := by decide +kernel
theorem dX4_server_69 : decode cX4_server 69 = .ok (.getfield 123, 3) := by decide +kernel
theorem dX4_server_72 : decode cX4_server 72 = .ok (.iload_n 1, 1) := by decide +kernel
theorem dX4_server_73 : decode cX4_server 73 = .ok (.invokestatic 130, 3) := by decide +kernel
theorem dX4_server_76 : decode cX4_server 76 = .ok (.ireturn, 1) := by decide +kernel
theorem dX4_server_77 : decode cX4_server 77 = .ok (.aload_n 0, 1) := by decide +kernel
theorem dX4_server_78 : decode cX4_server 78 = .ok (.getfield 10, 3) := by decide +kernel
theorem dX4_server_81 : decode cX4_server 81 = .ok (.iload_n 1, 1) := by decide +kernel
theorem dX4_server_82 : decode cX4_server 82 = .ok (.invokevirtual 160, 3) := by decide +kernel
theorem dX4_server_85 : decode cX4_server 85 = .ok (.invokestatic 163, 3) := by decide +kernel
theorem dX4_server_88 : decode cX4_server 88 = .ok (.ireturn, 1) := by decide +kernel
theorem dX4_server_89 : decode cX4_server 89 = .ok (.aload_n 0, 1) := by decide +kernel
theorem dX4_server_90 : decode cX4_server 90 = .ok (.getfield 10, 3) := by decide +kernel
theorem dX4_server_93 : decode cX4_server 93 = .ok (.getfield 117, 3) := by decide +kernel
theorem dX4_server_96 : decode cX4_server 96 = .ok (.ifCond .le 29, 3) := by decide +kernel
theorem dX4_server_99 : decode cX4_server 99 = .ok (.aload_n 0, 1) := by decide +kernel
theorem dX4_server_100 : decode cX4_server 100 = .ok (.getfield 10, 3) := by decide +kernel
theorem dX4_server_103 : decode cX4_server 103 = .ok (.getfield 123, 3) := by decide +kernel
theorem dX4_server_106 : decode cX4_server 106 = .ok (.iload_n 1, 1) := by decide +kernel
theorem dX4_server_107 : decode cX4_server 107 = .ok (.invokestatic 130, 3) := by decide +kernel
theorem dX4_server_110 : decode cX4_server 110 = .ok (.sipush 1000, 3) := by decide +kernel
theorem dX4_server_113 : decode cX4_server 113 = .ok (.imul, 1) := by decide +kernel
theorem dX4_server_114 : decode cX4_server 114 = .ok (.aload_n 0, 1) := by decide +kernel
theorem dX4_server_115 : decode cX4_server 115 = .ok (.getfield 10, 3) := by decide +kernel
theorem dX4_server_118 : decode cX4_server 118 = .ok (.getfield 117, 3) := by decide +kernel
theorem dX4_server_121 : decode cX4_server 121 = .ok (.idiv, 1) := by decide +kernel
theorem dX4_server_122 : decode cX4_server 122 = .ok (.goto 4, 3) := by decide +kernel
theorem dX4_server_125 : decode cX4_server 125 = .ok (.iconst 0, 1) := by decide +kernel
theorem dX4_server_126 : decode cX4_server 126 = .ok (.ireturn, 1) := by decide +kernel
theorem dX4_server_127 : decode cX4_server 127 = .ok (.aload_n 0, 1) := by decide +kernel
theorem dX4_server_128 : decode cX4_server 128 = .ok (.getfield 10, 3) := by decide +kernel
theorem dX4_server_131 : decode cX4_server 131 = .ok (.iload_n 1, 1) := by decide +kernel
theorem dX4_server_132 : decode cX4_server 132 = .ok (.invokevirtual 160, 3) := by decide +kernel
theorem dX4_server_135 : decode cX4_server 135 = .ok (.ireturn, 1) := by decide +kernel
theorem dX4_server_136 : decode cX4_server 136 = .ok (.iconst (-1), 1) := by decide +kernel
theorem dX4_server_137 : decode cX4_server 137 = .ok (.ireturn, 1) := by decide +kernel
set_option maxRecDepth 20000 in
theorem ggX4_job_X0_hasJob : GoodIn wsX4_job wsX0_hasJob := goodIn_r _ [6, 7, 18, 19, 20, 21, 22, 23, 24, 25, 26, 27, 28, 29, 30] (by decide +kernel) (by decide +kernel)
set_option maxRecDepth 20000 in
theorem gX4_job_X0_hasJob : GoodIn wsX4_job (wsV RX4 168 RX0 yX0_hasJob wsX0_hasJob) := goodIn_app (goodIn_of _ (by decide +kernel)) ggX4_job_X0_hasJob
set_option maxRecDepth 20000 in
theorem ggX4_job_X4_at : GoodIn wsX4_job wsX4_at := goodIn_r _ [11] (by decide +kernel) (by decide +kernel)
set_option maxRecDepth 20000 in
theorem gX4_job_X4_at : GoodIn wsX4_job (va_wsS RX4 130 yX4_at wsX4_at) := goodIn_app (goodIn_of _ (by decide +kernel)) ggX4_job_X4_at
theorem dX4_job_0 : decode cX4_job 0 = .ok (.aload_n 0, 1) := by decide +kernel
theorem dX4_job_1 : decode cX4_job 1 = .ok (.getfield 10, 3) := by decide +kernel
theorem dX4_job_4 : decode cX4_job 4 = .ok (.iload_n 1, 1) := by decide +kernel
theorem dX4_job_5 : decode cX4_job 5 = .ok (.invokevirtual 168, 3) := by decide +kernel
theorem dX4_job_8 : decode cX4_job 8 = .ok (.ifCond .ne 5, 3) := by decide +kernel
theorem dX4_job_11 : decode cX4_job 11 = .ok (.iconst (-1), 1) := by decide +kernel
theorem dX4_job_12 : decode cX4_job 12 = .ok (.ireturn, 1) := by decide +kernel
theorem dX4_job_13 : decode cX4_job 13 = .ok (.iload_n 2, 1) := by decide +kernel
theorem dX4_job_14 : decode cX4_job 14 = .ok (.tableswitch 78 0 3 #[30, 42, 54, 66], 30) := by decide +kernel
theorem dX4_job_44 : decode cX4_job 44 = .ok (.aload_n 0, 1) := by decide +kernel
theorem dX4_job_45 : decode cX4_job 45 = .ok (.getfield 10, 3) := by decide +kernel
theorem dX4_job_48 : decode cX4_job 48 = .ok (.getfield 171, 3) := by decide +kernel
theorem dX4_job_51 : decode cX4_job 51 = .ok (.iload_n 1, 1) := by decide +kernel
theorem dX4_job_52 : decode cX4_job 52 = .ok (.invokestatic 130, 3) := by decide +kernel
theorem dX4_job_55 : decode cX4_job 55 = .ok (.ireturn, 1) := by decide +kernel
theorem dX4_job_56 : decode cX4_job 56 = .ok (.aload_n 0, 1) := by decide +kernel
theorem dX4_job_57 : decode cX4_job 57 = .ok (.getfield 10, 3) := by decide +kernel
theorem dX4_job_60 : decode cX4_job 60 = .ok (.getfield 174, 3) := by decide +kernel
theorem dX4_job_63 : decode cX4_job 63 = .ok (.iload_n 1, 1) := by decide +kernel
theorem dX4_job_64 : decode cX4_job 64 = .ok (.invokestatic 130, 3) := by decide +kernel
theorem dX4_job_67 : decode cX4_job 67 = .ok (.ireturn, 1) := by decide +kernel
theorem dX4_job_68 : decode cX4_job 68 = .ok (.aload_n 0, 1) := by decide +kernel
theorem dX4_job_69 : decode cX4_job 69 = .ok (.getfield 10, 3) := by decide +kernel
theorem dX4_job_72 : decode cX4_job 72 = .ok (.getfield 177, 3) := by decide +kernel
theorem dX4_job_75 : decode cX4_job 75 = .ok (.iload_n 1, 1) := by decide +kernel
theorem dX4_job_76 : decode cX4_job 76 = .ok (.invokestatic 130, 3) := by decide +kernel
theorem dX4_job_79 : decode cX4_job 79 = .ok (.ireturn, 1) := by decide +kernel
theorem dX4_job_80 : decode cX4_job 80 = .ok (.aload_n 0, 1) := by decide +kernel
theorem dX4_job_81 : decode cX4_job 81 = .ok (.getfield 10, 3) := by decide +kernel
theorem dX4_job_84 : decode cX4_job 84 = .ok (.getfield 180, 3) := by decide +kernel
theorem dX4_job_87 : decode cX4_job 87 = .ok (.iload_n 1, 1) := by decide +kernel
theorem dX4_job_88 : decode cX4_job 88 = .ok (.invokestatic 130, 3) := by decide +kernel
theorem dX4_job_91 : decode cX4_job 91 = .ok (.ireturn, 1) := by decide +kernel
theorem dX4_job_92 : decode cX4_job 92 = .ok (.iconst (-1), 1) := by decide +kernel
theorem dX4_job_93 : decode cX4_job 93 = .ok (.ireturn, 1) := by decide +kernel
set_option maxRecDepth 20000 in
theorem ggX4_leaving_X0_hasServer : GoodIn wsX4_leaving wsX0_hasServer := goodIn_r _ [6, 7, 33, 34, 35, 36, 37, 38, 39, 40, 41, 42, 43, 44, 45] (by decide +kernel) (by decide +kernel)
set_option maxRecDepth 20000 in
theorem gX4_leaving_X0_hasServer : GoodIn wsX4_leaving (wsV RX4 153 RX0 yX0_hasServer wsX0_hasServer) := goodIn_app (goodIn_of _ (by decide +kernel)) ggX4_leaving_X0_hasServer
set_option maxRecDepth 20000 in
theorem ggX4_leaving_X0_leavingJob : GoodIn wsX4_leaving wsX0_leavingJob := goodIn_r _ [11, 12, 13, 14, 15, 16, 17, 18, 19, 5, 20, 21, 22, 23, 24, 25, 26, 33, 34, 35, 36, 37, 38, 39, 40, 41, 42, 43, 44, 45] (by decide +kernel) (by decide +kernel)
set_option maxRecDepth 20000 in
theorem gX4_leaving_X0_leavingJob : GoodIn wsX4_leaving (wsV RX4 183 RX0 yX0_leavingJob wsX0_leavingJob) := goodIn_app (goodIn_of _ (by decide +kernel)) ggX4_leaving_X0_leavingJob
theorem dX4_leaving_0 : decode cX4_leaving 0 = .ok (.aload_n 0, 1) := by decide +kernel
theorem dX4_leaving_1 : decode cX4_leaving 1 = .ok (.getfield 10, 3) := by decide +kernel
theorem dX4_leaving_4 : decode cX4_leaving 4 = .ok (.iload_n 1, 1) := by decide +kernel
theorem dX4_leaving_5 : decode cX4_leaving 5 = .ok (.invokevirtual 153, 3) := by decide +kernel
theorem dX4_leaving_8 : decode cX4_leaving 8 = .ok (.ifCond .eq 7, 3) := by decide +kernel
theorem dX4_leaving_11 : decode cX4_leaving 11 = .ok (.iload_n 2, 1) := by decide +kernel
theorem dX4_leaving_12 : decode cX4_leaving 12 = .ok (.ifCond .ge 5, 3) := by decide +kernel
theorem dX4_leaving_15 : decode cX4_leaving 15 = .ok (.iconst (-1), 1) := by decide +kernel
theorem dX4_leaving_16 : decode cX4_leaving 16 = .ok (.ireturn, 1) := by decide +kernel
theorem dX4_leaving_17 : decode cX4_leaving 17 = .ok (.aload_n 0, 1) := by decide +kernel
theorem dX4_leaving_18 : decode cX4_leaving 18 = .ok (.getfield 10, 3) := by decide +kernel
theorem dX4_leaving_21 : decode cX4_leaving 21 = .ok (.iload_n 1, 1) := by decide +kernel
theorem dX4_leaving_22 : decode cX4_leaving 22 = .ok (.iload_n 2, 1) := by decide +kernel
theorem dX4_leaving_23 : decode cX4_leaving 23 = .ok (.invokevirtual 183, 3) := by decide +kernel
theorem dX4_leaving_26 : decode cX4_leaving 26 = .ok (.ireturn, 1) := by decide +kernel
set_option maxRecDepth 20000 in
theorem ggX4_step_X0_target : GoodIn wsX4_step wsX0_target := goodIn_r _ [7, 8, 9, 10, 11, 6, 12, 13, 14, 15, 16, 17, 18, 19, 20, 21, 22, 23, 24, 74, 75, 76, 77, 78, 79, 80, 81, 82, 83, 84, 85, 86] (by decide +kernel) (by decide +kernel)
set_option maxRecDepth 20000 in
theorem gX4_step_X0_target : GoodIn wsX4_step (wsV RX4 137 RX0 yX0_target wsX0_target) := goodIn_app (goodIn_of _ (by decide +kernel)) ggX4_step_X0_target
set_option maxRecDepth 20000 in
theorem ggX4_step_X3_choose : GoodIn wsX4_step wsX3_choose := goodIn_r _ [29, 30, 31, 32, 6, 33, 34, 35, 36, 22, 23, 24, 37, 38, 39, 28, 40, 41, 17, 18, 19, 42, 43, 44, 45, 46, 47, 48, 49, 50, 51, 52, 53, 54, 55, 56, 57, 58, 59, 60, 61, 62, 74, 75, 76, 77, 78, 79, 80, 81, 82, 83, 84, 85, 86, 69, 70, 71, 72, 73] (by decide +kernel) (by decide +kernel)
set_option maxRecDepth 20000 in
theorem gX4_step_X3_choose : GoodIn wsX4_step (wsV RX4 186 RX3 yX3_choose wsX3_choose) := goodIn_app (goodIn_of _ (by decide +kernel)) ggX4_step_X3_choose
theorem dX4_step_0 : decode cX4_step 0 = .ok (.iload_n 1, 1) := by decide +kernel
theorem dX4_step_1 : decode cX4_step 1 = .ok (.ifCond .lt 8, 3) := by decide +kernel
theorem dX4_step_4 : decode cX4_step 4 = .ok (.iload_n 1, 1) := by decide +kernel
theorem dX4_step_5 : decode cX4_step 5 = .ok (.iconst 3, 1) := by decide +kernel
theorem dX4_step_6 : decode cX4_step 6 = .ok (.if_icmp .le 5, 3) := by decide +kernel
theorem dX4_step_9 : decode cX4_step 9 = .ok (.iconst (-1), 1) := by decide +kernel
theorem dX4_step_10 : decode cX4_step 10 = .ok (.ireturn, 1) := by decide +kernel
theorem dX4_step_11 : decode cX4_step 11 = .ok (.aload_n 0, 1) := by decide +kernel
theorem dX4_step_12 : decode cX4_step 12 = .ok (.getfield 32, 3) := by decide +kernel
theorem dX4_step_15 : decode cX4_step 15 = .ok (.aload_n 0, 1) := by decide +kernel
theorem dX4_step_16 : decode cX4_step 16 = .ok (.getfield 10, 3) := by decide +kernel
theorem dX4_step_19 : decode cX4_step 19 = .ok (.aload_n 0, 1) := by decide +kernel
theorem dX4_step_20 : decode cX4_step 20 = .ok (.getfield 10, 3) := by decide +kernel
theorem dX4_step_23 : decode cX4_step 23 = .ok (.invokevirtual 137, 3) := by decide +kernel
theorem dX4_step_26 : decode cX4_step 26 = .ok (.invokevirtual 186, 3) := by decide +kernel
theorem dX4_step_29 : decode cX4_step 29 = .ok (.ifCond .ne 6, 3) := by decide +kernel
theorem dX4_step_32 : decode cX4_step 32 = .ok (.bipush (-9), 2) := by decide +kernel
theorem dX4_step_34 : decode cX4_step 34 = .ok (.ireturn, 1) := by decide +kernel
theorem dX4_step_35 : decode cX4_step 35 = .ok (.iload_n 1, 1) := by decide +kernel
theorem dX4_step_36 : decode cX4_step 36 = .ok (.tableswitch 52 0 2 #[28, 36, 44], 28) := by decide +kernel
theorem dX4_step_64 : decode cX4_step 64 = .ok (.aload_n 0, 1) := by decide +kernel
theorem dX4_step_65 : decode cX4_step 65 = .ok (.getfield 32, 3) := by decide +kernel
theorem dX4_step_68 : decode cX4_step 68 = .ok (.getfield 190, 3) := by decide +kernel
theorem dX4_step_71 : decode cX4_step 71 = .ok (.ireturn, 1) := by decide +kernel
theorem dX4_step_72 : decode cX4_step 72 = .ok (.aload_n 0, 1) := by decide +kernel
theorem dX4_step_73 : decode cX4_step 73 = .ok (.getfield 32, 3) := by decide +kernel
theorem dX4_step_76 : decode cX4_step 76 = .ok (.getfield 193, 3) := by decide +kernel
theorem dX4_step_79 : decode cX4_step 79 = .ok (.ireturn, 1) := by decide +kernel
theorem dX4_step_80 : decode cX4_step 80 = .ok (.aload_n 0, 1) := by decide +kernel
theorem dX4_step_81 : decode cX4_step 81 = .ok (.getfield 32, 3) := by decide +kernel
theorem dX4_step_84 : decode cX4_step 84 = .ok (.getfield 196, 3) := by decide +kernel
theorem dX4_step_87 : decode cX4_step 87 = .ok (.ireturn, 1) := by decide +kernel
theorem dX4_step_88 : decode cX4_step 88 = .ok (.aload_n 0, 1) := by decide +kernel
theorem dX4_step_89 : decode cX4_step 89 = .ok (.getfield 32, 3) := by decide +kernel
theorem dX4_step_92 : decode cX4_step 92 = .ok (.getfield 199, 3) := by decide +kernel
theorem dX4_step_95 : decode cX4_step 95 = .ok (.ireturn, 1) := by decide +kernel
set_option maxRecDepth 20000 in
theorem ggX4_plan_X0_copyFrom : GoodIn wsX4_plan wsX0_copyFrom := goodIn_r _ [8, 9, 10, 11, 12, 13, 14, 15, 16, 17, 18, 19, 20, 21, 22, 23, 24, 25, 26, 27, 28, 29, 30, 31, 32, 112, 113, 114, 115, 116, 117, 118, 119, 120, 121, 122, 123, 124] (by decide +kernel) (by decide +kernel)
set_option maxRecDepth 20000 in
theorem gX4_plan_X0_copyFrom : GoodIn wsX4_plan (wsV RX4 43 RX0 yX0_copyFrom wsX0_copyFrom) := goodIn_app (goodIn_of _ (by decide +kernel)) ggX4_plan_X0_copyFrom
set_option maxRecDepth 20000 in
theorem ggX4_plan_X3_walk : GoodIn wsX4_plan wsX3_walk := goodIn_r _ [37, 38, 39, 40, 41, 42, 43, 7, 44, 20, 45, 46, 47, 48, 17, 11, 9, 49, 50, 27, 51, 16, 18, 52, 23, 53, 54, 55, 56, 36, 57, 58, 59, 60, 61, 15, 13, 14, 62, 63, 64, 65, 66, 67, 68, 69, 70, 71, 72, 73, 74, 75, 76, 77, 78, 79, 80, 81, 82, 83, 84, 85, 86, 87, 88, 12, 21, 19, 10, 89, 90, 91, 92, 93, 94, 112, 113, 114, 115, 116, 117, 118, 119, 120, 121, 122, 123, 124, 125, 126, 127, 128, 129] (by decide +kernel) (by decide +kernel)
set_option maxRecDepth 20000 in
theorem gX4_plan_X3_walk : GoodIn wsX4_plan (wsV RX4 78 RX3 yX3_walk wsX3_walk) := goodIn_app (goodIn_of _ (by decide +kernel)) ggX4_plan_X3_walk
set_option maxRecDepth 20000 in
theorem ggX4_plan_X0_greatestLoad : GoodIn wsX4_plan wsX0_greatestLoad := goodIn_r _ [98, 13, 99, 59, 60, 7, 61, 15, 14, 52, 23, 53, 112, 113, 114, 115, 116, 117, 118, 119, 120, 121, 122, 123, 124] (by decide +kernel) (by decide +kernel)
set_option maxRecDepth 20000 in
theorem gX4_plan_X0_greatestLoad : GoodIn wsX4_plan (wsV RX4 120 RX0 yX0_greatestLoad wsX0_greatestLoad) := goodIn_app (goodIn_of _ (by decide +kernel)) ggX4_plan_X0_greatestLoad
set_option maxRecDepth 20000 in
theorem ggX4_plan_X0_isEven : GoodIn wsX4_plan wsX0_isEven := goodIn_r _ [103, 104, 96, 97, 7, 98, 13, 99, 59, 60, 61, 15, 14, 52, 23, 53, 105, 42, 43, 44, 20, 45, 46, 47, 48, 17, 11, 9, 49, 50, 27, 51, 16, 18, 112, 113, 114, 115, 116, 117, 118, 119, 120, 121, 122, 123, 124] (by decide +kernel) (by decide +kernel)
set_option maxRecDepth 20000 in
theorem gX4_plan_X0_isEven : GoodIn wsX4_plan (wsV RX4 140 RX0 yX0_isEven wsX0_isEven) := goodIn_app (goodIn_of _ (by decide +kernel)) ggX4_plan_X0_isEven
theorem dX4_plan_0 : decode cX4_plan 0 = .ok (.iload_n 1, 1) := by decide +kernel
theorem dX4_plan_1 : decode cX4_plan 1 = .ok (.ifCond .lt 8, 3) := by decide +kernel
theorem dX4_plan_4 : decode cX4_plan 4 = .ok (.iload_n 1, 1) := by decide +kernel
theorem dX4_plan_5 : decode cX4_plan 5 = .ok (.iconst 4, 1) := by decide +kernel
theorem dX4_plan_6 : decode cX4_plan 6 = .ok (.if_icmp .le 5, 3) := by decide +kernel
theorem dX4_plan_9 : decode cX4_plan 9 = .ok (.iconst (-1), 1) := by decide +kernel
theorem dX4_plan_10 : decode cX4_plan 10 = .ok (.ireturn, 1) := by decide +kernel
theorem dX4_plan_11 : decode cX4_plan 11 = .ok (.aload_n 0, 1) := by decide +kernel
theorem dX4_plan_12 : decode cX4_plan 12 = .ok (.getfield 19, 3) := by decide +kernel
theorem dX4_plan_15 : decode cX4_plan 15 = .ok (.aload_n 0, 1) := by decide +kernel
theorem dX4_plan_16 : decode cX4_plan 16 = .ok (.getfield 10, 3) := by decide +kernel
theorem dX4_plan_19 : decode cX4_plan 19 = .ok (.invokevirtual 43, 3) := by decide +kernel
theorem dX4_plan_22 : decode cX4_plan 22 = .ok (.aload_n 0, 1) := by decide +kernel
theorem dX4_plan_23 : decode cX4_plan 23 = .ok (.getfield 32, 3) := by decide +kernel
theorem dX4_plan_26 : decode cX4_plan 26 = .ok (.aload_n 0, 1) := by decide +kernel
theorem dX4_plan_27 : decode cX4_plan 27 = .ok (.getfield 19, 3) := by decide +kernel
theorem dX4_plan_30 : decode cX4_plan 30 = .ok (.bipush 30, 2) := by decide +kernel
theorem dX4_plan_32 : decode cX4_plan 32 = .ok (.invokevirtual 78, 3) := by decide +kernel
theorem dX4_plan_35 : decode cX4_plan 35 = .ok (.istore_n 2, 1) := by decide +kernel
theorem dX4_plan_36 : decode cX4_plan 36 = .ok (.iload_n 1, 1) := by decide +kernel
theorem dX4_plan_37 : decode cX4_plan 37 = .ok (.tableswitch 73 0 3 #[31, 33, 49, 65], 31) := by decide +kernel
theorem dX4_plan_68 : decode cX4_plan 68 = .ok (.iload_n 2, 1) := by decide +kernel
theorem dX4_plan_69 : decode cX4_plan 69 = .ok (.ireturn, 1) := by decide +kernel
theorem dX4_plan_70 : decode cX4_plan 70 = .ok (.aload_n 0, 1) := by decide +kernel
theorem dX4_plan_71 : decode cX4_plan 71 = .ok (.getfield 19, 3) := by decide +kernel
theorem dX4_plan_74 : decode cX4_plan 74 = .ok (.getfield 150, 3) := by decide +kernel
theorem dX4_plan_77 : decode cX4_plan 77 = .ok (.aload_n 0, 1) := by decide +kernel
theorem dX4_plan_78 : decode cX4_plan 78 = .ok (.getfield 10, 3) := by decide +kernel
theorem dX4_plan_81 : decode cX4_plan 81 = .ok (.getfield 150, 3) := by decide +kernel
theorem dX4_plan_84 : decode cX4_plan 84 = .ok (.isub, 1) := by decide +kernel
theorem dX4_plan_85 : decode cX4_plan 85 = .ok (.ireturn, 1) := by decide +kernel
theorem dX4_plan_86 : decode cX4_plan 86 = .ok (.aload_n 0, 1) := by decide +kernel
theorem dX4_plan_87 : decode cX4_plan 87 = .ok (.getfield 10, 3) := by decide +kernel
theorem dX4_plan_90 : decode cX4_plan 90 = .ok (.getfield 144, 3) := by decide +kernel
theorem dX4_plan_93 : decode cX4_plan 93 = .ok (.aload_n 0, 1) := by decide +kernel
theorem dX4_plan_94 : decode cX4_plan 94 = .ok (.getfield 19, 3) := by decide +kernel
theorem dX4_plan_97 : decode cX4_plan 97 = .ok (.getfield 144, 3) := by decide +kernel
theorem dX4_plan_100 : decode cX4_plan 100 = .ok (.isub, 1) := by decide +kernel
theorem dX4_plan_101 : decode cX4_plan 101 = .ok (.ireturn, 1) := by decide +kernel
theorem dX4_plan_102 : decode cX4_plan 102 = .ok (.aload_n 0, 1) := by decide +kernel
theorem dX4_plan_103 : decode cX4_plan 103 = .ok (.getfield 19, 3) := by decide +kernel
theorem dX4_plan_106 : decode cX4_plan 106 = .ok (.invokevirtual 120, 3) := by decide +kernel
theorem dX4_plan_109 : decode cX4_plan 109 = .ok (.ireturn, 1) := by decide +kernel
theorem dX4_plan_110 : decode cX4_plan 110 = .ok (.aload_n 0, 1) := by decide +kernel
theorem dX4_plan_111 : decode cX4_plan 111 = .ok (.getfield 19, 3) := by decide +kernel
theorem dX4_plan_114 : decode cX4_plan 114 = .ok (.invokevirtual 140, 3) := by decide +kernel
theorem dX4_plan_117 : decode cX4_plan 117 = .ok (.ifCond .eq 7, 3) := by decide +kernel
theorem dX4_plan_120 : decode cX4_plan 120 = .ok (.iconst 1, 1) := by decide +kernel
theorem dX4_plan_121 : decode cX4_plan 121 = .ok (.goto 4, 3) := by decide +kernel
theorem dX4_plan_124 : decode cX4_plan 124 = .ok (.iconst 0, 1) := by decide +kernel
theorem dX4_plan_125 : decode cX4_plan 125 = .ok (.ireturn, 1) := by decide +kernel
set_option maxRecDepth 20000 in
theorem ggX4_fewest_X0_copyFrom : GoodIn wsX4_fewest wsX0_copyFrom := goodIn_r _ [7, 8, 9, 10, 11, 12, 13, 14, 15, 16, 17, 18, 19, 20, 21, 22, 23, 24, 25, 26, 27, 28, 29, 30, 31, 69, 70, 71, 72, 73, 74, 75, 76, 77, 78, 79, 80, 81] (by decide +kernel) (by decide +kernel)
set_option maxRecDepth 20000 in
theorem gX4_fewest_X0_copyFrom : GoodIn wsX4_fewest (wsV RX4 43 RX0 yX0_copyFrom wsX0_copyFrom) := goodIn_app (goodIn_of _ (by decide +kernel)) ggX4_fewest_X0_copyFrom
set_option maxRecDepth 20000 in
theorem ggX4_fewest_X0_target : GoodIn wsX4_fewest wsX0_target := goodIn_r _ [35, 19, 36, 37, 38, 6, 39, 16, 10, 8, 40, 41, 26, 42, 15, 17, 43, 22, 44, 69, 70, 71, 72, 73, 74, 75, 76, 77, 78, 79, 80, 81] (by decide +kernel) (by decide +kernel)
set_option maxRecDepth 20000 in
theorem gX4_fewest_X0_target : GoodIn wsX4_fewest (wsV RX4 137 RX0 yX0_target wsX0_target) := goodIn_app (goodIn_of _ (by decide +kernel)) ggX4_fewest_X0_target
set_option maxRecDepth 20000 in
theorem ggX4_fewest_X4_cheapest : GoodIn wsX4_fewest wsX4_cheapest := goodIn_r _ [47, 48, 49, 50, 6, 51, 14, 12, 43, 22, 44, 52, 53, 54, 55, 56, 13, 57, 58, 59, 60, 61, 62, 45, 46, 69, 70, 71, 72, 73, 74, 75, 76, 77, 78, 79, 80, 81] (by decide +kernel) (by decide +kernel)
set_option maxRecDepth 20000 in
theorem gX4_fewest_X4_cheapest : GoodIn wsX4_fewest (va_wsS RX4 202 yX4_cheapest wsX4_cheapest) := goodIn_app (goodIn_of _ (by decide +kernel)) ggX4_fewest_X4_cheapest
theorem dX4_fewest_0 : decode cX4_fewest 0 = .ok (.iload_n 1, 1) := by decide +kernel
theorem dX4_fewest_1 : decode cX4_fewest 1 = .ok (.ifCond .lt 8, 3) := by decide +kernel
theorem dX4_fewest_4 : decode cX4_fewest 4 = .ok (.iload_n 1, 1) := by decide +kernel
theorem dX4_fewest_5 : decode cX4_fewest 5 = .ok (.iconst 1, 1) := by decide +kernel
theorem dX4_fewest_6 : decode cX4_fewest 6 = .ok (.if_icmp .le 5, 3) := by decide +kernel
theorem dX4_fewest_9 : decode cX4_fewest 9 = .ok (.iconst (-1), 1) := by decide +kernel
theorem dX4_fewest_10 : decode cX4_fewest 10 = .ok (.ireturn, 1) := by decide +kernel
theorem dX4_fewest_11 : decode cX4_fewest 11 = .ok (.aload_n 0, 1) := by decide +kernel
theorem dX4_fewest_12 : decode cX4_fewest 12 = .ok (.getfield 19, 3) := by decide +kernel
theorem dX4_fewest_15 : decode cX4_fewest 15 = .ok (.aload_n 0, 1) := by decide +kernel
theorem dX4_fewest_16 : decode cX4_fewest 16 = .ok (.getfield 10, 3) := by decide +kernel
theorem dX4_fewest_19 : decode cX4_fewest 19 = .ok (.invokevirtual 43, 3) := by decide +kernel
theorem dX4_fewest_22 : decode cX4_fewest 22 = .ok (.aload_n 0, 1) := by decide +kernel
theorem dX4_fewest_23 : decode cX4_fewest 23 = .ok (.getfield 10, 3) := by decide +kernel
theorem dX4_fewest_26 : decode cX4_fewest 26 = .ok (.invokevirtual 137, 3) := by decide +kernel
theorem dX4_fewest_29 : decode cX4_fewest 29 = .ok (.istore_n 2, 1) := by decide +kernel
theorem dX4_fewest_30 : decode cX4_fewest 30 = .ok (.iconst 0, 1) := by decide +kernel
theorem dX4_fewest_31 : decode cX4_fewest 31 = .ok (.istore_n 3, 1) := by decide +kernel
theorem dX4_fewest_32 : decode cX4_fewest 32 = .ok (.iload_n 3, 1) := by decide +kernel
theorem dX4_fewest_33 : decode cX4_fewest 33 = .ok (.iconst 2, 1) := by decide +kernel
theorem dX4_fewest_34 : decode cX4_fewest 34 = .ok (.if_icmp .gt 39, 3) := by decide +kernel
theorem dX4_fewest_37 : decode cX4_fewest 37 = .ok (.aload_n 0, 1) := by decide +kernel
theorem dX4_fewest_38 : decode cX4_fewest 38 = .ok (.getfield 19, 3) := by decide +kernel
theorem dX4_fewest_41 : decode cX4_fewest 41 = .ok (.iload_n 2, 1) := by decide +kernel
theorem dX4_fewest_42 : decode cX4_fewest 42 = .ok (.iload_n 3, 1) := by decide +kernel
theorem dX4_fewest_43 : decode cX4_fewest 43 = .ok (.iconst 0, 1) := by decide +kernel
theorem dX4_fewest_44 : decode cX4_fewest 44 = .ok (.invokestatic 202, 3) := by decide +kernel
theorem dX4_fewest_47 : decode cX4_fewest 47 = .ok (.istore 4, 2) := by decide +kernel
theorem dX4_fewest_49 : decode cX4_fewest 49 = .ok (.iload 4, 2) := by decide +kernel
theorem dX4_fewest_51 : decode cX4_fewest 51 = .ok (.bipush (-9), 2) := by decide +kernel
theorem dX4_fewest_53 : decode cX4_fewest 53 = .ok (.if_icmp .eq 14, 3) := by decide +kernel
theorem dX4_fewest_56 : decode cX4_fewest 56 = .ok (.iload_n 1, 1) := by decide +kernel
theorem dX4_fewest_57 : decode cX4_fewest 57 = .ok (.ifCond .ne 7, 3) := by decide +kernel
theorem dX4_fewest_60 : decode cX4_fewest 60 = .ok (.iload_n 3, 1) := by decide +kernel
theorem dX4_fewest_61 : decode cX4_fewest 61 = .ok (.goto 5, 3) := by decide +kernel
theorem dX4_fewest_64 : decode cX4_fewest 64 = .ok (.iload 4, 2) := by decide +kernel
theorem dX4_fewest_66 : decode cX4_fewest 66 = .ok (.ireturn, 1) := by decide +kernel
theorem dX4_fewest_67 : decode cX4_fewest 67 = .ok (.iinc 3 1, 3) := by decide +kernel
theorem dX4_fewest_70 : decode cX4_fewest 70 = .ok (.goto (-38), 3) := by decide +kernel
theorem dX4_fewest_73 : decode cX4_fewest 73 = .ok (.bipush (-9), 2) := by decide +kernel
theorem dX4_fewest_75 : decode cX4_fewest 75 = .ok (.ireturn, 1) := by decide +kernel
set_option maxRecDepth 20000 in
theorem ggX4_without_X0_hasServer : GoodIn wsX4_without wsX0_hasServer := goodIn_r _ [7, 8, 97, 98, 99, 100, 101, 102, 103, 104, 105, 106, 107, 108, 109] (by decide +kernel) (by decide +kernel)
set_option maxRecDepth 20000 in
theorem gX4_without_X0_hasServer : GoodIn wsX4_without (wsV RX4 153 RX0 yX0_hasServer wsX0_hasServer) := goodIn_app (goodIn_of _ (by decide +kernel)) ggX4_without_X0_hasServer
set_option maxRecDepth 20000 in
theorem ggX4_without_X0_isOpen : GoodIn wsX4_without wsX0_isOpen := goodIn_r _ [12, 13, 14, 15, 16, 97, 98, 99, 100, 101, 102, 103, 104, 105, 106, 107, 108, 109] (by decide +kernel) (by decide +kernel)
set_option maxRecDepth 20000 in
theorem gX4_without_X0_isOpen : GoodIn wsX4_without (wsV RX4 157 RX0 yX0_isOpen wsX0_isOpen) := goodIn_app (goodIn_of _ (by decide +kernel)) ggX4_without_X0_isOpen
set_option maxRecDepth 20000 in
theorem ggX4_without_X0_copyFrom : GoodIn wsX4_without wsX0_copyFrom := goodIn_r _ [20, 21, 22, 23, 24, 25, 13, 8, 26, 27, 28, 29, 30, 31, 32, 15, 33, 34, 35, 36, 37, 38, 39, 40, 41, 97, 98, 99, 100, 101, 102, 103, 104, 105, 106, 107, 108, 109] (by decide +kernel) (by decide +kernel)
set_option maxRecDepth 20000 in
theorem gX4_without_X0_copyFrom : GoodIn wsX4_without (wsV RX4 43 RX0 yX0_copyFrom wsX0_copyFrom) := goodIn_app (goodIn_of _ (by decide +kernel)) ggX4_without_X0_copyFrom
set_option maxRecDepth 20000 in
theorem ggX4_without_X0_closeAndEmpty : GoodIn wsX4_without wsX0_closeAndEmpty := goodIn_r _ [45, 13, 26, 46, 15, 47, 48, 49, 50, 6, 51, 27, 23, 14, 16, 52, 53, 54, 55, 56, 57, 58, 59, 60, 61, 62, 63, 64, 65, 66, 67, 68, 69, 70, 21, 22, 71, 72, 73, 74, 8, 25, 75, 76, 77, 78, 24, 31, 29, 79, 80, 81, 82, 97, 98, 99, 100, 101, 102, 103, 104, 105, 106, 107, 108, 109] (by decide +kernel) (by decide +kernel)
set_option maxRecDepth 20000 in
theorem gX4_without_X0_closeAndEmpty : GoodIn wsX4_without (wsV RX4 206 RX0 yX0_closeAndEmpty wsX0_closeAndEmpty) := goodIn_app (goodIn_of _ (by decide +kernel)) ggX4_without_X0_closeAndEmpty
set_option maxRecDepth 20000 in
theorem ggX4_without_X0_greatestLoad : GoodIn wsX4_without wsX0_greatestLoad := goodIn_r _ [86, 25, 87, 88, 89, 6, 90, 8, 13, 14, 15, 16, 97, 98, 99, 100, 101, 102, 103, 104, 105, 106, 107, 108, 109] (by decide +kernel) (by decide +kernel)
set_option maxRecDepth 20000 in
theorem gX4_without_X0_greatestLoad : GoodIn wsX4_without (wsV RX4 120 RX0 yX0_greatestLoad wsX0_greatestLoad) := goodIn_app (goodIn_of _ (by decide +kernel)) ggX4_without_X0_greatestLoad
theorem dX4_without_0 : decode cX4_without 0 = .ok (.aload_n 0, 1) := by decide +kernel
theorem dX4_without_1 : decode cX4_without 1 = .ok (.getfield 10, 3) := by decide +kernel
theorem dX4_without_4 : decode cX4_without 4 = .ok (.iload_n 1, 1) := by decide +kernel
theorem dX4_without_5 : decode cX4_without 5 = .ok (.invokevirtual 153, 3) := by decide +kernel
theorem dX4_without_8 : decode cX4_without 8 = .ok (.ifCond .ne 5, 3) := by decide +kernel
theorem dX4_without_11 : decode cX4_without 11 = .ok (.iconst (-1), 1) := by decide +kernel
theorem dX4_without_12 : decode cX4_without 12 = .ok (.ireturn, 1) := by decide +kernel
theorem dX4_without_13 : decode cX4_without 13 = .ok (.aload_n 0, 1) := by decide +kernel
theorem dX4_without_14 : decode cX4_without 14 = .ok (.getfield 10, 3) := by decide +kernel
theorem dX4_without_17 : decode cX4_without 17 = .ok (.iload_n 1, 1) := by decide +kernel
theorem dX4_without_18 : decode cX4_without 18 = .ok (.invokevirtual 157, 3) := by decide +kernel
theorem dX4_without_21 : decode cX4_without 21 = .ok (.ifCond .eq 14, 3) := by decide +kernel
theorem dX4_without_24 : decode cX4_without 24 = .ok (.aload_n 0, 1) := by decide +kernel
theorem dX4_without_25 : decode cX4_without 25 = .ok (.getfield 10, 3) := by decide +kernel
theorem dX4_without_28 : decode cX4_without 28 = .ok (.getfield 108, 3) := by decide +kernel
theorem dX4_without_31 : decode cX4_without 31 = .ok (.iconst 1, 1) := by decide +kernel
theorem dX4_without_32 : decode cX4_without 32 = .ok (.if_icmp .gt 6, 3) := by decide +kernel
theorem dX4_without_35 : decode cX4_without 35 = .ok (.bipush (-2), 2) := by decide +kernel
theorem dX4_without_37 : decode cX4_without 37 = .ok (.ireturn, 1) := by decide +kernel
theorem dX4_without_38 : decode cX4_without 38 = .ok (.aload_n 0, 1) := by decide +kernel
theorem dX4_without_39 : decode cX4_without 39 = .ok (.getfield 19, 3) := by decide +kernel
theorem dX4_without_42 : decode cX4_without 42 = .ok (.aload_n 0, 1) := by decide +kernel
theorem dX4_without_43 : decode cX4_without 43 = .ok (.getfield 10, 3) := by decide +kernel
theorem dX4_without_46 : decode cX4_without 46 = .ok (.invokevirtual 43, 3) := by decide +kernel
theorem dX4_without_49 : decode cX4_without 49 = .ok (.aload_n 0, 1) := by decide +kernel
theorem dX4_without_50 : decode cX4_without 50 = .ok (.getfield 19, 3) := by decide +kernel
theorem dX4_without_53 : decode cX4_without 53 = .ok (.iload_n 1, 1) := by decide +kernel
theorem dX4_without_54 : decode cX4_without 54 = .ok (.invokevirtual 206, 3) := by decide +kernel
theorem dX4_without_57 : decode cX4_without 57 = .ok (.pop, 1) := by decide +kernel
theorem dX4_without_58 : decode cX4_without 58 = .ok (.aload_n 0, 1) := by decide +kernel
theorem dX4_without_59 : decode cX4_without 59 = .ok (.getfield 19, 3) := by decide +kernel
theorem dX4_without_62 : decode cX4_without 62 = .ok (.invokevirtual 120, 3) := by decide +kernel
theorem dX4_without_65 : decode cX4_without 65 = .ok (.ireturn, 1) := by decide +kernel
set_option maxRecDepth 20000 in
theorem ggX4_recorded_X1_keep : GoodIn wsX4_recorded wsX1_keep := goodIn_r _ [7, 8, 9, 10, 11, 12, 13, 14, 15, 16, 6, 17, 18, 19, 20, 21, 22, 23, 24, 25, 26, 27, 28, 29, 30, 31, 32, 33, 34, 35, 36, 37, 38, 39, 40, 41, 42, 43, 44, 51, 52, 53, 54, 55, 56, 57, 58, 59, 60, 61, 62, 63, 64, 65, 66] (by decide +kernel) (by decide +kernel)
set_option maxRecDepth 20000 in
theorem gX4_recorded_X1_keep : GoodIn wsX4_recorded (wsV RX4 209 RX1 yX1_keep wsX1_keep) := goodIn_app (goodIn_of _ (by decide +kernel)) ggX4_recorded_X1_keep
theorem dX4_recorded_0 : decode cX4_recorded 0 = .ok (.iload_n 1, 1) := by decide +kernel
theorem dX4_recorded_1 : decode cX4_recorded 1 = .ok (.ifCond .lt 14, 3) := by decide +kernel
theorem dX4_recorded_4 : decode cX4_recorded 4 = .ok (.aload_n 0, 1) := by decide +kernel
theorem dX4_recorded_5 : decode cX4_recorded 5 = .ok (.getfield 25, 3) := by decide +kernel
theorem dX4_recorded_8 : decode cX4_recorded 8 = .ok (.aload_n 0, 1) := by decide +kernel
theorem dX4_recorded_9 : decode cX4_recorded 9 = .ok (.getfield 16, 3) := by decide +kernel
theorem dX4_recorded_12 : decode cX4_recorded 12 = .ok (.invokevirtual 209, 3) := by decide +kernel
theorem dX4_recorded_15 : decode cX4_recorded 15 = .ok (.iload_n 1, 1) := by decide +kernel
theorem dX4_recorded_16 : decode cX4_recorded 16 = .ok (.ireturn, 1) := by decide +kernel
set_option maxRecDepth 20000 in
theorem ggX4_runOrders_X2_startReading : GoodIn wsX4_runOrders wsX2_startReading := goodIn_r _ [6, 7, 8, 175, 176, 177, 178, 179, 180, 181, 182] (by decide +kernel) (by decide +kernel)
set_option maxRecDepth 20000 in
theorem gX4_runOrders_X2_startReading : GoodIn wsX4_runOrders (wsV RX4 212 RX2 yX2_startReading wsX2_startReading) := goodIn_app (goodIn_of _ (by decide +kernel)) ggX4_runOrders_X2_startReading
set_option maxRecDepth 20000 in
theorem ggX4_runOrders_X2_read : GoodIn wsX4_runOrders wsX2_read := goodIn_r _ [12, 13, 8, 14, 7, 15, 16, 17, 18, 19, 3, 4, 5, 6, 20, 21, 22, 23, 24, 25, 26, 27, 28, 29, 30, 31, 32, 33, 34, 35, 36, 37, 38, 175, 176, 177, 178, 179, 180, 181, 182] (by decide +kernel) (by decide +kernel)
set_option maxRecDepth 20000 in
theorem gX4_runOrders_X2_read : GoodIn wsX4_runOrders (wsV RX4 215 RX2 yX2_read wsX2_read) := goodIn_app (goodIn_of _ (by decide +kernel)) ggX4_runOrders_X2_read
set_option maxRecDepth 20000 in
theorem ggX4_runOrders_X4_callOrder : GoodIn wsX4_runOrders wsX4_callOrder := goodIn_r _ [42, 1, 43, 44, 45, 16, 17, 18, 46, 47, 48, 49, 50, 51, 52, 53, 54, 55, 56, 57, 58, 59, 60, 61, 62, 63, 64, 65, 66, 67, 37, 38, 68, 69, 70, 71, 72, 73, 74, 75, 76, 77, 78, 79, 80, 81, 82, 83, 84, 85, 86, 87, 88, 89, 90, 91, 92, 93, 94, 95, 96, 97, 98, 99, 100, 101, 102, 103, 104, 105, 106, 107, 108, 109, 110, 111, 112, 113, 114, 115, 116, 117, 118, 119, 120, 121, 122, 123, 124, 125, 126, 127, 128, 129, 130, 131, 132, 133, 134, 135, 136, 137, 138, 139, 140, 141, 142, 143, 144, 145, 146, 147, 148, 149, 150, 151, 152, 153, 154, 155, 156, 157, 158, 159, 160, 161, 162, 163, 164, 169, 170, 171, 172, 173, 174, 175, 176, 177, 178, 179, 180, 181, 182, 183, 184, 185, 186, 187, 188, 189, 190, 191, 192, 193, 194, 195, 196, 197, 198, 199, 200] (by decide +kernel) (by decide +kernel)
set_option maxRecDepth 20000 in
theorem gX4_runOrders_X4_callOrder : GoodIn wsX4_runOrders (wsV RX4 222 RX4 yX4_callOrder wsX4_callOrder) := goodIn_app (goodIn_of _ (by decide +kernel)) ggX4_runOrders_X4_callOrder
set_option maxRecDepth 20000 in
theorem ggX4_runOrders_X2_isInOrder : GoodIn wsX4_runOrders wsX2_isInOrder := goodIn_r _ [168, 7, 8, 175, 176, 177, 178, 179, 180, 181, 182] (by decide +kernel) (by decide +kernel)
set_option maxRecDepth 20000 in
theorem gX4_runOrders_X2_isInOrder : GoodIn wsX4_runOrders (wsV RX4 228 RX2 yX2_isInOrder wsX2_isInOrder) := goodIn_app (goodIn_of _ (by decide +kernel)) ggX4_runOrders_X2_isInOrder
theorem dX4_runOrders_0 : decode cX4_runOrders 0 = .ok (.iconst 0, 1) := by decide +kernel
theorem dX4_runOrders_1 : decode cX4_runOrders 1 = .ok (.istore_n 1, 1) := by decide +kernel
theorem dX4_runOrders_2 : decode cX4_runOrders 2 = .ok (.aload_n 0, 1) := by decide +kernel
theorem dX4_runOrders_3 : decode cX4_runOrders 3 = .ok (.getfield 39, 3) := by decide +kernel
theorem dX4_runOrders_6 : decode cX4_runOrders 6 = .ok (.getfield 99, 3) := by decide +kernel
theorem dX4_runOrders_9 : decode cX4_runOrders 9 = .ok (.istore_n 2, 1) := by decide +kernel
theorem dX4_runOrders_10 : decode cX4_runOrders 10 = .ok (.aload_n 0, 1) := by decide +kernel
theorem dX4_runOrders_11 : decode cX4_runOrders 11 = .ok (.getfield 39, 3) := by decide +kernel
theorem dX4_runOrders_14 : decode cX4_runOrders 14 = .ok (.invokevirtual 212, 3) := by decide +kernel
theorem dX4_runOrders_17 : decode cX4_runOrders 17 = .ok (.iconst 0, 1) := by decide +kernel
theorem dX4_runOrders_18 : decode cX4_runOrders 18 = .ok (.istore_n 3, 1) := by decide +kernel
theorem dX4_runOrders_19 : decode cX4_runOrders 19 = .ok (.iload_n 3, 1) := by decide +kernel
theorem dX4_runOrders_20 : decode cX4_runOrders 20 = .ok (.iload_n 2, 1) := by decide +kernel
theorem dX4_runOrders_21 : decode cX4_runOrders 21 = .ok (.if_icmp .ge 58, 3) := by decide +kernel
theorem dX4_runOrders_24 : decode cX4_runOrders 24 = .ok (.aload_n 0, 1) := by decide +kernel
theorem dX4_runOrders_25 : decode cX4_runOrders 25 = .ok (.getfield 39, 3) := by decide +kernel
theorem dX4_runOrders_28 : decode cX4_runOrders 28 = .ok (.iload_n 3, 1) := by decide +kernel
theorem dX4_runOrders_29 : decode cX4_runOrders 29 = .ok (.invokevirtual 215, 3) := by decide +kernel
theorem dX4_runOrders_32 : decode cX4_runOrders 32 = .ok (.ifCond .ne 9, 3) := by decide +kernel
theorem dX4_runOrders_35 : decode cX4_runOrders 35 = .ok (.sipush (-1000), 3) := by decide +kernel
theorem dX4_runOrders_38 : decode cX4_runOrders 38 = .ok (.iload_n 3, 1) := by decide +kernel
theorem dX4_runOrders_39 : decode cX4_runOrders 39 = .ok (.isub, 1) := by decide +kernel
theorem dX4_runOrders_40 : decode cX4_runOrders 40 = .ok (.ireturn, 1) := by decide +kernel
theorem dX4_runOrders_41 : decode cX4_runOrders 41 = .ok (.aload_n 0, 1) := by decide +kernel
theorem dX4_runOrders_42 : decode cX4_runOrders 42 = .ok (.getfield 39, 3) := by decide +kernel
theorem dX4_runOrders_45 : decode cX4_runOrders 45 = .ok (.getfield 218, 3) := by decide +kernel
theorem dX4_runOrders_48 : decode cX4_runOrders 48 = .ok (.ifCond .eq 25, 3) := by decide +kernel
theorem dX4_runOrders_51 : decode cX4_runOrders 51 = .ok (.aload_n 0, 1) := by decide +kernel
theorem dX4_runOrders_52 : decode cX4_runOrders 52 = .ok (.invokevirtual 222, 3) := by decide +kernel
theorem dX4_runOrders_55 : decode cX4_runOrders 55 = .ok (.ifCond .ge 15, 3) := by decide +kernel
theorem dX4_runOrders_58 : decode cX4_runOrders 58 = .ok (.sipush (-1000), 3) := by decide +kernel
theorem dX4_runOrders_61 : decode cX4_runOrders 61 = .ok (.aload_n 0, 1) := by decide +kernel
theorem dX4_runOrders_62 : decode cX4_runOrders 62 = .ok (.getfield 39, 3) := by decide +kernel
theorem dX4_runOrders_65 : decode cX4_runOrders 65 = .ok (.getfield 225, 3) := by decide +kernel
theorem dX4_runOrders_68 : decode cX4_runOrders 68 = .ok (.isub, 1) := by decide +kernel
theorem dX4_runOrders_69 : decode cX4_runOrders 69 = .ok (.ireturn, 1) := by decide +kernel
theorem dX4_runOrders_70 : decode cX4_runOrders 70 = .ok (.iinc 1 1, 3) := by decide +kernel
theorem dX4_runOrders_73 : decode cX4_runOrders 73 = .ok (.iinc 3 1, 3) := by decide +kernel
theorem dX4_runOrders_76 : decode cX4_runOrders 76 = .ok (.goto (-57), 3) := by decide +kernel
theorem dX4_runOrders_79 : decode cX4_runOrders 79 = .ok (.aload_n 0, 1) := by decide +kernel
theorem dX4_runOrders_80 : decode cX4_runOrders 80 = .ok (.getfield 39, 3) := by decide +kernel
theorem dX4_runOrders_83 : decode cX4_runOrders 83 = .ok (.invokevirtual 228, 3) := by decide +kernel
theorem dX4_runOrders_86 : decode cX4_runOrders 86 = .ok (.ifCond .eq 11, 3) := by decide +kernel
theorem dX4_runOrders_89 : decode cX4_runOrders 89 = .ok (.sipush (-1000), 3) := by decide +kernel
theorem dX4_runOrders_92 : decode cX4_runOrders 92 = .ok (.iload_n 2, 1) := by decide +kernel
theorem dX4_runOrders_93 : decode cX4_runOrders 93 = .ok (.isub, 1) := by decide +kernel
theorem dX4_runOrders_94 : decode cX4_runOrders 94 = .ok (.goto 4, 3) := by decide +kernel
theorem dX4_runOrders_97 : decode cX4_runOrders 97 = .ok (.iload_n 1, 1) := by decide +kernel
theorem dX4_runOrders_98 : decode cX4_runOrders 98 = .ok (.ireturn, 1) := by decide +kernel
set_option maxRecDepth 20000 in
theorem ggX4_callOrder_X4_at : GoodIn wsX4_callOrder wsX4_at := goodIn_r _ [7] (by decide +kernel) (by decide +kernel)
set_option maxRecDepth 20000 in
theorem gX4_callOrder_X4_at : GoodIn wsX4_callOrder (va_wsS RX4 130 yX4_at wsX4_at) := goodIn_app (goodIn_of _ (by decide +kernel)) ggX4_callOrder_X4_at
set_option maxRecDepth 20000 in
theorem ggX4_callOrder_X0_newJob : GoodIn wsX4_callOrder wsX0_newJob := goodIn_r _ [12, 13, 14, 15, 16, 17, 18, 19, 20, 21, 22, 11, 23, 24, 25, 26, 27, 28, 29, 5, 6, 7, 30, 31, 143, 144, 145, 146, 147, 148, 149, 150, 151, 152, 153, 154, 155] (by decide +kernel) (by decide +kernel)
set_option maxRecDepth 20000 in
theorem gX4_callOrder_X0_newJob : GoodIn wsX4_callOrder (wsV RX4 55 RX0 yX0_newJob wsX0_newJob) := goodIn_app (goodIn_of _ (by decide +kernel)) ggX4_callOrder_X0_newJob
set_option maxRecDepth 20000 in
theorem ggX4_callOrder_X0_endJob : GoodIn wsX4_callOrder wsX0_endJob := goodIn_r _ [35, 16, 18, 14, 19, 36, 37, 38, 11, 39, 13, 40, 41, 42, 43, 5, 6, 7, 30, 31, 143, 144, 145, 146, 147, 148, 149, 150, 151, 152, 153, 154, 155] (by decide +kernel) (by decide +kernel)
set_option maxRecDepth 20000 in
theorem gX4_callOrder_X0_endJob : GoodIn wsX4_callOrder (wsV RX4 59 RX0 yX0_endJob wsX0_endJob) := goodIn_app (goodIn_of _ (by decide +kernel)) ggX4_callOrder_X0_endJob
set_option maxRecDepth 20000 in
theorem ggX4_callOrder_X0_moveJob : GoodIn wsX4_callOrder wsX0_moveJob := goodIn_r _ [47, 16, 15, 48, 36, 37, 38, 11, 39, 13, 20, 21, 22, 23, 24, 40, 41, 42, 43, 5, 6, 7, 25, 26, 27, 28, 29, 49, 50, 51, 52, 14, 17, 53, 54, 55, 56, 57, 18, 30, 31, 58, 59, 60, 61, 62, 63, 64, 65, 143, 144, 145, 146, 147, 148, 149, 150, 151, 152, 153, 154, 155] (by decide +kernel) (by decide +kernel)
set_option maxRecDepth 20000 in
theorem gX4_callOrder_X0_moveJob : GoodIn wsX4_callOrder (wsV RX4 68 RX0 yX0_moveJob wsX0_moveJob) := goodIn_app (goodIn_of _ (by decide +kernel)) ggX4_callOrder_X0_moveJob
set_option maxRecDepth 20000 in
theorem ggX4_callOrder_X0_exchangeJobs : GoodIn wsX4_callOrder wsX0_exchangeJobs := goodIn_r _ [69, 15, 48, 16, 36, 37, 38, 11, 39, 13, 70, 71, 72, 73, 40, 41, 42, 43, 5, 6, 7, 49, 50, 51, 52, 14, 17, 53, 54, 55, 56, 57, 18, 30, 31, 58, 59, 60, 61, 62, 63, 64, 65, 24, 29, 143, 144, 145, 146, 147, 148, 149, 150, 151, 152, 153, 154, 155] (by decide +kernel) (by decide +kernel)
set_option maxRecDepth 20000 in
theorem gX4_callOrder_X0_exchangeJobs : GoodIn wsX4_callOrder (wsV RX4 72 RX0 yX0_exchangeJobs wsX0_exchangeJobs) := goodIn_app (goodIn_of _ (by decide +kernel)) ggX4_callOrder_X0_exchangeJobs
set_option maxRecDepth 20000 in
theorem ggX4_callOrder_X0_moveRing : GoodIn wsX4_callOrder wsX0_moveRing := goodIn_r _ [77, 15, 48, 16, 36, 37, 38, 11, 39, 13, 70, 71, 72, 73, 40, 41, 42, 43, 5, 6, 7, 49, 50, 51, 52, 14, 17, 53, 54, 55, 56, 57, 18, 30, 31, 58, 59, 60, 61, 62, 63, 64, 65, 24, 29, 143, 144, 145, 146, 147, 148, 149, 150, 151, 152, 153, 154, 155] (by decide +kernel) (by decide +kernel)
set_option maxRecDepth 20000 in
theorem gX4_callOrder_X0_moveRing : GoodIn wsX4_callOrder (wsV RX4 75 RX0 yX0_moveRing wsX0_moveRing) := goodIn_app (goodIn_of _ (by decide +kernel)) ggX4_callOrder_X0_moveRing
set_option maxRecDepth 20000 in
theorem ggX4_callOrder_X3_walk : GoodIn wsX4_callOrder wsX3_walk := goodIn_r _ [82, 83, 84, 85, 86, 87, 88, 11, 89, 90, 91, 92, 93, 94, 13, 16, 14, 95, 96, 97, 98, 99, 19, 5, 6, 7, 100, 101, 102, 81, 103, 104, 63, 64, 65, 24, 18, 29, 105, 106, 107, 108, 109, 110, 111, 112, 113, 114, 115, 116, 117, 118, 119, 120, 121, 122, 123, 124, 125, 126, 127, 128, 50, 51, 52, 17, 53, 48, 15, 54, 55, 56, 57, 30, 31, 143, 144, 145, 146, 147, 148, 149, 150, 151, 152, 153, 154, 155, 156, 157, 158, 159, 160] (by decide +kernel) (by decide +kernel)
set_option maxRecDepth 20000 in
theorem gX4_callOrder_X3_walk : GoodIn wsX4_callOrder (wsV RX4 78 RX3 yX3_walk wsX3_walk) := goodIn_app (goodIn_of _ (by decide +kernel)) ggX4_callOrder_X3_walk
theorem dX4_callOrder_0 : decode cX4_callOrder 0 = .ok (.aload_n 0, 1) := by decide +kernel
theorem dX4_callOrder_1 : decode cX4_callOrder 1 = .ok (.getfield 39, 3) := by decide +kernel
theorem dX4_callOrder_4 : decode cX4_callOrder 4 = .ok (.getfield 231, 3) := by decide +kernel
theorem dX4_callOrder_7 : decode cX4_callOrder 7 = .ok (.iconst 0, 1) := by decide +kernel
theorem dX4_callOrder_8 : decode cX4_callOrder 8 = .ok (.invokestatic 130, 3) := by decide +kernel
theorem dX4_callOrder_11 : decode cX4_callOrder 11 = .ok (.istore_n 1, 1) := by decide +kernel
theorem dX4_callOrder_12 : decode cX4_callOrder 12 = .ok (.aload_n 0, 1) := by decide +kernel
theorem dX4_callOrder_13 : decode cX4_callOrder 13 = .ok (.getfield 39, 3) := by decide +kernel
theorem dX4_callOrder_16 : decode cX4_callOrder 16 = .ok (.getfield 231, 3) := by decide +kernel
theorem dX4_callOrder_19 : decode cX4_callOrder 19 = .ok (.iconst 1, 1) := by decide +kernel
theorem dX4_callOrder_20 : decode cX4_callOrder 20 = .ok (.invokestatic 130, 3) := by decide +kernel
theorem dX4_callOrder_23 : decode cX4_callOrder 23 = .ok (.istore_n 2, 1) := by decide +kernel
theorem dX4_callOrder_24 : decode cX4_callOrder 24 = .ok (.aload_n 0, 1) := by decide +kernel
theorem dX4_callOrder_25 : decode cX4_callOrder 25 = .ok (.getfield 39, 3) := by decide +kernel
theorem dX4_callOrder_28 : decode cX4_callOrder 28 = .ok (.getfield 231, 3) := by decide +kernel
theorem dX4_callOrder_31 : decode cX4_callOrder 31 = .ok (.iconst 2, 1) := by decide +kernel
theorem dX4_callOrder_32 : decode cX4_callOrder 32 = .ok (.invokestatic 130, 3) := by decide +kernel
theorem dX4_callOrder_35 : decode cX4_callOrder 35 = .ok (.istore_n 3, 1) := by decide +kernel
theorem dX4_callOrder_36 : decode cX4_callOrder 36 = .ok (.aload_n 0, 1) := by decide +kernel
theorem dX4_callOrder_37 : decode cX4_callOrder 37 = .ok (.getfield 39, 3) := by decide +kernel
theorem dX4_callOrder_40 : decode cX4_callOrder 40 = .ok (.getfield 234, 3) := by decide +kernel
theorem dX4_callOrder_43 : decode cX4_callOrder 43 = .ok (.tableswitch 153 102 120 #[100, 153, 153, 153, 89, 153, 153, 109, 153, 153, 140, 153, 129, 153, 153, 153, 153, 153, 119], 89) := by decide +kernel
theorem dX4_callOrder_132 : decode cX4_callOrder 132 = .ok (.aload_n 0, 1) := by decide +kernel
theorem dX4_callOrder_133 : decode cX4_callOrder 133 = .ok (.getfield 10, 3) := by decide +kernel
theorem dX4_callOrder_136 : decode cX4_callOrder 136 = .ok (.iload_n 1, 1) := by decide +kernel
theorem dX4_callOrder_137 : decode cX4_callOrder 137 = .ok (.iload_n 2, 1) := by decide +kernel
theorem dX4_callOrder_138 : decode cX4_callOrder 138 = .ok (.iload_n 3, 1) := by decide +kernel
theorem dX4_callOrder_139 : decode cX4_callOrder 139 = .ok (.invokevirtual 55, 3) := by decide +kernel
theorem dX4_callOrder_142 : decode cX4_callOrder 142 = .ok (.ireturn, 1) := by decide +kernel
theorem dX4_callOrder_143 : decode cX4_callOrder 143 = .ok (.aload_n 0, 1) := by decide +kernel
theorem dX4_callOrder_144 : decode cX4_callOrder 144 = .ok (.getfield 10, 3) := by decide +kernel
theorem dX4_callOrder_147 : decode cX4_callOrder 147 = .ok (.iload_n 1, 1) := by decide +kernel
theorem dX4_callOrder_148 : decode cX4_callOrder 148 = .ok (.invokevirtual 59, 3) := by decide +kernel
theorem dX4_callOrder_151 : decode cX4_callOrder 151 = .ok (.ireturn, 1) := by decide +kernel
theorem dX4_callOrder_152 : decode cX4_callOrder 152 = .ok (.aload_n 0, 1) := by decide +kernel
theorem dX4_callOrder_153 : decode cX4_callOrder 153 = .ok (.getfield 10, 3) := by decide +kernel
theorem dX4_callOrder_156 : decode cX4_callOrder 156 = .ok (.iload_n 1, 1) := by decide +kernel
theorem dX4_callOrder_157 : decode cX4_callOrder 157 = .ok (.iload_n 2, 1) := by decide +kernel
theorem dX4_callOrder_158 : decode cX4_callOrder 158 = .ok (.invokevirtual 68, 3) := by decide +kernel
theorem dX4_callOrder_161 : decode cX4_callOrder 161 = .ok (.ireturn, 1) := by decide +kernel
theorem dX4_callOrder_162 : decode cX4_callOrder 162 = .ok (.aload_n 0, 1) := by decide +kernel
theorem dX4_callOrder_163 : decode cX4_callOrder 163 = .ok (.getfield 10, 3) := by decide +kernel
theorem dX4_callOrder_166 : decode cX4_callOrder 166 = .ok (.iload_n 1, 1) := by decide +kernel
theorem dX4_callOrder_167 : decode cX4_callOrder 167 = .ok (.iload_n 2, 1) := by decide +kernel
theorem dX4_callOrder_168 : decode cX4_callOrder 168 = .ok (.invokevirtual 72, 3) := by decide +kernel
theorem dX4_callOrder_171 : decode cX4_callOrder 171 = .ok (.ireturn, 1) := by decide +kernel
theorem dX4_callOrder_172 : decode cX4_callOrder 172 = .ok (.aload_n 0, 1) := by decide +kernel
theorem dX4_callOrder_173 : decode cX4_callOrder 173 = .ok (.getfield 10, 3) := by decide +kernel
theorem dX4_callOrder_176 : decode cX4_callOrder 176 = .ok (.iload_n 1, 1) := by decide +kernel
theorem dX4_callOrder_177 : decode cX4_callOrder 177 = .ok (.iload_n 2, 1) := by decide +kernel
theorem dX4_callOrder_178 : decode cX4_callOrder 178 = .ok (.iload_n 3, 1) := by decide +kernel
theorem dX4_callOrder_179 : decode cX4_callOrder 179 = .ok (.invokevirtual 75, 3) := by decide +kernel
theorem dX4_callOrder_182 : decode cX4_callOrder 182 = .ok (.ireturn, 1) := by decide +kernel
theorem dX4_callOrder_183 : decode cX4_callOrder 183 = .ok (.aload_n 0, 1) := by decide +kernel
theorem dX4_callOrder_184 : decode cX4_callOrder 184 = .ok (.getfield 32, 3) := by decide +kernel
theorem dX4_callOrder_187 : decode cX4_callOrder 187 = .ok (.aload_n 0, 1) := by decide +kernel
theorem dX4_callOrder_188 : decode cX4_callOrder 188 = .ok (.getfield 10, 3) := by decide +kernel
theorem dX4_callOrder_191 : decode cX4_callOrder 191 = .ok (.iload_n 1, 1) := by decide +kernel
theorem dX4_callOrder_192 : decode cX4_callOrder 192 = .ok (.invokevirtual 78, 3) := by decide +kernel
theorem dX4_callOrder_195 : decode cX4_callOrder 195 = .ok (.ireturn, 1) := by decide +kernel
theorem dX4_callOrder_196 : decode cX4_callOrder 196 = .ok (.iconst (-1), 1) := by decide +kernel
theorem dX4_callOrder_197 : decode cX4_callOrder 197 = .ok (.ireturn, 1) := by decide +kernel
set_option maxRecDepth 20000 in
theorem ggX4_cheapest_X0_serversAbove : GoodIn wsX4_cheapest wsX0_serversAbove := goodIn_r _ [5, 6, 7, 8, 9, 10, 25, 26, 27, 28, 29, 30, 31, 32, 33, 34, 35, 36, 37] (by decide +kernel) (by decide +kernel)
set_option maxRecDepth 20000 in
theorem gX4_cheapest_X0_serversAbove : GoodIn wsX4_cheapest (wsV RX4 237 RX0 yX0_serversAbove wsX0_serversAbove) := goodIn_app (goodIn_of _ (by decide +kernel)) ggX4_cheapest_X0_serversAbove
set_option maxRecDepth 20000 in
theorem ggX4_cheapest_X4_at : GoodIn wsX4_cheapest wsX4_at := goodIn_r _ [10] (by decide +kernel) (by decide +kernel)
set_option maxRecDepth 20000 in
theorem gX4_cheapest_X4_at : GoodIn wsX4_cheapest (va_wsS RX4 130 yX4_at wsX4_at) := goodIn_app (goodIn_of _ (by decide +kernel)) ggX4_cheapest_X4_at
set_option maxRecDepth 20000 in
theorem ggX4_cheapest_X0_isOpen : GoodIn wsX4_cheapest wsX0_isOpen := goodIn_r _ [15, 16, 8, 9, 10, 25, 26, 27, 28, 29, 30, 31, 32, 33, 34, 35, 36, 37] (by decide +kernel) (by decide +kernel)
set_option maxRecDepth 20000 in
theorem gX4_cheapest_X0_isOpen : GoodIn wsX4_cheapest (wsV RX4 157 RX0 yX0_isOpen wsX0_isOpen) := goodIn_app (goodIn_of _ (by decide +kernel)) ggX4_cheapest_X0_isOpen
set_option maxRecDepth 20000 in
theorem ggX4_cheapest_X0_shiftLoad : GoodIn wsX4_cheapest wsX0_shiftLoad := goodIn_r _ [20, 7, 8, 9, 10, 21, 22, 25, 26, 27, 28, 29, 30, 31, 32, 33, 34, 35, 36, 37] (by decide +kernel) (by decide +kernel)
set_option maxRecDepth 20000 in
theorem gX4_cheapest_X0_shiftLoad : GoodIn wsX4_cheapest (wsV RX4 240 RX0 yX0_shiftLoad wsX0_shiftLoad) := goodIn_app (goodIn_of _ (by decide +kernel)) ggX4_cheapest_X0_shiftLoad
set_option maxRecDepth 20000 in
theorem ggX4_cheapest_X4_cheapest : GoodIn wsX4_cheapest wsX4_cheapest := goodIn_r _ [0, 1, 2, 3, 4, 5, 6, 7, 8, 9, 10, 11, 12, 13, 14, 15, 16, 17, 18, 19, 20, 21, 22, 23, 24, 25, 26, 27, 28, 29, 30, 31, 32, 33, 34, 35, 36, 37] (by decide +kernel) (by decide +kernel)
set_option maxRecDepth 20000 in
theorem gX4_cheapest_X4_cheapest : GoodIn wsX4_cheapest (va_wsS RX4 202 yX4_cheapest wsX4_cheapest) := goodIn_app (goodIn_of _ (by decide +kernel)) ggX4_cheapest_X4_cheapest
theorem dX4_cheapest_0 : decode cX4_cheapest 0 = .ok (.aload_n 0, 1) := by decide +kernel
theorem dX4_cheapest_1 : decode cX4_cheapest 1 = .ok (.iload_n 1, 1) := by decide +kernel
theorem dX4_cheapest_2 : decode cX4_cheapest 2 = .ok (.invokevirtual 237, 3) := by decide +kernel
theorem dX4_cheapest_5 : decode cX4_cheapest 5 = .ok (.iload_n 2, 1) := by decide +kernel
theorem dX4_cheapest_6 : decode cX4_cheapest 6 = .ok (.if_icmp .le 6, 3) := by decide +kernel
theorem dX4_cheapest_9 : decode cX4_cheapest 9 = .ok (.bipush (-9), 2) := by decide +kernel
theorem dX4_cheapest_11 : decode cX4_cheapest 11 = .ok (.ireturn, 1) := by decide +kernel
theorem dX4_cheapest_12 : decode cX4_cheapest 12 = .ok (.iload_n 2, 1) := by decide +kernel
theorem dX4_cheapest_13 : decode cX4_cheapest 13 = .ok (.ifCond .gt 5, 3) := by decide +kernel
theorem dX4_cheapest_16 : decode cX4_cheapest 16 = .ok (.iconst 0, 1) := by decide +kernel
theorem dX4_cheapest_17 : decode cX4_cheapest 17 = .ok (.ireturn, 1) := by decide +kernel
theorem dX4_cheapest_18 : decode cX4_cheapest 18 = .ok (.bipush (-9), 2) := by decide +kernel
theorem dX4_cheapest_20 : decode cX4_cheapest 20 = .ok (.istore 4, 2) := by decide +kernel
theorem dX4_cheapest_22 : decode cX4_cheapest 22 = .ok (.iload_n 3, 1) := by decide +kernel
theorem dX4_cheapest_23 : decode cX4_cheapest 23 = .ok (.istore 5, 2) := by decide +kernel
theorem dX4_cheapest_25 : decode cX4_cheapest 25 = .ok (.iload 5, 2) := by decide +kernel
theorem dX4_cheapest_27 : decode cX4_cheapest 27 = .ok (.aload_n 0, 1) := by decide +kernel
theorem dX4_cheapest_28 : decode cX4_cheapest 28 = .ok (.getfield 111, 3) := by decide +kernel
theorem dX4_cheapest_31 : decode cX4_cheapest 31 = .ok (.if_icmp .ge 151, 3) := by decide +kernel
theorem dX4_cheapest_34 : decode cX4_cheapest 34 = .ok (.aload_n 0, 1) := by decide +kernel
theorem dX4_cheapest_35 : decode cX4_cheapest 35 = .ok (.getfield 171, 3) := by decide +kernel
theorem dX4_cheapest_38 : decode cX4_cheapest 38 = .ok (.iload 5, 2) := by decide +kernel
theorem dX4_cheapest_40 : decode cX4_cheapest 40 = .ok (.invokestatic 130, 3) := by decide +kernel
theorem dX4_cheapest_43 : decode cX4_cheapest 43 = .ok (.istore 6, 2) := by decide +kernel
theorem dX4_cheapest_45 : decode cX4_cheapest 45 = .ok (.aload_n 0, 1) := by decide +kernel
theorem dX4_cheapest_46 : decode cX4_cheapest 46 = .ok (.getfield 177, 3) := by decide +kernel
theorem dX4_cheapest_49 : decode cX4_cheapest 49 = .ok (.iload 5, 2) := by decide +kernel
theorem dX4_cheapest_51 : decode cX4_cheapest 51 = .ok (.invokestatic 130, 3) := by decide +kernel
theorem dX4_cheapest_54 : decode cX4_cheapest 54 = .ok (.istore 7, 2) := by decide +kernel
theorem dX4_cheapest_56 : decode cX4_cheapest 56 = .ok (.iload 7, 2) := by decide +kernel
theorem dX4_cheapest_58 : decode cX4_cheapest 58 = .ok (.bipush (-9), 2) := by decide +kernel
theorem dX4_cheapest_60 : decode cX4_cheapest 60 = .ok (.if_icmp .ne 6, 3) := by decide +kernel
theorem dX4_cheapest_63 : decode cX4_cheapest 63 = .ok (.goto 113, 3) := by decide +kernel
theorem dX4_cheapest_66 : decode cX4_cheapest 66 = .ok (.iconst 0, 1) := by decide +kernel
theorem dX4_cheapest_67 : decode cX4_cheapest 67 = .ok (.istore 8, 2) := by decide +kernel
theorem dX4_cheapest_69 : decode cX4_cheapest 69 = .ok (.iload 8, 2) := by decide +kernel
theorem dX4_cheapest_71 : decode cX4_cheapest 71 = .ok (.aload_n 0, 1) := by decide +kernel
theorem dX4_cheapest_72 : decode cX4_cheapest 72 = .ok (.getfield 105, 3) := by decide +kernel
theorem dX4_cheapest_75 : decode cX4_cheapest 75 = .ok (.if_icmp .ge 101, 3) := by decide +kernel
theorem dX4_cheapest_78 : decode cX4_cheapest 78 = .ok (.iload 8, 2) := by decide +kernel
theorem dX4_cheapest_80 : decode cX4_cheapest 80 = .ok (.iload 7, 2) := by decide +kernel
theorem dX4_cheapest_82 : decode cX4_cheapest 82 = .ok (.if_icmp .eq 88, 3) := by decide +kernel
theorem dX4_cheapest_85 : decode cX4_cheapest 85 = .ok (.aload_n 0, 1) := by decide +kernel
theorem dX4_cheapest_86 : decode cX4_cheapest 86 = .ok (.iload 8, 2) := by decide +kernel
theorem dX4_cheapest_88 : decode cX4_cheapest 88 = .ok (.invokevirtual 157, 3) := by decide +kernel
theorem dX4_cheapest_91 : decode cX4_cheapest 91 = .ok (.ifCond .ne 6, 3) := by decide +kernel
theorem dX4_cheapest_94 : decode cX4_cheapest 94 = .ok (.goto 76, 3) := by decide +kernel
theorem dX4_cheapest_97 : decode cX4_cheapest 97 = .ok (.aload_n 0, 1) := by decide +kernel
theorem dX4_cheapest_98 : decode cX4_cheapest 98 = .ok (.iload 6, 2) := by decide +kernel
theorem dX4_cheapest_100 : decode cX4_cheapest 100 = .ok (.iload 7, 2) := by decide +kernel
theorem dX4_cheapest_102 : decode cX4_cheapest 102 = .ok (.iload 8, 2) := by decide +kernel
theorem dX4_cheapest_104 : decode cX4_cheapest 104 = .ok (.invokevirtual 240, 3) := by decide +kernel
theorem dX4_cheapest_107 : decode cX4_cheapest 107 = .ok (.aload_n 0, 1) := by decide +kernel
theorem dX4_cheapest_108 : decode cX4_cheapest 108 = .ok (.iload_n 1, 1) := by decide +kernel
theorem dX4_cheapest_109 : decode cX4_cheapest 109 = .ok (.iload_n 2, 1) := by decide +kernel
theorem dX4_cheapest_110 : decode cX4_cheapest 110 = .ok (.iconst 1, 1) := by decide +kernel
theorem dX4_cheapest_111 : decode cX4_cheapest 111 = .ok (.isub, 1) := by decide +kernel
theorem dX4_cheapest_112 : decode cX4_cheapest 112 = .ok (.iload 5, 2) := by decide +kernel
theorem dX4_cheapest_114 : decode cX4_cheapest 114 = .ok (.iconst 1, 1) := by decide +kernel
theorem dX4_cheapest_115 : decode cX4_cheapest 115 = .ok (.iadd, 1) := by decide +kernel
theorem dX4_cheapest_116 : decode cX4_cheapest 116 = .ok (.invokestatic 202, 3) := by decide +kernel
theorem dX4_cheapest_119 : decode cX4_cheapest 119 = .ok (.istore 9, 2) := by decide +kernel
theorem dX4_cheapest_121 : decode cX4_cheapest 121 = .ok (.aload_n 0, 1) := by decide +kernel
theorem dX4_cheapest_122 : decode cX4_cheapest 122 = .ok (.iload 6, 2) := by decide +kernel
theorem dX4_cheapest_124 : decode cX4_cheapest 124 = .ok (.iload 8, 2) := by decide +kernel
theorem dX4_cheapest_126 : decode cX4_cheapest 126 = .ok (.iload 7, 2) := by decide +kernel
theorem dX4_cheapest_128 : decode cX4_cheapest 128 = .ok (.invokevirtual 240, 3) := by decide +kernel
theorem dX4_cheapest_131 : decode cX4_cheapest 131 = .ok (.iload 9, 2) := by decide +kernel
theorem dX4_cheapest_133 : decode cX4_cheapest 133 = .ok (.aload_n 0, 1) := by decide +kernel
theorem dX4_cheapest_134 : decode cX4_cheapest 134 = .ok (.getfield 174, 3) := by decide +kernel
theorem dX4_cheapest_137 : decode cX4_cheapest 137 = .ok (.iload 5, 2) := by decide +kernel
theorem dX4_cheapest_139 : decode cX4_cheapest 139 = .ok (.invokestatic 130, 3) := by decide +kernel
theorem dX4_cheapest_142 : decode cX4_cheapest 142 = .ok (.iadd, 1) := by decide +kernel
theorem dX4_cheapest_143 : decode cX4_cheapest 143 = .ok (.istore 10, 2) := by decide +kernel
theorem dX4_cheapest_145 : decode cX4_cheapest 145 = .ok (.iload 9, 2) := by decide +kernel
theorem dX4_cheapest_147 : decode cX4_cheapest 147 = .ok (.bipush (-9), 2) := by decide +kernel
theorem dX4_cheapest_149 : decode cX4_cheapest 149 = .ok (.if_icmp .eq 21, 3) := by decide +kernel
theorem dX4_cheapest_152 : decode cX4_cheapest 152 = .ok (.iload 4, 2) := by decide +kernel
theorem dX4_cheapest_154 : decode cX4_cheapest 154 = .ok (.bipush (-9), 2) := by decide +kernel
theorem dX4_cheapest_156 : decode cX4_cheapest 156 = .ok (.if_icmp .eq 10, 3) := by decide +kernel
theorem dX4_cheapest_159 : decode cX4_cheapest 159 = .ok (.iload 10, 2) := by decide +kernel
theorem dX4_cheapest_161 : decode cX4_cheapest 161 = .ok (.iload 4, 2) := by decide +kernel
theorem dX4_cheapest_163 : decode cX4_cheapest 163 = .ok (.if_icmp .ge 7, 3) := by decide +kernel
theorem dX4_cheapest_166 : decode cX4_cheapest 166 = .ok (.iload 10, 2) := by decide +kernel
theorem dX4_cheapest_168 : decode cX4_cheapest 168 = .ok (.istore 4, 2) := by decide +kernel
theorem dX4_cheapest_170 : decode cX4_cheapest 170 = .ok (.iinc 8 1, 3) := by decide +kernel
