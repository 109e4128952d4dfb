theorem dX0_closeAndEmpty_4 : decode cX0_closeAndEmpty 4 = .ok (.iload_n 1, 1) := by decide +kernel
theorem dX0_closeAndEmpty_5 : decode cX0_closeAndEmpty 5 = .ok (.iconst 0, 1) := by decide +kernel
theorem dX0_closeAndEmpty_6 : decode cX0_closeAndEmpty 6 = .ok (.invokestatic 56, 3) := by decide +kernel
theorem dX0_closeAndEmpty_9 : decode cX0_closeAndEmpty 9 = .ok (.aload_n 0, 1) := by decide +kernel
theorem dX0_closeAndEmpty_10 : decode cX0_closeAndEmpty 10 = .ok (.dup, 1) := by decide +kernel
theorem dX0_closeAndEmpty_11 : decode cX0_closeAndEmpty 11 = .ok (.getfield 34, 3) := by decide +kernel
theorem dX0_closeAndEmpty_14 : decode cX0_closeAndEmpty 14 = .ok (.iconst 1, 1) := by decide +kernel
theorem dX0_closeAndEmpty_15 : decode cX0_closeAndEmpty 15 = .ok (.isub, 1) := by decide +kernel
theorem dX0_closeAndEmpty_16 : decode cX0_closeAndEmpty 16 = .ok (.putfield 34, 3) := by decide +kernel
theorem dX0_closeAndEmpty_19 : decode cX0_closeAndEmpty 19 = .ok (.aload_n 0, 1) := by decide +kernel
theorem dX0_closeAndEmpty_20 : decode cX0_closeAndEmpty 20 = .ok (.iload_n 1, 1) := by decide +kernel
theorem dX0_closeAndEmpty_21 : decode cX0_closeAndEmpty 21 = .ok (.invokevirtual 99, 3) := by decide +kernel
theorem dX0_closeAndEmpty_24 : decode cX0_closeAndEmpty 24 = .ok (.invokestatic 102, 3) := by decide +kernel
theorem dX0_closeAndEmpty_27 : decode cX0_closeAndEmpty 27 = .ok (.istore_n 2, 1) := by decide +kernel
theorem dX0_closeAndEmpty_28 : decode cX0_closeAndEmpty 28 = .ok (.iconst 0, 1) := by decide +kernel
theorem dX0_closeAndEmpty_29 : decode cX0_closeAndEmpty 29 = .ok (.istore_n 3, 1) := by decide +kernel
theorem dX0_closeAndEmpty_30 : decode cX0_closeAndEmpty 30 = .ok (.iload_n 3, 1) := by decide +kernel
theorem dX0_closeAndEmpty_31 : decode cX0_closeAndEmpty 31 = .ok (.iload_n 2, 1) := by decide +kernel
theorem dX0_closeAndEmpty_32 : decode cX0_closeAndEmpty 32 = .ok (.if_icmp .ge 23, 3) := by decide +kernel
theorem dX0_closeAndEmpty_35 : decode cX0_closeAndEmpty 35 = .ok (.aload_n 0, 1) := by decide +kernel
theorem dX0_closeAndEmpty_36 : decode cX0_closeAndEmpty 36 = .ok (.aload_n 0, 1) := by decide +kernel
theorem dX0_closeAndEmpty_37 : decode cX0_closeAndEmpty 37 = .ok (.iload_n 1, 1) := by decide +kernel
theorem dX0_closeAndEmpty_38 : decode cX0_closeAndEmpty 38 = .ok (.iconst 0, 1) := by decide +kernel
theorem dX0_closeAndEmpty_39 : decode cX0_closeAndEmpty 39 = .ok (.invokevirtual 107, 3) := by decide +kernel
theorem dX0_closeAndEmpty_42 : decode cX0_closeAndEmpty 42 = .ok (.aload_n 0, 1) := by decide +kernel
theorem dX0_closeAndEmpty_43 : decode cX0_closeAndEmpty 43 = .ok (.invokevirtual 111, 3) := by decide +kernel
theorem dX0_closeAndEmpty_46 : decode cX0_closeAndEmpty 46 = .ok (.invokevirtual 81, 3) := by decide +kernel
theorem dX0_closeAndEmpty_49 : decode cX0_closeAndEmpty 49 = .ok (.iinc 3 1, 3) := by decide +kernel
theorem dX0_closeAndEmpty_52 : decode cX0_closeAndEmpty 52 = .ok (.goto (-22), 3) := by decide +kernel
theorem dX0_closeAndEmpty_55 : decode cX0_closeAndEmpty 55 = .ok (.iload_n 2, 1) := by decide +kernel
theorem dX0_closeAndEmpty_56 : decode cX0_closeAndEmpty 56 = .ok (.ireturn, 1) := by decide +kernel
set_option maxRecDepth 20000 in
theorem ggX0_takeTo_X4_at : GoodIn wsX0_takeTo wsX4_at := goodIn_r _ [9] (by decide +kernel) (by decide +kernel)
set_option maxRecDepth 20000 in
theorem gX0_takeTo_X4_at_n67 : GoodIn wsX0_takeTo (wsX4_at) := ggX0_takeTo_X4_at
set_option maxRecDepth 20000 in
theorem ggX0_takeTo_X0_shiftLoad : GoodIn wsX0_takeTo wsX0_shiftLoad := goodIn_r _ [14, 15, 7, 8, 9, 16, 17, 18, 19, 20, 21, 22, 23, 24, 25, 26, 27, 28, 29, 30] (by decide +kernel) (by decide +kernel)
set_option maxRecDepth 20000 in
theorem gX0_takeTo_X0_shiftLoad : GoodIn wsX0_takeTo (wsV RX0 114 RX0 yX0_shiftLoad wsX0_shiftLoad) := goodIn_app (goodIn_of _ (by decide +kernel)) ggX0_takeTo_X0_shiftLoad
set_option maxRecDepth 20000 in
theorem ggX0_takeTo_X4_put : GoodIn wsX0_takeTo wsX4_put := goodIn_r _ [17] (by decide +kernel) (by decide +kernel)
set_option maxRecDepth 20000 in
theorem gX0_takeTo_X4_put_n56 : GoodIn wsX0_takeTo (wsX4_put) := ggX0_takeTo_X4_put
theorem dX0_takeTo_0 : decode cX0_takeTo 0 = .ok (.aload_n 0, 1) := by decide +kernel
theorem dX0_takeTo_1 : decode cX0_takeTo 1 = .ok (.aload_n 0, 1) := by decide +kernel
theorem dX0_takeTo_2 : decode cX0_takeTo 2 = .ok (.getfield 9, 3) := by decide +kernel
theorem dX0_takeTo_5 : decode cX0_takeTo 5 = .ok (.iload_n 1, 1) := by decide +kernel
theorem dX0_takeTo_6 : decode cX0_takeTo 6 = .ok (.invokestatic 67, 3) := by decide +kernel
theorem dX0_takeTo_9 : decode cX0_takeTo 9 = .ok (.aload_n 0, 1) := by decide +kernel
theorem dX0_takeTo_10 : decode cX0_takeTo 10 = .ok (.getfield 18, 3) := by decide +kernel
theorem dX0_takeTo_13 : decode cX0_takeTo 13 = .ok (.iload_n 1, 1) := by decide +kernel
theorem dX0_takeTo_14 : decode cX0_takeTo 14 = .ok (.invokestatic 67, 3) := by decide +kernel
theorem dX0_takeTo_17 : decode cX0_takeTo 17 = .ok (.iload_n 2, 1) := by decide +kernel
theorem dX0_takeTo_18 : decode cX0_takeTo 18 = .ok (.invokevirtual 114, 3) := by decide +kernel
theorem dX0_takeTo_21 : decode cX0_takeTo 21 = .ok (.aload_n 0, 1) := by decide +kernel
theorem dX0_takeTo_22 : decode cX0_takeTo 22 = .ok (.getfield 18, 3) := by decide +kernel
theorem dX0_takeTo_25 : decode cX0_takeTo 25 = .ok (.iload_n 1, 1) := by decide +kernel
theorem dX0_takeTo_26 : decode cX0_takeTo 26 = .ok (.iload_n 2, 1) := by decide +kernel
theorem dX0_takeTo_27 : decode cX0_takeTo 27 = .ok (.invokestatic 56, 3) := by decide +kernel
theorem dX0_takeTo_30 : decode cX0_takeTo 30 = .ok (.aload_n 0, 1) := by decide +kernel
theorem dX0_takeTo_31 : decode cX0_takeTo 31 = .ok (.getfield 21, 3) := by decide +kernel
theorem dX0_takeTo_34 : decode cX0_takeTo 34 = .ok (.iload_n 1, 1) := by decide +kernel
theorem dX0_takeTo_35 : decode cX0_takeTo 35 = .ok (.aload_n 0, 1) := by decide +kernel
theorem dX0_takeTo_36 : decode cX0_takeTo 36 = .ok (.getfield 21, 3) := by decide +kernel
theorem dX0_takeTo_39 : decode cX0_takeTo 39 = .ok (.iload_n 1, 1) := by decide +kernel
theorem dX0_takeTo_40 : decode cX0_takeTo 40 = .ok (.invokestatic 67, 3) := by decide +kernel
theorem dX0_takeTo_43 : decode cX0_takeTo 43 = .ok (.iconst 1, 1) := by decide +kernel
theorem dX0_takeTo_44 : decode cX0_takeTo 44 = .ok (.iadd, 1) := by decide +kernel
theorem dX0_takeTo_45 : decode cX0_takeTo 45 = .ok (.invokestatic 56, 3) := by decide +kernel
theorem dX0_takeTo_48 : decode cX0_takeTo 48 = .ok (.aload_n 0, 1) := by decide +kernel
theorem dX0_takeTo_49 : decode cX0_takeTo 49 = .ok (.dup, 1) := by decide +kernel
theorem dX0_takeTo_50 : decode cX0_takeTo 50 = .ok (.getfield 49, 3) := by decide +kernel
theorem dX0_takeTo_53 : decode cX0_takeTo 53 = .ok (.iconst 1, 1) := by decide +kernel
theorem dX0_takeTo_54 : decode cX0_takeTo 54 = .ok (.iadd, 1) := by decide +kernel
theorem dX0_takeTo_55 : decode cX0_takeTo 55 = .ok (.putfield 49, 3) := by decide +kernel
theorem dX0_takeTo_58 : decode cX0_takeTo 58 = .ok (.aload_n 0, 1) := by decide +kernel
theorem dX0_takeTo_59 : decode cX0_takeTo 59 = .ok (.dup, 1) := by decide +kernel
theorem dX0_takeTo_60 : decode cX0_takeTo 60 = .ok (.getfield 43, 3) := by decide +kernel
theorem dX0_takeTo_63 : decode cX0_takeTo 63 = .ok (.aload_n 0, 1) := by decide +kernel
theorem dX0_takeTo_64 : decode cX0_takeTo 64 = .ok (.getfield 15, 3) := by decide +kernel
theorem dX0_takeTo_67 : decode cX0_takeTo 67 = .ok (.iload_n 1, 1) := by decide +kernel
theorem dX0_takeTo_68 : decode cX0_takeTo 68 = .ok (.invokestatic 67, 3) := by decide +kernel
theorem dX0_takeTo_71 : decode cX0_takeTo 71 = .ok (.isub, 1) := by decide +kernel
theorem dX0_takeTo_72 : decode cX0_takeTo 72 = .ok (.putfield 43, 3) := by decide +kernel
theorem dX0_takeTo_75 : decode cX0_takeTo 75 = .ok (.return_, 1) := by decide +kernel
set_option maxRecDepth 20000 in
theorem ggX0_shiftLoad_X4_at : GoodIn wsX0_shiftLoad wsX4_at := goodIn_r _ [4] (by decide +kernel) (by decide +kernel)
set_option maxRecDepth 20000 in
theorem gX0_shiftLoad_X4_at_n67 : GoodIn wsX0_shiftLoad (wsX4_at) := ggX0_shiftLoad_X4_at
set_option maxRecDepth 20000 in
theorem ggX0_shiftLoad_X4_put : GoodIn wsX0_shiftLoad wsX4_put := goodIn_r _ [6] (by decide +kernel) (by decide +kernel)
set_option maxRecDepth 20000 in
theorem gX0_shiftLoad_X4_put_n56 : GoodIn wsX0_shiftLoad (wsX4_put) := ggX0_shiftLoad_X4_put
theorem dX0_shiftLoad_0 : decode cX0_shiftLoad 0 = .ok (.aload_n 0, 1) := by decide +kernel
theorem dX0_shiftLoad_1 : decode cX0_shiftLoad 1 = .ok (.getfield 24, 3) := by decide +kernel
theorem dX0_shiftLoad_4 : decode cX0_shiftLoad 4 = .ok (.iload_n 2, 1) := by decide +kernel
theorem dX0_shiftLoad_5 : decode cX0_shiftLoad 5 = .ok (.aload_n 0, 1) := by decide +kernel
theorem dX0_shiftLoad_6 : decode cX0_shiftLoad 6 = .ok (.getfield 24, 3) := by decide +kernel
theorem dX0_shiftLoad_9 : decode cX0_shiftLoad 9 = .ok (.iload_n 2, 1) := by decide +kernel
theorem dX0_shiftLoad_10 : decode cX0_shiftLoad 10 = .ok (.invokestatic 67, 3) := by decide +kernel
theorem dX0_shiftLoad_13 : decode cX0_shiftLoad 13 = .ok (.iload_n 1, 1) := by decide +kernel
theorem dX0_shiftLoad_14 : decode cX0_shiftLoad 14 = .ok (.isub, 1) := by decide +kernel
theorem dX0_shiftLoad_15 : decode cX0_shiftLoad 15 = .ok (.invokestatic 56, 3) := by decide +kernel
theorem dX0_shiftLoad_18 : decode cX0_shiftLoad 18 = .ok (.aload_n 0, 1) := by decide +kernel
theorem dX0_shiftLoad_19 : decode cX0_shiftLoad 19 = .ok (.getfield 24, 3) := by decide +kernel
theorem dX0_shiftLoad_22 : decode cX0_shiftLoad 22 = .ok (.iload_n 3, 1) := by decide +kernel
theorem dX0_shiftLoad_23 : decode cX0_shiftLoad 23 = .ok (.aload_n 0, 1) := by decide +kernel
theorem dX0_shiftLoad_24 : decode cX0_shiftLoad 24 = .ok (.getfield 24, 3) := by decide +kernel
theorem dX0_shiftLoad_27 : decode cX0_shiftLoad 27 = .ok (.iload_n 3, 1) := by decide +kernel
theorem dX0_shiftLoad_28 : decode cX0_shiftLoad 28 = .ok (.invokestatic 67, 3) := by decide +kernel
theorem dX0_shiftLoad_31 : decode cX0_shiftLoad 31 = .ok (.iload_n 1, 1) := by decide +kernel
theorem dX0_shiftLoad_32 : decode cX0_shiftLoad 32 = .ok (.iadd, 1) := by decide +kernel
theorem dX0_shiftLoad_33 : decode cX0_shiftLoad 33 = .ok (.invokestatic 56, 3) := by decide +kernel
theorem dX0_shiftLoad_36 : decode cX0_shiftLoad 36 = .ok (.return_, 1) := by decide +kernel
theorem dX0_hasServer_0 : decode cX0_hasServer 0 = .ok (.iload_n 1, 1) := by decide +kernel
theorem dX0_hasServer_1 : decode cX0_hasServer 1 = .ok (.ifCond .lt 15, 3) := by decide +kernel
theorem dX0_hasServer_4 : decode cX0_hasServer 4 = .ok (.iload_n 1, 1) := by decide +kernel
theorem dX0_hasServer_5 : decode cX0_hasServer 5 = .ok (.aload_n 0, 1) := by decide +kernel
theorem dX0_hasServer_6 : decode cX0_hasServer 6 = .ok (.getfield 30, 3) := by decide +kernel
theorem dX0_hasServer_9 : decode cX0_hasServer 9 = .ok (.if_icmp .ge 7, 3) := by decide +kernel
theorem dX0_hasServer_12 : decode cX0_hasServer 12 = .ok (.iconst 1, 1) := by decide +kernel
theorem dX0_hasServer_13 : decode cX0_hasServer 13 = .ok (.goto 4, 3) := by decide +kernel
theorem dX0_hasServer_16 : decode cX0_hasServer 16 = .ok (.iconst 0, 1) := by decide +kernel
theorem dX0_hasServer_17 : decode cX0_hasServer 17 = .ok (.ireturn, 1) := by decide +kernel
theorem dX0_hasJob_0 : decode cX0_hasJob 0 = .ok (.iload_n 1, 1) := by decide +kernel
theorem dX0_hasJob_1 : decode cX0_hasJob 1 = .ok (.ifCond .lt 15, 3) := by decide +kernel
theorem dX0_hasJob_4 : decode cX0_hasJob 4 = .ok (.iload_n 1, 1) := by decide +kernel
theorem dX0_hasJob_5 : decode cX0_hasJob 5 = .ok (.aload_n 0, 1) := by decide +kernel
theorem dX0_hasJob_6 : decode cX0_hasJob 6 = .ok (.getfield 37, 3) := by decide +kernel
theorem dX0_hasJob_9 : decode cX0_hasJob 9 = .ok (.if_icmp .ge 7, 3) := by decide +kernel
theorem dX0_hasJob_12 : decode cX0_hasJob 12 = .ok (.iconst 1, 1) := by decide +kernel
theorem dX0_hasJob_13 : decode cX0_hasJob 13 = .ok (.goto 4, 3) := by decide +kernel
theorem dX0_hasJob_16 : decode cX0_hasJob 16 = .ok (.iconst 0, 1) := by decide +kernel
theorem dX0_hasJob_17 : decode cX0_hasJob 17 = .ok (.ireturn, 1) := by decide +kernel
set_option maxRecDepth 20000 in
theorem ggX0_isOpen_X4_at : GoodIn wsX0_isOpen wsX4_at := goodIn_r _ [4] (by decide +kernel) (by decide +kernel)
set_option maxRecDepth 20000 in
theorem gX0_isOpen_X4_at_n67 : GoodIn wsX0_isOpen (wsX4_at) := ggX0_isOpen_X4_at
theorem dX0_isOpen_0 : decode cX0_isOpen 0 = .ok (.aload_n 0, 1) := by decide +kernel
theorem dX0_isOpen_1 : decode cX0_isOpen 1 = .ok (.getfield 27, 3) := by decide +kernel
theorem dX0_isOpen_4 : decode cX0_isOpen 4 = .ok (.iload_n 1, 1) := by decide +kernel
theorem dX0_isOpen_5 : decode cX0_isOpen 5 = .ok (.invokestatic 67, 3) := by decide +kernel
theorem dX0_isOpen_8 : decode cX0_isOpen 8 = .ok (.iconst 1, 1) := by decide +kernel
theorem dX0_isOpen_9 : decode cX0_isOpen 9 = .ok (.if_icmp .ne 7, 3) := by decide +kernel
theorem dX0_isOpen_12 : decode cX0_isOpen 12 = .ok (.iconst 1, 1) := by decide +kernel
theorem dX0_isOpen_13 : decode cX0_isOpen 13 = .ok (.goto 4, 3) := by decide +kernel
theorem dX0_isOpen_16 : decode cX0_isOpen 16 = .ok (.iconst 0, 1) := by decide +kernel
theorem dX0_isOpen_17 : decode cX0_isOpen 17 = .ok (.ireturn, 1) := by decide +kernel
set_option maxRecDepth 20000 in
theorem ggX0_isFinished_X4_at : GoodIn wsX0_isFinished wsX4_at := goodIn_r _ [4] (by decide +kernel) (by decide +kernel)
set_option maxRecDepth 20000 in
theorem gX0_isFinished_X4_at_n67 : GoodIn wsX0_isFinished (wsX4_at) := ggX0_isFinished_X4_at
theorem dX0_isFinished_0 : decode cX0_isFinished 0 = .ok (.aload_n 0, 1) := by decide +kernel
theorem dX0_isFinished_1 : decode cX0_isFinished 1 = .ok (.getfield 18, 3) := by decide +kernel
theorem dX0_isFinished_4 : decode cX0_isFinished 4 = .ok (.iload_n 1, 1) := by decide +kernel
theorem dX0_isFinished_5 : decode cX0_isFinished 5 = .ok (.invokestatic 67, 3) := by decide +kernel
theorem dX0_isFinished_8 : decode cX0_isFinished 8 = .ok (.bipush (-9), 2) := by decide +kernel
theorem dX0_isFinished_10 : decode cX0_isFinished 10 = .ok (.if_icmp .ne 7, 3) := by decide +kernel
theorem dX0_isFinished_13 : decode cX0_isFinished 13 = .ok (.iconst 1, 1) := by decide +kernel
theorem dX0_isFinished_14 : decode cX0_isFinished 14 = .ok (.goto 4, 3) := by decide +kernel
theorem dX0_isFinished_17 : decode cX0_isFinished 17 = .ok (.iconst 0, 1) := by decide +kernel
theorem dX0_isFinished_18 : decode cX0_isFinished 18 = .ok (.ireturn, 1) := by decide +kernel
set_option maxRecDepth 20000 in
theorem ggX0_areApart_X0_isFinished : GoodIn wsX0_areApart wsX0_isFinished := goodIn_r _ [6, 1, 7, 8, 9, 10, 11, 12, 13, 14, 15, 16, 17, 18, 19, 20, 21, 22] (by decide +kernel) (by decide +kernel)
set_option maxRecDepth 20000 in
theorem gX0_areApart_X0_isFinished : GoodIn wsX0_areApart (wsV RX0 74 RX0 yX0_isFinished wsX0_isFinished) := goodIn_app (goodIn_of _ (by decide +kernel)) ggX0_areApart_X0_isFinished
set_option maxRecDepth 20000 in
theorem ggX0_areApart_X4_at : GoodIn wsX0_areApart wsX4_at := goodIn_r _ [9] (by decide +kernel) (by decide +kernel)
set_option maxRecDepth 20000 in
theorem gX0_areApart_X4_at_n67 : GoodIn wsX0_areApart (wsX4_at) := ggX0_areApart_X4_at
theorem dX0_areApart_0 : decode cX0_areApart 0 = .ok (.aload_n 0, 1) := by decide +kernel
theorem dX0_areApart_1 : decode cX0_areApart 1 = .ok (.iload_n 1, 1) := by decide +kernel
theorem dX0_areApart_2 : decode cX0_areApart 2 = .ok (.invokevirtual 74, 3) := by decide +kernel
theorem dX0_areApart_5 : decode cX0_areApart 5 = .ok (.ifCond .ne 34, 3) := by decide +kernel
theorem dX0_areApart_8 : decode cX0_areApart 8 = .ok (.aload_n 0, 1) := by decide +kernel
theorem dX0_areApart_9 : decode cX0_areApart 9 = .ok (.iload_n 2, 1) := by decide +kernel
theorem dX0_areApart_10 : decode cX0_areApart 10 = .ok (.invokevirtual 74, 3) := by decide +kernel
theorem dX0_areApart_13 : decode cX0_areApart 13 = .ok (.ifCond .ne 26, 3) := by decide +kernel
theorem dX0_areApart_16 : decode cX0_areApart 16 = .ok (.aload_n 0, 1) := by decide +kernel
theorem dX0_areApart_17 : decode cX0_areApart 17 = .ok (.getfield 18, 3) := by decide +kernel
theorem dX0_areApart_20 : decode cX0_areApart 20 = .ok (.iload_n 1, 1) := by decide +kernel
theorem dX0_areApart_21 : decode cX0_areApart 21 = .ok (.invokestatic 67, 3) := by decide +kernel
theorem dX0_areApart_24 : decode cX0_areApart 24 = .ok (.aload_n 0, 1) := by decide +kernel
theorem dX0_areApart_25 : decode cX0_areApart 25 = .ok (.getfield 18, 3) := by decide +kernel
theorem dX0_areApart_28 : decode cX0_areApart 28 = .ok (.iload_n 2, 1) := by decide +kernel
theorem dX0_areApart_29 : decode cX0_areApart 29 = .ok (.invokestatic 67, 3) := by decide +kernel
theorem dX0_areApart_32 : decode cX0_areApart 32 = .ok (.if_icmp .eq 7, 3) := by decide +kernel
theorem dX0_areApart_35 : decode cX0_areApart 35 = .ok (.iconst 1, 1) := by decide +kernel
theorem dX0_areApart_36 : decode cX0_areApart 36 = .ok (.goto 4, 3) := by decide +kernel
theorem dX0_areApart_39 : decode cX0_areApart 39 = .ok (.iconst 0, 1) := by decide +kernel
theorem dX0_areApart_40 : decode cX0_areApart 40 = .ok (.ireturn, 1) := by decide +kernel
set_option maxRecDepth 20000 in
theorem ggX0_finishedJobs_X0_isFinished : GoodIn wsX0_finishedJobs wsX0_isFinished := goodIn_r _ [6, 7, 8, 9, 10, 11, 12, 13, 14, 15, 16, 17, 18, 19, 20, 21, 22, 23] (by decide +kernel) (by decide +kernel)
set_option maxRecDepth 20000 in
theorem gX0_finishedJobs_X0_isFinished : GoodIn wsX0_finishedJobs (wsV RX0 74 RX0 yX0_isFinished wsX0_isFinished) := goodIn_app (goodIn_of _ (by decide +kernel)) ggX0_finishedJobs_X0_isFinished
theorem dX0_finishedJobs_0 : decode cX0_finishedJobs 0 = .ok (.iconst 0, 1) := by decide +kernel
theorem dX0_finishedJobs_1 : decode cX0_finishedJobs 1 = .ok (.istore_n 1, 1) := by decide +kernel
theorem dX0_finishedJobs_2 : decode cX0_finishedJobs 2 = .ok (.iconst 0, 1) := by decide +kernel
theorem dX0_finishedJobs_3 : decode cX0_finishedJobs 3 = .ok (.istore_n 2, 1) := by decide +kernel
theorem dX0_finishedJobs_4 : decode cX0_finishedJobs 4 = .ok (.iload_n 2, 1) := by decide +kernel
theorem dX0_finishedJobs_5 : decode cX0_finishedJobs 5 = .ok (.aload_n 0, 1) := by decide +kernel
theorem dX0_finishedJobs_6 : decode cX0_finishedJobs 6 = .ok (.getfield 37, 3) := by decide +kernel
theorem dX0_finishedJobs_9 : decode cX0_finishedJobs 9 = .ok (.if_icmp .ge 20, 3) := by decide +kernel
theorem dX0_finishedJobs_12 : decode cX0_finishedJobs 12 = .ok (.aload_n 0, 1) := by decide +kernel
theorem dX0_finishedJobs_13 : decode cX0_finishedJobs 13 = .ok (.iload_n 2, 1) := by decide +kernel
theorem dX0_finishedJobs_14 : decode cX0_finishedJobs 14 = .ok (.invokevirtual 74, 3) := by decide +kernel
theorem dX0_finishedJobs_17 : decode cX0_finishedJobs 17 = .ok (.ifCond .eq 6, 3) := by decide +kernel
theorem dX0_finishedJobs_20 : decode cX0_finishedJobs 20 = .ok (.iinc 1 1, 3) := by decide +kernel
theorem dX0_finishedJobs_23 : decode cX0_finishedJobs 23 = .ok (.iinc 2 1, 3) := by decide +kernel
theorem dX0_finishedJobs_26 : decode cX0_finishedJobs 26 = .ok (.goto (-22), 3) := by decide +kernel
theorem dX0_finishedJobs_29 : decode cX0_finishedJobs 29 = .ok (.iload_n 1, 1) := by decide +kernel
theorem dX0_finishedJobs_30 : decode cX0_finishedJobs 30 = .ok (.ireturn, 1) := by decide +kernel
set_option maxRecDepth 20000 in
theorem ggX0_jobsOn_X4_at : GoodIn wsX0_jobsOn wsX4_at := goodIn_r _ [5] (by decide +kernel) (by decide +kernel)
set_option maxRecDepth 20000 in
theorem gX0_jobsOn_X4_at_n67 : GoodIn wsX0_jobsOn (wsX4_at) := ggX0_jobsOn_X4_at
theorem dX0_jobsOn_0 : decode cX0_jobsOn 0 = .ok (.iconst 0, 1) := by decide +kernel
theorem dX0_jobsOn_1 : decode cX0_jobsOn 1 = .ok (.istore_n 2, 1) := by decide +kernel
theorem dX0_jobsOn_2 : decode cX0_jobsOn 2 = .ok (.iconst 0, 1) := by decide +kernel
theorem dX0_jobsOn_3 : decode cX0_jobsOn 3 = .ok (.istore_n 3, 1) := by decide +kernel
theorem dX0_jobsOn_4 : decode cX0_jobsOn 4 = .ok (.iload_n 3, 1) := by decide +kernel
theorem dX0_jobsOn_5 : decode cX0_jobsOn 5 = .ok (.aload_n 0, 1) := by decide +kernel
theorem dX0_jobsOn_6 : decode cX0_jobsOn 6 = .ok (.getfield 37, 3) := by decide +kernel
theorem dX0_jobsOn_9 : decode cX0_jobsOn 9 = .ok (.if_icmp .ge 27, 3) := by decide +kernel
theorem dX0_jobsOn_12 : decode cX0_jobsOn 12 = .ok (.aload_n 0, 1) := by decide +kernel
theorem dX0_jobsOn_13 : decode cX0_jobsOn 13 = .ok (.getfield 18, 3) := by decide +kernel
theorem dX0_jobsOn_16 : decode cX0_jobsOn 16 = .ok (.iload_n 3, 1) := by decide +kernel
theorem dX0_jobsOn_17 : decode cX0_jobsOn 17 = .ok (.invokestatic 67, 3) := by decide +kernel
theorem dX0_jobsOn_20 : decode cX0_jobsOn 20 = .ok (.iload_n 1, 1) := by decide +kernel
theorem dX0_jobsOn_21 : decode cX0_jobsOn 21 = .ok (.if_icmp .ne 9, 3) := by decide +kernel
theorem dX0_jobsOn_24 : decode cX0_jobsOn 24 = .ok (.iload_n 2, 1) := by decide +kernel
theorem dX0_jobsOn_25 : decode cX0_jobsOn 25 = .ok (.iconst 1, 1) := by decide +kernel
theorem dX0_jobsOn_26 : decode cX0_jobsOn 26 = .ok (.iload_n 3, 1) := by decide +kernel
theorem dX0_jobsOn_27 : decode cX0_jobsOn 27 = .ok (.ishl, 1) := by decide +kernel
theorem dX0_jobsOn_28 : decode cX0_jobsOn 28 = .ok (.ior, 1) := by decide +kernel
theorem dX0_jobsOn_29 : decode cX0_jobsOn 29 = .ok (.istore_n 2, 1) := by decide +kernel
theorem dX0_jobsOn_30 : decode cX0_jobsOn 30 = .ok (.iinc 3 1, 3) := by decide +kernel
theorem dX0_jobsOn_33 : decode cX0_jobsOn 33 = .ok (.goto (-29), 3) := by decide +kernel
theorem dX0_jobsOn_36 : decode cX0_jobsOn 36 = .ok (.iload_n 2, 1) := by decide +kernel
theorem dX0_jobsOn_37 : decode cX0_jobsOn 37 = .ok (.ireturn, 1) := by decide +kernel
set_option maxRecDepth 20000 in
theorem ggX0_priceOfAll_X4_at : GoodIn wsX0_priceOfAll wsX4_at := goodIn_r _ [6] (by decide +kernel) (by decide +kernel)
set_option maxRecDepth 20000 in
theorem gX0_priceOfAll_X4_at_n67 : GoodIn wsX0_priceOfAll (wsX4_at) := ggX0_priceOfAll_X4_at
theorem dX0_priceOfAll_0 : decode cX0_priceOfAll 0 = .ok (.iconst 0, 1) := by decide +kernel
theorem dX0_priceOfAll_1 : decode cX0_priceOfAll 1 = .ok (.istore_n 2, 1) := by decide +kernel
theorem dX0_priceOfAll_2 : decode cX0_priceOfAll 2 = .ok (.iconst 0, 1) := by decide +kernel
theorem dX0_priceOfAll_3 : decode cX0_priceOfAll 3 = .ok (.istore_n 3, 1) := by decide +kernel
theorem dX0_priceOfAll_4 : decode cX0_priceOfAll 4 = .ok (.iload_n 3, 1) := by decide +kernel
theorem dX0_priceOfAll_5 : decode cX0_priceOfAll 5 = .ok (.aload_n 0, 1) := by decide +kernel
theorem dX0_priceOfAll_6 : decode cX0_priceOfAll 6 = .ok (.getfield 37, 3) := by decide +kernel
theorem dX0_priceOfAll_9 : decode cX0_priceOfAll 9 = .ok (.if_icmp .ge 32, 3) := by decide +kernel
theorem dX0_priceOfAll_12 : decode cX0_priceOfAll 12 = .ok (.aload_n 0, 1) := by decide +kernel
theorem dX0_priceOfAll_13 : decode cX0_priceOfAll 13 = .ok (.getfield 18, 3) := by decide +kernel
theorem dX0_priceOfAll_16 : decode cX0_priceOfAll 16 = .ok (.iload_n 3, 1) := by decide +kernel
theorem dX0_priceOfAll_17 : decode cX0_priceOfAll 17 = .ok (.invokestatic 67, 3) := by decide +kernel
theorem dX0_priceOfAll_20 : decode cX0_priceOfAll 20 = .ok (.iload_n 1, 1) := by decide +kernel
theorem dX0_priceOfAll_21 : decode cX0_priceOfAll 21 = .ok (.if_icmp .ne 14, 3) := by decide +kernel
theorem dX0_priceOfAll_24 : decode cX0_priceOfAll 24 = .ok (.iload_n 2, 1) := by decide +kernel
theorem dX0_priceOfAll_25 : decode cX0_priceOfAll 25 = .ok (.aload_n 0, 1) := by decide +kernel
theorem dX0_priceOfAll_26 : decode cX0_priceOfAll 26 = .ok (.getfield 15, 3) := by decide +kernel
theorem dX0_priceOfAll_29 : decode cX0_priceOfAll 29 = .ok (.iload_n 3, 1) := by decide +kernel
theorem dX0_priceOfAll_30 : decode cX0_priceOfAll 30 = .ok (.invokestatic 67, 3) := by decide +kernel
theorem dX0_priceOfAll_33 : decode cX0_priceOfAll 33 = .ok (.iadd, 1) := by decide +kernel
theorem dX0_priceOfAll_34 : decode cX0_priceOfAll 34 = .ok (.istore_n 2, 1) := by decide +kernel
theorem dX0_priceOfAll_35 : decode cX0_priceOfAll 35 = .ok (.iinc 3 1, 3) := by decide +kernel
theorem dX0_priceOfAll_38 : decode cX0_priceOfAll 38 = .ok (.goto (-34), 3) := by decide +kernel
theorem dX0_priceOfAll_41 : decode cX0_priceOfAll 41 = .ok (.iload_n 2, 1) := by decide +kernel
theorem dX0_priceOfAll_42 : decode cX0_priceOfAll 42 = .ok (.ireturn, 1) := by decide +kernel
set_option maxRecDepth 20000 in
theorem ggX0_leavingJob_X4_at : GoodIn wsX0_leavingJob wsX4_at := goodIn_r _ [5] (by decide +kernel) (by decide +kernel)
set_option maxRecDepth 20000 in
theorem gX0_leavingJob_X4_at_n67 : GoodIn wsX0_leavingJob (wsX4_at) := ggX0_leavingJob_X4_at
set_option maxRecDepth 20000 in
theorem ggX0_leavingJob_X0_jobsLeavingBefore : GoodIn wsX0_leavingJob wsX0_jobsLeavingBefore := goodIn_r _ [10, 1, 2, 3, 4, 5, 11, 12, 13, 9, 14, 15, 16, 17, 18, 19, 20, 21, 22, 23, 24, 25, 26, 27, 28, 29] (by decide +kernel) (by decide +kernel)
set_option maxRecDepth 20000 in
theorem gX0_leavingJob_X0_jobsLeavingBefore : GoodIn wsX0_leavingJob (wsV RX0 118 RX0 yX0_jobsLeavingBefore wsX0_jobsLeavingBefore) := goodIn_app (goodIn_of _ (by decide +kernel)) ggX0_leavingJob_X0_jobsLeavingBefore
theorem dX0_leavingJob_0 : decode cX0_leavingJob 0 = .ok (.iconst 0, 1) := by decide +kernel
theorem dX0_leavingJob_1 : decode cX0_leavingJob 1 = .ok (.istore_n 3, 1) := by decide +kernel
theorem dX0_leavingJob_2 : decode cX0_leavingJob 2 = .ok (.iload_n 3, 1) := by decide +kernel
theorem dX0_leavingJob_3 : decode cX0_leavingJob 3 = .ok (.aload_n 0, 1) := by decide +kernel
theorem dX0_leavingJob_4 : decode cX0_leavingJob 4 = .ok (.getfield 37, 3) := by decide +kernel
theorem dX0_leavingJob_7 : decode cX0_leavingJob 7 = .ok (.if_icmp .ge 32, 3) := by decide +kernel
theorem dX0_leavingJob_10 : decode cX0_leavingJob 10 = .ok (.aload_n 0, 1) := by decide +kernel
theorem dX0_leavingJob_11 : decode cX0_leavingJob 11 = .ok (.getfield 18, 3) := by decide +kernel
theorem dX0_leavingJob_14 : decode cX0_leavingJob 14 = .ok (.iload_n 3, 1) := by decide +kernel
theorem dX0_leavingJob_15 : decode cX0_leavingJob 15 = .ok (.invokestatic 67, 3) := by decide +kernel
theorem dX0_leavingJob_18 : decode cX0_leavingJob 18 = .ok (.iload_n 1, 1) := by decide +kernel
theorem dX0_leavingJob_19 : decode cX0_leavingJob 19 = .ok (.if_icmp .ne 14, 3) := by decide +kernel
theorem dX0_leavingJob_22 : decode cX0_leavingJob 22 = .ok (.aload_n 0, 1) := by decide +kernel
theorem dX0_leavingJob_23 : decode cX0_leavingJob 23 = .ok (.iload_n 3, 1) := by decide +kernel
theorem dX0_leavingJob_24 : decode cX0_leavingJob 24 = .ok (.invokevirtual 118, 3) := by decide +kernel
theorem dX0_leavingJob_27 : decode cX0_leavingJob 27 = .ok (.iload_n 2, 1) := by decide +kernel
theorem dX0_leavingJob_28 : decode cX0_leavingJob 28 = .ok (.if_icmp .ne 5, 3) := by decide +kernel
theorem dX0_leavingJob_31 : decode cX0_leavingJob 31 = .ok (.iload_n 3, 1) := by decide +kernel
theorem dX0_leavingJob_32 : decode cX0_leavingJob 32 = .ok (.ireturn, 1) := by decide +kernel
theorem dX0_leavingJob_33 : decode cX0_leavingJob 33 = .ok (.iinc 3 1, 3) := by decide +kernel
theorem dX0_leavingJob_36 : decode cX0_leavingJob 36 = .ok (.goto (-34), 3) := by decide +kernel
theorem dX0_leavingJob_39 : decode cX0_leavingJob 39 = .ok (.bipush (-9), 2) := by decide +kernel
theorem dX0_leavingJob_41 : decode cX0_leavingJob 41 = .ok (.ireturn, 1) := by decide +kernel
set_option maxRecDepth 20000 in
theorem ggX0_jobsLeavingBefore_X4_at : GoodIn wsX0_jobsLeavingBefore wsX4_at := goodIn_r _ [5] (by decide +kernel) (by decide +kernel)
set_option maxRecDepth 20000 in
theorem gX0_jobsLeavingBefore_X4_at_n67 : GoodIn wsX0_jobsLeavingBefore (wsX4_at) := ggX0_jobsLeavingBefore_X4_at
set_option maxRecDepth 20000 in
theorem ggX0_jobsLeavingBefore_X0_leavesBefore : GoodIn wsX0_jobsLeavingBefore wsX0_leavesBefore := goodIn_r _ [10, 11, 12, 3, 4, 5, 13, 14, 15, 16, 17, 18, 19, 20, 21, 22, 23, 24, 25] (by decide +kernel) (by decide +kernel)
set_option maxRecDepth 20000 in
theorem gX0_jobsLeavingBefore_X0_leavesBefore : GoodIn wsX0_jobsLeavingBefore (wsV RX0 121 RX0 yX0_leavesBefore wsX0_leavesBefore) := goodIn_app (goodIn_of _ (by decide +kernel)) ggX0_jobsLeavingBefore_X0_leavesBefore
theorem dX0_jobsLeavingBefore_0 : decode cX0_jobsLeavingBefore 0 = .ok (.iconst 0, 1) := by decide +kernel
theorem dX0_jobsLeavingBefore_1 : decode cX0_jobsLeavingBefore 1 = .ok (.istore_n 2, 1) := by decide +kernel
theorem dX0_jobsLeavingBefore_2 : decode cX0_jobsLeavingBefore 2 = .ok (.iconst 0, 1) := by decide +kernel
theorem dX0_jobsLeavingBefore_3 : decode cX0_jobsLeavingBefore 3 = .ok (.istore_n 3, 1) := by decide +kernel
theorem dX0_jobsLeavingBefore_4 : decode cX0_jobsLeavingBefore 4 = .ok (.iload_n 3, 1) := by decide +kernel
theorem dX0_jobsLeavingBefore_5 : decode cX0_jobsLeavingBefore 5 = .ok (.aload_n 0, 1) := by decide +kernel
theorem dX0_jobsLeavingBefore_6 : decode cX0_jobsLeavingBefore 6 = .ok (.getfield 37, 3) := by decide +kernel
theorem dX0_jobsLeavingBefore_9 : decode cX0_jobsLeavingBefore 9 = .ok (.if_icmp .ge 40, 3) := by decide +kernel
theorem dX0_jobsLeavingBefore_12 : decode cX0_jobsLeavingBefore 12 = .ok (.aload_n 0, 1) := by decide +kernel
theorem dX0_jobsLeavingBefore_13 : decode cX0_jobsLeavingBefore 13 = .ok (.getfield 18, 3) := by decide +kernel
theorem dX0_jobsLeavingBefore_16 : decode cX0_jobsLeavingBefore 16 = .ok (.iload_n 3, 1) := by decide +kernel
theorem dX0_jobsLeavingBefore_17 : decode cX0_jobsLeavingBefore 17 = .ok (.invokestatic 67, 3) := by decide +kernel
theorem dX0_jobsLeavingBefore_20 : decode cX0_jobsLeavingBefore 20 = .ok (.aload_n 0, 1) := by decide +kernel
theorem dX0_jobsLeavingBefore_21 : decode cX0_jobsLeavingBefore 21 = .ok (.getfield 18, 3) := by decide +kernel
theorem dX0_jobsLeavingBefore_24 : decode cX0_jobsLeavingBefore 24 = .ok (.iload_n 1, 1) := by decide +kernel
theorem dX0_jobsLeavingBefore_25 : decode cX0_jobsLeavingBefore 25 = .ok (.invokestatic 67, 3) := by decide +kernel
theorem dX0_jobsLeavingBefore_28 : decode cX0_jobsLeavingBefore 28 = .ok (.if_icmp .ne 15, 3) := by decide +kernel
theorem dX0_jobsLeavingBefore_31 : decode cX0_jobsLeavingBefore 31 = .ok (.aload_n 0, 1) := by decide +kernel
theorem dX0_jobsLeavingBefore_32 : decode cX0_jobsLeavingBefore 32 = .ok (.iload_n 3, 1) := by decide +kernel
theorem dX0_jobsLeavingBefore_33 : decode cX0_jobsLeavingBefore 33 = .ok (.iload_n 1, 1) := by decide +kernel
theorem dX0_jobsLeavingBefore_34 : decode cX0_jobsLeavingBefore 34 = .ok (.invokevirtual 121, 3) := by decide +kernel
theorem dX0_jobsLeavingBefore_37 : decode cX0_jobsLeavingBefore 37 = .ok (.ifCond .eq 6, 3) := by decide +kernel
theorem dX0_jobsLeavingBefore_40 : decode cX0_jobsLeavingBefore 40 = .ok (.iinc 2 1, 3) := by decide +kernel
theorem dX0_jobsLeavingBefore_43 : decode cX0_jobsLeavingBefore 43 = .ok (.iinc 3 1, 3) := by decide +kernel
theorem dX0_jobsLeavingBefore_46 : decode cX0_jobsLeavingBefore 46 = .ok (.goto (-42), 3) := by decide +kernel
theorem dX0_jobsLeavingBefore_49 : decode cX0_jobsLeavingBefore 49 = .ok (.iload_n 2, 1) := by decide +kernel
theorem dX0_jobsLeavingBefore_50 : decode cX0_jobsLeavingBefore 50 = .ok (.ireturn, 1) := by decide +kernel
set_option maxRecDepth 20000 in
theorem ggX0_leavesBefore_X4_at : GoodIn wsX0_leavesBefore wsX4_at := goodIn_r _ [5] (by decide +kernel) (by decide +kernel)
set_option maxRecDepth 20000 in
theorem gX0_leavesBefore_X4_at_n67 : GoodIn wsX0_leavesBefore (wsX4_at) := ggX0_leavesBefore_X4_at
theorem dX0_leavesBefore_0 : decode cX0_leavesBefore 0 = .ok (.aload_n 0, 1) := by decide +kernel
theorem dX0_leavesBefore_1 : decode cX0_leavesBefore 1 = .ok (.getfield 9, 3) := by decide +kernel
theorem dX0_leavesBefore_4 : decode cX0_leavesBefore 4 = .ok (.iload_n 1, 1) := by decide +kernel
theorem dX0_leavesBefore_5 : decode cX0_leavesBefore 5 = .ok (.invokestatic 67, 3) := by decide +kernel
theorem dX0_leavesBefore_8 : decode cX0_leavesBefore 8 = .ok (.aload_n 0, 1) := by decide +kernel
theorem dX0_leavesBefore_9 : decode cX0_leavesBefore 9 = .ok (.getfield 9, 3) := by decide +kernel
theorem dX0_leavesBefore_12 : decode cX0_leavesBefore 12 = .ok (.iload_n 2, 1) := by decide +kernel
theorem dX0_leavesBefore_13 : decode cX0_leavesBefore 13 = .ok (.invokestatic 67, 3) := by decide +kernel
theorem dX0_leavesBefore_16 : decode cX0_leavesBefore 16 = .ok (.if_icmp .eq 28, 3) := by decide +kernel
theorem dX0_leavesBefore_19 : decode cX0_leavesBefore 19 = .ok (.aload_n 0, 1) := by decide +kernel
theorem dX0_leavesBefore_20 : decode cX0_leavesBefore 20 = .ok (.getfield 9, 3) := by decide +kernel
theorem dX0_leavesBefore_23 : decode cX0_leavesBefore 23 = .ok (.iload_n 1, 1) := by decide +kernel
theorem dX0_leavesBefore_24 : decode cX0_leavesBefore 24 = .ok (.invokestatic 67, 3) := by decide +kernel
theorem dX0_leavesBefore_27 : decode cX0_leavesBefore 27 = .ok (.aload_n 0, 1) := by decide +kernel
theorem dX0_leavesBefore_28 : decode cX0_leavesBefore 28 = .ok (.getfield 9, 3) := by decide +kernel
theorem dX0_leavesBefore_31 : decode cX0_leavesBefore 31 = .ok (.iload_n 2, 1) := by decide +kernel
theorem dX0_leavesBefore_32 : decode cX0_leavesBefore 32 = .ok (.invokestatic 67, 3) := by decide +kernel
theorem dX0_leavesBefore_35 : decode cX0_leavesBefore 35 = .ok (.if_icmp .le 7, 3) := by decide +kernel
theorem dX0_leavesBefore_38 : decode cX0_leavesBefore 38 = .ok (.iconst 1, 1) := by decide +kernel
theorem dX0_leavesBefore_39 : decode cX0_leavesBefore 39 = .ok (.goto 4, 3) := by decide +kernel
theorem dX0_leavesBefore_42 : decode cX0_leavesBefore 42 = .ok (.iconst 0, 1) := by decide +kernel
theorem dX0_leavesBefore_43 : decode cX0_leavesBefore 43 = .ok (.ireturn, 1) := by decide +kernel
theorem dX0_leavesBefore_44 : decode cX0_leavesBefore 44 = .ok (.aload_n 0, 1) := by decide +kernel
theorem dX0_leavesBefore_45 : decode cX0_leavesBefore 45 = .ok (.getfield 15, 3) := by decide +kernel
theorem dX0_leavesBefore_48 : decode cX0_leavesBefore 48 = .ok (.iload_n 1, 1) := by decide +kernel
theorem dX0_leavesBefore_49 : decode cX0_leavesBefore 49 = .ok (.invokestatic 67, 3) := by decide +kernel
theorem dX0_leavesBefore_52 : decode cX0_leavesBefore 52 = .ok (.aload_n 0, 1) := by decide +kernel
theorem dX0_leavesBefore_53 : decode cX0_leavesBefore 53 = .ok (.getfield 15, 3) := by decide +kernel
theorem dX0_leavesBefore_56 : decode cX0_leavesBefore 56 = .ok (.iload_n 2, 1) := by decide +kernel
theorem dX0_leavesBefore_57 : decode cX0_leavesBefore 57 = .ok (.invokestatic 67, 3) := by decide +kernel
theorem dX0_leavesBefore_60 : decode cX0_leavesBefore 60 = .ok (.if_icmp .eq 28, 3) := by decide +kernel
theorem dX0_leavesBefore_63 : decode cX0_leavesBefore 63 = .ok (.aload_n 0, 1) := by decide +kernel
theorem dX0_leavesBefore_64 : decode cX0_leavesBefore 64 = .ok (.getfield 15, 3) := by decide +kernel
theorem dX0_leavesBefore_67 : decode cX0_leavesBefore 67 = .ok (.iload_n 1, 1) := by decide +kernel
theorem dX0_leavesBefore_68 : decode cX0_leavesBefore 68 = .ok (.invokestatic 67, 3) := by decide +kernel
theorem dX0_leavesBefore_71 : decode cX0_leavesBefore 71 = .ok (.aload_n 0, 1) := by decide +kernel
theorem dX0_leavesBefore_72 : decode cX0_leavesBefore 72 = .ok (.getfield 15, 3) := by decide +kernel
theorem dX0_leavesBefore_75 : decode cX0_leavesBefore 75 = .ok (.iload_n 2, 1) := by decide +kernel
theorem dX0_leavesBefore_76 : decode cX0_leavesBefore 76 = .ok (.invokestatic 67, 3) := by decide +kernel
theorem dX0_leavesBefore_79 : decode cX0_leavesBefore 79 = .ok (.if_icmp .ge 7, 3) := by decide +kernel
theorem dX0_leavesBefore_82 : decode cX0_leavesBefore 82 = .ok (.iconst 1, 1) := by decide +kernel
theorem dX0_leavesBefore_83 : decode cX0_leavesBefore 83 = .ok (.goto 4, 3) := by decide +kernel
theorem dX0_leavesBefore_86 : decode cX0_leavesBefore 86 = .ok (.iconst 0, 1) := by decide +kernel
theorem dX0_leavesBefore_87 : decode cX0_leavesBefore 87 = .ok (.ireturn, 1) := by decide +kernel
theorem dX0_leavesBefore_88 : decode cX0_leavesBefore 88 = .ok (.iload_n 1, 1) := by decide +kernel
theorem dX0_leavesBefore_89 : decode cX0_leavesBefore 89 = .ok (.iload_n 2, 1) := by decide +kernel
theorem dX0_leavesBefore_90 : decode cX0_leavesBefore 90 = .ok (.if_icmp .ge 7, 3) := by decide +kernel
theorem dX0_leavesBefore_93 : decode cX0_leavesBefore 93 = .ok (.iconst 1, 1) := by decide +kernel
theorem dX0_leavesBefore_94 : decode cX0_leavesBefore 94 = .ok (.goto 4, 3) := by decide +kernel
theorem dX0_leavesBefore_97 : decode cX0_leavesBefore 97 = .ok (.iconst 0, 1) := by decide +kernel
theorem dX0_leavesBefore_98 : decode cX0_leavesBefore 98 = .ok (.ireturn, 1) := by decide +kernel
set_option maxRecDepth 20000 in
theorem ggX0_greatestLoad_X0_fullestServer : GoodIn wsX0_greatestLoad wsX0_fullestServer := goodIn_r _ [6, 7, 1, 8, 9, 10, 11, 12, 13, 14, 15, 16, 17, 18, 19, 20, 21, 22, 23, 24] (by decide +kernel) (by decide +kernel)
set_option maxRecDepth 20000 in
theorem gX0_greatestLoad_X0_fullestServer : GoodIn wsX0_greatestLoad (wsV RX0 124 RX0 yX0_fullestServer wsX0_fullestServer) := goodIn_app (goodIn_of _ (by decide +kernel)) ggX0_greatestLoad_X0_fullestServer
set_option maxRecDepth 20000 in
theorem ggX0_greatestLoad_X4_at : GoodIn wsX0_greatestLoad wsX4_at := goodIn_r _ [11] (by decide +kernel) (by decide +kernel)
set_option maxRecDepth 20000 in
theorem gX0_greatestLoad_X4_at_n67 : GoodIn wsX0_greatestLoad (wsX4_at) := ggX0_greatestLoad_X4_at
theorem dX0_greatestLoad_0 : decode cX0_greatestLoad 0 = .ok (.aload_n 0, 1) := by decide +kernel
theorem dX0_greatestLoad_1 : decode cX0_greatestLoad 1 = .ok (.getfield 24, 3) := by decide +kernel
theorem dX0_greatestLoad_4 : decode cX0_greatestLoad 4 = .ok (.aload_n 0, 1) := by decide +kernel
theorem dX0_greatestLoad_5 : decode cX0_greatestLoad 5 = .ok (.invokevirtual 124, 3) := by decide +kernel
theorem dX0_greatestLoad_8 : decode cX0_greatestLoad 8 = .ok (.invokestatic 67, 3) := by decide +kernel
theorem dX0_greatestLoad_11 : decode cX0_greatestLoad 11 = .ok (.ireturn, 1) := by decide +kernel
set_option maxRecDepth 20000 in
theorem ggX0_fullestServer_X4_at : GoodIn wsX0_fullestServer wsX4_at := goodIn_r _ [6] (by decide +kernel) (by decide +kernel)
set_option maxRecDepth 20000 in
theorem gX0_fullestServer_X4_at_n67 : GoodIn wsX0_fullestServer (wsX4_at) := ggX0_fullestServer_X4_at
theorem dX0_fullestServer_0 : decode cX0_fullestServer 0 = .ok (.bipush (-9), 2) := by decide +kernel
theorem dX0_fullestServer_2 : decode cX0_fullestServer 2 = .ok (.istore_n 1, 1) := by decide +kernel
theorem dX0_fullestServer_3 : decode cX0_fullestServer 3 = .ok (.iconst 0, 1) := by decide +kernel
theorem dX0_fullestServer_4 : decode cX0_fullestServer 4 = .ok (.istore_n 2, 1) := by decide +kernel
theorem dX0_fullestServer_5 : decode cX0_fullestServer 5 = .ok (.iload_n 2, 1) := by decide +kernel
theorem dX0_fullestServer_6 : decode cX0_fullestServer 6 = .ok (.aload_n 0, 1) := by decide +kernel
theorem dX0_fullestServer_7 : decode cX0_fullestServer 7 = .ok (.getfield 30, 3) := by decide +kernel
theorem dX0_fullestServer_10 : decode cX0_fullestServer 10 = .ok (.if_icmp .ge 58, 3) := by decide +kernel
theorem dX0_fullestServer_13 : decode cX0_fullestServer 13 = .ok (.iload_n 1, 1) := by decide +kernel
theorem dX0_fullestServer_14 : decode cX0_fullestServer 14 = .ok (.bipush (-9), 2) := by decide +kernel
theorem dX0_fullestServer_16 : decode cX0_fullestServer 16 = .ok (.if_icmp .eq 22, 3) := by decide +kernel
theorem dX0_fullestServer_19 : decode cX0_fullestServer 19 = .ok (.aload_n 0, 1) := by decide +kernel
theorem dX0_fullestServer_20 : decode cX0_fullestServer 20 = .ok (.getfield 24, 3) := by decide +kernel
theorem dX0_fullestServer_23 : decode cX0_fullestServer 23 = .ok (.iload_n 2, 1) := by decide +kernel
theorem dX0_fullestServer_24 : decode cX0_fullestServer 24 = .ok (.invokestatic 67, 3) := by decide +kernel
theorem dX0_fullestServer_27 : decode cX0_fullestServer 27 = .ok (.aload_n 0, 1) := by decide +kernel
theorem dX0_fullestServer_28 : decode cX0_fullestServer 28 = .ok (.getfield 24, 3) := by decide +kernel
theorem dX0_fullestServer_31 : decode cX0_fullestServer 31 = .ok (.iload_n 1, 1) := by decide +kernel
theorem dX0_fullestServer_32 : decode cX0_fullestServer 32 = .ok (.invokestatic 67, 3) := by decide +kernel
theorem dX0_fullestServer_35 : decode cX0_fullestServer 35 = .ok (.if_icmp .le 7, 3) := by decide +kernel
theorem dX0_fullestServer_38 : decode cX0_fullestServer 38 = .ok (.iconst 1, 1) := by decide +kernel
theorem dX0_fullestServer_39 : decode cX0_fullestServer 39 = .ok (.goto 4, 3) := by decide +kernel
theorem dX0_fullestServer_42 : decode cX0_fullestServer 42 = .ok (.iconst 0, 1) := by decide +kernel
theorem dX0_fullestServer_43 : decode cX0_fullestServer 43 = .ok (.istore_n 3, 1) := by decide +kernel
theorem dX0_fullestServer_44 : decode cX0_fullestServer 44 = .ok (.aload_n 0, 1) := by decide +kernel
theorem dX0_fullestServer_45 : decode cX0_fullestServer 45 = .ok (.getfield 27, 3) := by decide +kernel
theorem dX0_fullestServer_48 : decode cX0_fullestServer 48 = .ok (.iload_n 2, 1) := by decide +kernel
theorem dX0_fullestServer_49 : decode cX0_fullestServer 49 = .ok (.invokestatic 67, 3) := by decide +kernel
theorem dX0_fullestServer_52 : decode cX0_fullestServer 52 = .ok (.iconst 1, 1) := by decide +kernel
theorem dX0_fullestServer_53 : decode cX0_fullestServer 53 = .ok (.if_icmp .ne 9, 3) := by decide +kernel
theorem dX0_fullestServer_56 : decode cX0_fullestServer 56 = .ok (.iload_n 3, 1) := by decide +kernel
theorem dX0_fullestServer_57 : decode cX0_fullestServer 57 = .ok (.ifCond .eq 5, 3) := by decide +kernel
theorem dX0_fullestServer_60 : decode cX0_fullestServer 60 = .ok (.iload_n 2, 1) := by decide +kernel
theorem dX0_fullestServer_61 : decode cX0_fullestServer 61 = .ok (.istore_n 1, 1) := by decide +kernel
theorem dX0_fullestServer_62 : decode cX0_fullestServer 62 = .ok (.iinc 2 1, 3) := by decide +kernel
theorem dX0_fullestServer_65 : decode cX0_fullestServer 65 = .ok (.goto (-60), 3) := by decide +kernel
theorem dX0_fullestServer_68 : decode cX0_fullestServer 68 = .ok (.iload_n 1, 1) := by decide +kernel
theorem dX0_fullestServer_69 : decode cX0_fullestServer 69 = .ok (.ireturn, 1) := by decide +kernel
set_option maxRecDepth 20000 in
theorem ggX0_emptiestServer_X4_at : GoodIn wsX0_emptiestServer wsX4_at := goodIn_r _ [6] (by decide +kernel) (by decide +kernel)
set_option maxRecDepth 20000 in
theorem gX0_emptiestServer_X4_at_n67 : GoodIn wsX0_emptiestServer (wsX4_at) := ggX0_emptiestServer_X4_at
theorem dX0_emptiestServer_0 : decode cX0_emptiestServer 0 = .ok (.bipush (-9), 2) := by decide +kernel
theorem dX0_emptiestServer_2 : decode cX0_emptiestServer 2 = .ok (.istore_n 1, 1) := by decide +kernel
theorem dX0_emptiestServer_3 : decode cX0_emptiestServer 3 = .ok (.iconst 0, 1) := by decide +kernel
theorem dX0_emptiestServer_4 : decode cX0_emptiestServer 4 = .ok (.istore_n 2, 1) := by decide +kernel
theorem dX0_emptiestServer_5 : decode cX0_emptiestServer 5 = .ok (.iload_n 2, 1) := by decide +kernel
theorem dX0_emptiestServer_6 : decode cX0_emptiestServer 6 = .ok (.aload_n 0, 1) := by decide +kernel
theorem dX0_emptiestServer_7 : decode cX0_emptiestServer 7 = .ok (.getfield 30, 3) := by decide +kernel
theorem dX0_emptiestServer_10 : decode cX0_emptiestServer 10 = .ok (.if_icmp .ge 58, 3) := by decide +kernel
theorem dX0_emptiestServer_13 : decode cX0_emptiestServer 13 = .ok (.iload_n 1, 1) := by decide +kernel
theorem dX0_emptiestServer_14 : decode cX0_emptiestServer 14 = .ok (.bipush (-9), 2) := by decide +kernel
theorem dX0_emptiestServer_16 : decode cX0_emptiestServer 16 = .ok (.if_icmp .eq 22, 3) := by decide +kernel
theorem dX0_emptiestServer_19 : decode cX0_emptiestServer 19 = .ok (.aload_n 0, 1) := by decide +kernel
theorem dX0_emptiestServer_20 : decode cX0_emptiestServer 20 = .ok (.getfield 24, 3) := by decide +kernel
theorem dX0_emptiestServer_23 : decode cX0_emptiestServer 23 = .ok (.iload_n 2, 1) := by decide +kernel
theorem dX0_emptiestServer_24 : decode cX0_emptiestServer 24 = .ok (.invokestatic 67, 3) := by decide +kernel
theorem dX0_emptiestServer_27 : decode cX0_emptiestServer 27 = .ok (.aload_n 0, 1) := by decide +kernel
theorem dX0_emptiestServer_28 : decode cX0_emptiestServer 28 = .ok (.getfield 24, 3) := by decide +kernel
theorem dX0_emptiestServer_31 : decode cX0_emptiestServer 31 = .ok (.iload_n 1, 1) := by decide +kernel
theorem dX0_emptiestServer_32 : decode cX0_emptiestServer 32 = .ok (.invokestatic 67, 3) := by decide +kernel
theorem dX0_emptiestServer_35 : decode cX0_emptiestServer 35 = .ok (.if_icmp .ge 7, 3) := by decide +kernel
theorem dX0_emptiestServer_38 : decode cX0_emptiestServer 38 = .ok (.iconst 1, 1) := by decide +kernel
theorem dX0_emptiestServer_39 : decode cX0_emptiestServer 39 = .ok (.goto 4, 3) := by decide +kernel
theorem dX0_emptiestServer_42 : decode cX0_emptiestServer 42 = .ok (.iconst 0, 1) := by decide +kernel
theorem dX0_emptiestServer_43 : decode cX0_emptiestServer 43 = .ok (.istore_n 3, 1) := by decide +kernel
theorem dX0_emptiestServer_44 : decode cX0_emptiestServer 44 = .ok (.aload_n 0, 1) := by decide +kernel
theorem dX0_emptiestServer_45 : decode cX0_emptiestServer 45 = .ok (.getfield 27, 3) := by decide +kernel
theorem dX0_emptiestServer_48 : decode cX0_emptiestServer 48 = .ok (.iload_n 2, 1) := by decide +kernel
theorem dX0_emptiestServer_49 : decode cX0_emptiestServer 49 = .ok (.invokestatic 67, 3) := by decide +kernel
theorem dX0_emptiestServer_52 : decode cX0_emptiestServer 52 = .ok (.iconst 1, 1) := by decide +kernel
theorem dX0_emptiestServer_53 : decode cX0_emptiestServer 53 = .ok (.if_icmp .ne 9, 3) := by decide +kernel
theorem dX0_emptiestServer_56 : decode cX0_emptiestServer 56 = .ok (.iload_n 3, 1) := by decide +kernel
theorem dX0_emptiestServer_57 : decode cX0_emptiestServer 57 = .ok (.ifCond .eq 5, 3) := by decide +kernel
theorem dX0_emptiestServer_60 : decode cX0_emptiestServer 60 = .ok (.iload_n 2, 1) := by decide +kernel
theorem dX0_emptiestServer_61 : decode cX0_emptiestServer 61 = .ok (.istore_n 1, 1) := by decide +kernel
theorem dX0_emptiestServer_62 : decode cX0_emptiestServer 62 = .ok (.iinc 2 1, 3) := by decide +kernel
theorem dX0_emptiestServer_65 : decode cX0_emptiestServer 65 = .ok (.goto (-60), 3) := by decide +kernel
theorem dX0_emptiestServer_68 : decode cX0_emptiestServer 68 = .ok (.iload_n 1, 1) := by decide +kernel
theorem dX0_emptiestServer_69 : decode cX0_emptiestServer 69 = .ok (.ireturn, 1) := by decide +kernel
set_option maxRecDepth 20000 in
theorem ggX0_bound_X4_at : GoodIn wsX0_bound wsX4_at := goodIn_r _ [12] (by decide +kernel) (by decide +kernel)
set_option maxRecDepth 20000 in
theorem gX0_bound_X4_at_n67 : GoodIn wsX0_bound (wsX4_at) := ggX0_bound_X4_at
theorem dX0_bound_0 : decode cX0_bound 0 = .ok (.iconst 0, 1) := by decide +kernel
theorem dX0_bound_1 : decode cX0_bound 1 = .ok (.istore_n 1, 1) := by decide +kernel
theorem dX0_bound_2 : decode cX0_bound 2 = .ok (.iconst 0, 1) := by decide +kernel
theorem dX0_bound_3 : decode cX0_bound 3 = .ok (.istore_n 2, 1) := by decide +kernel
theorem dX0_bound_4 : decode cX0_bound 4 = .ok (.iload_n 2, 1) := by decide +kernel
theorem dX0_bound_5 : decode cX0_bound 5 = .ok (.aload_n 0, 1) := by decide +kernel
theorem dX0_bound_6 : decode cX0_bound 6 = .ok (.getfield 37, 3) := by decide +kernel
theorem dX0_bound_9 : decode cX0_bound 9 = .ok (.if_icmp .ge 35, 3) := by decide +kernel
theorem dX0_bound_12 : decode cX0_bound 12 = .ok (.aload_n 0, 1) := by decide +kernel
theorem dX0_bound_13 : decode cX0_bound 13 = .ok (.getfield 18, 3) := by decide +kernel
theorem dX0_bound_16 : decode cX0_bound 16 = .ok (.iload_n 2, 1) := by decide +kernel
theorem dX0_bound_17 : decode cX0_bound 17 = .ok (.invokestatic 67, 3) := by decide +kernel
theorem dX0_bound_20 : decode cX0_bound 20 = .ok (.bipush (-9), 2) := by decide +kernel
theorem dX0_bound_22 : decode cX0_bound 22 = .ok (.if_icmp .eq 16, 3) := by decide +kernel
theorem dX0_bound_25 : decode cX0_bound 25 = .ok (.iload_n 1, 1) := by decide +kernel
theorem dX0_bound_26 : decode cX0_bound 26 = .ok (.aload_n 0, 1) := by decide +kernel
theorem dX0_bound_27 : decode cX0_bound 27 = .ok (.getfield 9, 3) := by decide +kernel
theorem dX0_bound_30 : decode cX0_bound 30 = .ok (.iload_n 2, 1) := by decide +kernel
theorem dX0_bound_31 : decode cX0_bound 31 = .ok (.invokestatic 67, 3) := by decide +kernel
theorem dX0_bound_34 : decode cX0_bound 34 = .ok (.invokestatic 127, 3) := by decide +kernel
theorem dX0_bound_37 : decode cX0_bound 37 = .ok (.istore_n 1, 1) := by decide +kernel
theorem dX0_bound_38 : decode cX0_bound 38 = .ok (.iinc 2 1, 3) := by decide +kernel
theorem dX0_bound_41 : decode cX0_bound 41 = .ok (.goto (-37), 3) := by decide +kernel
theorem dX0_bound_44 : decode cX0_bound 44 = .ok (.aload_n 0, 1) := by decide +kernel
theorem dX0_bound_45 : decode cX0_bound 45 = .ok (.getfield 34, 3) := by decide +kernel
theorem dX0_bound_48 : decode cX0_bound 48 = .ok (.ifCond .le 22, 3) := by decide +kernel
theorem dX0_bound_51 : decode cX0_bound 51 = .ok (.aload_n 0, 1) := by decide +kernel
theorem dX0_bound_52 : decode cX0_bound 52 = .ok (.getfield 40, 3) := by decide +kernel
theorem dX0_bound_55 : decode cX0_bound 55 = .ok (.aload_n 0, 1) := by decide +kernel
theorem dX0_bound_56 : decode cX0_bound 56 = .ok (.getfield 34, 3) := by decide +kernel
theorem dX0_bound_59 : decode cX0_bound 59 = .ok (.iadd, 1) := by decide +kernel
theorem dX0_bound_60 : decode cX0_bound 60 = .ok (.iconst 1, 1) := by decide +kernel
theorem dX0_bound_61 : decode cX0_bound 61 = .ok (.isub, 1) := by decide +kernel
theorem dX0_bound_62 : decode cX0_bound 62 = .ok (.aload_n 0, 1) := by decide +kernel
theorem dX0_bound_63 : decode cX0_bound 63 = .ok (.getfield 34, 3) := by decide +kernel
theorem dX0_bound_66 : decode cX0_bound 66 = .ok (.idiv, 1) := by decide +kernel
theorem dX0_bound_67 : decode cX0_bound 67 = .ok (.goto 4, 3) := by decide +kernel
theorem dX0_bound_70 : decode cX0_bound 70 = .ok (.iconst 0, 1) := by decide +kernel
theorem dX0_bound_71 : decode cX0_bound 71 = .ok (.istore_n 2, 1) := by decide +kernel
theorem dX0_bound_72 : decode cX0_bound 72 = .ok (.iload_n 2, 1) := by decide +kernel
theorem dX0_bound_73 : decode cX0_bound 73 = .ok (.iload_n 1, 1) := by decide +kernel
theorem dX0_bound_74 : decode cX0_bound 74 = .ok (.invokestatic 127, 3) := by decide +kernel
theorem dX0_bound_77 : decode cX0_bound 77 = .ok (.ireturn, 1) := by decide +kernel
set_option maxRecDepth 20000 in
theorem ggX0_target_X0_bound : GoodIn wsX0_target wsX0_bound := goodIn_r _ [6, 7, 8, 9, 10, 11, 12, 13, 14, 15, 16, 17, 18, 19, 20, 21, 22, 23, 24, 25, 26, 27, 28, 29, 30, 31] (by decide +kernel) (by decide +kernel)
set_option maxRecDepth 20000 in
theorem gX0_target_X0_bound : GoodIn wsX0_target (wsV RX0 132 RX0 yX0_bound wsX0_bound) := goodIn_app (goodIn_of _ (by decide +kernel)) ggX0_target_X0_bound
theorem dX0_target_0 : decode cX0_target 0 = .ok (.aload_n 0, 1) := by decide +kernel
theorem dX0_target_1 : decode cX0_target 1 = .ok (.invokevirtual 132, 3) := by decide +kernel
theorem dX0_target_4 : decode cX0_target 4 = .ok (.aload_n 0, 1) := by decide +kernel
theorem dX0_target_5 : decode cX0_target 5 = .ok (.getfield 46, 3) := by decide +kernel
theorem dX0_target_8 : decode cX0_target 8 = .ok (.imul, 1) := by decide +kernel
theorem dX0_target_9 : decode cX0_target 9 = .ok (.bipush 100, 2) := by decide +kernel
theorem dX0_target_11 : decode cX0_target 11 = .ok (.idiv, 1) := by decide +kernel
theorem dX0_target_12 : decode cX0_target 12 = .ok (.ireturn, 1) := by decide +kernel
set_option maxRecDepth 20000 in
theorem ggX0_isEven_X0_greatestLoad : GoodIn wsX0_isEven wsX0_greatestLoad := goodIn_r _ [5, 6, 7, 8, 9, 4, 10, 11, 12, 13, 14, 15, 34, 35, 36, 37, 38, 39, 40, 41, 42, 43, 44, 45, 46] (by decide +kernel) (by decide +kernel)
set_option maxRecDepth 20000 in
theorem gX0_isEven_X0_greatestLoad : GoodIn wsX0_isEven (wsV RX0 85 RX0 yX0_greatestLoad wsX0_greatestLoad) := goodIn_app (goodIn_of _ (by decide +kernel)) ggX0_isEven_X0_greatestLoad
set_option maxRecDepth 20000 in
theorem ggX0_isEven_X0_target : GoodIn wsX0_isEven wsX0_target := goodIn_r _ [19, 20, 21, 22, 23, 4, 24, 25, 26, 27, 28, 29, 30, 31, 32, 33, 13, 14, 15, 34, 35, 36, 37, 38, 39, 40, 41, 42, 43, 44, 45, 46] (by decide +kernel) (by decide +kernel)
set_option maxRecDepth 20000 in
theorem gX0_isEven_X0_target : GoodIn wsX0_isEven (wsV RX0 77 RX0 yX0_target wsX0_target) := goodIn_app (goodIn_of _ (by decide +kernel)) ggX0_isEven_X0_target
theorem dX0_isEven_0 : decode cX0_isEven 0 = .ok (.aload_n 0, 1) := by decide +kernel
theorem dX0_isEven_1 : decode cX0_isEven 1 = .ok (.invokevirtual 85, 3) := by decide +kernel
theorem dX0_isEven_4 : decode cX0_isEven 4 = .ok (.aload_n 0, 1) := by decide +kernel
theorem dX0_isEven_5 : decode cX0_isEven 5 = .ok (.invokevirtual 77, 3) := by decide +kernel
theorem dX0_isEven_8 : decode cX0_isEven 8 = .ok (.if_icmp .gt 7, 3) := by decide +kernel
theorem dX0_isEven_11 : decode cX0_isEven 11 = .ok (.iconst 1, 1) := by decide +kernel
theorem dX0_isEven_12 : decode cX0_isEven 12 = .ok (.goto 4, 3) := by decide +kernel
theorem dX0_isEven_15 : decode cX0_isEven 15 = .ok (.iconst 0, 1) := by decide +kernel
theorem dX0_isEven_16 : decode cX0_isEven 16 = .ok (.ireturn, 1) := by decide +kernel
set_option maxRecDepth 20000 in
theorem ggX0_serversAbove_X4_at : GoodIn wsX0_serversAbove wsX4_at := goodIn_r _ [5] (by decide +kernel) (by decide +kernel)
set_option maxRecDepth 20000 in
theorem gX0_serversAbove_X4_at_n67 : GoodIn wsX0_serversAbove (wsX4_at) := ggX0_serversAbove_X4_at
theorem dX0_serversAbove_0 : decode cX0_serversAbove 0 = .ok (.iconst 0, 1) := by decide +kernel
theorem dX0_serversAbove_1 : decode cX0_serversAbove 1 = .ok (.istore_n 2, 1) := by decide +kernel
theorem dX0_serversAbove_2 : decode cX0_serversAbove 2 = .ok (.iconst 0, 1) := by decide +kernel
theorem dX0_serversAbove_3 : decode cX0_serversAbove 3 = .ok (.istore_n 3, 1) := by decide +kernel
theorem dX0_serversAbove_4 : decode cX0_serversAbove 4 = .ok (.iload_n 3, 1) := by decide +kernel
theorem dX0_serversAbove_5 : decode cX0_serversAbove 5 = .ok (.aload_n 0, 1) := by decide +kernel
theorem dX0_serversAbove_6 : decode cX0_serversAbove 6 = .ok (.getfield 30, 3) := by decide +kernel
theorem dX0_serversAbove_9 : decode cX0_serversAbove 9 = .ok (.if_icmp .ge 24, 3) := by decide +kernel
theorem dX0_serversAbove_12 : decode cX0_serversAbove 12 = .ok (.aload_n 0, 1) := by decide +kernel
theorem dX0_serversAbove_13 : decode cX0_serversAbove 13 = .ok (.getfield 24, 3) := by decide +kernel
theorem dX0_serversAbove_16 : decode cX0_serversAbove 16 = .ok (.iload_n 3, 1) := by decide +kernel
theorem dX0_serversAbove_17 : decode cX0_serversAbove 17 = .ok (.invokestatic 67, 3) := by decide +kernel
theorem dX0_serversAbove_20 : decode cX0_serversAbove 20 = .ok (.iload_n 1, 1) := by decide +kernel
theorem dX0_serversAbove_21 : decode cX0_serversAbove 21 = .ok (.if_icmp .le 6, 3) := by decide +kernel
theorem dX0_serversAbove_24 : decode cX0_serversAbove 24 = .ok (.iinc 2 1, 3) := by decide +kernel
theorem dX0_serversAbove_27 : decode cX0_serversAbove 27 = .ok (.iinc 3 1, 3) := by decide +kernel
theorem dX0_serversAbove_30 : decode cX0_serversAbove 30 = .ok (.goto (-26), 3) := by decide +kernel
theorem dX0_serversAbove_33 : decode cX0_serversAbove 33 = .ok (.iload_n 2, 1) := by decide +kernel
theorem dX0_serversAbove_34 : decode cX0_serversAbove 34 = .ok (.ireturn, 1) := by decide +kernel
set_option maxRecDepth 20000 in
theorem ggX1_init_X0_init : GoodIn wsX1_init wsX0_init := goodIn_r _ [11, 12, 2, 3, 13, 14, 15, 16, 17, 18, 19, 20, 21, 22, 23, 24, 25, 26, 30, 31, 32, 33, 34, 35, 36, 37, 38, 39, 40, 41, 42] (by decide +kernel) (by decide +kernel)
set_option maxRecDepth 20000 in
theorem gX1_init_X0_init_n24 : GoodIn wsX1_init (wsX0_init) := ggX1_init_X0_init
theorem dX1_init_0 : decode cX1_init 0 = .ok (.aload_n 0, 1) := by decide +kernel
theorem dX1_init_1 : decode cX1_init 1 = .ok (.invokespecial 3, 3) := by decide +kernel
theorem dX1_init_4 : decode cX1_init 4 = .ok (.aload_n 0, 1) := by decide +kernel
theorem dX1_init_5 : decode cX1_init 5 = .ok (.iconst 5, 1) := by decide +kernel
theorem dX1_init_6 : decode cX1_init 6 = .ok (.anewarray 9, 3) := by decide +kernel
theorem dX1_init_9 : decode cX1_init 9 = .ok (.putfield 11, 3) := by decide +kernel
theorem dX1_init_12 : decode cX1_init 12 = .ok (.aload_n 0, 1) := by decide +kernel
theorem dX1_init_13 : decode cX1_init 13 = .ok (.iconst 0, 1) := by decide +kernel
theorem dX1_init_14 : decode cX1_init 14 = .ok (.putfield 17, 3) := by decide +kernel
theorem dX1_init_17 : decode cX1_init 17 = .ok (.aload_n 0, 1) := by decide +kernel
theorem dX1_init_18 : decode cX1_init 18 = .ok (.iconst 0, 1) := by decide +kernel
theorem dX1_init_19 : decode cX1_init 19 = .ok (.putfield 21, 3) := by decide +kernel
theorem dX1_init_22 : decode cX1_init 22 = .ok (.iconst 0, 1) := by decide +kernel
theorem dX1_init_23 : decode cX1_init 23 = .ok (.istore_n 1, 1) := by decide +kernel
theorem dX1_init_24 : decode cX1_init 24 = .ok (.iload_n 1, 1) := by decide +kernel
theorem dX1_init_25 : decode cX1_init 25 = .ok (.aload_n 0, 1) := by decide +kernel
theorem dX1_init_26 : decode cX1_init 26 = .ok (.getfield 11, 3) := by decide +kernel
theorem dX1_init_29 : decode cX1_init 29 = .ok (.arraylength, 1) := by decide +kernel
theorem dX1_init_30 : decode cX1_init 30 = .ok (.if_icmp .ge 22, 3) := by decide +kernel
theorem dX1_init_33 : decode cX1_init 33 = .ok (.aload_n 0, 1) := by decide +kernel
theorem dX1_init_34 : decode cX1_init 34 = .ok (.getfield 11, 3) := by decide +kernel
theorem dX1_init_37 : decode cX1_init 37 = .ok (.iload_n 1, 1) := by decide +kernel
theorem dX1_init_38 : decode cX1_init 38 = .ok (.new 9, 3) := by decide +kernel
theorem dX1_init_41 : decode cX1_init 41 = .ok (.dup, 1) := by decide +kernel
theorem dX1_init_42 : decode cX1_init 42 = .ok (.invokespecial 24, 3) := by decide +kernel
theorem dX1_init_45 : decode cX1_init 45 = .ok (.aastore, 1) := by decide +kernel
theorem dX1_init_46 : decode cX1_init 46 = .ok (.iinc 1 1, 3) := by decide +kernel
theorem dX1_init_49 : decode cX1_init 49 = .ok (.goto (-25), 3) := by decide +kernel
theorem dX1_init_52 : decode cX1_init 52 = .ok (.return_, 1) := by decide +kernel
set_option maxRecDepth 20000 in
theorem ggX1_keep_X1_stateAt : GoodIn wsX1_keep wsX1_stateAt := goodIn_r _ [11, 12, 39, 40, 41] (by decide +kernel) (by decide +kernel)
set_option maxRecDepth 20000 in
theorem gX1_keep_X1_stateAt : GoodIn wsX1_keep (wsV RX1 25 RX1 yX1_stateAt wsX1_stateAt) := goodIn_app (goodIn_of _ (by decide +kernel)) ggX1_keep_X1_stateAt
set_option maxRecDepth 20000 in
theorem ggX1_keep_X0_copyFrom : GoodIn wsX1_keep wsX0_copyFrom := goodIn_r _ [17, 18, 19, 20, 21, 22, 23, 24, 25, 26, 27, 28, 29, 30, 31, 32, 33, 34, 4, 5, 6, 35, 36, 37, 38, 42, 43, 44, 45, 46, 47, 48, 49, 50, 51, 52, 53, 54] (by decide +kernel) (by decide +kernel)
set_option maxRecDepth 20000 in
theorem gX1_keep_X0_copyFrom : GoodIn wsX1_keep (wsV RX1 29 RX0 yX0_copyFrom wsX0_copyFrom) := goodIn_app (goodIn_of _ (by decide +kernel)) ggX1_keep_X0_copyFrom
theorem dX1_keep_0 : decode cX1_keep 0 = .ok (.aload_n 0, 1) := by decide +kernel
theorem dX1_keep_1 : decode cX1_keep 1 = .ok (.aload_n 0, 1) := by decide +kernel
theorem dX1_keep_2 : decode cX1_keep 2 = .ok (.getfield 21, 3) := by decide +kernel
theorem dX1_keep_5 : decode cX1_keep 5 = .ok (.invokevirtual 25, 3) := by decide +kernel
theorem dX1_keep_8 : decode cX1_keep 8 = .ok (.astore_n 2, 1) := by decide +kernel
theorem dX1_keep_9 : decode cX1_keep 9 = .ok (.aload_n 2, 1) := by decide +kernel
theorem dX1_keep_10 : decode cX1_keep 10 = .ok (.ifnull 34, 3) := by decide +kernel
theorem dX1_keep_13 : decode cX1_keep 13 = .ok (.aload_n 2, 1) := by decide +kernel
theorem dX1_keep_14 : decode cX1_keep 14 = .ok (.aload_n 1, 1) := by decide +kernel
theorem dX1_keep_15 : decode cX1_keep 15 = .ok (.invokevirtual 29, 3) := by decide +kernel
theorem dX1_keep_18 : decode cX1_keep 18 = .ok (.aload_n 0, 1) := by decide +kernel
theorem dX1_keep_19 : decode cX1_keep 19 = .ok (.aload_n 0, 1) := by decide +kernel
theorem dX1_keep_20 : decode cX1_keep 20 = .ok (.getfield 21, 3) := by decide +kernel
theorem dX1_keep_23 : decode cX1_keep 23 = .ok (.iconst 1, 1) := by decide +kernel
theorem dX1_keep_24 : decode cX1_keep 24 = .ok (.iadd, 1) := by decide +kernel
theorem dX1_keep_25 : decode cX1_keep 25 = .ok (.iconst 5, 1) := by decide +kernel
theorem dX1_keep_26 : decode cX1_keep 26 = .ok (.irem, 1) := by decide +kernel
theorem dX1_keep_27 : decode cX1_keep 27 = .ok (.putfield 21, 3) := by decide +kernel
theorem dX1_keep_30 : decode cX1_keep 30 = .ok (.aload_n 0, 1) := by decide +kernel
theorem dX1_keep_31 : decode cX1_keep 31 = .ok (.aload_n 0, 1) := by decide +kernel
theorem dX1_keep_32 : decode cX1_keep 32 = .ok (.getfield 17, 3) := by decide +kernel
theorem dX1_keep_35 : decode cX1_keep 35 = .ok (.iconst 1, 1) := by decide +kernel
theorem dX1_keep_36 : decode cX1_keep 36 = .ok (.iadd, 1) := by decide +kernel
theorem dX1_keep_37 : decode cX1_keep 37 = .ok (.iconst 5, 1) := by decide +kernel
theorem dX1_keep_38 : decode cX1_keep 38 = .ok (.invokestatic 33, 3) := by decide +kernel
theorem dX1_keep_41 : decode cX1_keep 41 = .ok (.putfield 17, 3) := by decide +kernel
theorem dX1_keep_44 : decode cX1_keep 44 = .ok (.return_, 1) := by decide +kernel
set_option maxRecDepth 20000 in
theorem ggX1_takeLatest_X1_stateAt : GoodIn wsX1_takeLatest wsX1_stateAt := goodIn_r _ [7, 8, 38, 39, 40] (by decide +kernel) (by decide +kernel)
set_option maxRecDepth 20000 in
theorem gX1_takeLatest_X1_stateAt : GoodIn wsX1_takeLatest (wsV RX1 25 RX1 yX1_stateAt wsX1_stateAt) := goodIn_app (goodIn_of _ (by decide +kernel)) ggX1_takeLatest_X1_stateAt
set_option maxRecDepth 20000 in
theorem ggX1_takeLatest_X0_copyFrom : GoodIn wsX1_takeLatest wsX0_copyFrom := goodIn_r _ [13, 14, 15, 16, 17, 18, 19, 20, 21, 22, 23, 24, 25, 26, 27, 28, 29, 30, 31, 32, 33, 34, 35, 36, 37, 41, 42, 43, 44, 45, 46, 47, 48, 49, 50, 51, 52, 53] (by decide +kernel) (by decide +kernel)
set_option maxRecDepth 20000 in
theorem gX1_takeLatest_X0_copyFrom : GoodIn wsX1_takeLatest (wsV RX1 29 RX0 yX0_copyFrom wsX0_copyFrom) := goodIn_app (goodIn_of _ (by decide +kernel)) ggX1_takeLatest_X0_copyFrom
theorem dX1_takeLatest_0 : decode cX1_takeLatest 0 = .ok (.aload_n 0, 1) := by decide +kernel
theorem dX1_takeLatest_1 : decode cX1_takeLatest 1 = .ok (.getfield 21, 3) := by decide +kernel
theorem dX1_takeLatest_4 : decode cX1_takeLatest 4 = .ok (.iconst 5, 1) := by decide +kernel
theorem dX1_takeLatest_5 : decode cX1_takeLatest 5 = .ok (.iadd, 1) := by decide +kernel
theorem dX1_takeLatest_6 : decode cX1_takeLatest 6 = .ok (.iconst 1, 1) := by decide +kernel
theorem dX1_takeLatest_7 : decode cX1_takeLatest 7 = .ok (.isub, 1) := by decide +kernel
theorem dX1_takeLatest_8 : decode cX1_takeLatest 8 = .ok (.iconst 5, 1) := by decide +kernel
theorem dX1_takeLatest_9 : decode cX1_takeLatest 9 = .ok (.irem, 1) := by decide +kernel
theorem dX1_takeLatest_10 : decode cX1_takeLatest 10 = .ok (.istore_n 2, 1) := by decide +kernel
theorem dX1_takeLatest_11 : decode cX1_takeLatest 11 = .ok (.aload_n 0, 1) := by decide +kernel
theorem dX1_takeLatest_12 : decode cX1_takeLatest 12 = .ok (.iload_n 2, 1) := by decide +kernel
theorem dX1_takeLatest_13 : decode cX1_takeLatest 13 = .ok (.invokevirtual 25, 3) := by decide +kernel
theorem dX1_takeLatest_16 : decode cX1_takeLatest 16 = .ok (.astore_n 3, 1) := by decide +kernel
theorem dX1_takeLatest_17 : decode cX1_takeLatest 17 = .ok (.aload_n 0, 1) := by decide +kernel
theorem dX1_takeLatest_18 : decode cX1_takeLatest 18 = .ok (.getfield 17, 3) := by decide +kernel
theorem dX1_takeLatest_21 : decode cX1_takeLatest 21 = .ok (.ifCond .le 7, 3) := by decide +kernel
theorem dX1_takeLatest_24 : decode cX1_takeLatest 24 = .ok (.aload_n 3, 1) := by decide +kernel
theorem dX1_takeLatest_25 : decode cX1_takeLatest 25 = .ok (.ifnonnull 5, 3) := by decide +kernel
theorem dX1_takeLatest_28 : decode cX1_takeLatest 28 = .ok (.iconst 0, 1) := by decide +kernel
theorem dX1_takeLatest_29 : decode cX1_takeLatest 29 = .ok (.ireturn, 1) := by decide +kernel
theorem dX1_takeLatest_30 : decode cX1_takeLatest 30 = .ok (.aload_n 1, 1) := by decide +kernel
theorem dX1_takeLatest_31 : decode cX1_takeLatest 31 = .ok (.aload_n 3, 1) := by decide +kernel
