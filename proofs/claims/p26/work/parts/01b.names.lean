theorem dX0_init_0 : decode cX0_init 0 = .ok (.aload_n 0, 1) := by decide +kernel
theorem dX0_init_1 : decode cX0_init 1 = .ok (.invokespecial 3, 3) := by decide +kernel
theorem dX0_init_4 : decode cX0_init 4 = .ok (.aload_n 0, 1) := by decide +kernel
theorem dX0_init_5 : decode cX0_init 5 = .ok (.bipush 24, 2) := by decide +kernel
theorem dX0_init_7 : decode cX0_init 7 = .ok (.newarray .int, 2) := by decide +kernel
theorem dX0_init_9 : decode cX0_init 9 = .ok (.putfield 9, 3) := by decide +kernel
theorem dX0_init_12 : decode cX0_init 12 = .ok (.aload_n 0, 1) := by decide +kernel
theorem dX0_init_13 : decode cX0_init 13 = .ok (.bipush 24, 2) := by decide +kernel
theorem dX0_init_15 : decode cX0_init 15 = .ok (.newarray .int, 2) := by decide +kernel
theorem dX0_init_17 : decode cX0_init 17 = .ok (.putfield 15, 3) := by decide +kernel
theorem dX0_init_20 : decode cX0_init 20 = .ok (.aload_n 0, 1) := by decide +kernel
theorem dX0_init_21 : decode cX0_init 21 = .ok (.bipush 24, 2) := by decide +kernel
theorem dX0_init_23 : decode cX0_init 23 = .ok (.newarray .int, 2) := by decide +kernel
theorem dX0_init_25 : decode cX0_init 25 = .ok (.putfield 18, 3) := by decide +kernel
theorem dX0_init_28 : decode cX0_init 28 = .ok (.aload_n 0, 1) := by decide +kernel
theorem dX0_init_29 : decode cX0_init 29 = .ok (.bipush 24, 2) := by decide +kernel
theorem dX0_init_31 : decode cX0_init 31 = .ok (.newarray .int, 2) := by decide +kernel
theorem dX0_init_33 : decode cX0_init 33 = .ok (.putfield 21, 3) := by decide +kernel
theorem dX0_init_36 : decode cX0_init 36 = .ok (.aload_n 0, 1) := by decide +kernel
theorem dX0_init_37 : decode cX0_init 37 = .ok (.bipush 6, 2) := by decide +kernel
theorem dX0_init_39 : decode cX0_init 39 = .ok (.newarray .int, 2) := by decide +kernel
theorem dX0_init_41 : decode cX0_init 41 = .ok (.putfield 24, 3) := by decide +kernel
theorem dX0_init_44 : decode cX0_init 44 = .ok (.aload_n 0, 1) := by decide +kernel
theorem dX0_init_45 : decode cX0_init 45 = .ok (.bipush 6, 2) := by decide +kernel
theorem dX0_init_47 : decode cX0_init 47 = .ok (.newarray .int, 2) := by decide +kernel
theorem dX0_init_49 : decode cX0_init 49 = .ok (.putfield 27, 3) := by decide +kernel
theorem dX0_init_52 : decode cX0_init 52 = .ok (.aload_n 0, 1) := by decide +kernel
theorem dX0_init_53 : decode cX0_init 53 = .ok (.iconst 0, 1) := by decide +kernel
theorem dX0_init_54 : decode cX0_init 54 = .ok (.putfield 30, 3) := by decide +kernel
theorem dX0_init_57 : decode cX0_init 57 = .ok (.aload_n 0, 1) := by decide +kernel
theorem dX0_init_58 : decode cX0_init 58 = .ok (.iconst 0, 1) := by decide +kernel
theorem dX0_init_59 : decode cX0_init 59 = .ok (.putfield 34, 3) := by decide +kernel
theorem dX0_init_62 : decode cX0_init 62 = .ok (.aload_n 0, 1) := by decide +kernel
theorem dX0_init_63 : decode cX0_init 63 = .ok (.iconst 0, 1) := by decide +kernel
theorem dX0_init_64 : decode cX0_init 64 = .ok (.putfield 37, 3) := by decide +kernel
theorem dX0_init_67 : decode cX0_init 67 = .ok (.aload_n 0, 1) := by decide +kernel
theorem dX0_init_68 : decode cX0_init 68 = .ok (.iconst 0, 1) := by decide +kernel
theorem dX0_init_69 : decode cX0_init 69 = .ok (.putfield 40, 3) := by decide +kernel
theorem dX0_init_72 : decode cX0_init 72 = .ok (.aload_n 0, 1) := by decide +kernel
theorem dX0_init_73 : decode cX0_init 73 = .ok (.sipush 500, 3) := by decide +kernel
theorem dX0_init_76 : decode cX0_init 76 = .ok (.putfield 43, 3) := by decide +kernel
theorem dX0_init_79 : decode cX0_init 79 = .ok (.aload_n 0, 1) := by decide +kernel
theorem dX0_init_80 : decode cX0_init 80 = .ok (.bipush 120, 2) := by decide +kernel
theorem dX0_init_82 : decode cX0_init 82 = .ok (.putfield 46, 3) := by decide +kernel
theorem dX0_init_85 : decode cX0_init 85 = .ok (.aload_n 0, 1) := by decide +kernel
theorem dX0_init_86 : decode cX0_init 86 = .ok (.iconst 0, 1) := by decide +kernel
theorem dX0_init_87 : decode cX0_init 87 = .ok (.putfield 49, 3) := by decide +kernel
theorem dX0_init_90 : decode cX0_init 90 = .ok (.return_, 1) := by decide +kernel
set_option maxRecDepth 20000 in
theorem ggX0_copyFrom_X4_copyRow : GoodIn wsX0_copyFrom wsX4_copyRow := goodIn_r _ [16, 17, 18, 19, 20, 21, 22, 23, 24] (by decide +kernel) (by decide +kernel)
set_option maxRecDepth 20000 in
theorem gX0_copyFrom_X4_copyRow_n52 : GoodIn wsX0_copyFrom (wsX4_copyRow) := ggX0_copyFrom_X4_copyRow
theorem dX0_copyFrom_0 : decode cX0_copyFrom 0 = .ok (.aload_n 1, 1) := by decide +kernel
theorem dX0_copyFrom_1 : decode cX0_copyFrom 1 = .ok (.getfield 9, 3) := by decide +kernel
theorem dX0_copyFrom_4 : decode cX0_copyFrom 4 = .ok (.aload_n 0, 1) := by decide +kernel
theorem dX0_copyFrom_5 : decode cX0_copyFrom 5 = .ok (.getfield 9, 3) := by decide +kernel
theorem dX0_copyFrom_8 : decode cX0_copyFrom 8 = .ok (.invokestatic 52, 3) := by decide +kernel
theorem dX0_copyFrom_11 : decode cX0_copyFrom 11 = .ok (.aload_n 1, 1) := by decide +kernel
theorem dX0_copyFrom_12 : decode cX0_copyFrom 12 = .ok (.getfield 15, 3) := by decide +kernel
theorem dX0_copyFrom_15 : decode cX0_copyFrom 15 = .ok (.aload_n 0, 1) := by decide +kernel
theorem dX0_copyFrom_16 : decode cX0_copyFrom 16 = .ok (.getfield 15, 3) := by decide +kernel
theorem dX0_copyFrom_19 : decode cX0_copyFrom 19 = .ok (.invokestatic 52, 3) := by decide +kernel
theorem dX0_copyFrom_22 : decode cX0_copyFrom 22 = .ok (.aload_n 1, 1) := by decide +kernel
theorem dX0_copyFrom_23 : decode cX0_copyFrom 23 = .ok (.getfield 18, 3) := by decide +kernel
theorem dX0_copyFrom_26 : decode cX0_copyFrom 26 = .ok (.aload_n 0, 1) := by decide +kernel
theorem dX0_copyFrom_27 : decode cX0_copyFrom 27 = .ok (.getfield 18, 3) := by decide +kernel
theorem dX0_copyFrom_30 : decode cX0_copyFrom 30 = .ok (.invokestatic 52, 3) := by decide +kernel
theorem dX0_copyFrom_33 : decode cX0_copyFrom 33 = .ok (.aload_n 1, 1) := by decide +kernel
theorem dX0_copyFrom_34 : decode cX0_copyFrom 34 = .ok (.getfield 21, 3) := by decide +kernel
theorem dX0_copyFrom_37 : decode cX0_copyFrom 37 = .ok (.aload_n 0, 1) := by decide +kernel
theorem dX0_copyFrom_38 : decode cX0_copyFrom 38 = .ok (.getfield 21, 3) := by decide +kernel
theorem dX0_copyFrom_41 : decode cX0_copyFrom 41 = .ok (.invokestatic 52, 3) := by decide +kernel
theorem dX0_copyFrom_44 : decode cX0_copyFrom 44 = .ok (.aload_n 1, 1) := by decide +kernel
theorem dX0_copyFrom_45 : decode cX0_copyFrom 45 = .ok (.getfield 24, 3) := by decide +kernel
theorem dX0_copyFrom_48 : decode cX0_copyFrom 48 = .ok (.aload_n 0, 1) := by decide +kernel
theorem dX0_copyFrom_49 : decode cX0_copyFrom 49 = .ok (.getfield 24, 3) := by decide +kernel
theorem dX0_copyFrom_52 : decode cX0_copyFrom 52 = .ok (.invokestatic 52, 3) := by decide +kernel
theorem dX0_copyFrom_55 : decode cX0_copyFrom 55 = .ok (.aload_n 1, 1) := by decide +kernel
theorem dX0_copyFrom_56 : decode cX0_copyFrom 56 = .ok (.getfield 27, 3) := by decide +kernel
theorem dX0_copyFrom_59 : decode cX0_copyFrom 59 = .ok (.aload_n 0, 1) := by decide +kernel
theorem dX0_copyFrom_60 : decode cX0_copyFrom 60 = .ok (.getfield 27, 3) := by decide +kernel
theorem dX0_copyFrom_63 : decode cX0_copyFrom 63 = .ok (.invokestatic 52, 3) := by decide +kernel
theorem dX0_copyFrom_66 : decode cX0_copyFrom 66 = .ok (.aload_n 0, 1) := by decide +kernel
theorem dX0_copyFrom_67 : decode cX0_copyFrom 67 = .ok (.aload_n 1, 1) := by decide +kernel
theorem dX0_copyFrom_68 : decode cX0_copyFrom 68 = .ok (.getfield 30, 3) := by decide +kernel
theorem dX0_copyFrom_71 : decode cX0_copyFrom 71 = .ok (.putfield 30, 3) := by decide +kernel
theorem dX0_copyFrom_74 : decode cX0_copyFrom 74 = .ok (.aload_n 0, 1) := by decide +kernel
theorem dX0_copyFrom_75 : decode cX0_copyFrom 75 = .ok (.aload_n 1, 1) := by decide +kernel
theorem dX0_copyFrom_76 : decode cX0_copyFrom 76 = .ok (.getfield 34, 3) := by decide +kernel
theorem dX0_copyFrom_79 : decode cX0_copyFrom 79 = .ok (.putfield 34, 3) := by decide +kernel
theorem dX0_copyFrom_82 : decode cX0_copyFrom 82 = .ok (.aload_n 0, 1) := by decide +kernel
theorem dX0_copyFrom_83 : decode cX0_copyFrom 83 = .ok (.aload_n 1, 1) := by decide +kernel
theorem dX0_copyFrom_84 : decode cX0_copyFrom 84 = .ok (.getfield 37, 3) := by decide +kernel
theorem dX0_copyFrom_87 : decode cX0_copyFrom 87 = .ok (.putfield 37, 3) := by decide +kernel
theorem dX0_copyFrom_90 : decode cX0_copyFrom 90 = .ok (.aload_n 0, 1) := by decide +kernel
theorem dX0_copyFrom_91 : decode cX0_copyFrom 91 = .ok (.aload_n 1, 1) := by decide +kernel
theorem dX0_copyFrom_92 : decode cX0_copyFrom 92 = .ok (.getfield 40, 3) := by decide +kernel
theorem dX0_copyFrom_95 : decode cX0_copyFrom 95 = .ok (.putfield 40, 3) := by decide +kernel
theorem dX0_copyFrom_98 : decode cX0_copyFrom 98 = .ok (.aload_n 0, 1) := by decide +kernel
theorem dX0_copyFrom_99 : decode cX0_copyFrom 99 = .ok (.aload_n 1, 1) := by decide +kernel
theorem dX0_copyFrom_100 : decode cX0_copyFrom 100 = .ok (.getfield 43, 3) := by decide +kernel
theorem dX0_copyFrom_103 : decode cX0_copyFrom 103 = .ok (.putfield 43, 3) := by decide +kernel
theorem dX0_copyFrom_106 : decode cX0_copyFrom 106 = .ok (.aload_n 0, 1) := by decide +kernel
theorem dX0_copyFrom_107 : decode cX0_copyFrom 107 = .ok (.aload_n 1, 1) := by decide +kernel
theorem dX0_copyFrom_108 : decode cX0_copyFrom 108 = .ok (.getfield 46, 3) := by decide +kernel
theorem dX0_copyFrom_111 : decode cX0_copyFrom 111 = .ok (.putfield 46, 3) := by decide +kernel
theorem dX0_copyFrom_114 : decode cX0_copyFrom 114 = .ok (.aload_n 0, 1) := by decide +kernel
theorem dX0_copyFrom_115 : decode cX0_copyFrom 115 = .ok (.aload_n 1, 1) := by decide +kernel
theorem dX0_copyFrom_116 : decode cX0_copyFrom 116 = .ok (.getfield 49, 3) := by decide +kernel
theorem dX0_copyFrom_119 : decode cX0_copyFrom 119 = .ok (.putfield 49, 3) := by decide +kernel
theorem dX0_copyFrom_122 : decode cX0_copyFrom 122 = .ok (.return_, 1) := by decide +kernel
set_option maxRecDepth 20000 in
theorem ggX0_newServer_X4_put : GoodIn wsX0_newServer wsX4_put := goodIn_r _ [6] (by decide +kernel) (by decide +kernel)
set_option maxRecDepth 20000 in
theorem gX0_newServer_X4_put_n56 : GoodIn wsX0_newServer (wsX4_put) := ggX0_newServer_X4_put
theorem dX0_newServer_0 : decode cX0_newServer 0 = .ok (.aload_n 0, 1) := by decide +kernel
theorem dX0_newServer_1 : decode cX0_newServer 1 = .ok (.getfield 30, 3) := by decide +kernel
theorem dX0_newServer_4 : decode cX0_newServer 4 = .ok (.bipush 6, 2) := by decide +kernel
theorem dX0_newServer_6 : decode cX0_newServer 6 = .ok (.if_icmp .lt 6, 3) := by decide +kernel
theorem dX0_newServer_9 : decode cX0_newServer 9 = .ok (.bipush (-3), 2) := by decide +kernel
theorem dX0_newServer_11 : decode cX0_newServer 11 = .ok (.ireturn, 1) := by decide +kernel
theorem dX0_newServer_12 : decode cX0_newServer 12 = .ok (.aload_n 0, 1) := by decide +kernel
theorem dX0_newServer_13 : decode cX0_newServer 13 = .ok (.getfield 27, 3) := by decide +kernel
theorem dX0_newServer_16 : decode cX0_newServer 16 = .ok (.aload_n 0, 1) := by decide +kernel
theorem dX0_newServer_17 : decode cX0_newServer 17 = .ok (.getfield 30, 3) := by decide +kernel
theorem dX0_newServer_20 : decode cX0_newServer 20 = .ok (.iconst 1, 1) := by decide +kernel
theorem dX0_newServer_21 : decode cX0_newServer 21 = .ok (.invokestatic 56, 3) := by decide +kernel
theorem dX0_newServer_24 : decode cX0_newServer 24 = .ok (.aload_n 0, 1) := by decide +kernel
theorem dX0_newServer_25 : decode cX0_newServer 25 = .ok (.dup, 1) := by decide +kernel
theorem dX0_newServer_26 : decode cX0_newServer 26 = .ok (.getfield 34, 3) := by decide +kernel
theorem dX0_newServer_29 : decode cX0_newServer 29 = .ok (.iconst 1, 1) := by decide +kernel
theorem dX0_newServer_30 : decode cX0_newServer 30 = .ok (.iadd, 1) := by decide +kernel
theorem dX0_newServer_31 : decode cX0_newServer 31 = .ok (.putfield 34, 3) := by decide +kernel
theorem dX0_newServer_34 : decode cX0_newServer 34 = .ok (.aload_n 0, 1) := by decide +kernel
theorem dX0_newServer_35 : decode cX0_newServer 35 = .ok (.dup, 1) := by decide +kernel
theorem dX0_newServer_36 : decode cX0_newServer 36 = .ok (.getfield 30, 3) := by decide +kernel
theorem dX0_newServer_39 : decode cX0_newServer 39 = .ok (.iconst 1, 1) := by decide +kernel
theorem dX0_newServer_40 : decode cX0_newServer 40 = .ok (.iadd, 1) := by decide +kernel
theorem dX0_newServer_41 : decode cX0_newServer 41 = .ok (.putfield 30, 3) := by decide +kernel
theorem dX0_newServer_44 : decode cX0_newServer 44 = .ok (.aload_n 0, 1) := by decide +kernel
theorem dX0_newServer_45 : decode cX0_newServer 45 = .ok (.getfield 30, 3) := by decide +kernel
theorem dX0_newServer_48 : decode cX0_newServer 48 = .ok (.iconst 1, 1) := by decide +kernel
theorem dX0_newServer_49 : decode cX0_newServer 49 = .ok (.isub, 1) := by decide +kernel
theorem dX0_newServer_50 : decode cX0_newServer 50 = .ok (.ireturn, 1) := by decide +kernel
set_option maxRecDepth 20000 in
theorem ggX0_newJob_X0_hasServer : GoodIn wsX0_newJob wsX0_hasServer := goodIn_r _ [12, 13, 24, 25, 26, 27, 28, 29, 30, 31, 32, 33, 34, 35, 36] (by decide +kernel) (by decide +kernel)
set_option maxRecDepth 20000 in
theorem gX0_newJob_X0_hasServer : GoodIn wsX0_newJob (wsV RX0 60 RX0 yX0_hasServer wsX0_hasServer) := goodIn_app (goodIn_of _ (by decide +kernel)) ggX0_newJob_X0_hasServer
set_option maxRecDepth 20000 in
theorem ggX0_newJob_X0_isOpen : GoodIn wsX0_newJob wsX0_isOpen := goodIn_r _ [17, 18, 19, 20, 21, 24, 25, 26, 27, 28, 29, 30, 31, 32, 33, 34, 35, 36] (by decide +kernel) (by decide +kernel)
set_option maxRecDepth 20000 in
theorem gX0_newJob_X0_isOpen : GoodIn wsX0_newJob (wsV RX0 64 RX0 yX0_isOpen wsX0_isOpen) := goodIn_app (goodIn_of _ (by decide +kernel)) ggX0_newJob_X0_isOpen
set_option maxRecDepth 20000 in
theorem ggX0_newJob_X4_put : GoodIn wsX0_newJob wsX4_put := goodIn_r _ [23] (by decide +kernel) (by decide +kernel)
set_option maxRecDepth 20000 in
theorem gX0_newJob_X4_put_n56 : GoodIn wsX0_newJob (wsX4_put) := ggX0_newJob_X4_put
set_option maxRecDepth 20000 in
theorem ggX0_newJob_X4_at : GoodIn wsX0_newJob wsX4_at := goodIn_r _ [21] (by decide +kernel) (by decide +kernel)
set_option maxRecDepth 20000 in
theorem gX0_newJob_X4_at_n67 : GoodIn wsX0_newJob (wsX4_at) := ggX0_newJob_X4_at
theorem dX0_newJob_0 : decode cX0_newJob 0 = .ok (.iload_n 1, 1) := by decide +kernel
theorem dX0_newJob_1 : decode cX0_newJob 1 = .ok (.iconst 1, 1) := by decide +kernel
theorem dX0_newJob_2 : decode cX0_newJob 2 = .ok (.if_icmp .lt 14, 3) := by decide +kernel
theorem dX0_newJob_5 : decode cX0_newJob 5 = .ok (.iload_n 1, 1) := by decide +kernel
theorem dX0_newJob_6 : decode cX0_newJob 6 = .ok (.sipush 1000, 3) := by decide +kernel
theorem dX0_newJob_9 : decode cX0_newJob 9 = .ok (.if_icmp .gt 7, 3) := by decide +kernel
theorem dX0_newJob_12 : decode cX0_newJob 12 = .ok (.iconst 1, 1) := by decide +kernel
theorem dX0_newJob_13 : decode cX0_newJob 13 = .ok (.goto 4, 3) := by decide +kernel
theorem dX0_newJob_16 : decode cX0_newJob 16 = .ok (.iconst 0, 1) := by decide +kernel
theorem dX0_newJob_17 : decode cX0_newJob 17 = .ok (.istore 4, 2) := by decide +kernel
theorem dX0_newJob_19 : decode cX0_newJob 19 = .ok (.iload_n 2, 1) := by decide +kernel
theorem dX0_newJob_20 : decode cX0_newJob 20 = .ok (.ifCond .lt 13, 3) := by decide +kernel
theorem dX0_newJob_23 : decode cX0_newJob 23 = .ok (.iload_n 2, 1) := by decide +kernel
theorem dX0_newJob_24 : decode cX0_newJob 24 = .ok (.bipush 100, 2) := by decide +kernel
theorem dX0_newJob_26 : decode cX0_newJob 26 = .ok (.if_icmp .gt 7, 3) := by decide +kernel
theorem dX0_newJob_29 : decode cX0_newJob 29 = .ok (.iconst 1, 1) := by decide +kernel
theorem dX0_newJob_30 : decode cX0_newJob 30 = .ok (.goto 4, 3) := by decide +kernel
theorem dX0_newJob_33 : decode cX0_newJob 33 = .ok (.iconst 0, 1) := by decide +kernel
theorem dX0_newJob_34 : decode cX0_newJob 34 = .ok (.istore 5, 2) := by decide +kernel
theorem dX0_newJob_36 : decode cX0_newJob 36 = .ok (.iload 4, 2) := by decide +kernel
theorem dX0_newJob_38 : decode cX0_newJob 38 = .ok (.ifCond .eq 16, 3) := by decide +kernel
theorem dX0_newJob_41 : decode cX0_newJob 41 = .ok (.iload 5, 2) := by decide +kernel
theorem dX0_newJob_43 : decode cX0_newJob 43 = .ok (.ifCond .eq 11, 3) := by decide +kernel
theorem dX0_newJob_46 : decode cX0_newJob 46 = .ok (.aload_n 0, 1) := by decide +kernel
theorem dX0_newJob_47 : decode cX0_newJob 47 = .ok (.iload_n 3, 1) := by decide +kernel
theorem dX0_newJob_48 : decode cX0_newJob 48 = .ok (.invokevirtual 60, 3) := by decide +kernel
theorem dX0_newJob_51 : decode cX0_newJob 51 = .ok (.ifCond .ne 5, 3) := by decide +kernel
theorem dX0_newJob_54 : decode cX0_newJob 54 = .ok (.iconst (-1), 1) := by decide +kernel
theorem dX0_newJob_55 : decode cX0_newJob 55 = .ok (.ireturn, 1) := by decide +kernel
theorem dX0_newJob_56 : decode cX0_newJob 56 = .ok (.aload_n 0, 1) := by decide +kernel
theorem dX0_newJob_57 : decode cX0_newJob 57 = .ok (.iload_n 3, 1) := by decide +kernel
theorem dX0_newJob_58 : decode cX0_newJob 58 = .ok (.invokevirtual 64, 3) := by decide +kernel
theorem dX0_newJob_61 : decode cX0_newJob 61 = .ok (.ifCond .ne 6, 3) := by decide +kernel
theorem dX0_newJob_64 : decode cX0_newJob 64 = .ok (.bipush (-2), 2) := by decide +kernel
theorem dX0_newJob_66 : decode cX0_newJob 66 = .ok (.ireturn, 1) := by decide +kernel
theorem dX0_newJob_67 : decode cX0_newJob 67 = .ok (.aload_n 0, 1) := by decide +kernel
theorem dX0_newJob_68 : decode cX0_newJob 68 = .ok (.getfield 37, 3) := by decide +kernel
theorem dX0_newJob_71 : decode cX0_newJob 71 = .ok (.bipush 24, 2) := by decide +kernel
theorem dX0_newJob_73 : decode cX0_newJob 73 = .ok (.if_icmp .lt 6, 3) := by decide +kernel
theorem dX0_newJob_76 : decode cX0_newJob 76 = .ok (.bipush (-3), 2) := by decide +kernel
theorem dX0_newJob_78 : decode cX0_newJob 78 = .ok (.ireturn, 1) := by decide +kernel
theorem dX0_newJob_79 : decode cX0_newJob 79 = .ok (.aload_n 0, 1) := by decide +kernel
theorem dX0_newJob_80 : decode cX0_newJob 80 = .ok (.getfield 9, 3) := by decide +kernel
theorem dX0_newJob_83 : decode cX0_newJob 83 = .ok (.aload_n 0, 1) := by decide +kernel
theorem dX0_newJob_84 : decode cX0_newJob 84 = .ok (.getfield 37, 3) := by decide +kernel
theorem dX0_newJob_87 : decode cX0_newJob 87 = .ok (.iload_n 1, 1) := by decide +kernel
theorem dX0_newJob_88 : decode cX0_newJob 88 = .ok (.invokestatic 56, 3) := by decide +kernel
theorem dX0_newJob_91 : decode cX0_newJob 91 = .ok (.aload_n 0, 1) := by decide +kernel
theorem dX0_newJob_92 : decode cX0_newJob 92 = .ok (.getfield 15, 3) := by decide +kernel
theorem dX0_newJob_95 : decode cX0_newJob 95 = .ok (.aload_n 0, 1) := by decide +kernel
theorem dX0_newJob_96 : decode cX0_newJob 96 = .ok (.getfield 37, 3) := by decide +kernel
theorem dX0_newJob_99 : decode cX0_newJob 99 = .ok (.iload_n 2, 1) := by decide +kernel
theorem dX0_newJob_100 : decode cX0_newJob 100 = .ok (.invokestatic 56, 3) := by decide +kernel
theorem dX0_newJob_103 : decode cX0_newJob 103 = .ok (.aload_n 0, 1) := by decide +kernel
theorem dX0_newJob_104 : decode cX0_newJob 104 = .ok (.getfield 18, 3) := by decide +kernel
theorem dX0_newJob_107 : decode cX0_newJob 107 = .ok (.aload_n 0, 1) := by decide +kernel
theorem dX0_newJob_108 : decode cX0_newJob 108 = .ok (.getfield 37, 3) := by decide +kernel
theorem dX0_newJob_111 : decode cX0_newJob 111 = .ok (.iload_n 3, 1) := by decide +kernel
theorem dX0_newJob_112 : decode cX0_newJob 112 = .ok (.invokestatic 56, 3) := by decide +kernel
theorem dX0_newJob_115 : decode cX0_newJob 115 = .ok (.aload_n 0, 1) := by decide +kernel
theorem dX0_newJob_116 : decode cX0_newJob 116 = .ok (.getfield 21, 3) := by decide +kernel
theorem dX0_newJob_119 : decode cX0_newJob 119 = .ok (.aload_n 0, 1) := by decide +kernel
theorem dX0_newJob_120 : decode cX0_newJob 120 = .ok (.getfield 37, 3) := by decide +kernel
theorem dX0_newJob_123 : decode cX0_newJob 123 = .ok (.iconst 0, 1) := by decide +kernel
theorem dX0_newJob_124 : decode cX0_newJob 124 = .ok (.invokestatic 56, 3) := by decide +kernel
theorem dX0_newJob_127 : decode cX0_newJob 127 = .ok (.aload_n 0, 1) := by decide +kernel
theorem dX0_newJob_128 : decode cX0_newJob 128 = .ok (.getfield 24, 3) := by decide +kernel
theorem dX0_newJob_131 : decode cX0_newJob 131 = .ok (.iload_n 3, 1) := by decide +kernel
theorem dX0_newJob_132 : decode cX0_newJob 132 = .ok (.aload_n 0, 1) := by decide +kernel
theorem dX0_newJob_133 : decode cX0_newJob 133 = .ok (.getfield 24, 3) := by decide +kernel
theorem dX0_newJob_136 : decode cX0_newJob 136 = .ok (.iload_n 3, 1) := by decide +kernel
theorem dX0_newJob_137 : decode cX0_newJob 137 = .ok (.invokestatic 67, 3) := by decide +kernel
theorem dX0_newJob_140 : decode cX0_newJob 140 = .ok (.iload_n 1, 1) := by decide +kernel
theorem dX0_newJob_141 : decode cX0_newJob 141 = .ok (.iadd, 1) := by decide +kernel
theorem dX0_newJob_142 : decode cX0_newJob 142 = .ok (.invokestatic 56, 3) := by decide +kernel
theorem dX0_newJob_145 : decode cX0_newJob 145 = .ok (.aload_n 0, 1) := by decide +kernel
theorem dX0_newJob_146 : decode cX0_newJob 146 = .ok (.dup, 1) := by decide +kernel
theorem dX0_newJob_147 : decode cX0_newJob 147 = .ok (.getfield 40, 3) := by decide +kernel
theorem dX0_newJob_150 : decode cX0_newJob 150 = .ok (.iload_n 1, 1) := by decide +kernel
theorem dX0_newJob_151 : decode cX0_newJob 151 = .ok (.iadd, 1) := by decide +kernel
theorem dX0_newJob_152 : decode cX0_newJob 152 = .ok (.putfield 40, 3) := by decide +kernel
theorem dX0_newJob_155 : decode cX0_newJob 155 = .ok (.aload_n 0, 1) := by decide +kernel
theorem dX0_newJob_156 : decode cX0_newJob 156 = .ok (.dup, 1) := by decide +kernel
theorem dX0_newJob_157 : decode cX0_newJob 157 = .ok (.getfield 37, 3) := by decide +kernel
theorem dX0_newJob_160 : decode cX0_newJob 160 = .ok (.iconst 1, 1) := by decide +kernel
theorem dX0_newJob_161 : decode cX0_newJob 161 = .ok (.iadd, 1) := by decide +kernel
theorem dX0_newJob_162 : decode cX0_newJob 162 = .ok (.putfield 37, 3) := by decide +kernel
theorem dX0_newJob_165 : decode cX0_newJob 165 = .ok (.aload_n 0, 1) := by decide +kernel
theorem dX0_newJob_166 : decode cX0_newJob 166 = .ok (.getfield 37, 3) := by decide +kernel
theorem dX0_newJob_169 : decode cX0_newJob 169 = .ok (.iconst 1, 1) := by decide +kernel
theorem dX0_newJob_170 : decode cX0_newJob 170 = .ok (.isub, 1) := by decide +kernel
theorem dX0_newJob_171 : decode cX0_newJob 171 = .ok (.ireturn, 1) := by decide +kernel
set_option maxRecDepth 20000 in
theorem ggX0_endJob_X0_hasJob : GoodIn wsX0_endJob wsX0_hasJob := goodIn_r _ [9, 10, 20, 21, 22, 23, 24, 25, 26, 27, 28, 29, 30, 31, 32] (by decide +kernel) (by decide +kernel)
set_option maxRecDepth 20000 in
theorem gX0_endJob_X0_hasJob : GoodIn wsX0_endJob (wsV RX0 71 RX0 yX0_hasJob wsX0_hasJob) := goodIn_app (goodIn_of _ (by decide +kernel)) ggX0_endJob_X0_hasJob
set_option maxRecDepth 20000 in
theorem ggX0_endJob_X0_isFinished : GoodIn wsX0_endJob wsX0_isFinished := goodIn_r _ [14, 1, 15, 16, 17, 20, 21, 22, 23, 24, 25, 26, 27, 28, 29, 30, 31, 32] (by decide +kernel) (by decide +kernel)
set_option maxRecDepth 20000 in
theorem gX0_endJob_X0_isFinished : GoodIn wsX0_endJob (wsV RX0 74 RX0 yX0_isFinished wsX0_isFinished) := goodIn_app (goodIn_of _ (by decide +kernel)) ggX0_endJob_X0_isFinished
set_option maxRecDepth 20000 in
theorem ggX0_endJob_X4_at : GoodIn wsX0_endJob wsX4_at := goodIn_r _ [17] (by decide +kernel) (by decide +kernel)
set_option maxRecDepth 20000 in
theorem gX0_endJob_X4_at_n67 : GoodIn wsX0_endJob (wsX4_at) := ggX0_endJob_X4_at
set_option maxRecDepth 20000 in
theorem ggX0_endJob_X4_put : GoodIn wsX0_endJob wsX4_put := goodIn_r _ [19] (by decide +kernel) (by decide +kernel)
set_option maxRecDepth 20000 in
theorem gX0_endJob_X4_put_n56 : GoodIn wsX0_endJob (wsX4_put) := ggX0_endJob_X4_put
theorem dX0_endJob_0 : decode cX0_endJob 0 = .ok (.aload_n 0, 1) := by decide +kernel
theorem dX0_endJob_1 : decode cX0_endJob 1 = .ok (.iload_n 1, 1) := by decide +kernel
theorem dX0_endJob_2 : decode cX0_endJob 2 = .ok (.invokevirtual 71, 3) := by decide +kernel
theorem dX0_endJob_5 : decode cX0_endJob 5 = .ok (.ifCond .ne 5, 3) := by decide +kernel
theorem dX0_endJob_8 : decode cX0_endJob 8 = .ok (.iconst (-1), 1) := by decide +kernel
theorem dX0_endJob_9 : decode cX0_endJob 9 = .ok (.ireturn, 1) := by decide +kernel
theorem dX0_endJob_10 : decode cX0_endJob 10 = .ok (.aload_n 0, 1) := by decide +kernel
theorem dX0_endJob_11 : decode cX0_endJob 11 = .ok (.iload_n 1, 1) := by decide +kernel
theorem dX0_endJob_12 : decode cX0_endJob 12 = .ok (.invokevirtual 74, 3) := by decide +kernel
theorem dX0_endJob_15 : decode cX0_endJob 15 = .ok (.ifCond .eq 6, 3) := by decide +kernel
theorem dX0_endJob_18 : decode cX0_endJob 18 = .ok (.bipush (-2), 2) := by decide +kernel
theorem dX0_endJob_20 : decode cX0_endJob 20 = .ok (.ireturn, 1) := by decide +kernel
theorem dX0_endJob_21 : decode cX0_endJob 21 = .ok (.aload_n 0, 1) := by decide +kernel
theorem dX0_endJob_22 : decode cX0_endJob 22 = .ok (.getfield 18, 3) := by decide +kernel
theorem dX0_endJob_25 : decode cX0_endJob 25 = .ok (.iload_n 1, 1) := by decide +kernel
theorem dX0_endJob_26 : decode cX0_endJob 26 = .ok (.invokestatic 67, 3) := by decide +kernel
theorem dX0_endJob_29 : decode cX0_endJob 29 = .ok (.istore_n 2, 1) := by decide +kernel
theorem dX0_endJob_30 : decode cX0_endJob 30 = .ok (.aload_n 0, 1) := by decide +kernel
theorem dX0_endJob_31 : decode cX0_endJob 31 = .ok (.getfield 24, 3) := by decide +kernel
theorem dX0_endJob_34 : decode cX0_endJob 34 = .ok (.iload_n 2, 1) := by decide +kernel
theorem dX0_endJob_35 : decode cX0_endJob 35 = .ok (.aload_n 0, 1) := by decide +kernel
theorem dX0_endJob_36 : decode cX0_endJob 36 = .ok (.getfield 24, 3) := by decide +kernel
theorem dX0_endJob_39 : decode cX0_endJob 39 = .ok (.iload_n 2, 1) := by decide +kernel
theorem dX0_endJob_40 : decode cX0_endJob 40 = .ok (.invokestatic 67, 3) := by decide +kernel
theorem dX0_endJob_43 : decode cX0_endJob 43 = .ok (.aload_n 0, 1) := by decide +kernel
theorem dX0_endJob_44 : decode cX0_endJob 44 = .ok (.getfield 9, 3) := by decide +kernel
theorem dX0_endJob_47 : decode cX0_endJob 47 = .ok (.iload_n 1, 1) := by decide +kernel
theorem dX0_endJob_48 : decode cX0_endJob 48 = .ok (.invokestatic 67, 3) := by decide +kernel
theorem dX0_endJob_51 : decode cX0_endJob 51 = .ok (.isub, 1) := by decide +kernel
theorem dX0_endJob_52 : decode cX0_endJob 52 = .ok (.invokestatic 56, 3) := by decide +kernel
theorem dX0_endJob_55 : decode cX0_endJob 55 = .ok (.aload_n 0, 1) := by decide +kernel
theorem dX0_endJob_56 : decode cX0_endJob 56 = .ok (.dup, 1) := by decide +kernel
theorem dX0_endJob_57 : decode cX0_endJob 57 = .ok (.getfield 40, 3) := by decide +kernel
theorem dX0_endJob_60 : decode cX0_endJob 60 = .ok (.aload_n 0, 1) := by decide +kernel
theorem dX0_endJob_61 : decode cX0_endJob 61 = .ok (.getfield 9, 3) := by decide +kernel
theorem dX0_endJob_64 : decode cX0_endJob 64 = .ok (.iload_n 1, 1) := by decide +kernel
theorem dX0_endJob_65 : decode cX0_endJob 65 = .ok (.invokestatic 67, 3) := by decide +kernel
theorem dX0_endJob_68 : decode cX0_endJob 68 = .ok (.isub, 1) := by decide +kernel
theorem dX0_endJob_69 : decode cX0_endJob 69 = .ok (.putfield 40, 3) := by decide +kernel
theorem dX0_endJob_72 : decode cX0_endJob 72 = .ok (.aload_n 0, 1) := by decide +kernel
theorem dX0_endJob_73 : decode cX0_endJob 73 = .ok (.getfield 18, 3) := by decide +kernel
theorem dX0_endJob_76 : decode cX0_endJob 76 = .ok (.iload_n 1, 1) := by decide +kernel
theorem dX0_endJob_77 : decode cX0_endJob 77 = .ok (.bipush (-9), 2) := by decide +kernel
theorem dX0_endJob_79 : decode cX0_endJob 79 = .ok (.invokestatic 56, 3) := by decide +kernel
theorem dX0_endJob_82 : decode cX0_endJob 82 = .ok (.aload_n 0, 1) := by decide +kernel
theorem dX0_endJob_83 : decode cX0_endJob 83 = .ok (.getfield 24, 3) := by decide +kernel
theorem dX0_endJob_86 : decode cX0_endJob 86 = .ok (.iload_n 2, 1) := by decide +kernel
theorem dX0_endJob_87 : decode cX0_endJob 87 = .ok (.invokestatic 67, 3) := by decide +kernel
theorem dX0_endJob_90 : decode cX0_endJob 90 = .ok (.ireturn, 1) := by decide +kernel
theorem dX0_changeBudget_0 : decode cX0_changeBudget 0 = .ok (.iload_n 1, 1) := by decide +kernel
theorem dX0_changeBudget_1 : decode cX0_changeBudget 1 = .ok (.ifCond .lt 10, 3) := by decide +kernel
theorem dX0_changeBudget_4 : decode cX0_changeBudget 4 = .ok (.iload_n 1, 1) := by decide +kernel
theorem dX0_changeBudget_5 : decode cX0_changeBudget 5 = .ok (.sipush 10000, 3) := by decide +kernel
theorem dX0_changeBudget_8 : decode cX0_changeBudget 8 = .ok (.if_icmp .le 5, 3) := by decide +kernel
theorem dX0_changeBudget_11 : decode cX0_changeBudget 11 = .ok (.iconst (-1), 1) := by decide +kernel
theorem dX0_changeBudget_12 : decode cX0_changeBudget 12 = .ok (.ireturn, 1) := by decide +kernel
theorem dX0_changeBudget_13 : decode cX0_changeBudget 13 = .ok (.aload_n 0, 1) := by decide +kernel
theorem dX0_changeBudget_14 : decode cX0_changeBudget 14 = .ok (.getfield 43, 3) := by decide +kernel
theorem dX0_changeBudget_17 : decode cX0_changeBudget 17 = .ok (.istore_n 2, 1) := by decide +kernel
theorem dX0_changeBudget_18 : decode cX0_changeBudget 18 = .ok (.aload_n 0, 1) := by decide +kernel
theorem dX0_changeBudget_19 : decode cX0_changeBudget 19 = .ok (.iload_n 1, 1) := by decide +kernel
theorem dX0_changeBudget_20 : decode cX0_changeBudget 20 = .ok (.putfield 43, 3) := by decide +kernel
theorem dX0_changeBudget_23 : decode cX0_changeBudget 23 = .ok (.iload_n 2, 1) := by decide +kernel
theorem dX0_changeBudget_24 : decode cX0_changeBudget 24 = .ok (.ireturn, 1) := by decide +kernel
set_option maxRecDepth 20000 in
theorem ggX0_changeFactor_X0_target : GoodIn wsX0_changeFactor wsX0_target := goodIn_r _ [6, 1, 7, 8, 9, 5, 10, 11, 12, 13, 14, 15, 16, 17, 18, 19, 20, 21, 22, 23, 24, 25, 26, 27, 28, 29, 30, 31, 32, 33, 34, 35] (by decide +kernel) (by decide +kernel)
set_option maxRecDepth 20000 in
theorem gX0_changeFactor_X0_target : GoodIn wsX0_changeFactor (wsV RX0 77 RX0 yX0_target wsX0_target) := goodIn_app (goodIn_of _ (by decide +kernel)) ggX0_changeFactor_X0_target
theorem dX0_changeFactor_0 : decode cX0_changeFactor 0 = .ok (.iload_n 1, 1) := by decide +kernel
theorem dX0_changeFactor_1 : decode cX0_changeFactor 1 = .ok (.bipush 100, 2) := by decide +kernel
theorem dX0_changeFactor_3 : decode cX0_changeFactor 3 = .ok (.if_icmp .lt 10, 3) := by decide +kernel
theorem dX0_changeFactor_6 : decode cX0_changeFactor 6 = .ok (.iload_n 1, 1) := by decide +kernel
theorem dX0_changeFactor_7 : decode cX0_changeFactor 7 = .ok (.sipush 400, 3) := by decide +kernel
theorem dX0_changeFactor_10 : decode cX0_changeFactor 10 = .ok (.if_icmp .le 5, 3) := by decide +kernel
theorem dX0_changeFactor_13 : decode cX0_changeFactor 13 = .ok (.iconst (-1), 1) := by decide +kernel
theorem dX0_changeFactor_14 : decode cX0_changeFactor 14 = .ok (.ireturn, 1) := by decide +kernel
theorem dX0_changeFactor_15 : decode cX0_changeFactor 15 = .ok (.aload_n 0, 1) := by decide +kernel
theorem dX0_changeFactor_16 : decode cX0_changeFactor 16 = .ok (.iload_n 1, 1) := by decide +kernel
theorem dX0_changeFactor_17 : decode cX0_changeFactor 17 = .ok (.putfield 46, 3) := by decide +kernel
theorem dX0_changeFactor_20 : decode cX0_changeFactor 20 = .ok (.aload_n 0, 1) := by decide +kernel
theorem dX0_changeFactor_21 : decode cX0_changeFactor 21 = .ok (.invokevirtual 77, 3) := by decide +kernel
theorem dX0_changeFactor_24 : decode cX0_changeFactor 24 = .ok (.ireturn, 1) := by decide +kernel
set_option maxRecDepth 20000 in
theorem ggX0_moveJob_X0_hasJob : GoodIn wsX0_moveJob wsX0_hasJob := goodIn_r _ [8, 9, 49, 50, 51, 52, 53, 54, 55, 56, 57, 58, 59, 60, 61] (by decide +kernel) (by decide +kernel)
set_option maxRecDepth 20000 in
theorem gX0_moveJob_X0_hasJob : GoodIn wsX0_moveJob (wsV RX0 71 RX0 yX0_hasJob wsX0_hasJob) := goodIn_app (goodIn_of _ (by decide +kernel)) ggX0_moveJob_X0_hasJob
set_option maxRecDepth 20000 in
theorem ggX0_moveJob_X0_hasServer : GoodIn wsX0_moveJob wsX0_hasServer := goodIn_r _ [13, 14, 49, 50, 51, 52, 53, 54, 55, 56, 57, 58, 59, 60, 61] (by decide +kernel) (by decide +kernel)
set_option maxRecDepth 20000 in
theorem gX0_moveJob_X0_hasServer : GoodIn wsX0_moveJob (wsV RX0 60 RX0 yX0_hasServer wsX0_hasServer) := goodIn_app (goodIn_of _ (by decide +kernel)) ggX0_moveJob_X0_hasServer
set_option maxRecDepth 20000 in
theorem ggX0_moveJob_X0_isFinished : GoodIn wsX0_moveJob wsX0_isFinished := goodIn_r _ [18, 1, 19, 20, 21, 49, 50, 51, 52, 53, 54, 55, 56, 57, 58, 59, 60, 61] (by decide +kernel) (by decide +kernel)
set_option maxRecDepth 20000 in
theorem gX0_moveJob_X0_isFinished : GoodIn wsX0_moveJob (wsV RX0 74 RX0 yX0_isFinished wsX0_isFinished) := goodIn_app (goodIn_of _ (by decide +kernel)) ggX0_moveJob_X0_isFinished
set_option maxRecDepth 20000 in
theorem ggX0_moveJob_X4_at : GoodIn wsX0_moveJob wsX4_at := goodIn_r _ [21] (by decide +kernel) (by decide +kernel)
set_option maxRecDepth 20000 in
theorem gX0_moveJob_X4_at_n67 : GoodIn wsX0_moveJob (wsX4_at) := ggX0_moveJob_X4_at
set_option maxRecDepth 20000 in
theorem ggX0_moveJob_X0_isOpen : GoodIn wsX0_moveJob wsX0_isOpen := goodIn_r _ [25, 26, 19, 20, 21, 49, 50, 51, 52, 53, 54, 55, 56, 57, 58, 59, 60, 61] (by decide +kernel) (by decide +kernel)
set_option maxRecDepth 20000 in
theorem gX0_moveJob_X0_isOpen : GoodIn wsX0_moveJob (wsV RX0 64 RX0 yX0_isOpen wsX0_isOpen) := goodIn_app (goodIn_of _ (by decide +kernel)) ggX0_moveJob_X0_isOpen
set_option maxRecDepth 20000 in
theorem ggX0_moveJob_X0_takeTo : GoodIn wsX0_moveJob wsX0_takeTo := goodIn_r _ [30, 31, 1, 32, 33, 3, 2, 19, 20, 21, 34, 35, 36, 7, 37, 38, 39, 40, 49, 50, 51, 52, 53, 54, 55, 56, 57, 58, 59, 60, 61] (by decide +kernel) (by decide +kernel)
set_option maxRecDepth 20000 in
theorem gX0_moveJob_X0_takeTo : GoodIn wsX0_moveJob (wsV RX0 81 RX0 yX0_takeTo wsX0_takeTo) := goodIn_app (goodIn_of _ (by decide +kernel)) ggX0_moveJob_X0_takeTo
set_option maxRecDepth 20000 in
theorem ggX0_moveJob_X0_greatestLoad : GoodIn wsX0_moveJob wsX0_greatestLoad := goodIn_r _ [44, 38, 45, 46, 47, 7, 48, 14, 26, 19, 20, 21, 49, 50, 51, 52, 53, 54, 55, 56, 57, 58, 59, 60, 61] (by decide +kernel) (by decide +kernel)
set_option maxRecDepth 20000 in
theorem gX0_moveJob_X0_greatestLoad : GoodIn wsX0_moveJob (wsV RX0 85 RX0 yX0_greatestLoad wsX0_greatestLoad) := goodIn_app (goodIn_of _ (by decide +kernel)) ggX0_moveJob_X0_greatestLoad
theorem dX0_moveJob_0 : decode cX0_moveJob 0 = .ok (.aload_n 0, 1) := by decide +kernel
theorem dX0_moveJob_1 : decode cX0_moveJob 1 = .ok (.iload_n 1, 1) := by decide +kernel
theorem dX0_moveJob_2 : decode cX0_moveJob 2 = .ok (.invokevirtual 71, 3) := by decide +kernel
theorem dX0_moveJob_5 : decode cX0_moveJob 5 = .ok (.ifCond .eq 11, 3) := by decide +kernel
theorem dX0_moveJob_8 : decode cX0_moveJob 8 = .ok (.aload_n 0, 1) := by decide +kernel
theorem dX0_moveJob_9 : decode cX0_moveJob 9 = .ok (.iload_n 2, 1) := by decide +kernel
theorem dX0_moveJob_10 : decode cX0_moveJob 10 = .ok (.invokevirtual 60, 3) := by decide +kernel
theorem dX0_moveJob_13 : decode cX0_moveJob 13 = .ok (.ifCond .ne 5, 3) := by decide +kernel
theorem dX0_moveJob_16 : decode cX0_moveJob 16 = .ok (.iconst (-1), 1) := by decide +kernel
theorem dX0_moveJob_17 : decode cX0_moveJob 17 = .ok (.ireturn, 1) := by decide +kernel
theorem dX0_moveJob_18 : decode cX0_moveJob 18 = .ok (.aload_n 0, 1) := by decide +kernel
theorem dX0_moveJob_19 : decode cX0_moveJob 19 = .ok (.iload_n 1, 1) := by decide +kernel
theorem dX0_moveJob_20 : decode cX0_moveJob 20 = .ok (.invokevirtual 74, 3) := by decide +kernel
theorem dX0_moveJob_23 : decode cX0_moveJob 23 = .ok (.ifCond .ne 23, 3) := by decide +kernel
theorem dX0_moveJob_26 : decode cX0_moveJob 26 = .ok (.aload_n 0, 1) := by decide +kernel
theorem dX0_moveJob_27 : decode cX0_moveJob 27 = .ok (.getfield 18, 3) := by decide +kernel
theorem dX0_moveJob_30 : decode cX0_moveJob 30 = .ok (.iload_n 1, 1) := by decide +kernel
theorem dX0_moveJob_31 : decode cX0_moveJob 31 = .ok (.invokestatic 67, 3) := by decide +kernel
theorem dX0_moveJob_34 : decode cX0_moveJob 34 = .ok (.iload_n 2, 1) := by decide +kernel
theorem dX0_moveJob_35 : decode cX0_moveJob 35 = .ok (.if_icmp .eq 11, 3) := by decide +kernel
theorem dX0_moveJob_38 : decode cX0_moveJob 38 = .ok (.aload_n 0, 1) := by decide +kernel
theorem dX0_moveJob_39 : decode cX0_moveJob 39 = .ok (.iload_n 2, 1) := by decide +kernel
theorem dX0_moveJob_40 : decode cX0_moveJob 40 = .ok (.invokevirtual 64, 3) := by decide +kernel
theorem dX0_moveJob_43 : decode cX0_moveJob 43 = .ok (.ifCond .ne 6, 3) := by decide +kernel
theorem dX0_moveJob_46 : decode cX0_moveJob 46 = .ok (.bipush (-2), 2) := by decide +kernel
theorem dX0_moveJob_48 : decode cX0_moveJob 48 = .ok (.ireturn, 1) := by decide +kernel
theorem dX0_moveJob_49 : decode cX0_moveJob 49 = .ok (.aload_n 0, 1) := by decide +kernel
theorem dX0_moveJob_50 : decode cX0_moveJob 50 = .ok (.getfield 15, 3) := by decide +kernel
theorem dX0_moveJob_53 : decode cX0_moveJob 53 = .ok (.iload_n 1, 1) := by decide +kernel
theorem dX0_moveJob_54 : decode cX0_moveJob 54 = .ok (.invokestatic 67, 3) := by decide +kernel
theorem dX0_moveJob_57 : decode cX0_moveJob 57 = .ok (.aload_n 0, 1) := by decide +kernel
theorem dX0_moveJob_58 : decode cX0_moveJob 58 = .ok (.getfield 43, 3) := by decide +kernel
theorem dX0_moveJob_61 : decode cX0_moveJob 61 = .ok (.if_icmp .le 6, 3) := by decide +kernel
theorem dX0_moveJob_64 : decode cX0_moveJob 64 = .ok (.bipush (-2), 2) := by decide +kernel
theorem dX0_moveJob_66 : decode cX0_moveJob 66 = .ok (.ireturn, 1) := by decide +kernel
theorem dX0_moveJob_67 : decode cX0_moveJob 67 = .ok (.aload_n 0, 1) := by decide +kernel
theorem dX0_moveJob_68 : decode cX0_moveJob 68 = .ok (.iload_n 1, 1) := by decide +kernel
theorem dX0_moveJob_69 : decode cX0_moveJob 69 = .ok (.iload_n 2, 1) := by decide +kernel
theorem dX0_moveJob_70 : decode cX0_moveJob 70 = .ok (.invokevirtual 81, 3) := by decide +kernel
theorem dX0_moveJob_73 : decode cX0_moveJob 73 = .ok (.aload_n 0, 1) := by decide +kernel
theorem dX0_moveJob_74 : decode cX0_moveJob 74 = .ok (.invokevirtual 85, 3) := by decide +kernel
theorem dX0_moveJob_77 : decode cX0_moveJob 77 = .ok (.ireturn, 1) := by decide +kernel
set_option maxRecDepth 20000 in
theorem ggX0_exchangeJobs_X0_hasJob : GoodIn wsX0_exchangeJobs wsX0_hasJob := goodIn_r _ [8, 9, 45, 46, 47, 48, 49, 50, 51, 52, 53, 54, 55, 56, 57] (by decide +kernel) (by decide +kernel)
set_option maxRecDepth 20000 in
theorem gX0_exchangeJobs_X0_hasJob : GoodIn wsX0_exchangeJobs (wsV RX0 71 RX0 yX0_hasJob wsX0_hasJob) := goodIn_app (goodIn_of _ (by decide +kernel)) ggX0_exchangeJobs_X0_hasJob
set_option maxRecDepth 20000 in
theorem ggX0_exchangeJobs_X0_areApart : GoodIn wsX0_exchangeJobs wsX0_areApart := goodIn_r _ [13, 3, 14, 15, 16, 7, 17, 18, 19, 20, 45, 46, 47, 48, 49, 50, 51, 52, 53, 54, 55, 56, 57] (by decide +kernel) (by decide +kernel)
set_option maxRecDepth 20000 in
theorem gX0_exchangeJobs_X0_areApart : GoodIn wsX0_exchangeJobs (wsV RX0 88 RX0 yX0_areApart wsX0_areApart) := goodIn_app (goodIn_of _ (by decide +kernel)) ggX0_exchangeJobs_X0_areApart
set_option maxRecDepth 20000 in
theorem ggX0_exchangeJobs_X4_at : GoodIn wsX0_exchangeJobs wsX4_at := goodIn_r _ [20] (by decide +kernel) (by decide +kernel)
set_option maxRecDepth 20000 in
theorem gX0_exchangeJobs_X4_at_n67 : GoodIn wsX0_exchangeJobs (wsX4_at) := ggX0_exchangeJobs_X4_at
set_option maxRecDepth 20000 in
theorem ggX0_exchangeJobs_X0_takeTo : GoodIn wsX0_exchangeJobs wsX0_takeTo := goodIn_r _ [24, 25, 3, 26, 27, 2, 1, 18, 19, 20, 28, 29, 30, 7, 31, 32, 33, 34, 45, 46, 47, 48, 49, 50, 51, 52, 53, 54, 55, 56, 57] (by decide +kernel) (by decide +kernel)
set_option maxRecDepth 20000 in
theorem gX0_exchangeJobs_X0_takeTo : GoodIn wsX0_exchangeJobs (wsV RX0 81 RX0 yX0_takeTo wsX0_takeTo) := goodIn_app (goodIn_of _ (by decide +kernel)) ggX0_exchangeJobs_X0_takeTo
set_option maxRecDepth 20000 in
theorem ggX0_exchangeJobs_X0_greatestLoad : GoodIn wsX0_exchangeJobs wsX0_greatestLoad := goodIn_r _ [38, 32, 39, 40, 41, 7, 42, 43, 44, 18, 19, 20, 45, 46, 47, 48, 49, 50, 51, 52, 53, 54, 55, 56, 57] (by decide +kernel) (by decide +kernel)
set_option maxRecDepth 20000 in
theorem gX0_exchangeJobs_X0_greatestLoad : GoodIn wsX0_exchangeJobs (wsV RX0 85 RX0 yX0_greatestLoad wsX0_greatestLoad) := goodIn_app (goodIn_of _ (by decide +kernel)) ggX0_exchangeJobs_X0_greatestLoad
theorem dX0_exchangeJobs_0 : decode cX0_exchangeJobs 0 = .ok (.aload_n 0, 1) := by decide +kernel
theorem dX0_exchangeJobs_1 : decode cX0_exchangeJobs 1 = .ok (.iload_n 1, 1) := by decide +kernel
theorem dX0_exchangeJobs_2 : decode cX0_exchangeJobs 2 = .ok (.invokevirtual 71, 3) := by decide +kernel
theorem dX0_exchangeJobs_5 : decode cX0_exchangeJobs 5 = .ok (.ifCond .eq 16, 3) := by decide +kernel
theorem dX0_exchangeJobs_8 : decode cX0_exchangeJobs 8 = .ok (.aload_n 0, 1) := by decide +kernel
theorem dX0_exchangeJobs_9 : decode cX0_exchangeJobs 9 = .ok (.iload_n 2, 1) := by decide +kernel
theorem dX0_exchangeJobs_10 : decode cX0_exchangeJobs 10 = .ok (.invokevirtual 71, 3) := by decide +kernel
theorem dX0_exchangeJobs_13 : decode cX0_exchangeJobs 13 = .ok (.ifCond .eq 8, 3) := by decide +kernel
theorem dX0_exchangeJobs_16 : decode cX0_exchangeJobs 16 = .ok (.iload_n 1, 1) := by decide +kernel
theorem dX0_exchangeJobs_17 : decode cX0_exchangeJobs 17 = .ok (.iload_n 2, 1) := by decide +kernel
theorem dX0_exchangeJobs_18 : decode cX0_exchangeJobs 18 = .ok (.if_icmp .ne 5, 3) := by decide +kernel
theorem dX0_exchangeJobs_21 : decode cX0_exchangeJobs 21 = .ok (.iconst (-1), 1) := by decide +kernel
theorem dX0_exchangeJobs_22 : decode cX0_exchangeJobs 22 = .ok (.ireturn, 1) := by decide +kernel
theorem dX0_exchangeJobs_23 : decode cX0_exchangeJobs 23 = .ok (.aload_n 0, 1) := by decide +kernel
theorem dX0_exchangeJobs_24 : decode cX0_exchangeJobs 24 = .ok (.iload_n 1, 1) := by decide +kernel
theorem dX0_exchangeJobs_25 : decode cX0_exchangeJobs 25 = .ok (.iload_n 2, 1) := by decide +kernel
theorem dX0_exchangeJobs_26 : decode cX0_exchangeJobs 26 = .ok (.invokevirtual 88, 3) := by decide +kernel
theorem dX0_exchangeJobs_29 : decode cX0_exchangeJobs 29 = .ok (.ifCond .eq 27, 3) := by decide +kernel
theorem dX0_exchangeJobs_32 : decode cX0_exchangeJobs 32 = .ok (.aload_n 0, 1) := by decide +kernel
theorem dX0_exchangeJobs_33 : decode cX0_exchangeJobs 33 = .ok (.getfield 15, 3) := by decide +kernel
theorem dX0_exchangeJobs_36 : decode cX0_exchangeJobs 36 = .ok (.iload_n 1, 1) := by decide +kernel
theorem dX0_exchangeJobs_37 : decode cX0_exchangeJobs 37 = .ok (.invokestatic 67, 3) := by decide +kernel
theorem dX0_exchangeJobs_40 : decode cX0_exchangeJobs 40 = .ok (.aload_n 0, 1) := by decide +kernel
theorem dX0_exchangeJobs_41 : decode cX0_exchangeJobs 41 = .ok (.getfield 15, 3) := by decide +kernel
theorem dX0_exchangeJobs_44 : decode cX0_exchangeJobs 44 = .ok (.iload_n 2, 1) := by decide +kernel
theorem dX0_exchangeJobs_45 : decode cX0_exchangeJobs 45 = .ok (.invokestatic 67, 3) := by decide +kernel
theorem dX0_exchangeJobs_48 : decode cX0_exchangeJobs 48 = .ok (.iadd, 1) := by decide +kernel
theorem dX0_exchangeJobs_49 : decode cX0_exchangeJobs 49 = .ok (.aload_n 0, 1) := by decide +kernel
theorem dX0_exchangeJobs_50 : decode cX0_exchangeJobs 50 = .ok (.getfield 43, 3) := by decide +kernel
theorem dX0_exchangeJobs_53 : decode cX0_exchangeJobs 53 = .ok (.if_icmp .le 6, 3) := by decide +kernel
theorem dX0_exchangeJobs_56 : decode cX0_exchangeJobs 56 = .ok (.bipush (-2), 2) := by decide +kernel
theorem dX0_exchangeJobs_58 : decode cX0_exchangeJobs 58 = .ok (.ireturn, 1) := by decide +kernel
theorem dX0_exchangeJobs_59 : decode cX0_exchangeJobs 59 = .ok (.aload_n 0, 1) := by decide +kernel
theorem dX0_exchangeJobs_60 : decode cX0_exchangeJobs 60 = .ok (.getfield 18, 3) := by decide +kernel
theorem dX0_exchangeJobs_63 : decode cX0_exchangeJobs 63 = .ok (.iload_n 1, 1) := by decide +kernel
theorem dX0_exchangeJobs_64 : decode cX0_exchangeJobs 64 = .ok (.invokestatic 67, 3) := by decide +kernel
theorem dX0_exchangeJobs_67 : decode cX0_exchangeJobs 67 = .ok (.istore_n 3, 1) := by decide +kernel
theorem dX0_exchangeJobs_68 : decode cX0_exchangeJobs 68 = .ok (.aload_n 0, 1) := by decide +kernel
theorem dX0_exchangeJobs_69 : decode cX0_exchangeJobs 69 = .ok (.iload_n 1, 1) := by decide +kernel
theorem dX0_exchangeJobs_70 : decode cX0_exchangeJobs 70 = .ok (.aload_n 0, 1) := by decide +kernel
theorem dX0_exchangeJobs_71 : decode cX0_exchangeJobs 71 = .ok (.getfield 18, 3) := by decide +kernel
theorem dX0_exchangeJobs_74 : decode cX0_exchangeJobs 74 = .ok (.iload_n 2, 1) := by decide +kernel
theorem dX0_exchangeJobs_75 : decode cX0_exchangeJobs 75 = .ok (.invokestatic 67, 3) := by decide +kernel
theorem dX0_exchangeJobs_78 : decode cX0_exchangeJobs 78 = .ok (.invokevirtual 81, 3) := by decide +kernel
theorem dX0_exchangeJobs_81 : decode cX0_exchangeJobs 81 = .ok (.aload_n 0, 1) := by decide +kernel
theorem dX0_exchangeJobs_82 : decode cX0_exchangeJobs 82 = .ok (.iload_n 2, 1) := by decide +kernel
theorem dX0_exchangeJobs_83 : decode cX0_exchangeJobs 83 = .ok (.iload_n 3, 1) := by decide +kernel
theorem dX0_exchangeJobs_84 : decode cX0_exchangeJobs 84 = .ok (.invokevirtual 81, 3) := by decide +kernel
theorem dX0_exchangeJobs_87 : decode cX0_exchangeJobs 87 = .ok (.aload_n 0, 1) := by decide +kernel
theorem dX0_exchangeJobs_88 : decode cX0_exchangeJobs 88 = .ok (.invokevirtual 85, 3) := by decide +kernel
theorem dX0_exchangeJobs_91 : decode cX0_exchangeJobs 91 = .ok (.ireturn, 1) := by decide +kernel
set_option maxRecDepth 20000 in
theorem ggX0_moveRing_X0_hasJob : GoodIn wsX0_moveRing wsX0_hasJob := goodIn_r _ [8, 9, 45, 46, 47, 48, 49, 50, 51, 52, 53, 54, 55, 56, 57] (by decide +kernel) (by decide +kernel)
set_option maxRecDepth 20000 in
theorem gX0_moveRing_X0_hasJob : GoodIn wsX0_moveRing (wsV RX0 71 RX0 yX0_hasJob wsX0_hasJob) := goodIn_app (goodIn_of _ (by decide +kernel)) ggX0_moveRing_X0_hasJob
set_option maxRecDepth 20000 in
theorem ggX0_moveRing_X0_areApart : GoodIn wsX0_moveRing wsX0_areApart := goodIn_r _ [13, 3, 14, 15, 16, 7, 17, 18, 19, 20, 45, 46, 47, 48, 49, 50, 51, 52, 53, 54, 55, 56, 57] (by decide +kernel) (by decide +kernel)
set_option maxRecDepth 20000 in
theorem gX0_moveRing_X0_areApart : GoodIn wsX0_moveRing (wsV RX0 88 RX0 yX0_areApart wsX0_areApart) := goodIn_app (goodIn_of _ (by decide +kernel)) ggX0_moveRing_X0_areApart
set_option maxRecDepth 20000 in
theorem ggX0_moveRing_X4_at : GoodIn wsX0_moveRing wsX4_at := goodIn_r _ [20] (by decide +kernel) (by decide +kernel)
set_option maxRecDepth 20000 in
theorem gX0_moveRing_X4_at_n67 : GoodIn wsX0_moveRing (wsX4_at) := ggX0_moveRing_X4_at
set_option maxRecDepth 20000 in
theorem ggX0_moveRing_X0_takeTo : GoodIn wsX0_moveRing wsX0_takeTo := goodIn_r _ [24, 25, 3, 26, 27, 2, 1, 18, 19, 20, 28, 29, 30, 7, 31, 32, 33, 34, 45, 46, 47, 48, 49, 50, 51, 52, 53, 54, 55, 56, 57] (by decide +kernel) (by decide +kernel)
set_option maxRecDepth 20000 in
theorem gX0_moveRing_X0_takeTo : GoodIn wsX0_moveRing (wsV RX0 81 RX0 yX0_takeTo wsX0_takeTo) := goodIn_app (goodIn_of _ (by decide +kernel)) ggX0_moveRing_X0_takeTo
set_option maxRecDepth 20000 in
theorem ggX0_moveRing_X0_greatestLoad : GoodIn wsX0_moveRing wsX0_greatestLoad := goodIn_r _ [38, 32, 39, 40, 41, 7, 42, 43, 44, 18, 19, 20, 45, 46, 47, 48, 49, 50, 51, 52, 53, 54, 55, 56, 57] (by decide +kernel) (by decide +kernel)
set_option maxRecDepth 20000 in
theorem gX0_moveRing_X0_greatestLoad : GoodIn wsX0_moveRing (wsV RX0 85 RX0 yX0_greatestLoad wsX0_greatestLoad) := goodIn_app (goodIn_of _ (by decide +kernel)) ggX0_moveRing_X0_greatestLoad
theorem dX0_moveRing_0 : decode cX0_moveRing 0 = .ok (.aload_n 0, 1) := by decide +kernel
theorem dX0_moveRing_1 : decode cX0_moveRing 1 = .ok (.iload_n 1, 1) := by decide +kernel
theorem dX0_moveRing_2 : decode cX0_moveRing 2 = .ok (.invokevirtual 71, 3) := by decide +kernel
theorem dX0_moveRing_5 : decode cX0_moveRing 5 = .ok (.ifCond .eq 19, 3) := by decide +kernel
theorem dX0_moveRing_8 : decode cX0_moveRing 8 = .ok (.aload_n 0, 1) := by decide +kernel
theorem dX0_moveRing_9 : decode cX0_moveRing 9 = .ok (.iload_n 2, 1) := by decide +kernel
theorem dX0_moveRing_10 : decode cX0_moveRing 10 = .ok (.invokevirtual 71, 3) := by decide +kernel
theorem dX0_moveRing_13 : decode cX0_moveRing 13 = .ok (.ifCond .eq 11, 3) := by decide +kernel
theorem dX0_moveRing_16 : decode cX0_moveRing 16 = .ok (.aload_n 0, 1) := by decide +kernel
theorem dX0_moveRing_17 : decode cX0_moveRing 17 = .ok (.iload_n 3, 1) := by decide +kernel
theorem dX0_moveRing_18 : decode cX0_moveRing 18 = .ok (.invokevirtual 71, 3) := by decide +kernel
theorem dX0_moveRing_21 : decode cX0_moveRing 21 = .ok (.ifCond .ne 5, 3) := by decide +kernel
theorem dX0_moveRing_24 : decode cX0_moveRing 24 = .ok (.iconst (-1), 1) := by decide +kernel
theorem dX0_moveRing_25 : decode cX0_moveRing 25 = .ok (.ireturn, 1) := by decide +kernel
theorem dX0_moveRing_26 : decode cX0_moveRing 26 = .ok (.iload_n 1, 1) := by decide +kernel
theorem dX0_moveRing_27 : decode cX0_moveRing 27 = .ok (.iload_n 2, 1) := by decide +kernel
theorem dX0_moveRing_28 : decode cX0_moveRing 28 = .ok (.if_icmp .eq 13, 3) := by decide +kernel
theorem dX0_moveRing_31 : decode cX0_moveRing 31 = .ok (.iload_n 2, 1) := by decide +kernel
theorem dX0_moveRing_32 : decode cX0_moveRing 32 = .ok (.iload_n 3, 1) := by decide +kernel
theorem dX0_moveRing_33 : decode cX0_moveRing 33 = .ok (.if_icmp .eq 8, 3) := by decide +kernel
theorem dX0_moveRing_36 : decode cX0_moveRing 36 = .ok (.iload_n 3, 1) := by decide +kernel
theorem dX0_moveRing_37 : decode cX0_moveRing 37 = .ok (.iload_n 1, 1) := by decide +kernel
theorem dX0_moveRing_38 : decode cX0_moveRing 38 = .ok (.if_icmp .ne 5, 3) := by decide +kernel
theorem dX0_moveRing_41 : decode cX0_moveRing 41 = .ok (.iconst (-1), 1) := by decide +kernel
theorem dX0_moveRing_42 : decode cX0_moveRing 42 = .ok (.ireturn, 1) := by decide +kernel
theorem dX0_moveRing_43 : decode cX0_moveRing 43 = .ok (.aload_n 0, 1) := by decide +kernel
theorem dX0_moveRing_44 : decode cX0_moveRing 44 = .ok (.iload_n 1, 1) := by decide +kernel
theorem dX0_moveRing_45 : decode cX0_moveRing 45 = .ok (.iload_n 2, 1) := by decide +kernel
theorem dX0_moveRing_46 : decode cX0_moveRing 46 = .ok (.invokevirtual 88, 3) := by decide +kernel
theorem dX0_moveRing_49 : decode cX0_moveRing 49 = .ok (.ifCond .eq 21, 3) := by decide +kernel
theorem dX0_moveRing_52 : decode cX0_moveRing 52 = .ok (.aload_n 0, 1) := by decide +kernel
theorem dX0_moveRing_53 : decode cX0_moveRing 53 = .ok (.iload_n 2, 1) := by decide +kernel
theorem dX0_moveRing_54 : decode cX0_moveRing 54 = .ok (.iload_n 3, 1) := by decide +kernel
theorem dX0_moveRing_55 : decode cX0_moveRing 55 = .ok (.invokevirtual 88, 3) := by decide +kernel
theorem dX0_moveRing_58 : decode cX0_moveRing 58 = .ok (.ifCond .eq 12, 3) := by decide +kernel
theorem dX0_moveRing_61 : decode cX0_moveRing 61 = .ok (.aload_n 0, 1) := by decide +kernel
theorem dX0_moveRing_62 : decode cX0_moveRing 62 = .ok (.iload_n 3, 1) := by decide +kernel
theorem dX0_moveRing_63 : decode cX0_moveRing 63 = .ok (.iload_n 1, 1) := by decide +kernel
theorem dX0_moveRing_64 : decode cX0_moveRing 64 = .ok (.invokevirtual 88, 3) := by decide +kernel
theorem dX0_moveRing_67 : decode cX0_moveRing 67 = .ok (.ifCond .ne 6, 3) := by decide +kernel
theorem dX0_moveRing_70 : decode cX0_moveRing 70 = .ok (.bipush (-2), 2) := by decide +kernel
theorem dX0_moveRing_72 : decode cX0_moveRing 72 = .ok (.ireturn, 1) := by decide +kernel
theorem dX0_moveRing_73 : decode cX0_moveRing 73 = .ok (.aload_n 0, 1) := by decide +kernel
theorem dX0_moveRing_74 : decode cX0_moveRing 74 = .ok (.getfield 15, 3) := by decide +kernel
theorem dX0_moveRing_77 : decode cX0_moveRing 77 = .ok (.iload_n 1, 1) := by decide +kernel
theorem dX0_moveRing_78 : decode cX0_moveRing 78 = .ok (.invokestatic 67, 3) := by decide +kernel
theorem dX0_moveRing_81 : decode cX0_moveRing 81 = .ok (.aload_n 0, 1) := by decide +kernel
theorem dX0_moveRing_82 : decode cX0_moveRing 82 = .ok (.getfield 15, 3) := by decide +kernel
theorem dX0_moveRing_85 : decode cX0_moveRing 85 = .ok (.iload_n 2, 1) := by decide +kernel
theorem dX0_moveRing_86 : decode cX0_moveRing 86 = .ok (.invokestatic 67, 3) := by decide +kernel
theorem dX0_moveRing_89 : decode cX0_moveRing 89 = .ok (.iadd, 1) := by decide +kernel
theorem dX0_moveRing_90 : decode cX0_moveRing 90 = .ok (.aload_n 0, 1) := by decide +kernel
theorem dX0_moveRing_91 : decode cX0_moveRing 91 = .ok (.getfield 15, 3) := by decide +kernel
theorem dX0_moveRing_94 : decode cX0_moveRing 94 = .ok (.iload_n 3, 1) := by decide +kernel
theorem dX0_moveRing_95 : decode cX0_moveRing 95 = .ok (.invokestatic 67, 3) := by decide +kernel
theorem dX0_moveRing_98 : decode cX0_moveRing 98 = .ok (.iadd, 1) := by decide +kernel
theorem dX0_moveRing_99 : decode cX0_moveRing 99 = .ok (.aload_n 0, 1) := by decide +kernel
theorem dX0_moveRing_100 : decode cX0_moveRing 100 = .ok (.getfield 43, 3) := by decide +kernel
theorem dX0_moveRing_103 : decode cX0_moveRing 103 = .ok (.if_icmp .le 6, 3) := by decide +kernel
theorem dX0_moveRing_106 : decode cX0_moveRing 106 = .ok (.bipush (-2), 2) := by decide +kernel
theorem dX0_moveRing_108 : decode cX0_moveRing 108 = .ok (.ireturn, 1) := by decide +kernel
theorem dX0_moveRing_109 : decode cX0_moveRing 109 = .ok (.aload_n 0, 1) := by decide +kernel
theorem dX0_moveRing_110 : decode cX0_moveRing 110 = .ok (.getfield 18, 3) := by decide +kernel
theorem dX0_moveRing_113 : decode cX0_moveRing 113 = .ok (.iload_n 1, 1) := by decide +kernel
theorem dX0_moveRing_114 : decode cX0_moveRing 114 = .ok (.invokestatic 67, 3) := by decide +kernel
theorem dX0_moveRing_117 : decode cX0_moveRing 117 = .ok (.istore 4, 2) := by decide +kernel
theorem dX0_moveRing_119 : decode cX0_moveRing 119 = .ok (.aload_n 0, 1) := by decide +kernel
theorem dX0_moveRing_120 : decode cX0_moveRing 120 = .ok (.iload_n 1, 1) := by decide +kernel
theorem dX0_moveRing_121 : decode cX0_moveRing 121 = .ok (.aload_n 0, 1) := by decide +kernel
theorem dX0_moveRing_122 : decode cX0_moveRing 122 = .ok (.getfield 18, 3) := by decide +kernel
theorem dX0_moveRing_125 : decode cX0_moveRing 125 = .ok (.iload_n 2, 1) := by decide +kernel
theorem dX0_moveRing_126 : decode cX0_moveRing 126 = .ok (.invokestatic 67, 3) := by decide +kernel
theorem dX0_moveRing_129 : decode cX0_moveRing 129 = .ok (.invokevirtual 81, 3) := by decide +kernel
theorem dX0_moveRing_132 : decode cX0_moveRing 132 = .ok (.aload_n 0, 1) := by decide +kernel
theorem dX0_moveRing_133 : decode cX0_moveRing 133 = .ok (.iload_n 2, 1) := by decide +kernel
theorem dX0_moveRing_134 : decode cX0_moveRing 134 = .ok (.aload_n 0, 1) := by decide +kernel
theorem dX0_moveRing_135 : decode cX0_moveRing 135 = .ok (.getfield 18, 3) := by decide +kernel
theorem dX0_moveRing_138 : decode cX0_moveRing 138 = .ok (.iload_n 3, 1) := by decide +kernel
theorem dX0_moveRing_139 : decode cX0_moveRing 139 = .ok (.invokestatic 67, 3) := by decide +kernel
theorem dX0_moveRing_142 : decode cX0_moveRing 142 = .ok (.invokevirtual 81, 3) := by decide +kernel
theorem dX0_moveRing_145 : decode cX0_moveRing 145 = .ok (.aload_n 0, 1) := by decide +kernel
theorem dX0_moveRing_146 : decode cX0_moveRing 146 = .ok (.iload_n 3, 1) := by decide +kernel
theorem dX0_moveRing_147 : decode cX0_moveRing 147 = .ok (.iload 4, 2) := by decide +kernel
theorem dX0_moveRing_149 : decode cX0_moveRing 149 = .ok (.invokevirtual 81, 3) := by decide +kernel
theorem dX0_moveRing_152 : decode cX0_moveRing 152 = .ok (.aload_n 0, 1) := by decide +kernel
theorem dX0_moveRing_153 : decode cX0_moveRing 153 = .ok (.invokevirtual 85, 3) := by decide +kernel
theorem dX0_moveRing_156 : decode cX0_moveRing 156 = .ok (.ireturn, 1) := by decide +kernel
set_option maxRecDepth 20000 in
theorem ggX0_closeServer_X0_hasServer : GoodIn wsX0_closeServer wsX0_hasServer := goodIn_r _ [7, 8, 69, 70, 71, 72, 73, 74, 75, 76, 77, 78, 79, 80, 81] (by decide +kernel) (by decide +kernel)
set_option maxRecDepth 20000 in
theorem gX0_closeServer_X0_hasServer : GoodIn wsX0_closeServer (wsV RX0 60 RX0 yX0_hasServer wsX0_hasServer) := goodIn_app (goodIn_of _ (by decide +kernel)) ggX0_closeServer_X0_hasServer
set_option maxRecDepth 20000 in
theorem ggX0_closeServer_X0_isOpen : GoodIn wsX0_closeServer wsX0_isOpen := goodIn_r _ [12, 13, 14, 15, 16, 69, 70, 71, 72, 73, 74, 75, 76, 77, 78, 79, 80, 81] (by decide +kernel) (by decide +kernel)
set_option maxRecDepth 20000 in
theorem gX0_closeServer_X0_isOpen : GoodIn wsX0_closeServer (wsV RX0 64 RX0 yX0_isOpen wsX0_isOpen) := goodIn_app (goodIn_of _ (by decide +kernel)) ggX0_closeServer_X0_isOpen
set_option maxRecDepth 20000 in
theorem ggX0_closeServer_X0_priceOfAll : GoodIn wsX0_closeServer wsX0_priceOfAll := goodIn_r _ [20, 21, 22, 23, 14, 15, 16, 69, 70, 71, 72, 73, 74, 75, 76, 77, 78, 79, 80, 81] (by decide +kernel) (by decide +kernel)
set_option maxRecDepth 20000 in
theorem gX0_closeServer_X0_priceOfAll : GoodIn wsX0_closeServer (wsV RX0 92 RX0 yX0_priceOfAll wsX0_priceOfAll) := goodIn_app (goodIn_of _ (by decide +kernel)) ggX0_closeServer_X0_priceOfAll
set_option maxRecDepth 20000 in
theorem ggX0_closeServer_X0_closeAndEmpty : GoodIn wsX0_closeServer wsX0_closeAndEmpty := goodIn_r _ [27, 13, 1, 28, 15, 29, 30, 31, 32, 6, 33, 21, 22, 14, 16, 34, 35, 36, 37, 38, 39, 40, 41, 42, 43, 44, 45, 46, 47, 48, 49, 50, 51, 52, 53, 23, 54, 55, 56, 57, 8, 58, 59, 60, 61, 62, 63, 64, 2, 65, 66, 67, 68, 69, 70, 71, 72, 73, 74, 75, 76, 77, 78, 79, 80, 81] (by decide +kernel) (by decide +kernel)
set_option maxRecDepth 20000 in
theorem gX0_closeServer_X0_closeAndEmpty : GoodIn wsX0_closeServer (wsV RX0 96 RX0 yX0_closeAndEmpty wsX0_closeAndEmpty) := goodIn_app (goodIn_of _ (by decide +kernel)) ggX0_closeServer_X0_closeAndEmpty
theorem dX0_closeServer_0 : decode cX0_closeServer 0 = .ok (.aload_n 0, 1) := by decide +kernel
theorem dX0_closeServer_1 : decode cX0_closeServer 1 = .ok (.iload_n 1, 1) := by decide +kernel
theorem dX0_closeServer_2 : decode cX0_closeServer 2 = .ok (.invokevirtual 60, 3) := by decide +kernel
theorem dX0_closeServer_5 : decode cX0_closeServer 5 = .ok (.ifCond .ne 5, 3) := by decide +kernel
theorem dX0_closeServer_8 : decode cX0_closeServer 8 = .ok (.iconst (-1), 1) := by decide +kernel
theorem dX0_closeServer_9 : decode cX0_closeServer 9 = .ok (.ireturn, 1) := by decide +kernel
theorem dX0_closeServer_10 : decode cX0_closeServer 10 = .ok (.aload_n 0, 1) := by decide +kernel
theorem dX0_closeServer_11 : decode cX0_closeServer 11 = .ok (.iload_n 1, 1) := by decide +kernel
theorem dX0_closeServer_12 : decode cX0_closeServer 12 = .ok (.invokevirtual 64, 3) := by decide +kernel
theorem dX0_closeServer_15 : decode cX0_closeServer 15 = .ok (.ifCond .eq 23, 3) := by decide +kernel
theorem dX0_closeServer_18 : decode cX0_closeServer 18 = .ok (.aload_n 0, 1) := by decide +kernel
theorem dX0_closeServer_19 : decode cX0_closeServer 19 = .ok (.getfield 34, 3) := by decide +kernel
theorem dX0_closeServer_22 : decode cX0_closeServer 22 = .ok (.iconst 1, 1) := by decide +kernel
theorem dX0_closeServer_23 : decode cX0_closeServer 23 = .ok (.if_icmp .le 15, 3) := by decide +kernel
theorem dX0_closeServer_26 : decode cX0_closeServer 26 = .ok (.aload_n 0, 1) := by decide +kernel
theorem dX0_closeServer_27 : decode cX0_closeServer 27 = .ok (.iload_n 1, 1) := by decide +kernel
theorem dX0_closeServer_28 : decode cX0_closeServer 28 = .ok (.invokevirtual 92, 3) := by decide +kernel
theorem dX0_closeServer_31 : decode cX0_closeServer 31 = .ok (.aload_n 0, 1) := by decide +kernel
theorem dX0_closeServer_32 : decode cX0_closeServer 32 = .ok (.getfield 43, 3) := by decide +kernel
theorem dX0_closeServer_35 : decode cX0_closeServer 35 = .ok (.if_icmp .le 6, 3) := by decide +kernel
theorem dX0_closeServer_38 : decode cX0_closeServer 38 = .ok (.bipush (-2), 2) := by decide +kernel
theorem dX0_closeServer_40 : decode cX0_closeServer 40 = .ok (.ireturn, 1) := by decide +kernel
theorem dX0_closeServer_41 : decode cX0_closeServer 41 = .ok (.aload_n 0, 1) := by decide +kernel
theorem dX0_closeServer_42 : decode cX0_closeServer 42 = .ok (.iload_n 1, 1) := by decide +kernel
theorem dX0_closeServer_43 : decode cX0_closeServer 43 = .ok (.invokevirtual 96, 3) := by decide +kernel
theorem dX0_closeServer_46 : decode cX0_closeServer 46 = .ok (.ireturn, 1) := by decide +kernel
set_option maxRecDepth 20000 in
theorem ggX0_openServer_X0_hasServer : GoodIn wsX0_openServer wsX0_hasServer := goodIn_r _ [7, 8, 18, 19, 20, 21, 22, 23, 24, 25, 26, 27, 28, 29, 30] (by decide +kernel) (by decide +kernel)
set_option maxRecDepth 20000 in
theorem gX0_openServer_X0_hasServer : GoodIn wsX0_openServer (wsV RX0 60 RX0 yX0_hasServer wsX0_hasServer) := goodIn_app (goodIn_of _ (by decide +kernel)) ggX0_openServer_X0_hasServer
set_option maxRecDepth 20000 in
theorem ggX0_openServer_X0_isOpen : GoodIn wsX0_openServer wsX0_isOpen := goodIn_r _ [12, 1, 13, 14, 15, 18, 19, 20, 21, 22, 23, 24, 25, 26, 27, 28, 29, 30] (by decide +kernel) (by decide +kernel)
set_option maxRecDepth 20000 in
theorem gX0_openServer_X0_isOpen : GoodIn wsX0_openServer (wsV RX0 64 RX0 yX0_isOpen wsX0_isOpen) := goodIn_app (goodIn_of _ (by decide +kernel)) ggX0_openServer_X0_isOpen
set_option maxRecDepth 20000 in
theorem ggX0_openServer_X4_put : GoodIn wsX0_openServer wsX4_put := goodIn_r _ [17] (by decide +kernel) (by decide +kernel)
set_option maxRecDepth 20000 in
theorem gX0_openServer_X4_put_n56 : GoodIn wsX0_openServer (wsX4_put) := ggX0_openServer_X4_put
theorem dX0_openServer_0 : decode cX0_openServer 0 = .ok (.aload_n 0, 1) := by decide +kernel
theorem dX0_openServer_1 : decode cX0_openServer 1 = .ok (.iload_n 1, 1) := by decide +kernel
theorem dX0_openServer_2 : decode cX0_openServer 2 = .ok (.invokevirtual 60, 3) := by decide +kernel
theorem dX0_openServer_5 : decode cX0_openServer 5 = .ok (.ifCond .ne 5, 3) := by decide +kernel
theorem dX0_openServer_8 : decode cX0_openServer 8 = .ok (.iconst (-1), 1) := by decide +kernel
theorem dX0_openServer_9 : decode cX0_openServer 9 = .ok (.ireturn, 1) := by decide +kernel
theorem dX0_openServer_10 : decode cX0_openServer 10 = .ok (.aload_n 0, 1) := by decide +kernel
theorem dX0_openServer_11 : decode cX0_openServer 11 = .ok (.iload_n 1, 1) := by decide +kernel
theorem dX0_openServer_12 : decode cX0_openServer 12 = .ok (.invokevirtual 64, 3) := by decide +kernel
theorem dX0_openServer_15 : decode cX0_openServer 15 = .ok (.ifCond .eq 6, 3) := by decide +kernel
theorem dX0_openServer_18 : decode cX0_openServer 18 = .ok (.bipush (-2), 2) := by decide +kernel
theorem dX0_openServer_20 : decode cX0_openServer 20 = .ok (.ireturn, 1) := by decide +kernel
theorem dX0_openServer_21 : decode cX0_openServer 21 = .ok (.aload_n 0, 1) := by decide +kernel
theorem dX0_openServer_22 : decode cX0_openServer 22 = .ok (.getfield 27, 3) := by decide +kernel
theorem dX0_openServer_25 : decode cX0_openServer 25 = .ok (.iload_n 1, 1) := by decide +kernel
theorem dX0_openServer_26 : decode cX0_openServer 26 = .ok (.iconst 1, 1) := by decide +kernel
theorem dX0_openServer_27 : decode cX0_openServer 27 = .ok (.invokestatic 56, 3) := by decide +kernel
theorem dX0_openServer_30 : decode cX0_openServer 30 = .ok (.aload_n 0, 1) := by decide +kernel
theorem dX0_openServer_31 : decode cX0_openServer 31 = .ok (.dup, 1) := by decide +kernel
theorem dX0_openServer_32 : decode cX0_openServer 32 = .ok (.getfield 34, 3) := by decide +kernel
theorem dX0_openServer_35 : decode cX0_openServer 35 = .ok (.iconst 1, 1) := by decide +kernel
theorem dX0_openServer_36 : decode cX0_openServer 36 = .ok (.iadd, 1) := by decide +kernel
theorem dX0_openServer_37 : decode cX0_openServer 37 = .ok (.putfield 34, 3) := by decide +kernel
theorem dX0_openServer_40 : decode cX0_openServer 40 = .ok (.aload_n 0, 1) := by decide +kernel
theorem dX0_openServer_41 : decode cX0_openServer 41 = .ok (.getfield 34, 3) := by decide +kernel
theorem dX0_openServer_44 : decode cX0_openServer 44 = .ok (.ireturn, 1) := by decide +kernel
set_option maxRecDepth 20000 in
theorem ggX0_closeAndEmpty_X4_put : GoodIn wsX0_closeAndEmpty wsX4_put := goodIn_r _ [5] (by decide +kernel) (by decide +kernel)
set_option maxRecDepth 20000 in
theorem gX0_closeAndEmpty_X4_put_n56 : GoodIn wsX0_closeAndEmpty (wsX4_put) := ggX0_closeAndEmpty_X4_put
set_option maxRecDepth 20000 in
theorem ggX0_closeAndEmpty_X0_jobsOn : GoodIn wsX0_closeAndEmpty wsX0_jobsOn := goodIn_r _ [10, 11, 12, 13, 4, 14, 53, 54, 55, 56, 57, 58, 59, 60, 61, 62, 63, 64, 65] (by decide +kernel) (by decide +kernel)
set_option maxRecDepth 20000 in
theorem gX0_closeAndEmpty_X0_jobsOn : GoodIn wsX0_closeAndEmpty (wsV RX0 99 RX0 yX0_jobsOn wsX0_jobsOn) := goodIn_app (goodIn_of _ (by decide +kernel)) ggX0_closeAndEmpty_X0_jobsOn
set_option maxRecDepth 20000 in
theorem ggX0_closeAndEmpty_J6_bitCount_0f7a4 : GoodIn wsX0_closeAndEmpty wsJ6_bitCount_0f7a4 := goodIn_r _ [18, 19, 20, 21] (by decide +kernel) (by decide +kernel)
set_option maxRecDepth 20000 in
theorem gX0_closeAndEmpty_J6_bitCount_0f7a4 : GoodIn wsX0_closeAndEmpty (va_wsS RX0 102 yJ6_bitCount_0f7a4 wsJ6_bitCount_0f7a4) := goodIn_app (goodIn_of _ (by decide +kernel)) ggX0_closeAndEmpty_J6_bitCount_0f7a4
set_option maxRecDepth 20000 in
theorem ggX0_closeAndEmpty_X0_leavingJob : GoodIn wsX0_closeAndEmpty wsX0_leavingJob := goodIn_r _ [25, 11, 12, 13, 4, 14, 26, 27, 28, 9, 29, 30, 31, 32, 33, 34, 35, 53, 54, 55, 56, 57, 58, 59, 60, 61, 62, 63, 64, 65] (by decide +kernel) (by decide +kernel)
set_option maxRecDepth 20000 in
theorem gX0_closeAndEmpty_X0_leavingJob : GoodIn wsX0_closeAndEmpty (wsV RX0 107 RX0 yX0_leavingJob wsX0_leavingJob) := goodIn_app (goodIn_of _ (by decide +kernel)) ggX0_closeAndEmpty_X0_leavingJob
set_option maxRecDepth 20000 in
theorem ggX0_closeAndEmpty_X0_emptiestServer : GoodIn wsX0_closeAndEmpty wsX0_emptiestServer := goodIn_r _ [39, 40, 41, 1, 13, 4, 14, 53, 54, 55, 56, 57, 58, 59, 60, 61, 62, 63, 64, 65] (by decide +kernel) (by decide +kernel)
set_option maxRecDepth 20000 in
theorem gX0_closeAndEmpty_X0_emptiestServer : GoodIn wsX0_closeAndEmpty (wsV RX0 111 RX0 yX0_emptiestServer wsX0_emptiestServer) := goodIn_app (goodIn_of _ (by decide +kernel)) ggX0_closeAndEmpty_X0_emptiestServer
set_option maxRecDepth 20000 in
theorem ggX0_closeAndEmpty_X0_takeTo : GoodIn wsX0_closeAndEmpty wsX0_takeTo := goodIn_r _ [45, 34, 12, 46, 47, 48, 35, 13, 4, 14, 49, 50, 51, 9, 52, 41, 3, 5, 53, 54, 55, 56, 57, 58, 59, 60, 61, 62, 63, 64, 65] (by decide +kernel) (by decide +kernel)
set_option maxRecDepth 20000 in
theorem gX0_closeAndEmpty_X0_takeTo : GoodIn wsX0_closeAndEmpty (wsV RX0 81 RX0 yX0_takeTo wsX0_takeTo) := goodIn_app (goodIn_of _ (by decide +kernel)) ggX0_closeAndEmpty_X0_takeTo
theorem dX0_closeAndEmpty_0 : decode cX0_closeAndEmpty 0 = .ok (.aload_n 0, 1) := by decide +kernel
theorem dX0_closeAndEmpty_1 : decode cX0_closeAndEmpty 1 = .ok (.getfield 27, 3) := by decide +kernel
