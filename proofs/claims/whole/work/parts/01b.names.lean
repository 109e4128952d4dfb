theorem dX0_init_0 : decode cX0_init 0 = .ok (.aload_n 0, 1) := by decide +kernel
theorem dX0_init_1 : decode cX0_init 1 = .ok (.invokespecial 3, 3) := by decide +kernel
theorem dX0_init_4 : decode cX0_init 4 = .ok (.aload_n 0, 1) := by decide +kernel
theorem dX0_init_5 : decode cX0_init 5 = .ok (.bipush 24, 2) := by decide +kernel
theorem dX0_init_7 : decode cX0_init 7 = .ok (.newarray .int, 2) := by decide +kernel
theorem dX0_init_9 : decode cX0_init 9 = .ok (.putfield 9, 3) := by decide +kernel
theorem dX0_init_12 : decode cX0_init 12 = .ok (.aload_n 0, 1) := by decide +kernel
theorem dX0_init_13 : decode cX0_init 13 = .ok (.bipush 24, 2) := by decide +kernel
theorem dX0_init_15 : decode cX0_init 15 = .ok (.newarray .int, 2) := by decide +kernel
theorem dX0_init_17 : decode cX0_init 17 = .ok (.putfield 15, 3) := by decide +kernel
theorem dX0_init_20 : decode cX0_init 20 = .ok (.aload_n 0, 1) := by decide +kernel
theorem dX0_init_21 : decode cX0_init 21 = .ok (.bipush 24, 2) := by decide +kernel
theorem dX0_init_23 : decode cX0_init 23 = .ok (.newarray .int, 2) := by decide +kernel
theorem dX0_init_25 : decode cX0_init 25 = .ok (.putfield 18, 3) := by decide +kernel
theorem dX0_init_28 : decode cX0_init 28 = .ok (.aload_n 0, 1) := by decide +kernel
theorem dX0_init_29 : decode cX0_init 29 = .ok (.bipush 24, 2) := by decide +kernel
theorem dX0_init_31 : decode cX0_init 31 = .ok (.newarray .int, 2) := by decide +kernel
theorem dX0_init_33 : decode cX0_init 33 = .ok (.putfield 21, 3) := by decide +kernel
theorem dX0_init_36 : decode cX0_init 36 = .ok (.aload_n 0, 1) := by decide +kernel
theorem dX0_init_37 : decode cX0_init 37 = .ok (.bipush 6, 2) := by decide +kernel
theorem dX0_init_39 : decode cX0_init 39 = .ok (.newarray .int, 2) := by decide +kernel
theorem dX0_init_41 : decode cX0_init 41 = .ok (.putfield 24, 3) := by decide +kernel
theorem dX0_init_44 : decode cX0_init 44 = .ok (.aload_n 0, 1) := by decide +kernel
theorem dX0_init_45 : decode cX0_init 45 = .ok (.bipush 6, 2) := by decide +kernel
theorem dX0_init_47 : decode cX0_init 47 = .ok (.newarray .int, 2) := by decide +kernel
theorem dX0_init_49 : decode cX0_init 49 = .ok (.putfield 27, 3) := by decide +kernel
theorem dX0_init_52 : decode cX0_init 52 = .ok (.aload_n 0, 1) := by decide +kernel
theorem dX0_init_53 : decode cX0_init 53 = .ok (.iconst 0, 1) := by decide +kernel
theorem dX0_init_54 : decode cX0_init 54 = .ok (.putfield 30, 3) := by decide +kernel
theorem dX0_init_57 : decode cX0_init 57 = .ok (.aload_n 0, 1) := by decide +kernel
theorem dX0_init_58 : decode cX0_init 58 = .ok (.iconst 0, 1) := by decide +kernel
theorem dX0_init_59 : decode cX0_init 59 = .ok (.putfield 34, 3) := by decide +kernel
theorem dX0_init_62 : decode cX0_init 62 = .ok (.aload_n 0, 1) := by decide +kernel
theorem dX0_init_63 : decode cX0_init 63 = .ok (.iconst 0, 1) := by decide +kernel
theorem dX0_init_64 : decode cX0_init 64 = .ok (.putfield 37, 3) := by decide +kernel
theorem dX0_init_67 : decode cX0_init 67 = .ok (.aload_n 0, 1) := by decide +kernel
theorem dX0_init_68 : decode cX0_init 68 = .ok (.iconst 0, 1) := by decide +kernel
theorem dX0_init_69 : decode cX0_init 69 = .ok (.putfield 40, 3) := by decide +kernel
theorem dX0_init_72 : decode cX0_init 72 = .ok (.aload_n 0, 1) := by decide +kernel
theorem dX0_init_73 : decode cX0_init 73 = .ok (.sipush 500, 3) := by decide +kernel
theorem dX0_init_76 : decode cX0_init 76 = .ok (.putfield 43, 3) := by decide +kernel
theorem dX0_init_79 : decode cX0_init 79 = .ok (.aload_n 0, 1) := by decide +kernel
theorem dX0_init_80 : decode cX0_init 80 = .ok (.bipush 120, 2) := by decide +kernel
theorem dX0_init_82 : decode cX0_init 82 = .ok (.putfield 46, 3) := by decide +kernel
theorem dX0_init_85 : decode cX0_init 85 = .ok (.aload_n 0, 1) := by decide +kernel
theorem dX0_init_86 : decode cX0_init 86 = .ok (.iconst 0, 1) := by decide +kernel
theorem dX0_init_87 : decode cX0_init 87 = .ok (.putfield 49, 3) := by decide +kernel
theorem dX0_init_90 : decode cX0_init 90 = .ok (.return_, 1) := by decide +kernel
set_option maxRecDepth 20000 in
theorem ggX0_copyFrom_X4_copyRow : GoodIn wsX0_copyFrom wsX4_copyRow := goodIn_r _ [16, 17, 18, 19, 20, 21, 22, 23, 24] (by decide +kernel) (by decide +kernel)
set_option maxRecDepth 20000 in
theorem gX0_copyFrom_X4_copyRow_n52 : GoodIn wsX0_copyFrom (wsX4_copyRow) := ggX0_copyFrom_X4_copyRow
theorem dX0_copyFrom_0 : decode cX0_copyFrom 0 = .ok (.aload_n 1, 1) := by decide +kernel
theorem dX0_copyFrom_1 : decode cX0_copyFrom 1 = .ok (.getfield 9, 3) := by decide +kernel
theorem dX0_copyFrom_4 : decode cX0_copyFrom 4 = .ok (.aload_n 0, 1) := by decide +kernel
theorem dX0_copyFrom_5 : decode cX0_copyFrom 5 = .ok (.getfield 9, 3) := by decide +kernel
theorem dX0_copyFrom_8 : decode cX0_copyFrom 8 = .ok (.invokestatic 52, 3) := by decide +kernel
theorem dX0_copyFrom_11 : decode cX0_copyFrom 11 = .ok (.aload_n 1, 1) := by decide +kernel
theorem dX0_copyFrom_12 : decode cX0_copyFrom 12 = .ok (.getfield 15, 3) := by decide +kernel
theorem dX0_copyFrom_15 : decode cX0_copyFrom 15 = .ok (.aload_n 0, 1) := by decide +kernel
theorem dX0_copyFrom_16 : decode cX0_copyFrom 16 = .ok (.getfield 15, 3) := by decide +kernel
theorem dX0_copyFrom_19 : decode cX0_copyFrom 19 = .ok (.invokestatic 52, 3) := by decide +kernel
theorem dX0_copyFrom_22 : decode cX0_copyFrom 22 = .ok (.aload_n 1, 1) := by decide +kernel
theorem dX0_copyFrom_23 : decode cX0_copyFrom 23 = .ok (.getfield 18, 3) := by decide +kernel
theorem dX0_copyFrom_26 : decode cX0_copyFrom 26 = .ok (.aload_n 0, 1) := by decide +kernel
theorem dX0_copyFrom_27 : decode cX0_copyFrom 27 = .ok (.getfield 18, 3) := by decide +kernel
theorem dX0_copyFrom_30 : decode cX0_copyFrom 30 = .ok (.invokestatic 52, 3) := by decide +kernel
theorem dX0_copyFrom_33 : decode cX0_copyFrom 33 = .ok (.aload_n 1, 1) := by decide +kernel
theorem dX0_copyFrom_34 : decode cX0_copyFrom 34 = .ok (.getfield 21, 3) := by decide +kernel
theorem dX0_copyFrom_37 : decode cX0_copyFrom 37 = .ok (.aload_n 0, 1) := by decide +kernel
theorem dX0_copyFrom_38 : decode cX0_copyFrom 38 = .ok (.getfield 21, 3) := by decide +kernel
theorem dX0_copyFrom_41 : decode cX0_copyFrom 41 = .ok (.invokestatic 52, 3) := by decide +kernel
theorem dX0_copyFrom_44 : decode cX0_copyFrom 44 = .ok (.aload_n 1, 1) := by decide +kernel
theorem dX0_copyFrom_45 : decode cX0_copyFrom 45 = .ok (.getfield 24, 3) := by decide +kernel
theorem dX0_copyFrom_48 : decode cX0_copyFrom 48 = .ok (.aload_n 0, 1) := by decide +kernel
theorem dX0_copyFrom_49 : decode cX0_copyFrom 49 = .ok (.getfield 24, 3) := by decide +kernel
theorem dX0_copyFrom_52 : decode cX0_copyFrom 52 = .ok (.invokestatic 52, 3) := by decide +kernel
theorem dX0_copyFrom_55 : decode cX0_copyFrom 55 = .ok (.aload_n 1, 1) := by decide +kernel
theorem dX0_copyFrom_56 : decode cX0_copyFrom 56 = .ok (.getfield 27, 3) := by decide +kernel
theorem dX0_copyFrom_59 : decode cX0_copyFrom 59 = .ok (.aload_n 0, 1) := by decide +kernel
theorem dX0_copyFrom_60 : decode cX0_copyFrom 60 = .ok (.getfield 27, 3) := by decide +kernel
theorem dX0_copyFrom_63 : decode cX0_copyFrom 63 = .ok (.invokestatic 52, 3) := by decide +kernel
theorem dX0_copyFrom_66 : decode cX0_copyFrom 66 = .ok (.aload_n 0, 1) := by decide +kernel
theorem dX0_copyFrom_67 : decode cX0_copyFrom 67 = .ok (.aload_n 1, 1) := by decide +kernel
theorem dX0_copyFrom_68 : decode cX0_copyFrom 68 = .ok (.getfield 30, 3) := by decide +kernel
theorem dX0_copyFrom_71 : decode cX0_copyFrom 71 = .ok (.putfield 30, 3) := by decide +kernel
theorem dX0_copyFrom_74 : decode cX0_copyFrom 74 = .ok (.aload_n 0, 1) := by decide +kernel
theorem dX0_copyFrom_75 : decode cX0_copyFrom 75 = .ok (.aload_n 1, 1) := by decide +kernel
theorem dX0_copyFrom_76 : decode cX0_copyFrom 76 = .ok (.getfield 34, 3) := by decide +kernel
theorem dX0_copyFrom_79 : decode cX0_copyFrom 79 = .ok (.putfield 34, 3) := by decide +kernel
theorem dX0_copyFrom_82 : decode cX0_copyFrom 82 = .ok (.aload_n 0, 1) := by decide +kernel
theorem dX0_copyFrom_83 : decode cX0_copyFrom 83 = .ok (.aload_n 1, 1) := by decide +kernel
theorem dX0_copyFrom_84 : decode cX0_copyFrom 84 = .ok (.getfield 37, 3) := by decide +kernel
theorem dX0_copyFrom_87 : decode cX0_copyFrom 87 = .ok (.putfield 37, 3) := by decide +kernel
theorem dX0_copyFrom_90 : decode cX0_copyFrom 90 = .ok (.aload_n 0, 1) := by decide +kernel
theorem dX0_copyFrom_91 : decode cX0_copyFrom 91 = .ok (.aload_n 1, 1) := by decide +kernel
theorem dX0_copyFrom_92 : decode cX0_copyFrom 92 = .ok (.getfield 40, 3) := by decide +kernel
theorem dX0_copyFrom_95 : decode cX0_copyFrom 95 = .ok (.putfield 40, 3) := by decide +kernel
theorem dX0_copyFrom_98 : decode cX0_copyFrom 98 = .ok (.aload_n 0, 1) := by decide +kernel
theorem dX0_copyFrom_99 : decode cX0_copyFrom 99 = .ok (.aload_n 1, 1) := by decide +kernel
theorem dX0_copyFrom_100 : decode cX0_copyFrom 100 = .ok (.getfield 43, 3) := by decide +kernel
theorem dX0_copyFrom_103 : decode cX0_copyFrom 103 = .ok (.putfield 43, 3) := by decide +kernel
theorem dX0_copyFrom_106 : decode cX0_copyFrom 106 = .ok (.aload_n 0, 1) := by decide +kernel
theorem dX0_copyFrom_107 : decode cX0_copyFrom 107 = .ok (.aload_n 1, 1) := by decide +kernel
theorem dX0_copyFrom_108 : decode cX0_copyFrom 108 = .ok (.getfield 46, 3) := by decide +kernel
theorem dX0_copyFrom_111 : decode cX0_copyFrom 111 = .ok (.putfield 46, 3) := by decide +kernel
theorem dX0_copyFrom_114 : decode cX0_copyFrom 114 = .ok (.aload_n 0, 1) := by decide +kernel
theorem dX0_copyFrom_115 : decode cX0_copyFrom 115 = .ok (.aload_n 1, 1) := by decide +kernel
theorem dX0_copyFrom_116 : decode cX0_copyFrom 116 = .ok (.getfield 49, 3) := by decide +kernel
theorem dX0_copyFrom_119 : decode cX0_copyFrom 119 = .ok (.putfield 49, 3) := by decide +kernel
theorem dX0_copyFrom_122 : decode cX0_copyFrom 122 = .ok (.return_, 1) := by decide +kernel
set_option maxRecDepth 20000 in
theorem ggX0_newServer_X4_put : GoodIn wsX0_newServer wsX4_put := goodIn_r _ [6] (by decide +kernel) (by decide +kernel)
set_option maxRecDepth 20000 in
theorem gX0_newServer_X4_put_n56 : GoodIn wsX0_newServer (wsX4_put) := ggX0_newServer_X4_put
theorem dX0_newServer_0 : decode cX0_newServer 0 = .ok (.aload_n 0, 1) := by decide +kernel
theorem dX0_newServer_1 : decode cX0_newServer 1 = .ok (.getfield 30, 3) := by decide +kernel
theorem dX0_newServer_4 : decode cX0_newServer 4 = .ok (.bipush 6, 2) := by decide +kernel
theorem dX0_newServer_6 : decode cX0_newServer 6 = .ok (.if_icmp .lt 6, 3) := by decide +kernel
theorem dX0_newServer_9 : decode cX0_newServer 9 = .ok (.bipush (-3), 2) := by decide +kernel
theorem dX0_newServer_11 : decode cX0_newServer 11 = .ok (.ireturn, 1) := by decide +kernel
theorem dX0_newServer_12 : decode cX0_newServer 12 = .ok (.aload_n 0, 1) := by decide +kernel
theorem dX0_newServer_13 : decode cX0_newServer 13 = .ok (.getfield 27, 3) := by decide +kernel
theorem dX0_newServer_16 : decode cX0_newServer 16 = .ok (.aload_n 0, 1) := by decide +kernel
theorem dX0_newServer_17 : decode cX0_newServer 17 = .ok (.getfield 30, 3) := by decide +kernel
theorem dX0_newServer_20 : decode cX0_newServer 20 = .ok (.iconst 1, 1) := by decide +kernel
theorem dX0_newServer_21 : decode cX0_newServer 21 = .ok (.invokestatic 56, 3) := by decide +kernel
theorem dX0_newServer_24 : decode cX0_newServer 24 = .ok (.aload_n 0, 1) := by decide +kernel
theorem dX0_newServer_25 : decode cX0_newServer 25 = .ok (.dup, 1) := by decide +kernel
theorem dX0_newServer_26 : decode cX0_newServer 26 = .ok (.getfield 34, 3) := by decide +kernel
theorem dX0_newServer_29 : decode cX0_newServer 29 = .ok (.iconst 1, 1) := by decide +kernel
theorem dX0_newServer_30 : decode cX0_newServer 30 = .ok (.iadd, 1) := by decide +kernel
theorem dX0_newServer_31 : decode cX0_newServer 31 = .ok (.putfield 34, 3) := by decide +kernel
theorem dX0_newServer_34 : decode cX0_newServer 34 = .ok (.aload_n 0, 1) := by decide +kernel
theorem dX0_newServer_35 : decode cX0_newServer 35 = .ok (.dup, 1) := by decide +kernel
theorem dX0_newServer_36 : decode cX0_newServer 36 = .ok (.getfield 30, 3) := by decide +kernel
theorem dX0_newServer_39 : decode cX0_newServer 39 = .ok (.iconst 1, 1) := by decide +kernel
theorem dX0_newServer_40 : decode cX0_newServer 40 = .ok (.iadd, 1) := by decide +kernel
theorem dX0_newServer_41 : decode cX0_newServer 41 = .ok (.putfield 30, 3) := by decide +kernel
theorem dX0_newServer_44 : decode cX0_newServer 44 = .ok (.aload_n 0, 1) := by decide +kernel
theorem dX0_newServer_45 : decode cX0_newServer 45 = .ok (.getfield 30, 3) := by decide +kernel
theorem dX0_newServer_48 : decode cX0_newServer 48 = .ok (.iconst 1, 1) := by decide +kernel
theorem dX0_newServer_49 : decode cX0_newServer 49 = .ok (.isub, 1) := by decide +kernel
theorem dX0_newServer_50 : decode cX0_newServer 50 = .ok (.ireturn, 1) := by decide +kernel
set_option maxRecDepth 20000 in
theorem ggX0_newJob_X0_hasServer : GoodIn wsX0_newJob wsX0_hasServer := goodIn_r _ [12, 13, 24, 25, 26, 27, 28, 29, 30, 31, 32, 33, 34, 35, 36] (by decide +kernel) (by decide +kernel)
set_option maxRecDepth 20000 in
theorem gX0_newJob_X0_hasServer : GoodIn wsX0_newJob (wsV RX0 60 RX0 yX0_hasServer wsX0_hasServer) := goodIn_app (goodIn_of _ (by decide +kernel)) ggX0_newJob_X0_hasServer
set_option maxRecDepth 20000 in
theorem ggX0_newJob_X0_isOpen : GoodIn wsX0_newJob wsX0_isOpen := goodIn_r _ [17, 18, 19, 20, 21, 24, 25, 26, 27, 28, 29, 30, 31, 32, 33, 34, 35, 36] (by decide +kernel) (by decide +kernel)
set_option maxRecDepth 20000 in
theorem gX0_newJob_X0_isOpen : GoodIn wsX0_newJob (wsV RX0 64 RX0 yX0_isOpen wsX0_isOpen) := goodIn_app (goodIn_of _ (by decide +kernel)) ggX0_newJob_X0_isOpen
set_option maxRecDepth 20000 in
theorem ggX0_newJob_X4_put : GoodIn wsX0_newJob wsX4_put := goodIn_r _ [23] (by decide +kernel) (by decide +kernel)
set_option maxRecDepth 20000 in
theorem gX0_newJob_X4_put_n56 : GoodIn wsX0_newJob (wsX4_put) := ggX0_newJob_X4_put
set_option maxRecDepth 20000 in
theorem ggX0_newJob_X4_at : GoodIn wsX0_newJob wsX4_at := goodIn_r _ [21] (by decide +kernel) (by decide +kernel)
set_option maxRecDepth 20000 in
theorem gX0_newJob_X4_at_n67 : GoodIn wsX0_newJob (wsX4_at) := ggX0_newJob_X4_at
theorem dX0_newJob_0 : decode cX0_newJob 0 = .ok (.iload_n 1, 1) := by decide +kernel
theorem dX0_newJob_1 : decode cX0_newJob 1 = .ok (.iconst 1, 1) := by decide +kernel
theorem dX0_newJob_2 : decode cX0_newJob 2 = .ok (.if_icmp .lt 14, 3) := by decide +kernel
theorem dX0_newJob_5 : decode cX0_newJob 5 = .ok (.iload_n 1, 1) := by decide +kernel
theorem dX0_newJob_6 : decode cX0_newJob 6 = .ok (.sipush 1000, 3) := by decide +kernel
theorem dX0_newJob_9 : decode cX0_newJob 9 = .ok (.if_icmp .gt 7, 3) := by decide +kernel
theorem dX0_newJob_12 : decode cX0_newJob 12 = .ok (.iconst 1, 1) := by decide +kernel
theorem dX0_newJob_13 : decode cX0_newJob 13 = .ok (.goto 4, 3) := by decide +kernel
theorem dX0_newJob_16 : decode cX0_newJob 16 = .ok (.iconst 0, 1) := by decide +kernel
theorem dX0_newJob_17 : decode cX0_newJob 17 = .ok (.istore 4, 2) := by decide +kernel
theorem dX0_newJob_19 : decode cX0_newJob 19 = .ok (.iload_n 2, 1) := by decide +kernel
theorem dX0_newJob_20 : decode cX0_newJob 20 = .ok (.ifCond .lt 13, 3) := by decide +kernel
theorem dX0_newJob_23 : decode cX0_newJob 23 = .ok (.iload_n 2, 1) := by decide +kernel
theorem dX0_newJob_24 : decode cX0_newJob 24 = .ok (.bipush 100, 2) := by decide +kernel
theorem dX0_newJob_26 : decode cX0_newJob 26 = .ok (.if_icmp .gt 7, 3) := by decide +kernel
theorem dX0_newJob_29 : decode cX0_newJob 29 = .ok (.iconst 1, 1) := by decide +kernel
theorem dX0_newJob_30 : decode cX0_newJob 30 = .ok (.goto 4, 3) := by decide +kernel
theorem dX0_newJob_33 : decode cX0_newJob 33 = .ok (.iconst 0, 1) := by decide +kernel
theorem dX0_newJob_34 : decode cX0_newJob 34 = .ok (.istore 5, 2) := by decide +kernel
theorem dX0_newJob_36 : decode cX0_newJob 36 = .ok (.iload 4, 2) := by decide +kernel
theorem dX0_newJob_38 : decode cX0_newJob 38 = .ok (.ifCond .eq 16, 3) := by decide +kernel
theorem dX0_newJob_41 : decode cX0_newJob 41 = .ok (.iload 5, 2) := by decide +kernel
theorem dX0_newJob_43 : decode cX0_newJob 43 = .ok (.ifCond .eq 11, 3) := by decide +kernel
theorem dX0_newJob_46 : decode cX0_newJob 46 = .ok (.aload_n 0, 1) := by decide +kernel
theorem dX0_newJob_47 : decode cX0_newJob 47 = .ok (.iload_n 3, 1) := by decide +kernel
theorem dX0_newJob_48 : decode cX0_newJob 48 = .ok (.invokevirtual 60, 3) := by decide +kernel
theorem dX0_newJob_51 : decode cX0_newJob 51 = .ok (.ifCond .ne 5, 3) := by decide +kernel
theorem dX0_newJob_54 : decode cX0_newJob 54 = .ok (.iconst (-1), 1) := by decide +kernel
theorem dX0_newJob_55 : decode cX0_newJob 55 = .ok (.ireturn, 1) := by decide +kernel
theorem dX0_newJob_56 : decode cX0_newJob 56 = .ok (.aload_n 0, 1) := by decide +kernel
theorem dX0_newJob_57 : decode cX0_newJob 57 = .ok (.iload_n 3, 1) := by decide +kernel
theorem dX0_newJob_58 : decode cX0_newJob 58 = .ok (.invokevirtual 64, 3) := by decide +kernel
theorem dX0_newJob_61 : decode cX0_newJob 61 = .ok (.ifCond .ne 6, 3) := by decide +kernel
theorem dX0_newJob_64 : decode cX0_newJob 64 = .ok (.bipush (-2), 2) := by decide +kernel
theorem dX0_newJob_66 : decode cX0_newJob 66 = .ok (.ireturn, 1) := by decide +kernel
theorem dX0_newJob_67 : decode cX0_newJob 67 = .ok (.aload_n 0, 1) := by decide +kernel
theorem dX0_newJob_68 : decode cX0_newJob 68 = .ok (.getfield 37, 3) := by decide +kernel
theorem dX0_newJob_71 : decode cX0_newJob 71 = .ok (.bipush 24, 2) := by decide +kernel
theorem dX0_newJob_73 : decode cX0_newJob 73 = .ok (.if_icmp .lt 6, 3) := by decide +kernel
theorem dX0_newJob_76 : decode cX0_newJob 76 = .ok (.bipush (-3), 2) := by decide +kernel
theorem dX0_newJob_78 : decode cX0_newJob 78 = .ok (.ireturn, 1) := by decide +kernel
theorem dX0_newJob_79 : decode cX0_newJob 79 = .ok (.aload_n 0, 1) := by decide +kernel
theorem dX0_newJob_80 : decode cX0_newJob 80 = .ok (.getfield 9, 3) := by decide +kernel
theorem dX0_newJob_83 : decode cX0_newJob 83 = .ok (.aload_n 0, 1) := by decide +kernel
theorem dX0_newJob_84 : decode cX0_newJob 84 = .ok (.getfield 37, 3) := by decide +kernel
theorem dX0_newJob_87 : decode cX0_newJob 87 = .ok (.iload_n 1, 1) := by decide +kernel
theorem dX0_newJob_88 : decode cX0_newJob 88 = .ok (.invokestatic 56, 3) := by decide +kernel
theorem dX0_newJob_91 : decode cX0_newJob 91 = .ok (.aload_n 0, 1) := by decide +kernel
theorem dX0_newJob_92 : decode cX0_newJob 92 = .ok (.getfield 15, 3) := by decide +kernel
theorem dX0_newJob_95 : decode cX0_newJob 95 = .ok (.aload_n 0, 1) := by decide +kernel
theorem dX0_newJob_96 : decode cX0_newJob 96 = .ok (.getfield 37, 3) := by decide +kernel
theorem dX0_newJob_99 : decode cX0_newJob 99 = .ok (.iload_n 2, 1) := by decide +kernel
theorem dX0_newJob_100 : decode cX0_newJob 100 = .ok (.invokestatic 56, 3) := by decide +kernel
theorem dX0_newJob_103 : decode cX0_newJob 103 = .ok (.aload_n 0, 1) := by decide +kernel
theorem dX0_newJob_104 : decode cX0_newJob 104 = .ok (.getfield 18, 3) := by decide +kernel
theorem dX0_newJob_107 : decode cX0_newJob 107 = .ok (.aload_n 0, 1) := by decide +kernel
theorem dX0_newJob_108 : decode cX0_newJob 108 = .ok (.getfield 37, 3) := by decide +kernel
theorem dX0_newJob_111 : decode cX0_newJob 111 = .ok (.iload_n 3, 1) := by decide +kernel
theorem dX0_newJob_112 : decode cX0_newJob 112 = .ok (.invokestatic 56, 3) := by decide +kernel
theorem dX0_newJob_115 : decode cX0_newJob 115 = .ok (.aload_n 0, 1) := by decide +kernel
theorem dX0_newJob_116 : decode cX0_newJob 116 = .ok (.getfield 21, 3) := by decide +kernel
theorem dX0_newJob_119 : decode cX0_newJob 119 = .ok (.aload_n 0, 1) := by decide +kernel
theorem dX0_newJob_120 : decode cX0_newJob 120 = .ok (.getfield 37, 3) := by decide +kernel
theorem dX0_newJob_123 : decode cX0_newJob 123 = .ok (.iconst 0, 1) := by decide +kernel
theorem dX0_newJob_124 : decode cX0_newJob 124 = .ok (.invokestatic 56, 3) := by decide +kernel
theorem dX0_newJob_127 : decode cX0_newJob 127 = .ok (.aload_n 0, 1) := by decide +kernel
theorem dX0_newJob_128 : decode cX0_newJob 128 = .ok (.getfield 24, 3) := by decide +kernel
theorem dX0_newJob_131 : decode cX0_newJob 131 = .ok (.iload_n 3, 1) := by decide +kernel
theorem dX0_newJob_132 : decode cX0_newJob 132 = .ok (.aload_n 0, 1) := by decide +kernel
theorem dX0_newJob_133 : decode cX0_newJob 133 = .ok (.getfield 24, 3) := by decide +kernel
theorem dX0_newJob_136 : decode cX0_newJob 136 = .ok (.iload_n 3, 1) := by decide +kernel
theorem dX0_newJob_137 : decode cX0_newJob 137 = .ok (.invokestatic 67, 3) := by decide +kernel
theorem dX0_newJob_140 : decode cX0_newJob 140 = .ok (.iload_n 1, 1) := by decide +kernel
theorem dX0_newJob_141 : decode cX0_newJob 141 = .ok (.iadd, 1) := by decide +kernel
theorem dX0_newJob_142 : decode cX0_newJob 142 = .ok (.invokestatic 56, 3) := by decide +kernel
theorem dX0_newJob_145 : decode cX0_newJob 145 = .ok (.aload_n 0, 1) := by decide +kernel
theorem dX0_newJob_146 : decode cX0_newJob 146 = .ok (.dup, 1) := by decide +kernel
theorem dX0_newJob_147 : decode cX0_newJob 147 = .ok (.getfield 40, 3) := by decide +kernel
theorem dX0_newJob_150 : decode cX0_newJob 150 = .ok (.iload_n 1, 1) := by decide +kernel
theorem dX0_newJob_151 : decode cX0_newJob 151 = .ok (.iadd, 1) := by decide +kernel
theorem dX0_newJob_152 : decode cX0_newJob 152 = .ok (.putfield 40, 3) := by decide +kernel
theorem dX0_newJob_155 : decode cX0_newJob 155 = .ok (.aload_n 0, 1) := by decide +kernel
theorem dX0_newJob_156 : decode cX0_newJob 156 = .ok (.dup, 1) := by decide +kernel
theorem dX0_newJob_157 : decode cX0_newJob 157 = .ok (.getfield 37, 3) := by decide +kernel
theorem dX0_newJob_160 : decode cX0_newJob 160 = .ok (.iconst 1, 1) := by decide +kernel
theorem dX0_newJob_161 : decode cX0_newJob 161 = .ok (.iadd, 1) := by decide +kernel
theorem dX0_newJob_162 : decode cX0_newJob 162 = .ok (.putfield 37, 3) := by decide +kernel
theorem dX0_newJob_165 : decode cX0_newJob 165 = .ok (.aload_n 0, 1) := by decide +kernel
theorem dX0_newJob_166 : decode cX0_newJob 166 = .ok (.getfield 37, 3) := by decide +kernel
theorem dX0_newJob_169 : decode cX0_newJob 169 = .ok (.iconst 1, 1) := by decide +kernel
theorem dX0_newJob_170 : decode cX0_newJob 170 = .ok (.isub, 1) := by decide +kernel
theorem dX0_newJob_171 : decode cX0_newJob 171 = .ok (.ireturn, 1) := by decide +kernel
set_option maxRecDepth 20000 in
theorem ggX0_endJob_X0_hasJob : GoodIn wsX0_endJob wsX0_hasJob := goodIn_r _ [9, 10, 20, 21, 22, 23, 24, 25, 26, 27, 28, 29, 30, 31, 32] (by decide +kernel) (by decide +kernel)
set_option maxRecDepth 20000 in
theorem gX0_endJob_X0_hasJob : GoodIn wsX0_endJob (wsV RX0 71 RX0 yX0_hasJob wsX0_hasJob) := goodIn_app (goodIn_of _ (by decide +kernel)) ggX0_endJob_X0_hasJob
set_option maxRecDepth 20000 in
theorem ggX0_endJob_X0_isFinished : GoodIn wsX0_endJob wsX0_isFinished := goodIn_r _ [14, 1, 15, 16, 17, 20, 21, 22, 23, 24, 25, 26, 27, 28, 29, 30, 31, 32] (by decide +kernel) (by decide +kernel)
set_option maxRecDepth 20000 in
theorem gX0_endJob_X0_isFinished : GoodIn wsX0_endJob (wsV RX0 74 RX0 yX0_isFinished wsX0_isFinished) := goodIn_app (goodIn_of _ (by decide +kernel)) ggX0_endJob_X0_isFinished
set_option maxRecDepth 20000 in
theorem ggX0_endJob_X4_at : GoodIn wsX0_endJob wsX4_at := goodIn_r _ [17] (by decide +kernel) (by decide +kernel)
set_option maxRecDepth 20000 in
theorem gX0_endJob_X4_at_n67 : GoodIn wsX0_endJob (wsX4_at) := ggX0_endJob_X4_at
set_option maxRecDepth 20000 in
theorem ggX0_endJob_X4_put : GoodIn wsX0_endJob wsX4_put := goodIn_r _ [19] (by decide +kernel) (by decide +kernel)
set_option maxRecDepth 20000 in
theorem gX0_endJob_X4_put_n56 : GoodIn wsX0_endJob (wsX4_put) := ggX0_endJob_X4_put
theorem dX0_endJob_0 : decode cX0_endJob 0 = .ok (.aload_n 0, 1) := by decide +kernel
theorem dX0_endJob_1 : decode cX0_endJob 1 = .ok (.iload_n 1, 1) := by decide +kernel
theorem dX0_endJob_2 : decode cX0_endJob 2 = .ok (.invokevirtual 71, 3) := by decide +kernel
theorem dX0_endJob_5 : decode cX0_endJob 5 = .ok (.ifCond .ne 5, 3) := by decide +kernel
theorem dX0_endJob_8 : decode cX0_endJob 8 = .ok (.iconst (-1), 1) := by decide +kernel
theorem dX0_endJob_9 : decode cX0_endJob 9 = .ok (.ireturn, 1) := by decide +kernel
theorem dX0_endJob_10 : decode cX0_endJob 10 = .ok (.aload_n 0, 1) := by decide +kernel
theorem dX0_endJob_11 : decode cX0_endJob 11 = .ok (.iload_n 1, 1) := by decide +kernel
theorem dX0_endJob_12 : decode cX0_endJob 12 = .ok (.invokevirtual 74, 3) := by decide +kernel
theorem dX0_endJob_15 : decode cX0_endJob 15 = .ok (.ifCond .eq 6, 3) := by decide +kernel
theorem dX0_endJob_18 : decode cX0_endJob 18 = .ok (.bipush (-2), 2) := by decide +kernel
theorem dX0_endJob_20 : decode cX0_endJob 20 = .ok (.ireturn, 1) := by decide +kernel
theorem dX0_endJob_21 : decode cX0_endJob 21 = .ok (.aload_n 0, 1) := by decide +kernel
theorem dX0_endJob_22 : decode cX0_endJob 22 = .ok (.getfield 18, 3) := by decide +kernel
theorem dX0_endJob_25 : decode cX0_endJob 25 = .ok (.iload_n 1, 1) := by decide +kernel
theorem dX0_endJob_26 : decode cX0_endJob 26 = .ok (.invokestatic 67, 3) := by decide +kernel
theorem dX0_endJob_29 : decode cX0_endJob 29 = .ok (.istore_n 2, 1) := by decide +kernel
theorem dX0_endJob_30 : decode cX0_endJob 30 = .ok (.aload_n 0, 1) := by decide +kernel
theorem dX0_endJob_31 : decode cX0_endJob 31 = .ok (.getfield 24, 3) := by decide +kernel
theorem dX0_endJob_34 : decode cX0_endJob 34 = .ok (.iload_n 2, 1) := by decide +kernel
theorem dX0_endJob_35 : decode cX0_endJob 35 = .ok (.aload_n 0, 1) := by decide +kernel
theorem dX0_endJob_36 : decode cX0_endJob 36 = .ok (.getfield 24, 3) := by decide +kernel
theorem dX0_endJob_39 : decode cX0_endJob 39 = .ok (.iload_n 2, 1) := by decide +kernel
theorem dX0_endJob_40 : decode cX0_endJob 40 = .ok (.invokestatic 67, 3) := by decide +kernel
theorem dX0_endJob_43 : decode cX0_endJob 43 = .ok (.aload_n 0, 1) := by decide +kernel
theorem dX0_endJob_44 : decode cX0_endJob 44 = .ok (.getfield 9, 3) := by decide +kernel
theorem dX0_endJob_47 : decode cX0_endJob 47 = .ok (.iload_n 1, 1) := by decide +kernel
theorem dX0_endJob_48 : decode cX0_endJob 48 = .ok (.invokestatic 67, 3) := by decide +kernel
theorem dX0_endJob_51 : decode cX0_endJob 51 = .ok (.isub, 1) := by decide +kernel
theorem dX0_endJob_52 : decode cX0_endJob 52 = .ok (.invokestatic 56, 3) := by decide +kernel
theorem dX0_endJob_55 : decode cX0_endJob 55 = .ok (.aload_n 0, 1) := by decide +kernel
theorem dX0_endJob_56 : decode cX0_endJob 56 = .ok (.dup, 1) := by decide +kernel
theorem dX0_endJob_57 : decode cX0_endJob 57 = .ok (.getfield 40, 3) := by decide +kernel
theorem dX0_endJob_60 : decode cX0_endJob 60 = .ok (.aload_n 0, 1) := by decide +kernel
theorem dX0_endJob_61 : decode cX0_endJob 61 = .ok (.getfield 9, 3) := by decide +kernel
theorem dX0_endJob_64 : decode cX0_endJob 64 = .ok (.iload_n 1, 1) := by decide +kernel
theorem dX0_endJob_65 : decode cX0_endJob 65 = .ok (.invokestatic 67, 3) := by decide +kernel
theorem dX0_endJob_68 : decode cX0_endJob 68 = .ok (.isub, 1) := by decide +kernel
theorem dX0_endJob_69 : decode cX0_endJob 69 = .ok (.putfield 40, 3) := by decide +kernel
theorem dX0_endJob_72 : decode cX0_endJob 72 = .ok (.aload_n 0, 1) := by decide +kernel
theorem dX0_endJob_73 : decode cX0_endJob 73 = .ok (.getfield 18, 3) := by decide +kernel
theorem dX0_endJob_76 : decode cX0_endJob 76 = .ok (.iload_n 1, 1) := by decide +kernel
theorem dX0_endJob_77 : decode cX0_endJob 77 = .ok (.bipush (-9), 2) := by decide +kernel
theorem dX0_endJob_79 : decode cX0_endJob 79 = .ok (.invokestatic 56, 3) := by decide +kernel
theorem dX0_endJob_82 : decode cX0_endJob 82 = .ok (.aload_n 0, 1) := by decide +kernel
theorem dX0_endJob_83 : decode cX0_endJob 83 = .ok (.getfield 24, 3) := by decide +kernel
theorem dX0_endJob_86 : decode cX0_endJob 86 = .ok (.iload_n 2, 1) := by decide +kernel
theorem dX0_endJob_87 : decode cX0_endJob 87 = .ok (.invokestatic 67, 3) := by decide +kernel
theorem dX0_endJob_90 : decode cX0_endJob 90 = .ok (.ireturn, 1) := by decide +kernel
theorem dX0_changeBudget_0 : decode cX0_changeBudget 0 = .ok (.iload_n 1, 1) := by decide +kernel
theorem dX0_changeBudget_1 : decode cX0_changeBudget 1 = .ok (.ifCond .lt 10, 3) := by decide +kernel
theorem dX0_changeBudget_4 : decode cX0_changeBudget 4 = .ok (.iload_n 1, 1) := by decide +kernel
theorem dX0_changeBudget_5 : decode cX0_changeBudget 5 = .ok (.sipush 10000, 3) := by decide +kernel
theorem dX0_changeBudget_8 : decode cX0_changeBudget 8 = .ok (.if_icmp .le 5, 3) := by decide +kernel
theorem dX0_changeBudget_11 : decode cX0_changeBudget 11 = .ok (.iconst (-1), 1) := by decide +kernel
theorem dX0_changeBudget_12 : decode cX0_changeBudget 12 = .ok (.ireturn, 1) := by decide +kernel
theorem dX0_changeBudget_13 : decode cX0_changeBudget 13 = .ok (.aload_n 0, 1) := by decide +kernel
theorem dX0_changeBudget_14 : decode cX0_changeBudget 14 = .ok (.getfield 43, 3) := by decide +kernel
theorem dX0_changeBudget_17 : decode cX0_changeBudget 17 = .ok (.istore_n 2, 1) := by decide +kernel
theorem dX0_changeBudget_18 : decode cX0_changeBudget 18 = .ok (.aload_n 0, 1) := by decide +kernel
theorem dX0_changeBudget_19 : decode cX0_changeBudget 19 = .ok (.iload_n 1, 1) := by decide +kernel
theorem dX0_changeBudget_20 : decode cX0_changeBudget 20 = .ok (.putfield 43, 3) := by decide +kernel
theorem dX0_changeBudget_23 : decode cX0_changeBudget 23 = .ok (.iload_n 2, 1) := by decide +kernel
theorem dX0_changeBudget_24 : decode cX0_changeBudget 24 = .ok (.ireturn, 1) := by decide +kernel
set_option maxRecDepth 20000 in
theorem ggX0_changeFactor_X0_target : GoodIn wsX0_changeFactor wsX0_target := goodIn_r _ [6, 1, 7, 8, 9, 5, 10, 11, 12, 13, 14, 15, 16, 17, 18, 19, 20, 21, 22, 23, 24, 25, 26, 27, 28, 29, 30, 31, 32, 33, 34, 35] (by decide +kernel) (by decide +kernel)
set_option maxRecDepth 20000 in
theorem gX0_changeFactor_X0_target : GoodIn wsX0_changeFactor (wsV RX0 77 RX0 yX0_target wsX0_target) := goodIn_app (goodIn_of _ (by decide +kernel)) ggX0_changeFactor_X0_target
theorem dX0_changeFactor_0 : decode cX0_changeFactor 0 = .ok (.iload_n 1, 1) := by decide +kernel
theorem dX0_changeFactor_1 : decode cX0_changeFactor 1 = .ok (.bipush 100, 2) := by decide +kernel
theorem dX0_changeFactor_3 : decode cX0_changeFactor 3 = .ok (.if_icmp .lt 10, 3) := by decide +kernel
theorem dX0_changeFactor_6 : decode cX0_changeFactor 6 = .ok (.iload_n 1, 1) := by decide +kernel
theorem dX0_changeFactor_7 : decode cX0_changeFactor 7 = .ok (.sipush 400, 3) := by decide +kernel
theorem dX0_changeFactor_10 : decode cX0_changeFactor 10 = .ok (.if_icmp .le 5, 3) := by decide +kernel
theorem dX0_changeFactor_13 : decode cX0_changeFactor 13 = .ok (.iconst (-1), 1) := by decide +kernel
theorem dX0_changeFactor_14 : decode cX0_changeFactor 14 = .ok (.ireturn, 1) := by decide +kernel
theorem dX0_changeFactor_15 : decode cX0_changeFactor 15 = .ok (.aload_n 0, 1) := by decide +kernel
theorem dX0_changeFactor_16 : decode cX0_changeFactor 16 = .ok (.iload_n 1, 1) := by decide +kernel
theorem dX0_changeFactor_17 : decode cX0_changeFactor 17 = .ok (.putfield 46, 3) := by decide +kernel
theorem dX0_changeFactor_20 : decode cX0_changeFactor 20 = .ok (.aload_n 0, 1) := by decide +kernel
theorem dX0_changeFactor_21 : decode cX0_changeFactor 21 = .ok (.invokevirtual 77, 3) := by decide +kernel
theorem dX0_changeFactor_24 : decode cX0_changeFactor 24 = .ok (.ireturn, 1) := by decide +kernel
set_option maxRecDepth 20000 in
theorem ggX0_moveJob_X0_hasJob : GoodIn wsX0_moveJob wsX0_hasJob := goodIn_r _ [8, 9, 49, 50, 51, 52, 53, 54, 55, 56, 57, 58, 59, 60, 61] (by decide +kernel) (by decide +kernel)
set_option maxRecDepth 20000 in
theorem gX0_moveJob_X0_hasJob : GoodIn wsX0_moveJob (wsV RX0 71 RX0 yX0_hasJob wsX0_hasJob) := goodIn_app (goodIn_of _ (by decide +kernel)) ggX0_moveJob_X0_hasJob
set_option maxRecDepth 20000 in
theorem ggX0_moveJob_X0_hasServer : GoodIn wsX0_moveJob wsX0_hasServer := goodIn_r _ [13, 14, 49, 50, 51, 52, 53, 54, 55, 56, 57, 58, 59, 60, 61] (by decide +kernel) (by decide +kernel)
set_option maxRecDepth 20000 in
theorem gX0_moveJob_X0_hasServer : GoodIn wsX0_moveJob (wsV RX0 60 RX0 yX0_hasServer wsX0_hasServer) := goodIn_app (goodIn_of _ (by decide +kernel)) ggX0_moveJob_X0_hasServer
set_option maxRecDepth 20000 in
theorem ggX0_moveJob_X0_isFinished : GoodIn wsX0_moveJob wsX0_isFinished := goodIn_r _ [18, 1, 19, 20, 21, 49, 50, 51, 52, 53, 54, 55, 56, 57, 58, 59, 60, 61] (by decide +kernel) (by decide +kernel)
set_option maxRecDepth 20000 in
theorem gX0_moveJob_X0_isFinished : GoodIn wsX0_moveJob (wsV RX0 74 RX0 yX0_isFinished wsX0_isFinished) := goodIn_app (goodIn_of _ (by decide +kernel)) ggX0_moveJob_X0_isFinished
set_option maxRecDepth 20000 in
theorem ggX0_moveJob_X4_at : GoodIn wsX0_moveJob wsX4_at := goodIn_r _ [21] (by decide +kernel) (by decide +kernel)
set_option maxRecDepth 20000 in
theorem gX0_moveJob_X4_at_n67 : GoodIn wsX0_moveJob (wsX4_at) := ggX0_moveJob_X4_at
set_option maxRecDepth 20000 in
theorem ggX0_moveJob_X0_isOpen : GoodIn wsX0_moveJob wsX0_isOpen := goodIn_r _ [25, 26, 19, 20, 21, 49, 50, 51, 52, 53, 54, 55, 56, 57, 58, 59, 60, 61] (by decide +kernel) (by decide +kernel)
set_option maxRecDepth 20000 in
theorem gX0_moveJob_X0_isOpen : GoodIn wsX0_moveJob (wsV RX0 64 RX0 yX0_isOpen wsX0_isOpen) := goodIn_app (goodIn_of _ (by decide +kernel)) ggX0_moveJob_X0_isOpen
set_option maxRecDepth 20000 in
theorem ggX0_moveJob_X0_takeTo : GoodIn wsX0_moveJob wsX0_takeTo := goodIn_r _ [30, 31, 1, 32, 33, 3, 2, 19, 20, 21, 34, 35, 36, 7, 37, 38, 39, 40, 49, 50, 51, 52, 53, 54, 55, 56, 57, 58, 59, 60, 61] (by decide +kernel) (by decide +kernel)
set_option maxRecDepth 20000 in
theorem gX0_moveJob_X0_takeTo : GoodIn wsX0_moveJob (wsV RX0 81 RX0 yX0_takeTo wsX0_takeTo) := goodIn_app (goodIn_of _ (by decide +kernel)) ggX0_moveJob_X0_takeTo
set_option maxRecDepth 20000 in
theorem ggX0_moveJob_X0_greatestLoad : GoodIn wsX0_moveJob wsX0_greatestLoad := goodIn_r _ [44, 38, 45, 46, 47, 7, 48, 14, 26, 19, 20, 21, 49, 50, 51, 52, 53, 54, 55, 56, 57, 58, 59, 60, 61] (by decide +kernel) (by decide +kernel)
set_option maxRecDepth 20000 in
theorem gX0_moveJob_X0_greatestLoad : GoodIn wsX0_moveJob (wsV RX0 85 RX0 yX0_greatestLoad wsX0_greatestLoad) := goodIn_app (goodIn_of _ (by decide +kernel)) ggX0_moveJob_X0_greatestLoad
theorem dX0_moveJob_0 : decode cX0_moveJob 0 = .ok (.aload_n 0, 1) := by decide +kernel
theorem dX0_moveJob_1 : decode cX0_moveJob 1 = .ok (.iload_n 1, 1) := by decide +kernel
theorem dX0_moveJob_2 : decode cX0_moveJob 2 = .ok (.invokevirtual 71, 3) := by decide +kernel
theorem dX0_moveJob_5 : decode cX0_moveJob 5 = .ok (.ifCond .eq 11, 3) := by decide +kernel
theorem dX0_moveJob_8 : decode cX0_moveJob 8 = .ok (.aload_n 0, 1) := by decide +kernel
theorem dX0_moveJob_9 : decode cX0_moveJob 9 = .ok (.iload_n 2, 1) := by decide +kernel
theorem dX0_moveJob_10 : decode cX0_moveJob 10 = .ok (.invokevirtual 60, 3) := by decide +kernel
theorem dX0_moveJob_13 : decode cX0_moveJob 13 = .ok (.ifCond .ne 5, 3) := by decide +kernel
theorem dX0_moveJob_16 : decode cX0_moveJob 16 = .ok (.iconst (-1), 1) := by decide +kernel
theorem dX0_moveJob_17 : decode cX0_moveJob 17 = .ok (.ireturn, 1) := by decide +kernel
theorem dX0_moveJob_18 : decode cX0_moveJob 18 = .ok (.aload_n 0, 1) := by decide +kernel
theorem dX0_moveJob_19 : decode cX0_moveJob 19 = .ok (.iload_n 1, 1) := by decide +kernel
theorem dX0_moveJob_20 : decode cX0_moveJob 20 = .ok (.invokevirtual 74, 3) := by decide +kernel
theorem dX0_moveJob_23 : decode cX0_moveJob 23 = .ok (.ifCond .ne 23, 3) := by decide +kernel
theorem dX0_moveJob_26 : decode cX0_moveJob 26 = .ok (.aload_n 0, 1) := by decide +kernel
theorem dX0_moveJob_27 : decode cX0_moveJob 27 = .ok (.getfield 18, 3) := by decide +kernel
theorem dX0_moveJob_30 : decode cX0_moveJob 30 = .ok (.iload_n 1, 1) := by decide +kernel
theorem dX0_moveJob_31 : decode cX0_moveJob 31 = .ok (.invokestatic 67, 3) := by decide +kernel
theorem dX0_moveJob_34 : decode cX0_moveJob 34 = .ok (.iload_n 2, 1) := by decide +kernel
theorem dX0_moveJob_35 : decode cX0_moveJob 35 = .ok (.if_icmp .eq 11, 3) := by decide +kernel
theorem dX0_moveJob_38 : decode cX0_moveJob 38 = .ok (.aload_n 0, 1) := by decide +kernel
theorem dX0_moveJob_39 : decode cX0_moveJob 39 = .ok (.iload_n 2, 1) := by decide +kernel
theorem dX0_moveJob_40 : decode cX0_moveJob 40 = .ok (.invokevirtual 64, 3) := by decide +kernel
theorem dX0_moveJob_43 : decode cX0_moveJob 43 = .ok (.ifCond .ne 6, 3) := by decide +kernel
theorem dX0_moveJob_46 : decode cX0_moveJob 46 = .ok (.bipush (-2), 2) := by decide +kernel
theorem dX0_moveJob_48 : decode cX0_moveJob 48 = .ok (.ireturn, 1) := by decide +kernel
theorem dX0_moveJob_49 : decode cX0_moveJob 49 = .ok (.aload_n 0, 1) := by decide +kernel
theorem dX0_moveJob_50 : decode cX0_moveJob 50 = .ok (.getfield 15, 3) := by decide +kernel
theorem dX0_moveJob_53 : decode cX0_moveJob 53 = .ok (.iload_n 1, 1) := by decide +kernel
theorem dX0_moveJob_54 : decode cX0_moveJob 54 = .ok (.invokestatic 67, 3) := by decide +kernel
theorem dX0_moveJob_57 : decode cX0_moveJob 57 = .ok (.aload_n 0, 1) := by decide +kernel
theorem dX0_moveJob_58 : decode cX0_moveJob 58 = .ok (.getfield 43, 3) := by decide +kernel
theorem dX0_moveJob_61 : decode cX0_moveJob 61 = .ok (.if_icmp .le 6, 3) := by decide +kernel
theorem dX0_moveJob_64 : decode cX0_moveJob 64 = .ok (.bipush (-2), 2) := by decide +kernel
theorem dX0_moveJob_66 : decode cX0_moveJob 66 = .ok (.ireturn, 1) := by decide +kernel
theorem dX0_moveJob_67 : decode cX0_moveJob 67 = .ok (.aload_n 0, 1) := by decide +kernel
theorem dX0_moveJob_68 : decode cX0_moveJob 68 = .ok (.iload_n 1, 1) := by decide +kernel
theorem dX0_moveJob_69 : decode cX0_moveJob 69 = .ok (.iload_n 2, 1) := by decide +kernel
theorem dX0_moveJob_70 : decode cX0_moveJob 70 = .ok (.invokevirtual 81, 3) := by decide +kernel
theorem dX0_moveJob_73 : decode cX0_moveJob 73 = .ok (.aload_n 0, 1) := by decide +kernel
theorem dX0_moveJob_74 : decode cX0_moveJob 74 = .ok (.invokevirtual 85, 3) := by decide +kernel
theorem dX0_moveJob_77 : decode cX0_moveJob 77 = .ok (.ireturn, 1) := by decide +kernel
set_option maxRecDepth 20000 in
theorem ggX0_exchangeJobs_X0_hasJob : GoodIn wsX0_exchangeJobs wsX0_hasJob := goodIn_r _ [8, 9, 45, 46, 47, 48, 49, 50, 51, 52, 53, 54, 55, 56, 57] (by decide +kernel) (by decide +kernel)
set_option maxRecDepth 20000 in
theorem gX0_exchangeJobs_X0_hasJob : GoodIn wsX0_exchangeJobs (wsV RX0 71 RX0 yX0_hasJob wsX0_hasJob) := goodIn_app (goodIn_of _ (by decide +kernel)) ggX0_exchangeJobs_X0_hasJob
set_option maxRecDepth 20000 in
theorem ggX0_exchangeJobs_X0_areApart : GoodIn wsX0_exchangeJobs wsX0_areApart := goodIn_r _ [13, 3, 14, 15, 16, 7, 17, 18, 19, 20, 45, 46, 47, 48, 49, 50, 51, 52, 53, 54, 55, 56, 57] (by decide +kernel) (by decide +kernel)
set_option maxRecDepth 20000 in
theorem gX0_exchangeJobs_X0_areApart : GoodIn wsX0_exchangeJobs (wsV RX0 88 RX0 yX0_areApart wsX0_areApart) := goodIn_app (goodIn_of _ (by decide +kernel)) ggX0_exchangeJobs_X0_areApart
set_option maxRecDepth 20000 in
theorem ggX0_exchangeJobs_X4_at : GoodIn wsX0_exchangeJobs wsX4_at := goodIn_r _ [20] (by decide +kernel) (by decide +kernel)
set_option maxRecDepth 20000 in
theorem gX0_exchangeJobs_X4_at_n67 : GoodIn wsX0_exchangeJobs (wsX4_at) := ggX0_exchangeJobs_X4_at
set_option maxRecDepth 20000 in
theorem ggX0_exchangeJobs_X0_takeTo : GoodIn wsX0_exchangeJobs wsX0_takeTo := goodIn_r _ [24, 25, 3, 26, 27, 2, 1, 18, 19, 20, 28, 29, 30, 7, 31, 32, 33, 34, 45, 46, 47, 48, 49, 50, 51, 52, 53, 54, 55, 56, 57] (by decide +kernel) (by decide +kernel)
set_option maxRecDepth 20000 in
theorem gX0_exchangeJobs_X0_takeTo : GoodIn wsX0_exchangeJobs (wsV RX0 81 RX0 yX0_takeTo wsX0_takeTo) := goodIn_app (goodIn_of _ (by decide +kernel)) ggX0_exchangeJobs_X0_takeTo
set_option maxRecDepth 20000 in
theorem ggX0_exchangeJobs_X0_greatestLoad : GoodIn wsX0_exchangeJobs wsX0_greatestLoad := goodIn_r _ [38, 32, 39, 40, 41, 7, 42, 43, 44, 18, 19, 20, 45, 46, 47, 48, 49, 50, 51, 52, 53, 54, 55, 56, 57] (by decide +kernel) (by decide +kernel)
set_option maxRecDepth 20000 in
theorem gX0_exchangeJobs_X0_greatestLoad : GoodIn wsX0_exchangeJobs (wsV RX0 85 RX0 yX0_greatestLoad wsX0_greatestLoad) := goodIn_app (goodIn_of _ (by decide +kernel)) ggX0_exchangeJobs_X0_greatestLoad
theorem dX0_exchangeJobs_0 : decode cX0_exchangeJobs 0 = .ok (.aload_n 0, 1) := by decide +kernel
theorem dX0_exchangeJobs_1 : decode cX0_exchangeJobs 1 = .ok (.iload_n 1, 1) := by decide +kernel
theorem dX0_exchangeJobs_2 : decode cX0_exchangeJobs 2 = .ok (.invokevirtual 71, 3) := by decide +kernel
theorem dX0_exchangeJobs_5 : decode cX0_exchangeJobs 5 = .ok (.ifCond .eq 16, 3) := by decide +kernel
theorem dX0_exchangeJobs_8 : decode cX0_exchangeJobs 8 = .ok (.aload_n 0, 1) := by decide +kernel
theorem dX0_exchangeJobs_9 : decode cX0_exchangeJobs 9 = .ok (.iload_n 2, 1) := by decide +kernel
theorem dX0_exchangeJobs_10 : decode cX0_exchangeJobs 10 = .ok (.invokevirtual 71, 3) := by decide +kernel
theorem dX0_exchangeJobs_13 : decode cX0_exchangeJobs 13 = .ok (.ifCond .eq 8, 3) := by decide +kernel
theorem dX0_exchangeJobs_16 : decode cX0_exchangeJobs 16 = .ok (.iload_n 1, 1) := by decide +kernel
theorem dX0_exchangeJobs_17 : decode cX0_exchangeJobs 17 = .ok (.iload_n 2, 1) := by decide +kernel
theorem dX0_exchangeJobs_18 : decode cX0_exchangeJobs 18 = .ok (.if_icmp .ne 5, 3) := by decide +kernel
theorem dX0_exchangeJobs_21 : decode cX0_exchangeJobs 21 = .ok (.iconst (-1), 1) := by decide +kernel
theorem dX0_exchangeJobs_22 : decode cX0_exchangeJobs 22 = .ok (.ireturn, 1) := by decide +kernel
theorem dX0_exchangeJobs_23 : decode cX0_exchangeJobs 23 = .ok (.aload_n 0, 1) := by decide +kernel
theorem dX0_exchangeJobs_24 : decode cX0_exchangeJobs 24 = .ok (.iload_n 1, 1) := by decide +kernel
theorem dX0_exchangeJobs_25 : decode cX0_exchangeJobs 25 = .ok (.iload_n 2, 1) := by decide +kernel
theorem dX0_exchangeJobs_26 : decode cX0_exchangeJobs 26 = .ok (.invokevirtual 88, 3) := by decide +kernel
theorem dX0_exchangeJobs_29 : decode cX0_exchangeJobs 29 = .ok (.ifCond .eq 27, 3) := by decide +kernel
theorem dX0_exchangeJobs_32 : decode cX0_exchangeJobs 32 = .ok (.aload_n 0, 1) := by decide +kernel
theorem dX0_exchangeJobs_33 : decode cX0_exchangeJobs 33 = .ok (.getfield 15, 3) := by decide +kernel
theorem dX0_exchangeJobs_36 : decode cX0_exchangeJobs 36 = .ok (.iload_n 1, 1) := by decide +kernel
theorem dX0_exchangeJobs_37 : decode cX0_exchangeJobs 37 = .ok (.invokestatic 67, 3) := by decide +kernel
theorem dX0_exchangeJobs_40 : decode cX0_exchangeJobs 40 = .ok (.aload_n 0, 1) := by decide +kernel
theorem dX0_exchangeJobs_41 : decode cX0_exchangeJobs 41 = .ok (.getfield 15, 3) := by decide +kernel
theorem dX0_exchangeJobs_44 : decode cX0_exchangeJobs 44 = .ok (.iload_n 2, 1) := by decide +kernel
theorem dX0_exchangeJobs_45 : decode cX0_exchangeJobs 45 = .ok (.invokestatic 67, 3) := by decide +kernel
theorem dX0_exchangeJobs_48 : decode cX0_exchangeJobs 48 = .ok (.iadd, 1) := by decide +kernel
theorem dX0_exchangeJobs_49 : decode cX0_exchangeJobs 49 = .ok (.aload_n 0, 1) := by decide +kernel
theorem dX0_exchangeJobs_50 : decode cX0_exchangeJobs 50 = .ok (.getfield 43, 3) := by decide +kernel
theorem dX0_exchangeJobs_53 : decode cX0_exchangeJobs 53 = .ok (.if_icmp .le 6, 3) := by decide +kernel
theorem dX0_exchangeJobs_56 : decode cX0_exchangeJobs 56 = .ok (.bipush (-2), 2) := by decide +kernel
theorem dX0_exchangeJobs_58 : decode cX0_exchangeJobs 58 = .ok (.ireturn, 1) := by decide +kernel
theorem dX0_exchangeJobs_59 : decode cX0_exchangeJobs 59 = .ok (.aload_n 0, 1) := by decide +kernel
theorem dX0_exchangeJobs_60 : decode cX0_exchangeJobs 60 = .ok (.getfield 18, 3) := by decide +kernel
theorem dX0_exchangeJobs_63 : decode cX0_exchangeJobs 63 = .ok (.iload_n 1, 1) := by decide +kernel
theorem dX0_exchangeJobs_64 : decode cX0_exchangeJobs 64 = .ok (.invokestatic 67, 3) := by decide +kernel
theorem dX0_exchangeJobs_67 : decode cX0_exchangeJobs 67 = .ok (.istore_n 3, 1) := by decide +kernel
theorem dX0_exchangeJobs_68 : decode cX0_exchangeJobs 68 = .ok (.aload_n 0, 1) := by decide +kernel
theorem dX0_exchangeJobs_69 : decode cX0_exchangeJobs 69 = .ok (.iload_n 1, 1) := by decide +kernel
theorem dX0_exchangeJobs_70 : decode cX0_exchangeJobs 70 = .ok (.aload_n 0, 1) := by decide +kernel
theorem dX0_exchangeJobs_71 : decode cX0_exchangeJobs 71 = .ok (.getfield 18, 3) := by decide +kernel
theorem dX0_exchangeJobs_74 : decode cX0_exchangeJobs 74 = .ok (.iload_n 2, 1) := by decide +kernel
theorem dX0_exchangeJobs_75 : decode cX0_exchangeJobs 75 = .ok (.invokestatic 67, 3) := by decide +kernel
theorem dX0_exchangeJobs_78 : decode cX0_exchangeJobs 78 = .ok (.invokevirtual 81, 3) := by decide +kernel
theorem dX0_exchangeJobs_81 : decode cX0_exchangeJobs 81 = .ok (.aload_n 0, 1) := by decide +kernel
theorem dX0_exchangeJobs_82 : decode cX0_exchangeJobs 82 = .ok (.iload_n 2, 1) := by decide +kernel
theorem dX0_exchangeJobs_83 : decode cX0_exchangeJobs 83 = .ok (.iload_n 3, 1) := by decide +kernel
theorem dX0_exchangeJobs_84 : decode cX0_exchangeJobs 84 = .ok (.invokevirtual 81, 3) := by decide +kernel
theorem dX0_exchangeJobs_87 : decode cX0_exchangeJobs 87 = .ok (.aload_n 0, 1) := by decide +kernel
theorem dX0_exchangeJobs_88 : decode cX0_exchangeJobs 88 = .ok (.invokevirtual 85, 3) := by decide +kernel
theorem dX0_exchangeJobs_91 : decode cX0_exchangeJobs 91 = .ok (.ireturn, 1) := by decide +kernel
set_option maxRecDepth 20000 in
theorem ggX0_moveRing_X0_hasJob : GoodIn wsX0_moveRing wsX0_hasJob := goodIn_r _ [8, 9, 45, 46, 47, 48, 49, 50, 51, 52, 53, 54, 55, 56, 57] (by decide +kernel) (by decide +kernel)
set_option maxRecDepth 20000 in
theorem gX0_moveRing_X0_hasJob : GoodIn wsX0_moveRing (wsV RX0 71 RX0 yX0_hasJob wsX0_hasJob) := goodIn_app (goodIn_of _ (by decide +kernel)) ggX0_moveRing_X0_hasJob
set_option maxRecDepth 20000 in
theorem ggX0_moveRing_X0_areApart : GoodIn wsX0_moveRing wsX0_areApart := goodIn_r _ [13, 3, 14, 15, 16, 7, 17, 18, 19, 20, 45, 46, 47, 48, 49, 50, 51, 52, 53, 54, 55, 56, 57] (by decide +kernel) (by decide +kernel)
set_option maxRecDepth 20000 in
theorem gX0_moveRing_X0_areApart : GoodIn wsX0_moveRing (wsV RX0 88 RX0 yX0_areApart wsX0_areApart) := goodIn_app (goodIn_of _ (by decide +kernel)) ggX0_moveRing_X0_areApart
set_option maxRecDepth 20000 in
theorem ggX0_moveRing_X4_at : GoodIn wsX0_moveRing wsX4_at := goodIn_r _ [20] (by decide +kernel) (by decide +kernel)
set_option maxRecDepth 20000 in
theorem gX0_moveRing_X4_at_n67 : GoodIn wsX0_moveRing (wsX4_at) := ggX0_moveRing_X4_at
set_option maxRecDepth 20000 in
theorem ggX0_moveRing_X0_takeTo : GoodIn wsX0_moveRing wsX0_takeTo := goodIn_r _ [24, 25, 3, 26, 27, 2, 1, 18, 19, 20, 28, 29, 30, 7, 31, 32, 33, 34, 45, 46, 47, 48, 49, 50, 51, 52, 53, 54, 55, 56, 57] (by decide +kernel) (by decide +kernel)
set_option maxRecDepth 20000 in
theorem gX0_moveRing_X0_takeTo : GoodIn wsX0_moveRing (wsV RX0 81 RX0 yX0_takeTo wsX0_takeTo) := goodIn_app (goodIn_of _ (by decide +kernel)) ggX0_moveRing_X0_takeTo
set_option maxRecDepth 20000 in
theorem ggX0_moveRing_X0_greatestLoad : GoodIn wsX0_moveRing wsX0_greatestLoad := goodIn_r _ [38, 32, 39, 40, 41, 7, 42, 43, 44, 18, 19, 20, 45, 46, 47, 48, 49, 50, 51, 52, 53, 54, 55, 56, 57] (by decide +kernel) (by decide +kernel)
set_option maxRecDepth 20000 in
theorem gX0_moveRing_X0_greatestLoad : GoodIn wsX0_moveRing (wsV RX0 85 RX0 yX0_greatestLoad wsX0_greatestLoad) := goodIn_app (goodIn_of _ (by decide +kernel)) ggX0_moveRing_X0_greatestLoad
theorem dX0_moveRing_0 : decode cX0_moveRing 0 = .ok (.aload_n 0, 1) := by decide +kernel
theorem dX0_moveRing_1 : decode cX0_moveRing 1 = .ok (.iload_n 1, 1) := by decide +kernel
theorem dX0_moveRing_2 : decode cX0_moveRing 2 = .ok (.invokevirtual 71, 3) := by decide +kernel
theorem dX0_moveRing_5 : decode cX0_moveRing 5 = .ok (.ifCond .eq 19, 3) := by decide +kernel
theorem dX0_moveRing_8 : decode cX0_moveRing 8 = .ok (.aload_n 0, 1) := by decide +kernel
theorem dX0_moveRing_9 : decode cX0_moveRing 9 = .ok (.iload_n 2, 1) := by decide +kernel
theorem dX0_moveRing_10 : decode cX0_moveRing 10 = .ok (.invokevirtual 71, 3) := by decide +kernel
theorem dX0_moveRing_13 : decode cX0_moveRing 13 = .ok (.ifCond .eq 11, 3) := by decide +kernel
theorem dX0_moveRing_16 : decode cX0_moveRing 16 = .ok (.aload_n 0, 1) := by decide +kernel
theorem dX0_moveRing_17 : decode cX0_moveRing 17 = .ok (.iload_n 3, 1) := by decide +kernel
theorem dX0_moveRing_18 : decode cX0_moveRing 18 = .ok (.invokevirtual 71, 3) := by decide +kernel
theorem dX0_moveRing_21 : decode cX0_moveRing 21 = .ok (.ifCond .ne 5, 3) := by decide +kernel
theorem dX0_moveRing_24 : decode cX0_moveRing 24 = .ok (.iconst (-1), 1) := by decide +kernel
theorem dX0_moveRing_25 : decode cX0_moveRing 25 = .ok (.ireturn, 1) := by decide +kernel
theorem dX0_moveRing_26 : decode cX0_moveRing 26 = .ok (.iload_n 1, 1) := by decide +kernel
theorem dX0_moveRing_27 : decode cX0_moveRing 27 = .ok (.iload_n 2, 1) := by decide +kernel
theorem dX0_moveRing_28 : decode cX0_moveRing 28 = .ok (.if_icmp .eq 13, 3) := by decide +kernel
theorem dX0_moveRing_31 : decode cX0_moveRing 31 = .ok (.iload_n 2, 1) := by decide +kernel
theorem dX0_moveRing_32 : decode cX0_moveRing 32 = .ok (.iload_n 3, 1) := by decide +kernel
theorem dX0_moveRing_33 : decode cX0_moveRing 33 = .ok (.if_icmp .eq 8, 3) := by decide +kernel
theorem dX0_moveRing_36 : decode cX0_moveRing 36 = .ok (.iload_n 3, 1) := by decide +kernel
theorem dX0_moveRing_37 : decode cX0_moveRing 37 = .ok (.iload_n 1, 1) := by decide +kernel
theorem dX0_moveRing_38 : decode cX0_moveRing 38 = .ok (.if_icmp .ne 5, 3) := by decide +kernel
theorem dX0_moveRing_41 : decode cX0_moveRing 41 = .ok (.iconst (-1), 1) := by decide +kernel
theorem dX0_moveRing_42 : decode cX0_moveRing 42 = .ok (.ireturn, 1) := by decide +kernel
theorem dX0_moveRing_43 : decode cX0_moveRing 43 = .ok (.aload_n 0, 1) := by decide +kernel
theorem dX0_moveRing_44 : decode cX0_moveRing 44 = .ok (.iload_n 1, 1) := by decide +kernel
theorem dX0_moveRing_45 : decode cX0_moveRing 45 = .ok (.iload_n 2, 1) := by decide +kernel
theorem dX0_moveRing_46 : decode cX0_moveRing 46 = .ok (.invokevirtual 88, 3) := by decide +kernel
theorem dX0_moveRing_49 : decode cX0_moveRing 49 = .ok (.ifCond .eq 21, 3) := by decide +kernel
theorem dX0_moveRing_52 : decode cX0_moveRing 52 = .ok (.aload_n 0, 1) := by decide +kernel
theorem dX0_moveRing_53 : decode cX0_moveRing 53 = .ok (.iload_n 2, 1) := by decide +kernel
theorem dX0_moveRing_54 : decode cX0_moveRing 54 = .ok (.iload_n 3, 1) := by decide +kernel
theorem dX0_moveRing_55 : decode cX0_moveRing 55 = .ok (.invokevirtual 88, 3) := by decide +kernel
theorem dX0_moveRing_58 : decode cX0_moveRing 58 = .ok (.ifCond .eq 12, 3) := by decide +kernel
theorem dX0_moveRing_61 : decode cX0_moveRing 61 = .ok (.aload_n 0, 1) := by decide +kernel
theorem dX0_moveRing_62 : decode cX0_moveRing 62 = .ok (.iload_n 3, 1) := by decide +kernel
theorem dX0_moveRing_63 : decode cX0_moveRing 63 = .ok (.iload_n 1, 1) := by decide +kernel
theorem dX0_moveRing_64 : decode cX0_moveRing 64 = .ok (.invokevirtual 88, 3) := by decide +kernel
theorem dX0_moveRing_67 : decode cX0_moveRing 67 = .ok (.ifCond .ne 6, 3) := by decide +kernel
theorem dX0_moveRing_70 : decode cX0_moveRing 70 = .ok (.bipush (-2), 2) := by decide +kernel
theorem dX0_moveRing_72 : decode cX0_moveRing 72 = .ok (.ireturn, 1) := by decide +kernel
theorem dX0_moveRing_73 : decode cX0_moveRing 73 = .ok (.aload_n 0, 1) := by decide +kernel
theorem dX0_moveRing_74 : decode cX0_moveRing 74 = .ok (.getfield 15, 3) := by decide +kernel
theorem dX0_moveRing_77 : decode cX0_moveRing 77 = .ok (.iload_n 1, 1) := by decide +kernel
theorem dX0_moveRing_78 : decode cX0_moveRing 78 = .ok (.invokestatic 67, 3) := by decide +kernel
theorem dX0_moveRing_81 : decode cX0_moveRing 81 = .ok (.aload_n 0, 1) := by decide +kernel
theorem dX0_moveRing_82 : decode cX0_moveRing 82 = .ok (.getfield 15, 3) := by decide +kernel
theorem dX0_moveRing_85 : decode cX0_moveRing 85 = .ok (.iload_n 2, 1) := by decide +kernel
theorem dX0_moveRing_86 : decode cX0_moveRing 86 = .ok (.invokestatic 67, 3) := by decide +kernel
theorem dX0_moveRing_89 : decode cX0_moveRing 89 = .ok (.iadd, 1) := by decide +kernel
theorem dX0_moveRing_90 : decode cX0_moveRing 90 = .ok (.aload_n 0, 1) := by decide +kernel
theorem dX0_moveRing_91 : decode cX0_moveRing 91 = .ok (.getfield 15, 3) := by decide +kernel
theorem dX0_moveRing_94 : decode cX0_moveRing 94 = .ok (.iload_n 3, 1) := by decide +kernel
theorem dX0_moveRing_95 : decode cX0_moveRing 95 = .ok (.invokestatic 67, 3) := by decide +kernel
theorem dX0_moveRing_98 : decode cX0_moveRing 98 = .ok (.iadd, 1) := by decide +kernel
theorem dX0_moveRing_99 : decode cX0_moveRing 99 = .ok (.aload_n 0, 1) := by decide +kernel
theorem dX0_moveRing_100 : decode cX0_moveRing 100 = .ok (.getfield 43, 3) := by decide +kernel
theorem dX0_moveRing_103 : decode cX0_moveRing 103 = .ok (.if_icmp .le 6, 3) := by decide +kernel
theorem dX0_moveRing_106 : decode cX0_moveRing 106 = .ok (.bipush (-2), 2) := by decide +kernel
theorem dX0_moveRing_108 : decode cX0_moveRing 108 = .ok (.ireturn, 1) := by decide +kernel
theorem dX0_moveRing_109 : decode cX0_moveRing 109 = .ok (.aload_n 0, 1) := by decide +kernel
theorem dX0_moveRing_110 : decode cX0_moveRing 110 = .ok (.getfield 18, 3) := by decide +kernel
theorem dX0_moveRing_113 : decode cX0_moveRing 113 = .ok (.iload_n 1, 1) := by decide +kernel
theorem dX0_moveRing_114 : decode cX0_moveRing 114 = .ok (.invokestatic 67, 3) := by decide +kernel
theorem dX0_moveRing_117 : decode cX0_moveRing 117 = .ok (.istore 4, 2) := by decide +kernel
theorem dX0_moveRing_119 : decode cX0_moveRing 119 = .ok (.aload_n 0, 1) := by decide +kernel
theorem dX0_moveRing_120 : decode cX0_moveRing 120 = .ok (.iload_n 1, 1) := by decide +kernel
theorem dX0_moveRing_121 : decode cX0_moveRing 121 = .ok (.aload_n 0, 1) := by decide +kernel
theorem dX0_moveRing_122 : decode cX0_moveRing 122 = .ok (.getfield 18, 3) := by decide +kernel
theorem dX0_moveRing_125 : decode cX0_moveRing 125 = .ok (.iload_n 2, 1) := by decide +kernel
theorem dX0_moveRing_126 : decode cX0_moveRing 126 = .ok (.invokestatic 67, 3) := by decide +kernel
theorem dX0_moveRing_129 : decode cX0_moveRing 129 = .ok (.invokevirtual 81, 3) := by decide +kernel
theorem dX0_moveRing_132 : decode cX0_moveRing 132 = .ok (.aload_n 0, 1) := by decide +kernel
theorem dX0_moveRing_133 : decode cX0_moveRing 133 = .ok (.iload_n 2, 1) := by decide +kernel
theorem dX0_moveRing_134 : decode cX0_moveRing 134 = .ok (.aload_n 0, 1) := by decide +kernel
theorem dX0_moveRing_135 : decode cX0_moveRing 135 = .ok (.getfield 18, 3) := by decide +kernel
theorem dX0_moveRing_138 : decode cX0_moveRing 138 = .ok (.iload_n 3, 1) := by decide +kernel
theorem dX0_moveRing_139 : decode cX0_moveRing 139 = .ok (.invokestatic 67, 3) := by decide +kernel
theorem dX0_moveRing_142 : decode cX0_moveRing 142 = .ok (.invokevirtual 81, 3) := by decide +kernel
theorem dX0_moveRing_145 : decode cX0_moveRing 145 = .ok (.aload_n 0, 1) := by decide +kernel
theorem dX0_moveRing_146 : decode cX0_moveRing 146 = .ok (.iload_n 3, 1) := by decide +kernel
theorem dX0_moveRing_147 : decode cX0_moveRing 147 = .ok (.iload 4, 2) := by decide +kernel
theorem dX0_moveRing_149 : decode cX0_moveRing 149 = .ok (.invokevirtual 81, 3) := by decide +kernel
theorem dX0_moveRing_152 : decode cX0_moveRing 152 = .ok (.aload_n 0, 1) := by decide +kernel
theorem dX0_moveRing_153 : decode cX0_moveRing 153 = .ok (.invokevirtual 85, 3) := by decide +kernel
theorem dX0_moveRing_156 : decode cX0_moveRing 156 = .ok (.ireturn, 1) := by decide +kernel
set_option maxRecDepth 20000 in
theorem ggX0_closeServer_X0_hasServer : GoodIn wsX0_closeServer wsX0_hasServer := goodIn_r _ [7, 8, 69, 70, 71, 72, 73, 74, 75, 76, 77, 78, 79, 80, 81] (by decide +kernel) (by decide +kernel)
set_option maxRecDepth 20000 in
theorem gX0_closeServer_X0_hasServer : GoodIn wsX0_closeServer (wsV RX0 60 RX0 yX0_hasServer wsX0_hasServer) := goodIn_app (goodIn_of _ (by decide +kernel)) ggX0_closeServer_X0_hasServer
set_option maxRecDepth 20000 in
theorem ggX0_closeServer_X0_isOpen : GoodIn wsX0_closeServer wsX0_isOpen := goodIn_r _ [12, 13, 14, 15, 16, 69, 70, 71, 72, 73, 74, 75, 76, 77, 78, 79, 80, 81] (by decide +kernel) (by decide +kernel)
set_option maxRecDepth 20000 in
theorem gX0_closeServer_X0_isOpen : GoodIn wsX0_closeServer (wsV RX0 64 RX0 yX0_isOpen wsX0_isOpen) := goodIn_app (goodIn_of _ (by decide +kernel)) ggX0_closeServer_X0_isOpen
set_option maxRecDepth 20000 in
theorem ggX0_closeServer_X0_priceOfAll : GoodIn wsX0_closeServer wsX0_priceOfAll := goodIn_r _ [20, 21, 22, 23, 14, 15, 16, 69, 70, 71, 72, 73, 74, 75, 76, 77, 78, 79, 80, 81] (by decide +kernel) (by decide +kernel)
set_option maxRecDepth 20000 in
theorem gX0_closeServer_X0_priceOfAll : GoodIn wsX0_closeServer (wsV RX0 92 RX0 yX0_priceOfAll wsX0_priceOfAll) := goodIn_app (goodIn_of _ (by decide +kernel)) ggX0_closeServer_X0_priceOfAll
set_option maxRecDepth 20000 in
theorem ggX0_closeServer_X0_closeAndEmpty : GoodIn wsX0_closeServer wsX0_closeAndEmpty := goodIn_r _ [27, 13, 1, 28, 15, 29, 30, 31, 32, 6, 33, 21, 22, 14, 16, 34, 35, 36, 37, 38, 39, 40, 41, 42, 43, 44, 45, 46, 47, 48, 49, 50, 51, 52, 53, 23, 54, 55, 56, 57, 8, 58, 59, 60, 61, 62, 63, 64, 2, 65, 66, 67, 68, 69, 70, 71, 72, 73, 74, 75, 76, 77, 78, 79, 80, 81] (by decide +kernel) (by decide +kernel)
set_option maxRecDepth 20000 in
theorem gX0_closeServer_X0_closeAndEmpty : GoodIn wsX0_closeServer (wsV RX0 96 RX0 yX0_closeAndEmpty wsX0_closeAndEmpty) := goodIn_app (goodIn_of _ (by decide +kernel)) ggX0_closeServer_X0_closeAndEmpty
theorem dX0_closeServer_0 : decode cX0_closeServer 0 = .ok (.aload_n 0, 1) := by decide +kernel
theorem dX0_closeServer_1 : decode cX0_closeServer 1 = .ok (.iload_n 1, 1) := by decide +kernel
theorem dX0_closeServer_2 : decode cX0_closeServer 2 = .ok (.invokevirtual 60, 3) := by decide +kernel
theorem dX0_closeServer_5 : decode cX0_closeServer 5 = .ok (.ifCond .ne 5, 3) := by decide +kernel
theorem dX0_closeServer_8 : decode cX0_closeServer 8 = .ok (.iconst (-1), 1) := by decide +kernel
theorem dX0_closeServer_9 : decode cX0_closeServer 9 = .ok (.ireturn, 1) := by decide +kernel
theorem dX0_closeServer_10 : decode cX0_closeServer 10 = .ok (.aload_n 0, 1) := by decide +kernel
theorem dX0_closeServer_11 : decode cX0_closeServer 11 = .ok (.iload_n 1, 1) := by decide +kernel
theorem dX0_closeServer_12 : decode cX0_closeServer 12 = .ok (.invokevirtual 64, 3) := by decide +kernel
theorem dX0_closeServer_15 : decode cX0_closeServer 15 = .ok (.ifCond .eq 23, 3) := by decide +kernel
theorem dX0_closeServer_18 : decode cX0_closeServer 18 = .ok (.aload_n 0, 1) := by decide +kernel
theorem dX0_closeServer_19 : decode cX0_closeServer 19 = .ok (.getfield 34, 3) := by decide +kernel
theorem dX0_closeServer_22 : decode cX0_closeServer 22 = .ok (.iconst 1, 1) := by decide +kernel
theorem dX0_closeServer_23 : decode cX0_closeServer 23 = .ok (.if_icmp .le 15, 3) := by decide +kernel
theorem dX0_closeServer_26 : decode cX0_closeServer 26 = .ok (.aload_n 0, 1) := by decide +kernel
theorem dX0_closeServer_27 : decode cX0_closeServer 27 = .ok (.iload_n 1, 1) := by decide +kernel
theorem dX0_closeServer_28 : decode cX0_closeServer 28 = .ok (.invokevirtual 92, 3) := by decide +kernel
theorem dX0_closeServer_31 : decode cX0_closeServer 31 = .ok (.aload_n 0, 1) := by decide +kernel
theorem dX0_closeServer_32 : decode cX0_closeServer 32 = .ok (.getfield 43, 3) := by decide +kernel
theorem dX0_closeServer_35 : decode cX0_closeServer 35 = .ok (.if_icmp .le 6, 3) := by decide +kernel
theorem dX0_closeServer_38 : decode cX0_closeServer 38 = .ok (.bipush (-2), 2) := by decide +kernel
theorem dX0_closeServer_40 : decode cX0_closeServer 40 = .ok (.ireturn, 1) := by decide +kernel
theorem dX0_closeServer_41 : decode cX0_closeServer 41 = .ok (.aload_n 0, 1) := by decide +kernel
theorem dX0_closeServer_42 : decode cX0_closeServer 42 = .ok (.iload_n 1, 1) := by decide +kernel
theorem dX0_closeServer_43 : decode cX0_closeServer 43 = .ok (.invokevirtual 96, 3) := by decide +kernel
theorem dX0_closeServer_46 : decode cX0_closeServer 46 = .ok (.ireturn, 1) := by decide +kernel
set_option maxRecDepth 20000 in
theorem ggX0_openServer_X0_hasServer : GoodIn wsX0_openServer wsX0_hasServer := goodIn_r _ [7, 8, 18, 19, 20, 21, 22, 23, 24, 25, 26, 27, 28, 29, 30] (by decide +kernel) (by decide +kernel)
set_option maxRecDepth 20000 in
theorem gX0_openServer_X0_hasServer : GoodIn wsX0_openServer (wsV RX0 60 RX0 yX0_hasServer wsX0_hasServer) := goodIn_app (goodIn_of _ (by decide +kernel)) ggX0_openServer_X0_hasServer
set_option maxRecDepth 20000 in
theorem ggX0_openServer_X0_isOpen : GoodIn wsX0_openServer wsX0_isOpen := goodIn_r _ [12, 1, 13, 14, 15, 18, 19, 20, 21, 22, 23, 24, 25, 26, 27, 28, 29, 30] (by decide +kernel) (by decide +kernel)
set_option maxRecDepth 20000 in
theorem gX0_openServer_X0_isOpen : GoodIn wsX0_openServer (wsV RX0 64 RX0 yX0_isOpen wsX0_isOpen) := goodIn_app (goodIn_of _ (by decide +kernel)) ggX0_openServer_X0_isOpen
set_option maxRecDepth 20000 in
theorem ggX0_openServer_X4_put : GoodIn wsX0_openServer wsX4_put := goodIn_r _ [17] (by decide +kernel) (by decide +kernel)
set_option maxRecDepth 20000 in
theorem gX0_openServer_X4_put_n56 : GoodIn wsX0_openServer (wsX4_put) := ggX0_openServer_X4_put
theorem dX0_openServer_0 : decode cX0_openServer 0 = .ok (.aload_n 0, 1) := by decide +kernel
theorem dX0_openServer_1 : decode cX0_openServer 1 = .ok (.iload_n 1, 1) := by decide +kernel
theorem dX0_openServer_2 : decode cX0_openServer 2 = .ok (.invokevirtual 60, 3) := by decide +kernel
theorem dX0_openServer_5 : decode cX0_openServer 5 = .ok (.ifCond .ne 5, 3) := by decide +kernel
theorem dX0_openServer_8 : decode cX0_openServer 8 = .ok (.iconst (-1), 1) := by decide +kernel
theorem dX0_openServer_9 : decode cX0_openServer 9 = .ok (.ireturn, 1) := by decide +kernel
theorem dX0_openServer_10 : decode cX0_openServer 10 = .ok (.aload_n 0, 1) := by decide +kernel
theorem dX0_openServer_11 : decode cX0_openServer 11 = .ok (.iload_n 1, 1) := by decide +kernel
theorem dX0_openServer_12 : decode cX0_openServer 12 = .ok (.invokevirtual 64, 3) := by decide +kernel
theorem dX0_openServer_15 : decode cX0_openServer 15 = .ok (.ifCond .eq 6, 3) := by decide +kernel
theorem dX0_openServer_18 : decode cX0_openServer 18 = .ok (.bipush (-2), 2) := by decide +kernel
theorem dX0_openServer_20 : decode cX0_openServer 20 = .ok (.ireturn, 1) := by decide +kernel
theorem dX0_openServer_21 : decode cX0_openServer 21 = .ok (.aload_n 0, 1) := by decide +kernel
theorem dX0_openServer_22 : decode cX0_openServer 22 = .ok (.getfield 27, 3) := by decide +kernel
theorem dX0_openServer_25 : decode cX0_openServer 25 = .ok (.iload_n 1, 1) := by decide +kernel
theorem dX0_openServer_26 : decode cX0_openServer 26 = .ok (.iconst 1, 1) := by decide +kernel
theorem dX0_openServer_27 : decode cX0_openServer 27 = .ok (.invokestatic 56, 3) := by decide +kernel
theorem dX0_openServer_30 : decode cX0_openServer 30 = .ok (.aload_n 0, 1) := by decide +kernel
theorem dX0_openServer_31 : decode cX0_openServer 31 = .ok (.dup, 1) := by decide +kernel
theorem dX0_openServer_32 : decode cX0_openServer 32 = .ok (.getfield 34, 3) := by decide +kernel
theorem dX0_openServer_35 : decode cX0_openServer 35 = .ok (.iconst 1, 1) := by decide +kernel
theorem dX0_openServer_36 : decode cX0_openServer 36 = .ok (.iadd, 1) := by decide +kernel
theorem dX0_openServer_37 : decode cX0_openServer 37 = .ok (.putfield 34, 3) := by decide +kernel
theorem dX0_openServer_40 : decode cX0_openServer 40 = .ok (.aload_n 0, 1) := by decide +kernel
theorem dX0_openServer_41 : decode cX0_openServer 41 = .ok (.getfield 34, 3) := by decide +kernel
theorem dX0_openServer_44 : decode cX0_openServer 44 = .ok (.ireturn, 1) := by decide +kernel
set_option maxRecDepth 20000 in
theorem ggX0_closeAndEmpty_X4_put : GoodIn wsX0_closeAndEmpty wsX4_put := goodIn_r _ [5] (by decide +kernel) (by decide +kernel)
set_option maxRecDepth 20000 in
theorem gX0_closeAndEmpty_X4_put_n56 : GoodIn wsX0_closeAndEmpty (wsX4_put) := ggX0_closeAndEmpty_X4_put
set_option maxRecDepth 20000 in
theorem ggX0_closeAndEmpty_X0_jobsOn : GoodIn wsX0_closeAndEmpty wsX0_jobsOn := goodIn_r _ [10, 11, 12, 13, 4, 14, 53, 54, 55, 56, 57, 58, 59, 60, 61, 62, 63, 64, 65] (by decide +kernel) (by decide +kernel)
set_option maxRecDepth 20000 in
theorem gX0_closeAndEmpty_X0_jobsOn : GoodIn wsX0_closeAndEmpty (wsV RX0 99 RX0 yX0_jobsOn wsX0_jobsOn) := goodIn_app (goodIn_of _ (by decide +kernel)) ggX0_closeAndEmpty_X0_jobsOn
set_option maxRecDepth 20000 in
theorem ggX0_closeAndEmpty_J6_bitCount_0f7a4 : GoodIn wsX0_closeAndEmpty wsJ6_bitCount_0f7a4 := goodIn_r _ [18, 19, 20, 21] (by decide +kernel) (by decide +kernel)
set_option maxRecDepth 20000 in
theorem gX0_closeAndEmpty_J6_bitCount_0f7a4 : GoodIn wsX0_closeAndEmpty (va_wsS RX0 102 yJ6_bitCount_0f7a4 wsJ6_bitCount_0f7a4) := goodIn_app (goodIn_of _ (by decide +kernel)) ggX0_closeAndEmpty_J6_bitCount_0f7a4
set_option maxRecDepth 20000 in
theorem ggX0_closeAndEmpty_X0_leavingJob : GoodIn wsX0_closeAndEmpty wsX0_leavingJob := goodIn_r _ [25, 11, 12, 13, 4, 14, 26, 27, 28, 9, 29, 30, 31, 32, 33, 34, 35, 53, 54, 55, 56, 57, 58, 59, 60, 61, 62, 63, 64, 65] (by decide +kernel) (by decide +kernel)
set_option maxRecDepth 20000 in
theorem gX0_closeAndEmpty_X0_leavingJob : GoodIn wsX0_closeAndEmpty (wsV RX0 107 RX0 yX0_leavingJob wsX0_leavingJob) := goodIn_app (goodIn_of _ (by decide +kernel)) ggX0_closeAndEmpty_X0_leavingJob
set_option maxRecDepth 20000 in
theorem ggX0_closeAndEmpty_X0_emptiestServer : GoodIn wsX0_closeAndEmpty wsX0_emptiestServer := goodIn_r _ [39, 40, 41, 1, 13, 4, 14, 53, 54, 55, 56, 57, 58, 59, 60, 61, 62, 63, 64, 65] (by decide +kernel) (by decide +kernel)
set_option maxRecDepth 20000 in
theorem gX0_closeAndEmpty_X0_emptiestServer : GoodIn wsX0_closeAndEmpty (wsV RX0 111 RX0 yX0_emptiestServer wsX0_emptiestServer) := goodIn_app (goodIn_of _ (by decide +kernel)) ggX0_closeAndEmpty_X0_emptiestServer
set_option maxRecDepth 20000 in
theorem ggX0_closeAndEmpty_X0_takeTo : GoodIn wsX0_closeAndEmpty wsX0_takeTo := goodIn_r _ [45, 34, 12, 46, 47, 48, 35, 13, 4, 14, 49, 50, 51, 9, 52, 41, 3, 5, 53, 54, 55, 56, 57, 58, 59, 60, 61, 62, 63, 64, 65] (by decide +kernel) (by decide +kernel)
set_option maxRecDepth 20000 in
theorem gX0_closeAndEmpty_X0_takeTo : GoodIn wsX0_closeAndEmpty (wsV RX0 81 RX0 yX0_takeTo wsX0_takeTo) := goodIn_app (goodIn_of _ (by decide +kernel)) ggX0_closeAndEmpty_X0_takeTo
theorem dX0_closeAndEmpty_0 : decode cX0_closeAndEmpty 0 = .ok (.aload_n 0, 1) := by decide +kernel
theorem dX0_closeAndEmpty_1 : decode cX0_closeAndEmpty 1 = .ok (.getfield 27, 3) := by decide +kernel
theorem dX0_closeAndEmpty_4 : decode cX0_closeAndEmpty 4 = .ok (.iload_n 1, 1) := by decide +kernel
theorem dX0_closeAndEmpty_5 : decode cX0_closeAndEmpty 5 = .ok (.iconst 0, 1) := by decide +kernel
theorem dX0_closeAndEmpty_6 : decode cX0_closeAndEmpty 6 = .ok (.invokestatic 56, 3) := by decide +kernel
theorem dX0_closeAndEmpty_9 : decode cX0_closeAndEmpty 9 = .ok (.aload_n 0, 1) := by decide +kernel
theorem dX0_closeAndEmpty_10 : decode cX0_closeAndEmpty 10 = .ok (.dup, 1) := by decide +kernel
theorem dX0_closeAndEmpty_11 : decode cX0_closeAndEmpty 11 = .ok (.getfield 34, 3) := by decide +kernel
theorem dX0_closeAndEmpty_14 : decode cX0_closeAndEmpty 14 = .ok (.iconst 1, 1) := by decide +kernel
theorem dX0_closeAndEmpty_15 : decode cX0_closeAndEmpty 15 = .ok (.isub, 1) := by decide +kernel
theorem dX0_closeAndEmpty_16 : decode cX0_closeAndEmpty 16 = .ok (.putfield 34, 3) := by decide +kernel
theorem dX0_closeAndEmpty_19 : decode cX0_closeAndEmpty 19 = .ok (.aload_n 0, 1) := by decide +kernel
theorem dX0_closeAndEmpty_20 : decode cX0_closeAndEmpty 20 = .ok (.iload_n 1, 1) := by decide +kernel
theorem dX0_closeAndEmpty_21 : decode cX0_closeAndEmpty 21 = .ok (.invokevirtual 99, 3) := by decide +kernel
theorem dX0_closeAndEmpty_24 : decode cX0_closeAndEmpty 24 = .ok (.invokestatic 102, 3) := by decide +kernel
theorem dX0_closeAndEmpty_27 : decode cX0_closeAndEmpty 27 = .ok (.istore_n 2, 1) := by decide +kernel
theorem dX0_closeAndEmpty_28 : decode cX0_closeAndEmpty 28 = .ok (.iconst 0, 1) := by decide +kernel
theorem dX0_closeAndEmpty_29 : decode cX0_closeAndEmpty 29 = .ok (.istore_n 3, 1) := by decide +kernel
theorem dX0_closeAndEmpty_30 : decode cX0_closeAndEmpty 30 = .ok (.iload_n 3, 1) := by decide +kernel
theorem dX0_closeAndEmpty_31 : decode cX0_closeAndEmpty 31 = .ok (.iload_n 2, 1) := by decide +kernel
theorem dX0_closeAndEmpty_32 : decode cX0_closeAndEmpty 32 = .ok (.if_icmp .ge 23, 3) := by decide +kernel
theorem dX0_closeAndEmpty_35 : decode cX0_closeAndEmpty 35 = .ok (.aload_n 0, 1) := by decide +kernel
theorem dX0_closeAndEmpty_36 : decode cX0_closeAndEmpty 36 = .ok (.aload_n 0, 1) := by decide +kernel
theorem dX0_closeAndEmpty_37 : decode cX0_closeAndEmpty 37 = .ok (.iload_n 1, 1) := by decide +kernel
theorem dX0_closeAndEmpty_38 : decode cX0_closeAndEmpty 38 = .ok (.iconst 0, 1) := by decide +kernel
theorem dX0_closeAndEmpty_39 : decode cX0_closeAndEmpty 39 = .ok (.invokevirtual 107, 3) := by decide +kernel
theorem dX0_closeAndEmpty_42 : decode cX0_closeAndEmpty 42 = .ok (.aload_n 0, 1) := by decide +kernel
theorem dX0_closeAndEmpty_43 : decode cX0_closeAndEmpty 43 = .ok (.invokevirtual 111, 3) := by decide +kernel
theorem dX0_closeAndEmpty_46 : decode cX0_closeAndEmpty 46 = .ok (.invokevirtual 81, 3) := by decide +kernel
theorem dX0_closeAndEmpty_49 : decode cX0_closeAndEmpty 49 = .ok (.iinc 3 1, 3) := by decide +kernel
theorem dX0_closeAndEmpty_52 : decode cX0_closeAndEmpty 52 = .ok (.goto (-22), 3) := by decide +kernel
theorem dX0_closeAndEmpty_55 : decode cX0_closeAndEmpty 55 = .ok (.iload_n 2, 1) := by decide +kernel
theorem dX0_closeAndEmpty_56 : decode cX0_closeAndEmpty 56 = .ok (.ireturn, 1) := by decide +kernel
set_option maxRecDepth 20000 in
theorem ggX0_takeTo_X4_at : GoodIn wsX0_takeTo wsX4_at := goodIn_r _ [9] (by decide +kernel) (by decide +kernel)
set_option maxRecDepth 20000 in
theorem gX0_takeTo_X4_at_n67 : GoodIn wsX0_takeTo (wsX4_at) := ggX0_takeTo_X4_at
set_option maxRecDepth 20000 in
theorem ggX0_takeTo_X0_shiftLoad : GoodIn wsX0_takeTo wsX0_shiftLoad := goodIn_r _ [14, 15, 7, 8, 9, 16, 17, 18, 19, 20, 21, 22, 23, 24, 25, 26, 27, 28, 29, 30] (by decide +kernel) (by decide +kernel)
set_option maxRecDepth 20000 in
theorem gX0_takeTo_X0_shiftLoad : GoodIn wsX0_takeTo (wsV RX0 114 RX0 yX0_shiftLoad wsX0_shiftLoad) := goodIn_app (goodIn_of _ (by decide +kernel)) ggX0_takeTo_X0_shiftLoad
set_option maxRecDepth 20000 in
theorem ggX0_takeTo_X4_put : GoodIn wsX0_takeTo wsX4_put := goodIn_r _ [17] (by decide +kernel) (by decide +kernel)
set_option maxRecDepth 20000 in
theorem gX0_takeTo_X4_put_n56 : GoodIn wsX0_takeTo (wsX4_put) := ggX0_takeTo_X4_put
theorem dX0_takeTo_0 : decode cX0_takeTo 0 = .ok (.aload_n 0, 1) := by decide +kernel
theorem dX0_takeTo_1 : decode cX0_takeTo 1 = .ok (.aload_n 0, 1) := by decide +kernel
theorem dX0_takeTo_2 : decode cX0_takeTo 2 = .ok (.getfield 9, 3) := by decide +kernel
theorem dX0_takeTo_5 : decode cX0_takeTo 5 = .ok (.iload_n 1, 1) := by decide +kernel
theorem dX0_takeTo_6 : decode cX0_takeTo 6 = .ok (.invokestatic 67, 3) := by decide +kernel
theorem dX0_takeTo_9 : decode cX0_takeTo 9 = .ok (.aload_n 0, 1) := by decide +kernel
theorem dX0_takeTo_10 : decode cX0_takeTo 10 = .ok (.getfield 18, 3) := by decide +kernel
theorem dX0_takeTo_13 : decode cX0_takeTo 13 = .ok (.iload_n 1, 1) := by decide +kernel
theorem dX0_takeTo_14 : decode cX0_takeTo 14 = .ok (.invokestatic 67, 3) := by decide +kernel
theorem dX0_takeTo_17 : decode cX0_takeTo 17 = .ok (.iload_n 2, 1) := by decide +kernel
theorem dX0_takeTo_18 : decode cX0_takeTo 18 = .ok (.invokevirtual 114, 3) := by decide +kernel
theorem dX0_takeTo_21 : decode cX0_takeTo 21 = .ok (.aload_n 0, 1) := by decide +kernel
theorem dX0_takeTo_22 : decode cX0_takeTo 22 = .ok (.getfield 18, 3) := by decide +kernel
theorem dX0_takeTo_25 : decode cX0_takeTo 25 = .ok (.iload_n 1, 1) := by decide +kernel
theorem dX0_takeTo_26 : decode cX0_takeTo 26 = .ok (.iload_n 2, 1) := by decide +kernel
theorem dX0_takeTo_27 : decode cX0_takeTo 27 = .ok (.invokestatic 56, 3) := by decide +kernel
theorem dX0_takeTo_30 : decode cX0_takeTo 30 = .ok (.aload_n 0, 1) := by decide +kernel
theorem dX0_takeTo_31 : decode cX0_takeTo 31 = .ok (.getfield 21, 3) := by decide +kernel
theorem dX0_takeTo_34 : decode cX0_takeTo 34 = .ok (.iload_n 1, 1) := by decide +kernel
theorem dX0_takeTo_35 : decode cX0_takeTo 35 = .ok (.aload_n 0, 1) := by decide +kernel
theorem dX0_takeTo_36 : decode cX0_takeTo 36 = .ok (.getfield 21, 3) := by decide +kernel
theorem dX0_takeTo_39 : decode cX0_takeTo 39 = .ok (.iload_n 1, 1) := by decide +kernel
theorem dX0_takeTo_40 : decode cX0_takeTo 40 = .ok (.invokestatic 67, 3) := by decide +kernel
theorem dX0_takeTo_43 : decode cX0_takeTo 43 = .ok (.iconst 1, 1) := by decide +kernel
theorem dX0_takeTo_44 : decode cX0_takeTo 44 = .ok (.iadd, 1) := by decide +kernel
theorem dX0_takeTo_45 : decode cX0_takeTo 45 = .ok (.invokestatic 56, 3) := by decide +kernel
theorem dX0_takeTo_48 : decode cX0_takeTo 48 = .ok (.aload_n 0, 1) := by decide +kernel
theorem dX0_takeTo_49 : decode cX0_takeTo 49 = .ok (.dup, 1) := by decide +kernel
theorem dX0_takeTo_50 : decode cX0_takeTo 50 = .ok (.getfield 49, 3) := by decide +kernel
theorem dX0_takeTo_53 : decode cX0_takeTo 53 = .ok (.iconst 1, 1) := by decide +kernel
theorem dX0_takeTo_54 : decode cX0_takeTo 54 = .ok (.iadd, 1) := by decide +kernel
theorem dX0_takeTo_55 : decode cX0_takeTo 55 = .ok (.putfield 49, 3) := by decide +kernel
theorem dX0_takeTo_58 : decode cX0_takeTo 58 = .ok (.aload_n 0, 1) := by decide +kernel
theorem dX0_takeTo_59 : decode cX0_takeTo 59 = .ok (.dup, 1) := by decide +kernel
theorem dX0_takeTo_60 : decode cX0_takeTo 60 = .ok (.getfield 43, 3) := by decide +kernel
theorem dX0_takeTo_63 : decode cX0_takeTo 63 = .ok (.aload_n 0, 1) := by decide +kernel
theorem dX0_takeTo_64 : decode cX0_takeTo 64 = .ok (.getfield 15, 3) := by decide +kernel
theorem dX0_takeTo_67 : decode cX0_takeTo 67 = .ok (.iload_n 1, 1) := by decide +kernel
theorem dX0_takeTo_68 : decode cX0_takeTo 68 = .ok (.invokestatic 67, 3) := by decide +kernel
theorem dX0_takeTo_71 : decode cX0_takeTo 71 = .ok (.isub, 1) := by decide +kernel
theorem dX0_takeTo_72 : decode cX0_takeTo 72 = .ok (.putfield 43, 3) := by decide +kernel
theorem dX0_takeTo_75 : decode cX0_takeTo 75 = .ok (.return_, 1) := by decide +kernel
set_option maxRecDepth 20000 in
theorem ggX0_shiftLoad_X4_at : GoodIn wsX0_shiftLoad wsX4_at := goodIn_r _ [4] (by decide +kernel) (by decide +kernel)
set_option maxRecDepth 20000 in
theorem gX0_shiftLoad_X4_at_n67 : GoodIn wsX0_shiftLoad (wsX4_at) := ggX0_shiftLoad_X4_at
set_option maxRecDepth 20000 in
theorem ggX0_shiftLoad_X4_put : GoodIn wsX0_shiftLoad wsX4_put := goodIn_r _ [6] (by decide +kernel) (by decide +kernel)
set_option maxRecDepth 20000 in
theorem gX0_shiftLoad_X4_put_n56 : GoodIn wsX0_shiftLoad (wsX4_put) := ggX0_shiftLoad_X4_put
theorem dX0_shiftLoad_0 : decode cX0_shiftLoad 0 = .ok (.aload_n 0, 1) := by decide +kernel
theorem dX0_shiftLoad_1 : decode cX0_shiftLoad 1 = .ok (.getfield 24, 3) := by decide +kernel
theorem dX0_shiftLoad_4 : decode cX0_shiftLoad 4 = .ok (.iload_n 2, 1) := by decide +kernel
theorem dX0_shiftLoad_5 : decode cX0_shiftLoad 5 = .ok (.aload_n 0, 1) := by decide +kernel
theorem dX0_shiftLoad_6 : decode cX0_shiftLoad 6 = .ok (.getfield 24, 3) := by decide +kernel
theorem dX0_shiftLoad_9 : decode cX0_shiftLoad 9 = .ok (.iload_n 2, 1) := by decide +kernel
theorem dX0_shiftLoad_10 : decode cX0_shiftLoad 10 = .ok (.invokestatic 67, 3) := by decide +kernel
theorem dX0_shiftLoad_13 : decode cX0_shiftLoad 13 = .ok (.iload_n 1, 1) := by decide +kernel
theorem dX0_shiftLoad_14 : decode cX0_shiftLoad 14 = .ok (.isub, 1) := by decide +kernel
theorem dX0_shiftLoad_15 : decode cX0_shiftLoad 15 = .ok (.invokestatic 56, 3) := by decide +kernel
theorem dX0_shiftLoad_18 : decode cX0_shiftLoad 18 = .ok (.aload_n 0, 1) := by decide +kernel
theorem dX0_shiftLoad_19 : decode cX0_shiftLoad 19 = .ok (.getfield 24, 3) := by decide +kernel
theorem dX0_shiftLoad_22 : decode cX0_shiftLoad 22 = .ok (.iload_n 3, 1) := by decide +kernel
theorem dX0_shiftLoad_23 : decode cX0_shiftLoad 23 = .ok (.aload_n 0, 1) := by decide +kernel
theorem dX0_shiftLoad_24 : decode cX0_shiftLoad 24 = .ok (.getfield 24, 3) := by decide +kernel
theorem dX0_shiftLoad_27 : decode cX0_shiftLoad 27 = .ok (.iload_n 3, 1) := by decide +kernel
theorem dX0_shiftLoad_28 : decode cX0_shiftLoad 28 = .ok (.invokestatic 67, 3) := by decide +kernel
theorem dX0_shiftLoad_31 : decode cX0_shiftLoad 31 = .ok (.iload_n 1, 1) := by decide +kernel
theorem dX0_shiftLoad_32 : decode cX0_shiftLoad 32 = .ok (.iadd, 1) := by decide +kernel
theorem dX0_shiftLoad_33 : decode cX0_shiftLoad 33 = .ok (.invokestatic 56, 3) := by decide +kernel
theorem dX0_shiftLoad_36 : decode cX0_shiftLoad 36 = .ok (.return_, 1) := by decide +kernel
theorem dX0_hasServer_0 : decode cX0_hasServer 0 = .ok (.iload_n 1, 1) := by decide +kernel
theorem dX0_hasServer_1 : decode cX0_hasServer 1 = .ok (.ifCond .lt 15, 3) := by decide +kernel
theorem dX0_hasServer_4 : decode cX0_hasServer 4 = .ok (.iload_n 1, 1) := by decide +kernel
theorem dX0_hasServer_5 : decode cX0_hasServer 5 = .ok (.aload_n 0, 1) := by decide +kernel
theorem dX0_hasServer_6 : decode cX0_hasServer 6 = .ok (.getfield 30, 3) := by decide +kernel
theorem dX0_hasServer_9 : decode cX0_hasServer 9 = .ok (.if_icmp .ge 7, 3) := by decide +kernel
theorem dX0_hasServer_12 : decode cX0_hasServer 12 = .ok (.iconst 1, 1) := by decide +kernel
theorem dX0_hasServer_13 : decode cX0_hasServer 13 = .ok (.goto 4, 3) := by decide +kernel
theorem dX0_hasServer_16 : decode cX0_hasServer 16 = .ok (.iconst 0, 1) := by decide +kernel
theorem dX0_hasServer_17 : decode cX0_hasServer 17 = .ok (.ireturn, 1) := by decide +kernel
theorem dX0_hasJob_0 : decode cX0_hasJob 0 = .ok (.iload_n 1, 1) := by decide +kernel
theorem dX0_hasJob_1 : decode cX0_hasJob 1 = .ok (.ifCond .lt 15, 3) := by decide +kernel
theorem dX0_hasJob_4 : decode cX0_hasJob 4 = .ok (.iload_n 1, 1) := by decide +kernel
theorem dX0_hasJob_5 : decode cX0_hasJob 5 = .ok (.aload_n 0, 1) := by decide +kernel
theorem dX0_hasJob_6 : decode cX0_hasJob 6 = .ok (.getfield 37, 3) := by decide +kernel
theorem dX0_hasJob_9 : decode cX0_hasJob 9 = .ok (.if_icmp .ge 7, 3) := by decide +kernel
theorem dX0_hasJob_12 : decode cX0_hasJob 12 = .ok (.iconst 1, 1) := by decide +kernel
theorem dX0_hasJob_13 : decode cX0_hasJob 13 = .ok (.goto 4, 3) := by decide +kernel
theorem dX0_hasJob_16 : decode cX0_hasJob 16 = .ok (.iconst 0, 1) := by decide +kernel
theorem dX0_hasJob_17 : decode cX0_hasJob 17 = .ok (.ireturn, 1) := by decide +kernel
set_option maxRecDepth 20000 in
theorem ggX0_isOpen_X4_at : GoodIn wsX0_isOpen wsX4_at := goodIn_r _ [4] (by decide +kernel) (by decide +kernel)
set_option maxRecDepth 20000 in
theorem gX0_isOpen_X4_at_n67 : GoodIn wsX0_isOpen (wsX4_at) := ggX0_isOpen_X4_at
theorem dX0_isOpen_0 : decode cX0_isOpen 0 = .ok (.aload_n 0, 1) := by decide +kernel
theorem dX0_isOpen_1 : decode cX0_isOpen 1 = .ok (.getfield 27, 3) := by decide +kernel
theorem dX0_isOpen_4 : decode cX0_isOpen 4 = .ok (.iload_n 1, 1) := by decide +kernel
theorem dX0_isOpen_5 : decode cX0_isOpen 5 = .ok (.invokestatic 67, 3) := by decide +kernel
theorem dX0_isOpen_8 : decode cX0_isOpen 8 = .ok (.iconst 1, 1) := by decide +kernel
theorem dX0_isOpen_9 : decode cX0_isOpen 9 = .ok (.if_icmp .ne 7, 3) := by decide +kernel
theorem dX0_isOpen_12 : decode cX0_isOpen 12 = .ok (.iconst 1, 1) := by decide +kernel
theorem dX0_isOpen_13 : decode cX0_isOpen 13 = .ok (.goto 4, 3) := by decide +kernel
theorem dX0_isOpen_16 : decode cX0_isOpen 16 = .ok (.iconst 0, 1) := by decide +kernel
theorem dX0_isOpen_17 : decode cX0_isOpen 17 = .ok (.ireturn, 1) := by decide +kernel
set_option maxRecDepth 20000 in
theorem ggX0_isFinished_X4_at : GoodIn wsX0_isFinished wsX4_at := goodIn_r _ [4] (by decide +kernel) (by decide +kernel)
set_option maxRecDepth 20000 in
theorem gX0_isFinished_X4_at_n67 : GoodIn wsX0_isFinished (wsX4_at) := ggX0_isFinished_X4_at
theorem dX0_isFinished_0 : decode cX0_isFinished 0 = .ok (.aload_n 0, 1) := by decide +kernel
theorem dX0_isFinished_1 : decode cX0_isFinished 1 = .ok (.getfield 18, 3) := by decide +kernel
theorem dX0_isFinished_4 : decode cX0_isFinished 4 = .ok (.iload_n 1, 1) := by decide +kernel
theorem dX0_isFinished_5 : decode cX0_isFinished 5 = .ok (.invokestatic 67, 3) := by decide +kernel
theorem dX0_isFinished_8 : decode cX0_isFinished 8 = .ok (.bipush (-9), 2) := by decide +kernel
theorem dX0_isFinished_10 : decode cX0_isFinished 10 = .ok (.if_icmp .ne 7, 3) := by decide +kernel
theorem dX0_isFinished_13 : decode cX0_isFinished 13 = .ok (.iconst 1, 1) := by decide +kernel
theorem dX0_isFinished_14 : decode cX0_isFinished 14 = .ok (.goto 4, 3) := by decide +kernel
theorem dX0_isFinished_17 : decode cX0_isFinished 17 = .ok (.iconst 0, 1) := by decide +kernel
theorem dX0_isFinished_18 : decode cX0_isFinished 18 = .ok (.ireturn, 1) := by decide +kernel
set_option maxRecDepth 20000 in
theorem ggX0_areApart_X0_isFinished : GoodIn wsX0_areApart wsX0_isFinished := goodIn_r _ [6, 1, 7, 8, 9, 10, 11, 12, 13, 14, 15, 16, 17, 18, 19, 20, 21, 22] (by decide +kernel) (by decide +kernel)
set_option maxRecDepth 20000 in
theorem gX0_areApart_X0_isFinished : GoodIn wsX0_areApart (wsV RX0 74 RX0 yX0_isFinished wsX0_isFinished) := goodIn_app (goodIn_of _ (by decide +kernel)) ggX0_areApart_X0_isFinished
set_option maxRecDepth 20000 in
theorem ggX0_areApart_X4_at : GoodIn wsX0_areApart wsX4_at := goodIn_r _ [9] (by decide +kernel) (by decide +kernel)
set_option maxRecDepth 20000 in
theorem gX0_areApart_X4_at_n67 : GoodIn wsX0_areApart (wsX4_at) := ggX0_areApart_X4_at
theorem dX0_areApart_0 : decode cX0_areApart 0 = .ok (.aload_n 0, 1) := by decide +kernel
theorem dX0_areApart_1 : decode cX0_areApart 1 = .ok (.iload_n 1, 1) := by decide +kernel
theorem dX0_areApart_2 : decode cX0_areApart 2 = .ok (.invokevirtual 74, 3) := by decide +kernel
theorem dX0_areApart_5 : decode cX0_areApart 5 = .ok (.ifCond .ne 34, 3) := by decide +kernel
theorem dX0_areApart_8 : decode cX0_areApart 8 = .ok (.aload_n 0, 1) := by decide +kernel
theorem dX0_areApart_9 : decode cX0_areApart 9 = .ok (.iload_n 2, 1) := by decide +kernel
theorem dX0_areApart_10 : decode cX0_areApart 10 = .ok (.invokevirtual 74, 3) := by decide +kernel
theorem dX0_areApart_13 : decode cX0_areApart 13 = .ok (.ifCond .ne 26, 3) := by decide +kernel
theorem dX0_areApart_16 : decode cX0_areApart 16 = .ok (.aload_n 0, 1) := by decide +kernel
theorem dX0_areApart_17 : decode cX0_areApart 17 = .ok (.getfield 18, 3) := by decide +kernel
theorem dX0_areApart_20 : decode cX0_areApart 20 = .ok (.iload_n 1, 1) := by decide +kernel
theorem dX0_areApart_21 : decode cX0_areApart 21 = .ok (.invokestatic 67, 3) := by decide +kernel
theorem dX0_areApart_24 : decode cX0_areApart 24 = .ok (.aload_n 0, 1) := by decide +kernel
theorem dX0_areApart_25 : decode cX0_areApart 25 = .ok (.getfield 18, 3) := by decide +kernel
theorem dX0_areApart_28 : decode cX0_areApart 28 = .ok (.iload_n 2, 1) := by decide +kernel
theorem dX0_areApart_29 : decode cX0_areApart 29 = .ok (.invokestatic 67, 3) := by decide +kernel
theorem dX0_areApart_32 : decode cX0_areApart 32 = .ok (.if_icmp .eq 7, 3) := by decide +kernel
theorem dX0_areApart_35 : decode cX0_areApart 35 = .ok (.iconst 1, 1) := by decide +kernel
theorem dX0_areApart_36 : decode cX0_areApart 36 = .ok (.goto 4, 3) := by decide +kernel
theorem dX0_areApart_39 : decode cX0_areApart 39 = .ok (.iconst 0, 1) := by decide +kernel
theorem dX0_areApart_40 : decode cX0_areApart 40 = .ok (.ireturn, 1) := by decide +kernel
set_option maxRecDepth 20000 in
theorem ggX0_finishedJobs_X0_isFinished : GoodIn wsX0_finishedJobs wsX0_isFinished := goodIn_r _ [6, 7, 8, 9, 10, 11, 12, 13, 14, 15, 16, 17, 18, 19, 20, 21, 22, 23] (by decide +kernel) (by decide +kernel)
set_option maxRecDepth 20000 in
theorem gX0_finishedJobs_X0_isFinished : GoodIn wsX0_finishedJobs (wsV RX0 74 RX0 yX0_isFinished wsX0_isFinished) := goodIn_app (goodIn_of _ (by decide +kernel)) ggX0_finishedJobs_X0_isFinished
theorem dX0_finishedJobs_0 : decode cX0_finishedJobs 0 = .ok (.iconst 0, 1) := by decide +kernel
theorem dX0_finishedJobs_1 : decode cX0_finishedJobs 1 = .ok (.istore_n 1, 1) := by decide +kernel
theorem dX0_finishedJobs_2 : decode cX0_finishedJobs 2 = .ok (.iconst 0, 1) := by decide +kernel
theorem dX0_finishedJobs_3 : decode cX0_finishedJobs 3 = .ok (.istore_n 2, 1) := by decide +kernel
theorem dX0_finishedJobs_4 : decode cX0_finishedJobs 4 = .ok (.iload_n 2, 1) := by decide +kernel
theorem dX0_finishedJobs_5 : decode cX0_finishedJobs 5 = .ok (.aload_n 0, 1) := by decide +kernel
theorem dX0_finishedJobs_6 : decode cX0_finishedJobs 6 = .ok (.getfield 37, 3) := by decide +kernel
theorem dX0_finishedJobs_9 : decode cX0_finishedJobs 9 = .ok (.if_icmp .ge 20, 3) := by decide +kernel
theorem dX0_finishedJobs_12 : decode cX0_finishedJobs 12 = .ok (.aload_n 0, 1) := by decide +kernel
theorem dX0_finishedJobs_13 : decode cX0_finishedJobs 13 = .ok (.iload_n 2, 1) := by decide +kernel
theorem dX0_finishedJobs_14 : decode cX0_finishedJobs 14 = .ok (.invokevirtual 74, 3) := by decide +kernel
theorem dX0_finishedJobs_17 : decode cX0_finishedJobs 17 = .ok (.ifCond .eq 6, 3) := by decide +kernel
theorem dX0_finishedJobs_20 : decode cX0_finishedJobs 20 = .ok (.iinc 1 1, 3) := by decide +kernel
theorem dX0_finishedJobs_23 : decode cX0_finishedJobs 23 = .ok (.iinc 2 1, 3) := by decide +kernel
theorem dX0_finishedJobs_26 : decode cX0_finishedJobs 26 = .ok (.goto (-22), 3) := by decide +kernel
theorem dX0_finishedJobs_29 : decode cX0_finishedJobs 29 = .ok (.iload_n 1, 1) := by decide +kernel
theorem dX0_finishedJobs_30 : decode cX0_finishedJobs 30 = .ok (.ireturn, 1) := by decide +kernel
set_option maxRecDepth 20000 in
theorem ggX0_jobsOn_X4_at : GoodIn wsX0_jobsOn wsX4_at := goodIn_r _ [5] (by decide +kernel) (by decide +kernel)
set_option maxRecDepth 20000 in
theorem gX0_jobsOn_X4_at_n67 : GoodIn wsX0_jobsOn (wsX4_at) := ggX0_jobsOn_X4_at
theorem dX0_jobsOn_0 : decode cX0_jobsOn 0 = .ok (.iconst 0, 1) := by decide +kernel
theorem dX0_jobsOn_1 : decode cX0_jobsOn 1 = .ok (.istore_n 2, 1) := by decide +kernel
theorem dX0_jobsOn_2 : decode cX0_jobsOn 2 = .ok (.iconst 0, 1) := by decide +kernel
theorem dX0_jobsOn_3 : decode cX0_jobsOn 3 = .ok (.istore_n 3, 1) := by decide +kernel
theorem dX0_jobsOn_4 : decode cX0_jobsOn 4 = .ok (.iload_n 3, 1) := by decide +kernel
theorem dX0_jobsOn_5 : decode cX0_jobsOn 5 = .ok (.aload_n 0, 1) := by decide +kernel
theorem dX0_jobsOn_6 : decode cX0_jobsOn 6 = .ok (.getfield 37, 3) := by decide +kernel
theorem dX0_jobsOn_9 : decode cX0_jobsOn 9 = .ok (.if_icmp .ge 27, 3) := by decide +kernel
theorem dX0_jobsOn_12 : decode cX0_jobsOn 12 = .ok (.aload_n 0, 1) := by decide +kernel
theorem dX0_jobsOn_13 : decode cX0_jobsOn 13 = .ok (.getfield 18, 3) := by decide +kernel
theorem dX0_jobsOn_16 : decode cX0_jobsOn 16 = .ok (.iload_n 3, 1) := by decide +kernel
theorem dX0_jobsOn_17 : decode cX0_jobsOn 17 = .ok (.invokestatic 67, 3) := by decide +kernel
theorem dX0_jobsOn_20 : decode cX0_jobsOn 20 = .ok (.iload_n 1, 1) := by decide +kernel
theorem dX0_jobsOn_21 : decode cX0_jobsOn 21 = .ok (.if_icmp .ne 9, 3) := by decide +kernel
theorem dX0_jobsOn_24 : decode cX0_jobsOn 24 = .ok (.iload_n 2, 1) := by decide +kernel
theorem dX0_jobsOn_25 : decode cX0_jobsOn 25 = .ok (.iconst 1, 1) := by decide +kernel
theorem dX0_jobsOn_26 : decode cX0_jobsOn 26 = .ok (.iload_n 3, 1) := by decide +kernel
theorem dX0_jobsOn_27 : decode cX0_jobsOn 27 = .ok (.ishl, 1) := by decide +kernel
theorem dX0_jobsOn_28 : decode cX0_jobsOn 28 = .ok (.ior, 1) := by decide +kernel
theorem dX0_jobsOn_29 : decode cX0_jobsOn 29 = .ok (.istore_n 2, 1) := by decide +kernel
theorem dX0_jobsOn_30 : decode cX0_jobsOn 30 = .ok (.iinc 3 1, 3) := by decide +kernel
theorem dX0_jobsOn_33 : decode cX0_jobsOn 33 = .ok (.goto (-29), 3) := by decide +kernel
theorem dX0_jobsOn_36 : decode cX0_jobsOn 36 = .ok (.iload_n 2, 1) := by decide +kernel
theorem dX0_jobsOn_37 : decode cX0_jobsOn 37 = .ok (.ireturn, 1) := by decide +kernel
set_option maxRecDepth 20000 in
theorem ggX0_priceOfAll_X4_at : GoodIn wsX0_priceOfAll wsX4_at := goodIn_r _ [6] (by decide +kernel) (by decide +kernel)
set_option maxRecDepth 20000 in
theorem gX0_priceOfAll_X4_at_n67 : GoodIn wsX0_priceOfAll (wsX4_at) := ggX0_priceOfAll_X4_at
theorem dX0_priceOfAll_0 : decode cX0_priceOfAll 0 = .ok (.iconst 0, 1) := by decide +kernel
theorem dX0_priceOfAll_1 : decode cX0_priceOfAll 1 = .ok (.istore_n 2, 1) := by decide +kernel
theorem dX0_priceOfAll_2 : decode cX0_priceOfAll 2 = .ok (.iconst 0, 1) := by decide +kernel
theorem dX0_priceOfAll_3 : decode cX0_priceOfAll 3 = .ok (.istore_n 3, 1) := by decide +kernel
theorem dX0_priceOfAll_4 : decode cX0_priceOfAll 4 = .ok (.iload_n 3, 1) := by decide +kernel
theorem dX0_priceOfAll_5 : decode cX0_priceOfAll 5 = .ok (.aload_n 0, 1) := by decide +kernel
theorem dX0_priceOfAll_6 : decode cX0_priceOfAll 6 = .ok (.getfield 37, 3) := by decide +kernel
theorem dX0_priceOfAll_9 : decode cX0_priceOfAll 9 = .ok (.if_icmp .ge 32, 3) := by decide +kernel
theorem dX0_priceOfAll_12 : decode cX0_priceOfAll 12 = .ok (.aload_n 0, 1) := by decide +kernel
theorem dX0_priceOfAll_13 : decode cX0_priceOfAll 13 = .ok (.getfield 18, 3) := by decide +kernel
theorem dX0_priceOfAll_16 : decode cX0_priceOfAll 16 = .ok (.iload_n 3, 1) := by decide +kernel
theorem dX0_priceOfAll_17 : decode cX0_priceOfAll 17 = .ok (.invokestatic 67, 3) := by decide +kernel
theorem dX0_priceOfAll_20 : decode cX0_priceOfAll 20 = .ok (.iload_n 1, 1) := by decide +kernel
theorem dX0_priceOfAll_21 : decode cX0_priceOfAll 21 = .ok (.if_icmp .ne 14, 3) := by decide +kernel
theorem dX0_priceOfAll_24 : decode cX0_priceOfAll 24 = .ok (.iload_n 2, 1) := by decide +kernel
theorem dX0_priceOfAll_25 : decode cX0_priceOfAll 25 = .ok (.aload_n 0, 1) := by decide +kernel
theorem dX0_priceOfAll_26 : decode cX0_priceOfAll 26 = .ok (.getfield 15, 3) := by decide +kernel
theorem dX0_priceOfAll_29 : decode cX0_priceOfAll 29 = .ok (.iload_n 3, 1) := by decide +kernel
theorem dX0_priceOfAll_30 : decode cX0_priceOfAll 30 = .ok (.invokestatic 67, 3) := by decide +kernel
theorem dX0_priceOfAll_33 : decode cX0_priceOfAll 33 = .ok (.iadd, 1) := by decide +kernel
theorem dX0_priceOfAll_34 : decode cX0_priceOfAll 34 = .ok (.istore_n 2, 1) := by decide +kernel
theorem dX0_priceOfAll_35 : decode cX0_priceOfAll 35 = .ok (.iinc 3 1, 3) := by decide +kernel
theorem dX0_priceOfAll_38 : decode cX0_priceOfAll 38 = .ok (.goto (-34), 3) := by decide +kernel
theorem dX0_priceOfAll_41 : decode cX0_priceOfAll 41 = .ok (.iload_n 2, 1) := by decide +kernel
theorem dX0_priceOfAll_42 : decode cX0_priceOfAll 42 = .ok (.ireturn, 1) := by decide +kernel
set_option maxRecDepth 20000 in
theorem ggX0_leavingJob_X4_at : GoodIn wsX0_leavingJob wsX4_at := goodIn_r _ [5] (by decide +kernel) (by decide +kernel)
set_option maxRecDepth 20000 in
theorem gX0_leavingJob_X4_at_n67 : GoodIn wsX0_leavingJob (wsX4_at) := ggX0_leavingJob_X4_at
set_option maxRecDepth 20000 in
theorem ggX0_leavingJob_X0_jobsLeavingBefore : GoodIn wsX0_leavingJob wsX0_jobsLeavingBefore := goodIn_r _ [10, 1, 2, 3, 4, 5, 11, 12, 13, 9, 14, 15, 16, 17, 18, 19, 20, 21, 22, 23, 24, 25, 26, 27, 28, 29] (by decide +kernel) (by decide +kernel)
set_option maxRecDepth 20000 in
theorem gX0_leavingJob_X0_jobsLeavingBefore : GoodIn wsX0_leavingJob (wsV RX0 118 RX0 yX0_jobsLeavingBefore wsX0_jobsLeavingBefore) := goodIn_app (goodIn_of _ (by decide +kernel)) ggX0_leavingJob_X0_jobsLeavingBefore
theorem dX0_leavingJob_0 : decode cX0_leavingJob 0 = .ok (.iconst 0, 1) := by decide +kernel
theorem dX0_leavingJob_1 : decode cX0_leavingJob 1 = .ok (.istore_n 3, 1) := by decide +kernel
theorem dX0_leavingJob_2 : decode cX0_leavingJob 2 = .ok (.iload_n 3, 1) := by decide +kernel
theorem dX0_leavingJob_3 : decode cX0_leavingJob 3 = .ok (.aload_n 0, 1) := by decide +kernel
theorem dX0_leavingJob_4 : decode cX0_leavingJob 4 = .ok (.getfield 37, 3) := by decide +kernel
theorem dX0_leavingJob_7 : decode cX0_leavingJob 7 = .ok (.if_icmp .ge 32, 3) := by decide +kernel
theorem dX0_leavingJob_10 : decode cX0_leavingJob 10 = .ok (.aload_n 0, 1) := by decide +kernel
theorem dX0_leavingJob_11 : decode cX0_leavingJob 11 = .ok (.getfield 18, 3) := by decide +kernel
theorem dX0_leavingJob_14 : decode cX0_leavingJob 14 = .ok (.iload_n 3, 1) := by decide +kernel
theorem dX0_leavingJob_15 : decode cX0_leavingJob 15 = .ok (.invokestatic 67, 3) := by decide +kernel
theorem dX0_leavingJob_18 : decode cX0_leavingJob 18 = .ok (.iload_n 1, 1) := by decide +kernel
theorem dX0_leavingJob_19 : decode cX0_leavingJob 19 = .ok (.if_icmp .ne 14, 3) := by decide +kernel
theorem dX0_leavingJob_22 : decode cX0_leavingJob 22 = .ok (.aload_n 0, 1) := by decide +kernel
theorem dX0_leavingJob_23 : decode cX0_leavingJob 23 = .ok (.iload_n 3, 1) := by decide +kernel
theorem dX0_leavingJob_24 : decode cX0_leavingJob 24 = .ok (.invokevirtual 118, 3) := by decide +kernel
theorem dX0_leavingJob_27 : decode cX0_leavingJob 27 = .ok (.iload_n 2, 1) := by decide +kernel
theorem dX0_leavingJob_28 : decode cX0_leavingJob 28 = .ok (.if_icmp .ne 5, 3) := by decide +kernel
theorem dX0_leavingJob_31 : decode cX0_leavingJob 31 = .ok (.iload_n 3, 1) := by decide +kernel
theorem dX0_leavingJob_32 : decode cX0_leavingJob 32 = .ok (.ireturn, 1) := by decide +kernel
theorem dX0_leavingJob_33 : decode cX0_leavingJob 33 = .ok (.iinc 3 1, 3) := by decide +kernel
theorem dX0_leavingJob_36 : decode cX0_leavingJob 36 = .ok (.goto (-34), 3) := by decide +kernel
theorem dX0_leavingJob_39 : decode cX0_leavingJob 39 = .ok (.bipush (-9), 2) := by decide +kernel
theorem dX0_leavingJob_41 : decode cX0_leavingJob 41 = .ok (.ireturn, 1) := by decide +kernel
set_option maxRecDepth 20000 in
theorem ggX0_jobsLeavingBefore_X4_at : GoodIn wsX0_jobsLeavingBefore wsX4_at := goodIn_r _ [5] (by decide +kernel) (by decide +kernel)
set_option maxRecDepth 20000 in
theorem gX0_jobsLeavingBefore_X4_at_n67 : GoodIn wsX0_jobsLeavingBefore (wsX4_at) := ggX0_jobsLeavingBefore_X4_at
set_option maxRecDepth 20000 in
theorem ggX0_jobsLeavingBefore_X0_leavesBefore : GoodIn wsX0_jobsLeavingBefore wsX0_leavesBefore := goodIn_r _ [10, 11, 12, 3, 4, 5, 13, 14, 15, 16, 17, 18, 19, 20, 21, 22, 23, 24, 25] (by decide +kernel) (by decide +kernel)
set_option maxRecDepth 20000 in
theorem gX0_jobsLeavingBefore_X0_leavesBefore : GoodIn wsX0_jobsLeavingBefore (wsV RX0 121 RX0 yX0_leavesBefore wsX0_leavesBefore) := goodIn_app (goodIn_of _ (by decide +kernel)) ggX0_jobsLeavingBefore_X0_leavesBefore
theorem dX0_jobsLeavingBefore_0 : decode cX0_jobsLeavingBefore 0 = .ok (.iconst 0, 1) := by decide +kernel
theorem dX0_jobsLeavingBefore_1 : decode cX0_jobsLeavingBefore 1 = .ok (.istore_n 2, 1) := by decide +kernel
theorem dX0_jobsLeavingBefore_2 : decode cX0_jobsLeavingBefore 2 = .ok (.iconst 0, 1) := by decide +kernel
theorem dX0_jobsLeavingBefore_3 : decode cX0_jobsLeavingBefore 3 = .ok (.istore_n 3, 1) := by decide +kernel
theorem dX0_jobsLeavingBefore_4 : decode cX0_jobsLeavingBefore 4 = .ok (.iload_n 3, 1) := by decide +kernel
theorem dX0_jobsLeavingBefore_5 : decode cX0_jobsLeavingBefore 5 = .ok (.aload_n 0, 1) := by decide +kernel
theorem dX0_jobsLeavingBefore_6 : decode cX0_jobsLeavingBefore 6 = .ok (.getfield 37, 3) := by decide +kernel
theorem dX0_jobsLeavingBefore_9 : decode cX0_jobsLeavingBefore 9 = .ok (.if_icmp .ge 40, 3) := by decide +kernel
theorem dX0_jobsLeavingBefore_12 : decode cX0_jobsLeavingBefore 12 = .ok (.aload_n 0, 1) := by decide +kernel
theorem dX0_jobsLeavingBefore_13 : decode cX0_jobsLeavingBefore 13 = .ok (.getfield 18, 3) := by decide +kernel
theorem dX0_jobsLeavingBefore_16 : decode cX0_jobsLeavingBefore 16 = .ok (.iload_n 3, 1) := by decide +kernel
theorem dX0_jobsLeavingBefore_17 : decode cX0_jobsLeavingBefore 17 = .ok (.invokestatic 67, 3) := by decide +kernel
theorem dX0_jobsLeavingBefore_20 : decode cX0_jobsLeavingBefore 20 = .ok (.aload_n 0, 1) := by decide +kernel
theorem dX0_jobsLeavingBefore_21 : decode cX0_jobsLeavingBefore 21 = .ok (.getfield 18, 3) := by decide +kernel
theorem dX0_jobsLeavingBefore_24 : decode cX0_jobsLeavingBefore 24 = .ok (.iload_n 1, 1) := by decide +kernel
theorem dX0_jobsLeavingBefore_25 : decode cX0_jobsLeavingBefore 25 = .ok (.invokestatic 67, 3) := by decide +kernel
theorem dX0_jobsLeavingBefore_28 : decode cX0_jobsLeavingBefore 28 = .ok (.if_icmp .ne 15, 3) := by decide +kernel
theorem dX0_jobsLeavingBefore_31 : decode cX0_jobsLeavingBefore 31 = .ok (.aload_n 0, 1) := by decide +kernel
theorem dX0_jobsLeavingBefore_32 : decode cX0_jobsLeavingBefore 32 = .ok (.iload_n 3, 1) := by decide +kernel
theorem dX0_jobsLeavingBefore_33 : decode cX0_jobsLeavingBefore 33 = .ok (.iload_n 1, 1) := by decide +kernel
theorem dX0_jobsLeavingBefore_34 : decode cX0_jobsLeavingBefore 34 = .ok (.invokevirtual 121, 3) := by decide +kernel
theorem dX0_jobsLeavingBefore_37 : decode cX0_jobsLeavingBefore 37 = .ok (.ifCond .eq 6, 3) := by decide +kernel
theorem dX0_jobsLeavingBefore_40 : decode cX0_jobsLeavingBefore 40 = .ok (.iinc 2 1, 3) := by decide +kernel
theorem dX0_jobsLeavingBefore_43 : decode cX0_jobsLeavingBefore 43 = .ok (.iinc 3 1, 3) := by decide +kernel
theorem dX0_jobsLeavingBefore_46 : decode cX0_jobsLeavingBefore 46 = .ok (.goto (-42), 3) := by decide +kernel
theorem dX0_jobsLeavingBefore_49 : decode cX0_jobsLeavingBefore 49 = .ok (.iload_n 2, 1) := by decide +kernel
theorem dX0_jobsLeavingBefore_50 : decode cX0_jobsLeavingBefore 50 = .ok (.ireturn, 1) := by decide +kernel
set_option maxRecDepth 20000 in
theorem ggX0_leavesBefore_X4_at : GoodIn wsX0_leavesBefore wsX4_at := goodIn_r _ [5] (by decide +kernel) (by decide +kernel)
set_option maxRecDepth 20000 in
theorem gX0_leavesBefore_X4_at_n67 : GoodIn wsX0_leavesBefore (wsX4_at) := ggX0_leavesBefore_X4_at
theorem dX0_leavesBefore_0 : decode cX0_leavesBefore 0 = .ok (.aload_n 0, 1) := by decide +kernel
theorem dX0_leavesBefore_1 : decode cX0_leavesBefore 1 = .ok (.getfield 9, 3) := by decide +kernel
theorem dX0_leavesBefore_4 : decode cX0_leavesBefore 4 = .ok (.iload_n 1, 1) := by decide +kernel
theorem dX0_leavesBefore_5 : decode cX0_leavesBefore 5 = .ok (.invokestatic 67, 3) := by decide +kernel
theorem dX0_leavesBefore_8 : decode cX0_leavesBefore 8 = .ok (.aload_n 0, 1) := by decide +kernel
theorem dX0_leavesBefore_9 : decode cX0_leavesBefore 9 = .ok (.getfield 9, 3) := by decide +kernel
theorem dX0_leavesBefore_12 : decode cX0_leavesBefore 12 = .ok (.iload_n 2, 1) := by decide +kernel
theorem dX0_leavesBefore_13 : decode cX0_leavesBefore 13 = .ok (.invokestatic 67, 3) := by decide +kernel
theorem dX0_leavesBefore_16 : decode cX0_leavesBefore 16 = .ok (.if_icmp .eq 28, 3) := by decide +kernel
theorem dX0_leavesBefore_19 : decode cX0_leavesBefore 19 = .ok (.aload_n 0, 1) := by decide +kernel
theorem dX0_leavesBefore_20 : decode cX0_leavesBefore 20 = .ok (.getfield 9, 3) := by decide +kernel
theorem dX0_leavesBefore_23 : decode cX0_leavesBefore 23 = .ok (.iload_n 1, 1) := by decide +kernel
theorem dX0_leavesBefore_24 : decode cX0_leavesBefore 24 = .ok (.invokestatic 67, 3) := by decide +kernel
theorem dX0_leavesBefore_27 : decode cX0_leavesBefore 27 = .ok (.aload_n 0, 1) := by decide +kernel
theorem dX0_leavesBefore_28 : decode cX0_leavesBefore 28 = .ok (.getfield 9, 3) := by decide +kernel
theorem dX0_leavesBefore_31 : decode cX0_leavesBefore 31 = .ok (.iload_n 2, 1) := by decide +kernel
theorem dX0_leavesBefore_32 : decode cX0_leavesBefore 32 = .ok (.invokestatic 67, 3) := by decide +kernel
theorem dX0_leavesBefore_35 : decode cX0_leavesBefore 35 = .ok (.if_icmp .le 7, 3) := by decide +kernel
theorem dX0_leavesBefore_38 : decode cX0_leavesBefore 38 = .ok (.iconst 1, 1) := by decide +kernel
theorem dX0_leavesBefore_39 : decode cX0_leavesBefore 39 = .ok (.goto 4, 3) := by decide +kernel
theorem dX0_leavesBefore_42 : decode cX0_leavesBefore 42 = .ok (.iconst 0, 1) := by decide +kernel
theorem dX0_leavesBefore_43 : decode cX0_leavesBefore 43 = .ok (.ireturn, 1) := by decide +kernel
theorem dX0_leavesBefore_44 : decode cX0_leavesBefore 44 = .ok (.aload_n 0, 1) := by decide +kernel
theorem dX0_leavesBefore_45 : decode cX0_leavesBefore 45 = .ok (.getfield 15, 3) := by decide +kernel
theorem dX0_leavesBefore_48 : decode cX0_leavesBefore 48 = .ok (.iload_n 1, 1) := by decide +kernel
theorem dX0_leavesBefore_49 : decode cX0_leavesBefore 49 = .ok (.invokestatic 67, 3) := by decide +kernel
theorem dX0_leavesBefore_52 : decode cX0_leavesBefore 52 = .ok (.aload_n 0, 1) := by decide +kernel
theorem dX0_leavesBefore_53 : decode cX0_leavesBefore 53 = .ok (.getfield 15, 3) := by decide +kernel
theorem dX0_leavesBefore_56 : decode cX0_leavesBefore 56 = .ok (.iload_n 2, 1) := by decide +kernel
theorem dX0_leavesBefore_57 : decode cX0_leavesBefore 57 = .ok (.invokestatic 67, 3) := by decide +kernel
theorem dX0_leavesBefore_60 : decode cX0_leavesBefore 60 = .ok (.if_icmp .eq 28, 3) := by decide +kernel
theorem dX0_leavesBefore_63 : decode cX0_leavesBefore 63 = .ok (.aload_n 0, 1) := by decide +kernel
theorem dX0_leavesBefore_64 : decode cX0_leavesBefore 64 = .ok (.getfield 15, 3) := by decide +kernel
theorem dX0_leavesBefore_67 : decode cX0_leavesBefore 67 = .ok (.iload_n 1, 1) := by decide +kernel
theorem dX0_leavesBefore_68 : decode cX0_leavesBefore 68 = .ok (.invokestatic 67, 3) := by decide +kernel
theorem dX0_leavesBefore_71 : decode cX0_leavesBefore 71 = .ok (.aload_n 0, 1) := by decide +kernel
theorem dX0_leavesBefore_72 : decode cX0_leavesBefore 72 = .ok (.getfield 15, 3) := by decide +kernel
theorem dX0_leavesBefore_75 : decode cX0_leavesBefore 75 = .ok (.iload_n 2, 1) := by decide +kernel
theorem dX0_leavesBefore_76 : decode cX0_leavesBefore 76 = .ok (.invokestatic 67, 3) := by decide +kernel
theorem dX0_leavesBefore_79 : decode cX0_leavesBefore 79 = .ok (.if_icmp .ge 7, 3) := by decide +kernel
theorem dX0_leavesBefore_82 : decode cX0_leavesBefore 82 = .ok (.iconst 1, 1) := by decide +kernel
theorem dX0_leavesBefore_83 : decode cX0_leavesBefore 83 = .ok (.goto 4, 3) := by decide +kernel
theorem dX0_leavesBefore_86 : decode cX0_leavesBefore 86 = .ok (.iconst 0, 1) := by decide +kernel
theorem dX0_leavesBefore_87 : decode cX0_leavesBefore 87 = .ok (.ireturn, 1) := by decide +kernel
theorem dX0_leavesBefore_88 : decode cX0_leavesBefore 88 = .ok (.iload_n 1, 1) := by decide +kernel
theorem dX0_leavesBefore_89 : decode cX0_leavesBefore 89 = .ok (.iload_n 2, 1) := by decide +kernel
theorem dX0_leavesBefore_90 : decode cX0_leavesBefore 90 = .ok (.if_icmp .ge 7, 3) := by decide +kernel
theorem dX0_leavesBefore_93 : decode cX0_leavesBefore 93 = .ok (.iconst 1, 1) := by decide +kernel
theorem dX0_leavesBefore_94 : decode cX0_leavesBefore 94 = .ok (.goto 4, 3) := by decide +kernel
theorem dX0_leavesBefore_97 : decode cX0_leavesBefore 97 = .ok (.iconst 0, 1) := by decide +kernel
theorem dX0_leavesBefore_98 : decode cX0_leavesBefore 98 = .ok (.ireturn, 1) := by decide +kernel
set_option maxRecDepth 20000 in
theorem ggX0_greatestLoad_X0_fullestServer : GoodIn wsX0_greatestLoad wsX0_fullestServer := goodIn_r _ [6, 7, 1, 8, 9, 10, 11, 12, 13, 14, 15, 16, 17, 18, 19, 20, 21, 22, 23, 24] (by decide +kernel) (by decide +kernel)
set_option maxRecDepth 20000 in
theorem gX0_greatestLoad_X0_fullestServer : GoodIn wsX0_greatestLoad (wsV RX0 124 RX0 yX0_fullestServer wsX0_fullestServer) := goodIn_app (goodIn_of _ (by decide +kernel)) ggX0_greatestLoad_X0_fullestServer
set_option maxRecDepth 20000 in
theorem ggX0_greatestLoad_X4_at : GoodIn wsX0_greatestLoad wsX4_at := goodIn_r _ [11] (by decide +kernel) (by decide +kernel)
set_option maxRecDepth 20000 in
theorem gX0_greatestLoad_X4_at_n67 : GoodIn wsX0_greatestLoad (wsX4_at) := ggX0_greatestLoad_X4_at
theorem dX0_greatestLoad_0 : decode cX0_greatestLoad 0 = .ok (.aload_n 0, 1) := by decide +kernel
theorem dX0_greatestLoad_1 : decode cX0_greatestLoad 1 = .ok (.getfield 24, 3) := by decide +kernel
theorem dX0_greatestLoad_4 : decode cX0_greatestLoad 4 = .ok (.aload_n 0, 1) := by decide +kernel
theorem dX0_greatestLoad_5 : decode cX0_greatestLoad 5 = .ok (.invokevirtual 124, 3) := by decide +kernel
theorem dX0_greatestLoad_8 : decode cX0_greatestLoad 8 = .ok (.invokestatic 67, 3) := by decide +kernel
theorem dX0_greatestLoad_11 : decode cX0_greatestLoad 11 = .ok (.ireturn, 1) := by decide +kernel
set_option maxRecDepth 20000 in
theorem ggX0_fullestServer_X4_at : GoodIn wsX0_fullestServer wsX4_at := goodIn_r _ [6] (by decide +kernel) (by decide +kernel)
set_option maxRecDepth 20000 in
theorem gX0_fullestServer_X4_at_n67 : GoodIn wsX0_fullestServer (wsX4_at) := ggX0_fullestServer_X4_at
theorem dX0_fullestServer_0 : decode cX0_fullestServer 0 = .ok (.bipush (-9), 2) := by decide +kernel
theorem dX0_fullestServer_2 : decode cX0_fullestServer 2 = .ok (.istore_n 1, 1) := by decide +kernel
theorem dX0_fullestServer_3 : decode cX0_fullestServer 3 = .ok (.iconst 0, 1) := by decide +kernel
theorem dX0_fullestServer_4 : decode cX0_fullestServer 4 = .ok (.istore_n 2, 1) := by decide +kernel
theorem dX0_fullestServer_5 : decode cX0_fullestServer 5 = .ok (.iload_n 2, 1) := by decide +kernel
theorem dX0_fullestServer_6 : decode cX0_fullestServer 6 = .ok (.aload_n 0, 1) := by decide +kernel
theorem dX0_fullestServer_7 : decode cX0_fullestServer 7 = .ok (.getfield 30, 3) := by decide +kernel
theorem dX0_fullestServer_10 : decode cX0_fullestServer 10 = .ok (.if_icmp .ge 58, 3) := by decide +kernel
theorem dX0_fullestServer_13 : decode cX0_fullestServer 13 = .ok (.iload_n 1, 1) := by decide +kernel
theorem dX0_fullestServer_14 : decode cX0_fullestServer 14 = .ok (.bipush (-9), 2) := by decide +kernel
theorem dX0_fullestServer_16 : decode cX0_fullestServer 16 = .ok (.if_icmp .eq 22, 3) := by decide +kernel
theorem dX0_fullestServer_19 : decode cX0_fullestServer 19 = .ok (.aload_n 0, 1) := by decide +kernel
theorem dX0_fullestServer_20 : decode cX0_fullestServer 20 = .ok (.getfield 24, 3) := by decide +kernel
theorem dX0_fullestServer_23 : decode cX0_fullestServer 23 = .ok (.iload_n 2, 1) := by decide +kernel
theorem dX0_fullestServer_24 : decode cX0_fullestServer 24 = .ok (.invokestatic 67, 3) := by decide +kernel
theorem dX0_fullestServer_27 : decode cX0_fullestServer 27 = .ok (.aload_n 0, 1) := by decide +kernel
theorem dX0_fullestServer_28 : decode cX0_fullestServer 28 = .ok (.getfield 24, 3) := by decide +kernel
theorem dX0_fullestServer_31 : decode cX0_fullestServer 31 = .ok (.iload_n 1, 1) := by decide +kernel
theorem dX0_fullestServer_32 : decode cX0_fullestServer 32 = .ok (.invokestatic 67, 3) := by decide +kernel
theorem dX0_fullestServer_35 : decode cX0_fullestServer 35 = .ok (.if_icmp .le 7, 3) := by decide +kernel
theorem dX0_fullestServer_38 : decode cX0_fullestServer 38 = .ok (.iconst 1, 1) := by decide +kernel
theorem dX0_fullestServer_39 : decode cX0_fullestServer 39 = .ok (.goto 4, 3) := by decide +kernel
theorem dX0_fullestServer_42 : decode cX0_fullestServer 42 = .ok (.iconst 0, 1) := by decide +kernel
theorem dX0_fullestServer_43 : decode cX0_fullestServer 43 = .ok (.istore_n 3, 1) := by decide +kernel
theorem dX0_fullestServer_44 : decode cX0_fullestServer 44 = .ok (.aload_n 0, 1) := by decide +kernel
theorem dX0_fullestServer_45 : decode cX0_fullestServer 45 = .ok (.getfield 27, 3) := by decide +kernel
theorem dX0_fullestServer_48 : decode cX0_fullestServer 48 = .ok (.iload_n 2, 1) := by decide +kernel
theorem dX0_fullestServer_49 : decode cX0_fullestServer 49 = .ok (.invokestatic 67, 3) := by decide +kernel
theorem dX0_fullestServer_52 : decode cX0_fullestServer 52 = .ok (.iconst 1, 1) := by decide +kernel
theorem dX0_fullestServer_53 : decode cX0_fullestServer 53 = .ok (.if_icmp .ne 9, 3) := by decide +kernel
theorem dX0_fullestServer_56 : decode cX0_fullestServer 56 = .ok (.iload_n 3, 1) := by decide +kernel
theorem dX0_fullestServer_57 : decode cX0_fullestServer 57 = .ok (.ifCond .eq 5, 3) := by decide +kernel
theorem dX0_fullestServer_60 : decode cX0_fullestServer 60 = .ok (.iload_n 2, 1) := by decide +kernel
theorem dX0_fullestServer_61 : decode cX0_fullestServer 61 = .ok (.istore_n 1, 1) := by decide +kernel
theorem dX0_fullestServer_62 : decode cX0_fullestServer 62 = .ok (.iinc 2 1, 3) := by decide +kernel
theorem dX0_fullestServer_65 : decode cX0_fullestServer 65 = .ok (.goto (-60), 3) := by decide +kernel
theorem dX0_fullestServer_68 : decode cX0_fullestServer 68 = .ok (.iload_n 1, 1) := by decide +kernel
theorem dX0_fullestServer_69 : decode cX0_fullestServer 69 = .ok (.ireturn, 1) := by decide +kernel
set_option maxRecDepth 20000 in
theorem ggX0_emptiestServer_X4_at : GoodIn wsX0_emptiestServer wsX4_at := goodIn_r _ [6] (by decide +kernel) (by decide +kernel)
set_option maxRecDepth 20000 in
theorem gX0_emptiestServer_X4_at_n67 : GoodIn wsX0_emptiestServer (wsX4_at) := ggX0_emptiestServer_X4_at
theorem dX0_emptiestServer_0 : decode cX0_emptiestServer 0 = .ok (.bipush (-9), 2) := by decide +kernel
theorem dX0_emptiestServer_2 : decode cX0_emptiestServer 2 = .ok (.istore_n 1, 1) := by decide +kernel
theorem dX0_emptiestServer_3 : decode cX0_emptiestServer 3 = .ok (.iconst 0, 1) := by decide +kernel
theorem dX0_emptiestServer_4 : decode cX0_emptiestServer 4 = .ok (.istore_n 2, 1) := by decide +kernel
theorem dX0_emptiestServer_5 : decode cX0_emptiestServer 5 = .ok (.iload_n 2, 1) := by decide +kernel
theorem dX0_emptiestServer_6 : decode cX0_emptiestServer 6 = .ok (.aload_n 0, 1) := by decide +kernel
theorem dX0_emptiestServer_7 : decode cX0_emptiestServer 7 = .ok (.getfield 30, 3) := by decide +kernel
theorem dX0_emptiestServer_10 : decode cX0_emptiestServer 10 = .ok (.if_icmp .ge 58, 3) := by decide +kernel
theorem dX0_emptiestServer_13 : decode cX0_emptiestServer 13 = .ok (.iload_n 1, 1) := by decide +kernel
theorem dX0_emptiestServer_14 : decode cX0_emptiestServer 14 = .ok (.bipush (-9), 2) := by decide +kernel
theorem dX0_emptiestServer_16 : decode cX0_emptiestServer 16 = .ok (.if_icmp .eq 22, 3) := by decide +kernel
theorem dX0_emptiestServer_19 : decode cX0_emptiestServer 19 = .ok (.aload_n 0, 1) := by decide +kernel
theorem dX0_emptiestServer_20 : decode cX0_emptiestServer 20 = .ok (.getfield 24, 3) := by decide +kernel
theorem dX0_emptiestServer_23 : decode cX0_emptiestServer 23 = .ok (.iload_n 2, 1) := by decide +kernel
theorem dX0_emptiestServer_24 : decode cX0_emptiestServer 24 = .ok (.invokestatic 67, 3) := by decide +kernel
theorem dX0_emptiestServer_27 : decode cX0_emptiestServer 27 = .ok (.aload_n 0, 1) := by decide +kernel
theorem dX0_emptiestServer_28 : decode cX0_emptiestServer 28 = .ok (.getfield 24, 3) := by decide +kernel
theorem dX0_emptiestServer_31 : decode cX0_emptiestServer 31 = .ok (.iload_n 1, 1) := by decide +kernel
theorem dX0_emptiestServer_32 : decode cX0_emptiestServer 32 = .ok (.invokestatic 67, 3) := by decide +kernel
theorem dX0_emptiestServer_35 : decode cX0_emptiestServer 35 = .ok (.if_icmp .ge 7, 3) := by decide +kernel
theorem dX0_emptiestServer_38 : decode cX0_emptiestServer 38 = .ok (.iconst 1, 1) := by decide +kernel
theorem dX0_emptiestServer_39 : decode cX0_emptiestServer 39 = .ok (.goto 4, 3) := by decide +kernel
theorem dX0_emptiestServer_42 : decode cX0_emptiestServer 42 = .ok (.iconst 0, 1) := by decide +kernel
theorem dX0_emptiestServer_43 : decode cX0_emptiestServer 43 = .ok (.istore_n 3, 1) := by decide +kernel
theorem dX0_emptiestServer_44 : decode cX0_emptiestServer 44 = .ok (.aload_n 0, 1) := by decide +kernel
theorem dX0_emptiestServer_45 : decode cX0_emptiestServer 45 = .ok (.getfield 27, 3) := by decide +kernel
theorem dX0_emptiestServer_48 : decode cX0_emptiestServer 48 = .ok (.iload_n 2, 1) := by decide +kernel
theorem dX0_emptiestServer_49 : decode cX0_emptiestServer 49 = .ok (.invokestatic 67, 3) := by decide +kernel
theorem dX0_emptiestServer_52 : decode cX0_emptiestServer 52 = .ok (.iconst 1, 1) := by decide +kernel
theorem dX0_emptiestServer_53 : decode cX0_emptiestServer 53 = .ok (.if_icmp .ne 9, 3) := by decide +kernel
theorem dX0_emptiestServer_56 : decode cX0_emptiestServer 56 = .ok (.iload_n 3, 1) := by decide +kernel
theorem dX0_emptiestServer_57 : decode cX0_emptiestServer 57 = .ok (.ifCond .eq 5, 3) := by decide +kernel
theorem dX0_emptiestServer_60 : decode cX0_emptiestServer 60 = .ok (.iload_n 2, 1) := by decide +kernel
theorem dX0_emptiestServer_61 : decode cX0_emptiestServer 61 = .ok (.istore_n 1, 1) := by decide +kernel
theorem dX0_emptiestServer_62 : decode cX0_emptiestServer 62 = .ok (.iinc 2 1, 3) := by decide +kernel
theorem dX0_emptiestServer_65 : decode cX0_emptiestServer 65 = .ok (.goto (-60), 3) := by decide +kernel
theorem dX0_emptiestServer_68 : decode cX0_emptiestServer 68 = .ok (.iload_n 1, 1) := by decide +kernel
theorem dX0_emptiestServer_69 : decode cX0_emptiestServer 69 = .ok (.ireturn, 1) := by decide +kernel
set_option maxRecDepth 20000 in
theorem ggX0_bound_X4_at : GoodIn wsX0_bound wsX4_at := goodIn_r _ [12] (by decide +kernel) (by decide +kernel)
set_option maxRecDepth 20000 in
theorem gX0_bound_X4_at_n67 : GoodIn wsX0_bound (wsX4_at) := ggX0_bound_X4_at
theorem dX0_bound_0 : decode cX0_bound 0 = .ok (.iconst 0, 1) := by decide +kernel
theorem dX0_bound_1 : decode cX0_bound 1 = .ok (.istore_n 1, 1) := by decide +kernel
theorem dX0_bound_2 : decode cX0_bound 2 = .ok (.iconst 0, 1) := by decide +kernel
theorem dX0_bound_3 : decode cX0_bound 3 = .ok (.istore_n 2, 1) := by decide +kernel
theorem dX0_bound_4 : decode cX0_bound 4 = .ok (.iload_n 2, 1) := by decide +kernel
theorem dX0_bound_5 : decode cX0_bound 5 = .ok (.aload_n 0, 1) := by decide +kernel
theorem dX0_bound_6 : decode cX0_bound 6 = .ok (.getfield 37, 3) := by decide +kernel
theorem dX0_bound_9 : decode cX0_bound 9 = .ok (.if_icmp .ge 35, 3) := by decide +kernel
theorem dX0_bound_12 : decode cX0_bound 12 = .ok (.aload_n 0, 1) := by decide +kernel
theorem dX0_bound_13 : decode cX0_bound 13 = .ok (.getfield 18, 3) := by decide +kernel
theorem dX0_bound_16 : decode cX0_bound 16 = .ok (.iload_n 2, 1) := by decide +kernel
theorem dX0_bound_17 : decode cX0_bound 17 = .ok (.invokestatic 67, 3) := by decide +kernel
theorem dX0_bound_20 : decode cX0_bound 20 = .ok (.bipush (-9), 2) := by decide +kernel
theorem dX0_bound_22 : decode cX0_bound 22 = .ok (.if_icmp .eq 16, 3) := by decide +kernel
theorem dX0_bound_25 : decode cX0_bound 25 = .ok (.iload_n 1, 1) := by decide +kernel
theorem dX0_bound_26 : decode cX0_bound 26 = .ok (.aload_n 0, 1) := by decide +kernel
theorem dX0_bound_27 : decode cX0_bound 27 = .ok (.getfield 9, 3) := by decide +kernel
theorem dX0_bound_30 : decode cX0_bound 30 = .ok (.iload_n 2, 1) := by decide +kernel
theorem dX0_bound_31 : decode cX0_bound 31 = .ok (.invokestatic 67, 3) := by decide +kernel
theorem dX0_bound_34 : decode cX0_bound 34 = .ok (.invokestatic 127, 3) := by decide +kernel
theorem dX0_bound_37 : decode cX0_bound 37 = .ok (.istore_n 1, 1) := by decide +kernel
theorem dX0_bound_38 : decode cX0_bound 38 = .ok (.iinc 2 1, 3) := by decide +kernel
theorem dX0_bound_41 : decode cX0_bound 41 = .ok (.goto (-37), 3) := by decide +kernel
theorem dX0_bound_44 : decode cX0_bound 44 = .ok (.aload_n 0, 1) := by decide +kernel
theorem dX0_bound_45 : decode cX0_bound 45 = .ok (.getfield 34, 3) := by decide +kernel
theorem dX0_bound_48 : decode cX0_bound 48 = .ok (.ifCond .le 22, 3) := by decide +kernel
theorem dX0_bound_51 : decode cX0_bound 51 = .ok (.aload_n 0, 1) := by decide +kernel
theorem dX0_bound_52 : decode cX0_bound 52 = .ok (.getfield 40, 3) := by decide +kernel
theorem dX0_bound_55 : decode cX0_bound 55 = .ok (.aload_n 0, 1) := by decide +kernel
theorem dX0_bound_56 : decode cX0_bound 56 = .ok (.getfield 34, 3) := by decide +kernel
theorem dX0_bound_59 : decode cX0_bound 59 = .ok (.iadd, 1) := by decide +kernel
theorem dX0_bound_60 : decode cX0_bound 60 = .ok (.iconst 1, 1) := by decide +kernel
theorem dX0_bound_61 : decode cX0_bound 61 = .ok (.isub, 1) := by decide +kernel
theorem dX0_bound_62 : decode cX0_bound 62 = .ok (.aload_n 0, 1) := by decide +kernel
theorem dX0_bound_63 : decode cX0_bound 63 = .ok (.getfield 34, 3) := by decide +kernel
theorem dX0_bound_66 : decode cX0_bound 66 = .ok (.idiv, 1) := by decide +kernel
theorem dX0_bound_67 : decode cX0_bound 67 = .ok (.goto 4, 3) := by decide +kernel
theorem dX0_bound_70 : decode cX0_bound 70 = .ok (.iconst 0, 1) := by decide +kernel
theorem dX0_bound_71 : decode cX0_bound 71 = .ok (.istore_n 2, 1) := by decide +kernel
theorem dX0_bound_72 : decode cX0_bound 72 = .ok (.iload_n 2, 1) := by decide +kernel
theorem dX0_bound_73 : decode cX0_bound 73 = .ok (.iload_n 1, 1) := by decide +kernel
theorem dX0_bound_74 : decode cX0_bound 74 = .ok (.invokestatic 127, 3) := by decide +kernel
theorem dX0_bound_77 : decode cX0_bound 77 = .ok (.ireturn, 1) := by decide +kernel
set_option maxRecDepth 20000 in
theorem ggX0_target_X0_bound : GoodIn wsX0_target wsX0_bound := goodIn_r _ [6, 7, 8, 9, 10, 11, 12, 13, 14, 15, 16, 17, 18, 19, 20, 21, 22, 23, 24, 25, 26, 27, 28, 29, 30, 31] (by decide +kernel) (by decide +kernel)
set_option maxRecDepth 20000 in
theorem gX0_target_X0_bound : GoodIn wsX0_target (wsV RX0 132 RX0 yX0_bound wsX0_bound) := goodIn_app (goodIn_of _ (by decide +kernel)) ggX0_target_X0_bound
theorem dX0_target_0 : decode cX0_target 0 = .ok (.aload_n 0, 1) := by decide +kernel
theorem dX0_target_1 : decode cX0_target 1 = .ok (.invokevirtual 132, 3) := by decide +kernel
theorem dX0_target_4 : decode cX0_target 4 = .ok (.aload_n 0, 1) := by decide +kernel
theorem dX0_target_5 : decode cX0_target 5 = .ok (.getfield 46, 3) := by decide +kernel
theorem dX0_target_8 : decode cX0_target 8 = .ok (.imul, 1) := by decide +kernel
theorem dX0_target_9 : decode cX0_target 9 = .ok (.bipush 100, 2) := by decide +kernel
theorem dX0_target_11 : decode cX0_target 11 = .ok (.idiv, 1) := by decide +kernel
theorem dX0_target_12 : decode cX0_target 12 = .ok (.ireturn, 1) := by decide +kernel
set_option maxRecDepth 20000 in
theorem ggX0_isEven_X0_greatestLoad : GoodIn wsX0_isEven wsX0_greatestLoad := goodIn_r _ [5, 6, 7, 8, 9, 4, 10, 11, 12, 13, 14, 15, 34, 35, 36, 37, 38, 39, 40, 41, 42, 43, 44, 45, 46] (by decide +kernel) (by decide +kernel)
set_option maxRecDepth 20000 in
theorem gX0_isEven_X0_greatestLoad : GoodIn wsX0_isEven (wsV RX0 85 RX0 yX0_greatestLoad wsX0_greatestLoad) := goodIn_app (goodIn_of _ (by decide +kernel)) ggX0_isEven_X0_greatestLoad
set_option maxRecDepth 20000 in
theorem ggX0_isEven_X0_target : GoodIn wsX0_isEven wsX0_target := goodIn_r _ [19, 20, 21, 22, 23, 4, 24, 25, 26, 27, 28, 29, 30, 31, 32, 33, 13, 14, 15, 34, 35, 36, 37, 38, 39, 40, 41, 42, 43, 44, 45, 46] (by decide +kernel) (by decide +kernel)
set_option maxRecDepth 20000 in
theorem gX0_isEven_X0_target : GoodIn wsX0_isEven (wsV RX0 77 RX0 yX0_target wsX0_target) := goodIn_app (goodIn_of _ (by decide +kernel)) ggX0_isEven_X0_target
theorem dX0_isEven_0 : decode cX0_isEven 0 = .ok (.aload_n 0, 1) := by decide +kernel
theorem dX0_isEven_1 : decode cX0_isEven 1 = .ok (.invokevirtual 85, 3) := by decide +kernel
theorem dX0_isEven_4 : decode cX0_isEven 4 = .ok (.aload_n 0, 1) := by decide +kernel
theorem dX0_isEven_5 : decode cX0_isEven 5 = .ok (.invokevirtual 77, 3) := by decide +kernel
theorem dX0_isEven_8 : decode cX0_isEven 8 = .ok (.if_icmp .gt 7, 3) := by decide +kernel
theorem dX0_isEven_11 : decode cX0_isEven 11 = .ok (.iconst 1, 1) := by decide +kernel
theorem dX0_isEven_12 : decode cX0_isEven 12 = .ok (.goto 4, 3) := by decide +kernel
theorem dX0_isEven_15 : decode cX0_isEven 15 = .ok (.iconst 0, 1) := by decide +kernel
theorem dX0_isEven_16 : decode cX0_isEven 16 = .ok (.ireturn, 1) := by decide +kernel
set_option maxRecDepth 20000 in
theorem ggX0_serversAbove_X4_at : GoodIn wsX0_serversAbove wsX4_at := goodIn_r _ [5] (by decide +kernel) (by decide +kernel)
set_option maxRecDepth 20000 in
theorem gX0_serversAbove_X4_at_n67 : GoodIn wsX0_serversAbove (wsX4_at) := ggX0_serversAbove_X4_at
theorem dX0_serversAbove_0 : decode cX0_serversAbove 0 = .ok (.iconst 0, 1) := by decide +kernel
theorem dX0_serversAbove_1 : decode cX0_serversAbove 1 = .ok (.istore_n 2, 1) := by decide +kernel
theorem dX0_serversAbove_2 : decode cX0_serversAbove 2 = .ok (.iconst 0, 1) := by decide +kernel
theorem dX0_serversAbove_3 : decode cX0_serversAbove 3 = .ok (.istore_n 3, 1) := by decide +kernel
theorem dX0_serversAbove_4 : decode cX0_serversAbove 4 = .ok (.iload_n 3, 1) := by decide +kernel
theorem dX0_serversAbove_5 : decode cX0_serversAbove 5 = .ok (.aload_n 0, 1) := by decide +kernel
theorem dX0_serversAbove_6 : decode cX0_serversAbove 6 = .ok (.getfield 30, 3) := by decide +kernel
theorem dX0_serversAbove_9 : decode cX0_serversAbove 9 = .ok (.if_icmp .ge 24, 3) := by decide +kernel
theorem dX0_serversAbove_12 : decode cX0_serversAbove 12 = .ok (.aload_n 0, 1) := by decide +kernel
theorem dX0_serversAbove_13 : decode cX0_serversAbove 13 = .ok (.getfield 24, 3) := by decide +kernel
theorem dX0_serversAbove_16 : decode cX0_serversAbove 16 = .ok (.iload_n 3, 1) := by decide +kernel
theorem dX0_serversAbove_17 : decode cX0_serversAbove 17 = .ok (.invokestatic 67, 3) := by decide +kernel
theorem dX0_serversAbove_20 : decode cX0_serversAbove 20 = .ok (.iload_n 1, 1) := by decide +kernel
theorem dX0_serversAbove_21 : decode cX0_serversAbove 21 = .ok (.if_icmp .le 6, 3) := by decide +kernel
theorem dX0_serversAbove_24 : decode cX0_serversAbove 24 = .ok (.iinc 2 1, 3) := by decide +kernel
theorem dX0_serversAbove_27 : decode cX0_serversAbove 27 = .ok (.iinc 3 1, 3) := by decide +kernel
theorem dX0_serversAbove_30 : decode cX0_serversAbove 30 = .ok (.goto (-26), 3) := by decide +kernel
theorem dX0_serversAbove_33 : decode cX0_serversAbove 33 = .ok (.iload_n 2, 1) := by decide +kernel
theorem dX0_serversAbove_34 : decode cX0_serversAbove 34 = .ok (.ireturn, 1) := by decide +kernel
set_option maxRecDepth 20000 in
theorem ggX1_init_X0_init : GoodIn wsX1_init wsX0_init := goodIn_r _ [11, 12, 2, 3, 13, 14, 15, 16, 17, 18, 19, 20, 21, 22, 23, 24, 25, 26, 30, 31, 32, 33, 34, 35, 36, 37, 38, 39, 40, 41, 42] (by decide +kernel) (by decide +kernel)
set_option maxRecDepth 20000 in
theorem gX1_init_X0_init_n24 : GoodIn wsX1_init (wsX0_init) := ggX1_init_X0_init
theorem dX1_init_0 : decode cX1_init 0 = .ok (.aload_n 0, 1) := by decide +kernel
theorem dX1_init_1 : decode cX1_init 1 = .ok (.invokespecial 3, 3) := by decide +kernel
theorem dX1_init_4 : decode cX1_init 4 = .ok (.aload_n 0, 1) := by decide +kernel
theorem dX1_init_5 : decode cX1_init 5 = .ok (.iconst 5, 1) := by decide +kernel
theorem dX1_init_6 : decode cX1_init 6 = .ok (.anewarray 9, 3) := by decide +kernel
theorem dX1_init_9 : decode cX1_init 9 = .ok (.putfield 11, 3) := by decide +kernel
theorem dX1_init_12 : decode cX1_init 12 = .ok (.aload_n 0, 1) := by decide +kernel
theorem dX1_init_13 : decode cX1_init 13 = .ok (.iconst 0, 1) := by decide +kernel
theorem dX1_init_14 : decode cX1_init 14 = .ok (.putfield 17, 3) := by decide +kernel
theorem dX1_init_17 : decode cX1_init 17 = .ok (.aload_n 0, 1) := by decide +kernel
theorem dX1_init_18 : decode cX1_init 18 = .ok (.iconst 0, 1) := by decide +kernel
theorem dX1_init_19 : decode cX1_init 19 = .ok (.putfield 21, 3) := by decide +kernel
theorem dX1_init_22 : decode cX1_init 22 = .ok (.iconst 0, 1) := by decide +kernel
theorem dX1_init_23 : decode cX1_init 23 = .ok (.istore_n 1, 1) := by decide +kernel
theorem dX1_init_24 : decode cX1_init 24 = .ok (.iload_n 1, 1) := by decide +kernel
theorem dX1_init_25 : decode cX1_init 25 = .ok (.aload_n 0, 1) := by decide +kernel
theorem dX1_init_26 : decode cX1_init 26 = .ok (.getfield 11, 3) := by decide +kernel
theorem dX1_init_29 : decode cX1_init 29 = .ok (.arraylength, 1) := by decide +kernel
theorem dX1_init_30 : decode cX1_init 30 = .ok (.if_icmp .ge 22, 3) := by decide +kernel
theorem dX1_init_33 : decode cX1_init 33 = .ok (.aload_n 0, 1) := by decide +kernel
theorem dX1_init_34 : decode cX1_init 34 = .ok (.getfield 11, 3) := by decide +kernel
theorem dX1_init_37 : decode cX1_init 37 = .ok (.iload_n 1, 1) := by decide +kernel
theorem dX1_init_38 : decode cX1_init 38 = .ok (.new 9, 3) := by decide +kernel
theorem dX1_init_41 : decode cX1_init 41 = .ok (.dup, 1) := by decide +kernel
theorem dX1_init_42 : decode cX1_init 42 = .ok (.invokespecial 24, 3) := by decide +kernel
theorem dX1_init_45 : decode cX1_init 45 = .ok (.aastore, 1) := by decide +kernel
theorem dX1_init_46 : decode cX1_init 46 = .ok (.iinc 1 1, 3) := by decide +kernel
theorem dX1_init_49 : decode cX1_init 49 = .ok (.goto (-25), 3) := by decide +kernel
theorem dX1_init_52 : decode cX1_init 52 = .ok (.return_, 1) := by decide +kernel
set_option maxRecDepth 20000 in
theorem ggX1_keep_X1_stateAt : GoodIn wsX1_keep wsX1_stateAt := goodIn_r _ [11, 12, 39, 40, 41] (by decide +kernel) (by decide +kernel)
set_option maxRecDepth 20000 in
theorem gX1_keep_X1_stateAt : GoodIn wsX1_keep (wsV RX1 25 RX1 yX1_stateAt wsX1_stateAt) := goodIn_app (goodIn_of _ (by decide +kernel)) ggX1_keep_X1_stateAt
set_option maxRecDepth 20000 in
theorem ggX1_keep_X0_copyFrom : GoodIn wsX1_keep wsX0_copyFrom := goodIn_r _ [17, 18, 19, 20, 21, 22, 23, 24, 25, 26, 27, 28, 29, 30, 31, 32, 33, 34, 4, 5, 6, 35, 36, 37, 38, 42, 43, 44, 45, 46, 47, 48, 49, 50, 51, 52, 53, 54] (by decide +kernel) (by decide +kernel)
set_option maxRecDepth 20000 in
theorem gX1_keep_X0_copyFrom : GoodIn wsX1_keep (wsV RX1 29 RX0 yX0_copyFrom wsX0_copyFrom) := goodIn_app (goodIn_of _ (by decide +kernel)) ggX1_keep_X0_copyFrom
theorem dX1_keep_0 : decode cX1_keep 0 = .ok (.aload_n 0, 1) := by decide +kernel
theorem dX1_keep_1 : decode cX1_keep 1 = .ok (.aload_n 0, 1) := by decide +kernel
theorem dX1_keep_2 : decode cX1_keep 2 = .ok (.getfield 21, 3) := by decide +kernel
theorem dX1_keep_5 : decode cX1_keep 5 = .ok (.invokevirtual 25, 3) := by decide +kernel
theorem dX1_keep_8 : decode cX1_keep 8 = .ok (.astore_n 2, 1) := by decide +kernel
theorem dX1_keep_9 : decode cX1_keep 9 = .ok (.aload_n 2, 1) := by decide +kernel
theorem dX1_keep_10 : decode cX1_keep 10 = .ok (.ifnull 34, 3) := by decide +kernel
theorem dX1_keep_13 : decode cX1_keep 13 = .ok (.aload_n 2, 1) := by decide +kernel
theorem dX1_keep_14 : decode cX1_keep 14 = .ok (.aload_n 1, 1) := by decide +kernel
theorem dX1_keep_15 : decode cX1_keep 15 = .ok (.invokevirtual 29, 3) := by decide +kernel
theorem dX1_keep_18 : decode cX1_keep 18 = .ok (.aload_n 0, 1) := by decide +kernel
theorem dX1_keep_19 : decode cX1_keep 19 = .ok (.aload_n 0, 1) := by decide +kernel
theorem dX1_keep_20 : decode cX1_keep 20 = .ok (.getfield 21, 3) := by decide +kernel
theorem dX1_keep_23 : decode cX1_keep 23 = .ok (.iconst 1, 1) := by decide +kernel
theorem dX1_keep_24 : decode cX1_keep 24 = .ok (.iadd, 1) := by decide +kernel
theorem dX1_keep_25 : decode cX1_keep 25 = .ok (.iconst 5, 1) := by decide +kernel
theorem dX1_keep_26 : decode cX1_keep 26 = .ok (.irem, 1) := by decide +kernel
theorem dX1_keep_27 : decode cX1_keep 27 = .ok (.putfield 21, 3) := by decide +kernel
theorem dX1_keep_30 : decode cX1_keep 30 = .ok (.aload_n 0, 1) := by decide +kernel
theorem dX1_keep_31 : decode cX1_keep 31 = .ok (.aload_n 0, 1) := by decide +kernel
theorem dX1_keep_32 : decode cX1_keep 32 = .ok (.getfield 17, 3) := by decide +kernel
theorem dX1_keep_35 : decode cX1_keep 35 = .ok (.iconst 1, 1) := by decide +kernel
theorem dX1_keep_36 : decode cX1_keep 36 = .ok (.iadd, 1) := by decide +kernel
theorem dX1_keep_37 : decode cX1_keep 37 = .ok (.iconst 5, 1) := by decide +kernel
theorem dX1_keep_38 : decode cX1_keep 38 = .ok (.invokestatic 33, 3) := by decide +kernel
theorem dX1_keep_41 : decode cX1_keep 41 = .ok (.putfield 17, 3) := by decide +kernel
theorem dX1_keep_44 : decode cX1_keep 44 = .ok (.return_, 1) := by decide +kernel
set_option maxRecDepth 20000 in
theorem ggX1_takeLatest_X1_stateAt : GoodIn wsX1_takeLatest wsX1_stateAt := goodIn_r _ [7, 8, 38, 39, 40] (by decide +kernel) (by decide +kernel)
set_option maxRecDepth 20000 in
theorem gX1_takeLatest_X1_stateAt : GoodIn wsX1_takeLatest (wsV RX1 25 RX1 yX1_stateAt wsX1_stateAt) := goodIn_app (goodIn_of _ (by decide +kernel)) ggX1_takeLatest_X1_stateAt
set_option maxRecDepth 20000 in
theorem ggX1_takeLatest_X0_copyFrom : GoodIn wsX1_takeLatest wsX0_copyFrom := goodIn_r _ [13, 14, 15, 16, 17, 18, 19, 20, 21, 22, 23, 24, 25, 26, 27, 28, 29, 30, 31, 32, 33, 34, 35, 36, 37, 41, 42, 43, 44, 45, 46, 47, 48, 49, 50, 51, 52, 53] (by decide +kernel) (by decide +kernel)
set_option maxRecDepth 20000 in
theorem gX1_takeLatest_X0_copyFrom : GoodIn wsX1_takeLatest (wsV RX1 29 RX0 yX0_copyFrom wsX0_copyFrom) := goodIn_app (goodIn_of _ (by decide +kernel)) ggX1_takeLatest_X0_copyFrom
theorem dX1_takeLatest_0 : decode cX1_takeLatest 0 = .ok (.aload_n 0, 1) := by decide +kernel
theorem dX1_takeLatest_1 : decode cX1_takeLatest 1 = .ok (.getfield 21, 3) := by decide +kernel
theorem dX1_takeLatest_4 : decode cX1_takeLatest 4 = .ok (.iconst 5, 1) := by decide +kernel
theorem dX1_takeLatest_5 : decode cX1_takeLatest 5 = .ok (.iadd, 1) := by decide +kernel
theorem dX1_takeLatest_6 : decode cX1_takeLatest 6 = .ok (.iconst 1, 1) := by decide +kernel
theorem dX1_takeLatest_7 : decode cX1_takeLatest 7 = .ok (.isub, 1) := by decide +kernel
theorem dX1_takeLatest_8 : decode cX1_takeLatest 8 = .ok (.iconst 5, 1) := by decide +kernel
theorem dX1_takeLatest_9 : decode cX1_takeLatest 9 = .ok (.irem, 1) := by decide +kernel
theorem dX1_takeLatest_10 : decode cX1_takeLatest 10 = .ok (.istore_n 2, 1) := by decide +kernel
theorem dX1_takeLatest_11 : decode cX1_takeLatest 11 = .ok (.aload_n 0, 1) := by decide +kernel
theorem dX1_takeLatest_12 : decode cX1_takeLatest 12 = .ok (.iload_n 2, 1) := by decide +kernel
theorem dX1_takeLatest_13 : decode cX1_takeLatest 13 = .ok (.invokevirtual 25, 3) := by decide +kernel
theorem dX1_takeLatest_16 : decode cX1_takeLatest 16 = .ok (.astore_n 3, 1) := by decide +kernel
theorem dX1_takeLatest_17 : decode cX1_takeLatest 17 = .ok (.aload_n 0, 1) := by decide +kernel
theorem dX1_takeLatest_18 : decode cX1_takeLatest 18 = .ok (.getfield 17, 3) := by decide +kernel
theorem dX1_takeLatest_21 : decode cX1_takeLatest 21 = .ok (.ifCond .le 7, 3) := by decide +kernel
theorem dX1_takeLatest_24 : decode cX1_takeLatest 24 = .ok (.aload_n 3, 1) := by decide +kernel
theorem dX1_takeLatest_25 : decode cX1_takeLatest 25 = .ok (.ifnonnull 5, 3) := by decide +kernel
theorem dX1_takeLatest_28 : decode cX1_takeLatest 28 = .ok (.iconst 0, 1) := by decide +kernel
theorem dX1_takeLatest_29 : decode cX1_takeLatest 29 = .ok (.ireturn, 1) := by decide +kernel
theorem dX1_takeLatest_30 : decode cX1_takeLatest 30 = .ok (.aload_n 1, 1) := by decide +kernel
theorem dX1_takeLatest_31 : decode cX1_takeLatest 31 = .ok (.aload_n 3, 1) := by decide +kernel
theorem dX1_takeLatest_32 : decode cX1_takeLatest 32 = .ok (.invokevirtual 29, 3) := by decide +kernel
theorem dX1_takeLatest_35 : decode cX1_takeLatest 35 = .ok (.aload_n 0, 1) := by decide +kernel
theorem dX1_takeLatest_36 : decode cX1_takeLatest 36 = .ok (.iload_n 2, 1) := by decide +kernel
theorem dX1_takeLatest_37 : decode cX1_takeLatest 37 = .ok (.putfield 21, 3) := by decide +kernel
theorem dX1_takeLatest_40 : decode cX1_takeLatest 40 = .ok (.aload_n 0, 1) := by decide +kernel
theorem dX1_takeLatest_41 : decode cX1_takeLatest 41 = .ok (.dup, 1) := by decide +kernel
theorem dX1_takeLatest_42 : decode cX1_takeLatest 42 = .ok (.getfield 17, 3) := by decide +kernel
theorem dX1_takeLatest_45 : decode cX1_takeLatest 45 = .ok (.iconst 1, 1) := by decide +kernel
theorem dX1_takeLatest_46 : decode cX1_takeLatest 46 = .ok (.isub, 1) := by decide +kernel
theorem dX1_takeLatest_47 : decode cX1_takeLatest 47 = .ok (.putfield 17, 3) := by decide +kernel
theorem dX1_takeLatest_50 : decode cX1_takeLatest 50 = .ok (.iconst 1, 1) := by decide +kernel
theorem dX1_takeLatest_51 : decode cX1_takeLatest 51 = .ok (.ireturn, 1) := by decide +kernel
theorem dX1_stateAt_0 : decode cX1_stateAt 0 = .ok (.iload_n 1, 1) := by decide +kernel
theorem dX1_stateAt_1 : decode cX1_stateAt 1 = .ok (.ifCond .lt 21, 3) := by decide +kernel
theorem dX1_stateAt_4 : decode cX1_stateAt 4 = .ok (.iload_n 1, 1) := by decide +kernel
theorem dX1_stateAt_5 : decode cX1_stateAt 5 = .ok (.aload_n 0, 1) := by decide +kernel
theorem dX1_stateAt_6 : decode cX1_stateAt 6 = .ok (.getfield 11, 3) := by decide +kernel
theorem dX1_stateAt_9 : decode cX1_stateAt 9 = .ok (.arraylength, 1) := by decide +kernel
theorem dX1_stateAt_10 : decode cX1_stateAt 10 = .ok (.if_icmp .ge 12, 3) := by decide +kernel
theorem dX1_stateAt_13 : decode cX1_stateAt 13 = .ok (.aload_n 0, 1) := by decide +kernel
theorem dX1_stateAt_14 : decode cX1_stateAt 14 = .ok (.getfield 11, 3) := by decide +kernel
theorem dX1_stateAt_17 : decode cX1_stateAt 17 = .ok (.iload_n 1, 1) := by decide +kernel
theorem dX1_stateAt_18 : decode cX1_stateAt 18 = .ok (.aaload, 1) := by decide +kernel
theorem dX1_stateAt_19 : decode cX1_stateAt 19 = .ok (.goto 4, 3) := by decide +kernel
theorem dX1_stateAt_22 : decode cX1_stateAt 22 = .ok (.aconst_null, 1) := by decide +kernel
theorem dX1_stateAt_23 : decode cX1_stateAt 23 = .ok (.areturn, 1) := by decide +kernel
theorem dX2_init_0 : decode cX2_init 0 = .ok (.aload_n 0, 1) := by decide +kernel
theorem dX2_init_1 : decode cX2_init 1 = .ok (.invokespecial 3, 3) := by decide +kernel
theorem dX2_init_4 : decode cX2_init 4 = .ok (.aload_n 0, 1) := by decide +kernel
theorem dX2_init_5 : decode cX2_init 5 = .ok (.bipush 100, 2) := by decide +kernel
theorem dX2_init_7 : decode cX2_init 7 = .ok (.newarray .int, 2) := by decide +kernel
theorem dX2_init_9 : decode cX2_init 9 = .ok (.putfield 9, 3) := by decide +kernel
theorem dX2_init_12 : decode cX2_init 12 = .ok (.aload_n 0, 1) := by decide +kernel
theorem dX2_init_13 : decode cX2_init 13 = .ok (.iconst 0, 1) := by decide +kernel
theorem dX2_init_14 : decode cX2_init 14 = .ok (.putfield 15, 3) := by decide +kernel
theorem dX2_init_17 : decode cX2_init 17 = .ok (.aload_n 0, 1) := by decide +kernel
theorem dX2_init_18 : decode cX2_init 18 = .ok (.iconst 0, 1) := by decide +kernel
theorem dX2_init_19 : decode cX2_init 19 = .ok (.putfield 19, 3) := by decide +kernel
theorem dX2_init_22 : decode cX2_init 22 = .ok (.aload_n 0, 1) := by decide +kernel
theorem dX2_init_23 : decode cX2_init 23 = .ok (.iconst 0, 1) := by decide +kernel
theorem dX2_init_24 : decode cX2_init 24 = .ok (.putfield 22, 3) := by decide +kernel
theorem dX2_init_27 : decode cX2_init 27 = .ok (.aload_n 0, 1) := by decide +kernel
theorem dX2_init_28 : decode cX2_init 28 = .ok (.iconst 0, 1) := by decide +kernel
theorem dX2_init_29 : decode cX2_init 29 = .ok (.putfield 25, 3) := by decide +kernel
theorem dX2_init_32 : decode cX2_init 32 = .ok (.aload_n 0, 1) := by decide +kernel
theorem dX2_init_33 : decode cX2_init 33 = .ok (.iconst 3, 1) := by decide +kernel
theorem dX2_init_34 : decode cX2_init 34 = .ok (.newarray .int, 2) := by decide +kernel
theorem dX2_init_36 : decode cX2_init 36 = .ok (.putfield 29, 3) := by decide +kernel
theorem dX2_init_39 : decode cX2_init 39 = .ok (.aload_n 0, 1) := by decide +kernel
theorem dX2_init_40 : decode cX2_init 40 = .ok (.iconst 0, 1) := by decide +kernel
theorem dX2_init_41 : decode cX2_init 41 = .ok (.putfield 32, 3) := by decide +kernel
theorem dX2_init_44 : decode cX2_init 44 = .ok (.aload_n 0, 1) := by decide +kernel
theorem dX2_init_45 : decode cX2_init 45 = .ok (.iconst 0, 1) := by decide +kernel
theorem dX2_init_46 : decode cX2_init 46 = .ok (.putfield 35, 3) := by decide +kernel
theorem dX2_init_49 : decode cX2_init 49 = .ok (.return_, 1) := by decide +kernel
set_option maxRecDepth 20000 in
theorem ggX2_addSign_X4_put : GoodIn wsX2_addSign wsX4_put := goodIn_r _ [5] (by decide +kernel) (by decide +kernel)
set_option maxRecDepth 20000 in
theorem gX2_addSign_X4_put_n38 : GoodIn wsX2_addSign (wsX4_put) := ggX2_addSign_X4_put
theorem dX2_addSign_0 : decode cX2_addSign 0 = .ok (.iload_n 1, 1) := by decide +kernel
theorem dX2_addSign_1 : decode cX2_addSign 1 = .ok (.iconst 1, 1) := by decide +kernel
theorem dX2_addSign_2 : decode cX2_addSign 2 = .ok (.if_icmp .lt 10, 3) := by decide +kernel
theorem dX2_addSign_5 : decode cX2_addSign 5 = .ok (.iload_n 1, 1) := by decide +kernel
theorem dX2_addSign_6 : decode cX2_addSign 6 = .ok (.sipush 255, 3) := by decide +kernel
theorem dX2_addSign_9 : decode cX2_addSign 9 = .ok (.if_icmp .le 5, 3) := by decide +kernel
theorem dX2_addSign_12 : decode cX2_addSign 12 = .ok (.iconst (-1), 1) := by decide +kernel
theorem dX2_addSign_13 : decode cX2_addSign 13 = .ok (.ireturn, 1) := by decide +kernel
theorem dX2_addSign_14 : decode cX2_addSign 14 = .ok (.aload_n 0, 1) := by decide +kernel
theorem dX2_addSign_15 : decode cX2_addSign 15 = .ok (.getfield 15, 3) := by decide +kernel
theorem dX2_addSign_18 : decode cX2_addSign 18 = .ok (.bipush 100, 2) := by decide +kernel
theorem dX2_addSign_20 : decode cX2_addSign 20 = .ok (.if_icmp .lt 6, 3) := by decide +kernel
theorem dX2_addSign_23 : decode cX2_addSign 23 = .ok (.bipush (-3), 2) := by decide +kernel
theorem dX2_addSign_25 : decode cX2_addSign 25 = .ok (.ireturn, 1) := by decide +kernel
theorem dX2_addSign_26 : decode cX2_addSign 26 = .ok (.aload_n 0, 1) := by decide +kernel
theorem dX2_addSign_27 : decode cX2_addSign 27 = .ok (.getfield 9, 3) := by decide +kernel
theorem dX2_addSign_30 : decode cX2_addSign 30 = .ok (.aload_n 0, 1) := by decide +kernel
theorem dX2_addSign_31 : decode cX2_addSign 31 = .ok (.getfield 15, 3) := by decide +kernel
theorem dX2_addSign_34 : decode cX2_addSign 34 = .ok (.iload_n 1, 1) := by decide +kernel
theorem dX2_addSign_35 : decode cX2_addSign 35 = .ok (.invokestatic 38, 3) := by decide +kernel
theorem dX2_addSign_38 : decode cX2_addSign 38 = .ok (.aload_n 0, 1) := by decide +kernel
theorem dX2_addSign_39 : decode cX2_addSign 39 = .ok (.dup, 1) := by decide +kernel
theorem dX2_addSign_40 : decode cX2_addSign 40 = .ok (.getfield 15, 3) := by decide +kernel
theorem dX2_addSign_43 : decode cX2_addSign 43 = .ok (.iconst 1, 1) := by decide +kernel
theorem dX2_addSign_44 : decode cX2_addSign 44 = .ok (.iadd, 1) := by decide +kernel
theorem dX2_addSign_45 : decode cX2_addSign 45 = .ok (.putfield 15, 3) := by decide +kernel
theorem dX2_addSign_48 : decode cX2_addSign 48 = .ok (.aload_n 0, 1) := by decide +kernel
theorem dX2_addSign_49 : decode cX2_addSign 49 = .ok (.getfield 15, 3) := by decide +kernel
theorem dX2_addSign_52 : decode cX2_addSign 52 = .ok (.ireturn, 1) := by decide +kernel
theorem dX2_startReading_0 : decode cX2_startReading 0 = .ok (.aload_n 0, 1) := by decide +kernel
theorem dX2_startReading_1 : decode cX2_startReading 1 = .ok (.iconst 0, 1) := by decide +kernel
theorem dX2_startReading_2 : decode cX2_startReading 2 = .ok (.putfield 19, 3) := by decide +kernel
theorem dX2_startReading_5 : decode cX2_startReading 5 = .ok (.aload_n 0, 1) := by decide +kernel
theorem dX2_startReading_6 : decode cX2_startReading 6 = .ok (.iconst 0, 1) := by decide +kernel
theorem dX2_startReading_7 : decode cX2_startReading 7 = .ok (.putfield 25, 3) := by decide +kernel
theorem dX2_startReading_10 : decode cX2_startReading 10 = .ok (.return_, 1) := by decide +kernel
theorem dX2_isInOrder_0 : decode cX2_isInOrder 0 = .ok (.aload_n 0, 1) := by decide +kernel
theorem dX2_isInOrder_1 : decode cX2_isInOrder 1 = .ok (.getfield 19, 3) := by decide +kernel
theorem dX2_isInOrder_4 : decode cX2_isInOrder 4 = .ok (.ifCond .eq 14, 3) := by decide +kernel
theorem dX2_isInOrder_7 : decode cX2_isInOrder 7 = .ok (.aload_n 0, 1) := by decide +kernel
theorem dX2_isInOrder_8 : decode cX2_isInOrder 8 = .ok (.getfield 25, 3) := by decide +kernel
theorem dX2_isInOrder_11 : decode cX2_isInOrder 11 = .ok (.ifCond .ne 7, 3) := by decide +kernel
theorem dX2_isInOrder_14 : decode cX2_isInOrder 14 = .ok (.iconst 1, 1) := by decide +kernel
theorem dX2_isInOrder_15 : decode cX2_isInOrder 15 = .ok (.goto 4, 3) := by decide +kernel
theorem dX2_isInOrder_18 : decode cX2_isInOrder 18 = .ok (.iconst 0, 1) := by decide +kernel
theorem dX2_isInOrder_19 : decode cX2_isInOrder 19 = .ok (.ireturn, 1) := by decide +kernel
set_option maxRecDepth 20000 in
theorem ggX2_read_X4_at : GoodIn wsX2_read wsX4_at := goodIn_r _ [8] (by decide +kernel) (by decide +kernel)
set_option maxRecDepth 20000 in
theorem gX2_read_X4_at_n42 : GoodIn wsX2_read (wsX4_at) := ggX2_read_X4_at
set_option maxRecDepth 20000 in
theorem ggX2_read_X2_startReading : GoodIn wsX2_read wsX2_startReading := goodIn_r _ [13, 4, 2, 33, 34, 35, 36, 37, 38, 39, 40] (by decide +kernel) (by decide +kernel)
set_option maxRecDepth 20000 in
theorem gX2_read_X2_startReading : GoodIn wsX2_read (wsV RX2 46 RX2 yX2_startReading wsX2_startReading) := goodIn_app (goodIn_of _ (by decide +kernel)) ggX2_read_X2_startReading
set_option maxRecDepth 20000 in
theorem ggX2_read_X2_readLetter : GoodIn wsX2_read wsX2_readLetter := goodIn_r _ [17, 4, 18, 5, 3, 19, 20, 12, 21, 33, 34, 35, 36, 37, 38, 39, 40] (by decide +kernel) (by decide +kernel)
set_option maxRecDepth 20000 in
theorem gX2_read_X2_readLetter : GoodIn wsX2_read (wsV RX2 49 RX2 yX2_readLetter wsX2_readLetter) := goodIn_app (goodIn_of _ (by decide +kernel)) ggX2_read_X2_readLetter
set_option maxRecDepth 20000 in
theorem ggX2_read_X2_numbersOf : GoodIn wsX2_read wsX2_numbersOf := goodIn_r _ [21] (by decide +kernel) (by decide +kernel)
set_option maxRecDepth 20000 in
theorem gX2_read_X2_numbersOf : GoodIn wsX2_read (va_wsS RX2 53 yX2_numbersOf wsX2_numbersOf) := goodIn_app (goodIn_of _ (by decide +kernel)) ggX2_read_X2_numbersOf
set_option maxRecDepth 20000 in
theorem ggX2_read_X2_readDigit : GoodIn wsX2_read wsX2_readDigit := goodIn_r _ [25, 3, 26, 5, 27, 28, 29, 12, 30, 4, 19, 20, 21, 31, 7, 32, 6, 8, 33, 34, 35, 36, 37, 38, 39, 40] (by decide +kernel) (by decide +kernel)
set_option maxRecDepth 20000 in
theorem gX2_read_X2_readDigit : GoodIn wsX2_read (wsV RX2 57 RX2 yX2_readDigit wsX2_readDigit) := goodIn_app (goodIn_of _ (by decide +kernel)) ggX2_read_X2_readDigit
theorem dX2_read_0 : decode cX2_read 0 = .ok (.aload_n 0, 1) := by decide +kernel
theorem dX2_read_1 : decode cX2_read 1 = .ok (.getfield 9, 3) := by decide +kernel
theorem dX2_read_4 : decode cX2_read 4 = .ok (.iload_n 1, 1) := by decide +kernel
theorem dX2_read_5 : decode cX2_read 5 = .ok (.invokestatic 42, 3) := by decide +kernel
theorem dX2_read_8 : decode cX2_read 8 = .ok (.istore_n 2, 1) := by decide +kernel
theorem dX2_read_9 : decode cX2_read 9 = .ok (.aload_n 0, 1) := by decide +kernel
theorem dX2_read_10 : decode cX2_read 10 = .ok (.getfield 25, 3) := by decide +kernel
theorem dX2_read_13 : decode cX2_read 13 = .ok (.ifCond .eq 7, 3) := by decide +kernel
theorem dX2_read_16 : decode cX2_read 16 = .ok (.aload_n 0, 1) := by decide +kernel
theorem dX2_read_17 : decode cX2_read 17 = .ok (.invokevirtual 46, 3) := by decide +kernel
theorem dX2_read_20 : decode cX2_read 20 = .ok (.iload_n 2, 1) := by decide +kernel
theorem dX2_read_21 : decode cX2_read 21 = .ok (.bipush 32, 2) := by decide +kernel
theorem dX2_read_23 : decode cX2_read 23 = .ok (.if_icmp .ne 10, 3) := by decide +kernel
theorem dX2_read_26 : decode cX2_read 26 = .ok (.aload_n 0, 1) := by decide +kernel
theorem dX2_read_27 : decode cX2_read 27 = .ok (.iconst 0, 1) := by decide +kernel
theorem dX2_read_28 : decode cX2_read 28 = .ok (.putfield 35, 3) := by decide +kernel
theorem dX2_read_31 : decode cX2_read 31 = .ok (.iconst 1, 1) := by decide +kernel
theorem dX2_read_32 : decode cX2_read 32 = .ok (.ireturn, 1) := by decide +kernel
theorem dX2_read_33 : decode cX2_read 33 = .ok (.aload_n 0, 1) := by decide +kernel
theorem dX2_read_34 : decode cX2_read 34 = .ok (.getfield 19, 3) := by decide +kernel
theorem dX2_read_37 : decode cX2_read 37 = .ok (.ifCond .ne 10, 3) := by decide +kernel
theorem dX2_read_40 : decode cX2_read 40 = .ok (.aload_n 0, 1) := by decide +kernel
theorem dX2_read_41 : decode cX2_read 41 = .ok (.iload_n 2, 1) := by decide +kernel
theorem dX2_read_42 : decode cX2_read 42 = .ok (.iload_n 1, 1) := by decide +kernel
theorem dX2_read_43 : decode cX2_read 43 = .ok (.invokevirtual 49, 3) := by decide +kernel
theorem dX2_read_46 : decode cX2_read 46 = .ok (.ireturn, 1) := by decide +kernel
theorem dX2_read_47 : decode cX2_read 47 = .ok (.iload_n 2, 1) := by decide +kernel
theorem dX2_read_48 : decode cX2_read 48 = .ok (.bipush 59, 2) := by decide +kernel
theorem dX2_read_50 : decode cX2_read 50 = .ok (.if_icmp .ne 31, 3) := by decide +kernel
theorem dX2_read_53 : decode cX2_read 53 = .ok (.aload_n 0, 1) := by decide +kernel
theorem dX2_read_54 : decode cX2_read 54 = .ok (.aload_n 0, 1) := by decide +kernel
theorem dX2_read_55 : decode cX2_read 55 = .ok (.getfield 32, 3) := by decide +kernel
theorem dX2_read_58 : decode cX2_read 58 = .ok (.aload_n 0, 1) := by decide +kernel
theorem dX2_read_59 : decode cX2_read 59 = .ok (.getfield 19, 3) := by decide +kernel
theorem dX2_read_62 : decode cX2_read 62 = .ok (.invokestatic 53, 3) := by decide +kernel
theorem dX2_read_65 : decode cX2_read 65 = .ok (.if_icmp .ne 7, 3) := by decide +kernel
theorem dX2_read_68 : decode cX2_read 68 = .ok (.iconst 1, 1) := by decide +kernel
theorem dX2_read_69 : decode cX2_read 69 = .ok (.goto 4, 3) := by decide +kernel
theorem dX2_read_72 : decode cX2_read 72 = .ok (.iconst 0, 1) := by decide +kernel
theorem dX2_read_73 : decode cX2_read 73 = .ok (.putfield 25, 3) := by decide +kernel
theorem dX2_read_76 : decode cX2_read 76 = .ok (.aload_n 0, 1) := by decide +kernel
theorem dX2_read_77 : decode cX2_read 77 = .ok (.getfield 25, 3) := by decide +kernel
theorem dX2_read_80 : decode cX2_read 80 = .ok (.ireturn, 1) := by decide +kernel
theorem dX2_read_81 : decode cX2_read 81 = .ok (.iload_n 2, 1) := by decide +kernel
theorem dX2_read_82 : decode cX2_read 82 = .ok (.bipush 48, 2) := by decide +kernel
theorem dX2_read_84 : decode cX2_read 84 = .ok (.if_icmp .lt 24, 3) := by decide +kernel
theorem dX2_read_87 : decode cX2_read 87 = .ok (.iload_n 2, 1) := by decide +kernel
theorem dX2_read_88 : decode cX2_read 88 = .ok (.bipush 57, 2) := by decide +kernel
theorem dX2_read_90 : decode cX2_read 90 = .ok (.if_icmp .gt 18, 3) := by decide +kernel
theorem dX2_read_93 : decode cX2_read 93 = .ok (.aload_n 0, 1) := by decide +kernel
theorem dX2_read_94 : decode cX2_read 94 = .ok (.iload_n 2, 1) := by decide +kernel
theorem dX2_read_95 : decode cX2_read 95 = .ok (.bipush 48, 2) := by decide +kernel
theorem dX2_read_97 : decode cX2_read 97 = .ok (.isub, 1) := by decide +kernel
theorem dX2_read_98 : decode cX2_read 98 = .ok (.invokevirtual 57, 3) := by decide +kernel
theorem dX2_read_101 : decode cX2_read 101 = .ok (.ifCond .eq 7, 3) := by decide +kernel
theorem dX2_read_104 : decode cX2_read 104 = .ok (.iconst 1, 1) := by decide +kernel
theorem dX2_read_105 : decode cX2_read 105 = .ok (.goto 4, 3) := by decide +kernel
theorem dX2_read_108 : decode cX2_read 108 = .ok (.iconst 0, 1) := by decide +kernel
theorem dX2_read_109 : decode cX2_read 109 = .ok (.ireturn, 1) := by decide +kernel
set_option maxRecDepth 20000 in
theorem ggX2_readLetter_X2_numbersOf : GoodIn wsX2_readLetter wsX2_numbersOf := goodIn_r _ [8] (by decide +kernel) (by decide +kernel)
set_option maxRecDepth 20000 in
theorem gX2_readLetter_X2_numbersOf : GoodIn wsX2_readLetter (va_wsS RX2 53 yX2_numbersOf wsX2_numbersOf) := goodIn_app (goodIn_of _ (by decide +kernel)) ggX2_readLetter_X2_numbersOf
theorem dX2_readLetter_0 : decode cX2_readLetter 0 = .ok (.iload_n 1, 1) := by decide +kernel
theorem dX2_readLetter_1 : decode cX2_readLetter 1 = .ok (.invokestatic 53, 3) := by decide +kernel
theorem dX2_readLetter_4 : decode cX2_readLetter 4 = .ok (.ifCond .ne 5, 3) := by decide +kernel
theorem dX2_readLetter_7 : decode cX2_readLetter 7 = .ok (.iconst 0, 1) := by decide +kernel
theorem dX2_readLetter_8 : decode cX2_readLetter 8 = .ok (.ireturn, 1) := by decide +kernel
theorem dX2_readLetter_9 : decode cX2_readLetter 9 = .ok (.aload_n 0, 1) := by decide +kernel
theorem dX2_readLetter_10 : decode cX2_readLetter 10 = .ok (.iload_n 1, 1) := by decide +kernel
theorem dX2_readLetter_11 : decode cX2_readLetter 11 = .ok (.putfield 19, 3) := by decide +kernel
theorem dX2_readLetter_14 : decode cX2_readLetter 14 = .ok (.aload_n 0, 1) := by decide +kernel
theorem dX2_readLetter_15 : decode cX2_readLetter 15 = .ok (.iload_n 2, 1) := by decide +kernel
theorem dX2_readLetter_16 : decode cX2_readLetter 16 = .ok (.putfield 22, 3) := by decide +kernel
theorem dX2_readLetter_19 : decode cX2_readLetter 19 = .ok (.aload_n 0, 1) := by decide +kernel
