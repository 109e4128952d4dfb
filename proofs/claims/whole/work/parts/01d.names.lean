theorem dX4_cheapest_173 : decode cX4_cheapest 173 = .ok (.goto (-104), 3) := by decide +kernel
theorem dX4_cheapest_176 : decode cX4_cheapest 176 = .ok (.iinc 5 1, 3) := by decide +kernel
theorem dX4_cheapest_179 : decode cX4_cheapest 179 = .ok (.goto (-154), 3) := by decide +kernel
theorem dX4_cheapest_182 : decode cX4_cheapest 182 = .ok (.iload 4, 2) := by decide +kernel
theorem dX4_cheapest_184 : decode cX4_cheapest 184 = .ok (.ireturn, 1) := by decide +kernel
theorem dX4_at_0 : decode cX4_at 0 = .ok (.iload_n 1, 1) := by decide +kernel
theorem dX4_at_1 : decode cX4_at 1 = .ok (.ifCond .lt 15, 3) := by decide +kernel
theorem dX4_at_4 : decode cX4_at 4 = .ok (.iload_n 1, 1) := by decide +kernel
theorem dX4_at_5 : decode cX4_at 5 = .ok (.aload_n 0, 1) := by decide +kernel
theorem dX4_at_6 : decode cX4_at 6 = .ok (.arraylength, 1) := by decide +kernel
theorem dX4_at_7 : decode cX4_at 7 = .ok (.if_icmp .ge 9, 3) := by decide +kernel
theorem dX4_at_10 : decode cX4_at 10 = .ok (.aload_n 0, 1) := by decide +kernel
theorem dX4_at_11 : decode cX4_at 11 = .ok (.iload_n 1, 1) := by decide +kernel
theorem dX4_at_12 : decode cX4_at 12 = .ok (.iaload, 1) := by decide +kernel
theorem dX4_at_13 : decode cX4_at 13 = .ok (.goto 4, 3) := by decide +kernel
theorem dX4_at_16 : decode cX4_at 16 = .ok (.iconst 0, 1) := by decide +kernel
theorem dX4_at_17 : decode cX4_at 17 = .ok (.ireturn, 1) := by decide +kernel
theorem dX4_put_0 : decode cX4_put 0 = .ok (.iload_n 1, 1) := by decide +kernel
theorem dX4_put_1 : decode cX4_put 1 = .ok (.ifCond .lt 13, 3) := by decide +kernel
theorem dX4_put_4 : decode cX4_put 4 = .ok (.iload_n 1, 1) := by decide +kernel
theorem dX4_put_5 : decode cX4_put 5 = .ok (.aload_n 0, 1) := by decide +kernel
theorem dX4_put_6 : decode cX4_put 6 = .ok (.arraylength, 1) := by decide +kernel
theorem dX4_put_7 : decode cX4_put 7 = .ok (.if_icmp .ge 7, 3) := by decide +kernel
theorem dX4_put_10 : decode cX4_put 10 = .ok (.aload_n 0, 1) := by decide +kernel
theorem dX4_put_11 : decode cX4_put 11 = .ok (.iload_n 1, 1) := by decide +kernel
theorem dX4_put_12 : decode cX4_put 12 = .ok (.iload_n 2, 1) := by decide +kernel
theorem dX4_put_13 : decode cX4_put 13 = .ok (.iastore, 1) := by decide +kernel
theorem dX4_put_14 : decode cX4_put 14 = .ok (.return_, 1) := by decide +kernel
theorem dX4_copyRow_0 : decode cX4_copyRow 0 = .ok (.aload_n 0, 1) := by decide +kernel
theorem dX4_copyRow_1 : decode cX4_copyRow 1 = .ok (.iconst 0, 1) := by decide +kernel
theorem dX4_copyRow_2 : decode cX4_copyRow 2 = .ok (.aload_n 1, 1) := by decide +kernel
theorem dX4_copyRow_3 : decode cX4_copyRow 3 = .ok (.iconst 0, 1) := by decide +kernel
theorem dX4_copyRow_4 : decode cX4_copyRow 4 = .ok (.aload_n 0, 1) := by decide +kernel
theorem dX4_copyRow_5 : decode cX4_copyRow 5 = .ok (.arraylength, 1) := by decide +kernel
theorem dX4_copyRow_6 : decode cX4_copyRow 6 = .ok (.aload_n 1, 1) := by decide +kernel
theorem dX4_copyRow_7 : decode cX4_copyRow 7 = .ok (.arraylength, 1) := by decide +kernel
theorem dX4_copyRow_8 : decode cX4_copyRow 8 = .ok (.invokestatic 244, 3) := by decide +kernel
theorem dX4_copyRow_11 : decode cX4_copyRow 11 = .ok (.invokestatic 249, 3) := by decide +kernel
theorem dX4_copyRow_14 : decode cX4_copyRow 14 = .ok (.return_, 1) := by decide +kernel
theorem dX5_init_0 : decode cX5_init 0 = .ok (.aload_n 0, 1) := by decide +kernel
theorem dX5_init_1 : decode cX5_init 1 = .ok (.invokespecial 1, 3) := by decide +kernel
theorem dX5_init_4 : decode cX5_init 4 = .ok (.aload_n 0, 1) := by decide +kernel
theorem dX5_init_5 : decode cX5_init 5 = .ok (.bipush 102, 2) := by decide +kernel
theorem dX5_init_7 : decode cX5_init 7 = .ok (.newarray .int, 2) := by decide +kernel
theorem dX5_init_9 : decode cX5_init 9 = .ok (.putfield 7, 3) := by decide +kernel
theorem dX5_init_12 : decode cX5_init 12 = .ok (.aload_n 0, 1) := by decide +kernel
theorem dX5_init_13 : decode cX5_init 13 = .ok (.sipush 510, 3) := by decide +kernel
theorem dX5_init_16 : decode cX5_init 16 = .ok (.newarray .int, 2) := by decide +kernel
theorem dX5_init_18 : decode cX5_init 18 = .ok (.putfield 13, 3) := by decide +kernel
theorem dX5_init_21 : decode cX5_init 21 = .ok (.aload_n 0, 1) := by decide +kernel
theorem dX5_init_22 : decode cX5_init 22 = .ok (.bipush 102, 2) := by decide +kernel
theorem dX5_init_24 : decode cX5_init 24 = .ok (.newarray .int, 2) := by decide +kernel
theorem dX5_init_26 : decode cX5_init 26 = .ok (.putfield 16, 3) := by decide +kernel
theorem dX5_init_29 : decode cX5_init 29 = .ok (.aload_n 0, 1) := by decide +kernel
theorem dX5_init_30 : decode cX5_init 30 = .ok (.bipush 100, 2) := by decide +kernel
theorem dX5_init_32 : decode cX5_init 32 = .ok (.newarray .int, 2) := by decide +kernel
theorem dX5_init_34 : decode cX5_init 34 = .ok (.putfield 19, 3) := by decide +kernel
theorem dX5_init_37 : decode cX5_init 37 = .ok (.aload_n 0, 1) := by decide +kernel
theorem dX5_init_38 : decode cX5_init 38 = .ok (.iconst 3, 1) := by decide +kernel
theorem dX5_init_39 : decode cX5_init 39 = .ok (.newarray .int, 2) := by decide +kernel
theorem dX5_init_41 : decode cX5_init 41 = .ok (.putfield 22, 3) := by decide +kernel
theorem dX5_init_44 : decode cX5_init 44 = .ok (.aload_n 0, 1) := by decide +kernel
theorem dX5_init_45 : decode cX5_init 45 = .ok (.bipush 6, 2) := by decide +kernel
theorem dX5_init_47 : decode cX5_init 47 = .ok (.newarray .int, 2) := by decide +kernel
theorem dX5_init_49 : decode cX5_init 49 = .ok (.putfield 25, 3) := by decide +kernel
theorem dX5_init_52 : decode cX5_init 52 = .ok (.aload_n 0, 1) := by decide +kernel
theorem dX5_init_53 : decode cX5_init 53 = .ok (.getfield 7, 3) := by decide +kernel
theorem dX5_init_56 : decode cX5_init 56 = .ok (.iconst 3, 1) := by decide +kernel
theorem dX5_init_57 : decode cX5_init 57 = .ok (.sipush 500, 3) := by decide +kernel
theorem dX5_init_60 : decode cX5_init 60 = .ok (.iastore, 1) := by decide +kernel
theorem dX5_init_61 : decode cX5_init 61 = .ok (.aload_n 0, 1) := by decide +kernel
theorem dX5_init_62 : decode cX5_init 62 = .ok (.getfield 7, 3) := by decide +kernel
theorem dX5_init_65 : decode cX5_init 65 = .ok (.iconst 4, 1) := by decide +kernel
theorem dX5_init_66 : decode cX5_init 66 = .ok (.bipush 120, 2) := by decide +kernel
theorem dX5_init_68 : decode cX5_init 68 = .ok (.iastore, 1) := by decide +kernel
theorem dX5_init_69 : decode cX5_init 69 = .ok (.return_, 1) := by decide +kernel
theorem dX5_in_0 : decode cX5_in 0 = .ok (.iload_n 0, 1) := by decide +kernel
theorem dX5_in_1 : decode cX5_in 1 = .ok (.iload_n 1, 1) := by decide +kernel
theorem dX5_in_2 : decode cX5_in 2 = .ok (.if_icmp .lt 12, 3) := by decide +kernel
theorem dX5_in_5 : decode cX5_in 5 = .ok (.iload_n 0, 1) := by decide +kernel
theorem dX5_in_6 : decode cX5_in 6 = .ok (.iload_n 2, 1) := by decide +kernel
theorem dX5_in_7 : decode cX5_in 7 = .ok (.if_icmp .gt 7, 3) := by decide +kernel
theorem dX5_in_10 : decode cX5_in 10 = .ok (.iconst 1, 1) := by decide +kernel
theorem dX5_in_11 : decode cX5_in 11 = .ok (.goto 4, 3) := by decide +kernel
theorem dX5_in_14 : decode cX5_in 14 = .ok (.iconst 0, 1) := by decide +kernel
theorem dX5_in_15 : decode cX5_in 15 = .ok (.ireturn, 1) := by decide +kernel
theorem dX5_greater_0 : decode cX5_greater 0 = .ok (.iload_n 0, 1) := by decide +kernel
theorem dX5_greater_1 : decode cX5_greater 1 = .ok (.iload_n 1, 1) := by decide +kernel
theorem dX5_greater_2 : decode cX5_greater 2 = .ok (.if_icmp .le 7, 3) := by decide +kernel
theorem dX5_greater_5 : decode cX5_greater 5 = .ok (.iload_n 0, 1) := by decide +kernel
theorem dX5_greater_6 : decode cX5_greater 6 = .ok (.goto 4, 3) := by decide +kernel
theorem dX5_greater_9 : decode cX5_greater 9 = .ok (.iload_n 1, 1) := by decide +kernel
theorem dX5_greater_10 : decode cX5_greater 10 = .ok (.ireturn, 1) := by decide +kernel
theorem dX5_aside_0 : decode cX5_aside 0 = .ok (.iconst 0, 1) := by decide +kernel
theorem dX5_aside_1 : decode cX5_aside 1 = .ok (.istore_n 1, 1) := by decide +kernel
theorem dX5_aside_2 : decode cX5_aside 2 = .ok (.iload_n 1, 1) := by decide +kernel
theorem dX5_aside_3 : decode cX5_aside 3 = .ok (.bipush 102, 2) := by decide +kernel
theorem dX5_aside_5 : decode cX5_aside 5 = .ok (.if_icmp .ge 21, 3) := by decide +kernel
theorem dX5_aside_8 : decode cX5_aside 8 = .ok (.aload_n 0, 1) := by decide +kernel
theorem dX5_aside_9 : decode cX5_aside 9 = .ok (.getfield 16, 3) := by decide +kernel
theorem dX5_aside_12 : decode cX5_aside 12 = .ok (.iload_n 1, 1) := by decide +kernel
theorem dX5_aside_13 : decode cX5_aside 13 = .ok (.aload_n 0, 1) := by decide +kernel
theorem dX5_aside_14 : decode cX5_aside 14 = .ok (.getfield 7, 3) := by decide +kernel
theorem dX5_aside_17 : decode cX5_aside 17 = .ok (.iload_n 1, 1) := by decide +kernel
theorem dX5_aside_18 : decode cX5_aside 18 = .ok (.iaload, 1) := by decide +kernel
theorem dX5_aside_19 : decode cX5_aside 19 = .ok (.iastore, 1) := by decide +kernel
theorem dX5_aside_20 : decode cX5_aside 20 = .ok (.iinc 1 1, 3) := by decide +kernel
theorem dX5_aside_23 : decode cX5_aside 23 = .ok (.goto (-21), 3) := by decide +kernel
theorem dX5_aside_26 : decode cX5_aside 26 = .ok (.return_, 1) := by decide +kernel
theorem dX5_layBack_0 : decode cX5_layBack 0 = .ok (.iconst 0, 1) := by decide +kernel
theorem dX5_layBack_1 : decode cX5_layBack 1 = .ok (.istore_n 1, 1) := by decide +kernel
theorem dX5_layBack_2 : decode cX5_layBack 2 = .ok (.iload_n 1, 1) := by decide +kernel
theorem dX5_layBack_3 : decode cX5_layBack 3 = .ok (.bipush 102, 2) := by decide +kernel
theorem dX5_layBack_5 : decode cX5_layBack 5 = .ok (.if_icmp .ge 21, 3) := by decide +kernel
theorem dX5_layBack_8 : decode cX5_layBack 8 = .ok (.aload_n 0, 1) := by decide +kernel
theorem dX5_layBack_9 : decode cX5_layBack 9 = .ok (.getfield 7, 3) := by decide +kernel
theorem dX5_layBack_12 : decode cX5_layBack 12 = .ok (.iload_n 1, 1) := by decide +kernel
theorem dX5_layBack_13 : decode cX5_layBack 13 = .ok (.aload_n 0, 1) := by decide +kernel
theorem dX5_layBack_14 : decode cX5_layBack 14 = .ok (.getfield 16, 3) := by decide +kernel
theorem dX5_layBack_17 : decode cX5_layBack 17 = .ok (.iload_n 1, 1) := by decide +kernel
theorem dX5_layBack_18 : decode cX5_layBack 18 = .ok (.iaload, 1) := by decide +kernel
theorem dX5_layBack_19 : decode cX5_layBack 19 = .ok (.iastore, 1) := by decide +kernel
theorem dX5_layBack_20 : decode cX5_layBack 20 = .ok (.iinc 1 1, 3) := by decide +kernel
theorem dX5_layBack_23 : decode cX5_layBack 23 = .ok (.goto (-21), 3) := by decide +kernel
theorem dX5_layBack_26 : decode cX5_layBack 26 = .ok (.return_, 1) := by decide +kernel
theorem dX5_keeps_0 : decode cX5_keeps 0 = .ok (.aload_n 0, 1) := by decide +kernel
theorem dX5_keeps_1 : decode cX5_keeps 1 = .ok (.getfield 28, 3) := by decide +kernel
theorem dX5_keeps_4 : decode cX5_keeps 4 = .ok (.iconst 5, 1) := by decide +kernel
theorem dX5_keeps_5 : decode cX5_keeps 5 = .ok (.if_icmp .ne 43, 3) := by decide +kernel
theorem dX5_keeps_8 : decode cX5_keeps 8 = .ok (.iconst 0, 1) := by decide +kernel
theorem dX5_keeps_9 : decode cX5_keeps 9 = .ok (.istore_n 1, 1) := by decide +kernel
theorem dX5_keeps_10 : decode cX5_keeps 10 = .ok (.iload_n 1, 1) := by decide +kernel
theorem dX5_keeps_11 : decode cX5_keeps 11 = .ok (.sipush 408, 3) := by decide +kernel
theorem dX5_keeps_14 : decode cX5_keeps 14 = .ok (.if_icmp .ge 24, 3) := by decide +kernel
theorem dX5_keeps_17 : decode cX5_keeps 17 = .ok (.aload_n 0, 1) := by decide +kernel
theorem dX5_keeps_18 : decode cX5_keeps 18 = .ok (.getfield 13, 3) := by decide +kernel
theorem dX5_keeps_21 : decode cX5_keeps 21 = .ok (.iload_n 1, 1) := by decide +kernel
theorem dX5_keeps_22 : decode cX5_keeps 22 = .ok (.aload_n 0, 1) := by decide +kernel
theorem dX5_keeps_23 : decode cX5_keeps 23 = .ok (.getfield 13, 3) := by decide +kernel
theorem dX5_keeps_26 : decode cX5_keeps 26 = .ok (.iload_n 1, 1) := by decide +kernel
theorem dX5_keeps_27 : decode cX5_keeps 27 = .ok (.bipush 102, 2) := by decide +kernel
theorem dX5_keeps_29 : decode cX5_keeps 29 = .ok (.iadd, 1) := by decide +kernel
theorem dX5_keeps_30 : decode cX5_keeps 30 = .ok (.iaload, 1) := by decide +kernel
theorem dX5_keeps_31 : decode cX5_keeps 31 = .ok (.iastore, 1) := by decide +kernel
theorem dX5_keeps_32 : decode cX5_keeps 32 = .ok (.iinc 1 1, 3) := by decide +kernel
theorem dX5_keeps_35 : decode cX5_keeps 35 = .ok (.goto (-25), 3) := by decide +kernel
theorem dX5_keeps_38 : decode cX5_keeps 38 = .ok (.aload_n 0, 1) := by decide +kernel
theorem dX5_keeps_39 : decode cX5_keeps 39 = .ok (.dup, 1) := by decide +kernel
theorem dX5_keeps_40 : decode cX5_keeps 40 = .ok (.getfield 28, 3) := by decide +kernel
theorem dX5_keeps_43 : decode cX5_keeps 43 = .ok (.iconst 1, 1) := by decide +kernel
theorem dX5_keeps_44 : decode cX5_keeps 44 = .ok (.isub, 1) := by decide +kernel
theorem dX5_keeps_45 : decode cX5_keeps 45 = .ok (.putfield 28, 3) := by decide +kernel
theorem dX5_keeps_48 : decode cX5_keeps 48 = .ok (.iconst 0, 1) := by decide +kernel
theorem dX5_keeps_49 : decode cX5_keeps 49 = .ok (.istore_n 1, 1) := by decide +kernel
theorem dX5_keeps_50 : decode cX5_keeps 50 = .ok (.iload_n 1, 1) := by decide +kernel
theorem dX5_keeps_51 : decode cX5_keeps 51 = .ok (.bipush 102, 2) := by decide +kernel
theorem dX5_keeps_53 : decode cX5_keeps 53 = .ok (.if_icmp .ge 29, 3) := by decide +kernel
theorem dX5_keeps_56 : decode cX5_keeps 56 = .ok (.aload_n 0, 1) := by decide +kernel
theorem dX5_keeps_57 : decode cX5_keeps 57 = .ok (.getfield 13, 3) := by decide +kernel
theorem dX5_keeps_60 : decode cX5_keeps 60 = .ok (.bipush 102, 2) := by decide +kernel
theorem dX5_keeps_62 : decode cX5_keeps 62 = .ok (.aload_n 0, 1) := by decide +kernel
theorem dX5_keeps_63 : decode cX5_keeps 63 = .ok (.getfield 28, 3) := by decide +kernel
theorem dX5_keeps_66 : decode cX5_keeps 66 = .ok (.imul, 1) := by decide +kernel
theorem dX5_keeps_67 : decode cX5_keeps 67 = .ok (.iload_n 1, 1) := by decide +kernel
theorem dX5_keeps_68 : decode cX5_keeps 68 = .ok (.iadd, 1) := by decide +kernel
theorem dX5_keeps_69 : decode cX5_keeps 69 = .ok (.aload_n 0, 1) := by decide +kernel
theorem dX5_keeps_70 : decode cX5_keeps 70 = .ok (.getfield 16, 3) := by decide +kernel
theorem dX5_keeps_73 : decode cX5_keeps 73 = .ok (.iload_n 1, 1) := by decide +kernel
theorem dX5_keeps_74 : decode cX5_keeps 74 = .ok (.iaload, 1) := by decide +kernel
theorem dX5_keeps_75 : decode cX5_keeps 75 = .ok (.iastore, 1) := by decide +kernel
theorem dX5_keeps_76 : decode cX5_keeps 76 = .ok (.iinc 1 1, 3) := by decide +kernel
theorem dX5_keeps_79 : decode cX5_keeps 79 = .ok (.goto (-29), 3) := by decide +kernel
theorem dX5_keeps_82 : decode cX5_keeps 82 = .ok (.aload_n 0, 1) := by decide +kernel
theorem dX5_keeps_83 : decode cX5_keeps 83 = .ok (.dup, 1) := by decide +kernel
theorem dX5_keeps_84 : decode cX5_keeps 84 = .ok (.getfield 28, 3) := by decide +kernel
theorem dX5_keeps_87 : decode cX5_keeps 87 = .ok (.iconst 1, 1) := by decide +kernel
theorem dX5_keeps_88 : decode cX5_keeps 88 = .ok (.iadd, 1) := by decide +kernel
theorem dX5_keeps_89 : decode cX5_keeps 89 = .ok (.putfield 28, 3) := by decide +kernel
theorem dX5_keeps_92 : decode cX5_keeps 92 = .ok (.return_, 1) := by decide +kernel
set_option maxRecDepth 20000 in
theorem ggX5_acted_X5_keeps : GoodIn wsX5_acted wsX5_keeps := goodIn_r _ [5, 6, 7, 8, 9, 10, 11, 12, 13, 14, 15, 16, 17, 18, 19, 20, 21, 22, 23] (by decide +kernel) (by decide +kernel)
set_option maxRecDepth 20000 in
theorem gX5_acted_X5_keeps : GoodIn wsX5_acted (wsV RX5 32 RX5 yX5_keeps wsX5_keeps) := goodIn_app (goodIn_of _ (by decide +kernel)) ggX5_acted_X5_keeps
theorem dX5_acted_0 : decode cX5_acted 0 = .ok (.iload_n 1, 1) := by decide +kernel
theorem dX5_acted_1 : decode cX5_acted 1 = .ok (.ifCond .lt 7, 3) := by decide +kernel
theorem dX5_acted_4 : decode cX5_acted 4 = .ok (.aload_n 0, 1) := by decide +kernel
theorem dX5_acted_5 : decode cX5_acted 5 = .ok (.invokevirtual 32, 3) := by decide +kernel
theorem dX5_acted_8 : decode cX5_acted 8 = .ok (.iload_n 1, 1) := by decide +kernel
theorem dX5_acted_9 : decode cX5_acted 9 = .ok (.ireturn, 1) := by decide +kernel
theorem dX5_undo_0 : decode cX5_undo 0 = .ok (.aload_n 0, 1) := by decide +kernel
theorem dX5_undo_1 : decode cX5_undo 1 = .ok (.getfield 28, 3) := by decide +kernel
theorem dX5_undo_4 : decode cX5_undo 4 = .ok (.ifCond .ne 6, 3) := by decide +kernel
theorem dX5_undo_7 : decode cX5_undo 7 = .ok (.bipush (-2), 2) := by decide +kernel
theorem dX5_undo_9 : decode cX5_undo 9 = .ok (.ireturn, 1) := by decide +kernel
theorem dX5_undo_10 : decode cX5_undo 10 = .ok (.aload_n 0, 1) := by decide +kernel
theorem dX5_undo_11 : decode cX5_undo 11 = .ok (.dup, 1) := by decide +kernel
theorem dX5_undo_12 : decode cX5_undo 12 = .ok (.getfield 28, 3) := by decide +kernel
theorem dX5_undo_15 : decode cX5_undo 15 = .ok (.iconst 1, 1) := by decide +kernel
theorem dX5_undo_16 : decode cX5_undo 16 = .ok (.isub, 1) := by decide +kernel
theorem dX5_undo_17 : decode cX5_undo 17 = .ok (.putfield 28, 3) := by decide +kernel
theorem dX5_undo_20 : decode cX5_undo 20 = .ok (.iconst 0, 1) := by decide +kernel
theorem dX5_undo_21 : decode cX5_undo 21 = .ok (.istore_n 1, 1) := by decide +kernel
theorem dX5_undo_22 : decode cX5_undo 22 = .ok (.iload_n 1, 1) := by decide +kernel
theorem dX5_undo_23 : decode cX5_undo 23 = .ok (.bipush 102, 2) := by decide +kernel
theorem dX5_undo_25 : decode cX5_undo 25 = .ok (.if_icmp .ge 29, 3) := by decide +kernel
theorem dX5_undo_28 : decode cX5_undo 28 = .ok (.aload_n 0, 1) := by decide +kernel
theorem dX5_undo_29 : decode cX5_undo 29 = .ok (.getfield 7, 3) := by decide +kernel
theorem dX5_undo_32 : decode cX5_undo 32 = .ok (.iload_n 1, 1) := by decide +kernel
theorem dX5_undo_33 : decode cX5_undo 33 = .ok (.aload_n 0, 1) := by decide +kernel
theorem dX5_undo_34 : decode cX5_undo 34 = .ok (.getfield 13, 3) := by decide +kernel
theorem dX5_undo_37 : decode cX5_undo 37 = .ok (.bipush 102, 2) := by decide +kernel
theorem dX5_undo_39 : decode cX5_undo 39 = .ok (.aload_n 0, 1) := by decide +kernel
theorem dX5_undo_40 : decode cX5_undo 40 = .ok (.getfield 28, 3) := by decide +kernel
theorem dX5_undo_43 : decode cX5_undo 43 = .ok (.imul, 1) := by decide +kernel
theorem dX5_undo_44 : decode cX5_undo 44 = .ok (.iload_n 1, 1) := by decide +kernel
theorem dX5_undo_45 : decode cX5_undo 45 = .ok (.iadd, 1) := by decide +kernel
theorem dX5_undo_46 : decode cX5_undo 46 = .ok (.iaload, 1) := by decide +kernel
theorem dX5_undo_47 : decode cX5_undo 47 = .ok (.iastore, 1) := by decide +kernel
theorem dX5_undo_48 : decode cX5_undo 48 = .ok (.iinc 1 1, 3) := by decide +kernel
theorem dX5_undo_51 : decode cX5_undo 51 = .ok (.goto (-29), 3) := by decide +kernel
theorem dX5_undo_54 : decode cX5_undo 54 = .ok (.aload_n 0, 1) := by decide +kernel
theorem dX5_undo_55 : decode cX5_undo 55 = .ok (.getfield 28, 3) := by decide +kernel
theorem dX5_undo_58 : decode cX5_undo 58 = .ok (.ireturn, 1) := by decide +kernel
set_option maxRecDepth 20000 in
theorem ggX5_isServer_X5_in : GoodIn wsX5_isServer wsX5_in := goodIn_r _ [5] (by decide +kernel) (by decide +kernel)
set_option maxRecDepth 20000 in
theorem gX5_isServer_X5_in : GoodIn wsX5_isServer (va_wsS RX5 35 yX5_in wsX5_in) := goodIn_app (goodIn_of _ (by decide +kernel)) ggX5_isServer_X5_in
theorem dX5_isServer_0 : decode cX5_isServer 0 = .ok (.iload_n 1, 1) := by decide +kernel
theorem dX5_isServer_1 : decode cX5_isServer 1 = .ok (.iconst 0, 1) := by decide +kernel
theorem dX5_isServer_2 : decode cX5_isServer 2 = .ok (.aload_n 0, 1) := by decide +kernel
theorem dX5_isServer_3 : decode cX5_isServer 3 = .ok (.getfield 7, 3) := by decide +kernel
theorem dX5_isServer_6 : decode cX5_isServer 6 = .ok (.iconst 0, 1) := by decide +kernel
theorem dX5_isServer_7 : decode cX5_isServer 7 = .ok (.iaload, 1) := by decide +kernel
theorem dX5_isServer_8 : decode cX5_isServer 8 = .ok (.iconst 1, 1) := by decide +kernel
theorem dX5_isServer_9 : decode cX5_isServer 9 = .ok (.isub, 1) := by decide +kernel
theorem dX5_isServer_10 : decode cX5_isServer 10 = .ok (.invokestatic 35, 3) := by decide +kernel
theorem dX5_isServer_13 : decode cX5_isServer 13 = .ok (.ireturn, 1) := by decide +kernel
set_option maxRecDepth 20000 in
theorem ggX5_isJob_X5_in : GoodIn wsX5_isJob wsX5_in := goodIn_r _ [5] (by decide +kernel) (by decide +kernel)
set_option maxRecDepth 20000 in
theorem gX5_isJob_X5_in : GoodIn wsX5_isJob (va_wsS RX5 35 yX5_in wsX5_in) := goodIn_app (goodIn_of _ (by decide +kernel)) ggX5_isJob_X5_in
theorem dX5_isJob_0 : decode cX5_isJob 0 = .ok (.iload_n 1, 1) := by decide +kernel
theorem dX5_isJob_1 : decode cX5_isJob 1 = .ok (.iconst 0, 1) := by decide +kernel
theorem dX5_isJob_2 : decode cX5_isJob 2 = .ok (.aload_n 0, 1) := by decide +kernel
theorem dX5_isJob_3 : decode cX5_isJob 3 = .ok (.getfield 7, 3) := by decide +kernel
theorem dX5_isJob_6 : decode cX5_isJob 6 = .ok (.iconst 2, 1) := by decide +kernel
theorem dX5_isJob_7 : decode cX5_isJob 7 = .ok (.iaload, 1) := by decide +kernel
theorem dX5_isJob_8 : decode cX5_isJob 8 = .ok (.iconst 1, 1) := by decide +kernel
theorem dX5_isJob_9 : decode cX5_isJob 9 = .ok (.isub, 1) := by decide +kernel
theorem dX5_isJob_10 : decode cX5_isJob 10 = .ok (.invokestatic 35, 3) := by decide +kernel
theorem dX5_isJob_13 : decode cX5_isJob 13 = .ok (.ireturn, 1) := by decide +kernel
theorem dX5_of_0 : decode cX5_of 0 = .ok (.aload_n 0, 1) := by decide +kernel
theorem dX5_of_1 : decode cX5_of 1 = .ok (.getfield 7, 3) := by decide +kernel
theorem dX5_of_4 : decode cX5_of 4 = .ok (.bipush 6, 2) := by decide +kernel
theorem dX5_of_6 : decode cX5_of 6 = .ok (.iconst 4, 1) := by decide +kernel
theorem dX5_of_7 : decode cX5_of 7 = .ok (.iload_n 1, 1) := by decide +kernel
theorem dX5_of_8 : decode cX5_of 8 = .ok (.imul, 1) := by decide +kernel
theorem dX5_of_9 : decode cX5_of 9 = .ok (.iadd, 1) := by decide +kernel
theorem dX5_of_10 : decode cX5_of 10 = .ok (.iload_n 2, 1) := by decide +kernel
theorem dX5_of_11 : decode cX5_of 11 = .ok (.iadd, 1) := by decide +kernel
theorem dX5_of_12 : decode cX5_of 12 = .ok (.iaload, 1) := by decide +kernel
theorem dX5_of_13 : decode cX5_of 13 = .ok (.ireturn, 1) := by decide +kernel
set_option maxRecDepth 20000 in
theorem ggX5_isOpen_X5_isServer : GoodIn wsX5_isOpen wsX5_isServer := goodIn_r _ [6, 1, 7, 8, 5, 9, 10, 11, 12, 13, 14, 15, 16, 17, 18, 19, 20, 21, 22, 23, 24] (by decide +kernel) (by decide +kernel)
set_option maxRecDepth 20000 in
theorem gX5_isOpen_X5_isServer : GoodIn wsX5_isOpen (wsV RX5 39 RX5 yX5_isServer wsX5_isServer) := goodIn_app (goodIn_of _ (by decide +kernel)) ggX5_isOpen_X5_isServer
theorem dX5_isOpen_0 : decode cX5_isOpen 0 = .ok (.aload_n 0, 1) := by decide +kernel
theorem dX5_isOpen_1 : decode cX5_isOpen 1 = .ok (.iload_n 1, 1) := by decide +kernel
theorem dX5_isOpen_2 : decode cX5_isOpen 2 = .ok (.invokevirtual 39, 3) := by decide +kernel
theorem dX5_isOpen_5 : decode cX5_isOpen 5 = .ok (.ifCond .eq 21, 3) := by decide +kernel
theorem dX5_isOpen_8 : decode cX5_isOpen 8 = .ok (.aload_n 0, 1) := by decide +kernel
theorem dX5_isOpen_9 : decode cX5_isOpen 9 = .ok (.getfield 7, 3) := by decide +kernel
theorem dX5_isOpen_12 : decode cX5_isOpen 12 = .ok (.iconst 1, 1) := by decide +kernel
theorem dX5_isOpen_13 : decode cX5_isOpen 13 = .ok (.iaload, 1) := by decide +kernel
theorem dX5_isOpen_14 : decode cX5_isOpen 14 = .ok (.iload_n 1, 1) := by decide +kernel
theorem dX5_isOpen_15 : decode cX5_isOpen 15 = .ok (.ishr, 1) := by decide +kernel
theorem dX5_isOpen_16 : decode cX5_isOpen 16 = .ok (.iconst 1, 1) := by decide +kernel
theorem dX5_isOpen_17 : decode cX5_isOpen 17 = .ok (.iand, 1) := by decide +kernel
theorem dX5_isOpen_18 : decode cX5_isOpen 18 = .ok (.iconst 1, 1) := by decide +kernel
theorem dX5_isOpen_19 : decode cX5_isOpen 19 = .ok (.if_icmp .ne 7, 3) := by decide +kernel
theorem dX5_isOpen_22 : decode cX5_isOpen 22 = .ok (.iconst 1, 1) := by decide +kernel
theorem dX5_isOpen_23 : decode cX5_isOpen 23 = .ok (.goto 4, 3) := by decide +kernel
theorem dX5_isOpen_26 : decode cX5_isOpen 26 = .ok (.iconst 0, 1) := by decide +kernel
theorem dX5_isOpen_27 : decode cX5_isOpen 27 = .ok (.ireturn, 1) := by decide +kernel
set_option maxRecDepth 20000 in
theorem ggX5_isDone_X5_of : GoodIn wsX5_isDone wsX5_of := goodIn_r _ [5, 6, 7, 8, 9, 10, 11, 12, 13, 14, 15, 16, 17, 18, 19, 20, 21] (by decide +kernel) (by decide +kernel)
set_option maxRecDepth 20000 in
theorem gX5_isDone_X5_of : GoodIn wsX5_isDone (wsV RX5 43 RX5 yX5_of wsX5_of) := goodIn_app (goodIn_of _ (by decide +kernel)) ggX5_isDone_X5_of
theorem dX5_isDone_0 : decode cX5_isDone 0 = .ok (.aload_n 0, 1) := by decide +kernel
theorem dX5_isDone_1 : decode cX5_isDone 1 = .ok (.iload_n 1, 1) := by decide +kernel
theorem dX5_isDone_2 : decode cX5_isDone 2 = .ok (.iconst 2, 1) := by decide +kernel
theorem dX5_isDone_3 : decode cX5_isDone 3 = .ok (.invokevirtual 43, 3) := by decide +kernel
theorem dX5_isDone_6 : decode cX5_isDone 6 = .ok (.bipush (-9), 2) := by decide +kernel
theorem dX5_isDone_8 : decode cX5_isDone 8 = .ok (.if_icmp .ne 7, 3) := by decide +kernel
theorem dX5_isDone_11 : decode cX5_isDone 11 = .ok (.iconst 1, 1) := by decide +kernel
theorem dX5_isDone_12 : decode cX5_isDone 12 = .ok (.goto 4, 3) := by decide +kernel
theorem dX5_isDone_15 : decode cX5_isDone 15 = .ok (.iconst 0, 1) := by decide +kernel
theorem dX5_isDone_16 : decode cX5_isDone 16 = .ok (.ireturn, 1) := by decide +kernel
theorem dX5_opens_0 : decode cX5_opens 0 = .ok (.iconst 0, 1) := by decide +kernel
theorem dX5_opens_1 : decode cX5_opens 1 = .ok (.istore_n 1, 1) := by decide +kernel
theorem dX5_opens_2 : decode cX5_opens 2 = .ok (.iconst 0, 1) := by decide +kernel
theorem dX5_opens_3 : decode cX5_opens 3 = .ok (.istore_n 2, 1) := by decide +kernel
theorem dX5_opens_4 : decode cX5_opens 4 = .ok (.iload_n 2, 1) := by decide +kernel
theorem dX5_opens_5 : decode cX5_opens 5 = .ok (.bipush 6, 2) := by decide +kernel
theorem dX5_opens_7 : decode cX5_opens 7 = .ok (.if_icmp .ge 22, 3) := by decide +kernel
theorem dX5_opens_10 : decode cX5_opens 10 = .ok (.iload_n 1, 1) := by decide +kernel
theorem dX5_opens_11 : decode cX5_opens 11 = .ok (.aload_n 0, 1) := by decide +kernel
theorem dX5_opens_12 : decode cX5_opens 12 = .ok (.getfield 7, 3) := by decide +kernel
theorem dX5_opens_15 : decode cX5_opens 15 = .ok (.iconst 1, 1) := by decide +kernel
theorem dX5_opens_16 : decode cX5_opens 16 = .ok (.iaload, 1) := by decide +kernel
theorem dX5_opens_17 : decode cX5_opens 17 = .ok (.iload_n 2, 1) := by decide +kernel
theorem dX5_opens_18 : decode cX5_opens 18 = .ok (.ishr, 1) := by decide +kernel
theorem dX5_opens_19 : decode cX5_opens 19 = .ok (.iconst 1, 1) := by decide +kernel
theorem dX5_opens_20 : decode cX5_opens 20 = .ok (.iand, 1) := by decide +kernel
theorem dX5_opens_21 : decode cX5_opens 21 = .ok (.iadd, 1) := by decide +kernel
theorem dX5_opens_22 : decode cX5_opens 22 = .ok (.istore_n 1, 1) := by decide +kernel
theorem dX5_opens_23 : decode cX5_opens 23 = .ok (.iinc 2 1, 3) := by decide +kernel
theorem dX5_opens_26 : decode cX5_opens 26 = .ok (.goto (-22), 3) := by decide +kernel
theorem dX5_opens_29 : decode cX5_opens 29 = .ok (.iload_n 1, 1) := by decide +kernel
theorem dX5_opens_30 : decode cX5_opens 30 = .ok (.ireturn, 1) := by decide +kernel
set_option maxRecDepth 20000 in
theorem ggX5_load_X5_of : GoodIn wsX5_load wsX5_of := goodIn_r _ [6, 1, 7, 8, 9, 10, 11, 12, 13, 14, 15, 16, 17, 18, 19, 20, 21] (by decide +kernel) (by decide +kernel)
set_option maxRecDepth 20000 in
theorem gX5_load_X5_of : GoodIn wsX5_load (wsV RX5 43 RX5 yX5_of wsX5_of) := goodIn_app (goodIn_of _ (by decide +kernel)) ggX5_load_X5_of
theorem dX5_load_0 : decode cX5_load 0 = .ok (.iconst 0, 1) := by decide +kernel
theorem dX5_load_1 : decode cX5_load 1 = .ok (.istore_n 2, 1) := by decide +kernel
theorem dX5_load_2 : decode cX5_load 2 = .ok (.iconst 0, 1) := by decide +kernel
theorem dX5_load_3 : decode cX5_load 3 = .ok (.istore_n 3, 1) := by decide +kernel
theorem dX5_load_4 : decode cX5_load 4 = .ok (.iload_n 3, 1) := by decide +kernel
theorem dX5_load_5 : decode cX5_load 5 = .ok (.aload_n 0, 1) := by decide +kernel
theorem dX5_load_6 : decode cX5_load 6 = .ok (.getfield 7, 3) := by decide +kernel
theorem dX5_load_9 : decode cX5_load 9 = .ok (.iconst 2, 1) := by decide +kernel
theorem dX5_load_10 : decode cX5_load 10 = .ok (.iaload, 1) := by decide +kernel
theorem dX5_load_11 : decode cX5_load 11 = .ok (.if_icmp .ge 32, 3) := by decide +kernel
theorem dX5_load_14 : decode cX5_load 14 = .ok (.iload_n 2, 1) := by decide +kernel
theorem dX5_load_15 : decode cX5_load 15 = .ok (.aload_n 0, 1) := by decide +kernel
theorem dX5_load_16 : decode cX5_load 16 = .ok (.iload_n 3, 1) := by decide +kernel
theorem dX5_load_17 : decode cX5_load 17 = .ok (.iconst 2, 1) := by decide +kernel
theorem dX5_load_18 : decode cX5_load 18 = .ok (.invokevirtual 43, 3) := by decide +kernel
theorem dX5_load_21 : decode cX5_load 21 = .ok (.iload_n 1, 1) := by decide +kernel
theorem dX5_load_22 : decode cX5_load 22 = .ok (.if_icmp .ne 12, 3) := by decide +kernel
theorem dX5_load_25 : decode cX5_load 25 = .ok (.aload_n 0, 1) := by decide +kernel
theorem dX5_load_26 : decode cX5_load 26 = .ok (.iload_n 3, 1) := by decide +kernel
theorem dX5_load_27 : decode cX5_load 27 = .ok (.iconst 0, 1) := by decide +kernel
theorem dX5_load_28 : decode cX5_load 28 = .ok (.invokevirtual 43, 3) := by decide +kernel
theorem dX5_load_31 : decode cX5_load 31 = .ok (.goto 4, 3) := by decide +kernel
theorem dX5_load_34 : decode cX5_load 34 = .ok (.iconst 0, 1) := by decide +kernel
theorem dX5_load_35 : decode cX5_load 35 = .ok (.iadd, 1) := by decide +kernel
theorem dX5_load_36 : decode cX5_load 36 = .ok (.istore_n 2, 1) := by decide +kernel
theorem dX5_load_37 : decode cX5_load 37 = .ok (.iinc 3 1, 3) := by decide +kernel
theorem dX5_load_40 : decode cX5_load 40 = .ok (.goto (-36), 3) := by decide +kernel
theorem dX5_load_43 : decode cX5_load 43 = .ok (.iload_n 2, 1) := by decide +kernel
theorem dX5_load_44 : decode cX5_load 44 = .ok (.ireturn, 1) := by decide +kernel
set_option maxRecDepth 20000 in
theorem ggX5_allLoads_X5_isDone : GoodIn wsX5_allLoads wsX5_isDone := goodIn_r _ [6, 7, 8, 9, 5, 10, 1, 11, 12, 13, 14, 15, 16, 17, 18, 19, 20, 21, 22, 23, 24, 25] (by decide +kernel) (by decide +kernel)
set_option maxRecDepth 20000 in
theorem gX5_allLoads_X5_isDone : GoodIn wsX5_allLoads (wsV RX5 47 RX5 yX5_isDone wsX5_isDone) := goodIn_app (goodIn_of _ (by decide +kernel)) ggX5_allLoads_X5_isDone
set_option maxRecDepth 20000 in
theorem ggX5_allLoads_X5_of : GoodIn wsX5_allLoads wsX5_of := goodIn_r _ [10, 1, 11, 12, 13, 14, 15, 16, 17, 18, 19, 20, 21, 22, 23, 24, 25] (by decide +kernel) (by decide +kernel)
set_option maxRecDepth 20000 in
theorem gX5_allLoads_X5_of : GoodIn wsX5_allLoads (wsV RX5 43 RX5 yX5_of wsX5_of) := goodIn_app (goodIn_of _ (by decide +kernel)) ggX5_allLoads_X5_of
theorem dX5_allLoads_0 : decode cX5_allLoads 0 = .ok (.iconst 0, 1) := by decide +kernel
theorem dX5_allLoads_1 : decode cX5_allLoads 1 = .ok (.istore_n 1, 1) := by decide +kernel
theorem dX5_allLoads_2 : decode cX5_allLoads 2 = .ok (.iconst 0, 1) := by decide +kernel
theorem dX5_allLoads_3 : decode cX5_allLoads 3 = .ok (.istore_n 2, 1) := by decide +kernel
theorem dX5_allLoads_4 : decode cX5_allLoads 4 = .ok (.iload_n 2, 1) := by decide +kernel
theorem dX5_allLoads_5 : decode cX5_allLoads 5 = .ok (.aload_n 0, 1) := by decide +kernel
theorem dX5_allLoads_6 : decode cX5_allLoads 6 = .ok (.getfield 7, 3) := by decide +kernel
theorem dX5_allLoads_9 : decode cX5_allLoads 9 = .ok (.iconst 2, 1) := by decide +kernel
theorem dX5_allLoads_10 : decode cX5_allLoads 10 = .ok (.iaload, 1) := by decide +kernel
theorem dX5_allLoads_11 : decode cX5_allLoads 11 = .ok (.if_icmp .ge 30, 3) := by decide +kernel
theorem dX5_allLoads_14 : decode cX5_allLoads 14 = .ok (.iload_n 1, 1) := by decide +kernel
theorem dX5_allLoads_15 : decode cX5_allLoads 15 = .ok (.aload_n 0, 1) := by decide +kernel
theorem dX5_allLoads_16 : decode cX5_allLoads 16 = .ok (.iload_n 2, 1) := by decide +kernel
theorem dX5_allLoads_17 : decode cX5_allLoads 17 = .ok (.invokevirtual 47, 3) := by decide +kernel
theorem dX5_allLoads_20 : decode cX5_allLoads 20 = .ok (.ifCond .eq 7, 3) := by decide +kernel
theorem dX5_allLoads_23 : decode cX5_allLoads 23 = .ok (.iconst 0, 1) := by decide +kernel
theorem dX5_allLoads_24 : decode cX5_allLoads 24 = .ok (.goto 9, 3) := by decide +kernel
theorem dX5_allLoads_27 : decode cX5_allLoads 27 = .ok (.aload_n 0, 1) := by decide +kernel
theorem dX5_allLoads_28 : decode cX5_allLoads 28 = .ok (.iload_n 2, 1) := by decide +kernel
theorem dX5_allLoads_29 : decode cX5_allLoads 29 = .ok (.iconst 0, 1) := by decide +kernel
theorem dX5_allLoads_30 : decode cX5_allLoads 30 = .ok (.invokevirtual 43, 3) := by decide +kernel
theorem dX5_allLoads_33 : decode cX5_allLoads 33 = .ok (.iadd, 1) := by decide +kernel
theorem dX5_allLoads_34 : decode cX5_allLoads 34 = .ok (.istore_n 1, 1) := by decide +kernel
theorem dX5_allLoads_35 : decode cX5_allLoads 35 = .ok (.iinc 2 1, 3) := by decide +kernel
theorem dX5_allLoads_38 : decode cX5_allLoads 38 = .ok (.goto (-34), 3) := by decide +kernel
theorem dX5_allLoads_41 : decode cX5_allLoads 41 = .ok (.iload_n 1, 1) := by decide +kernel
theorem dX5_allLoads_42 : decode cX5_allLoads 42 = .ok (.ireturn, 1) := by decide +kernel
set_option maxRecDepth 20000 in
theorem ggX5_greatest_X5_load : GoodIn wsX5_greatest wsX5_load := goodIn_r _ [6, 1, 7, 8, 9, 5, 10, 14, 15, 16, 17, 18, 19, 20, 21, 22, 23, 24, 25, 26, 27, 28] (by decide +kernel) (by decide +kernel)
set_option maxRecDepth 20000 in
theorem gX5_greatest_X5_load : GoodIn wsX5_greatest (wsV RX5 50 RX5 yX5_load wsX5_load) := goodIn_app (goodIn_of _ (by decide +kernel)) ggX5_greatest_X5_load
set_option maxRecDepth 20000 in
theorem ggX5_greatest_X5_greater : GoodIn wsX5_greatest wsX5_greater := goodIn_r _ [13] (by decide +kernel) (by decide +kernel)
set_option maxRecDepth 20000 in
theorem gX5_greatest_X5_greater : GoodIn wsX5_greatest (va_wsS RX5 54 yX5_greater wsX5_greater) := goodIn_app (goodIn_of _ (by decide +kernel)) ggX5_greatest_X5_greater
theorem dX5_greatest_0 : decode cX5_greatest 0 = .ok (.iconst 0, 1) := by decide +kernel
theorem dX5_greatest_1 : decode cX5_greatest 1 = .ok (.istore_n 1, 1) := by decide +kernel
theorem dX5_greatest_2 : decode cX5_greatest 2 = .ok (.iconst 0, 1) := by decide +kernel
theorem dX5_greatest_3 : decode cX5_greatest 3 = .ok (.istore_n 2, 1) := by decide +kernel
theorem dX5_greatest_4 : decode cX5_greatest 4 = .ok (.iload_n 2, 1) := by decide +kernel
theorem dX5_greatest_5 : decode cX5_greatest 5 = .ok (.aload_n 0, 1) := by decide +kernel
theorem dX5_greatest_6 : decode cX5_greatest 6 = .ok (.getfield 7, 3) := by decide +kernel
theorem dX5_greatest_9 : decode cX5_greatest 9 = .ok (.iconst 0, 1) := by decide +kernel
theorem dX5_greatest_10 : decode cX5_greatest 10 = .ok (.iaload, 1) := by decide +kernel
theorem dX5_greatest_11 : decode cX5_greatest 11 = .ok (.if_icmp .ge 19, 3) := by decide +kernel
theorem dX5_greatest_14 : decode cX5_greatest 14 = .ok (.iload_n 1, 1) := by decide +kernel
theorem dX5_greatest_15 : decode cX5_greatest 15 = .ok (.aload_n 0, 1) := by decide +kernel
theorem dX5_greatest_16 : decode cX5_greatest 16 = .ok (.iload_n 2, 1) := by decide +kernel
theorem dX5_greatest_17 : decode cX5_greatest 17 = .ok (.invokevirtual 50, 3) := by decide +kernel
theorem dX5_greatest_20 : decode cX5_greatest 20 = .ok (.invokestatic 54, 3) := by decide +kernel
theorem dX5_greatest_23 : decode cX5_greatest 23 = .ok (.istore_n 1, 1) := by decide +kernel
theorem dX5_greatest_24 : decode cX5_greatest 24 = .ok (.iinc 2 1, 3) := by decide +kernel
theorem dX5_greatest_27 : decode cX5_greatest 27 = .ok (.goto (-23), 3) := by decide +kernel
theorem dX5_greatest_30 : decode cX5_greatest 30 = .ok (.iload_n 1, 1) := by decide +kernel
theorem dX5_greatest_31 : decode cX5_greatest 31 = .ok (.ireturn, 1) := by decide +kernel
set_option maxRecDepth 20000 in
theorem ggX5_bound_X5_isDone : GoodIn wsX5_bound wsX5_isDone := goodIn_r _ [6, 7, 8, 9, 5, 10, 1, 22, 23, 24, 25, 26, 27, 28, 29, 30, 31, 32, 33, 34, 35, 36] (by decide +kernel) (by decide +kernel)
set_option maxRecDepth 20000 in
theorem gX5_bound_X5_isDone : GoodIn wsX5_bound (wsV RX5 47 RX5 yX5_isDone wsX5_isDone) := goodIn_app (goodIn_of _ (by decide +kernel)) ggX5_bound_X5_isDone
set_option maxRecDepth 20000 in
theorem ggX5_bound_X5_of : GoodIn wsX5_bound wsX5_of := goodIn_r _ [10, 1, 22, 23, 24, 25, 26, 27, 28, 29, 30, 31, 32, 33, 34, 35, 36] (by decide +kernel) (by decide +kernel)
set_option maxRecDepth 20000 in
theorem gX5_bound_X5_of : GoodIn wsX5_bound (wsV RX5 43 RX5 yX5_of wsX5_of) := goodIn_app (goodIn_of _ (by decide +kernel)) ggX5_bound_X5_of
set_option maxRecDepth 20000 in
theorem ggX5_bound_X5_greater : GoodIn wsX5_bound wsX5_greater := goodIn_r _ [13] (by decide +kernel) (by decide +kernel)
set_option maxRecDepth 20000 in
theorem gX5_bound_X5_greater : GoodIn wsX5_bound (va_wsS RX5 54 yX5_greater wsX5_greater) := goodIn_app (goodIn_of _ (by decide +kernel)) ggX5_bound_X5_greater
set_option maxRecDepth 20000 in
theorem ggX5_bound_X5_opens : GoodIn wsX5_bound wsX5_opens := goodIn_r _ [17, 1, 22, 23, 24, 25, 26, 27, 28, 29, 30, 31, 32, 33, 34, 35, 36] (by decide +kernel) (by decide +kernel)
set_option maxRecDepth 20000 in
theorem gX5_bound_X5_opens : GoodIn wsX5_bound (wsV RX5 57 RX5 yX5_opens wsX5_opens) := goodIn_app (goodIn_of _ (by decide +kernel)) ggX5_bound_X5_opens
set_option maxRecDepth 20000 in
theorem ggX5_bound_X5_allLoads : GoodIn wsX5_bound wsX5_allLoads := goodIn_r _ [21, 1, 2, 3, 4, 5, 6, 7, 8, 9, 10, 22, 23, 24, 25, 26, 27, 28, 29, 30, 31, 32, 33, 34, 35, 36] (by decide +kernel) (by decide +kernel)
set_option maxRecDepth 20000 in
theorem gX5_bound_X5_allLoads : GoodIn wsX5_bound (wsV RX5 61 RX5 yX5_allLoads wsX5_allLoads) := goodIn_app (goodIn_of _ (by decide +kernel)) ggX5_bound_X5_allLoads
theorem dX5_bound_0 : decode cX5_bound 0 = .ok (.iconst 0, 1) := by decide +kernel
theorem dX5_bound_1 : decode cX5_bound 1 = .ok (.istore_n 1, 1) := by decide +kernel
theorem dX5_bound_2 : decode cX5_bound 2 = .ok (.iconst 0, 1) := by decide +kernel
theorem dX5_bound_3 : decode cX5_bound 3 = .ok (.istore_n 2, 1) := by decide +kernel
theorem dX5_bound_4 : decode cX5_bound 4 = .ok (.iload_n 2, 1) := by decide +kernel
theorem dX5_bound_5 : decode cX5_bound 5 = .ok (.aload_n 0, 1) := by decide +kernel
theorem dX5_bound_6 : decode cX5_bound 6 = .ok (.getfield 7, 3) := by decide +kernel
theorem dX5_bound_9 : decode cX5_bound 9 = .ok (.iconst 2, 1) := by decide +kernel
theorem dX5_bound_10 : decode cX5_bound 10 = .ok (.iaload, 1) := by decide +kernel
theorem dX5_bound_11 : decode cX5_bound 11 = .ok (.if_icmp .ge 32, 3) := by decide +kernel
theorem dX5_bound_14 : decode cX5_bound 14 = .ok (.aload_n 0, 1) := by decide +kernel
theorem dX5_bound_15 : decode cX5_bound 15 = .ok (.iload_n 2, 1) := by decide +kernel
theorem dX5_bound_16 : decode cX5_bound 16 = .ok (.invokevirtual 47, 3) := by decide +kernel
theorem dX5_bound_19 : decode cX5_bound 19 = .ok (.ifCond .eq 7, 3) := by decide +kernel
theorem dX5_bound_22 : decode cX5_bound 22 = .ok (.iload_n 1, 1) := by decide +kernel
theorem dX5_bound_23 : decode cX5_bound 23 = .ok (.goto 13, 3) := by decide +kernel
theorem dX5_bound_26 : decode cX5_bound 26 = .ok (.iload_n 1, 1) := by decide +kernel
theorem dX5_bound_27 : decode cX5_bound 27 = .ok (.aload_n 0, 1) := by decide +kernel
theorem dX5_bound_28 : decode cX5_bound 28 = .ok (.iload_n 2, 1) := by decide +kernel
theorem dX5_bound_29 : decode cX5_bound 29 = .ok (.iconst 0, 1) := by decide +kernel
theorem dX5_bound_30 : decode cX5_bound 30 = .ok (.invokevirtual 43, 3) := by decide +kernel
theorem dX5_bound_33 : decode cX5_bound 33 = .ok (.invokestatic 54, 3) := by decide +kernel
theorem dX5_bound_36 : decode cX5_bound 36 = .ok (.istore_n 1, 1) := by decide +kernel
theorem dX5_bound_37 : decode cX5_bound 37 = .ok (.iinc 2 1, 3) := by decide +kernel
theorem dX5_bound_40 : decode cX5_bound 40 = .ok (.goto (-36), 3) := by decide +kernel
theorem dX5_bound_43 : decode cX5_bound 43 = .ok (.aload_n 0, 1) := by decide +kernel
theorem dX5_bound_44 : decode cX5_bound 44 = .ok (.invokevirtual 57, 3) := by decide +kernel
theorem dX5_bound_47 : decode cX5_bound 47 = .ok (.istore_n 2, 1) := by decide +kernel
theorem dX5_bound_48 : decode cX5_bound 48 = .ok (.iload_n 2, 1) := by decide +kernel
theorem dX5_bound_49 : decode cX5_bound 49 = .ok (.ifCond .ne 7, 3) := by decide +kernel
theorem dX5_bound_52 : decode cX5_bound 52 = .ok (.iconst 0, 1) := by decide +kernel
theorem dX5_bound_53 : decode cX5_bound 53 = .ok (.goto 17, 3) := by decide +kernel
theorem dX5_bound_56 : decode cX5_bound 56 = .ok (.iload_n 1, 1) := by decide +kernel
theorem dX5_bound_57 : decode cX5_bound 57 = .ok (.aload_n 0, 1) := by decide +kernel
theorem dX5_bound_58 : decode cX5_bound 58 = .ok (.invokevirtual 61, 3) := by decide +kernel
theorem dX5_bound_61 : decode cX5_bound 61 = .ok (.iload_n 2, 1) := by decide +kernel
theorem dX5_bound_62 : decode cX5_bound 62 = .ok (.iadd, 1) := by decide +kernel
theorem dX5_bound_63 : decode cX5_bound 63 = .ok (.iconst 1, 1) := by decide +kernel
theorem dX5_bound_64 : decode cX5_bound 64 = .ok (.isub, 1) := by decide +kernel
theorem dX5_bound_65 : decode cX5_bound 65 = .ok (.iload_n 2, 1) := by decide +kernel
theorem dX5_bound_66 : decode cX5_bound 66 = .ok (.idiv, 1) := by decide +kernel
theorem dX5_bound_67 : decode cX5_bound 67 = .ok (.invokestatic 54, 3) := by decide +kernel
theorem dX5_bound_70 : decode cX5_bound 70 = .ok (.ireturn, 1) := by decide +kernel
set_option maxRecDepth 20000 in
theorem ggX5_target_X5_bound : GoodIn wsX5_target wsX5_bound := goodIn_r _ [6, 1, 7, 8, 9, 5, 10, 11, 12, 13, 14, 15, 16, 17, 18, 19, 20, 21, 22, 23, 24, 25, 26, 27, 28, 29, 30, 31, 32, 33, 34, 35, 36, 37, 38, 39, 40] (by decide +kernel) (by decide +kernel)
set_option maxRecDepth 20000 in
theorem gX5_target_X5_bound : GoodIn wsX5_target (wsV RX5 64 RX5 yX5_bound wsX5_bound) := goodIn_app (goodIn_of _ (by decide +kernel)) ggX5_target_X5_bound
theorem dX5_target_0 : decode cX5_target 0 = .ok (.aload_n 0, 1) := by decide +kernel
theorem dX5_target_1 : decode cX5_target 1 = .ok (.invokevirtual 64, 3) := by decide +kernel
theorem dX5_target_4 : decode cX5_target 4 = .ok (.aload_n 0, 1) := by decide +kernel
theorem dX5_target_5 : decode cX5_target 5 = .ok (.getfield 7, 3) := by decide +kernel
theorem dX5_target_8 : decode cX5_target 8 = .ok (.iconst 4, 1) := by decide +kernel
theorem dX5_target_9 : decode cX5_target 9 = .ok (.iaload, 1) := by decide +kernel
theorem dX5_target_10 : decode cX5_target 10 = .ok (.imul, 1) := by decide +kernel
theorem dX5_target_11 : decode cX5_target 11 = .ok (.bipush 100, 2) := by decide +kernel
theorem dX5_target_13 : decode cX5_target 13 = .ok (.idiv, 1) := by decide +kernel
theorem dX5_target_14 : decode cX5_target 14 = .ok (.ireturn, 1) := by decide +kernel
set_option maxRecDepth 20000 in
theorem ggX5_areEven_X5_greatest : GoodIn wsX5_areEven wsX5_greatest := goodIn_r _ [5, 6, 7, 8, 9, 4, 10, 11, 12, 13, 14, 15, 16, 17, 38, 39, 40, 41, 42, 43, 44, 45, 46, 47, 48, 49, 50, 51, 52] (by decide +kernel) (by decide +kernel)
set_option maxRecDepth 20000 in
theorem gX5_areEven_X5_greatest : GoodIn wsX5_areEven (wsV RX5 67 RX5 yX5_greatest wsX5_greatest) := goodIn_app (goodIn_of _ (by decide +kernel)) ggX5_areEven_X5_greatest
set_option maxRecDepth 20000 in
theorem ggX5_areEven_X5_target : GoodIn wsX5_areEven wsX5_target := goodIn_r _ [21, 6, 22, 23, 24, 4, 25, 26, 27, 28, 29, 11, 12, 13, 14, 15, 16, 17, 30, 31, 32, 33, 34, 35, 36, 37, 38, 39, 40, 41, 42, 43, 44, 45, 46, 47, 48, 49, 50, 51, 52] (by decide +kernel) (by decide +kernel)
set_option maxRecDepth 20000 in
theorem gX5_areEven_X5_target : GoodIn wsX5_areEven (wsV RX5 70 RX5 yX5_target wsX5_target) := goodIn_app (goodIn_of _ (by decide +kernel)) ggX5_areEven_X5_target
theorem dX5_areEven_0 : decode cX5_areEven 0 = .ok (.aload_n 0, 1) := by decide +kernel
theorem dX5_areEven_1 : decode cX5_areEven 1 = .ok (.invokevirtual 67, 3) := by decide +kernel
theorem dX5_areEven_4 : decode cX5_areEven 4 = .ok (.aload_n 0, 1) := by decide +kernel
theorem dX5_areEven_5 : decode cX5_areEven 5 = .ok (.invokevirtual 70, 3) := by decide +kernel
theorem dX5_areEven_8 : decode cX5_areEven 8 = .ok (.if_icmp .gt 7, 3) := by decide +kernel
theorem dX5_areEven_11 : decode cX5_areEven 11 = .ok (.iconst 1, 1) := by decide +kernel
theorem dX5_areEven_12 : decode cX5_areEven 12 = .ok (.goto 4, 3) := by decide +kernel
theorem dX5_areEven_15 : decode cX5_areEven 15 = .ok (.iconst 0, 1) := by decide +kernel
theorem dX5_areEven_16 : decode cX5_areEven 16 = .ok (.ireturn, 1) := by decide +kernel
set_option maxRecDepth 20000 in
theorem ggX5_addServer_X5_aside : GoodIn wsX5_addServer wsX5_aside := goodIn_r _ [6, 7, 1, 18, 19, 20, 21, 22, 23, 24, 25, 26, 27, 28, 29, 30, 31, 32] (by decide +kernel) (by decide +kernel)
set_option maxRecDepth 20000 in
theorem gX5_addServer_X5_aside : GoodIn wsX5_addServer (wsV RX5 73 RX5 yX5_aside wsX5_aside) := goodIn_app (goodIn_of _ (by decide +kernel)) ggX5_addServer_X5_aside
set_option maxRecDepth 20000 in
theorem ggX5_addServer_X5_acted : GoodIn wsX5_addServer wsX5_acted := goodIn_r _ [11, 12, 13, 14, 5, 15, 16, 17, 7, 18, 19, 20, 21, 22, 23, 24, 25, 26, 27, 28, 29, 30, 31, 32] (by decide +kernel) (by decide +kernel)
set_option maxRecDepth 20000 in
theorem gX5_addServer_X5_acted : GoodIn wsX5_addServer (wsV RX5 76 RX5 yX5_acted wsX5_acted) := goodIn_app (goodIn_of _ (by decide +kernel)) ggX5_addServer_X5_acted
theorem dX5_addServer_0 : decode cX5_addServer 0 = .ok (.aload_n 0, 1) := by decide +kernel
theorem dX5_addServer_1 : decode cX5_addServer 1 = .ok (.getfield 7, 3) := by decide +kernel
theorem dX5_addServer_4 : decode cX5_addServer 4 = .ok (.iconst 0, 1) := by decide +kernel
theorem dX5_addServer_5 : decode cX5_addServer 5 = .ok (.iaload, 1) := by decide +kernel
theorem dX5_addServer_6 : decode cX5_addServer 6 = .ok (.bipush 6, 2) := by decide +kernel
theorem dX5_addServer_8 : decode cX5_addServer 8 = .ok (.if_icmp .ne 6, 3) := by decide +kernel
theorem dX5_addServer_11 : decode cX5_addServer 11 = .ok (.bipush (-3), 2) := by decide +kernel
theorem dX5_addServer_13 : decode cX5_addServer 13 = .ok (.ireturn, 1) := by decide +kernel
theorem dX5_addServer_14 : decode cX5_addServer 14 = .ok (.aload_n 0, 1) := by decide +kernel
theorem dX5_addServer_15 : decode cX5_addServer 15 = .ok (.invokevirtual 73, 3) := by decide +kernel
theorem dX5_addServer_18 : decode cX5_addServer 18 = .ok (.aload_n 0, 1) := by decide +kernel
theorem dX5_addServer_19 : decode cX5_addServer 19 = .ok (.getfield 7, 3) := by decide +kernel
theorem dX5_addServer_22 : decode cX5_addServer 22 = .ok (.iconst 1, 1) := by decide +kernel
theorem dX5_addServer_23 : decode cX5_addServer 23 = .ok (.dup2, 1) := by decide +kernel
theorem dX5_addServer_24 : decode cX5_addServer 24 = .ok (.iaload, 1) := by decide +kernel
theorem dX5_addServer_25 : decode cX5_addServer 25 = .ok (.iconst 1, 1) := by decide +kernel
theorem dX5_addServer_26 : decode cX5_addServer 26 = .ok (.aload_n 0, 1) := by decide +kernel
theorem dX5_addServer_27 : decode cX5_addServer 27 = .ok (.getfield 7, 3) := by decide +kernel
theorem dX5_addServer_30 : decode cX5_addServer 30 = .ok (.iconst 0, 1) := by decide +kernel
theorem dX5_addServer_31 : decode cX5_addServer 31 = .ok (.iaload, 1) := by decide +kernel
theorem dX5_addServer_32 : decode cX5_addServer 32 = .ok (.ishl, 1) := by decide +kernel
theorem dX5_addServer_33 : decode cX5_addServer 33 = .ok (.ior, 1) := by decide +kernel
theorem dX5_addServer_34 : decode cX5_addServer 34 = .ok (.iastore, 1) := by decide +kernel
theorem dX5_addServer_35 : decode cX5_addServer 35 = .ok (.aload_n 0, 1) := by decide +kernel
theorem dX5_addServer_36 : decode cX5_addServer 36 = .ok (.getfield 7, 3) := by decide +kernel
theorem dX5_addServer_39 : decode cX5_addServer 39 = .ok (.iconst 0, 1) := by decide +kernel
theorem dX5_addServer_40 : decode cX5_addServer 40 = .ok (.dup2, 1) := by decide +kernel
theorem dX5_addServer_41 : decode cX5_addServer 41 = .ok (.iaload, 1) := by decide +kernel
theorem dX5_addServer_42 : decode cX5_addServer 42 = .ok (.iconst 1, 1) := by decide +kernel
theorem dX5_addServer_43 : decode cX5_addServer 43 = .ok (.iadd, 1) := by decide +kernel
theorem dX5_addServer_44 : decode cX5_addServer 44 = .ok (.iastore, 1) := by decide +kernel
theorem dX5_addServer_45 : decode cX5_addServer 45 = .ok (.aload_n 0, 1) := by decide +kernel
theorem dX5_addServer_46 : decode cX5_addServer 46 = .ok (.aload_n 0, 1) := by decide +kernel
theorem dX5_addServer_47 : decode cX5_addServer 47 = .ok (.getfield 7, 3) := by decide +kernel
theorem dX5_addServer_50 : decode cX5_addServer 50 = .ok (.iconst 0, 1) := by decide +kernel
theorem dX5_addServer_51 : decode cX5_addServer 51 = .ok (.iaload, 1) := by decide +kernel
theorem dX5_addServer_52 : decode cX5_addServer 52 = .ok (.iconst 1, 1) := by decide +kernel
theorem dX5_addServer_53 : decode cX5_addServer 53 = .ok (.isub, 1) := by decide +kernel
theorem dX5_addServer_54 : decode cX5_addServer 54 = .ok (.invokevirtual 76, 3) := by decide +kernel
theorem dX5_addServer_57 : decode cX5_addServer 57 = .ok (.ireturn, 1) := by decide +kernel
set_option maxRecDepth 20000 in
theorem ggX5_adds_X5_in : GoodIn wsX5_adds wsX5_in := goodIn_r _ [5] (by decide +kernel) (by decide +kernel)
set_option maxRecDepth 20000 in
theorem gX5_adds_X5_in : GoodIn wsX5_adds (va_wsS RX5 35 yX5_in wsX5_in) := goodIn_app (goodIn_of _ (by decide +kernel)) ggX5_adds_X5_in
set_option maxRecDepth 20000 in
theorem ggX5_adds_X5_isServer : GoodIn wsX5_adds wsX5_isServer := goodIn_r _ [9, 1, 2, 3, 4, 5, 14, 15, 16, 17, 18, 19, 20, 21, 22, 23, 24, 25, 26, 27, 28] (by decide +kernel) (by decide +kernel)
set_option maxRecDepth 20000 in
theorem gX5_adds_X5_isServer : GoodIn wsX5_adds (wsV RX5 39 RX5 yX5_isServer wsX5_isServer) := goodIn_app (goodIn_of _ (by decide +kernel)) ggX5_adds_X5_isServer
set_option maxRecDepth 20000 in
theorem ggX5_adds_X5_isOpen : GoodIn wsX5_adds wsX5_isOpen := goodIn_r _ [13, 1, 6, 7, 8, 4, 9, 2, 3, 5, 14, 15, 16, 17, 18, 19, 20, 21, 22, 23, 24, 25, 26, 27, 28] (by decide +kernel) (by decide +kernel)
set_option maxRecDepth 20000 in
theorem gX5_adds_X5_isOpen : GoodIn wsX5_adds (wsV RX5 79 RX5 yX5_isOpen wsX5_isOpen) := goodIn_app (goodIn_of _ (by decide +kernel)) ggX5_adds_X5_isOpen
theorem dX5_adds_0 : decode cX5_adds 0 = .ok (.iload_n 1, 1) := by decide +kernel
theorem dX5_adds_1 : decode cX5_adds 1 = .ok (.iconst 1, 1) := by decide +kernel
theorem dX5_adds_2 : decode cX5_adds 2 = .ok (.sipush 1000, 3) := by decide +kernel
theorem dX5_adds_5 : decode cX5_adds 5 = .ok (.invokestatic 35, 3) := by decide +kernel
theorem dX5_adds_8 : decode cX5_adds 8 = .ok (.ifCond .eq 21, 3) := by decide +kernel
theorem dX5_adds_11 : decode cX5_adds 11 = .ok (.iload_n 2, 1) := by decide +kernel
theorem dX5_adds_12 : decode cX5_adds 12 = .ok (.iconst 0, 1) := by decide +kernel
theorem dX5_adds_13 : decode cX5_adds 13 = .ok (.bipush 100, 2) := by decide +kernel
theorem dX5_adds_15 : decode cX5_adds 15 = .ok (.invokestatic 35, 3) := by decide +kernel
theorem dX5_adds_18 : decode cX5_adds 18 = .ok (.ifCond .eq 11, 3) := by decide +kernel
theorem dX5_adds_21 : decode cX5_adds 21 = .ok (.aload_n 0, 1) := by decide +kernel
theorem dX5_adds_22 : decode cX5_adds 22 = .ok (.iload_n 3, 1) := by decide +kernel
theorem dX5_adds_23 : decode cX5_adds 23 = .ok (.invokevirtual 39, 3) := by decide +kernel
theorem dX5_adds_26 : decode cX5_adds 26 = .ok (.ifCond .ne 5, 3) := by decide +kernel
theorem dX5_adds_29 : decode cX5_adds 29 = .ok (.iconst (-1), 1) := by decide +kernel
theorem dX5_adds_30 : decode cX5_adds 30 = .ok (.ireturn, 1) := by decide +kernel
theorem dX5_adds_31 : decode cX5_adds 31 = .ok (.aload_n 0, 1) := by decide +kernel
theorem dX5_adds_32 : decode cX5_adds 32 = .ok (.iload_n 3, 1) := by decide +kernel
theorem dX5_adds_33 : decode cX5_adds 33 = .ok (.invokevirtual 79, 3) := by decide +kernel
theorem dX5_adds_36 : decode cX5_adds 36 = .ok (.ifCond .ne 6, 3) := by decide +kernel
theorem dX5_adds_39 : decode cX5_adds 39 = .ok (.bipush (-2), 2) := by decide +kernel
theorem dX5_adds_41 : decode cX5_adds 41 = .ok (.ireturn, 1) := by decide +kernel
theorem dX5_adds_42 : decode cX5_adds 42 = .ok (.aload_n 0, 1) := by decide +kernel
theorem dX5_adds_43 : decode cX5_adds 43 = .ok (.getfield 7, 3) := by decide +kernel
theorem dX5_adds_46 : decode cX5_adds 46 = .ok (.iconst 2, 1) := by decide +kernel
theorem dX5_adds_47 : decode cX5_adds 47 = .ok (.iaload, 1) := by decide +kernel
theorem dX5_adds_48 : decode cX5_adds 48 = .ok (.bipush 24, 2) := by decide +kernel
theorem dX5_adds_50 : decode cX5_adds 50 = .ok (.if_icmp .ne 6, 3) := by decide +kernel
theorem dX5_adds_53 : decode cX5_adds 53 = .ok (.bipush (-3), 2) := by decide +kernel
theorem dX5_adds_55 : decode cX5_adds 55 = .ok (.ireturn, 1) := by decide +kernel
theorem dX5_adds_56 : decode cX5_adds 56 = .ok (.bipush 6, 2) := by decide +kernel
theorem dX5_adds_58 : decode cX5_adds 58 = .ok (.iconst 4, 1) := by decide +kernel
theorem dX5_adds_59 : decode cX5_adds 59 = .ok (.aload_n 0, 1) := by decide +kernel
theorem dX5_adds_60 : decode cX5_adds 60 = .ok (.getfield 7, 3) := by decide +kernel
theorem dX5_adds_63 : decode cX5_adds 63 = .ok (.iconst 2, 1) := by decide +kernel
theorem dX5_adds_64 : decode cX5_adds 64 = .ok (.iaload, 1) := by decide +kernel
theorem dX5_adds_65 : decode cX5_adds 65 = .ok (.imul, 1) := by decide +kernel
theorem dX5_adds_66 : decode cX5_adds 66 = .ok (.iadd, 1) := by decide +kernel
theorem dX5_adds_67 : decode cX5_adds 67 = .ok (.istore 4, 2) := by decide +kernel
theorem dX5_adds_69 : decode cX5_adds 69 = .ok (.aload_n 0, 1) := by decide +kernel
theorem dX5_adds_70 : decode cX5_adds 70 = .ok (.getfield 7, 3) := by decide +kernel
theorem dX5_adds_73 : decode cX5_adds 73 = .ok (.iload 4, 2) := by decide +kernel
theorem dX5_adds_75 : decode cX5_adds 75 = .ok (.iload_n 1, 1) := by decide +kernel
theorem dX5_adds_76 : decode cX5_adds 76 = .ok (.iastore, 1) := by decide +kernel
theorem dX5_adds_77 : decode cX5_adds 77 = .ok (.aload_n 0, 1) := by decide +kernel
theorem dX5_adds_78 : decode cX5_adds 78 = .ok (.getfield 7, 3) := by decide +kernel
theorem dX5_adds_81 : decode cX5_adds 81 = .ok (.iload 4, 2) := by decide +kernel
theorem dX5_adds_83 : decode cX5_adds 83 = .ok (.iconst 1, 1) := by decide +kernel
theorem dX5_adds_84 : decode cX5_adds 84 = .ok (.iadd, 1) := by decide +kernel
theorem dX5_adds_85 : decode cX5_adds 85 = .ok (.iload_n 2, 1) := by decide +kernel
theorem dX5_adds_86 : decode cX5_adds 86 = .ok (.iastore, 1) := by decide +kernel
theorem dX5_adds_87 : decode cX5_adds 87 = .ok (.aload_n 0, 1) := by decide +kernel
theorem dX5_adds_88 : decode cX5_adds 88 = .ok (.getfield 7, 3) := by decide +kernel
theorem dX5_adds_91 : decode cX5_adds 91 = .ok (.iload 4, 2) := by decide +kernel
theorem dX5_adds_93 : decode cX5_adds 93 = .ok (.iconst 2, 1) := by decide +kernel
theorem dX5_adds_94 : decode cX5_adds 94 = .ok (.iadd, 1) := by decide +kernel
theorem dX5_adds_95 : decode cX5_adds 95 = .ok (.iload_n 3, 1) := by decide +kernel
theorem dX5_adds_96 : decode cX5_adds 96 = .ok (.iastore, 1) := by decide +kernel
theorem dX5_adds_97 : decode cX5_adds 97 = .ok (.aload_n 0, 1) := by decide +kernel
theorem dX5_adds_98 : decode cX5_adds 98 = .ok (.getfield 7, 3) := by decide +kernel
theorem dX5_adds_101 : decode cX5_adds 101 = .ok (.iload 4, 2) := by decide +kernel
theorem dX5_adds_103 : decode cX5_adds 103 = .ok (.iconst 3, 1) := by decide +kernel
theorem dX5_adds_104 : decode cX5_adds 104 = .ok (.iadd, 1) := by decide +kernel
theorem dX5_adds_105 : decode cX5_adds 105 = .ok (.iconst 0, 1) := by decide +kernel
theorem dX5_adds_106 : decode cX5_adds 106 = .ok (.iastore, 1) := by decide +kernel
theorem dX5_adds_107 : decode cX5_adds 107 = .ok (.aload_n 0, 1) := by decide +kernel
theorem dX5_adds_108 : decode cX5_adds 108 = .ok (.getfield 7, 3) := by decide +kernel
theorem dX5_adds_111 : decode cX5_adds 111 = .ok (.iconst 2, 1) := by decide +kernel
theorem dX5_adds_112 : decode cX5_adds 112 = .ok (.dup2, 1) := by decide +kernel
theorem dX5_adds_113 : decode cX5_adds 113 = .ok (.iaload, 1) := by decide +kernel
theorem dX5_adds_114 : decode cX5_adds 114 = .ok (.iconst 1, 1) := by decide +kernel
theorem dX5_adds_115 : decode cX5_adds 115 = .ok (.iadd, 1) := by decide +kernel
theorem dX5_adds_116 : decode cX5_adds 116 = .ok (.iastore, 1) := by decide +kernel
theorem dX5_adds_117 : decode cX5_adds 117 = .ok (.aload_n 0, 1) := by decide +kernel
theorem dX5_adds_118 : decode cX5_adds 118 = .ok (.getfield 7, 3) := by decide +kernel
theorem dX5_adds_121 : decode cX5_adds 121 = .ok (.iconst 2, 1) := by decide +kernel
theorem dX5_adds_122 : decode cX5_adds 122 = .ok (.iaload, 1) := by decide +kernel
theorem dX5_adds_123 : decode cX5_adds 123 = .ok (.iconst 1, 1) := by decide +kernel
theorem dX5_adds_124 : decode cX5_adds 124 = .ok (.isub, 1) := by decide +kernel
theorem dX5_adds_125 : decode cX5_adds 125 = .ok (.ireturn, 1) := by decide +kernel
set_option maxRecDepth 20000 in
theorem ggX5_add_X5_aside : GoodIn wsX5_add wsX5_aside := goodIn_r _ [5, 6, 7, 33, 34, 35, 36, 37, 38, 39, 40, 41, 42, 43, 44, 45, 46, 47] (by decide +kernel) (by decide +kernel)
set_option maxRecDepth 20000 in
theorem gX5_add_X5_aside : GoodIn wsX5_add (wsV RX5 73 RX5 yX5_aside wsX5_aside) := goodIn_app (goodIn_of _ (by decide +kernel)) ggX5_add_X5_aside
set_option maxRecDepth 20000 in
theorem ggX5_add_X5_adds : GoodIn wsX5_add wsX5_adds := goodIn_r _ [11, 7, 12, 13, 4, 14, 15, 16, 17, 18, 19, 20, 21, 22, 33, 34, 35, 36, 37, 38, 39, 40, 41, 42, 43, 44, 45, 46, 47] (by decide +kernel) (by decide +kernel)
set_option maxRecDepth 20000 in
theorem gX5_add_X5_adds : GoodIn wsX5_add (wsV RX5 82 RX5 yX5_adds wsX5_adds) := goodIn_app (goodIn_of _ (by decide +kernel)) ggX5_add_X5_adds
set_option maxRecDepth 20000 in
theorem ggX5_add_X5_acted : GoodIn wsX5_add wsX5_acted := goodIn_r _ [26, 27, 28, 29, 4, 30, 31, 32, 6, 33, 34, 35, 36, 37, 38, 39, 40, 41, 42, 43, 44, 45, 46, 47] (by decide +kernel) (by decide +kernel)
set_option maxRecDepth 20000 in
theorem gX5_add_X5_acted : GoodIn wsX5_add (wsV RX5 76 RX5 yX5_acted wsX5_acted) := goodIn_app (goodIn_of _ (by decide +kernel)) ggX5_add_X5_acted
theorem dX5_add_0 : decode cX5_add 0 = .ok (.aload_n 0, 1) := by decide +kernel
theorem dX5_add_1 : decode cX5_add 1 = .ok (.invokevirtual 73, 3) := by decide +kernel
theorem dX5_add_4 : decode cX5_add 4 = .ok (.aload_n 0, 1) := by decide +kernel
theorem dX5_add_5 : decode cX5_add 5 = .ok (.aload_n 0, 1) := by decide +kernel
theorem dX5_add_6 : decode cX5_add 6 = .ok (.iload_n 1, 1) := by decide +kernel
theorem dX5_add_7 : decode cX5_add 7 = .ok (.iload_n 2, 1) := by decide +kernel
theorem dX5_add_8 : decode cX5_add 8 = .ok (.iload_n 3, 1) := by decide +kernel
theorem dX5_add_9 : decode cX5_add 9 = .ok (.invokevirtual 82, 3) := by decide +kernel
theorem dX5_add_12 : decode cX5_add 12 = .ok (.invokevirtual 76, 3) := by decide +kernel
theorem dX5_add_15 : decode cX5_add 15 = .ok (.ireturn, 1) := by decide +kernel
set_option maxRecDepth 20000 in
theorem ggX5_finishes_X5_isJob : GoodIn wsX5_finishes wsX5_isJob := goodIn_r _ [6, 1, 7, 8, 5, 9, 18, 19, 20, 21, 22, 23, 24, 25, 26, 27, 28, 29, 30, 31, 32] (by decide +kernel) (by decide +kernel)
set_option maxRecDepth 20000 in
theorem gX5_finishes_X5_isJob : GoodIn wsX5_finishes (wsV RX5 86 RX5 yX5_isJob wsX5_isJob) := goodIn_app (goodIn_of _ (by decide +kernel)) ggX5_finishes_X5_isJob
set_option maxRecDepth 20000 in
theorem ggX5_finishes_X5_of : GoodIn wsX5_finishes wsX5_of := goodIn_r _ [13, 1, 18, 19, 20, 21, 22, 23, 24, 25, 26, 27, 28, 29, 30, 31, 32] (by decide +kernel) (by decide +kernel)
set_option maxRecDepth 20000 in
theorem gX5_finishes_X5_of : GoodIn wsX5_finishes (wsV RX5 43 RX5 yX5_of wsX5_of) := goodIn_app (goodIn_of _ (by decide +kernel)) ggX5_finishes_X5_of
set_option maxRecDepth 20000 in
theorem ggX5_finishes_X5_load : GoodIn wsX5_finishes wsX5_load := goodIn_r _ [17, 1, 10, 11, 12, 5, 13, 18, 19, 20, 21, 22, 23, 24, 25, 26, 27, 28, 29, 30, 31, 32] (by decide +kernel) (by decide +kernel)
set_option maxRecDepth 20000 in
theorem gX5_finishes_X5_load : GoodIn wsX5_finishes (wsV RX5 50 RX5 yX5_load wsX5_load) := goodIn_app (goodIn_of _ (by decide +kernel)) ggX5_finishes_X5_load
theorem dX5_finishes_0 : decode cX5_finishes 0 = .ok (.aload_n 0, 1) := by decide +kernel
theorem dX5_finishes_1 : decode cX5_finishes 1 = .ok (.iload_n 1, 1) := by decide +kernel
theorem dX5_finishes_2 : decode cX5_finishes 2 = .ok (.invokevirtual 86, 3) := by decide +kernel
theorem dX5_finishes_5 : decode cX5_finishes 5 = .ok (.ifCond .ne 5, 3) := by decide +kernel
theorem dX5_finishes_8 : decode cX5_finishes 8 = .ok (.iconst (-1), 1) := by decide +kernel
theorem dX5_finishes_9 : decode cX5_finishes 9 = .ok (.ireturn, 1) := by decide +kernel
theorem dX5_finishes_10 : decode cX5_finishes 10 = .ok (.aload_n 0, 1) := by decide +kernel
theorem dX5_finishes_11 : decode cX5_finishes 11 = .ok (.iload_n 1, 1) := by decide +kernel
theorem dX5_finishes_12 : decode cX5_finishes 12 = .ok (.iconst 2, 1) := by decide +kernel
theorem dX5_finishes_13 : decode cX5_finishes 13 = .ok (.invokevirtual 43, 3) := by decide +kernel
theorem dX5_finishes_16 : decode cX5_finishes 16 = .ok (.istore_n 2, 1) := by decide +kernel
theorem dX5_finishes_17 : decode cX5_finishes 17 = .ok (.iload_n 2, 1) := by decide +kernel
theorem dX5_finishes_18 : decode cX5_finishes 18 = .ok (.bipush (-9), 2) := by decide +kernel
theorem dX5_finishes_20 : decode cX5_finishes 20 = .ok (.if_icmp .ne 6, 3) := by decide +kernel
theorem dX5_finishes_23 : decode cX5_finishes 23 = .ok (.bipush (-2), 2) := by decide +kernel
theorem dX5_finishes_25 : decode cX5_finishes 25 = .ok (.ireturn, 1) := by decide +kernel
theorem dX5_finishes_26 : decode cX5_finishes 26 = .ok (.aload_n 0, 1) := by decide +kernel
theorem dX5_finishes_27 : decode cX5_finishes 27 = .ok (.getfield 7, 3) := by decide +kernel
theorem dX5_finishes_30 : decode cX5_finishes 30 = .ok (.bipush 6, 2) := by decide +kernel
theorem dX5_finishes_32 : decode cX5_finishes 32 = .ok (.iconst 4, 1) := by decide +kernel
theorem dX5_finishes_33 : decode cX5_finishes 33 = .ok (.iload_n 1, 1) := by decide +kernel
theorem dX5_finishes_34 : decode cX5_finishes 34 = .ok (.imul, 1) := by decide +kernel
theorem dX5_finishes_35 : decode cX5_finishes 35 = .ok (.iadd, 1) := by decide +kernel
theorem dX5_finishes_36 : decode cX5_finishes 36 = .ok (.iconst 2, 1) := by decide +kernel
theorem dX5_finishes_37 : decode cX5_finishes 37 = .ok (.iadd, 1) := by decide +kernel
theorem dX5_finishes_38 : decode cX5_finishes 38 = .ok (.bipush (-9), 2) := by decide +kernel
theorem dX5_finishes_40 : decode cX5_finishes 40 = .ok (.iastore, 1) := by decide +kernel
theorem dX5_finishes_41 : decode cX5_finishes 41 = .ok (.aload_n 0, 1) := by decide +kernel
theorem dX5_finishes_42 : decode cX5_finishes 42 = .ok (.iload_n 2, 1) := by decide +kernel
theorem dX5_finishes_43 : decode cX5_finishes 43 = .ok (.invokevirtual 50, 3) := by decide +kernel
theorem dX5_finishes_46 : decode cX5_finishes 46 = .ok (.ireturn, 1) := by decide +kernel
set_option maxRecDepth 20000 in
theorem ggX5_finish_X5_aside : GoodIn wsX5_finish wsX5_aside := goodIn_r _ [5, 6, 7, 37, 38, 39, 40, 41, 42, 43, 44, 45, 46, 47, 48, 49, 50, 51] (by decide +kernel) (by decide +kernel)
set_option maxRecDepth 20000 in
theorem gX5_finish_X5_aside : GoodIn wsX5_finish (wsV RX5 73 RX5 yX5_aside wsX5_aside) := goodIn_app (goodIn_of _ (by decide +kernel)) ggX5_finish_X5_aside
set_option maxRecDepth 20000 in
theorem ggX5_finish_X5_finishes : GoodIn wsX5_finish wsX5_finishes := goodIn_r _ [11, 7, 12, 13, 14, 4, 15, 16, 17, 18, 19, 20, 21, 22, 23, 24, 25, 26, 37, 38, 39, 40, 41, 42, 43, 44, 45, 46, 47, 48, 49, 50, 51] (by decide +kernel) (by decide +kernel)
set_option maxRecDepth 20000 in
theorem gX5_finish_X5_finishes : GoodIn wsX5_finish (wsV RX5 89 RX5 yX5_finishes wsX5_finishes) := goodIn_app (goodIn_of _ (by decide +kernel)) ggX5_finish_X5_finishes
set_option maxRecDepth 20000 in
theorem ggX5_finish_X5_acted : GoodIn wsX5_finish wsX5_acted := goodIn_r _ [30, 31, 32, 33, 4, 34, 35, 36, 6, 37, 38, 39, 40, 41, 42, 43, 44, 45, 46, 47, 48, 49, 50, 51] (by decide +kernel) (by decide +kernel)
set_option maxRecDepth 20000 in
theorem gX5_finish_X5_acted : GoodIn wsX5_finish (wsV RX5 76 RX5 yX5_acted wsX5_acted) := goodIn_app (goodIn_of _ (by decide +kernel)) ggX5_finish_X5_acted
theorem dX5_finish_0 : decode cX5_finish 0 = .ok (.aload_n 0, 1) := by decide +kernel
theorem dX5_finish_1 : decode cX5_finish 1 = .ok (.invokevirtual 73, 3) := by decide +kernel
theorem dX5_finish_4 : decode cX5_finish 4 = .ok (.aload_n 0, 1) := by decide +kernel
theorem dX5_finish_5 : decode cX5_finish 5 = .ok (.aload_n 0, 1) := by decide +kernel
theorem dX5_finish_6 : decode cX5_finish 6 = .ok (.iload_n 1, 1) := by decide +kernel
theorem dX5_finish_7 : decode cX5_finish 7 = .ok (.invokevirtual 89, 3) := by decide +kernel
theorem dX5_finish_10 : decode cX5_finish 10 = .ok (.invokevirtual 76, 3) := by decide +kernel
theorem dX5_finish_13 : decode cX5_finish 13 = .ok (.ireturn, 1) := by decide +kernel
set_option maxRecDepth 20000 in
theorem ggX5_setBudget_X5_in : GoodIn wsX5_setBudget wsX5_in := goodIn_r _ [5] (by decide +kernel) (by decide +kernel)
set_option maxRecDepth 20000 in
theorem gX5_setBudget_X5_in : GoodIn wsX5_setBudget (va_wsS RX5 35 yX5_in wsX5_in) := goodIn_app (goodIn_of _ (by decide +kernel)) ggX5_setBudget_X5_in
set_option maxRecDepth 20000 in
theorem ggX5_setBudget_X5_aside : GoodIn wsX5_setBudget wsX5_aside := goodIn_r _ [9, 10, 1, 21, 22, 23, 24, 25, 26, 27, 28, 29, 30, 31, 32, 33, 34, 35] (by decide +kernel) (by decide +kernel)
set_option maxRecDepth 20000 in
theorem gX5_setBudget_X5_aside : GoodIn wsX5_setBudget (wsV RX5 73 RX5 yX5_aside wsX5_aside) := goodIn_app (goodIn_of _ (by decide +kernel)) ggX5_setBudget_X5_aside
set_option maxRecDepth 20000 in
theorem ggX5_setBudget_X5_acted : GoodIn wsX5_setBudget wsX5_acted := goodIn_r _ [14, 15, 16, 17, 4, 18, 19, 20, 10, 21, 22, 23, 24, 25, 26, 27, 28, 29, 30, 31, 32, 33, 34, 35] (by decide +kernel) (by decide +kernel)
set_option maxRecDepth 20000 in
theorem gX5_setBudget_X5_acted : GoodIn wsX5_setBudget (wsV RX5 76 RX5 yX5_acted wsX5_acted) := goodIn_app (goodIn_of _ (by decide +kernel)) ggX5_setBudget_X5_acted
theorem dX5_setBudget_0 : decode cX5_setBudget 0 = .ok (.iload_n 1, 1) := by decide +kernel
theorem dX5_setBudget_1 : decode cX5_setBudget 1 = .ok (.iconst 0, 1) := by decide +kernel
theorem dX5_setBudget_2 : decode cX5_setBudget 2 = .ok (.sipush 10000, 3) := by decide +kernel
theorem dX5_setBudget_5 : decode cX5_setBudget 5 = .ok (.invokestatic 35, 3) := by decide +kernel
theorem dX5_setBudget_8 : decode cX5_setBudget 8 = .ok (.ifCond .ne 5, 3) := by decide +kernel
theorem dX5_setBudget_11 : decode cX5_setBudget 11 = .ok (.iconst (-1), 1) := by decide +kernel
theorem dX5_setBudget_12 : decode cX5_setBudget 12 = .ok (.ireturn, 1) := by decide +kernel
theorem dX5_setBudget_13 : decode cX5_setBudget 13 = .ok (.aload_n 0, 1) := by decide +kernel
theorem dX5_setBudget_14 : decode cX5_setBudget 14 = .ok (.invokevirtual 73, 3) := by decide +kernel
theorem dX5_setBudget_17 : decode cX5_setBudget 17 = .ok (.aload_n 0, 1) := by decide +kernel
theorem dX5_setBudget_18 : decode cX5_setBudget 18 = .ok (.getfield 7, 3) := by decide +kernel
theorem dX5_setBudget_21 : decode cX5_setBudget 21 = .ok (.iconst 3, 1) := by decide +kernel
theorem dX5_setBudget_22 : decode cX5_setBudget 22 = .ok (.iaload, 1) := by decide +kernel
theorem dX5_setBudget_23 : decode cX5_setBudget 23 = .ok (.istore_n 2, 1) := by decide +kernel
theorem dX5_setBudget_24 : decode cX5_setBudget 24 = .ok (.aload_n 0, 1) := by decide +kernel
theorem dX5_setBudget_25 : decode cX5_setBudget 25 = .ok (.getfield 7, 3) := by decide +kernel
theorem dX5_setBudget_28 : decode cX5_setBudget 28 = .ok (.iconst 3, 1) := by decide +kernel
theorem dX5_setBudget_29 : decode cX5_setBudget 29 = .ok (.iload_n 1, 1) := by decide +kernel
theorem dX5_setBudget_30 : decode cX5_setBudget 30 = .ok (.iastore, 1) := by decide +kernel
theorem dX5_setBudget_31 : decode cX5_setBudget 31 = .ok (.aload_n 0, 1) := by decide +kernel
theorem dX5_setBudget_32 : decode cX5_setBudget 32 = .ok (.iload_n 2, 1) := by decide +kernel
theorem dX5_setBudget_33 : decode cX5_setBudget 33 = .ok (.invokevirtual 76, 3) := by decide +kernel
theorem dX5_setBudget_36 : decode cX5_setBudget 36 = .ok (.ireturn, 1) := by decide +kernel
set_option maxRecDepth 20000 in
theorem ggX5_setFactor_X5_in : GoodIn wsX5_setFactor wsX5_in := goodIn_r _ [5] (by decide +kernel) (by decide +kernel)
set_option maxRecDepth 20000 in
theorem gX5_setFactor_X5_in : GoodIn wsX5_setFactor (va_wsS RX5 35 yX5_in wsX5_in) := goodIn_app (goodIn_of _ (by decide +kernel)) ggX5_setFactor_X5_in
set_option maxRecDepth 20000 in
theorem ggX5_setFactor_X5_aside : GoodIn wsX5_setFactor wsX5_aside := goodIn_r _ [9, 10, 1, 48, 49, 50, 51, 52, 53, 54, 55, 56, 57, 58, 59, 60, 61, 62] (by decide +kernel) (by decide +kernel)
set_option maxRecDepth 20000 in
theorem gX5_setFactor_X5_aside : GoodIn wsX5_setFactor (wsV RX5 73 RX5 yX5_aside wsX5_aside) := goodIn_app (goodIn_of _ (by decide +kernel)) ggX5_setFactor_X5_aside
set_option maxRecDepth 20000 in
theorem ggX5_setFactor_X5_target : GoodIn wsX5_setFactor wsX5_target := goodIn_r _ [14, 1, 15, 16, 17, 4, 18, 19, 20, 21, 22, 23, 24, 25, 26, 27, 28, 29, 30, 31, 32, 33, 34, 35, 36, 37, 48, 49, 50, 51, 52, 53, 54, 55, 56, 57, 58, 59, 60, 61, 62] (by decide +kernel) (by decide +kernel)
set_option maxRecDepth 20000 in
theorem gX5_setFactor_X5_target : GoodIn wsX5_setFactor (wsV RX5 70 RX5 yX5_target wsX5_target) := goodIn_app (goodIn_of _ (by decide +kernel)) ggX5_setFactor_X5_target
set_option maxRecDepth 20000 in
theorem ggX5_setFactor_X5_acted : GoodIn wsX5_setFactor wsX5_acted := goodIn_r _ [41, 42, 43, 44, 4, 45, 46, 47, 10, 48, 49, 50, 51, 52, 53, 54, 55, 56, 57, 58, 59, 60, 61, 62] (by decide +kernel) (by decide +kernel)
set_option maxRecDepth 20000 in
theorem gX5_setFactor_X5_acted : GoodIn wsX5_setFactor (wsV RX5 76 RX5 yX5_acted wsX5_acted) := goodIn_app (goodIn_of _ (by decide +kernel)) ggX5_setFactor_X5_acted
theorem dX5_setFactor_0 : decode cX5_setFactor 0 = .ok (.iload_n 1, 1) := by decide +kernel
theorem dX5_setFactor_1 : decode cX5_setFactor 1 = .ok (.bipush 100, 2) := by decide +kernel
theorem dX5_setFactor_3 : decode cX5_setFactor 3 = .ok (.sipush 400, 3) := by decide +kernel
theorem dX5_setFactor_6 : decode cX5_setFactor 6 = .ok (.invokestatic 35, 3) := by decide +kernel
theorem dX5_setFactor_9 : decode cX5_setFactor 9 = .ok (.ifCond .ne 5, 3) := by decide +kernel
theorem dX5_setFactor_12 : decode cX5_setFactor 12 = .ok (.iconst (-1), 1) := by decide +kernel
theorem dX5_setFactor_13 : decode cX5_setFactor 13 = .ok (.ireturn, 1) := by decide +kernel
theorem dX5_setFactor_14 : decode cX5_setFactor 14 = .ok (.aload_n 0, 1) := by decide +kernel
theorem dX5_setFactor_15 : decode cX5_setFactor 15 = .ok (.invokevirtual 73, 3) := by decide +kernel
theorem dX5_setFactor_18 : decode cX5_setFactor 18 = .ok (.aload_n 0, 1) := by decide +kernel
theorem dX5_setFactor_19 : decode cX5_setFactor 19 = .ok (.getfield 7, 3) := by decide +kernel
theorem dX5_setFactor_22 : decode cX5_setFactor 22 = .ok (.iconst 4, 1) := by decide +kernel
theorem dX5_setFactor_23 : decode cX5_setFactor 23 = .ok (.iload_n 1, 1) := by decide +kernel
theorem dX5_setFactor_24 : decode cX5_setFactor 24 = .ok (.iastore, 1) := by decide +kernel
theorem dX5_setFactor_25 : decode cX5_setFactor 25 = .ok (.aload_n 0, 1) := by decide +kernel
theorem dX5_setFactor_26 : decode cX5_setFactor 26 = .ok (.aload_n 0, 1) := by decide +kernel
theorem dX5_setFactor_27 : decode cX5_setFactor 27 = .ok (.invokevirtual 70, 3) := by decide +kernel
theorem dX5_setFactor_30 : decode cX5_setFactor 30 = .ok (.invokevirtual 76, 3) := by decide +kernel
theorem dX5_setFactor_33 : decode cX5_setFactor 33 = .ok (.ireturn, 1) := by decide +kernel
set_option maxRecDepth 20000 in
theorem ggX5_goes_X5_of : GoodIn wsX5_goes wsX5_of := goodIn_r _ [6, 1, 7, 8, 9, 10, 11, 12, 13, 14, 15, 16, 17, 18, 19, 20, 21] (by decide +kernel) (by decide +kernel)
set_option maxRecDepth 20000 in
theorem gX5_goes_X5_of : GoodIn wsX5_goes (wsV RX5 43 RX5 yX5_of wsX5_of) := goodIn_app (goodIn_of _ (by decide +kernel)) ggX5_goes_X5_of
theorem dX5_goes_0 : decode cX5_goes 0 = .ok (.aload_n 0, 1) := by decide +kernel
theorem dX5_goes_1 : decode cX5_goes 1 = .ok (.getfield 7, 3) := by decide +kernel
theorem dX5_goes_4 : decode cX5_goes 4 = .ok (.bipush 6, 2) := by decide +kernel
theorem dX5_goes_6 : decode cX5_goes 6 = .ok (.iconst 4, 1) := by decide +kernel
theorem dX5_goes_7 : decode cX5_goes 7 = .ok (.iload_n 1, 1) := by decide +kernel
theorem dX5_goes_8 : decode cX5_goes 8 = .ok (.imul, 1) := by decide +kernel
theorem dX5_goes_9 : decode cX5_goes 9 = .ok (.iadd, 1) := by decide +kernel
theorem dX5_goes_10 : decode cX5_goes 10 = .ok (.iconst 2, 1) := by decide +kernel
theorem dX5_goes_11 : decode cX5_goes 11 = .ok (.iadd, 1) := by decide +kernel
theorem dX5_goes_12 : decode cX5_goes 12 = .ok (.iload_n 2, 1) := by decide +kernel
theorem dX5_goes_13 : decode cX5_goes 13 = .ok (.iastore, 1) := by decide +kernel
theorem dX5_goes_14 : decode cX5_goes 14 = .ok (.aload_n 0, 1) := by decide +kernel
theorem dX5_goes_15 : decode cX5_goes 15 = .ok (.getfield 7, 3) := by decide +kernel
theorem dX5_goes_18 : decode cX5_goes 18 = .ok (.bipush 6, 2) := by decide +kernel
theorem dX5_goes_20 : decode cX5_goes 20 = .ok (.iconst 4, 1) := by decide +kernel
theorem dX5_goes_21 : decode cX5_goes 21 = .ok (.iload_n 1, 1) := by decide +kernel
theorem dX5_goes_22 : decode cX5_goes 22 = .ok (.imul, 1) := by decide +kernel
theorem dX5_goes_23 : decode cX5_goes 23 = .ok (.iadd, 1) := by decide +kernel
theorem dX5_goes_24 : decode cX5_goes 24 = .ok (.iconst 3, 1) := by decide +kernel
theorem dX5_goes_25 : decode cX5_goes 25 = .ok (.iadd, 1) := by decide +kernel
theorem dX5_goes_26 : decode cX5_goes 26 = .ok (.dup2, 1) := by decide +kernel
theorem dX5_goes_27 : decode cX5_goes 27 = .ok (.iaload, 1) := by decide +kernel
theorem dX5_goes_28 : decode cX5_goes 28 = .ok (.iconst 1, 1) := by decide +kernel
theorem dX5_goes_29 : decode cX5_goes 29 = .ok (.iadd, 1) := by decide +kernel
theorem dX5_goes_30 : decode cX5_goes 30 = .ok (.iastore, 1) := by decide +kernel
theorem dX5_goes_31 : decode cX5_goes 31 = .ok (.aload_n 0, 1) := by decide +kernel
theorem dX5_goes_32 : decode cX5_goes 32 = .ok (.getfield 7, 3) := by decide +kernel
theorem dX5_goes_35 : decode cX5_goes 35 = .ok (.iconst 3, 1) := by decide +kernel
theorem dX5_goes_36 : decode cX5_goes 36 = .ok (.dup2, 1) := by decide +kernel
theorem dX5_goes_37 : decode cX5_goes 37 = .ok (.iaload, 1) := by decide +kernel
theorem dX5_goes_38 : decode cX5_goes 38 = .ok (.aload_n 0, 1) := by decide +kernel
theorem dX5_goes_39 : decode cX5_goes 39 = .ok (.iload_n 1, 1) := by decide +kernel
theorem dX5_goes_40 : decode cX5_goes 40 = .ok (.iconst 1, 1) := by decide +kernel
theorem dX5_goes_41 : decode cX5_goes 41 = .ok (.invokevirtual 43, 3) := by decide +kernel
theorem dX5_goes_44 : decode cX5_goes 44 = .ok (.isub, 1) := by decide +kernel
theorem dX5_goes_45 : decode cX5_goes 45 = .ok (.iastore, 1) := by decide +kernel
theorem dX5_goes_46 : decode cX5_goes 46 = .ok (.aload_n 0, 1) := by decide +kernel
theorem dX5_goes_47 : decode cX5_goes 47 = .ok (.getfield 7, 3) := by decide +kernel
theorem dX5_goes_50 : decode cX5_goes 50 = .ok (.iconst 5, 1) := by decide +kernel
theorem dX5_goes_51 : decode cX5_goes 51 = .ok (.dup2, 1) := by decide +kernel
theorem dX5_goes_52 : decode cX5_goes 52 = .ok (.iaload, 1) := by decide +kernel
theorem dX5_goes_53 : decode cX5_goes 53 = .ok (.iconst 1, 1) := by decide +kernel
theorem dX5_goes_54 : decode cX5_goes 54 = .ok (.iadd, 1) := by decide +kernel
theorem dX5_goes_55 : decode cX5_goes 55 = .ok (.iastore, 1) := by decide +kernel
theorem dX5_goes_56 : decode cX5_goes 56 = .ok (.return_, 1) := by decide +kernel
set_option maxRecDepth 20000 in
theorem ggX5_moves_X5_isJob : GoodIn wsX5_moves wsX5_isJob := goodIn_r _ [6, 1, 7, 8, 5, 9, 41, 42, 43, 44, 45, 46, 47, 48, 49, 50, 51, 52, 53, 54, 55] (by decide +kernel) (by decide +kernel)
set_option maxRecDepth 20000 in
theorem gX5_moves_X5_isJob : GoodIn wsX5_moves (wsV RX5 86 RX5 yX5_isJob wsX5_isJob) := goodIn_app (goodIn_of _ (by decide +kernel)) ggX5_moves_X5_isJob
set_option maxRecDepth 20000 in
theorem ggX5_moves_X5_isServer : GoodIn wsX5_moves wsX5_isServer := goodIn_r _ [13, 1, 7, 8, 5, 9, 41, 42, 43, 44, 45, 46, 47, 48, 49, 50, 51, 52, 53, 54, 55] (by decide +kernel) (by decide +kernel)
set_option maxRecDepth 20000 in
theorem gX5_moves_X5_isServer : GoodIn wsX5_moves (wsV RX5 39 RX5 yX5_isServer wsX5_isServer) := goodIn_app (goodIn_of _ (by decide +kernel)) ggX5_moves_X5_isServer
set_option maxRecDepth 20000 in
theorem ggX5_moves_X5_isDone : GoodIn wsX5_moves wsX5_isDone := goodIn_r _ [17, 18, 19, 20, 5, 21, 1, 41, 42, 43, 44, 45, 46, 47, 48, 49, 50, 51, 52, 53, 54, 55] (by decide +kernel) (by decide +kernel)
set_option maxRecDepth 20000 in
theorem gX5_moves_X5_isDone : GoodIn wsX5_moves (wsV RX5 47 RX5 yX5_isDone wsX5_isDone) := goodIn_app (goodIn_of _ (by decide +kernel)) ggX5_moves_X5_isDone
set_option maxRecDepth 20000 in
theorem ggX5_moves_X5_of : GoodIn wsX5_moves wsX5_of := goodIn_r _ [21, 1, 41, 42, 43, 44, 45, 46, 47, 48, 49, 50, 51, 52, 53, 54, 55] (by decide +kernel) (by decide +kernel)
set_option maxRecDepth 20000 in
theorem gX5_moves_X5_of : GoodIn wsX5_moves (wsV RX5 43 RX5 yX5_of wsX5_of) := goodIn_app (goodIn_of _ (by decide +kernel)) ggX5_moves_X5_of
set_option maxRecDepth 20000 in
theorem ggX5_moves_X5_isOpen : GoodIn wsX5_moves wsX5_isOpen := goodIn_r _ [25, 1, 10, 11, 12, 5, 13, 7, 8, 9, 41, 42, 43, 44, 45, 46, 47, 48, 49, 50, 51, 52, 53, 54, 55] (by decide +kernel) (by decide +kernel)
set_option maxRecDepth 20000 in
theorem gX5_moves_X5_isOpen : GoodIn wsX5_moves (wsV RX5 79 RX5 yX5_isOpen wsX5_isOpen) := goodIn_app (goodIn_of _ (by decide +kernel)) ggX5_moves_X5_isOpen
set_option maxRecDepth 20000 in
theorem ggX5_moves_X5_goes : GoodIn wsX5_moves wsX5_goes := goodIn_r _ [29, 1, 18, 19, 20, 5, 21, 41, 42, 43, 44, 45, 46, 47, 48, 49, 50, 51, 52, 53, 54, 55] (by decide +kernel) (by decide +kernel)
set_option maxRecDepth 20000 in
theorem gX5_moves_X5_goes : GoodIn wsX5_moves (wsV RX5 92 RX5 yX5_goes wsX5_goes) := goodIn_app (goodIn_of _ (by decide +kernel)) ggX5_moves_X5_goes
set_option maxRecDepth 20000 in
theorem ggX5_moves_X5_greatest : GoodIn wsX5_moves wsX5_greatest := goodIn_r _ [33, 1, 34, 35, 36, 5, 37, 18, 19, 20, 21, 38, 39, 40, 41, 42, 43, 44, 45, 46, 47, 48, 49, 50, 51, 52, 53, 54, 55] (by decide +kernel) (by decide +kernel)
set_option maxRecDepth 20000 in
theorem gX5_moves_X5_greatest : GoodIn wsX5_moves (wsV RX5 67 RX5 yX5_greatest wsX5_greatest) := goodIn_app (goodIn_of _ (by decide +kernel)) ggX5_moves_X5_greatest
theorem dX5_moves_0 : decode cX5_moves 0 = .ok (.aload_n 0, 1) := by decide +kernel
theorem dX5_moves_1 : decode cX5_moves 1 = .ok (.iload_n 1, 1) := by decide +kernel
theorem dX5_moves_2 : decode cX5_moves 2 = .ok (.invokevirtual 86, 3) := by decide +kernel
theorem dX5_moves_5 : decode cX5_moves 5 = .ok (.ifCond .eq 11, 3) := by decide +kernel
theorem dX5_moves_8 : decode cX5_moves 8 = .ok (.aload_n 0, 1) := by decide +kernel
theorem dX5_moves_9 : decode cX5_moves 9 = .ok (.iload_n 2, 1) := by decide +kernel
theorem dX5_moves_10 : decode cX5_moves 10 = .ok (.invokevirtual 39, 3) := by decide +kernel
theorem dX5_moves_13 : decode cX5_moves 13 = .ok (.ifCond .ne 5, 3) := by decide +kernel
theorem dX5_moves_16 : decode cX5_moves 16 = .ok (.iconst (-1), 1) := by decide +kernel
theorem dX5_moves_17 : decode cX5_moves 17 = .ok (.ireturn, 1) := by decide +kernel
theorem dX5_moves_18 : decode cX5_moves 18 = .ok (.aload_n 0, 1) := by decide +kernel
theorem dX5_moves_19 : decode cX5_moves 19 = .ok (.iload_n 1, 1) := by decide +kernel
theorem dX5_moves_20 : decode cX5_moves 20 = .ok (.invokevirtual 47, 3) := by decide +kernel
theorem dX5_moves_23 : decode cX5_moves 23 = .ok (.ifCond .ne 36, 3) := by decide +kernel
theorem dX5_moves_26 : decode cX5_moves 26 = .ok (.aload_n 0, 1) := by decide +kernel
theorem dX5_moves_27 : decode cX5_moves 27 = .ok (.iload_n 1, 1) := by decide +kernel
theorem dX5_moves_28 : decode cX5_moves 28 = .ok (.iconst 2, 1) := by decide +kernel
theorem dX5_moves_29 : decode cX5_moves 29 = .ok (.invokevirtual 43, 3) := by decide +kernel
theorem dX5_moves_32 : decode cX5_moves 32 = .ok (.iload_n 2, 1) := by decide +kernel
theorem dX5_moves_33 : decode cX5_moves 33 = .ok (.if_icmp .eq 26, 3) := by decide +kernel
theorem dX5_moves_36 : decode cX5_moves 36 = .ok (.aload_n 0, 1) := by decide +kernel
theorem dX5_moves_37 : decode cX5_moves 37 = .ok (.iload_n 2, 1) := by decide +kernel
theorem dX5_moves_38 : decode cX5_moves 38 = .ok (.invokevirtual 79, 3) := by decide +kernel
theorem dX5_moves_41 : decode cX5_moves 41 = .ok (.ifCond .eq 18, 3) := by decide +kernel
theorem dX5_moves_44 : decode cX5_moves 44 = .ok (.aload_n 0, 1) := by decide +kernel
theorem dX5_moves_45 : decode cX5_moves 45 = .ok (.iload_n 1, 1) := by decide +kernel
theorem dX5_moves_46 : decode cX5_moves 46 = .ok (.iconst 1, 1) := by decide +kernel
theorem dX5_moves_47 : decode cX5_moves 47 = .ok (.invokevirtual 43, 3) := by decide +kernel
theorem dX5_moves_50 : decode cX5_moves 50 = .ok (.aload_n 0, 1) := by decide +kernel
theorem dX5_moves_51 : decode cX5_moves 51 = .ok (.getfield 7, 3) := by decide +kernel
theorem dX5_moves_54 : decode cX5_moves 54 = .ok (.iconst 3, 1) := by decide +kernel
theorem dX5_moves_55 : decode cX5_moves 55 = .ok (.iaload, 1) := by decide +kernel
theorem dX5_moves_56 : decode cX5_moves 56 = .ok (.if_icmp .le 6, 3) := by decide +kernel
theorem dX5_moves_59 : decode cX5_moves 59 = .ok (.bipush (-2), 2) := by decide +kernel
theorem dX5_moves_61 : decode cX5_moves 61 = .ok (.ireturn, 1) := by decide +kernel
theorem dX5_moves_62 : decode cX5_moves 62 = .ok (.aload_n 0, 1) := by decide +kernel
theorem dX5_moves_63 : decode cX5_moves 63 = .ok (.iload_n 1, 1) := by decide +kernel
theorem dX5_moves_64 : decode cX5_moves 64 = .ok (.iload_n 2, 1) := by decide +kernel
theorem dX5_moves_65 : decode cX5_moves 65 = .ok (.invokevirtual 92, 3) := by decide +kernel
theorem dX5_moves_68 : decode cX5_moves 68 = .ok (.aload_n 0, 1) := by decide +kernel
theorem dX5_moves_69 : decode cX5_moves 69 = .ok (.invokevirtual 67, 3) := by decide +kernel
theorem dX5_moves_72 : decode cX5_moves 72 = .ok (.ireturn, 1) := by decide +kernel
set_option maxRecDepth 20000 in
theorem ggX5_move_X5_aside : GoodIn wsX5_move wsX5_aside := goodIn_r _ [5, 6, 7, 60, 61, 62, 63, 64, 65, 66, 67, 68, 69, 70, 71, 72, 73, 74] (by decide +kernel) (by decide +kernel)
set_option maxRecDepth 20000 in
theorem gX5_move_X5_aside : GoodIn wsX5_move (wsV RX5 73 RX5 yX5_aside wsX5_aside) := goodIn_app (goodIn_of _ (by decide +kernel)) ggX5_move_X5_aside
set_option maxRecDepth 20000 in
theorem ggX5_move_X5_moves : GoodIn wsX5_move wsX5_moves := goodIn_r _ [11, 7, 12, 13, 14, 4, 15, 16, 17, 18, 19, 20, 21, 22, 23, 24, 25, 26, 27, 28, 29, 30, 31, 32, 33, 34, 35, 36, 37, 38, 39, 40, 41, 42, 43, 44, 45, 46, 47, 48, 49, 60, 61, 62, 63, 64, 65, 66, 67, 68, 69, 70, 71, 72, 73, 74] (by decide +kernel) (by decide +kernel)
set_option maxRecDepth 20000 in
theorem gX5_move_X5_moves : GoodIn wsX5_move (wsV RX5 96 RX5 yX5_moves wsX5_moves) := goodIn_app (goodIn_of _ (by decide +kernel)) ggX5_move_X5_moves
set_option maxRecDepth 20000 in
theorem ggX5_move_X5_acted : GoodIn wsX5_move wsX5_acted := goodIn_r _ [53, 54, 55, 56, 4, 57, 58, 59, 6, 60, 61, 62, 63, 64, 65, 66, 67, 68, 69, 70, 71, 72, 73, 74] (by decide +kernel) (by decide +kernel)
set_option maxRecDepth 20000 in
theorem gX5_move_X5_acted : GoodIn wsX5_move (wsV RX5 76 RX5 yX5_acted wsX5_acted) := goodIn_app (goodIn_of _ (by decide +kernel)) ggX5_move_X5_acted
theorem dX5_move_0 : decode cX5_move 0 = .ok (.aload_n 0, 1) := by decide +kernel
theorem dX5_move_1 : decode cX5_move 1 = .ok (.invokevirtual 73, 3) := by decide +kernel
theorem dX5_move_4 : decode cX5_move 4 = .ok (.aload_n 0, 1) := by decide +kernel
theorem dX5_move_5 : decode cX5_move 5 = .ok (.aload_n 0, 1) := by decide +kernel
theorem dX5_move_6 : decode cX5_move 6 = .ok (.iload_n 1, 1) := by decide +kernel
theorem dX5_move_7 : decode cX5_move 7 = .ok (.iload_n 2, 1) := by decide +kernel
theorem dX5_move_8 : decode cX5_move 8 = .ok (.invokevirtual 96, 3) := by decide +kernel
theorem dX5_move_11 : decode cX5_move 11 = .ok (.invokevirtual 76, 3) := by decide +kernel
theorem dX5_move_14 : decode cX5_move 14 = .ok (.ireturn, 1) := by decide +kernel
set_option maxRecDepth 20000 in
theorem ggX5_exchanges_X5_isJob : GoodIn wsX5_exchanges wsX5_isJob := goodIn_r _ [6, 1, 7, 8, 5, 9, 33, 34, 35, 36, 37, 38, 39, 40, 41, 42, 43, 44, 45, 46, 47] (by decide +kernel) (by decide +kernel)
set_option maxRecDepth 20000 in
theorem gX5_exchanges_X5_isJob : GoodIn wsX5_exchanges (wsV RX5 86 RX5 yX5_isJob wsX5_isJob) := goodIn_app (goodIn_of _ (by decide +kernel)) ggX5_exchanges_X5_isJob
set_option maxRecDepth 20000 in
theorem ggX5_exchanges_X5_of : GoodIn wsX5_exchanges wsX5_of := goodIn_r _ [13, 1, 33, 34, 35, 36, 37, 38, 39, 40, 41, 42, 43, 44, 45, 46, 47] (by decide +kernel) (by decide +kernel)
set_option maxRecDepth 20000 in
theorem gX5_exchanges_X5_of : GoodIn wsX5_exchanges (wsV RX5 43 RX5 yX5_of wsX5_of) := goodIn_app (goodIn_of _ (by decide +kernel)) ggX5_exchanges_X5_of
set_option maxRecDepth 20000 in
theorem ggX5_exchanges_X5_isDone : GoodIn wsX5_exchanges wsX5_isDone := goodIn_r _ [17, 10, 11, 12, 5, 13, 1, 33, 34, 35, 36, 37, 38, 39, 40, 41, 42, 43, 44, 45, 46, 47] (by decide +kernel) (by decide +kernel)
set_option maxRecDepth 20000 in
theorem gX5_exchanges_X5_isDone : GoodIn wsX5_exchanges (wsV RX5 47 RX5 yX5_isDone wsX5_isDone) := goodIn_app (goodIn_of _ (by decide +kernel)) ggX5_exchanges_X5_isDone
set_option maxRecDepth 20000 in
theorem ggX5_exchanges_X5_goes : GoodIn wsX5_exchanges wsX5_goes := goodIn_r _ [21, 1, 10, 11, 12, 5, 13, 33, 34, 35, 36, 37, 38, 39, 40, 41, 42, 43, 44, 45, 46, 47] (by decide +kernel) (by decide +kernel)
set_option maxRecDepth 20000 in
theorem gX5_exchanges_X5_goes : GoodIn wsX5_exchanges (wsV RX5 92 RX5 yX5_goes wsX5_goes) := goodIn_app (goodIn_of _ (by decide +kernel)) ggX5_exchanges_X5_goes
set_option maxRecDepth 20000 in
theorem ggX5_exchanges_X5_greatest : GoodIn wsX5_exchanges wsX5_greatest := goodIn_r _ [25, 1, 26, 27, 28, 5, 29, 10, 11, 12, 13, 30, 31, 32, 33, 34, 35, 36, 37, 38, 39, 40, 41, 42, 43, 44, 45, 46, 47] (by decide +kernel) (by decide +kernel)
set_option maxRecDepth 20000 in
theorem gX5_exchanges_X5_greatest : GoodIn wsX5_exchanges (wsV RX5 67 RX5 yX5_greatest wsX5_greatest) := goodIn_app (goodIn_of _ (by decide +kernel)) ggX5_exchanges_X5_greatest
theorem dX5_exchanges_0 : decode cX5_exchanges 0 = .ok (.aload_n 0, 1) := by decide +kernel
theorem dX5_exchanges_1 : decode cX5_exchanges 1 = .ok (.iload_n 1, 1) := by decide +kernel
theorem dX5_exchanges_2 : decode cX5_exchanges 2 = .ok (.invokevirtual 86, 3) := by decide +kernel
theorem dX5_exchanges_5 : decode cX5_exchanges 5 = .ok (.ifCond .eq 16, 3) := by decide +kernel
theorem dX5_exchanges_8 : decode cX5_exchanges 8 = .ok (.aload_n 0, 1) := by decide +kernel
theorem dX5_exchanges_9 : decode cX5_exchanges 9 = .ok (.iload_n 2, 1) := by decide +kernel
theorem dX5_exchanges_10 : decode cX5_exchanges 10 = .ok (.invokevirtual 86, 3) := by decide +kernel
theorem dX5_exchanges_13 : decode cX5_exchanges 13 = .ok (.ifCond .eq 8, 3) := by decide +kernel
theorem dX5_exchanges_16 : decode cX5_exchanges 16 = .ok (.iload_n 1, 1) := by decide +kernel
theorem dX5_exchanges_17 : decode cX5_exchanges 17 = .ok (.iload_n 2, 1) := by decide +kernel
theorem dX5_exchanges_18 : decode cX5_exchanges 18 = .ok (.if_icmp .ne 5, 3) := by decide +kernel
theorem dX5_exchanges_21 : decode cX5_exchanges 21 = .ok (.iconst (-1), 1) := by decide +kernel
theorem dX5_exchanges_22 : decode cX5_exchanges 22 = .ok (.ireturn, 1) := by decide +kernel
theorem dX5_exchanges_23 : decode cX5_exchanges 23 = .ok (.aload_n 0, 1) := by decide +kernel
theorem dX5_exchanges_24 : decode cX5_exchanges 24 = .ok (.iload_n 1, 1) := by decide +kernel
theorem dX5_exchanges_25 : decode cX5_exchanges 25 = .ok (.iconst 2, 1) := by decide +kernel
theorem dX5_exchanges_26 : decode cX5_exchanges 26 = .ok (.invokevirtual 43, 3) := by decide +kernel
theorem dX5_exchanges_29 : decode cX5_exchanges 29 = .ok (.istore_n 3, 1) := by decide +kernel
theorem dX5_exchanges_30 : decode cX5_exchanges 30 = .ok (.aload_n 0, 1) := by decide +kernel
theorem dX5_exchanges_31 : decode cX5_exchanges 31 = .ok (.iload_n 2, 1) := by decide +kernel
theorem dX5_exchanges_32 : decode cX5_exchanges 32 = .ok (.iconst 2, 1) := by decide +kernel
theorem dX5_exchanges_33 : decode cX5_exchanges 33 = .ok (.invokevirtual 43, 3) := by decide +kernel
theorem dX5_exchanges_36 : decode cX5_exchanges 36 = .ok (.istore 4, 2) := by decide +kernel
theorem dX5_exchanges_38 : decode cX5_exchanges 38 = .ok (.aload_n 0, 1) := by decide +kernel
theorem dX5_exchanges_39 : decode cX5_exchanges 39 = .ok (.iload_n 1, 1) := by decide +kernel
theorem dX5_exchanges_40 : decode cX5_exchanges 40 = .ok (.invokevirtual 47, 3) := by decide +kernel
theorem dX5_exchanges_43 : decode cX5_exchanges 43 = .ok (.ifCond .ne 39, 3) := by decide +kernel
theorem dX5_exchanges_46 : decode cX5_exchanges 46 = .ok (.aload_n 0, 1) := by decide +kernel
theorem dX5_exchanges_47 : decode cX5_exchanges 47 = .ok (.iload_n 2, 1) := by decide +kernel
theorem dX5_exchanges_48 : decode cX5_exchanges 48 = .ok (.invokevirtual 47, 3) := by decide +kernel
theorem dX5_exchanges_51 : decode cX5_exchanges 51 = .ok (.ifCond .ne 31, 3) := by decide +kernel
theorem dX5_exchanges_54 : decode cX5_exchanges 54 = .ok (.iload_n 3, 1) := by decide +kernel
theorem dX5_exchanges_55 : decode cX5_exchanges 55 = .ok (.iload 4, 2) := by decide +kernel
theorem dX5_exchanges_57 : decode cX5_exchanges 57 = .ok (.if_icmp .eq 25, 3) := by decide +kernel
theorem dX5_exchanges_60 : decode cX5_exchanges 60 = .ok (.aload_n 0, 1) := by decide +kernel
theorem dX5_exchanges_61 : decode cX5_exchanges 61 = .ok (.iload_n 1, 1) := by decide +kernel
theorem dX5_exchanges_62 : decode cX5_exchanges 62 = .ok (.iconst 1, 1) := by decide +kernel
theorem dX5_exchanges_63 : decode cX5_exchanges 63 = .ok (.invokevirtual 43, 3) := by decide +kernel
theorem dX5_exchanges_66 : decode cX5_exchanges 66 = .ok (.aload_n 0, 1) := by decide +kernel
theorem dX5_exchanges_67 : decode cX5_exchanges 67 = .ok (.iload_n 2, 1) := by decide +kernel
theorem dX5_exchanges_68 : decode cX5_exchanges 68 = .ok (.iconst 1, 1) := by decide +kernel
theorem dX5_exchanges_69 : decode cX5_exchanges 69 = .ok (.invokevirtual 43, 3) := by decide +kernel
theorem dX5_exchanges_72 : decode cX5_exchanges 72 = .ok (.iadd, 1) := by decide +kernel
theorem dX5_exchanges_73 : decode cX5_exchanges 73 = .ok (.aload_n 0, 1) := by decide +kernel
theorem dX5_exchanges_74 : decode cX5_exchanges 74 = .ok (.getfield 7, 3) := by decide +kernel
theorem dX5_exchanges_77 : decode cX5_exchanges 77 = .ok (.iconst 3, 1) := by decide +kernel
theorem dX5_exchanges_78 : decode cX5_exchanges 78 = .ok (.iaload, 1) := by decide +kernel
theorem dX5_exchanges_79 : decode cX5_exchanges 79 = .ok (.if_icmp .le 6, 3) := by decide +kernel
theorem dX5_exchanges_82 : decode cX5_exchanges 82 = .ok (.bipush (-2), 2) := by decide +kernel
theorem dX5_exchanges_84 : decode cX5_exchanges 84 = .ok (.ireturn, 1) := by decide +kernel
theorem dX5_exchanges_85 : decode cX5_exchanges 85 = .ok (.aload_n 0, 1) := by decide +kernel
theorem dX5_exchanges_86 : decode cX5_exchanges 86 = .ok (.iload_n 1, 1) := by decide +kernel
theorem dX5_exchanges_87 : decode cX5_exchanges 87 = .ok (.iload 4, 2) := by decide +kernel
theorem dX5_exchanges_89 : decode cX5_exchanges 89 = .ok (.invokevirtual 92, 3) := by decide +kernel
theorem dX5_exchanges_92 : decode cX5_exchanges 92 = .ok (.aload_n 0, 1) := by decide +kernel
theorem dX5_exchanges_93 : decode cX5_exchanges 93 = .ok (.iload_n 2, 1) := by decide +kernel
theorem dX5_exchanges_94 : decode cX5_exchanges 94 = .ok (.iload_n 3, 1) := by decide +kernel
theorem dX5_exchanges_95 : decode cX5_exchanges 95 = .ok (.invokevirtual 92, 3) := by decide +kernel
theorem dX5_exchanges_98 : decode cX5_exchanges 98 = .ok (.aload_n 0, 1) := by decide +kernel
theorem dX5_exchanges_99 : decode cX5_exchanges 99 = .ok (.invokevirtual 67, 3) := by decide +kernel
theorem dX5_exchanges_102 : decode cX5_exchanges 102 = .ok (.ireturn, 1) := by decide +kernel
set_option maxRecDepth 20000 in
theorem ggX5_exchange_X5_aside : GoodIn wsX5_exchange wsX5_aside := goodIn_r _ [5, 6, 7, 52, 53, 54, 55, 56, 57, 58, 59, 60, 61, 62, 63, 64, 65, 66] (by decide +kernel) (by decide +kernel)
set_option maxRecDepth 20000 in
theorem gX5_exchange_X5_aside : GoodIn wsX5_exchange (wsV RX5 73 RX5 yX5_aside wsX5_aside) := goodIn_app (goodIn_of _ (by decide +kernel)) ggX5_exchange_X5_aside
set_option maxRecDepth 20000 in
theorem ggX5_exchange_X5_exchanges : GoodIn wsX5_exchange wsX5_exchanges := goodIn_r _ [11, 7, 12, 13, 14, 4, 15, 16, 17, 18, 19, 20, 21, 22, 23, 24, 25, 26, 27, 28, 29, 30, 31, 32, 33, 34, 35, 36, 37, 38, 39, 40, 41, 52, 53, 54, 55, 56, 57, 58, 59, 60, 61, 62, 63, 64, 65, 66] (by decide +kernel) (by decide +kernel)
set_option maxRecDepth 20000 in
theorem gX5_exchange_X5_exchanges : GoodIn wsX5_exchange (wsV RX5 99 RX5 yX5_exchanges wsX5_exchanges) := goodIn_app (goodIn_of _ (by decide +kernel)) ggX5_exchange_X5_exchanges
set_option maxRecDepth 20000 in
theorem ggX5_exchange_X5_acted : GoodIn wsX5_exchange wsX5_acted := goodIn_r _ [45, 46, 47, 48, 4, 49, 50, 51, 6, 52, 53, 54, 55, 56, 57, 58, 59, 60, 61, 62, 63, 64, 65, 66] (by decide +kernel) (by decide +kernel)
set_option maxRecDepth 20000 in
theorem gX5_exchange_X5_acted : GoodIn wsX5_exchange (wsV RX5 76 RX5 yX5_acted wsX5_acted) := goodIn_app (goodIn_of _ (by decide +kernel)) ggX5_exchange_X5_acted
theorem dX5_exchange_0 : decode cX5_exchange 0 = .ok (.aload_n 0, 1) := by decide +kernel
theorem dX5_exchange_1 : decode cX5_exchange 1 = .ok (.invokevirtual 73, 3) := by decide +kernel
theorem dX5_exchange_4 : decode cX5_exchange 4 = .ok (.aload_n 0, 1) := by decide +kernel
theorem dX5_exchange_5 : decode cX5_exchange 5 = .ok (.aload_n 0, 1) := by decide +kernel
theorem dX5_exchange_6 : decode cX5_exchange 6 = .ok (.iload_n 1, 1) := by decide +kernel
theorem dX5_exchange_7 : decode cX5_exchange 7 = .ok (.iload_n 2, 1) := by decide +kernel
theorem dX5_exchange_8 : decode cX5_exchange 8 = .ok (.invokevirtual 99, 3) := by decide +kernel
theorem dX5_exchange_11 : decode cX5_exchange 11 = .ok (.invokevirtual 76, 3) := by decide +kernel
theorem dX5_exchange_14 : decode cX5_exchange 14 = .ok (.ireturn, 1) := by decide +kernel
set_option maxRecDepth 20000 in
theorem ggX5_rings_X5_isJob : GoodIn wsX5_rings wsX5_isJob := goodIn_r _ [6, 1, 7, 8, 5, 9, 33, 34, 35, 36, 37, 38, 39, 40, 41, 42, 43, 44, 45, 46, 47] (by decide +kernel) (by decide +kernel)
set_option maxRecDepth 20000 in
theorem gX5_rings_X5_isJob : GoodIn wsX5_rings (wsV RX5 86 RX5 yX5_isJob wsX5_isJob) := goodIn_app (goodIn_of _ (by decide +kernel)) ggX5_rings_X5_isJob
set_option maxRecDepth 20000 in
theorem ggX5_rings_X5_of : GoodIn wsX5_rings wsX5_of := goodIn_r _ [13, 1, 33, 34, 35, 36, 37, 38, 39, 40, 41, 42, 43, 44, 45, 46, 47] (by decide +kernel) (by decide +kernel)
set_option maxRecDepth 20000 in
theorem gX5_rings_X5_of : GoodIn wsX5_rings (wsV RX5 43 RX5 yX5_of wsX5_of) := goodIn_app (goodIn_of _ (by decide +kernel)) ggX5_rings_X5_of
set_option maxRecDepth 20000 in
theorem ggX5_rings_X5_isDone : GoodIn wsX5_rings wsX5_isDone := goodIn_r _ [17, 10, 11, 12, 5, 13, 1, 33, 34, 35, 36, 37, 38, 39, 40, 41, 42, 43, 44, 45, 46, 47] (by decide +kernel) (by decide +kernel)
set_option maxRecDepth 20000 in
theorem gX5_rings_X5_isDone : GoodIn wsX5_rings (wsV RX5 47 RX5 yX5_isDone wsX5_isDone) := goodIn_app (goodIn_of _ (by decide +kernel)) ggX5_rings_X5_isDone
set_option maxRecDepth 20000 in
theorem ggX5_rings_X5_goes : GoodIn wsX5_rings wsX5_goes := goodIn_r _ [21, 1, 10, 11, 12, 5, 13, 33, 34, 35, 36, 37, 38, 39, 40, 41, 42, 43, 44, 45, 46, 47] (by decide +kernel) (by decide +kernel)
set_option maxRecDepth 20000 in
theorem gX5_rings_X5_goes : GoodIn wsX5_rings (wsV RX5 92 RX5 yX5_goes wsX5_goes) := goodIn_app (goodIn_of _ (by decide +kernel)) ggX5_rings_X5_goes
set_option maxRecDepth 20000 in
theorem ggX5_rings_X5_greatest : GoodIn wsX5_rings wsX5_greatest := goodIn_r _ [25, 1, 26, 27, 28, 5, 29, 10, 11, 12, 13, 30, 31, 32, 33, 34, 35, 36, 37, 38, 39, 40, 41, 42, 43, 44, 45, 46, 47] (by decide +kernel) (by decide +kernel)
set_option maxRecDepth 20000 in
theorem gX5_rings_X5_greatest : GoodIn wsX5_rings (wsV RX5 67 RX5 yX5_greatest wsX5_greatest) := goodIn_app (goodIn_of _ (by decide +kernel)) ggX5_rings_X5_greatest
theorem dX5_rings_0 : decode cX5_rings 0 = .ok (.aload_n 0, 1) := by decide +kernel
theorem dX5_rings_1 : decode cX5_rings 1 = .ok (.iload_n 1, 1) := by decide +kernel
theorem dX5_rings_2 : decode cX5_rings 2 = .ok (.invokevirtual 86, 3) := by decide +kernel
theorem dX5_rings_5 : decode cX5_rings 5 = .ok (.ifCond .eq 34, 3) := by decide +kernel
theorem dX5_rings_8 : decode cX5_rings 8 = .ok (.aload_n 0, 1) := by decide +kernel
theorem dX5_rings_9 : decode cX5_rings 9 = .ok (.iload_n 2, 1) := by decide +kernel
theorem dX5_rings_10 : decode cX5_rings 10 = .ok (.invokevirtual 86, 3) := by decide +kernel
theorem dX5_rings_13 : decode cX5_rings 13 = .ok (.ifCond .eq 26, 3) := by decide +kernel
theorem dX5_rings_16 : decode cX5_rings 16 = .ok (.aload_n 0, 1) := by decide +kernel
theorem dX5_rings_17 : decode cX5_rings 17 = .ok (.iload_n 3, 1) := by decide +kernel
theorem dX5_rings_18 : decode cX5_rings 18 = .ok (.invokevirtual 86, 3) := by decide +kernel
theorem dX5_rings_21 : decode cX5_rings 21 = .ok (.ifCond .eq 18, 3) := by decide +kernel
theorem dX5_rings_24 : decode cX5_rings 24 = .ok (.iload_n 1, 1) := by decide +kernel
theorem dX5_rings_25 : decode cX5_rings 25 = .ok (.iload_n 2, 1) := by decide +kernel
theorem dX5_rings_26 : decode cX5_rings 26 = .ok (.if_icmp .eq 13, 3) := by decide +kernel
theorem dX5_rings_29 : decode cX5_rings 29 = .ok (.iload_n 2, 1) := by decide +kernel
theorem dX5_rings_30 : decode cX5_rings 30 = .ok (.iload_n 3, 1) := by decide +kernel
theorem dX5_rings_31 : decode cX5_rings 31 = .ok (.if_icmp .eq 8, 3) := by decide +kernel
theorem dX5_rings_34 : decode cX5_rings 34 = .ok (.iload_n 1, 1) := by decide +kernel
theorem dX5_rings_35 : decode cX5_rings 35 = .ok (.iload_n 3, 1) := by decide +kernel
theorem dX5_rings_36 : decode cX5_rings 36 = .ok (.if_icmp .ne 5, 3) := by decide +kernel
theorem dX5_rings_39 : decode cX5_rings 39 = .ok (.iconst (-1), 1) := by decide +kernel
theorem dX5_rings_40 : decode cX5_rings 40 = .ok (.ireturn, 1) := by decide +kernel
theorem dX5_rings_41 : decode cX5_rings 41 = .ok (.aload_n 0, 1) := by decide +kernel
theorem dX5_rings_42 : decode cX5_rings 42 = .ok (.iload_n 1, 1) := by decide +kernel
theorem dX5_rings_43 : decode cX5_rings 43 = .ok (.iconst 2, 1) := by decide +kernel
theorem dX5_rings_44 : decode cX5_rings 44 = .ok (.invokevirtual 43, 3) := by decide +kernel
theorem dX5_rings_47 : decode cX5_rings 47 = .ok (.istore 4, 2) := by decide +kernel
theorem dX5_rings_49 : decode cX5_rings 49 = .ok (.aload_n 0, 1) := by decide +kernel
theorem dX5_rings_50 : decode cX5_rings 50 = .ok (.iload_n 2, 1) := by decide +kernel
theorem dX5_rings_51 : decode cX5_rings 51 = .ok (.iconst 2, 1) := by decide +kernel
theorem dX5_rings_52 : decode cX5_rings 52 = .ok (.invokevirtual 43, 3) := by decide +kernel
theorem dX5_rings_55 : decode cX5_rings 55 = .ok (.istore 5, 2) := by decide +kernel
theorem dX5_rings_57 : decode cX5_rings 57 = .ok (.aload_n 0, 1) := by decide +kernel
theorem dX5_rings_58 : decode cX5_rings 58 = .ok (.iload_n 3, 1) := by decide +kernel
theorem dX5_rings_59 : decode cX5_rings 59 = .ok (.iconst 2, 1) := by decide +kernel
theorem dX5_rings_60 : decode cX5_rings 60 = .ok (.invokevirtual 43, 3) := by decide +kernel
theorem dX5_rings_63 : decode cX5_rings 63 = .ok (.istore 6, 2) := by decide +kernel
theorem dX5_rings_65 : decode cX5_rings 65 = .ok (.iload 4, 2) := by decide +kernel
theorem dX5_rings_67 : decode cX5_rings 67 = .ok (.iload 5, 2) := by decide +kernel
theorem dX5_rings_69 : decode cX5_rings 69 = .ok (.if_icmp .eq 21, 3) := by decide +kernel
theorem dX5_rings_72 : decode cX5_rings 72 = .ok (.iload 5, 2) := by decide +kernel
theorem dX5_rings_74 : decode cX5_rings 74 = .ok (.iload 6, 2) := by decide +kernel
theorem dX5_rings_76 : decode cX5_rings 76 = .ok (.if_icmp .eq 14, 3) := by decide +kernel
theorem dX5_rings_79 : decode cX5_rings 79 = .ok (.iload 4, 2) := by decide +kernel
theorem dX5_rings_81 : decode cX5_rings 81 = .ok (.iload 6, 2) := by decide +kernel
theorem dX5_rings_83 : decode cX5_rings 83 = .ok (.if_icmp .eq 7, 3) := by decide +kernel
theorem dX5_rings_86 : decode cX5_rings 86 = .ok (.iconst 1, 1) := by decide +kernel
theorem dX5_rings_87 : decode cX5_rings 87 = .ok (.goto 4, 3) := by decide +kernel
theorem dX5_rings_90 : decode cX5_rings 90 = .ok (.iconst 0, 1) := by decide +kernel
theorem dX5_rings_91 : decode cX5_rings 91 = .ok (.istore 7, 2) := by decide +kernel
theorem dX5_rings_93 : decode cX5_rings 93 = .ok (.aload_n 0, 1) := by decide +kernel
theorem dX5_rings_94 : decode cX5_rings 94 = .ok (.iload_n 1, 1) := by decide +kernel
theorem dX5_rings_95 : decode cX5_rings 95 = .ok (.invokevirtual 47, 3) := by decide +kernel
theorem dX5_rings_98 : decode cX5_rings 98 = .ok (.ifCond .ne 53, 3) := by decide +kernel
theorem dX5_rings_101 : decode cX5_rings 101 = .ok (.aload_n 0, 1) := by decide +kernel
theorem dX5_rings_102 : decode cX5_rings 102 = .ok (.iload_n 2, 1) := by decide +kernel
theorem dX5_rings_103 : decode cX5_rings 103 = .ok (.invokevirtual 47, 3) := by decide +kernel
theorem dX5_rings_106 : decode cX5_rings 106 = .ok (.ifCond .ne 45, 3) := by decide +kernel
theorem dX5_rings_109 : decode cX5_rings 109 = .ok (.aload_n 0, 1) := by decide +kernel
theorem dX5_rings_110 : decode cX5_rings 110 = .ok (.iload_n 3, 1) := by decide +kernel
theorem dX5_rings_111 : decode cX5_rings 111 = .ok (.invokevirtual 47, 3) := by decide +kernel
theorem dX5_rings_114 : decode cX5_rings 114 = .ok (.ifCond .ne 37, 3) := by decide +kernel
theorem dX5_rings_117 : decode cX5_rings 117 = .ok (.iload 7, 2) := by decide +kernel
theorem dX5_rings_119 : decode cX5_rings 119 = .ok (.ifCond .eq 32, 3) := by decide +kernel
theorem dX5_rings_122 : decode cX5_rings 122 = .ok (.aload_n 0, 1) := by decide +kernel
theorem dX5_rings_123 : decode cX5_rings 123 = .ok (.iload_n 1, 1) := by decide +kernel
theorem dX5_rings_124 : decode cX5_rings 124 = .ok (.iconst 1, 1) := by decide +kernel
theorem dX5_rings_125 : decode cX5_rings 125 = .ok (.invokevirtual 43, 3) := by decide +kernel
theorem dX5_rings_128 : decode cX5_rings 128 = .ok (.aload_n 0, 1) := by decide +kernel
theorem dX5_rings_129 : decode cX5_rings 129 = .ok (.iload_n 2, 1) := by decide +kernel
theorem dX5_rings_130 : decode cX5_rings 130 = .ok (.iconst 1, 1) := by decide +kernel
theorem dX5_rings_131 : decode cX5_rings 131 = .ok (.invokevirtual 43, 3) := by decide +kernel
theorem dX5_rings_134 : decode cX5_rings 134 = .ok (.iadd, 1) := by decide +kernel
theorem dX5_rings_135 : decode cX5_rings 135 = .ok (.aload_n 0, 1) := by decide +kernel
theorem dX5_rings_136 : decode cX5_rings 136 = .ok (.iload_n 3, 1) := by decide +kernel
theorem dX5_rings_137 : decode cX5_rings 137 = .ok (.iconst 1, 1) := by decide +kernel
theorem dX5_rings_138 : decode cX5_rings 138 = .ok (.invokevirtual 43, 3) := by decide +kernel
theorem dX5_rings_141 : decode cX5_rings 141 = .ok (.iadd, 1) := by decide +kernel
theorem dX5_rings_142 : decode cX5_rings 142 = .ok (.aload_n 0, 1) := by decide +kernel
theorem dX5_rings_143 : decode cX5_rings 143 = .ok (.getfield 7, 3) := by decide +kernel
theorem dX5_rings_146 : decode cX5_rings 146 = .ok (.iconst 3, 1) := by decide +kernel
theorem dX5_rings_147 : decode cX5_rings 147 = .ok (.iaload, 1) := by decide +kernel
theorem dX5_rings_148 : decode cX5_rings 148 = .ok (.if_icmp .le 6, 3) := by decide +kernel
theorem dX5_rings_151 : decode cX5_rings 151 = .ok (.bipush (-2), 2) := by decide +kernel
theorem dX5_rings_153 : decode cX5_rings 153 = .ok (.ireturn, 1) := by decide +kernel
theorem dX5_rings_154 : decode cX5_rings 154 = .ok (.aload_n 0, 1) := by decide +kernel
theorem dX5_rings_155 : decode cX5_rings 155 = .ok (.iload_n 1, 1) := by decide +kernel
theorem dX5_rings_156 : decode cX5_rings 156 = .ok (.iload 5, 2) := by decide +kernel
theorem dX5_rings_158 : decode cX5_rings 158 = .ok (.invokevirtual 92, 3) := by decide +kernel
theorem dX5_rings_161 : decode cX5_rings 161 = .ok (.aload_n 0, 1) := by decide +kernel
theorem dX5_rings_162 : decode cX5_rings 162 = .ok (.iload_n 2, 1) := by decide +kernel
theorem dX5_rings_163 : decode cX5_rings 163 = .ok (.iload 6, 2) := by decide +kernel
theorem dX5_rings_165 : decode cX5_rings 165 = .ok (.invokevirtual 92, 3) := by decide +kernel
theorem dX5_rings_168 : decode cX5_rings 168 = .ok (.aload_n 0, 1) := by decide +kernel
theorem dX5_rings_169 : decode cX5_rings 169 = .ok (.iload_n 3, 1) := by decide +kernel
theorem dX5_rings_170 : decode cX5_rings 170 = .ok (.iload 4, 2) := by decide +kernel
theorem dX5_rings_172 : decode cX5_rings 172 = .ok (.invokevirtual 92, 3) := by decide +kernel
theorem dX5_rings_175 : decode cX5_rings 175 = .ok (.aload_n 0, 1) := by decide +kernel
theorem dX5_rings_176 : decode cX5_rings 176 = .ok (.invokevirtual 67, 3) := by decide +kernel
theorem dX5_rings_179 : decode cX5_rings 179 = .ok (.ireturn, 1) := by decide +kernel
set_option maxRecDepth 20000 in
theorem ggX5_ring_X5_aside : GoodIn wsX5_ring wsX5_aside := goodIn_r _ [5, 6, 7, 52, 53, 54, 55, 56, 57, 58, 59, 60, 61, 62, 63, 64, 65, 66] (by decide +kernel) (by decide +kernel)
set_option maxRecDepth 20000 in
theorem gX5_ring_X5_aside : GoodIn wsX5_ring (wsV RX5 73 RX5 yX5_aside wsX5_aside) := goodIn_app (goodIn_of _ (by decide +kernel)) ggX5_ring_X5_aside
set_option maxRecDepth 20000 in
theorem ggX5_ring_X5_rings : GoodIn wsX5_ring wsX5_rings := goodIn_r _ [11, 7, 12, 13, 14, 4, 15, 16, 17, 18, 19, 20, 21, 22, 23, 24, 25, 26, 27, 28, 29, 30, 31, 32, 33, 34, 35, 36, 37, 38, 39, 40, 41, 52, 53, 54, 55, 56, 57, 58, 59, 60, 61, 62, 63, 64, 65, 66] (by decide +kernel) (by decide +kernel)
set_option maxRecDepth 20000 in
theorem gX5_ring_X5_rings : GoodIn wsX5_ring (wsV RX5 102 RX5 yX5_rings wsX5_rings) := goodIn_app (goodIn_of _ (by decide +kernel)) ggX5_ring_X5_rings
set_option maxRecDepth 20000 in
theorem ggX5_ring_X5_acted : GoodIn wsX5_ring wsX5_acted := goodIn_r _ [45, 46, 47, 48, 4, 49, 50, 51, 6, 52, 53, 54, 55, 56, 57, 58, 59, 60, 61, 62, 63, 64, 65, 66] (by decide +kernel) (by decide +kernel)
set_option maxRecDepth 20000 in
theorem gX5_ring_X5_acted : GoodIn wsX5_ring (wsV RX5 76 RX5 yX5_acted wsX5_acted) := goodIn_app (goodIn_of _ (by decide +kernel)) ggX5_ring_X5_acted
theorem dX5_ring_0 : decode cX5_ring 0 = .ok (.aload_n 0, 1) := by decide +kernel
theorem dX5_ring_1 : decode cX5_ring 1 = .ok (.invokevirtual 73, 3) := by decide +kernel
theorem dX5_ring_4 : decode cX5_ring 4 = .ok (.aload_n 0, 1) := by decide +kernel
theorem dX5_ring_5 : decode cX5_ring 5 = .ok (.aload_n 0, 1) := by decide +kernel
theorem dX5_ring_6 : decode cX5_ring 6 = .ok (.iload_n 1, 1) := by decide +kernel
theorem dX5_ring_7 : decode cX5_ring 7 = .ok (.iload_n 2, 1) := by decide +kernel
theorem dX5_ring_8 : decode cX5_ring 8 = .ok (.iload_n 3, 1) := by decide +kernel
theorem dX5_ring_9 : decode cX5_ring 9 = .ok (.invokevirtual 102, 3) := by decide +kernel
theorem dX5_ring_12 : decode cX5_ring 12 = .ok (.invokevirtual 76, 3) := by decide +kernel
theorem dX5_ring_15 : decode cX5_ring 15 = .ok (.ireturn, 1) := by decide +kernel
set_option maxRecDepth 20000 in
theorem ggX5_full_X5_isOpen : GoodIn wsX5_full wsX5_isOpen := goodIn_r _ [6, 1, 7, 8, 9, 5, 10, 11, 12, 13, 22, 23, 24, 25, 26, 27, 28, 29, 30, 31, 32, 33, 34, 35, 36] (by decide +kernel) (by decide +kernel)
set_option maxRecDepth 20000 in
theorem gX5_full_X5_isOpen : GoodIn wsX5_full (wsV RX5 79 RX5 yX5_isOpen wsX5_isOpen) := goodIn_app (goodIn_of _ (by decide +kernel)) ggX5_full_X5_isOpen
set_option maxRecDepth 20000 in
theorem ggX5_full_X5_load : GoodIn wsX5_full wsX5_load := goodIn_r _ [17, 1, 18, 19, 20, 5, 21, 22, 23, 24, 25, 26, 27, 28, 29, 30, 31, 32, 33, 34, 35, 36] (by decide +kernel) (by decide +kernel)
set_option maxRecDepth 20000 in
theorem gX5_full_X5_load : GoodIn wsX5_full (wsV RX5 50 RX5 yX5_load wsX5_load) := goodIn_app (goodIn_of _ (by decide +kernel)) ggX5_full_X5_load
theorem dX5_full_0 : decode cX5_full 0 = .ok (.bipush (-9), 2) := by decide +kernel
theorem dX5_full_2 : decode cX5_full 2 = .ok (.istore_n 1, 1) := by decide +kernel
theorem dX5_full_3 : decode cX5_full 3 = .ok (.aload_n 0, 1) := by decide +kernel
theorem dX5_full_4 : decode cX5_full 4 = .ok (.getfield 7, 3) := by decide +kernel
theorem dX5_full_7 : decode cX5_full 7 = .ok (.iconst 0, 1) := by decide +kernel
theorem dX5_full_8 : decode cX5_full 8 = .ok (.iaload, 1) := by decide +kernel
theorem dX5_full_9 : decode cX5_full 9 = .ok (.iconst 1, 1) := by decide +kernel
theorem dX5_full_10 : decode cX5_full 10 = .ok (.isub, 1) := by decide +kernel
theorem dX5_full_11 : decode cX5_full 11 = .ok (.istore_n 2, 1) := by decide +kernel
theorem dX5_full_12 : decode cX5_full 12 = .ok (.iload_n 2, 1) := by decide +kernel
theorem dX5_full_13 : decode cX5_full 13 = .ok (.ifCond .lt 42, 3) := by decide +kernel
theorem dX5_full_16 : decode cX5_full 16 = .ok (.aload_n 0, 1) := by decide +kernel
theorem dX5_full_17 : decode cX5_full 17 = .ok (.iload_n 2, 1) := by decide +kernel
theorem dX5_full_18 : decode cX5_full 18 = .ok (.invokevirtual 79, 3) := by decide +kernel
theorem dX5_full_21 : decode cX5_full 21 = .ok (.ifCond .eq 26, 3) := by decide +kernel
theorem dX5_full_24 : decode cX5_full 24 = .ok (.iload_n 1, 1) := by decide +kernel
theorem dX5_full_25 : decode cX5_full 25 = .ok (.bipush (-9), 2) := by decide +kernel
theorem dX5_full_27 : decode cX5_full 27 = .ok (.if_icmp .eq 16, 3) := by decide +kernel
theorem dX5_full_30 : decode cX5_full 30 = .ok (.aload_n 0, 1) := by decide +kernel
theorem dX5_full_31 : decode cX5_full 31 = .ok (.iload_n 2, 1) := by decide +kernel
theorem dX5_full_32 : decode cX5_full 32 = .ok (.invokevirtual 50, 3) := by decide +kernel
theorem dX5_full_35 : decode cX5_full 35 = .ok (.aload_n 0, 1) := by decide +kernel
theorem dX5_full_36 : decode cX5_full 36 = .ok (.iload_n 1, 1) := by decide +kernel
theorem dX5_full_37 : decode cX5_full 37 = .ok (.invokevirtual 50, 3) := by decide +kernel
theorem dX5_full_40 : decode cX5_full 40 = .ok (.if_icmp .lt 7, 3) := by decide +kernel
theorem dX5_full_43 : decode cX5_full 43 = .ok (.iload_n 2, 1) := by decide +kernel
theorem dX5_full_44 : decode cX5_full 44 = .ok (.goto 4, 3) := by decide +kernel
theorem dX5_full_47 : decode cX5_full 47 = .ok (.iload_n 1, 1) := by decide +kernel
theorem dX5_full_48 : decode cX5_full 48 = .ok (.istore_n 1, 1) := by decide +kernel
theorem dX5_full_49 : decode cX5_full 49 = .ok (.iinc 2 (-1), 3) := by decide +kernel
theorem dX5_full_52 : decode cX5_full 52 = .ok (.goto (-40), 3) := by decide +kernel
theorem dX5_full_55 : decode cX5_full 55 = .ok (.iload_n 1, 1) := by decide +kernel
theorem dX5_full_56 : decode cX5_full 56 = .ok (.ireturn, 1) := by decide +kernel
set_option maxRecDepth 20000 in
theorem ggX5_findsMove_X5_load : GoodIn wsX5_findsMove wsX5_load := goodIn_r _ [13, 3, 14, 15, 16, 12, 17, 32, 33, 34, 35, 36, 37, 38, 39, 40, 41, 42, 43, 44, 45, 46] (by decide +kernel) (by decide +kernel)
set_option maxRecDepth 20000 in
theorem gX5_findsMove_X5_load : GoodIn wsX5_findsMove (wsV RX5 50 RX5 yX5_load wsX5_load) := goodIn_app (goodIn_of _ (by decide +kernel)) ggX5_findsMove_X5_load
set_option maxRecDepth 20000 in
theorem ggX5_findsMove_X5_of : GoodIn wsX5_findsMove wsX5_of := goodIn_r _ [17, 3, 32, 33, 34, 35, 36, 37, 38, 39, 40, 41, 42, 43, 44, 45, 46] (by decide +kernel) (by decide +kernel)
set_option maxRecDepth 20000 in
theorem gX5_findsMove_X5_of : GoodIn wsX5_findsMove (wsV RX5 43 RX5 yX5_of wsX5_of) := goodIn_app (goodIn_of _ (by decide +kernel)) ggX5_findsMove_X5_of
set_option maxRecDepth 20000 in
theorem ggX5_findsMove_X5_isOpen : GoodIn wsX5_findsMove wsX5_isOpen := goodIn_r _ [21, 3, 22, 23, 24, 12, 25, 26, 27, 28, 32, 33, 34, 35, 36, 37, 38, 39, 40, 41, 42, 43, 44, 45, 46] (by decide +kernel) (by decide +kernel)
set_option maxRecDepth 20000 in
theorem gX5_findsMove_X5_isOpen : GoodIn wsX5_findsMove (wsV RX5 79 RX5 yX5_isOpen wsX5_isOpen) := goodIn_app (goodIn_of _ (by decide +kernel)) ggX5_findsMove_X5_isOpen
set_option maxRecDepth 20000 in
theorem ggX5_findsMove_X5_greater : GoodIn wsX5_findsMove wsX5_greater := goodIn_r _ [31] (by decide +kernel) (by decide +kernel)
set_option maxRecDepth 20000 in
theorem gX5_findsMove_X5_greater : GoodIn wsX5_findsMove (va_wsS RX5 54 yX5_greater wsX5_greater) := goodIn_app (goodIn_of _ (by decide +kernel)) ggX5_findsMove_X5_greater
theorem dX5_findsMove_0 : decode cX5_findsMove 0 = .ok (.aload_n 0, 1) := by decide +kernel
theorem dX5_findsMove_1 : decode cX5_findsMove 1 = .ok (.iload_n 1, 1) := by decide +kernel
theorem dX5_findsMove_2 : decode cX5_findsMove 2 = .ok (.invokevirtual 50, 3) := by decide +kernel
theorem dX5_findsMove_5 : decode cX5_findsMove 5 = .ok (.i2l, 1) := by decide +kernel
theorem dX5_findsMove_6 : decode cX5_findsMove 6 = .ok (.ldc2_w 105, 3) := by decide +kernel
theorem dX5_findsMove_9 : decode cX5_findsMove 9 = .ok (.lmul, 1) := by decide +kernel
theorem dX5_findsMove_10 : decode cX5_findsMove 10 = .ok (.lstore_n 2, 1) := by decide +kernel
theorem dX5_findsMove_11 : decode cX5_findsMove 11 = .ok (.aload_n 0, 1) := by decide +kernel
theorem dX5_findsMove_12 : decode cX5_findsMove 12 = .ok (.bipush (-9), 2) := by decide +kernel
theorem dX5_findsMove_14 : decode cX5_findsMove 14 = .ok (.putfield 107, 3) := by decide +kernel
theorem dX5_findsMove_17 : decode cX5_findsMove 17 = .ok (.iconst 0, 1) := by decide +kernel
theorem dX5_findsMove_18 : decode cX5_findsMove 18 = .ok (.istore 4, 2) := by decide +kernel
theorem dX5_findsMove_20 : decode cX5_findsMove 20 = .ok (.iload 4, 2) := by decide +kernel
theorem dX5_findsMove_22 : decode cX5_findsMove 22 = .ok (.aload_n 0, 1) := by decide +kernel
theorem dX5_findsMove_23 : decode cX5_findsMove 23 = .ok (.getfield 7, 3) := by decide +kernel
theorem dX5_findsMove_26 : decode cX5_findsMove 26 = .ok (.iconst 2, 1) := by decide +kernel
theorem dX5_findsMove_27 : decode cX5_findsMove 27 = .ok (.iaload, 1) := by decide +kernel
theorem dX5_findsMove_28 : decode cX5_findsMove 28 = .ok (.if_icmp .ge 160, 3) := by decide +kernel
theorem dX5_findsMove_31 : decode cX5_findsMove 31 = .ok (.iconst 0, 1) := by decide +kernel
theorem dX5_findsMove_32 : decode cX5_findsMove 32 = .ok (.istore 5, 2) := by decide +kernel
theorem dX5_findsMove_34 : decode cX5_findsMove 34 = .ok (.iload 5, 2) := by decide +kernel
theorem dX5_findsMove_36 : decode cX5_findsMove 36 = .ok (.aload_n 0, 1) := by decide +kernel
theorem dX5_findsMove_37 : decode cX5_findsMove 37 = .ok (.getfield 7, 3) := by decide +kernel
theorem dX5_findsMove_40 : decode cX5_findsMove 40 = .ok (.iconst 0, 1) := by decide +kernel
theorem dX5_findsMove_41 : decode cX5_findsMove 41 = .ok (.iaload, 1) := by decide +kernel
theorem dX5_findsMove_42 : decode cX5_findsMove 42 = .ok (.if_icmp .ge 140, 3) := by decide +kernel
theorem dX5_findsMove_45 : decode cX5_findsMove 45 = .ok (.aload_n 0, 1) := by decide +kernel
theorem dX5_findsMove_46 : decode cX5_findsMove 46 = .ok (.iload 4, 2) := by decide +kernel
theorem dX5_findsMove_48 : decode cX5_findsMove 48 = .ok (.iconst 2, 1) := by decide +kernel
theorem dX5_findsMove_49 : decode cX5_findsMove 49 = .ok (.invokevirtual 43, 3) := by decide +kernel
theorem dX5_findsMove_52 : decode cX5_findsMove 52 = .ok (.iload_n 1, 1) := by decide +kernel
theorem dX5_findsMove_53 : decode cX5_findsMove 53 = .ok (.if_icmp .ne 129, 3) := by decide +kernel
theorem dX5_findsMove_56 : decode cX5_findsMove 56 = .ok (.iload 5, 2) := by decide +kernel
theorem dX5_findsMove_58 : decode cX5_findsMove 58 = .ok (.iload_n 1, 1) := by decide +kernel
theorem dX5_findsMove_59 : decode cX5_findsMove 59 = .ok (.if_icmp .eq 117, 3) := by decide +kernel
theorem dX5_findsMove_62 : decode cX5_findsMove 62 = .ok (.aload_n 0, 1) := by decide +kernel
theorem dX5_findsMove_63 : decode cX5_findsMove 63 = .ok (.iload 5, 2) := by decide +kernel
theorem dX5_findsMove_65 : decode cX5_findsMove 65 = .ok (.invokevirtual 79, 3) := by decide +kernel
theorem dX5_findsMove_68 : decode cX5_findsMove 68 = .ok (.ifCond .eq 108, 3) := by decide +kernel
theorem dX5_findsMove_71 : decode cX5_findsMove 71 = .ok (.aload_n 0, 1) := by decide +kernel
theorem dX5_findsMove_72 : decode cX5_findsMove 72 = .ok (.iload_n 1, 1) := by decide +kernel
theorem dX5_findsMove_73 : decode cX5_findsMove 73 = .ok (.invokevirtual 50, 3) := by decide +kernel
theorem dX5_findsMove_76 : decode cX5_findsMove 76 = .ok (.aload_n 0, 1) := by decide +kernel
theorem dX5_findsMove_77 : decode cX5_findsMove 77 = .ok (.iload 4, 2) := by decide +kernel
theorem dX5_findsMove_79 : decode cX5_findsMove 79 = .ok (.iconst 0, 1) := by decide +kernel
theorem dX5_findsMove_80 : decode cX5_findsMove 80 = .ok (.invokevirtual 43, 3) := by decide +kernel
theorem dX5_findsMove_83 : decode cX5_findsMove 83 = .ok (.isub, 1) := by decide +kernel
theorem dX5_findsMove_84 : decode cX5_findsMove 84 = .ok (.aload_n 0, 1) := by decide +kernel
theorem dX5_findsMove_85 : decode cX5_findsMove 85 = .ok (.iload 5, 2) := by decide +kernel
theorem dX5_findsMove_87 : decode cX5_findsMove 87 = .ok (.invokevirtual 50, 3) := by decide +kernel
theorem dX5_findsMove_90 : decode cX5_findsMove 90 = .ok (.aload_n 0, 1) := by decide +kernel
theorem dX5_findsMove_91 : decode cX5_findsMove 91 = .ok (.iload 4, 2) := by decide +kernel
theorem dX5_findsMove_93 : decode cX5_findsMove 93 = .ok (.iconst 0, 1) := by decide +kernel
theorem dX5_findsMove_94 : decode cX5_findsMove 94 = .ok (.invokevirtual 43, 3) := by decide +kernel
theorem dX5_findsMove_97 : decode cX5_findsMove 97 = .ok (.iadd, 1) := by decide +kernel
theorem dX5_findsMove_98 : decode cX5_findsMove 98 = .ok (.invokestatic 54, 3) := by decide +kernel
theorem dX5_findsMove_101 : decode cX5_findsMove 101 = .ok (.istore 6, 2) := by decide +kernel
theorem dX5_findsMove_103 : decode cX5_findsMove 103 = .ok (.iload 6, 2) := by decide +kernel
theorem dX5_findsMove_105 : decode cX5_findsMove 105 = .ok (.i2l, 1) := by decide +kernel
theorem dX5_findsMove_106 : decode cX5_findsMove 106 = .ok (.ldc2_w 105, 3) := by decide +kernel
theorem dX5_findsMove_109 : decode cX5_findsMove 109 = .ok (.lmul, 1) := by decide +kernel
theorem dX5_findsMove_110 : decode cX5_findsMove 110 = .ok (.aload_n 0, 1) := by decide +kernel
theorem dX5_findsMove_111 : decode cX5_findsMove 111 = .ok (.iload 4, 2) := by decide +kernel
theorem dX5_findsMove_113 : decode cX5_findsMove 113 = .ok (.iconst 1, 1) := by decide +kernel
theorem dX5_findsMove_114 : decode cX5_findsMove 114 = .ok (.invokevirtual 43, 3) := by decide +kernel
theorem dX5_findsMove_117 : decode cX5_findsMove 117 = .ok (.i2l, 1) := by decide +kernel
theorem dX5_findsMove_118 : decode cX5_findsMove 118 = .ok (.ldc2_w 110, 3) := by decide +kernel
theorem dX5_findsMove_121 : decode cX5_findsMove 121 = .ok (.lmul, 1) := by decide +kernel
theorem dX5_findsMove_122 : decode cX5_findsMove 122 = .ok (.ladd, 1) := by decide +kernel
theorem dX5_findsMove_123 : decode cX5_findsMove 123 = .ok (.iload 4, 2) := by decide +kernel
theorem dX5_findsMove_125 : decode cX5_findsMove 125 = .ok (.i2l, 1) := by decide +kernel
theorem dX5_findsMove_126 : decode cX5_findsMove 126 = .ok (.ldc2_w 112, 3) := by decide +kernel
theorem dX5_findsMove_129 : decode cX5_findsMove 129 = .ok (.lmul, 1) := by decide +kernel
theorem dX5_findsMove_130 : decode cX5_findsMove 130 = .ok (.ladd, 1) := by decide +kernel
theorem dX5_findsMove_131 : decode cX5_findsMove 131 = .ok (.iload 5, 2) := by decide +kernel
theorem dX5_findsMove_133 : decode cX5_findsMove 133 = .ok (.i2l, 1) := by decide +kernel
theorem dX5_findsMove_134 : decode cX5_findsMove 134 = .ok (.ladd, 1) := by decide +kernel
theorem dX5_findsMove_135 : decode cX5_findsMove 135 = .ok (.lstore 7, 2) := by decide +kernel
theorem dX5_findsMove_137 : decode cX5_findsMove 137 = .ok (.lload 7, 2) := by decide +kernel
theorem dX5_findsMove_139 : decode cX5_findsMove 139 = .ok (.lload_n 2, 1) := by decide +kernel
theorem dX5_findsMove_140 : decode cX5_findsMove 140 = .ok (.lcmp, 1) := by decide +kernel
theorem dX5_findsMove_141 : decode cX5_findsMove 141 = .ok (.ifCond .ge 35, 3) := by decide +kernel
theorem dX5_findsMove_144 : decode cX5_findsMove 144 = .ok (.lload 7, 2) := by decide +kernel
theorem dX5_findsMove_146 : decode cX5_findsMove 146 = .ok (.lstore_n 2, 1) := by decide +kernel
theorem dX5_findsMove_147 : decode cX5_findsMove 147 = .ok (.aload_n 0, 1) := by decide +kernel
theorem dX5_findsMove_148 : decode cX5_findsMove 148 = .ok (.iload 4, 2) := by decide +kernel
theorem dX5_findsMove_150 : decode cX5_findsMove 150 = .ok (.putfield 107, 3) := by decide +kernel
theorem dX5_findsMove_153 : decode cX5_findsMove 153 = .ok (.aload_n 0, 1) := by decide +kernel
theorem dX5_findsMove_154 : decode cX5_findsMove 154 = .ok (.iload 5, 2) := by decide +kernel
theorem dX5_findsMove_156 : decode cX5_findsMove 156 = .ok (.putfield 114, 3) := by decide +kernel
theorem dX5_findsMove_159 : decode cX5_findsMove 159 = .ok (.aload_n 0, 1) := by decide +kernel
theorem dX5_findsMove_160 : decode cX5_findsMove 160 = .ok (.bipush (-9), 2) := by decide +kernel
theorem dX5_findsMove_162 : decode cX5_findsMove 162 = .ok (.putfield 117, 3) := by decide +kernel
theorem dX5_findsMove_165 : decode cX5_findsMove 165 = .ok (.aload_n 0, 1) := by decide +kernel
theorem dX5_findsMove_166 : decode cX5_findsMove 166 = .ok (.aload_n 0, 1) := by decide +kernel
theorem dX5_findsMove_167 : decode cX5_findsMove 167 = .ok (.iload 4, 2) := by decide +kernel
theorem dX5_findsMove_169 : decode cX5_findsMove 169 = .ok (.iconst 1, 1) := by decide +kernel
theorem dX5_findsMove_170 : decode cX5_findsMove 170 = .ok (.invokevirtual 43, 3) := by decide +kernel
theorem dX5_findsMove_173 : decode cX5_findsMove 173 = .ok (.putfield 120, 3) := by decide +kernel
theorem dX5_findsMove_176 : decode cX5_findsMove 176 = .ok (.iinc 5 1, 3) := by decide +kernel
theorem dX5_findsMove_179 : decode cX5_findsMove 179 = .ok (.goto (-145), 3) := by decide +kernel
theorem dX5_findsMove_182 : decode cX5_findsMove 182 = .ok (.iinc 4 1, 3) := by decide +kernel
theorem dX5_findsMove_185 : decode cX5_findsMove 185 = .ok (.goto (-165), 3) := by decide +kernel
theorem dX5_findsMove_188 : decode cX5_findsMove 188 = .ok (.aload_n 0, 1) := by decide +kernel
theorem dX5_findsMove_189 : decode cX5_findsMove 189 = .ok (.getfield 107, 3) := by decide +kernel
theorem dX5_findsMove_192 : decode cX5_findsMove 192 = .ok (.bipush (-9), 2) := by decide +kernel
theorem dX5_findsMove_194 : decode cX5_findsMove 194 = .ok (.if_icmp .eq 20, 3) := by decide +kernel
theorem dX5_findsMove_197 : decode cX5_findsMove 197 = .ok (.aload_n 0, 1) := by decide +kernel
theorem dX5_findsMove_198 : decode cX5_findsMove 198 = .ok (.getfield 120, 3) := by decide +kernel
theorem dX5_findsMove_201 : decode cX5_findsMove 201 = .ok (.aload_n 0, 1) := by decide +kernel
theorem dX5_findsMove_202 : decode cX5_findsMove 202 = .ok (.getfield 7, 3) := by decide +kernel
theorem dX5_findsMove_205 : decode cX5_findsMove 205 = .ok (.iconst 3, 1) := by decide +kernel
theorem dX5_findsMove_206 : decode cX5_findsMove 206 = .ok (.iaload, 1) := by decide +kernel
theorem dX5_findsMove_207 : decode cX5_findsMove 207 = .ok (.if_icmp .gt 7, 3) := by decide +kernel
theorem dX5_findsMove_210 : decode cX5_findsMove 210 = .ok (.iconst 1, 1) := by decide +kernel
theorem dX5_findsMove_211 : decode cX5_findsMove 211 = .ok (.goto 4, 3) := by decide +kernel
theorem dX5_findsMove_214 : decode cX5_findsMove 214 = .ok (.iconst 0, 1) := by decide +kernel
theorem dX5_findsMove_215 : decode cX5_findsMove 215 = .ok (.ireturn, 1) := by decide +kernel
set_option maxRecDepth 20000 in
theorem ggX5_findsExchange_X5_load : GoodIn wsX5_findsExchange wsX5_load := goodIn_r _ [13, 3, 14, 15, 16, 12, 17, 21, 22, 23, 24, 25, 26, 27, 28, 29, 30, 31, 32, 33, 34, 35] (by decide +kernel) (by decide +kernel)
set_option maxRecDepth 20000 in
theorem gX5_findsExchange_X5_load : GoodIn wsX5_findsExchange (wsV RX5 50 RX5 yX5_load wsX5_load) := goodIn_app (goodIn_of _ (by decide +kernel)) ggX5_findsExchange_X5_load
set_option maxRecDepth 20000 in
theorem ggX5_findsExchange_X5_of : GoodIn wsX5_findsExchange wsX5_of := goodIn_r _ [17, 3, 21, 22, 23, 24, 25, 26, 27, 28, 29, 30, 31, 32, 33, 34, 35] (by decide +kernel) (by decide +kernel)
set_option maxRecDepth 20000 in
theorem gX5_findsExchange_X5_of : GoodIn wsX5_findsExchange (wsV RX5 43 RX5 yX5_of wsX5_of) := goodIn_app (goodIn_of _ (by decide +kernel)) ggX5_findsExchange_X5_of
set_option maxRecDepth 20000 in
theorem ggX5_findsExchange_X5_greater : GoodIn wsX5_findsExchange wsX5_greater := goodIn_r _ [20] (by decide +kernel) (by decide +kernel)
set_option maxRecDepth 20000 in
theorem gX5_findsExchange_X5_greater : GoodIn wsX5_findsExchange (va_wsS RX5 54 yX5_greater wsX5_greater) := goodIn_app (goodIn_of _ (by decide +kernel)) ggX5_findsExchange_X5_greater
theorem dX5_findsExchange_0 : decode cX5_findsExchange 0 = .ok (.aload_n 0, 1) := by decide +kernel
theorem dX5_findsExchange_1 : decode cX5_findsExchange 1 = .ok (.iload_n 1, 1) := by decide +kernel
theorem dX5_findsExchange_2 : decode cX5_findsExchange 2 = .ok (.invokevirtual 50, 3) := by decide +kernel
theorem dX5_findsExchange_5 : decode cX5_findsExchange 5 = .ok (.i2l, 1) := by decide +kernel
theorem dX5_findsExchange_6 : decode cX5_findsExchange 6 = .ok (.ldc2_w 105, 3) := by decide +kernel
theorem dX5_findsExchange_9 : decode cX5_findsExchange 9 = .ok (.lmul, 1) := by decide +kernel
theorem dX5_findsExchange_10 : decode cX5_findsExchange 10 = .ok (.lstore_n 2, 1) := by decide +kernel
theorem dX5_findsExchange_11 : decode cX5_findsExchange 11 = .ok (.aload_n 0, 1) := by decide +kernel
theorem dX5_findsExchange_12 : decode cX5_findsExchange 12 = .ok (.bipush (-9), 2) := by decide +kernel
theorem dX5_findsExchange_14 : decode cX5_findsExchange 14 = .ok (.putfield 107, 3) := by decide +kernel
theorem dX5_findsExchange_17 : decode cX5_findsExchange 17 = .ok (.iconst 0, 1) := by decide +kernel
theorem dX5_findsExchange_18 : decode cX5_findsExchange 18 = .ok (.istore 4, 2) := by decide +kernel
theorem dX5_findsExchange_20 : decode cX5_findsExchange 20 = .ok (.iload 4, 2) := by decide +kernel
theorem dX5_findsExchange_22 : decode cX5_findsExchange 22 = .ok (.aload_n 0, 1) := by decide +kernel
theorem dX5_findsExchange_23 : decode cX5_findsExchange 23 = .ok (.getfield 7, 3) := by decide +kernel
theorem dX5_findsExchange_26 : decode cX5_findsExchange 26 = .ok (.iconst 2, 1) := by decide +kernel
theorem dX5_findsExchange_27 : decode cX5_findsExchange 27 = .ok (.iaload, 1) := by decide +kernel
theorem dX5_findsExchange_28 : decode cX5_findsExchange 28 = .ok (.if_icmp .ge 181, 3) := by decide +kernel
theorem dX5_findsExchange_31 : decode cX5_findsExchange 31 = .ok (.iconst 0, 1) := by decide +kernel
theorem dX5_findsExchange_32 : decode cX5_findsExchange 32 = .ok (.istore 5, 2) := by decide +kernel
theorem dX5_findsExchange_34 : decode cX5_findsExchange 34 = .ok (.iload 5, 2) := by decide +kernel
theorem dX5_findsExchange_36 : decode cX5_findsExchange 36 = .ok (.aload_n 0, 1) := by decide +kernel
theorem dX5_findsExchange_37 : decode cX5_findsExchange 37 = .ok (.getfield 7, 3) := by decide +kernel
theorem dX5_findsExchange_40 : decode cX5_findsExchange 40 = .ok (.iconst 2, 1) := by decide +kernel
theorem dX5_findsExchange_41 : decode cX5_findsExchange 41 = .ok (.iaload, 1) := by decide +kernel
theorem dX5_findsExchange_42 : decode cX5_findsExchange 42 = .ok (.if_icmp .ge 161, 3) := by decide +kernel
theorem dX5_findsExchange_45 : decode cX5_findsExchange 45 = .ok (.aload_n 0, 1) := by decide +kernel
theorem dX5_findsExchange_46 : decode cX5_findsExchange 46 = .ok (.iload 4, 2) := by decide +kernel
theorem dX5_findsExchange_48 : decode cX5_findsExchange 48 = .ok (.iconst 2, 1) := by decide +kernel
theorem dX5_findsExchange_49 : decode cX5_findsExchange 49 = .ok (.invokevirtual 43, 3) := by decide +kernel
theorem dX5_findsExchange_52 : decode cX5_findsExchange 52 = .ok (.iload_n 1, 1) := by decide +kernel
theorem dX5_findsExchange_53 : decode cX5_findsExchange 53 = .ok (.if_icmp .ne 150, 3) := by decide +kernel
theorem dX5_findsExchange_56 : decode cX5_findsExchange 56 = .ok (.aload_n 0, 1) := by decide +kernel
theorem dX5_findsExchange_57 : decode cX5_findsExchange 57 = .ok (.iload 5, 2) := by decide +kernel
theorem dX5_findsExchange_59 : decode cX5_findsExchange 59 = .ok (.iconst 2, 1) := by decide +kernel
theorem dX5_findsExchange_60 : decode cX5_findsExchange 60 = .ok (.invokevirtual 43, 3) := by decide +kernel
theorem dX5_findsExchange_63 : decode cX5_findsExchange 63 = .ok (.istore 6, 2) := by decide +kernel
theorem dX5_findsExchange_65 : decode cX5_findsExchange 65 = .ok (.iload 6, 2) := by decide +kernel
theorem dX5_findsExchange_67 : decode cX5_findsExchange 67 = .ok (.bipush (-9), 2) := by decide +kernel
theorem dX5_findsExchange_69 : decode cX5_findsExchange 69 = .ok (.if_icmp .eq 128, 3) := by decide +kernel
theorem dX5_findsExchange_72 : decode cX5_findsExchange 72 = .ok (.iload 6, 2) := by decide +kernel
theorem dX5_findsExchange_74 : decode cX5_findsExchange 74 = .ok (.iload_n 1, 1) := by decide +kernel
theorem dX5_findsExchange_75 : decode cX5_findsExchange 75 = .ok (.if_icmp .eq 122, 3) := by decide +kernel
theorem dX5_findsExchange_78 : decode cX5_findsExchange 78 = .ok (.aload_n 0, 1) := by decide +kernel
theorem dX5_findsExchange_79 : decode cX5_findsExchange 79 = .ok (.iload 5, 2) := by decide +kernel
theorem dX5_findsExchange_81 : decode cX5_findsExchange 81 = .ok (.iconst 0, 1) := by decide +kernel
theorem dX5_findsExchange_82 : decode cX5_findsExchange 82 = .ok (.invokevirtual 43, 3) := by decide +kernel
theorem dX5_findsExchange_85 : decode cX5_findsExchange 85 = .ok (.aload_n 0, 1) := by decide +kernel
theorem dX5_findsExchange_86 : decode cX5_findsExchange 86 = .ok (.iload 4, 2) := by decide +kernel
theorem dX5_findsExchange_88 : decode cX5_findsExchange 88 = .ok (.iconst 0, 1) := by decide +kernel
theorem dX5_findsExchange_89 : decode cX5_findsExchange 89 = .ok (.invokevirtual 43, 3) := by decide +kernel
theorem dX5_findsExchange_92 : decode cX5_findsExchange 92 = .ok (.isub, 1) := by decide +kernel
theorem dX5_findsExchange_93 : decode cX5_findsExchange 93 = .ok (.istore 7, 2) := by decide +kernel
theorem dX5_findsExchange_95 : decode cX5_findsExchange 95 = .ok (.aload_n 0, 1) := by decide +kernel
theorem dX5_findsExchange_96 : decode cX5_findsExchange 96 = .ok (.iload_n 1, 1) := by decide +kernel
theorem dX5_findsExchange_97 : decode cX5_findsExchange 97 = .ok (.invokevirtual 50, 3) := by decide +kernel
theorem dX5_findsExchange_100 : decode cX5_findsExchange 100 = .ok (.iload 7, 2) := by decide +kernel
theorem dX5_findsExchange_102 : decode cX5_findsExchange 102 = .ok (.iadd, 1) := by decide +kernel
theorem dX5_findsExchange_103 : decode cX5_findsExchange 103 = .ok (.aload_n 0, 1) := by decide +kernel
theorem dX5_findsExchange_104 : decode cX5_findsExchange 104 = .ok (.iload 6, 2) := by decide +kernel
theorem dX5_findsExchange_106 : decode cX5_findsExchange 106 = .ok (.invokevirtual 50, 3) := by decide +kernel
theorem dX5_findsExchange_109 : decode cX5_findsExchange 109 = .ok (.iload 7, 2) := by decide +kernel
theorem dX5_findsExchange_111 : decode cX5_findsExchange 111 = .ok (.isub, 1) := by decide +kernel
theorem dX5_findsExchange_112 : decode cX5_findsExchange 112 = .ok (.invokestatic 54, 3) := by decide +kernel
theorem dX5_findsExchange_115 : decode cX5_findsExchange 115 = .ok (.istore 8, 2) := by decide +kernel
theorem dX5_findsExchange_117 : decode cX5_findsExchange 117 = .ok (.aload_n 0, 1) := by decide +kernel
theorem dX5_findsExchange_118 : decode cX5_findsExchange 118 = .ok (.iload 4, 2) := by decide +kernel
theorem dX5_findsExchange_120 : decode cX5_findsExchange 120 = .ok (.iconst 1, 1) := by decide +kernel
theorem dX5_findsExchange_121 : decode cX5_findsExchange 121 = .ok (.invokevirtual 43, 3) := by decide +kernel
theorem dX5_findsExchange_124 : decode cX5_findsExchange 124 = .ok (.aload_n 0, 1) := by decide +kernel
theorem dX5_findsExchange_125 : decode cX5_findsExchange 125 = .ok (.iload 5, 2) := by decide +kernel
theorem dX5_findsExchange_127 : decode cX5_findsExchange 127 = .ok (.iconst 1, 1) := by decide +kernel
theorem dX5_findsExchange_128 : decode cX5_findsExchange 128 = .ok (.invokevirtual 43, 3) := by decide +kernel
theorem dX5_findsExchange_131 : decode cX5_findsExchange 131 = .ok (.iadd, 1) := by decide +kernel
theorem dX5_findsExchange_132 : decode cX5_findsExchange 132 = .ok (.istore 9, 2) := by decide +kernel
theorem dX5_findsExchange_134 : decode cX5_findsExchange 134 = .ok (.iload 8, 2) := by decide +kernel
theorem dX5_findsExchange_136 : decode cX5_findsExchange 136 = .ok (.i2l, 1) := by decide +kernel
theorem dX5_findsExchange_137 : decode cX5_findsExchange 137 = .ok (.ldc2_w 105, 3) := by decide +kernel
theorem dX5_findsExchange_140 : decode cX5_findsExchange 140 = .ok (.lmul, 1) := by decide +kernel
theorem dX5_findsExchange_141 : decode cX5_findsExchange 141 = .ok (.iload 9, 2) := by decide +kernel
theorem dX5_findsExchange_143 : decode cX5_findsExchange 143 = .ok (.i2l, 1) := by decide +kernel
theorem dX5_findsExchange_144 : decode cX5_findsExchange 144 = .ok (.ldc2_w 110, 3) := by decide +kernel
theorem dX5_findsExchange_147 : decode cX5_findsExchange 147 = .ok (.lmul, 1) := by decide +kernel
theorem dX5_findsExchange_148 : decode cX5_findsExchange 148 = .ok (.ladd, 1) := by decide +kernel
theorem dX5_findsExchange_149 : decode cX5_findsExchange 149 = .ok (.iload 4, 2) := by decide +kernel
theorem dX5_findsExchange_151 : decode cX5_findsExchange 151 = .ok (.i2l, 1) := by decide +kernel
theorem dX5_findsExchange_152 : decode cX5_findsExchange 152 = .ok (.ldc2_w 112, 3) := by decide +kernel
theorem dX5_findsExchange_155 : decode cX5_findsExchange 155 = .ok (.lmul, 1) := by decide +kernel
theorem dX5_findsExchange_156 : decode cX5_findsExchange 156 = .ok (.ladd, 1) := by decide +kernel
theorem dX5_findsExchange_157 : decode cX5_findsExchange 157 = .ok (.iload 5, 2) := by decide +kernel
theorem dX5_findsExchange_159 : decode cX5_findsExchange 159 = .ok (.i2l, 1) := by decide +kernel
theorem dX5_findsExchange_160 : decode cX5_findsExchange 160 = .ok (.ladd, 1) := by decide +kernel
theorem dX5_findsExchange_161 : decode cX5_findsExchange 161 = .ok (.lstore 10, 2) := by decide +kernel
theorem dX5_findsExchange_163 : decode cX5_findsExchange 163 = .ok (.lload 10, 2) := by decide +kernel
theorem dX5_findsExchange_165 : decode cX5_findsExchange 165 = .ok (.lload_n 2, 1) := by decide +kernel
theorem dX5_findsExchange_166 : decode cX5_findsExchange 166 = .ok (.lcmp, 1) := by decide +kernel
theorem dX5_findsExchange_167 : decode cX5_findsExchange 167 = .ok (.ifCond .ge 30, 3) := by decide +kernel
theorem dX5_findsExchange_170 : decode cX5_findsExchange 170 = .ok (.lload 10, 2) := by decide +kernel
theorem dX5_findsExchange_172 : decode cX5_findsExchange 172 = .ok (.lstore_n 2, 1) := by decide +kernel
theorem dX5_findsExchange_173 : decode cX5_findsExchange 173 = .ok (.aload_n 0, 1) := by decide +kernel
theorem dX5_findsExchange_174 : decode cX5_findsExchange 174 = .ok (.iload 4, 2) := by decide +kernel
theorem dX5_findsExchange_176 : decode cX5_findsExchange 176 = .ok (.putfield 107, 3) := by decide +kernel
theorem dX5_findsExchange_179 : decode cX5_findsExchange 179 = .ok (.aload_n 0, 1) := by decide +kernel
theorem dX5_findsExchange_180 : decode cX5_findsExchange 180 = .ok (.iload 6, 2) := by decide +kernel
theorem dX5_findsExchange_182 : decode cX5_findsExchange 182 = .ok (.putfield 114, 3) := by decide +kernel
theorem dX5_findsExchange_185 : decode cX5_findsExchange 185 = .ok (.aload_n 0, 1) := by decide +kernel
theorem dX5_findsExchange_186 : decode cX5_findsExchange 186 = .ok (.iload 5, 2) := by decide +kernel
theorem dX5_findsExchange_188 : decode cX5_findsExchange 188 = .ok (.putfield 117, 3) := by decide +kernel
theorem dX5_findsExchange_191 : decode cX5_findsExchange 191 = .ok (.aload_n 0, 1) := by decide +kernel
theorem dX5_findsExchange_192 : decode cX5_findsExchange 192 = .ok (.iload 9, 2) := by decide +kernel
theorem dX5_findsExchange_194 : decode cX5_findsExchange 194 = .ok (.putfield 120, 3) := by decide +kernel
theorem dX5_findsExchange_197 : decode cX5_findsExchange 197 = .ok (.iinc 5 1, 3) := by decide +kernel
theorem dX5_findsExchange_200 : decode cX5_findsExchange 200 = .ok (.goto (-166), 3) := by decide +kernel
theorem dX5_findsExchange_203 : decode cX5_findsExchange 203 = .ok (.iinc 4 1, 3) := by decide +kernel
theorem dX5_findsExchange_206 : decode cX5_findsExchange 206 = .ok (.goto (-186), 3) := by decide +kernel
theorem dX5_findsExchange_209 : decode cX5_findsExchange 209 = .ok (.aload_n 0, 1) := by decide +kernel
theorem dX5_findsExchange_210 : decode cX5_findsExchange 210 = .ok (.getfield 107, 3) := by decide +kernel
theorem dX5_findsExchange_213 : decode cX5_findsExchange 213 = .ok (.bipush (-9), 2) := by decide +kernel
theorem dX5_findsExchange_215 : decode cX5_findsExchange 215 = .ok (.if_icmp .eq 20, 3) := by decide +kernel
theorem dX5_findsExchange_218 : decode cX5_findsExchange 218 = .ok (.aload_n 0, 1) := by decide +kernel
theorem dX5_findsExchange_219 : decode cX5_findsExchange 219 = .ok (.getfield 120, 3) := by decide +kernel
theorem dX5_findsExchange_222 : decode cX5_findsExchange 222 = .ok (.aload_n 0, 1) := by decide +kernel
theorem dX5_findsExchange_223 : decode cX5_findsExchange 223 = .ok (.getfield 7, 3) := by decide +kernel
theorem dX5_findsExchange_226 : decode cX5_findsExchange 226 = .ok (.iconst 3, 1) := by decide +kernel
theorem dX5_findsExchange_227 : decode cX5_findsExchange 227 = .ok (.iaload, 1) := by decide +kernel
theorem dX5_findsExchange_228 : decode cX5_findsExchange 228 = .ok (.if_icmp .gt 7, 3) := by decide +kernel
theorem dX5_findsExchange_231 : decode cX5_findsExchange 231 = .ok (.iconst 1, 1) := by decide +kernel
theorem dX5_findsExchange_232 : decode cX5_findsExchange 232 = .ok (.goto 4, 3) := by decide +kernel
theorem dX5_findsExchange_235 : decode cX5_findsExchange 235 = .ok (.iconst 0, 1) := by decide +kernel
theorem dX5_findsExchange_236 : decode cX5_findsExchange 236 = .ok (.ireturn, 1) := by decide +kernel
set_option maxRecDepth 20000 in
theorem ggX5_findsStep_X5_areEven : GoodIn wsX5_findsStep wsX5_areEven := goodIn_r _ [5, 6, 7, 8, 4, 9, 10, 11, 12, 13, 14, 15, 16, 17, 18, 19, 20, 21, 22, 23, 24, 25, 26, 27, 28, 29, 30, 31, 32, 33, 34, 35, 36, 37, 38, 39, 40, 41, 72, 73, 74, 75, 76, 77, 78, 79, 80, 81, 82, 83, 84, 85, 86] (by decide +kernel) (by decide +kernel)
set_option maxRecDepth 20000 in
theorem gX5_findsStep_X5_areEven : GoodIn wsX5_findsStep (wsV RX5 123 RX5 yX5_areEven wsX5_areEven) := goodIn_app (goodIn_of _ (by decide +kernel)) ggX5_findsStep_X5_areEven
set_option maxRecDepth 20000 in
theorem ggX5_findsStep_X5_full : GoodIn wsX5_findsStep wsX5_full := goodIn_r _ [45, 10, 46, 47, 48, 4, 49, 50, 51, 52, 53, 54, 55, 56, 11, 12, 13, 14, 15, 16, 17, 18, 72, 73, 74, 75, 76, 77, 78, 79, 80, 81, 82, 83, 84, 85, 86] (by decide +kernel) (by decide +kernel)
set_option maxRecDepth 20000 in
theorem gX5_findsStep_X5_full : GoodIn wsX5_findsStep (wsV RX5 127 RX5 yX5_full wsX5_full) := goodIn_app (goodIn_of _ (by decide +kernel)) ggX5_findsStep_X5_full
set_option maxRecDepth 20000 in
theorem ggX5_findsStep_X5_findsMove : GoodIn wsX5_findsStep wsX5_findsMove := goodIn_r _ [60, 61, 62, 10, 63, 64, 65, 66, 67, 11, 12, 13, 4, 14, 15, 16, 17, 18, 46, 47, 48, 49, 50, 51, 52, 53, 54, 55, 56, 19, 20, 21, 72, 73, 74, 75, 76, 77, 78, 79, 80, 81, 82, 83, 84, 85, 86] (by decide +kernel) (by decide +kernel)
set_option maxRecDepth 20000 in
theorem gX5_findsStep_X5_findsMove : GoodIn wsX5_findsStep (wsV RX5 130 RX5 yX5_findsMove wsX5_findsMove) := goodIn_app (goodIn_of _ (by decide +kernel)) ggX5_findsStep_X5_findsMove
set_option maxRecDepth 20000 in
theorem ggX5_findsStep_X5_findsExchange : GoodIn wsX5_findsStep wsX5_findsExchange := goodIn_r _ [71, 61, 62, 10, 63, 64, 65, 66, 67, 11, 12, 13, 4, 14, 15, 16, 17, 18, 19, 20, 21, 72, 73, 74, 75, 76, 77, 78, 79, 80, 81, 82, 83, 84, 85, 86] (by decide +kernel) (by decide +kernel)
set_option maxRecDepth 20000 in
theorem gX5_findsStep_X5_findsExchange : GoodIn wsX5_findsStep (wsV RX5 133 RX5 yX5_findsExchange wsX5_findsExchange) := goodIn_app (goodIn_of _ (by decide +kernel)) ggX5_findsStep_X5_findsExchange
theorem dX5_findsStep_0 : decode cX5_findsStep 0 = .ok (.aload_n 0, 1) := by decide +kernel
theorem dX5_findsStep_1 : decode cX5_findsStep 1 = .ok (.invokevirtual 123, 3) := by decide +kernel
theorem dX5_findsStep_4 : decode cX5_findsStep 4 = .ok (.ifCond .eq 5, 3) := by decide +kernel
theorem dX5_findsStep_7 : decode cX5_findsStep 7 = .ok (.iconst 0, 1) := by decide +kernel
theorem dX5_findsStep_8 : decode cX5_findsStep 8 = .ok (.ireturn, 1) := by decide +kernel
theorem dX5_findsStep_9 : decode cX5_findsStep 9 = .ok (.aload_n 0, 1) := by decide +kernel
theorem dX5_findsStep_10 : decode cX5_findsStep 10 = .ok (.invokevirtual 127, 3) := by decide +kernel
theorem dX5_findsStep_13 : decode cX5_findsStep 13 = .ok (.istore_n 1, 1) := by decide +kernel
theorem dX5_findsStep_14 : decode cX5_findsStep 14 = .ok (.aload_n 0, 1) := by decide +kernel
theorem dX5_findsStep_15 : decode cX5_findsStep 15 = .ok (.iload_n 1, 1) := by decide +kernel
theorem dX5_findsStep_16 : decode cX5_findsStep 16 = .ok (.invokevirtual 130, 3) := by decide +kernel
theorem dX5_findsStep_19 : decode cX5_findsStep 19 = .ok (.ifCond .ne 11, 3) := by decide +kernel
theorem dX5_findsStep_22 : decode cX5_findsStep 22 = .ok (.aload_n 0, 1) := by decide +kernel
theorem dX5_findsStep_23 : decode cX5_findsStep 23 = .ok (.iload_n 1, 1) := by decide +kernel
theorem dX5_findsStep_24 : decode cX5_findsStep 24 = .ok (.invokevirtual 133, 3) := by decide +kernel
theorem dX5_findsStep_27 : decode cX5_findsStep 27 = .ok (.ifCond .eq 7, 3) := by decide +kernel
theorem dX5_findsStep_30 : decode cX5_findsStep 30 = .ok (.iconst 1, 1) := by decide +kernel
theorem dX5_findsStep_31 : decode cX5_findsStep 31 = .ok (.goto 4, 3) := by decide +kernel
theorem dX5_findsStep_34 : decode cX5_findsStep 34 = .ok (.iconst 0, 1) := by decide +kernel
theorem dX5_findsStep_35 : decode cX5_findsStep 35 = .ok (.ireturn, 1) := by decide +kernel
set_option maxRecDepth 20000 in
theorem ggX5_evens_X5_findsStep : GoodIn wsX5_evens wsX5_findsStep := goodIn_r _ [8, 9, 10, 11, 7, 12, 13, 14, 15, 16, 17, 18, 19, 20, 21, 22, 23, 24, 25, 26, 27, 28, 29, 30, 31, 32, 33, 34, 35, 36, 37, 38, 39, 40, 41, 42, 43, 44, 45, 46, 47, 48, 49, 50, 51, 52, 53, 54, 55, 56, 57, 58, 59, 60, 61, 62, 63, 64, 65, 66, 67, 68, 2, 69, 70, 3, 1, 71, 72, 73, 74, 75, 92, 93, 94, 95, 96, 97, 98, 99, 100, 101, 102, 103, 104, 105, 106] (by decide +kernel) (by decide +kernel)
set_option maxRecDepth 20000 in
theorem gX5_evens_X5_findsStep : GoodIn wsX5_evens (wsV RX5 136 RX5 yX5_findsStep wsX5_findsStep) := goodIn_app (goodIn_of _ (by decide +kernel)) ggX5_evens_X5_findsStep
set_option maxRecDepth 20000 in
theorem ggX5_evens_X5_moves : GoodIn wsX5_evens wsX5_moves := goodIn_r _ [79, 17, 80, 81, 82, 7, 83, 61, 62, 63, 57, 58, 59, 60, 37, 38, 39, 40, 22, 23, 24, 25, 53, 54, 55, 56, 84, 85, 86, 87, 13, 14, 15, 16, 18, 19, 20, 21, 26, 27, 28, 92, 93, 94, 95, 96, 97, 98, 99, 100, 101, 102, 103, 104, 105, 106] (by decide +kernel) (by decide +kernel)
set_option maxRecDepth 20000 in
theorem gX5_evens_X5_moves : GoodIn wsX5_evens (wsV RX5 96 RX5 yX5_moves wsX5_moves) := goodIn_app (goodIn_of _ (by decide +kernel)) ggX5_evens_X5_moves
set_option maxRecDepth 20000 in
theorem ggX5_evens_X5_exchanges : GoodIn wsX5_evens wsX5_exchanges := goodIn_r _ [91, 17, 80, 81, 82, 7, 83, 61, 62, 63, 22, 23, 24, 25, 37, 38, 39, 40, 84, 85, 86, 87, 13, 14, 15, 16, 18, 19, 20, 21, 26, 27, 28, 92, 93, 94, 95, 96, 97, 98, 99, 100, 101, 102, 103, 104, 105, 106] (by decide +kernel) (by decide +kernel)
set_option maxRecDepth 20000 in
theorem gX5_evens_X5_exchanges : GoodIn wsX5_evens (wsV RX5 99 RX5 yX5_exchanges wsX5_exchanges) := goodIn_app (goodIn_of _ (by decide +kernel)) ggX5_evens_X5_exchanges
theorem dX5_evens_0 : decode cX5_evens 0 = .ok (.iconst 0, 1) := by decide +kernel
theorem dX5_evens_1 : decode cX5_evens 1 = .ok (.istore_n 2, 1) := by decide +kernel
theorem dX5_evens_2 : decode cX5_evens 2 = .ok (.iload_n 2, 1) := by decide +kernel
theorem dX5_evens_3 : decode cX5_evens 3 = .ok (.iload_n 1, 1) := by decide +kernel
theorem dX5_evens_4 : decode cX5_evens 4 = .ok (.if_icmp .ge 62, 3) := by decide +kernel
theorem dX5_evens_7 : decode cX5_evens 7 = .ok (.aload_n 0, 1) := by decide +kernel
theorem dX5_evens_8 : decode cX5_evens 8 = .ok (.invokevirtual 136, 3) := by decide +kernel
theorem dX5_evens_11 : decode cX5_evens 11 = .ok (.ifCond .eq 55, 3) := by decide +kernel
theorem dX5_evens_14 : decode cX5_evens 14 = .ok (.aload_n 0, 1) := by decide +kernel
theorem dX5_evens_15 : decode cX5_evens 15 = .ok (.getfield 117, 3) := by decide +kernel
theorem dX5_evens_18 : decode cX5_evens 18 = .ok (.bipush (-9), 2) := by decide +kernel
theorem dX5_evens_20 : decode cX5_evens 20 = .ok (.if_icmp .ne 18, 3) := by decide +kernel
theorem dX5_evens_23 : decode cX5_evens 23 = .ok (.aload_n 0, 1) := by decide +kernel
theorem dX5_evens_24 : decode cX5_evens 24 = .ok (.aload_n 0, 1) := by decide +kernel
theorem dX5_evens_25 : decode cX5_evens 25 = .ok (.getfield 107, 3) := by decide +kernel
theorem dX5_evens_28 : decode cX5_evens 28 = .ok (.aload_n 0, 1) := by decide +kernel
theorem dX5_evens_29 : decode cX5_evens 29 = .ok (.getfield 114, 3) := by decide +kernel
theorem dX5_evens_32 : decode cX5_evens 32 = .ok (.invokevirtual 96, 3) := by decide +kernel
theorem dX5_evens_35 : decode cX5_evens 35 = .ok (.goto 15, 3) := by decide +kernel
theorem dX5_evens_38 : decode cX5_evens 38 = .ok (.aload_n 0, 1) := by decide +kernel
theorem dX5_evens_39 : decode cX5_evens 39 = .ok (.aload_n 0, 1) := by decide +kernel
theorem dX5_evens_40 : decode cX5_evens 40 = .ok (.getfield 107, 3) := by decide +kernel
theorem dX5_evens_43 : decode cX5_evens 43 = .ok (.aload_n 0, 1) := by decide +kernel
theorem dX5_evens_44 : decode cX5_evens 44 = .ok (.getfield 117, 3) := by decide +kernel
theorem dX5_evens_47 : decode cX5_evens 47 = .ok (.invokevirtual 99, 3) := by decide +kernel
theorem dX5_evens_50 : decode cX5_evens 50 = .ok (.istore_n 3, 1) := by decide +kernel
theorem dX5_evens_51 : decode cX5_evens 51 = .ok (.iload_n 2, 1) := by decide +kernel
theorem dX5_evens_52 : decode cX5_evens 52 = .ok (.iload_n 3, 1) := by decide +kernel
theorem dX5_evens_53 : decode cX5_evens 53 = .ok (.ifCond .ge 7, 3) := by decide +kernel
theorem dX5_evens_56 : decode cX5_evens 56 = .ok (.iconst 0, 1) := by decide +kernel
theorem dX5_evens_57 : decode cX5_evens 57 = .ok (.goto 4, 3) := by decide +kernel
theorem dX5_evens_60 : decode cX5_evens 60 = .ok (.iconst 1, 1) := by decide +kernel
theorem dX5_evens_61 : decode cX5_evens 61 = .ok (.iadd, 1) := by decide +kernel
theorem dX5_evens_62 : decode cX5_evens 62 = .ok (.istore_n 2, 1) := by decide +kernel
theorem dX5_evens_63 : decode cX5_evens 63 = .ok (.goto (-61), 3) := by decide +kernel
