theorem dX5_evens_66 : decode cX5_evens 66 = .ok (.iload_n 2, 1) := by decide +kernel
theorem dX5_evens_67 : decode cX5_evens 67 = .ok (.ireturn, 1) := by decide +kernel
set_option maxRecDepth 20000 in
theorem ggX5_evensBy_X5_in : GoodIn wsX5_evensBy wsX5_in := goodIn_r _ [4] (by decide +kernel) (by decide +kernel)
set_option maxRecDepth 20000 in
theorem gX5_evensBy_X5_in : GoodIn wsX5_evensBy (va_wsS RX5 35 yX5_in wsX5_in) := goodIn_app (goodIn_of _ (by decide +kernel)) ggX5_evensBy_X5_in
set_option maxRecDepth 20000 in
theorem ggX5_evensBy_X5_evens : GoodIn wsX5_evensBy wsX5_evens := goodIn_r _ [8, 9, 10, 11, 12, 13, 14, 3, 15, 16, 17, 18, 19, 20, 21, 22, 23, 24, 25, 26, 27, 28, 29, 30, 31, 32, 33, 34, 35, 36, 37, 38, 39, 40, 41, 42, 43, 44, 45, 46, 47, 48, 49, 50, 51, 52, 53, 54, 55, 56, 57, 58, 59, 60, 61, 62, 63, 64, 65, 66, 67, 1, 2, 4, 68, 69, 70, 71, 72, 73, 74, 75, 76, 77, 78, 79, 80, 81, 82, 83, 84, 85, 86, 87, 88, 89, 90, 91, 92, 93, 94, 95, 96, 97, 98, 99, 100, 101, 102, 103, 104, 105, 106, 107, 108, 109, 110] (by decide +kernel) (by decide +kernel)
set_option maxRecDepth 20000 in
theorem gX5_evensBy_X5_evens : GoodIn wsX5_evensBy (wsV RX5 139 RX5 yX5_evens wsX5_evens) := goodIn_app (goodIn_of _ (by decide +kernel)) ggX5_evensBy_X5_evens
theorem dX5_evensBy_0 : decode cX5_evensBy 0 = .ok (.iload_n 1, 1) := by decide +kernel
theorem dX5_evensBy_1 : decode cX5_evensBy 1 = .ok (.iconst 1, 1) := by decide +kernel
theorem dX5_evensBy_2 : decode cX5_evensBy 2 = .ok (.bipush 30, 2) := by decide +kernel
theorem dX5_evensBy_4 : decode cX5_evensBy 4 = .ok (.invokestatic 35, 3) := by decide +kernel
theorem dX5_evensBy_7 : decode cX5_evensBy 7 = .ok (.ifCond .eq 11, 3) := by decide +kernel
theorem dX5_evensBy_10 : decode cX5_evensBy 10 = .ok (.aload_n 0, 1) := by decide +kernel
theorem dX5_evensBy_11 : decode cX5_evensBy 11 = .ok (.iload_n 1, 1) := by decide +kernel
theorem dX5_evensBy_12 : decode cX5_evensBy 12 = .ok (.invokevirtual 139, 3) := by decide +kernel
theorem dX5_evensBy_15 : decode cX5_evensBy 15 = .ok (.goto 4, 3) := by decide +kernel
theorem dX5_evensBy_18 : decode cX5_evensBy 18 = .ok (.iconst (-1), 1) := by decide +kernel
theorem dX5_evensBy_19 : decode cX5_evensBy 19 = .ok (.ireturn, 1) := by decide +kernel
set_option maxRecDepth 20000 in
theorem ggX5_even_X5_aside : GoodIn wsX5_even wsX5_aside := goodIn_r _ [5, 6, 7, 115, 116, 117, 118, 119, 120, 121, 122, 123, 124, 125, 126, 127, 128, 129] (by decide +kernel) (by decide +kernel)
set_option maxRecDepth 20000 in
theorem gX5_even_X5_aside : GoodIn wsX5_even (wsV RX5 73 RX5 yX5_aside wsX5_aside) := goodIn_app (goodIn_of _ (by decide +kernel)) ggX5_even_X5_aside
set_option maxRecDepth 20000 in
theorem ggX5_even_X5_evensBy : GoodIn wsX5_even wsX5_evensBy := goodIn_r _ [11, 12, 13, 4, 14, 15, 16, 17, 18, 19, 20, 21, 22, 23, 24, 25, 26, 27, 28, 29, 30, 31, 32, 33, 7, 34, 35, 36, 37, 38, 39, 40, 41, 42, 43, 44, 45, 46, 47, 48, 49, 50, 51, 52, 53, 54, 55, 56, 57, 58, 59, 60, 61, 62, 63, 64, 65, 66, 67, 68, 69, 70, 71, 72, 73, 74, 75, 76, 77, 78, 79, 80, 81, 82, 83, 84, 85, 86, 87, 88, 89, 90, 91, 92, 93, 94, 95, 96, 97, 98, 99, 100, 101, 102, 103, 104, 115, 116, 117, 118, 119, 120, 121, 122, 123, 124, 125, 126, 127, 128, 129] (by decide +kernel) (by decide +kernel)
set_option maxRecDepth 20000 in
theorem gX5_even_X5_evensBy : GoodIn wsX5_even (wsV RX5 142 RX5 yX5_evensBy wsX5_evensBy) := goodIn_app (goodIn_of _ (by decide +kernel)) ggX5_even_X5_evensBy
set_option maxRecDepth 20000 in
theorem ggX5_even_X5_acted : GoodIn wsX5_even wsX5_acted := goodIn_r _ [108, 109, 110, 111, 4, 112, 113, 114, 6, 115, 116, 117, 118, 119, 120, 121, 122, 123, 124, 125, 126, 127, 128, 129] (by decide +kernel) (by decide +kernel)
set_option maxRecDepth 20000 in
theorem gX5_even_X5_acted : GoodIn wsX5_even (wsV RX5 76 RX5 yX5_acted wsX5_acted) := goodIn_app (goodIn_of _ (by decide +kernel)) ggX5_even_X5_acted
theorem dX5_even_0 : decode cX5_even 0 = .ok (.aload_n 0, 1) := by decide +kernel
theorem dX5_even_1 : decode cX5_even 1 = .ok (.invokevirtual 73, 3) := by decide +kernel
theorem dX5_even_4 : decode cX5_even 4 = .ok (.aload_n 0, 1) := by decide +kernel
theorem dX5_even_5 : decode cX5_even 5 = .ok (.aload_n 0, 1) := by decide +kernel
theorem dX5_even_6 : decode cX5_even 6 = .ok (.iload_n 1, 1) := by decide +kernel
theorem dX5_even_7 : decode cX5_even 7 = .ok (.invokevirtual 142, 3) := by decide +kernel
theorem dX5_even_10 : decode cX5_even 10 = .ok (.invokevirtual 76, 3) := by decide +kernel
theorem dX5_even_13 : decode cX5_even 13 = .ok (.ireturn, 1) := by decide +kernel
set_option maxRecDepth 20000 in
theorem ggX5_leaver_X5_of : GoodIn wsX5_leaver wsX5_of := goodIn_r _ [6, 1, 7, 8, 9, 10, 11, 12, 13, 14, 15, 16, 17, 18, 19, 20, 21] (by decide +kernel) (by decide +kernel)
set_option maxRecDepth 20000 in
theorem gX5_leaver_X5_of : GoodIn wsX5_leaver (wsV RX5 43 RX5 yX5_of wsX5_of) := goodIn_app (goodIn_of _ (by decide +kernel)) ggX5_leaver_X5_of
theorem dX5_leaver_0 : decode cX5_leaver 0 = .ok (.bipush (-9), 2) := by decide +kernel
theorem dX5_leaver_2 : decode cX5_leaver 2 = .ok (.istore_n 3, 1) := by decide +kernel
theorem dX5_leaver_3 : decode cX5_leaver 3 = .ok (.iconst 0, 1) := by decide +kernel
theorem dX5_leaver_4 : decode cX5_leaver 4 = .ok (.istore 4, 2) := by decide +kernel
theorem dX5_leaver_6 : decode cX5_leaver 6 = .ok (.iload 4, 2) := by decide +kernel
theorem dX5_leaver_8 : decode cX5_leaver 8 = .ok (.aload_n 0, 1) := by decide +kernel
theorem dX5_leaver_9 : decode cX5_leaver 9 = .ok (.getfield 7, 3) := by decide +kernel
theorem dX5_leaver_12 : decode cX5_leaver 12 = .ok (.iconst 2, 1) := by decide +kernel
theorem dX5_leaver_13 : decode cX5_leaver 13 = .ok (.iaload, 1) := by decide +kernel
theorem dX5_leaver_14 : decode cX5_leaver 14 = .ok (.if_icmp .ge 102, 3) := by decide +kernel
theorem dX5_leaver_17 : decode cX5_leaver 17 = .ok (.aload_n 0, 1) := by decide +kernel
theorem dX5_leaver_18 : decode cX5_leaver 18 = .ok (.iload 4, 2) := by decide +kernel
theorem dX5_leaver_20 : decode cX5_leaver 20 = .ok (.iconst 2, 1) := by decide +kernel
theorem dX5_leaver_21 : decode cX5_leaver 21 = .ok (.invokevirtual 43, 3) := by decide +kernel
theorem dX5_leaver_24 : decode cX5_leaver 24 = .ok (.iload_n 1, 1) := by decide +kernel
theorem dX5_leaver_25 : decode cX5_leaver 25 = .ok (.if_icmp .ne 85, 3) := by decide +kernel
theorem dX5_leaver_28 : decode cX5_leaver 28 = .ok (.iload_n 2, 1) := by decide +kernel
theorem dX5_leaver_29 : decode cX5_leaver 29 = .ok (.iload 4, 2) := by decide +kernel
theorem dX5_leaver_31 : decode cX5_leaver 31 = .ok (.ishr, 1) := by decide +kernel
theorem dX5_leaver_32 : decode cX5_leaver 32 = .ok (.iconst 1, 1) := by decide +kernel
theorem dX5_leaver_33 : decode cX5_leaver 33 = .ok (.iand, 1) := by decide +kernel
theorem dX5_leaver_34 : decode cX5_leaver 34 = .ok (.ifCond .ne 76, 3) := by decide +kernel
theorem dX5_leaver_37 : decode cX5_leaver 37 = .ok (.iload_n 3, 1) := by decide +kernel
theorem dX5_leaver_38 : decode cX5_leaver 38 = .ok (.bipush (-9), 2) := by decide +kernel
theorem dX5_leaver_40 : decode cX5_leaver 40 = .ok (.if_icmp .eq 51, 3) := by decide +kernel
theorem dX5_leaver_43 : decode cX5_leaver 43 = .ok (.aload_n 0, 1) := by decide +kernel
theorem dX5_leaver_44 : decode cX5_leaver 44 = .ok (.iload 4, 2) := by decide +kernel
theorem dX5_leaver_46 : decode cX5_leaver 46 = .ok (.iconst 0, 1) := by decide +kernel
theorem dX5_leaver_47 : decode cX5_leaver 47 = .ok (.invokevirtual 43, 3) := by decide +kernel
theorem dX5_leaver_50 : decode cX5_leaver 50 = .ok (.aload_n 0, 1) := by decide +kernel
theorem dX5_leaver_51 : decode cX5_leaver 51 = .ok (.iload_n 3, 1) := by decide +kernel
theorem dX5_leaver_52 : decode cX5_leaver 52 = .ok (.iconst 0, 1) := by decide +kernel
theorem dX5_leaver_53 : decode cX5_leaver 53 = .ok (.invokevirtual 43, 3) := by decide +kernel
theorem dX5_leaver_56 : decode cX5_leaver 56 = .ok (.if_icmp .gt 35, 3) := by decide +kernel
theorem dX5_leaver_59 : decode cX5_leaver 59 = .ok (.aload_n 0, 1) := by decide +kernel
theorem dX5_leaver_60 : decode cX5_leaver 60 = .ok (.iload 4, 2) := by decide +kernel
theorem dX5_leaver_62 : decode cX5_leaver 62 = .ok (.iconst 0, 1) := by decide +kernel
theorem dX5_leaver_63 : decode cX5_leaver 63 = .ok (.invokevirtual 43, 3) := by decide +kernel
theorem dX5_leaver_66 : decode cX5_leaver 66 = .ok (.aload_n 0, 1) := by decide +kernel
theorem dX5_leaver_67 : decode cX5_leaver 67 = .ok (.iload_n 3, 1) := by decide +kernel
theorem dX5_leaver_68 : decode cX5_leaver 68 = .ok (.iconst 0, 1) := by decide +kernel
theorem dX5_leaver_69 : decode cX5_leaver 69 = .ok (.invokevirtual 43, 3) := by decide +kernel
theorem dX5_leaver_72 : decode cX5_leaver 72 = .ok (.if_icmp .ne 23, 3) := by decide +kernel
theorem dX5_leaver_75 : decode cX5_leaver 75 = .ok (.aload_n 0, 1) := by decide +kernel
theorem dX5_leaver_76 : decode cX5_leaver 76 = .ok (.iload 4, 2) := by decide +kernel
theorem dX5_leaver_78 : decode cX5_leaver 78 = .ok (.iconst 1, 1) := by decide +kernel
theorem dX5_leaver_79 : decode cX5_leaver 79 = .ok (.invokevirtual 43, 3) := by decide +kernel
theorem dX5_leaver_82 : decode cX5_leaver 82 = .ok (.aload_n 0, 1) := by decide +kernel
theorem dX5_leaver_83 : decode cX5_leaver 83 = .ok (.iload_n 3, 1) := by decide +kernel
theorem dX5_leaver_84 : decode cX5_leaver 84 = .ok (.iconst 1, 1) := by decide +kernel
theorem dX5_leaver_85 : decode cX5_leaver 85 = .ok (.invokevirtual 43, 3) := by decide +kernel
theorem dX5_leaver_88 : decode cX5_leaver 88 = .ok (.if_icmp .ge 7, 3) := by decide +kernel
theorem dX5_leaver_91 : decode cX5_leaver 91 = .ok (.iconst 1, 1) := by decide +kernel
theorem dX5_leaver_92 : decode cX5_leaver 92 = .ok (.goto 4, 3) := by decide +kernel
theorem dX5_leaver_95 : decode cX5_leaver 95 = .ok (.iconst 0, 1) := by decide +kernel
theorem dX5_leaver_96 : decode cX5_leaver 96 = .ok (.istore 5, 2) := by decide +kernel
theorem dX5_leaver_98 : decode cX5_leaver 98 = .ok (.iload 5, 2) := by decide +kernel
theorem dX5_leaver_100 : decode cX5_leaver 100 = .ok (.ifCond .eq 8, 3) := by decide +kernel
theorem dX5_leaver_103 : decode cX5_leaver 103 = .ok (.iload 4, 2) := by decide +kernel
theorem dX5_leaver_105 : decode cX5_leaver 105 = .ok (.goto 4, 3) := by decide +kernel
theorem dX5_leaver_108 : decode cX5_leaver 108 = .ok (.iload_n 3, 1) := by decide +kernel
theorem dX5_leaver_109 : decode cX5_leaver 109 = .ok (.istore_n 3, 1) := by decide +kernel
theorem dX5_leaver_110 : decode cX5_leaver 110 = .ok (.iinc 4 1, 3) := by decide +kernel
theorem dX5_leaver_113 : decode cX5_leaver 113 = .ok (.goto (-107), 3) := by decide +kernel
theorem dX5_leaver_116 : decode cX5_leaver 116 = .ok (.iload_n 3, 1) := by decide +kernel
theorem dX5_leaver_117 : decode cX5_leaver 117 = .ok (.ireturn, 1) := by decide +kernel
set_option maxRecDepth 20000 in
theorem ggX5_emptiest_X5_isOpen : GoodIn wsX5_emptiest wsX5_isOpen := goodIn_r _ [6, 1, 7, 8, 9, 5, 10, 11, 12, 13, 22, 23, 24, 25, 26, 27, 28, 29, 30, 31, 32, 33, 34, 35, 36] (by decide +kernel) (by decide +kernel)
set_option maxRecDepth 20000 in
theorem gX5_emptiest_X5_isOpen : GoodIn wsX5_emptiest (wsV RX5 79 RX5 yX5_isOpen wsX5_isOpen) := goodIn_app (goodIn_of _ (by decide +kernel)) ggX5_emptiest_X5_isOpen
set_option maxRecDepth 20000 in
theorem ggX5_emptiest_X5_load : GoodIn wsX5_emptiest wsX5_load := goodIn_r _ [17, 1, 18, 19, 20, 5, 21, 22, 23, 24, 25, 26, 27, 28, 29, 30, 31, 32, 33, 34, 35, 36] (by decide +kernel) (by decide +kernel)
set_option maxRecDepth 20000 in
theorem gX5_emptiest_X5_load : GoodIn wsX5_emptiest (wsV RX5 50 RX5 yX5_load wsX5_load) := goodIn_app (goodIn_of _ (by decide +kernel)) ggX5_emptiest_X5_load
theorem dX5_emptiest_0 : decode cX5_emptiest 0 = .ok (.bipush (-9), 2) := by decide +kernel
theorem dX5_emptiest_2 : decode cX5_emptiest 2 = .ok (.istore_n 1, 1) := by decide +kernel
theorem dX5_emptiest_3 : decode cX5_emptiest 3 = .ok (.iconst 0, 1) := by decide +kernel
theorem dX5_emptiest_4 : decode cX5_emptiest 4 = .ok (.istore_n 2, 1) := by decide +kernel
theorem dX5_emptiest_5 : decode cX5_emptiest 5 = .ok (.iload_n 2, 1) := by decide +kernel
theorem dX5_emptiest_6 : decode cX5_emptiest 6 = .ok (.aload_n 0, 1) := by decide +kernel
theorem dX5_emptiest_7 : decode cX5_emptiest 7 = .ok (.getfield 7, 3) := by decide +kernel
theorem dX5_emptiest_10 : decode cX5_emptiest 10 = .ok (.iconst 0, 1) := by decide +kernel
theorem dX5_emptiest_11 : decode cX5_emptiest 11 = .ok (.iaload, 1) := by decide +kernel
theorem dX5_emptiest_12 : decode cX5_emptiest 12 = .ok (.if_icmp .ge 42, 3) := by decide +kernel
theorem dX5_emptiest_15 : decode cX5_emptiest 15 = .ok (.aload_n 0, 1) := by decide +kernel
theorem dX5_emptiest_16 : decode cX5_emptiest 16 = .ok (.iload_n 2, 1) := by decide +kernel
theorem dX5_emptiest_17 : decode cX5_emptiest 17 = .ok (.invokevirtual 79, 3) := by decide +kernel
theorem dX5_emptiest_20 : decode cX5_emptiest 20 = .ok (.ifCond .eq 26, 3) := by decide +kernel
theorem dX5_emptiest_23 : decode cX5_emptiest 23 = .ok (.iload_n 1, 1) := by decide +kernel
theorem dX5_emptiest_24 : decode cX5_emptiest 24 = .ok (.bipush (-9), 2) := by decide +kernel
theorem dX5_emptiest_26 : decode cX5_emptiest 26 = .ok (.if_icmp .eq 16, 3) := by decide +kernel
theorem dX5_emptiest_29 : decode cX5_emptiest 29 = .ok (.aload_n 0, 1) := by decide +kernel
theorem dX5_emptiest_30 : decode cX5_emptiest 30 = .ok (.iload_n 2, 1) := by decide +kernel
theorem dX5_emptiest_31 : decode cX5_emptiest 31 = .ok (.invokevirtual 50, 3) := by decide +kernel
theorem dX5_emptiest_34 : decode cX5_emptiest 34 = .ok (.aload_n 0, 1) := by decide +kernel
theorem dX5_emptiest_35 : decode cX5_emptiest 35 = .ok (.iload_n 1, 1) := by decide +kernel
theorem dX5_emptiest_36 : decode cX5_emptiest 36 = .ok (.invokevirtual 50, 3) := by decide +kernel
theorem dX5_emptiest_39 : decode cX5_emptiest 39 = .ok (.if_icmp .ge 7, 3) := by decide +kernel
theorem dX5_emptiest_42 : decode cX5_emptiest 42 = .ok (.iload_n 2, 1) := by decide +kernel
theorem dX5_emptiest_43 : decode cX5_emptiest 43 = .ok (.goto 4, 3) := by decide +kernel
theorem dX5_emptiest_46 : decode cX5_emptiest 46 = .ok (.iload_n 1, 1) := by decide +kernel
theorem dX5_emptiest_47 : decode cX5_emptiest 47 = .ok (.istore_n 1, 1) := by decide +kernel
theorem dX5_emptiest_48 : decode cX5_emptiest 48 = .ok (.iinc 2 1, 3) := by decide +kernel
theorem dX5_emptiest_51 : decode cX5_emptiest 51 = .ok (.goto (-46), 3) := by decide +kernel
theorem dX5_emptiest_54 : decode cX5_emptiest 54 = .ok (.iload_n 1, 1) := by decide +kernel
theorem dX5_emptiest_55 : decode cX5_emptiest 55 = .ok (.ireturn, 1) := by decide +kernel
set_option maxRecDepth 20000 in
theorem ggX5_empties_X5_leaver : GoodIn wsX5_empties wsX5_leaver := goodIn_r _ [6, 1, 7, 8, 9, 5, 10, 34, 35, 36, 37, 38, 39, 40, 41, 42, 43, 44, 45, 46, 47, 48] (by decide +kernel) (by decide +kernel)
set_option maxRecDepth 20000 in
theorem gX5_empties_X5_leaver : GoodIn wsX5_empties (wsV RX5 145 RX5 yX5_leaver wsX5_leaver) := goodIn_app (goodIn_of _ (by decide +kernel)) ggX5_empties_X5_leaver
set_option maxRecDepth 20000 in
theorem ggX5_empties_X5_emptiest : GoodIn wsX5_empties wsX5_emptiest := goodIn_r _ [14, 1, 15, 16, 17, 5, 18, 19, 20, 21, 22, 23, 24, 25, 26, 27, 28, 29, 7, 8, 9, 10, 34, 35, 36, 37, 38, 39, 40, 41, 42, 43, 44, 45, 46, 47, 48] (by decide +kernel) (by decide +kernel)
set_option maxRecDepth 20000 in
theorem gX5_empties_X5_emptiest : GoodIn wsX5_empties (wsV RX5 148 RX5 yX5_emptiest wsX5_emptiest) := goodIn_app (goodIn_of _ (by decide +kernel)) ggX5_empties_X5_emptiest
set_option maxRecDepth 20000 in
theorem ggX5_empties_X5_goes : GoodIn wsX5_empties wsX5_goes := goodIn_r _ [33, 1, 7, 8, 9, 5, 10, 34, 35, 36, 37, 38, 39, 40, 41, 42, 43, 44, 45, 46, 47, 48] (by decide +kernel) (by decide +kernel)
set_option maxRecDepth 20000 in
theorem gX5_empties_X5_goes : GoodIn wsX5_empties (wsV RX5 92 RX5 yX5_goes wsX5_goes) := goodIn_app (goodIn_of _ (by decide +kernel)) ggX5_empties_X5_goes
theorem dX5_empties_0 : decode cX5_empties 0 = .ok (.aload_n 0, 1) := by decide +kernel
theorem dX5_empties_1 : decode cX5_empties 1 = .ok (.getfield 7, 3) := by decide +kernel
theorem dX5_empties_4 : decode cX5_empties 4 = .ok (.iconst 1, 1) := by decide +kernel
theorem dX5_empties_5 : decode cX5_empties 5 = .ok (.dup2, 1) := by decide +kernel
theorem dX5_empties_6 : decode cX5_empties 6 = .ok (.iaload, 1) := by decide +kernel
theorem dX5_empties_7 : decode cX5_empties 7 = .ok (.iconst 1, 1) := by decide +kernel
theorem dX5_empties_8 : decode cX5_empties 8 = .ok (.iload_n 1, 1) := by decide +kernel
theorem dX5_empties_9 : decode cX5_empties 9 = .ok (.ishl, 1) := by decide +kernel
theorem dX5_empties_10 : decode cX5_empties 10 = .ok (.iconst (-1), 1) := by decide +kernel
theorem dX5_empties_11 : decode cX5_empties 11 = .ok (.ixor, 1) := by decide +kernel
theorem dX5_empties_12 : decode cX5_empties 12 = .ok (.iand, 1) := by decide +kernel
theorem dX5_empties_13 : decode cX5_empties 13 = .ok (.iastore, 1) := by decide +kernel
theorem dX5_empties_14 : decode cX5_empties 14 = .ok (.iconst 0, 1) := by decide +kernel
theorem dX5_empties_15 : decode cX5_empties 15 = .ok (.istore_n 2, 1) := by decide +kernel
theorem dX5_empties_16 : decode cX5_empties 16 = .ok (.aload_n 0, 1) := by decide +kernel
theorem dX5_empties_17 : decode cX5_empties 17 = .ok (.iload_n 1, 1) := by decide +kernel
theorem dX5_empties_18 : decode cX5_empties 18 = .ok (.iconst 0, 1) := by decide +kernel
theorem dX5_empties_19 : decode cX5_empties 19 = .ok (.invokevirtual 145, 3) := by decide +kernel
theorem dX5_empties_22 : decode cX5_empties 22 = .ok (.istore_n 3, 1) := by decide +kernel
theorem dX5_empties_23 : decode cX5_empties 23 = .ok (.iload_n 3, 1) := by decide +kernel
theorem dX5_empties_24 : decode cX5_empties 24 = .ok (.bipush (-9), 2) := by decide +kernel
theorem dX5_empties_26 : decode cX5_empties 26 = .ok (.if_icmp .eq 25, 3) := by decide +kernel
theorem dX5_empties_29 : decode cX5_empties 29 = .ok (.aload_n 0, 1) := by decide +kernel
theorem dX5_empties_30 : decode cX5_empties 30 = .ok (.iload_n 3, 1) := by decide +kernel
theorem dX5_empties_31 : decode cX5_empties 31 = .ok (.aload_n 0, 1) := by decide +kernel
theorem dX5_empties_32 : decode cX5_empties 32 = .ok (.invokevirtual 148, 3) := by decide +kernel
theorem dX5_empties_35 : decode cX5_empties 35 = .ok (.invokevirtual 92, 3) := by decide +kernel
theorem dX5_empties_38 : decode cX5_empties 38 = .ok (.iinc 2 1, 3) := by decide +kernel
theorem dX5_empties_41 : decode cX5_empties 41 = .ok (.aload_n 0, 1) := by decide +kernel
theorem dX5_empties_42 : decode cX5_empties 42 = .ok (.iload_n 1, 1) := by decide +kernel
theorem dX5_empties_43 : decode cX5_empties 43 = .ok (.iconst 0, 1) := by decide +kernel
theorem dX5_empties_44 : decode cX5_empties 44 = .ok (.invokevirtual 145, 3) := by decide +kernel
theorem dX5_empties_47 : decode cX5_empties 47 = .ok (.istore_n 3, 1) := by decide +kernel
theorem dX5_empties_48 : decode cX5_empties 48 = .ok (.goto (-25), 3) := by decide +kernel
theorem dX5_empties_51 : decode cX5_empties 51 = .ok (.iload_n 2, 1) := by decide +kernel
theorem dX5_empties_52 : decode cX5_empties 52 = .ok (.ireturn, 1) := by decide +kernel
set_option maxRecDepth 20000 in
theorem ggX5_closes_X5_isServer : GoodIn wsX5_closes wsX5_isServer := goodIn_r _ [6, 1, 7, 8, 5, 9, 42, 43, 44, 45, 46, 47, 48, 49, 50, 51, 52, 53, 54, 55, 56] (by decide +kernel) (by decide +kernel)
set_option maxRecDepth 20000 in
theorem gX5_closes_X5_isServer : GoodIn wsX5_closes (wsV RX5 39 RX5 yX5_isServer wsX5_isServer) := goodIn_app (goodIn_of _ (by decide +kernel)) ggX5_closes_X5_isServer
set_option maxRecDepth 20000 in
theorem ggX5_closes_X5_of : GoodIn wsX5_closes wsX5_of := goodIn_r _ [13, 1, 42, 43, 44, 45, 46, 47, 48, 49, 50, 51, 52, 53, 54, 55, 56] (by decide +kernel) (by decide +kernel)
set_option maxRecDepth 20000 in
theorem gX5_closes_X5_of : GoodIn wsX5_closes (wsV RX5 43 RX5 yX5_of wsX5_of) := goodIn_app (goodIn_of _ (by decide +kernel)) ggX5_closes_X5_of
set_option maxRecDepth 20000 in
theorem ggX5_closes_X5_isOpen : GoodIn wsX5_closes wsX5_isOpen := goodIn_r _ [17, 1, 2, 3, 4, 5, 6, 7, 8, 9, 42, 43, 44, 45, 46, 47, 48, 49, 50, 51, 52, 53, 54, 55, 56] (by decide +kernel) (by decide +kernel)
set_option maxRecDepth 20000 in
theorem gX5_closes_X5_isOpen : GoodIn wsX5_closes (wsV RX5 79 RX5 yX5_isOpen wsX5_isOpen) := goodIn_app (goodIn_of _ (by decide +kernel)) ggX5_closes_X5_isOpen
set_option maxRecDepth 20000 in
theorem ggX5_closes_X5_opens : GoodIn wsX5_closes wsX5_opens := goodIn_r _ [21, 1, 42, 43, 44, 45, 46, 47, 48, 49, 50, 51, 52, 53, 54, 55, 56] (by decide +kernel) (by decide +kernel)
set_option maxRecDepth 20000 in
theorem gX5_closes_X5_opens : GoodIn wsX5_closes (wsV RX5 57 RX5 yX5_opens wsX5_opens) := goodIn_app (goodIn_of _ (by decide +kernel)) ggX5_closes_X5_opens
set_option maxRecDepth 20000 in
theorem ggX5_closes_X5_empties : GoodIn wsX5_closes wsX5_empties := goodIn_r _ [25, 1, 26, 27, 28, 5, 29, 10, 11, 12, 13, 30, 31, 32, 33, 14, 15, 16, 17, 2, 3, 4, 6, 7, 8, 9, 34, 35, 36, 37, 38, 39, 40, 41, 42, 43, 44, 45, 46, 47, 48, 49, 50, 51, 52, 53, 54, 55, 56] (by decide +kernel) (by decide +kernel)
set_option maxRecDepth 20000 in
theorem gX5_closes_X5_empties : GoodIn wsX5_closes (wsV RX5 151 RX5 yX5_empties wsX5_empties) := goodIn_app (goodIn_of _ (by decide +kernel)) ggX5_closes_X5_empties
theorem dX5_closes_0 : decode cX5_closes 0 = .ok (.aload_n 0, 1) := by decide +kernel
theorem dX5_closes_1 : decode cX5_closes 1 = .ok (.iload_n 1, 1) := by decide +kernel
theorem dX5_closes_2 : decode cX5_closes 2 = .ok (.invokevirtual 39, 3) := by decide +kernel
theorem dX5_closes_5 : decode cX5_closes 5 = .ok (.ifCond .ne 5, 3) := by decide +kernel
theorem dX5_closes_8 : decode cX5_closes 8 = .ok (.iconst (-1), 1) := by decide +kernel
theorem dX5_closes_9 : decode cX5_closes 9 = .ok (.ireturn, 1) := by decide +kernel
theorem dX5_closes_10 : decode cX5_closes 10 = .ok (.iconst 0, 1) := by decide +kernel
theorem dX5_closes_11 : decode cX5_closes 11 = .ok (.istore_n 2, 1) := by decide +kernel
theorem dX5_closes_12 : decode cX5_closes 12 = .ok (.iconst 0, 1) := by decide +kernel
theorem dX5_closes_13 : decode cX5_closes 13 = .ok (.istore_n 3, 1) := by decide +kernel
theorem dX5_closes_14 : decode cX5_closes 14 = .ok (.iload_n 3, 1) := by decide +kernel
theorem dX5_closes_15 : decode cX5_closes 15 = .ok (.aload_n 0, 1) := by decide +kernel
theorem dX5_closes_16 : decode cX5_closes 16 = .ok (.getfield 7, 3) := by decide +kernel
theorem dX5_closes_19 : decode cX5_closes 19 = .ok (.iconst 2, 1) := by decide +kernel
theorem dX5_closes_20 : decode cX5_closes 20 = .ok (.iaload, 1) := by decide +kernel
theorem dX5_closes_21 : decode cX5_closes 21 = .ok (.if_icmp .ge 32, 3) := by decide +kernel
theorem dX5_closes_24 : decode cX5_closes 24 = .ok (.iload_n 2, 1) := by decide +kernel
theorem dX5_closes_25 : decode cX5_closes 25 = .ok (.aload_n 0, 1) := by decide +kernel
theorem dX5_closes_26 : decode cX5_closes 26 = .ok (.iload_n 3, 1) := by decide +kernel
theorem dX5_closes_27 : decode cX5_closes 27 = .ok (.iconst 2, 1) := by decide +kernel
theorem dX5_closes_28 : decode cX5_closes 28 = .ok (.invokevirtual 43, 3) := by decide +kernel
theorem dX5_closes_31 : decode cX5_closes 31 = .ok (.iload_n 1, 1) := by decide +kernel
theorem dX5_closes_32 : decode cX5_closes 32 = .ok (.if_icmp .ne 12, 3) := by decide +kernel
theorem dX5_closes_35 : decode cX5_closes 35 = .ok (.aload_n 0, 1) := by decide +kernel
theorem dX5_closes_36 : decode cX5_closes 36 = .ok (.iload_n 3, 1) := by decide +kernel
theorem dX5_closes_37 : decode cX5_closes 37 = .ok (.iconst 1, 1) := by decide +kernel
theorem dX5_closes_38 : decode cX5_closes 38 = .ok (.invokevirtual 43, 3) := by decide +kernel
theorem dX5_closes_41 : decode cX5_closes 41 = .ok (.goto 4, 3) := by decide +kernel
theorem dX5_closes_44 : decode cX5_closes 44 = .ok (.iconst 0, 1) := by decide +kernel
theorem dX5_closes_45 : decode cX5_closes 45 = .ok (.iadd, 1) := by decide +kernel
theorem dX5_closes_46 : decode cX5_closes 46 = .ok (.istore_n 2, 1) := by decide +kernel
theorem dX5_closes_47 : decode cX5_closes 47 = .ok (.iinc 3 1, 3) := by decide +kernel
theorem dX5_closes_50 : decode cX5_closes 50 = .ok (.goto (-36), 3) := by decide +kernel
theorem dX5_closes_53 : decode cX5_closes 53 = .ok (.aload_n 0, 1) := by decide +kernel
theorem dX5_closes_54 : decode cX5_closes 54 = .ok (.iload_n 1, 1) := by decide +kernel
theorem dX5_closes_55 : decode cX5_closes 55 = .ok (.invokevirtual 79, 3) := by decide +kernel
theorem dX5_closes_58 : decode cX5_closes 58 = .ok (.ifCond .eq 21, 3) := by decide +kernel
theorem dX5_closes_61 : decode cX5_closes 61 = .ok (.aload_n 0, 1) := by decide +kernel
theorem dX5_closes_62 : decode cX5_closes 62 = .ok (.invokevirtual 57, 3) := by decide +kernel
theorem dX5_closes_65 : decode cX5_closes 65 = .ok (.iconst 1, 1) := by decide +kernel
theorem dX5_closes_66 : decode cX5_closes 66 = .ok (.if_icmp .eq 13, 3) := by decide +kernel
theorem dX5_closes_69 : decode cX5_closes 69 = .ok (.iload_n 2, 1) := by decide +kernel
theorem dX5_closes_70 : decode cX5_closes 70 = .ok (.aload_n 0, 1) := by decide +kernel
theorem dX5_closes_71 : decode cX5_closes 71 = .ok (.getfield 7, 3) := by decide +kernel
theorem dX5_closes_74 : decode cX5_closes 74 = .ok (.iconst 3, 1) := by decide +kernel
theorem dX5_closes_75 : decode cX5_closes 75 = .ok (.iaload, 1) := by decide +kernel
theorem dX5_closes_76 : decode cX5_closes 76 = .ok (.if_icmp .le 6, 3) := by decide +kernel
theorem dX5_closes_79 : decode cX5_closes 79 = .ok (.bipush (-2), 2) := by decide +kernel
theorem dX5_closes_81 : decode cX5_closes 81 = .ok (.ireturn, 1) := by decide +kernel
theorem dX5_closes_82 : decode cX5_closes 82 = .ok (.aload_n 0, 1) := by decide +kernel
theorem dX5_closes_83 : decode cX5_closes 83 = .ok (.iload_n 1, 1) := by decide +kernel
theorem dX5_closes_84 : decode cX5_closes 84 = .ok (.invokevirtual 151, 3) := by decide +kernel
theorem dX5_closes_87 : decode cX5_closes 87 = .ok (.ireturn, 1) := by decide +kernel
set_option maxRecDepth 20000 in
theorem ggX5_close_X5_aside : GoodIn wsX5_close wsX5_aside := goodIn_r _ [5, 6, 7, 61, 62, 63, 64, 65, 66, 67, 68, 69, 70, 71, 72, 73, 74, 75] (by decide +kernel) (by decide +kernel)
set_option maxRecDepth 20000 in
theorem gX5_close_X5_aside : GoodIn wsX5_close (wsV RX5 73 RX5 yX5_aside wsX5_aside) := goodIn_app (goodIn_of _ (by decide +kernel)) ggX5_close_X5_aside
set_option maxRecDepth 20000 in
theorem ggX5_close_X5_closes : GoodIn wsX5_close wsX5_closes := goodIn_r _ [11, 7, 12, 13, 14, 4, 15, 16, 17, 18, 19, 20, 21, 22, 23, 24, 25, 26, 27, 28, 29, 30, 31, 32, 33, 34, 35, 36, 37, 38, 39, 40, 41, 42, 43, 44, 45, 46, 47, 48, 49, 50, 61, 62, 63, 64, 65, 66, 67, 68, 69, 70, 71, 72, 73, 74, 75] (by decide +kernel) (by decide +kernel)
set_option maxRecDepth 20000 in
theorem gX5_close_X5_closes : GoodIn wsX5_close (wsV RX5 154 RX5 yX5_closes wsX5_closes) := goodIn_app (goodIn_of _ (by decide +kernel)) ggX5_close_X5_closes
set_option maxRecDepth 20000 in
theorem ggX5_close_X5_acted : GoodIn wsX5_close wsX5_acted := goodIn_r _ [54, 55, 56, 57, 4, 58, 59, 60, 6, 61, 62, 63, 64, 65, 66, 67, 68, 69, 70, 71, 72, 73, 74, 75] (by decide +kernel) (by decide +kernel)
set_option maxRecDepth 20000 in
theorem gX5_close_X5_acted : GoodIn wsX5_close (wsV RX5 76 RX5 yX5_acted wsX5_acted) := goodIn_app (goodIn_of _ (by decide +kernel)) ggX5_close_X5_acted
theorem dX5_close_0 : decode cX5_close 0 = .ok (.aload_n 0, 1) := by decide +kernel
theorem dX5_close_1 : decode cX5_close 1 = .ok (.invokevirtual 73, 3) := by decide +kernel
theorem dX5_close_4 : decode cX5_close 4 = .ok (.aload_n 0, 1) := by decide +kernel
theorem dX5_close_5 : decode cX5_close 5 = .ok (.aload_n 0, 1) := by decide +kernel
theorem dX5_close_6 : decode cX5_close 6 = .ok (.iload_n 1, 1) := by decide +kernel
theorem dX5_close_7 : decode cX5_close 7 = .ok (.invokevirtual 154, 3) := by decide +kernel
theorem dX5_close_10 : decode cX5_close 10 = .ok (.invokevirtual 76, 3) := by decide +kernel
theorem dX5_close_13 : decode cX5_close 13 = .ok (.ireturn, 1) := by decide +kernel
set_option maxRecDepth 20000 in
theorem ggX5_open_X5_isServer : GoodIn wsX5_open wsX5_isServer := goodIn_r _ [6, 1, 7, 8, 5, 9, 33, 34, 35, 36, 37, 38, 39, 40, 41, 42, 43, 44, 45, 46, 47] (by decide +kernel) (by decide +kernel)
set_option maxRecDepth 20000 in
theorem gX5_open_X5_isServer : GoodIn wsX5_open (wsV RX5 39 RX5 yX5_isServer wsX5_isServer) := goodIn_app (goodIn_of _ (by decide +kernel)) ggX5_open_X5_isServer
set_option maxRecDepth 20000 in
theorem ggX5_open_X5_isOpen : GoodIn wsX5_open wsX5_isOpen := goodIn_r _ [13, 1, 2, 3, 4, 5, 6, 7, 8, 9, 33, 34, 35, 36, 37, 38, 39, 40, 41, 42, 43, 44, 45, 46, 47] (by decide +kernel) (by decide +kernel)
set_option maxRecDepth 20000 in
theorem gX5_open_X5_isOpen : GoodIn wsX5_open (wsV RX5 79 RX5 yX5_isOpen wsX5_isOpen) := goodIn_app (goodIn_of _ (by decide +kernel)) ggX5_open_X5_isOpen
set_option maxRecDepth 20000 in
theorem ggX5_open_X5_aside : GoodIn wsX5_open wsX5_aside := goodIn_r _ [17, 18, 1, 33, 34, 35, 36, 37, 38, 39, 40, 41, 42, 43, 44, 45, 46, 47] (by decide +kernel) (by decide +kernel)
set_option maxRecDepth 20000 in
theorem gX5_open_X5_aside : GoodIn wsX5_open (wsV RX5 73 RX5 yX5_aside wsX5_aside) := goodIn_app (goodIn_of _ (by decide +kernel)) ggX5_open_X5_aside
set_option maxRecDepth 20000 in
theorem ggX5_open_X5_opens : GoodIn wsX5_open wsX5_opens := goodIn_r _ [22, 1, 33, 34, 35, 36, 37, 38, 39, 40, 41, 42, 43, 44, 45, 46, 47] (by decide +kernel) (by decide +kernel)
set_option maxRecDepth 20000 in
theorem gX5_open_X5_opens : GoodIn wsX5_open (wsV RX5 57 RX5 yX5_opens wsX5_opens) := goodIn_app (goodIn_of _ (by decide +kernel)) ggX5_open_X5_opens
set_option maxRecDepth 20000 in
theorem ggX5_open_X5_acted : GoodIn wsX5_open wsX5_acted := goodIn_r _ [26, 27, 28, 29, 5, 30, 31, 32, 18, 33, 34, 35, 36, 37, 38, 39, 40, 41, 42, 43, 44, 45, 46, 47] (by decide +kernel) (by decide +kernel)
set_option maxRecDepth 20000 in
theorem gX5_open_X5_acted : GoodIn wsX5_open (wsV RX5 76 RX5 yX5_acted wsX5_acted) := goodIn_app (goodIn_of _ (by decide +kernel)) ggX5_open_X5_acted
theorem dX5_open_0 : decode cX5_open 0 = .ok (.aload_n 0, 1) := by decide +kernel
theorem dX5_open_1 : decode cX5_open 1 = .ok (.iload_n 1, 1) := by decide +kernel
theorem dX5_open_2 : decode cX5_open 2 = .ok (.invokevirtual 39, 3) := by decide +kernel
theorem dX5_open_5 : decode cX5_open 5 = .ok (.ifCond .ne 5, 3) := by decide +kernel
theorem dX5_open_8 : decode cX5_open 8 = .ok (.iconst (-1), 1) := by decide +kernel
theorem dX5_open_9 : decode cX5_open 9 = .ok (.ireturn, 1) := by decide +kernel
theorem dX5_open_10 : decode cX5_open 10 = .ok (.aload_n 0, 1) := by decide +kernel
theorem dX5_open_11 : decode cX5_open 11 = .ok (.iload_n 1, 1) := by decide +kernel
theorem dX5_open_12 : decode cX5_open 12 = .ok (.invokevirtual 79, 3) := by decide +kernel
theorem dX5_open_15 : decode cX5_open 15 = .ok (.ifCond .eq 6, 3) := by decide +kernel
theorem dX5_open_18 : decode cX5_open 18 = .ok (.bipush (-2), 2) := by decide +kernel
theorem dX5_open_20 : decode cX5_open 20 = .ok (.ireturn, 1) := by decide +kernel
theorem dX5_open_21 : decode cX5_open 21 = .ok (.aload_n 0, 1) := by decide +kernel
theorem dX5_open_22 : decode cX5_open 22 = .ok (.invokevirtual 73, 3) := by decide +kernel
theorem dX5_open_25 : decode cX5_open 25 = .ok (.aload_n 0, 1) := by decide +kernel
theorem dX5_open_26 : decode cX5_open 26 = .ok (.getfield 7, 3) := by decide +kernel
theorem dX5_open_29 : decode cX5_open 29 = .ok (.iconst 1, 1) := by decide +kernel
theorem dX5_open_30 : decode cX5_open 30 = .ok (.dup2, 1) := by decide +kernel
theorem dX5_open_31 : decode cX5_open 31 = .ok (.iaload, 1) := by decide +kernel
theorem dX5_open_32 : decode cX5_open 32 = .ok (.iconst 1, 1) := by decide +kernel
theorem dX5_open_33 : decode cX5_open 33 = .ok (.iload_n 1, 1) := by decide +kernel
theorem dX5_open_34 : decode cX5_open 34 = .ok (.ishl, 1) := by decide +kernel
theorem dX5_open_35 : decode cX5_open 35 = .ok (.ior, 1) := by decide +kernel
theorem dX5_open_36 : decode cX5_open 36 = .ok (.iastore, 1) := by decide +kernel
theorem dX5_open_37 : decode cX5_open 37 = .ok (.aload_n 0, 1) := by decide +kernel
theorem dX5_open_38 : decode cX5_open 38 = .ok (.aload_n 0, 1) := by decide +kernel
theorem dX5_open_39 : decode cX5_open 39 = .ok (.invokevirtual 57, 3) := by decide +kernel
theorem dX5_open_42 : decode cX5_open 42 = .ok (.invokevirtual 76, 3) := by decide +kernel
theorem dX5_open_45 : decode cX5_open 45 = .ok (.ireturn, 1) := by decide +kernel
set_option maxRecDepth 20000 in
theorem ggX5_append_X5_in : GoodIn wsX5_append wsX5_in := goodIn_r _ [6] (by decide +kernel) (by decide +kernel)
set_option maxRecDepth 20000 in
theorem gX5_append_X5_in : GoodIn wsX5_append (va_wsS RX5 35 yX5_in wsX5_in) := goodIn_app (goodIn_of _ (by decide +kernel)) ggX5_append_X5_in
theorem dX5_append_0 : decode cX5_append 0 = .ok (.iload_n 1, 1) := by decide +kernel
theorem dX5_append_1 : decode cX5_append 1 = .ok (.iconst 1, 1) := by decide +kernel
theorem dX5_append_2 : decode cX5_append 2 = .ok (.sipush 255, 3) := by decide +kernel
theorem dX5_append_5 : decode cX5_append 5 = .ok (.invokestatic 35, 3) := by decide +kernel
theorem dX5_append_8 : decode cX5_append 8 = .ok (.ifCond .ne 5, 3) := by decide +kernel
theorem dX5_append_11 : decode cX5_append 11 = .ok (.iconst (-1), 1) := by decide +kernel
theorem dX5_append_12 : decode cX5_append 12 = .ok (.ireturn, 1) := by decide +kernel
theorem dX5_append_13 : decode cX5_append 13 = .ok (.aload_n 0, 1) := by decide +kernel
theorem dX5_append_14 : decode cX5_append 14 = .ok (.getfield 157, 3) := by decide +kernel
theorem dX5_append_17 : decode cX5_append 17 = .ok (.bipush 100, 2) := by decide +kernel
theorem dX5_append_19 : decode cX5_append 19 = .ok (.if_icmp .ne 6, 3) := by decide +kernel
theorem dX5_append_22 : decode cX5_append 22 = .ok (.bipush (-3), 2) := by decide +kernel
theorem dX5_append_24 : decode cX5_append 24 = .ok (.ireturn, 1) := by decide +kernel
theorem dX5_append_25 : decode cX5_append 25 = .ok (.aload_n 0, 1) := by decide +kernel
theorem dX5_append_26 : decode cX5_append 26 = .ok (.getfield 19, 3) := by decide +kernel
theorem dX5_append_29 : decode cX5_append 29 = .ok (.aload_n 0, 1) := by decide +kernel
theorem dX5_append_30 : decode cX5_append 30 = .ok (.getfield 157, 3) := by decide +kernel
theorem dX5_append_33 : decode cX5_append 33 = .ok (.iload_n 1, 1) := by decide +kernel
theorem dX5_append_34 : decode cX5_append 34 = .ok (.iastore, 1) := by decide +kernel
theorem dX5_append_35 : decode cX5_append 35 = .ok (.aload_n 0, 1) := by decide +kernel
theorem dX5_append_36 : decode cX5_append 36 = .ok (.dup, 1) := by decide +kernel
theorem dX5_append_37 : decode cX5_append 37 = .ok (.getfield 157, 3) := by decide +kernel
theorem dX5_append_40 : decode cX5_append 40 = .ok (.iconst 1, 1) := by decide +kernel
theorem dX5_append_41 : decode cX5_append 41 = .ok (.iadd, 1) := by decide +kernel
theorem dX5_append_42 : decode cX5_append 42 = .ok (.putfield 157, 3) := by decide +kernel
theorem dX5_append_45 : decode cX5_append 45 = .ok (.aload_n 0, 1) := by decide +kernel
theorem dX5_append_46 : decode cX5_append 46 = .ok (.getfield 157, 3) := by decide +kernel
theorem dX5_append_49 : decode cX5_append 49 = .ok (.ireturn, 1) := by decide +kernel
theorem dX5_clearText_0 : decode cX5_clearText 0 = .ok (.aload_n 0, 1) := by decide +kernel
theorem dX5_clearText_1 : decode cX5_clearText 1 = .ok (.getfield 157, 3) := by decide +kernel
theorem dX5_clearText_4 : decode cX5_clearText 4 = .ok (.istore_n 1, 1) := by decide +kernel
theorem dX5_clearText_5 : decode cX5_clearText 5 = .ok (.aload_n 0, 1) := by decide +kernel
theorem dX5_clearText_6 : decode cX5_clearText 6 = .ok (.iconst 0, 1) := by decide +kernel
theorem dX5_clearText_7 : decode cX5_clearText 7 = .ok (.putfield 157, 3) := by decide +kernel
theorem dX5_clearText_10 : decode cX5_clearText 10 = .ok (.iload_n 1, 1) := by decide +kernel
theorem dX5_clearText_11 : decode cX5_clearText 11 = .ok (.ireturn, 1) := by decide +kernel
theorem dX5_look_0 : decode cX5_look 0 = .ok (.aload_n 0, 1) := by decide +kernel
theorem dX5_look_1 : decode cX5_look 1 = .ok (.getfield 160, 3) := by decide +kernel
theorem dX5_look_4 : decode cX5_look 4 = .ok (.aload_n 0, 1) := by decide +kernel
theorem dX5_look_5 : decode cX5_look 5 = .ok (.getfield 157, 3) := by decide +kernel
theorem dX5_look_8 : decode cX5_look 8 = .ok (.if_icmp .ge 15, 3) := by decide +kernel
theorem dX5_look_11 : decode cX5_look 11 = .ok (.aload_n 0, 1) := by decide +kernel
theorem dX5_look_12 : decode cX5_look 12 = .ok (.getfield 19, 3) := by decide +kernel
theorem dX5_look_15 : decode cX5_look 15 = .ok (.aload_n 0, 1) := by decide +kernel
theorem dX5_look_16 : decode cX5_look 16 = .ok (.getfield 160, 3) := by decide +kernel
theorem dX5_look_19 : decode cX5_look 19 = .ok (.iaload, 1) := by decide +kernel
theorem dX5_look_20 : decode cX5_look 20 = .ok (.goto 4, 3) := by decide +kernel
theorem dX5_look_23 : decode cX5_look 23 = .ok (.iconst (-1), 1) := by decide +kernel
theorem dX5_look_24 : decode cX5_look 24 = .ok (.ireturn, 1) := by decide +kernel
set_option maxRecDepth 20000 in
theorem ggX5_skips_X5_look : GoodIn wsX5_skips wsX5_look := goodIn_r _ [6, 1, 7, 8, 9, 10, 11, 12, 13, 14, 15, 16, 17, 18, 19, 20, 21, 22, 23] (by decide +kernel) (by decide +kernel)
set_option maxRecDepth 20000 in
theorem gX5_skips_X5_look : GoodIn wsX5_skips (wsV RX5 163 RX5 yX5_look wsX5_look) := goodIn_app (goodIn_of _ (by decide +kernel)) ggX5_skips_X5_look
theorem dX5_skips_0 : decode cX5_skips 0 = .ok (.iconst 0, 1) := by decide +kernel
theorem dX5_skips_1 : decode cX5_skips 1 = .ok (.istore_n 1, 1) := by decide +kernel
theorem dX5_skips_2 : decode cX5_skips 2 = .ok (.aload_n 0, 1) := by decide +kernel
theorem dX5_skips_3 : decode cX5_skips 3 = .ok (.invokevirtual 163, 3) := by decide +kernel
theorem dX5_skips_6 : decode cX5_skips 6 = .ok (.bipush 32, 2) := by decide +kernel
theorem dX5_skips_8 : decode cX5_skips 8 = .ok (.if_icmp .ne 19, 3) := by decide +kernel
theorem dX5_skips_11 : decode cX5_skips 11 = .ok (.aload_n 0, 1) := by decide +kernel
theorem dX5_skips_12 : decode cX5_skips 12 = .ok (.dup, 1) := by decide +kernel
theorem dX5_skips_13 : decode cX5_skips 13 = .ok (.getfield 160, 3) := by decide +kernel
theorem dX5_skips_16 : decode cX5_skips 16 = .ok (.iconst 1, 1) := by decide +kernel
theorem dX5_skips_17 : decode cX5_skips 17 = .ok (.iadd, 1) := by decide +kernel
theorem dX5_skips_18 : decode cX5_skips 18 = .ok (.putfield 160, 3) := by decide +kernel
theorem dX5_skips_21 : decode cX5_skips 21 = .ok (.iinc 1 1, 3) := by decide +kernel
theorem dX5_skips_24 : decode cX5_skips 24 = .ok (.goto (-22), 3) := by decide +kernel
theorem dX5_skips_27 : decode cX5_skips 27 = .ok (.iload_n 1, 1) := by decide +kernel
theorem dX5_skips_28 : decode cX5_skips 28 = .ok (.ireturn, 1) := by decide +kernel
theorem dX5_manyOf_0 : decode cX5_manyOf 0 = .ok (.iload_n 0, 1) := by decide +kernel
theorem dX5_manyOf_1 : decode cX5_manyOf 1 = .ok (.tableswitch 97 102 120 #[95, 97, 97, 97, 91, 97, 97, 93, 97, 97, 95, 97, 91, 97, 97, 97, 97, 97, 93], 91) := by decide +kernel
theorem dX5_manyOf_92 : decode cX5_manyOf 92 = .ok (.iconst 3, 1) := by decide +kernel
theorem dX5_manyOf_93 : decode cX5_manyOf 93 = .ok (.ireturn, 1) := by decide +kernel
theorem dX5_manyOf_94 : decode cX5_manyOf 94 = .ok (.iconst 2, 1) := by decide +kernel
theorem dX5_manyOf_95 : decode cX5_manyOf 95 = .ok (.ireturn, 1) := by decide +kernel
theorem dX5_manyOf_96 : decode cX5_manyOf 96 = .ok (.iconst 1, 1) := by decide +kernel
theorem dX5_manyOf_97 : decode cX5_manyOf 97 = .ok (.ireturn, 1) := by decide +kernel
theorem dX5_manyOf_98 : decode cX5_manyOf 98 = .ok (.iconst 0, 1) := by decide +kernel
theorem dX5_manyOf_99 : decode cX5_manyOf 99 = .ok (.ireturn, 1) := by decide +kernel
set_option maxRecDepth 20000 in
theorem ggX5_reads_X5_look : GoodIn wsX5_reads wsX5_look := goodIn_r _ [8, 1, 9, 10, 14, 15, 16, 17, 18, 19, 20, 21, 22, 23, 24, 25, 26, 27, 28] (by decide +kernel) (by decide +kernel)
set_option maxRecDepth 20000 in
theorem gX5_reads_X5_look : GoodIn wsX5_reads (wsV RX5 163 RX5 yX5_look wsX5_look) := goodIn_app (goodIn_of _ (by decide +kernel)) ggX5_reads_X5_look
set_option maxRecDepth 20000 in
theorem ggX5_reads_X5_in : GoodIn wsX5_reads wsX5_in := goodIn_r _ [13] (by decide +kernel) (by decide +kernel)
set_option maxRecDepth 20000 in
theorem gX5_reads_X5_in : GoodIn wsX5_reads (va_wsS RX5 35 yX5_in wsX5_in) := goodIn_app (goodIn_of _ (by decide +kernel)) ggX5_reads_X5_in
theorem dX5_reads_0 : decode cX5_reads 0 = .ok (.aload_n 0, 1) := by decide +kernel
theorem dX5_reads_1 : decode cX5_reads 1 = .ok (.getfield 160, 3) := by decide +kernel
theorem dX5_reads_4 : decode cX5_reads 4 = .ok (.istore_n 2, 1) := by decide +kernel
theorem dX5_reads_5 : decode cX5_reads 5 = .ok (.iconst 0, 1) := by decide +kernel
theorem dX5_reads_6 : decode cX5_reads 6 = .ok (.istore_n 3, 1) := by decide +kernel
theorem dX5_reads_7 : decode cX5_reads 7 = .ok (.aload_n 0, 1) := by decide +kernel
theorem dX5_reads_8 : decode cX5_reads 8 = .ok (.invokevirtual 163, 3) := by decide +kernel
theorem dX5_reads_11 : decode cX5_reads 11 = .ok (.bipush 48, 2) := by decide +kernel
theorem dX5_reads_13 : decode cX5_reads 13 = .ok (.bipush 57, 2) := by decide +kernel
theorem dX5_reads_15 : decode cX5_reads 15 = .ok (.invokestatic 35, 3) := by decide +kernel
theorem dX5_reads_18 : decode cX5_reads 18 = .ok (.ifCond .eq 51, 3) := by decide +kernel
theorem dX5_reads_21 : decode cX5_reads 21 = .ok (.aload_n 0, 1) := by decide +kernel
theorem dX5_reads_22 : decode cX5_reads 22 = .ok (.getfield 160, 3) := by decide +kernel
theorem dX5_reads_25 : decode cX5_reads 25 = .ok (.iload_n 2, 1) := by decide +kernel
theorem dX5_reads_26 : decode cX5_reads 26 = .ok (.iconst 4, 1) := by decide +kernel
theorem dX5_reads_27 : decode cX5_reads 27 = .ok (.iadd, 1) := by decide +kernel
theorem dX5_reads_28 : decode cX5_reads 28 = .ok (.if_icmp .ge 41, 3) := by decide +kernel
theorem dX5_reads_31 : decode cX5_reads 31 = .ok (.aload_n 0, 1) := by decide +kernel
theorem dX5_reads_32 : decode cX5_reads 32 = .ok (.getfield 160, 3) := by decide +kernel
theorem dX5_reads_35 : decode cX5_reads 35 = .ok (.iload_n 2, 1) := by decide +kernel
theorem dX5_reads_36 : decode cX5_reads 36 = .ok (.if_icmp .le 7, 3) := by decide +kernel
theorem dX5_reads_39 : decode cX5_reads 39 = .ok (.iload_n 3, 1) := by decide +kernel
theorem dX5_reads_40 : decode cX5_reads 40 = .ok (.ifCond .eq 29, 3) := by decide +kernel
theorem dX5_reads_43 : decode cX5_reads 43 = .ok (.bipush 10, 2) := by decide +kernel
theorem dX5_reads_45 : decode cX5_reads 45 = .ok (.iload_n 3, 1) := by decide +kernel
theorem dX5_reads_46 : decode cX5_reads 46 = .ok (.imul, 1) := by decide +kernel
theorem dX5_reads_47 : decode cX5_reads 47 = .ok (.aload_n 0, 1) := by decide +kernel
theorem dX5_reads_48 : decode cX5_reads 48 = .ok (.invokevirtual 163, 3) := by decide +kernel
theorem dX5_reads_51 : decode cX5_reads 51 = .ok (.iadd, 1) := by decide +kernel
theorem dX5_reads_52 : decode cX5_reads 52 = .ok (.bipush 48, 2) := by decide +kernel
theorem dX5_reads_54 : decode cX5_reads 54 = .ok (.isub, 1) := by decide +kernel
theorem dX5_reads_55 : decode cX5_reads 55 = .ok (.istore_n 3, 1) := by decide +kernel
theorem dX5_reads_56 : decode cX5_reads 56 = .ok (.aload_n 0, 1) := by decide +kernel
theorem dX5_reads_57 : decode cX5_reads 57 = .ok (.dup, 1) := by decide +kernel
theorem dX5_reads_58 : decode cX5_reads 58 = .ok (.getfield 160, 3) := by decide +kernel
theorem dX5_reads_61 : decode cX5_reads 61 = .ok (.iconst 1, 1) := by decide +kernel
theorem dX5_reads_62 : decode cX5_reads 62 = .ok (.iadd, 1) := by decide +kernel
theorem dX5_reads_63 : decode cX5_reads 63 = .ok (.putfield 160, 3) := by decide +kernel
theorem dX5_reads_66 : decode cX5_reads 66 = .ok (.goto (-59), 3) := by decide +kernel
theorem dX5_reads_69 : decode cX5_reads 69 = .ok (.aload_n 0, 1) := by decide +kernel
theorem dX5_reads_70 : decode cX5_reads 70 = .ok (.aload_n 0, 1) := by decide +kernel
theorem dX5_reads_71 : decode cX5_reads 71 = .ok (.getfield 160, 3) := by decide +kernel
theorem dX5_reads_74 : decode cX5_reads 74 = .ok (.iload_n 2, 1) := by decide +kernel
theorem dX5_reads_75 : decode cX5_reads 75 = .ok (.if_icmp .eq 17, 3) := by decide +kernel
theorem dX5_reads_78 : decode cX5_reads 78 = .ok (.aload_n 0, 1) := by decide +kernel
theorem dX5_reads_79 : decode cX5_reads 79 = .ok (.invokevirtual 163, 3) := by decide +kernel
theorem dX5_reads_82 : decode cX5_reads 82 = .ok (.bipush 48, 2) := by decide +kernel
theorem dX5_reads_84 : decode cX5_reads 84 = .ok (.bipush 57, 2) := by decide +kernel
theorem dX5_reads_86 : decode cX5_reads 86 = .ok (.invokestatic 35, 3) := by decide +kernel
theorem dX5_reads_89 : decode cX5_reads 89 = .ok (.ifCond .eq 10, 3) := by decide +kernel
theorem dX5_reads_92 : decode cX5_reads 92 = .ok (.aload_n 0, 1) := by decide +kernel
theorem dX5_reads_93 : decode cX5_reads 93 = .ok (.getfield 160, 3) := by decide +kernel
theorem dX5_reads_96 : decode cX5_reads 96 = .ok (.goto 7, 3) := by decide +kernel
theorem dX5_reads_99 : decode cX5_reads 99 = .ok (.aload_n 0, 1) := by decide +kernel
theorem dX5_reads_100 : decode cX5_reads 100 = .ok (.getfield 166, 3) := by decide +kernel
theorem dX5_reads_103 : decode cX5_reads 103 = .ok (.putfield 166, 3) := by decide +kernel
theorem dX5_reads_106 : decode cX5_reads 106 = .ok (.aload_n 0, 1) := by decide +kernel
theorem dX5_reads_107 : decode cX5_reads 107 = .ok (.getfield 22, 3) := by decide +kernel
theorem dX5_reads_110 : decode cX5_reads 110 = .ok (.iload_n 1, 1) := by decide +kernel
theorem dX5_reads_111 : decode cX5_reads 111 = .ok (.iload_n 3, 1) := by decide +kernel
theorem dX5_reads_112 : decode cX5_reads 112 = .ok (.iastore, 1) := by decide +kernel
theorem dX5_reads_113 : decode cX5_reads 113 = .ok (.return_, 1) := by decide +kernel
set_option maxRecDepth 20000 in
theorem ggX5_does_X5_adds : GoodIn wsX5_does wsX5_adds := goodIn_r _ [6, 7, 8, 9, 5, 10, 11, 12, 13, 14, 15, 16, 17, 18, 113, 114, 115, 116, 117, 118, 119, 120, 121, 122, 123, 124, 125, 126, 127] (by decide +kernel) (by decide +kernel)
set_option maxRecDepth 20000 in
theorem gX5_does_X5_adds : GoodIn wsX5_does (wsV RX5 82 RX5 yX5_adds wsX5_adds) := goodIn_app (goodIn_of _ (by decide +kernel)) ggX5_does_X5_adds
set_option maxRecDepth 20000 in
theorem ggX5_does_X5_finishes : GoodIn wsX5_does wsX5_finishes := goodIn_r _ [22, 7, 23, 24, 25, 5, 26, 8, 9, 10, 27, 28, 29, 30, 31, 32, 33, 34, 113, 114, 115, 116, 117, 118, 119, 120, 121, 122, 123, 124, 125, 126, 127] (by decide +kernel) (by decide +kernel)
set_option maxRecDepth 20000 in
theorem gX5_does_X5_finishes : GoodIn wsX5_does (wsV RX5 89 RX5 yX5_finishes wsX5_finishes) := goodIn_app (goodIn_of _ (by decide +kernel)) ggX5_does_X5_finishes
set_option maxRecDepth 20000 in
theorem ggX5_does_X5_moves : GoodIn wsX5_does wsX5_moves := goodIn_r _ [38, 7, 23, 24, 25, 5, 26, 8, 9, 10, 11, 12, 13, 14, 39, 40, 41, 42, 27, 28, 29, 30, 15, 16, 17, 18, 43, 44, 45, 46, 47, 48, 49, 50, 31, 32, 33, 34, 51, 52, 53, 113, 114, 115, 116, 117, 118, 119, 120, 121, 122, 123, 124, 125, 126, 127] (by decide +kernel) (by decide +kernel)
set_option maxRecDepth 20000 in
theorem gX5_does_X5_moves : GoodIn wsX5_does (wsV RX5 96 RX5 yX5_moves wsX5_moves) := goodIn_app (goodIn_of _ (by decide +kernel)) ggX5_does_X5_moves
set_option maxRecDepth 20000 in
theorem ggX5_does_X5_exchanges : GoodIn wsX5_does wsX5_exchanges := goodIn_r _ [57, 7, 23, 24, 25, 5, 26, 8, 9, 10, 27, 28, 29, 30, 39, 40, 41, 42, 43, 44, 45, 46, 47, 48, 49, 50, 31, 32, 33, 34, 51, 52, 53, 113, 114, 115, 116, 117, 118, 119, 120, 121, 122, 123, 124, 125, 126, 127] (by decide +kernel) (by decide +kernel)
set_option maxRecDepth 20000 in
theorem gX5_does_X5_exchanges : GoodIn wsX5_does (wsV RX5 99 RX5 yX5_exchanges wsX5_exchanges) := goodIn_app (goodIn_of _ (by decide +kernel)) ggX5_does_X5_exchanges
set_option maxRecDepth 20000 in
theorem ggX5_does_X5_rings : GoodIn wsX5_does wsX5_rings := goodIn_r _ [61, 7, 23, 24, 25, 5, 26, 8, 9, 10, 27, 28, 29, 30, 39, 40, 41, 42, 43, 44, 45, 46, 47, 48, 49, 50, 31, 32, 33, 34, 51, 52, 53, 113, 114, 115, 116, 117, 118, 119, 120, 121, 122, 123, 124, 125, 126, 127] (by decide +kernel) (by decide +kernel)
set_option maxRecDepth 20000 in
theorem gX5_does_X5_rings : GoodIn wsX5_does (wsV RX5 102 RX5 yX5_rings wsX5_rings) := goodIn_app (goodIn_of _ (by decide +kernel)) ggX5_does_X5_rings
set_option maxRecDepth 20000 in
theorem ggX5_does_X5_evensBy : GoodIn wsX5_does wsX5_evensBy := goodIn_r _ [65, 8, 9, 5, 10, 66, 67, 68, 69, 70, 71, 72, 73, 74, 75, 76, 77, 78, 79, 80, 47, 48, 49, 50, 7, 31, 32, 33, 34, 27, 28, 29, 30, 51, 52, 53, 81, 82, 83, 84, 85, 86, 87, 88, 39, 40, 41, 42, 89, 90, 91, 92, 93, 94, 95, 96, 97, 98, 99, 100, 15, 16, 17, 18, 11, 12, 13, 14, 101, 102, 103, 104, 105, 106, 107, 108, 109, 110, 111, 112, 35, 36, 37, 38, 23, 24, 25, 26, 43, 44, 45, 46, 54, 55, 56, 57, 113, 114, 115, 116, 117, 118, 119, 120, 121, 122, 123, 124, 125, 126, 127] (by decide +kernel) (by decide +kernel)
set_option maxRecDepth 20000 in
theorem gX5_does_X5_evensBy : GoodIn wsX5_does (wsV RX5 142 RX5 yX5_evensBy wsX5_evensBy) := goodIn_app (goodIn_of _ (by decide +kernel)) ggX5_does_X5_evensBy
theorem dX5_does_0 : decode cX5_does 0 = .ok (.aload_n 0, 1) := by decide +kernel
theorem dX5_does_1 : decode cX5_does 1 = .ok (.getfield 22, 3) := by decide +kernel
theorem dX5_does_4 : decode cX5_does 4 = .ok (.iconst 0, 1) := by decide +kernel
theorem dX5_does_5 : decode cX5_does 5 = .ok (.iaload, 1) := by decide +kernel
theorem dX5_does_6 : decode cX5_does 6 = .ok (.istore_n 2, 1) := by decide +kernel
theorem dX5_does_7 : decode cX5_does 7 = .ok (.aload_n 0, 1) := by decide +kernel
theorem dX5_does_8 : decode cX5_does 8 = .ok (.getfield 22, 3) := by decide +kernel
theorem dX5_does_11 : decode cX5_does 11 = .ok (.iconst 1, 1) := by decide +kernel
theorem dX5_does_12 : decode cX5_does 12 = .ok (.iaload, 1) := by decide +kernel
theorem dX5_does_13 : decode cX5_does 13 = .ok (.istore_n 3, 1) := by decide +kernel
theorem dX5_does_14 : decode cX5_does 14 = .ok (.aload_n 0, 1) := by decide +kernel
theorem dX5_does_15 : decode cX5_does 15 = .ok (.getfield 22, 3) := by decide +kernel
theorem dX5_does_18 : decode cX5_does 18 = .ok (.iconst 2, 1) := by decide +kernel
theorem dX5_does_19 : decode cX5_does 19 = .ok (.iaload, 1) := by decide +kernel
theorem dX5_does_20 : decode cX5_does 20 = .ok (.istore 4, 2) := by decide +kernel
theorem dX5_does_22 : decode cX5_does 22 = .ok (.iload_n 1, 1) := by decide +kernel
theorem dX5_does_23 : decode cX5_does 23 = .ok (.lookupswitch 87 #[(102, 58), (106, 49), (109, 64), (114, 78), (120, 71)], 49) := by decide +kernel
theorem dX5_does_72 : decode cX5_does 72 = .ok (.aload_n 0, 1) := by decide +kernel
theorem dX5_does_73 : decode cX5_does 73 = .ok (.iload_n 2, 1) := by decide +kernel
theorem dX5_does_74 : decode cX5_does 74 = .ok (.iload_n 3, 1) := by decide +kernel
theorem dX5_does_75 : decode cX5_does 75 = .ok (.iload 4, 2) := by decide +kernel
theorem dX5_does_77 : decode cX5_does 77 = .ok (.invokevirtual 82, 3) := by decide +kernel
theorem dX5_does_80 : decode cX5_does 80 = .ok (.ireturn, 1) := by decide +kernel
theorem dX5_does_81 : decode cX5_does 81 = .ok (.aload_n 0, 1) := by decide +kernel
theorem dX5_does_82 : decode cX5_does 82 = .ok (.iload_n 2, 1) := by decide +kernel
theorem dX5_does_83 : decode cX5_does 83 = .ok (.invokevirtual 89, 3) := by decide +kernel
theorem dX5_does_86 : decode cX5_does 86 = .ok (.ireturn, 1) := by decide +kernel
theorem dX5_does_87 : decode cX5_does 87 = .ok (.aload_n 0, 1) := by decide +kernel
theorem dX5_does_88 : decode cX5_does 88 = .ok (.iload_n 2, 1) := by decide +kernel
theorem dX5_does_89 : decode cX5_does 89 = .ok (.iload_n 3, 1) := by decide +kernel
theorem dX5_does_90 : decode cX5_does 90 = .ok (.invokevirtual 96, 3) := by decide +kernel
theorem dX5_does_93 : decode cX5_does 93 = .ok (.ireturn, 1) := by decide +kernel
theorem dX5_does_94 : decode cX5_does 94 = .ok (.aload_n 0, 1) := by decide +kernel
theorem dX5_does_95 : decode cX5_does 95 = .ok (.iload_n 2, 1) := by decide +kernel
theorem dX5_does_96 : decode cX5_does 96 = .ok (.iload_n 3, 1) := by decide +kernel
theorem dX5_does_97 : decode cX5_does 97 = .ok (.invokevirtual 99, 3) := by decide +kernel
theorem dX5_does_100 : decode cX5_does 100 = .ok (.ireturn, 1) := by decide +kernel
theorem dX5_does_101 : decode cX5_does 101 = .ok (.aload_n 0, 1) := by decide +kernel
theorem dX5_does_102 : decode cX5_does 102 = .ok (.iload_n 2, 1) := by decide +kernel
theorem dX5_does_103 : decode cX5_does 103 = .ok (.iload_n 3, 1) := by decide +kernel
theorem dX5_does_104 : decode cX5_does 104 = .ok (.iload 4, 2) := by decide +kernel
theorem dX5_does_106 : decode cX5_does 106 = .ok (.invokevirtual 102, 3) := by decide +kernel
theorem dX5_does_109 : decode cX5_does 109 = .ok (.ireturn, 1) := by decide +kernel
theorem dX5_does_110 : decode cX5_does 110 = .ok (.aload_n 0, 1) := by decide +kernel
theorem dX5_does_111 : decode cX5_does 111 = .ok (.iload_n 2, 1) := by decide +kernel
theorem dX5_does_112 : decode cX5_does 112 = .ok (.invokevirtual 142, 3) := by decide +kernel
theorem dX5_does_115 : decode cX5_does 115 = .ok (.ireturn, 1) := by decide +kernel
set_option maxRecDepth 20000 in
theorem ggX5_order_X5_look : GoodIn wsX5_order wsX5_look := goodIn_r _ [7, 1, 8, 9, 136, 137, 138, 139, 140, 141, 142, 143, 144, 145, 146, 147, 148, 149, 150] (by decide +kernel) (by decide +kernel)
set_option maxRecDepth 20000 in
theorem gX5_order_X5_look : GoodIn wsX5_order (wsV RX5 163 RX5 yX5_look wsX5_look) := goodIn_app (goodIn_of _ (by decide +kernel)) ggX5_order_X5_look
set_option maxRecDepth 20000 in
theorem ggX5_order_X5_manyOf : GoodIn wsX5_order wsX5_manyOf := goodIn_r _ [12] (by decide +kernel) (by decide +kernel)
set_option maxRecDepth 20000 in
theorem gX5_order_X5_manyOf : GoodIn wsX5_order (va_wsS RX5 169 yX5_manyOf wsX5_manyOf) := goodIn_app (goodIn_of _ (by decide +kernel)) ggX5_order_X5_manyOf
set_option maxRecDepth 20000 in
theorem ggX5_order_X5_skips : GoodIn wsX5_order wsX5_skips := goodIn_r _ [16, 1, 3, 4, 5, 6, 7, 8, 9, 136, 137, 138, 139, 140, 141, 142, 143, 144, 145, 146, 147, 148, 149, 150] (by decide +kernel) (by decide +kernel)
set_option maxRecDepth 20000 in
theorem gX5_order_X5_skips : GoodIn wsX5_order (wsV RX5 172 RX5 yX5_skips wsX5_skips) := goodIn_app (goodIn_of _ (by decide +kernel)) ggX5_order_X5_skips
set_option maxRecDepth 20000 in
theorem ggX5_order_X5_reads : GoodIn wsX5_order wsX5_reads := goodIn_r _ [20, 1, 2, 21, 3, 4, 5, 6, 7, 8, 9, 22, 23, 24, 136, 137, 138, 139, 140, 141, 142, 143, 144, 145, 146, 147, 148, 149, 150] (by decide +kernel) (by decide +kernel)
set_option maxRecDepth 20000 in
theorem gX5_order_X5_reads : GoodIn wsX5_order (wsV RX5 175 RX5 yX5_reads wsX5_reads) := goodIn_app (goodIn_of _ (by decide +kernel)) ggX5_order_X5_reads
set_option maxRecDepth 20000 in
theorem ggX5_order_X5_does : GoodIn wsX5_order wsX5_does := goodIn_r _ [28, 21, 29, 30, 31, 6, 32, 33, 22, 23, 24, 34, 35, 36, 37, 38, 39, 40, 41, 42, 43, 44, 45, 46, 47, 48, 49, 50, 51, 52, 53, 54, 55, 56, 57, 58, 59, 60, 61, 62, 63, 64, 65, 66, 67, 68, 69, 70, 71, 72, 73, 74, 75, 76, 77, 78, 79, 80, 81, 82, 83, 84, 85, 86, 87, 88, 89, 90, 91, 92, 93, 94, 95, 96, 97, 98, 99, 100, 101, 102, 103, 104, 105, 106, 107, 108, 109, 110, 111, 112, 113, 114, 115, 116, 117, 118, 119, 120, 121, 122, 123, 124, 125, 126, 127, 128, 129, 130, 131, 132, 133, 134, 135, 136, 137, 138, 139, 140, 141, 142, 143, 144, 145, 146, 147, 148, 149, 150] (by decide +kernel) (by decide +kernel)
set_option maxRecDepth 20000 in
theorem gX5_order_X5_does : GoodIn wsX5_order (wsV RX5 179 RX5 yX5_does wsX5_does) := goodIn_app (goodIn_of _ (by decide +kernel)) ggX5_order_X5_does
theorem dX5_order_0 : decode cX5_order 0 = .ok (.aload_n 0, 1) := by decide +kernel
theorem dX5_order_1 : decode cX5_order 1 = .ok (.getfield 160, 3) := by decide +kernel
theorem dX5_order_4 : decode cX5_order 4 = .ok (.istore_n 1, 1) := by decide +kernel
theorem dX5_order_5 : decode cX5_order 5 = .ok (.aload_n 0, 1) := by decide +kernel
theorem dX5_order_6 : decode cX5_order 6 = .ok (.invokevirtual 163, 3) := by decide +kernel
theorem dX5_order_9 : decode cX5_order 9 = .ok (.istore_n 2, 1) := by decide +kernel
theorem dX5_order_10 : decode cX5_order 10 = .ok (.iload_n 2, 1) := by decide +kernel
theorem dX5_order_11 : decode cX5_order 11 = .ok (.invokestatic 169, 3) := by decide +kernel
theorem dX5_order_14 : decode cX5_order 14 = .ok (.istore_n 3, 1) := by decide +kernel
theorem dX5_order_15 : decode cX5_order 15 = .ok (.iload_n 3, 1) := by decide +kernel
theorem dX5_order_16 : decode cX5_order 16 = .ok (.ifCond .ne 9, 3) := by decide +kernel
theorem dX5_order_19 : decode cX5_order 19 = .ok (.aload_n 0, 1) := by decide +kernel
theorem dX5_order_20 : decode cX5_order 20 = .ok (.iload_n 1, 1) := by decide +kernel
theorem dX5_order_21 : decode cX5_order 21 = .ok (.putfield 166, 3) := by decide +kernel
theorem dX5_order_24 : decode cX5_order 24 = .ok (.return_, 1) := by decide +kernel
theorem dX5_order_25 : decode cX5_order 25 = .ok (.aload_n 0, 1) := by decide +kernel
theorem dX5_order_26 : decode cX5_order 26 = .ok (.dup, 1) := by decide +kernel
theorem dX5_order_27 : decode cX5_order 27 = .ok (.getfield 160, 3) := by decide +kernel
theorem dX5_order_30 : decode cX5_order 30 = .ok (.iconst 1, 1) := by decide +kernel
theorem dX5_order_31 : decode cX5_order 31 = .ok (.iadd, 1) := by decide +kernel
theorem dX5_order_32 : decode cX5_order 32 = .ok (.putfield 160, 3) := by decide +kernel
theorem dX5_order_35 : decode cX5_order 35 = .ok (.iconst 0, 1) := by decide +kernel
theorem dX5_order_36 : decode cX5_order 36 = .ok (.istore 4, 2) := by decide +kernel
theorem dX5_order_38 : decode cX5_order 38 = .ok (.iload 4, 2) := by decide +kernel
theorem dX5_order_40 : decode cX5_order 40 = .ok (.iload_n 3, 1) := by decide +kernel
theorem dX5_order_41 : decode cX5_order 41 = .ok (.if_icmp .ge 49, 3) := by decide +kernel
theorem dX5_order_44 : decode cX5_order 44 = .ok (.aload_n 0, 1) := by decide +kernel
theorem dX5_order_45 : decode cX5_order 45 = .ok (.getfield 166, 3) := by decide +kernel
theorem dX5_order_48 : decode cX5_order 48 = .ok (.bipush (-9), 2) := by decide +kernel
theorem dX5_order_50 : decode cX5_order 50 = .ok (.if_icmp .ne 40, 3) := by decide +kernel
theorem dX5_order_53 : decode cX5_order 53 = .ok (.aload_n 0, 1) := by decide +kernel
theorem dX5_order_54 : decode cX5_order 54 = .ok (.invokevirtual 172, 3) := by decide +kernel
theorem dX5_order_57 : decode cX5_order 57 = .ok (.istore 5, 2) := by decide +kernel
theorem dX5_order_59 : decode cX5_order 59 = .ok (.iload 4, 2) := by decide +kernel
theorem dX5_order_61 : decode cX5_order 61 = .ok (.ifCond .le 17, 3) := by decide +kernel
theorem dX5_order_64 : decode cX5_order 64 = .ok (.iload 5, 2) := by decide +kernel
theorem dX5_order_66 : decode cX5_order 66 = .ok (.ifCond .ne 12, 3) := by decide +kernel
theorem dX5_order_69 : decode cX5_order 69 = .ok (.aload_n 0, 1) := by decide +kernel
theorem dX5_order_70 : decode cX5_order 70 = .ok (.aload_n 0, 1) := by decide +kernel
theorem dX5_order_71 : decode cX5_order 71 = .ok (.getfield 160, 3) := by decide +kernel
theorem dX5_order_74 : decode cX5_order 74 = .ok (.putfield 166, 3) := by decide +kernel
theorem dX5_order_77 : decode cX5_order 77 = .ok (.return_, 1) := by decide +kernel
theorem dX5_order_78 : decode cX5_order 78 = .ok (.aload_n 0, 1) := by decide +kernel
theorem dX5_order_79 : decode cX5_order 79 = .ok (.iload 4, 2) := by decide +kernel
theorem dX5_order_81 : decode cX5_order 81 = .ok (.invokevirtual 175, 3) := by decide +kernel
theorem dX5_order_84 : decode cX5_order 84 = .ok (.iinc 4 1, 3) := by decide +kernel
theorem dX5_order_87 : decode cX5_order 87 = .ok (.goto (-49), 3) := by decide +kernel
theorem dX5_order_90 : decode cX5_order 90 = .ok (.aload_n 0, 1) := by decide +kernel
theorem dX5_order_91 : decode cX5_order 91 = .ok (.getfield 166, 3) := by decide +kernel
theorem dX5_order_94 : decode cX5_order 94 = .ok (.bipush (-9), 2) := by decide +kernel
theorem dX5_order_96 : decode cX5_order 96 = .ok (.if_icmp .eq 4, 3) := by decide +kernel
theorem dX5_order_99 : decode cX5_order 99 = .ok (.return_, 1) := by decide +kernel
theorem dX5_order_100 : decode cX5_order 100 = .ok (.aload_n 0, 1) := by decide +kernel
theorem dX5_order_101 : decode cX5_order 101 = .ok (.invokevirtual 172, 3) := by decide +kernel
theorem dX5_order_104 : decode cX5_order 104 = .ok (.pop, 1) := by decide +kernel
theorem dX5_order_105 : decode cX5_order 105 = .ok (.aload_n 0, 1) := by decide +kernel
theorem dX5_order_106 : decode cX5_order 106 = .ok (.invokevirtual 163, 3) := by decide +kernel
theorem dX5_order_109 : decode cX5_order 109 = .ok (.bipush 59, 2) := by decide +kernel
theorem dX5_order_111 : decode cX5_order 111 = .ok (.if_icmp .eq 12, 3) := by decide +kernel
theorem dX5_order_114 : decode cX5_order 114 = .ok (.aload_n 0, 1) := by decide +kernel
theorem dX5_order_115 : decode cX5_order 115 = .ok (.aload_n 0, 1) := by decide +kernel
theorem dX5_order_116 : decode cX5_order 116 = .ok (.getfield 160, 3) := by decide +kernel
theorem dX5_order_119 : decode cX5_order 119 = .ok (.putfield 166, 3) := by decide +kernel
theorem dX5_order_122 : decode cX5_order 122 = .ok (.return_, 1) := by decide +kernel
theorem dX5_order_123 : decode cX5_order 123 = .ok (.aload_n 0, 1) := by decide +kernel
theorem dX5_order_124 : decode cX5_order 124 = .ok (.dup, 1) := by decide +kernel
theorem dX5_order_125 : decode cX5_order 125 = .ok (.getfield 160, 3) := by decide +kernel
theorem dX5_order_128 : decode cX5_order 128 = .ok (.iconst 1, 1) := by decide +kernel
theorem dX5_order_129 : decode cX5_order 129 = .ok (.iadd, 1) := by decide +kernel
theorem dX5_order_130 : decode cX5_order 130 = .ok (.putfield 160, 3) := by decide +kernel
theorem dX5_order_133 : decode cX5_order 133 = .ok (.aload_n 0, 1) := by decide +kernel
theorem dX5_order_134 : decode cX5_order 134 = .ok (.aload_n 0, 1) := by decide +kernel
theorem dX5_order_135 : decode cX5_order 135 = .ok (.iload_n 2, 1) := by decide +kernel
theorem dX5_order_136 : decode cX5_order 136 = .ok (.invokevirtual 179, 3) := by decide +kernel
theorem dX5_order_139 : decode cX5_order 139 = .ok (.ifCond .ge 7, 3) := by decide +kernel
theorem dX5_order_142 : decode cX5_order 142 = .ok (.iload_n 1, 1) := by decide +kernel
theorem dX5_order_143 : decode cX5_order 143 = .ok (.goto 5, 3) := by decide +kernel
theorem dX5_order_146 : decode cX5_order 146 = .ok (.bipush (-9), 2) := by decide +kernel
theorem dX5_order_148 : decode cX5_order 148 = .ok (.putfield 166, 3) := by decide +kernel
theorem dX5_order_151 : decode cX5_order 151 = .ok (.return_, 1) := by decide +kernel
set_option maxRecDepth 20000 in
theorem ggX5_run_X5_aside : GoodIn wsX5_run wsX5_aside := goodIn_r _ [8, 9, 10, 159, 160, 161, 162, 163, 164, 165, 166, 167, 168, 169, 170, 171, 172, 173] (by decide +kernel) (by decide +kernel)
set_option maxRecDepth 20000 in
theorem gX5_run_X5_aside : GoodIn wsX5_run (wsV RX5 73 RX5 yX5_aside wsX5_aside) := goodIn_app (goodIn_of _ (by decide +kernel)) ggX5_run_X5_aside
set_option maxRecDepth 20000 in
theorem ggX5_run_X5_skips : GoodIn wsX5_run wsX5_skips := goodIn_r _ [14, 1, 15, 16, 17, 7, 18, 3, 19, 159, 160, 161, 162, 163, 164, 165, 166, 167, 168, 169, 170, 171, 172, 173] (by decide +kernel) (by decide +kernel)
set_option maxRecDepth 20000 in
theorem gX5_run_X5_skips : GoodIn wsX5_run (wsV RX5 172 RX5 yX5_skips wsX5_skips) := goodIn_app (goodIn_of _ (by decide +kernel)) ggX5_run_X5_skips
set_option maxRecDepth 20000 in
theorem ggX5_run_X5_order : GoodIn wsX5_run wsX5_order := goodIn_r _ [23, 1, 2, 15, 16, 17, 7, 18, 3, 19, 24, 25, 26, 11, 12, 13, 14, 27, 28, 29, 30, 31, 32, 33, 34, 35, 36, 37, 38, 39, 40, 41, 42, 10, 43, 44, 45, 46, 47, 48, 49, 50, 51, 52, 53, 54, 55, 56, 57, 58, 59, 60, 61, 62, 63, 64, 65, 66, 67, 68, 69, 70, 71, 72, 73, 74, 75, 76, 77, 78, 79, 80, 81, 82, 83, 84, 85, 86, 87, 88, 89, 90, 91, 92, 93, 94, 95, 96, 97, 98, 99, 100, 101, 102, 103, 104, 105, 106, 107, 108, 109, 110, 111, 112, 113, 114, 115, 116, 117, 118, 119, 120, 121, 122, 123, 124, 125, 126, 127, 128, 129, 130, 131, 132, 133, 134, 135, 136, 137, 138, 139, 140, 141, 142, 143, 144, 159, 160, 161, 162, 163, 164, 165, 166, 167, 168, 169, 170, 171, 172, 173] (by decide +kernel) (by decide +kernel)
set_option maxRecDepth 20000 in
theorem gX5_run_X5_order : GoodIn wsX5_run (wsV RX5 182 RX5 yX5_order wsX5_order) := goodIn_app (goodIn_of _ (by decide +kernel)) ggX5_run_X5_order
set_option maxRecDepth 20000 in
theorem ggX5_run_X5_layBack : GoodIn wsX5_run wsX5_layBack := goodIn_r _ [148, 10, 9, 159, 160, 161, 162, 163, 164, 165, 166, 167, 168, 169, 170, 171, 172, 173] (by decide +kernel) (by decide +kernel)
set_option maxRecDepth 20000 in
theorem gX5_run_X5_layBack : GoodIn wsX5_run (wsV RX5 185 RX5 yX5_layBack wsX5_layBack) := goodIn_app (goodIn_of _ (by decide +kernel)) ggX5_run_X5_layBack
set_option maxRecDepth 20000 in
theorem ggX5_run_X5_acted : GoodIn wsX5_run wsX5_acted := goodIn_r _ [152, 153, 154, 155, 7, 156, 157, 158, 9, 159, 160, 161, 162, 163, 164, 165, 166, 167, 168, 169, 170, 171, 172, 173] (by decide +kernel) (by decide +kernel)
set_option maxRecDepth 20000 in
theorem gX5_run_X5_acted : GoodIn wsX5_run (wsV RX5 76 RX5 yX5_acted wsX5_acted) := goodIn_app (goodIn_of _ (by decide +kernel)) ggX5_run_X5_acted
theorem dX5_run_0 : decode cX5_run 0 = .ok (.aload_n 0, 1) := by decide +kernel
theorem dX5_run_1 : decode cX5_run 1 = .ok (.invokevirtual 73, 3) := by decide +kernel
theorem dX5_run_4 : decode cX5_run 4 = .ok (.aload_n 0, 1) := by decide +kernel
theorem dX5_run_5 : decode cX5_run 5 = .ok (.iconst 0, 1) := by decide +kernel
theorem dX5_run_6 : decode cX5_run 6 = .ok (.putfield 160, 3) := by decide +kernel
theorem dX5_run_9 : decode cX5_run 9 = .ok (.aload_n 0, 1) := by decide +kernel
theorem dX5_run_10 : decode cX5_run 10 = .ok (.bipush (-9), 2) := by decide +kernel
theorem dX5_run_12 : decode cX5_run 12 = .ok (.putfield 166, 3) := by decide +kernel
theorem dX5_run_15 : decode cX5_run 15 = .ok (.iconst 0, 1) := by decide +kernel
theorem dX5_run_16 : decode cX5_run 16 = .ok (.istore_n 1, 1) := by decide +kernel
theorem dX5_run_17 : decode cX5_run 17 = .ok (.aload_n 0, 1) := by decide +kernel
theorem dX5_run_18 : decode cX5_run 18 = .ok (.invokevirtual 172, 3) := by decide +kernel
theorem dX5_run_21 : decode cX5_run 21 = .ok (.pop, 1) := by decide +kernel
theorem dX5_run_22 : decode cX5_run 22 = .ok (.aload_n 0, 1) := by decide +kernel
theorem dX5_run_23 : decode cX5_run 23 = .ok (.getfield 160, 3) := by decide +kernel
theorem dX5_run_26 : decode cX5_run 26 = .ok (.aload_n 0, 1) := by decide +kernel
theorem dX5_run_27 : decode cX5_run 27 = .ok (.getfield 157, 3) := by decide +kernel
theorem dX5_run_30 : decode cX5_run 30 = .ok (.if_icmp .ge 36, 3) := by decide +kernel
theorem dX5_run_33 : decode cX5_run 33 = .ok (.aload_n 0, 1) := by decide +kernel
theorem dX5_run_34 : decode cX5_run 34 = .ok (.getfield 166, 3) := by decide +kernel
theorem dX5_run_37 : decode cX5_run 37 = .ok (.bipush (-9), 2) := by decide +kernel
theorem dX5_run_39 : decode cX5_run 39 = .ok (.if_icmp .ne 27, 3) := by decide +kernel
theorem dX5_run_42 : decode cX5_run 42 = .ok (.aload_n 0, 1) := by decide +kernel
theorem dX5_run_43 : decode cX5_run 43 = .ok (.invokevirtual 182, 3) := by decide +kernel
theorem dX5_run_46 : decode cX5_run 46 = .ok (.iinc 1 1, 3) := by decide +kernel
theorem dX5_run_49 : decode cX5_run 49 = .ok (.aload_n 0, 1) := by decide +kernel
theorem dX5_run_50 : decode cX5_run 50 = .ok (.getfield 166, 3) := by decide +kernel
theorem dX5_run_53 : decode cX5_run 53 = .ok (.bipush (-9), 2) := by decide +kernel
theorem dX5_run_55 : decode cX5_run 55 = .ok (.if_icmp .ne (-33), 3) := by decide +kernel
theorem dX5_run_58 : decode cX5_run 58 = .ok (.aload_n 0, 1) := by decide +kernel
theorem dX5_run_59 : decode cX5_run 59 = .ok (.invokevirtual 172, 3) := by decide +kernel
theorem dX5_run_62 : decode cX5_run 62 = .ok (.pop, 1) := by decide +kernel
theorem dX5_run_63 : decode cX5_run 63 = .ok (.goto (-41), 3) := by decide +kernel
theorem dX5_run_66 : decode cX5_run 66 = .ok (.aload_n 0, 1) := by decide +kernel
theorem dX5_run_67 : decode cX5_run 67 = .ok (.getfield 166, 3) := by decide +kernel
theorem dX5_run_70 : decode cX5_run 70 = .ok (.bipush (-9), 2) := by decide +kernel
theorem dX5_run_72 : decode cX5_run 72 = .ok (.if_icmp .eq 16, 3) := by decide +kernel
theorem dX5_run_75 : decode cX5_run 75 = .ok (.aload_n 0, 1) := by decide +kernel
theorem dX5_run_76 : decode cX5_run 76 = .ok (.invokevirtual 185, 3) := by decide +kernel
theorem dX5_run_79 : decode cX5_run 79 = .ok (.sipush (-1000), 3) := by decide +kernel
theorem dX5_run_82 : decode cX5_run 82 = .ok (.aload_n 0, 1) := by decide +kernel
theorem dX5_run_83 : decode cX5_run 83 = .ok (.getfield 166, 3) := by decide +kernel
theorem dX5_run_86 : decode cX5_run 86 = .ok (.isub, 1) := by decide +kernel
theorem dX5_run_87 : decode cX5_run 87 = .ok (.ireturn, 1) := by decide +kernel
theorem dX5_run_88 : decode cX5_run 88 = .ok (.aload_n 0, 1) := by decide +kernel
theorem dX5_run_89 : decode cX5_run 89 = .ok (.iconst 0, 1) := by decide +kernel
theorem dX5_run_90 : decode cX5_run 90 = .ok (.putfield 157, 3) := by decide +kernel
theorem dX5_run_93 : decode cX5_run 93 = .ok (.aload_n 0, 1) := by decide +kernel
theorem dX5_run_94 : decode cX5_run 94 = .ok (.iload_n 1, 1) := by decide +kernel
theorem dX5_run_95 : decode cX5_run 95 = .ok (.invokevirtual 76, 3) := by decide +kernel
theorem dX5_run_98 : decode cX5_run 98 = .ok (.ireturn, 1) := by decide +kernel
set_option maxRecDepth 20000 in
theorem ggX5_manyOn_X5_of : GoodIn wsX5_manyOn wsX5_of := goodIn_r _ [6, 1, 7, 8, 9, 10, 11, 12, 13, 14, 15, 16, 17, 18, 19, 20, 21] (by decide +kernel) (by decide +kernel)
set_option maxRecDepth 20000 in
theorem gX5_manyOn_X5_of : GoodIn wsX5_manyOn (wsV RX5 43 RX5 yX5_of wsX5_of) := goodIn_app (goodIn_of _ (by decide +kernel)) ggX5_manyOn_X5_of
theorem dX5_manyOn_0 : decode cX5_manyOn 0 = .ok (.iconst 0, 1) := by decide +kernel
theorem dX5_manyOn_1 : decode cX5_manyOn 1 = .ok (.istore_n 2, 1) := by decide +kernel
theorem dX5_manyOn_2 : decode cX5_manyOn 2 = .ok (.iconst 0, 1) := by decide +kernel
theorem dX5_manyOn_3 : decode cX5_manyOn 3 = .ok (.istore_n 3, 1) := by decide +kernel
theorem dX5_manyOn_4 : decode cX5_manyOn 4 = .ok (.iload_n 3, 1) := by decide +kernel
theorem dX5_manyOn_5 : decode cX5_manyOn 5 = .ok (.aload_n 0, 1) := by decide +kernel
theorem dX5_manyOn_6 : decode cX5_manyOn 6 = .ok (.getfield 7, 3) := by decide +kernel
theorem dX5_manyOn_9 : decode cX5_manyOn 9 = .ok (.iconst 2, 1) := by decide +kernel
theorem dX5_manyOn_10 : decode cX5_manyOn 10 = .ok (.iaload, 1) := by decide +kernel
theorem dX5_manyOn_11 : decode cX5_manyOn 11 = .ok (.if_icmp .ge 27, 3) := by decide +kernel
theorem dX5_manyOn_14 : decode cX5_manyOn 14 = .ok (.iload_n 2, 1) := by decide +kernel
theorem dX5_manyOn_15 : decode cX5_manyOn 15 = .ok (.aload_n 0, 1) := by decide +kernel
theorem dX5_manyOn_16 : decode cX5_manyOn 16 = .ok (.iload_n 3, 1) := by decide +kernel
theorem dX5_manyOn_17 : decode cX5_manyOn 17 = .ok (.iconst 2, 1) := by decide +kernel
theorem dX5_manyOn_18 : decode cX5_manyOn 18 = .ok (.invokevirtual 43, 3) := by decide +kernel
theorem dX5_manyOn_21 : decode cX5_manyOn 21 = .ok (.iload_n 1, 1) := by decide +kernel
theorem dX5_manyOn_22 : decode cX5_manyOn 22 = .ok (.if_icmp .ne 7, 3) := by decide +kernel
theorem dX5_manyOn_25 : decode cX5_manyOn 25 = .ok (.iconst 1, 1) := by decide +kernel
theorem dX5_manyOn_26 : decode cX5_manyOn 26 = .ok (.goto 4, 3) := by decide +kernel
theorem dX5_manyOn_29 : decode cX5_manyOn 29 = .ok (.iconst 0, 1) := by decide +kernel
theorem dX5_manyOn_30 : decode cX5_manyOn 30 = .ok (.iadd, 1) := by decide +kernel
theorem dX5_manyOn_31 : decode cX5_manyOn 31 = .ok (.istore_n 2, 1) := by decide +kernel
theorem dX5_manyOn_32 : decode cX5_manyOn 32 = .ok (.iinc 3 1, 3) := by decide +kernel
theorem dX5_manyOn_35 : decode cX5_manyOn 35 = .ok (.goto (-31), 3) := by decide +kernel
theorem dX5_manyOn_38 : decode cX5_manyOn 38 = .ok (.iload_n 2, 1) := by decide +kernel
theorem dX5_manyOn_39 : decode cX5_manyOn 39 = .ok (.ireturn, 1) := by decide +kernel
set_option maxRecDepth 20000 in
theorem ggX5_count_X5_opens : GoodIn wsX5_count wsX5_opens := goodIn_r _ [8, 1, 63, 64, 65, 66, 67, 68, 69, 70, 71, 72, 73, 74, 75, 76, 77] (by decide +kernel) (by decide +kernel)
set_option maxRecDepth 20000 in
theorem gX5_count_X5_opens : GoodIn wsX5_count (wsV RX5 57 RX5 yX5_opens wsX5_opens) := goodIn_app (goodIn_of _ (by decide +kernel)) ggX5_count_X5_opens
set_option maxRecDepth 20000 in
theorem ggX5_count_X5_manyOn : GoodIn wsX5_count wsX5_manyOn := goodIn_r _ [12, 1, 13, 14, 15, 7, 16, 63, 64, 65, 66, 67, 68, 69, 70, 71, 72, 73, 74, 75, 76, 77] (by decide +kernel) (by decide +kernel)
set_option maxRecDepth 20000 in
theorem gX5_count_X5_manyOn : GoodIn wsX5_count (wsV RX5 188 RX5 yX5_manyOn wsX5_manyOn) := goodIn_app (goodIn_of _ (by decide +kernel)) ggX5_count_X5_manyOn
set_option maxRecDepth 20000 in
theorem ggX5_count_X5_allLoads : GoodIn wsX5_count wsX5_allLoads := goodIn_r _ [20, 1, 21, 22, 23, 7, 24, 13, 14, 15, 16, 63, 64, 65, 66, 67, 68, 69, 70, 71, 72, 73, 74, 75, 76, 77] (by decide +kernel) (by decide +kernel)
set_option maxRecDepth 20000 in
theorem gX5_count_X5_allLoads : GoodIn wsX5_count (wsV RX5 61 RX5 yX5_allLoads wsX5_allLoads) := goodIn_app (goodIn_of _ (by decide +kernel)) ggX5_count_X5_allLoads
set_option maxRecDepth 20000 in
theorem ggX5_count_X5_greatest : GoodIn wsX5_count wsX5_greatest := goodIn_r _ [28, 1, 29, 30, 31, 7, 32, 13, 14, 15, 16, 33, 34, 35, 63, 64, 65, 66, 67, 68, 69, 70, 71, 72, 73, 74, 75, 76, 77] (by decide +kernel) (by decide +kernel)
set_option maxRecDepth 20000 in
theorem gX5_count_X5_greatest : GoodIn wsX5_count (wsV RX5 67 RX5 yX5_greatest wsX5_greatest) := goodIn_app (goodIn_of _ (by decide +kernel)) ggX5_count_X5_greatest
set_option maxRecDepth 20000 in
theorem ggX5_count_X5_emptiest : GoodIn wsX5_count wsX5_emptiest := goodIn_r _ [39, 1, 40, 41, 42, 7, 43, 44, 45, 46, 47, 48, 49, 50, 29, 30, 31, 32, 13, 14, 15, 16, 63, 64, 65, 66, 67, 68, 69, 70, 71, 72, 73, 74, 75, 76, 77] (by decide +kernel) (by decide +kernel)
set_option maxRecDepth 20000 in
theorem gX5_count_X5_emptiest : GoodIn wsX5_count (wsV RX5 148 RX5 yX5_emptiest wsX5_emptiest) := goodIn_app (goodIn_of _ (by decide +kernel)) ggX5_count_X5_emptiest
set_option maxRecDepth 20000 in
theorem ggX5_count_X5_load : GoodIn wsX5_count wsX5_load := goodIn_r _ [32, 1, 13, 14, 15, 7, 16, 63, 64, 65, 66, 67, 68, 69, 70, 71, 72, 73, 74, 75, 76, 77] (by decide +kernel) (by decide +kernel)
set_option maxRecDepth 20000 in
theorem gX5_count_X5_load : GoodIn wsX5_count (wsV RX5 50 RX5 yX5_load wsX5_load) := goodIn_app (goodIn_of _ (by decide +kernel)) ggX5_count_X5_load
set_option maxRecDepth 20000 in
theorem ggX5_count_X5_bound : GoodIn wsX5_count wsX5_bound := goodIn_r _ [54, 1, 21, 22, 23, 7, 24, 13, 14, 15, 16, 33, 34, 35, 4, 5, 6, 8, 17, 18, 19, 20, 63, 64, 65, 66, 67, 68, 69, 70, 71, 72, 73, 74, 75, 76, 77] (by decide +kernel) (by decide +kernel)
set_option maxRecDepth 20000 in
theorem gX5_count_X5_bound : GoodIn wsX5_count (wsV RX5 64 RX5 yX5_bound wsX5_bound) := goodIn_app (goodIn_of _ (by decide +kernel)) ggX5_count_X5_bound
set_option maxRecDepth 20000 in
theorem ggX5_count_X5_target : GoodIn wsX5_count wsX5_target := goodIn_r _ [58, 1, 51, 52, 53, 7, 54, 21, 22, 23, 24, 13, 14, 15, 16, 33, 34, 35, 4, 5, 6, 8, 17, 18, 19, 20, 63, 64, 65, 66, 67, 68, 69, 70, 71, 72, 73, 74, 75, 76, 77] (by decide +kernel) (by decide +kernel)
set_option maxRecDepth 20000 in
theorem gX5_count_X5_target : GoodIn wsX5_count (wsV RX5 70 RX5 yX5_target wsX5_target) := goodIn_app (goodIn_of _ (by decide +kernel)) ggX5_count_X5_target
set_option maxRecDepth 20000 in
theorem ggX5_count_X5_areEven : GoodIn wsX5_count wsX5_areEven := goodIn_r _ [62, 25, 26, 27, 7, 28, 1, 29, 30, 31, 32, 13, 14, 15, 16, 33, 34, 35, 55, 56, 57, 58, 51, 52, 53, 54, 21, 22, 23, 24, 4, 5, 6, 8, 17, 18, 19, 20, 63, 64, 65, 66, 67, 68, 69, 70, 71, 72, 73, 74, 75, 76, 77] (by decide +kernel) (by decide +kernel)
set_option maxRecDepth 20000 in
theorem gX5_count_X5_areEven : GoodIn wsX5_count (wsV RX5 123 RX5 yX5_areEven wsX5_areEven) := goodIn_app (goodIn_of _ (by decide +kernel)) ggX5_count_X5_areEven
theorem dX5_count_0 : decode cX5_count 0 = .ok (.iload_n 1, 1) := by decide +kernel
theorem dX5_count_1 : decode cX5_count 1 = .ok (.tableswitch 187 0 14 #[75, 82, 87, 94, 101, 106, 111, 133, 138, 143, 156, 163, 170, 177, 182], 75) := by decide +kernel
theorem dX5_count_76 : decode cX5_count 76 = .ok (.aload_n 0, 1) := by decide +kernel
theorem dX5_count_77 : decode cX5_count 77 = .ok (.getfield 7, 3) := by decide +kernel
theorem dX5_count_80 : decode cX5_count 80 = .ok (.iconst 0, 1) := by decide +kernel
theorem dX5_count_81 : decode cX5_count 81 = .ok (.iaload, 1) := by decide +kernel
theorem dX5_count_82 : decode cX5_count 82 = .ok (.ireturn, 1) := by decide +kernel
theorem dX5_count_83 : decode cX5_count 83 = .ok (.aload_n 0, 1) := by decide +kernel
theorem dX5_count_84 : decode cX5_count 84 = .ok (.invokevirtual 57, 3) := by decide +kernel
theorem dX5_count_87 : decode cX5_count 87 = .ok (.ireturn, 1) := by decide +kernel
theorem dX5_count_88 : decode cX5_count 88 = .ok (.aload_n 0, 1) := by decide +kernel
theorem dX5_count_89 : decode cX5_count 89 = .ok (.getfield 7, 3) := by decide +kernel
theorem dX5_count_92 : decode cX5_count 92 = .ok (.iconst 2, 1) := by decide +kernel
theorem dX5_count_93 : decode cX5_count 93 = .ok (.iaload, 1) := by decide +kernel
theorem dX5_count_94 : decode cX5_count 94 = .ok (.ireturn, 1) := by decide +kernel
theorem dX5_count_95 : decode cX5_count 95 = .ok (.aload_n 0, 1) := by decide +kernel
theorem dX5_count_96 : decode cX5_count 96 = .ok (.bipush (-9), 2) := by decide +kernel
theorem dX5_count_98 : decode cX5_count 98 = .ok (.invokevirtual 188, 3) := by decide +kernel
theorem dX5_count_101 : decode cX5_count 101 = .ok (.ireturn, 1) := by decide +kernel
theorem dX5_count_102 : decode cX5_count 102 = .ok (.aload_n 0, 1) := by decide +kernel
theorem dX5_count_103 : decode cX5_count 103 = .ok (.invokevirtual 61, 3) := by decide +kernel
theorem dX5_count_106 : decode cX5_count 106 = .ok (.ireturn, 1) := by decide +kernel
theorem dX5_count_107 : decode cX5_count 107 = .ok (.aload_n 0, 1) := by decide +kernel
theorem dX5_count_108 : decode cX5_count 108 = .ok (.invokevirtual 67, 3) := by decide +kernel
theorem dX5_count_111 : decode cX5_count 111 = .ok (.ireturn, 1) := by decide +kernel
theorem dX5_count_112 : decode cX5_count 112 = .ok (.aload_n 0, 1) := by decide +kernel
theorem dX5_count_113 : decode cX5_count 113 = .ok (.getfield 7, 3) := by decide +kernel
theorem dX5_count_116 : decode cX5_count 116 = .ok (.iconst 0, 1) := by decide +kernel
theorem dX5_count_117 : decode cX5_count 117 = .ok (.iaload, 1) := by decide +kernel
theorem dX5_count_118 : decode cX5_count 118 = .ok (.ifCond .ne 7, 3) := by decide +kernel
theorem dX5_count_121 : decode cX5_count 121 = .ok (.iconst 0, 1) := by decide +kernel
theorem dX5_count_122 : decode cX5_count 122 = .ok (.goto 11, 3) := by decide +kernel
theorem dX5_count_125 : decode cX5_count 125 = .ok (.aload_n 0, 1) := by decide +kernel
theorem dX5_count_126 : decode cX5_count 126 = .ok (.aload_n 0, 1) := by decide +kernel
theorem dX5_count_127 : decode cX5_count 127 = .ok (.invokevirtual 148, 3) := by decide +kernel
theorem dX5_count_130 : decode cX5_count 130 = .ok (.invokevirtual 50, 3) := by decide +kernel
theorem dX5_count_133 : decode cX5_count 133 = .ok (.ireturn, 1) := by decide +kernel
theorem dX5_count_134 : decode cX5_count 134 = .ok (.aload_n 0, 1) := by decide +kernel
theorem dX5_count_135 : decode cX5_count 135 = .ok (.invokevirtual 64, 3) := by decide +kernel
theorem dX5_count_138 : decode cX5_count 138 = .ok (.ireturn, 1) := by decide +kernel
theorem dX5_count_139 : decode cX5_count 139 = .ok (.aload_n 0, 1) := by decide +kernel
theorem dX5_count_140 : decode cX5_count 140 = .ok (.invokevirtual 70, 3) := by decide +kernel
theorem dX5_count_143 : decode cX5_count 143 = .ok (.ireturn, 1) := by decide +kernel
theorem dX5_count_144 : decode cX5_count 144 = .ok (.aload_n 0, 1) := by decide +kernel
theorem dX5_count_145 : decode cX5_count 145 = .ok (.invokevirtual 123, 3) := by decide +kernel
theorem dX5_count_148 : decode cX5_count 148 = .ok (.ifCond .eq 7, 3) := by decide +kernel
theorem dX5_count_151 : decode cX5_count 151 = .ok (.iconst 1, 1) := by decide +kernel
theorem dX5_count_152 : decode cX5_count 152 = .ok (.goto 4, 3) := by decide +kernel
theorem dX5_count_155 : decode cX5_count 155 = .ok (.iconst 0, 1) := by decide +kernel
theorem dX5_count_156 : decode cX5_count 156 = .ok (.ireturn, 1) := by decide +kernel
theorem dX5_count_157 : decode cX5_count 157 = .ok (.aload_n 0, 1) := by decide +kernel
theorem dX5_count_158 : decode cX5_count 158 = .ok (.getfield 7, 3) := by decide +kernel
theorem dX5_count_161 : decode cX5_count 161 = .ok (.iconst 3, 1) := by decide +kernel
theorem dX5_count_162 : decode cX5_count 162 = .ok (.iaload, 1) := by decide +kernel
theorem dX5_count_163 : decode cX5_count 163 = .ok (.ireturn, 1) := by decide +kernel
theorem dX5_count_164 : decode cX5_count 164 = .ok (.aload_n 0, 1) := by decide +kernel
theorem dX5_count_165 : decode cX5_count 165 = .ok (.getfield 7, 3) := by decide +kernel
theorem dX5_count_168 : decode cX5_count 168 = .ok (.iconst 4, 1) := by decide +kernel
theorem dX5_count_169 : decode cX5_count 169 = .ok (.iaload, 1) := by decide +kernel
theorem dX5_count_170 : decode cX5_count 170 = .ok (.ireturn, 1) := by decide +kernel
theorem dX5_count_171 : decode cX5_count 171 = .ok (.aload_n 0, 1) := by decide +kernel
theorem dX5_count_172 : decode cX5_count 172 = .ok (.getfield 7, 3) := by decide +kernel
theorem dX5_count_175 : decode cX5_count 175 = .ok (.iconst 5, 1) := by decide +kernel
theorem dX5_count_176 : decode cX5_count 176 = .ok (.iaload, 1) := by decide +kernel
theorem dX5_count_177 : decode cX5_count 177 = .ok (.ireturn, 1) := by decide +kernel
theorem dX5_count_178 : decode cX5_count 178 = .ok (.aload_n 0, 1) := by decide +kernel
theorem dX5_count_179 : decode cX5_count 179 = .ok (.getfield 28, 3) := by decide +kernel
theorem dX5_count_182 : decode cX5_count 182 = .ok (.ireturn, 1) := by decide +kernel
theorem dX5_count_183 : decode cX5_count 183 = .ok (.aload_n 0, 1) := by decide +kernel
theorem dX5_count_184 : decode cX5_count 184 = .ok (.getfield 157, 3) := by decide +kernel
theorem dX5_count_187 : decode cX5_count 187 = .ok (.ireturn, 1) := by decide +kernel
theorem dX5_count_188 : decode cX5_count 188 = .ok (.iconst (-1), 1) := by decide +kernel
theorem dX5_count_189 : decode cX5_count 189 = .ok (.ireturn, 1) := by decide +kernel
set_option maxRecDepth 20000 in
theorem ggX5_jobsOn_X5_of : GoodIn wsX5_jobsOn wsX5_of := goodIn_r _ [6, 1, 7, 8, 9, 10, 11, 12, 13, 14, 15, 16, 17, 18, 19, 20, 21] (by decide +kernel) (by decide +kernel)
set_option maxRecDepth 20000 in
theorem gX5_jobsOn_X5_of : GoodIn wsX5_jobsOn (wsV RX5 43 RX5 yX5_of wsX5_of) := goodIn_app (goodIn_of _ (by decide +kernel)) ggX5_jobsOn_X5_of
theorem dX5_jobsOn_0 : decode cX5_jobsOn 0 = .ok (.iconst 0, 1) := by decide +kernel
theorem dX5_jobsOn_1 : decode cX5_jobsOn 1 = .ok (.istore_n 2, 1) := by decide +kernel
theorem dX5_jobsOn_2 : decode cX5_jobsOn 2 = .ok (.iconst 0, 1) := by decide +kernel
theorem dX5_jobsOn_3 : decode cX5_jobsOn 3 = .ok (.istore_n 3, 1) := by decide +kernel
theorem dX5_jobsOn_4 : decode cX5_jobsOn 4 = .ok (.iload_n 3, 1) := by decide +kernel
theorem dX5_jobsOn_5 : decode cX5_jobsOn 5 = .ok (.aload_n 0, 1) := by decide +kernel
theorem dX5_jobsOn_6 : decode cX5_jobsOn 6 = .ok (.getfield 7, 3) := by decide +kernel
theorem dX5_jobsOn_9 : decode cX5_jobsOn 9 = .ok (.iconst 2, 1) := by decide +kernel
theorem dX5_jobsOn_10 : decode cX5_jobsOn 10 = .ok (.iaload, 1) := by decide +kernel
theorem dX5_jobsOn_11 : decode cX5_jobsOn 11 = .ok (.if_icmp .ge 29, 3) := by decide +kernel
theorem dX5_jobsOn_14 : decode cX5_jobsOn 14 = .ok (.iload_n 2, 1) := by decide +kernel
theorem dX5_jobsOn_15 : decode cX5_jobsOn 15 = .ok (.aload_n 0, 1) := by decide +kernel
theorem dX5_jobsOn_16 : decode cX5_jobsOn 16 = .ok (.iload_n 3, 1) := by decide +kernel
theorem dX5_jobsOn_17 : decode cX5_jobsOn 17 = .ok (.iconst 2, 1) := by decide +kernel
theorem dX5_jobsOn_18 : decode cX5_jobsOn 18 = .ok (.invokevirtual 43, 3) := by decide +kernel
theorem dX5_jobsOn_21 : decode cX5_jobsOn 21 = .ok (.iload_n 1, 1) := by decide +kernel
theorem dX5_jobsOn_22 : decode cX5_jobsOn 22 = .ok (.if_icmp .ne 9, 3) := by decide +kernel
theorem dX5_jobsOn_25 : decode cX5_jobsOn 25 = .ok (.iconst 1, 1) := by decide +kernel
theorem dX5_jobsOn_26 : decode cX5_jobsOn 26 = .ok (.iload_n 3, 1) := by decide +kernel
theorem dX5_jobsOn_27 : decode cX5_jobsOn 27 = .ok (.ishl, 1) := by decide +kernel
theorem dX5_jobsOn_28 : decode cX5_jobsOn 28 = .ok (.goto 4, 3) := by decide +kernel
theorem dX5_jobsOn_31 : decode cX5_jobsOn 31 = .ok (.iconst 0, 1) := by decide +kernel
theorem dX5_jobsOn_32 : decode cX5_jobsOn 32 = .ok (.ior, 1) := by decide +kernel
theorem dX5_jobsOn_33 : decode cX5_jobsOn 33 = .ok (.istore_n 2, 1) := by decide +kernel
theorem dX5_jobsOn_34 : decode cX5_jobsOn 34 = .ok (.iinc 3 1, 3) := by decide +kernel
theorem dX5_jobsOn_37 : decode cX5_jobsOn 37 = .ok (.goto (-33), 3) := by decide +kernel
theorem dX5_jobsOn_40 : decode cX5_jobsOn 40 = .ok (.iload_n 2, 1) := by decide +kernel
theorem dX5_jobsOn_41 : decode cX5_jobsOn 41 = .ok (.ireturn, 1) := by decide +kernel
set_option maxRecDepth 20000 in
theorem ggX5_server_X5_isServer : GoodIn wsX5_server wsX5_isServer := goodIn_r _ [5, 6, 7, 8, 4, 9, 38, 39, 40, 41, 42, 43, 44, 45, 46, 47, 48, 49, 50, 51, 52] (by decide +kernel) (by decide +kernel)
set_option maxRecDepth 20000 in
theorem gX5_server_X5_isServer : GoodIn wsX5_server (wsV RX5 39 RX5 yX5_isServer wsX5_isServer) := goodIn_app (goodIn_of _ (by decide +kernel)) ggX5_server_X5_isServer
set_option maxRecDepth 20000 in
theorem ggX5_server_X5_in : GoodIn wsX5_server wsX5_in := goodIn_r _ [9] (by decide +kernel) (by decide +kernel)
set_option maxRecDepth 20000 in
theorem gX5_server_X5_in : GoodIn wsX5_server (va_wsS RX5 35 yX5_in wsX5_in) := goodIn_app (goodIn_of _ (by decide +kernel)) ggX5_server_X5_in
set_option maxRecDepth 20000 in
theorem ggX5_server_X5_isOpen : GoodIn wsX5_server wsX5_isOpen := goodIn_r _ [13, 6, 1, 2, 3, 4, 5, 7, 8, 9, 38, 39, 40, 41, 42, 43, 44, 45, 46, 47, 48, 49, 50, 51, 52] (by decide +kernel) (by decide +kernel)
set_option maxRecDepth 20000 in
theorem gX5_server_X5_isOpen : GoodIn wsX5_server (wsV RX5 79 RX5 yX5_isOpen wsX5_isOpen) := goodIn_app (goodIn_of _ (by decide +kernel)) ggX5_server_X5_isOpen
set_option maxRecDepth 20000 in
theorem ggX5_server_X5_load : GoodIn wsX5_server wsX5_load := goodIn_r _ [17, 6, 18, 19, 20, 4, 21, 38, 39, 40, 41, 42, 43, 44, 45, 46, 47, 48, 49, 50, 51, 52] (by decide +kernel) (by decide +kernel)
set_option maxRecDepth 20000 in
theorem gX5_server_X5_load : GoodIn wsX5_server (wsV RX5 50 RX5 yX5_load wsX5_load) := goodIn_app (goodIn_of _ (by decide +kernel)) ggX5_server_X5_load
set_option maxRecDepth 20000 in
theorem ggX5_server_X5_manyOn : GoodIn wsX5_server wsX5_manyOn := goodIn_r _ [25, 6, 18, 19, 20, 4, 21, 38, 39, 40, 41, 42, 43, 44, 45, 46, 47, 48, 49, 50, 51, 52] (by decide +kernel) (by decide +kernel)
set_option maxRecDepth 20000 in
theorem gX5_server_X5_manyOn : GoodIn wsX5_server (wsV RX5 188 RX5 yX5_manyOn wsX5_manyOn) := goodIn_app (goodIn_of _ (by decide +kernel)) ggX5_server_X5_manyOn
set_option maxRecDepth 20000 in
theorem ggX5_server_X5_allLoads : GoodIn wsX5_server wsX5_allLoads := goodIn_r _ [29, 6, 30, 31, 32, 4, 33, 18, 19, 20, 21, 38, 39, 40, 41, 42, 43, 44, 45, 46, 47, 48, 49, 50, 51, 52] (by decide +kernel) (by decide +kernel)
set_option maxRecDepth 20000 in
theorem gX5_server_X5_allLoads : GoodIn wsX5_server (wsV RX5 61 RX5 yX5_allLoads wsX5_allLoads) := goodIn_app (goodIn_of _ (by decide +kernel)) ggX5_server_X5_allLoads
set_option maxRecDepth 20000 in
theorem ggX5_server_X5_jobsOn : GoodIn wsX5_server wsX5_jobsOn := goodIn_r _ [37, 6, 18, 19, 20, 4, 21, 38, 39, 40, 41, 42, 43, 44, 45, 46, 47, 48, 49, 50, 51, 52] (by decide +kernel) (by decide +kernel)
set_option maxRecDepth 20000 in
theorem gX5_server_X5_jobsOn : GoodIn wsX5_server (wsV RX5 191 RX5 yX5_jobsOn wsX5_jobsOn) := goodIn_app (goodIn_of _ (by decide +kernel)) ggX5_server_X5_jobsOn
theorem dX5_server_0 : decode cX5_server 0 = .ok (.aload_n 0, 1) := by decide +kernel
theorem dX5_server_1 : decode cX5_server 1 = .ok (.iload_n 1, 1) := by decide +kernel
theorem dX5_server_2 : decode cX5_server 2 = .ok (.invokevirtual 39, 3) := by decide +kernel
theorem dX5_server_5 : decode cX5_server 5 = .ok (.ifCond .eq 12, 3) := by decide +kernel
theorem dX5_server_8 : decode cX5_server 8 = .ok (.iload_n 2, 1) := by decide +kernel
theorem dX5_server_9 : decode cX5_server 9 = .ok (.iconst 0, 1) := by decide +kernel
theorem dX5_server_10 : decode cX5_server 10 = .ok (.iconst 4, 1) := by decide +kernel
theorem dX5_server_11 : decode cX5_server 11 = .ok (.invokestatic 35, 3) := by decide +kernel
theorem dX5_server_14 : decode cX5_server 14 = .ok (.ifCond .ne 5, 3) := by decide +kernel
theorem dX5_server_17 : decode cX5_server 17 = .ok (.iconst (-1), 1) := by decide +kernel
theorem dX5_server_18 : decode cX5_server 18 = .ok (.ireturn, 1) := by decide +kernel
theorem dX5_server_19 : decode cX5_server 19 = .ok (.iload_n 2, 1) := by decide +kernel
theorem dX5_server_20 : decode cX5_server 20 = .ok (.tableswitch 84 0 3 #[32, 46, 52, 58], 32) := by decide +kernel
theorem dX5_server_52 : decode cX5_server 52 = .ok (.aload_n 0, 1) := by decide +kernel
theorem dX5_server_53 : decode cX5_server 53 = .ok (.iload_n 1, 1) := by decide +kernel
theorem dX5_server_54 : decode cX5_server 54 = .ok (.invokevirtual 79, 3) := by decide +kernel
theorem dX5_server_57 : decode cX5_server 57 = .ok (.ifCond .eq 7, 3) := by decide +kernel
theorem dX5_server_60 : decode cX5_server 60 = .ok (.iconst 1, 1) := by decide +kernel
theorem dX5_server_61 : decode cX5_server 61 = .ok (.goto 4, 3) := by decide +kernel
theorem dX5_server_64 : decode cX5_server 64 = .ok (.iconst 0, 1) := by decide +kernel
theorem dX5_server_65 : decode cX5_server 65 = .ok (.ireturn, 1) := by decide +kernel
theorem dX5_server_66 : decode cX5_server 66 = .ok (.aload_n 0, 1) := by decide +kernel
theorem dX5_server_67 : decode cX5_server 67 = .ok (.iload_n 1, 1) := by decide +kernel
theorem dX5_server_68 : decode cX5_server 68 = .ok (.invokevirtual 50, 3) := by decide +kernel
theorem dX5_server_71 : decode cX5_server 71 = .ok (.ireturn, 1) := by decide +kernel
theorem dX5_server_72 : decode cX5_server 72 = .ok (.aload_n 0, 1) := by decide +kernel
theorem dX5_server_73 : decode cX5_server 73 = .ok (.iload_n 1, 1) := by decide +kernel
theorem dX5_server_74 : decode cX5_server 74 = .ok (.invokevirtual 188, 3) := by decide +kernel
theorem dX5_server_77 : decode cX5_server 77 = .ok (.ireturn, 1) := by decide +kernel
theorem dX5_server_78 : decode cX5_server 78 = .ok (.aload_n 0, 1) := by decide +kernel
theorem dX5_server_79 : decode cX5_server 79 = .ok (.invokevirtual 61, 3) := by decide +kernel
theorem dX5_server_82 : decode cX5_server 82 = .ok (.ifCond .ne 7, 3) := by decide +kernel
theorem dX5_server_85 : decode cX5_server 85 = .ok (.iconst 0, 1) := by decide +kernel
theorem dX5_server_86 : decode cX5_server 86 = .ok (.goto 17, 3) := by decide +kernel
theorem dX5_server_89 : decode cX5_server 89 = .ok (.sipush 1000, 3) := by decide +kernel
theorem dX5_server_92 : decode cX5_server 92 = .ok (.aload_n 0, 1) := by decide +kernel
theorem dX5_server_93 : decode cX5_server 93 = .ok (.iload_n 1, 1) := by decide +kernel
theorem dX5_server_94 : decode cX5_server 94 = .ok (.invokevirtual 50, 3) := by decide +kernel
theorem dX5_server_97 : decode cX5_server 97 = .ok (.imul, 1) := by decide +kernel
theorem dX5_server_98 : decode cX5_server 98 = .ok (.aload_n 0, 1) := by decide +kernel
theorem dX5_server_99 : decode cX5_server 99 = .ok (.invokevirtual 61, 3) := by decide +kernel
theorem dX5_server_102 : decode cX5_server 102 = .ok (.idiv, 1) := by decide +kernel
theorem dX5_server_103 : decode cX5_server 103 = .ok (.ireturn, 1) := by decide +kernel
theorem dX5_server_104 : decode cX5_server 104 = .ok (.aload_n 0, 1) := by decide +kernel
theorem dX5_server_105 : decode cX5_server 105 = .ok (.iload_n 1, 1) := by decide +kernel
theorem dX5_server_106 : decode cX5_server 106 = .ok (.invokevirtual 191, 3) := by decide +kernel
theorem dX5_server_109 : decode cX5_server 109 = .ok (.ireturn, 1) := by decide +kernel
set_option maxRecDepth 20000 in
theorem ggX5_job_X5_isJob : GoodIn wsX5_job wsX5_isJob := goodIn_r _ [5, 6, 7, 8, 4, 9, 14, 15, 16, 17, 18, 19, 20, 21, 22, 23, 24, 25, 26, 27, 28] (by decide +kernel) (by decide +kernel)
set_option maxRecDepth 20000 in
theorem gX5_job_X5_isJob : GoodIn wsX5_job (wsV RX5 86 RX5 yX5_isJob wsX5_isJob) := goodIn_app (goodIn_of _ (by decide +kernel)) ggX5_job_X5_isJob
set_option maxRecDepth 20000 in
theorem ggX5_job_X5_in : GoodIn wsX5_job wsX5_in := goodIn_r _ [9] (by decide +kernel) (by decide +kernel)
set_option maxRecDepth 20000 in
theorem gX5_job_X5_in : GoodIn wsX5_job (va_wsS RX5 35 yX5_in wsX5_in) := goodIn_app (goodIn_of _ (by decide +kernel)) ggX5_job_X5_in
set_option maxRecDepth 20000 in
theorem ggX5_job_X5_of : GoodIn wsX5_job wsX5_of := goodIn_r _ [13, 6, 14, 15, 16, 17, 18, 19, 20, 21, 22, 23, 24, 25, 26, 27, 28] (by decide +kernel) (by decide +kernel)
set_option maxRecDepth 20000 in
theorem gX5_job_X5_of : GoodIn wsX5_job (wsV RX5 43 RX5 yX5_of wsX5_of) := goodIn_app (goodIn_of _ (by decide +kernel)) ggX5_job_X5_of
theorem dX5_job_0 : decode cX5_job 0 = .ok (.aload_n 0, 1) := by decide +kernel
theorem dX5_job_1 : decode cX5_job 1 = .ok (.iload_n 1, 1) := by decide +kernel
theorem dX5_job_2 : decode cX5_job 2 = .ok (.invokevirtual 86, 3) := by decide +kernel
theorem dX5_job_5 : decode cX5_job 5 = .ok (.ifCond .eq 21, 3) := by decide +kernel
theorem dX5_job_8 : decode cX5_job 8 = .ok (.iload_n 2, 1) := by decide +kernel
theorem dX5_job_9 : decode cX5_job 9 = .ok (.iconst 0, 1) := by decide +kernel
theorem dX5_job_10 : decode cX5_job 10 = .ok (.iconst 3, 1) := by decide +kernel
theorem dX5_job_11 : decode cX5_job 11 = .ok (.invokestatic 35, 3) := by decide +kernel
theorem dX5_job_14 : decode cX5_job 14 = .ok (.ifCond .eq 12, 3) := by decide +kernel
theorem dX5_job_17 : decode cX5_job 17 = .ok (.aload_n 0, 1) := by decide +kernel
theorem dX5_job_18 : decode cX5_job 18 = .ok (.iload_n 1, 1) := by decide +kernel
theorem dX5_job_19 : decode cX5_job 19 = .ok (.iload_n 2, 1) := by decide +kernel
theorem dX5_job_20 : decode cX5_job 20 = .ok (.invokevirtual 43, 3) := by decide +kernel
theorem dX5_job_23 : decode cX5_job 23 = .ok (.goto 4, 3) := by decide +kernel
theorem dX5_job_26 : decode cX5_job 26 = .ok (.iconst (-1), 1) := by decide +kernel
theorem dX5_job_27 : decode cX5_job 27 = .ok (.ireturn, 1) := by decide +kernel
set_option maxRecDepth 20000 in
theorem ggX5_leaving_X5_isServer : GoodIn wsX5_leaving wsX5_isServer := goodIn_r _ [5, 6, 7, 8, 4, 9, 18, 19, 20, 21, 22, 23, 24, 25, 26, 27, 28, 29, 30, 31, 32] (by decide +kernel) (by decide +kernel)
set_option maxRecDepth 20000 in
theorem gX5_leaving_X5_isServer : GoodIn wsX5_leaving (wsV RX5 39 RX5 yX5_isServer wsX5_isServer) := goodIn_app (goodIn_of _ (by decide +kernel)) ggX5_leaving_X5_isServer
set_option maxRecDepth 20000 in
theorem ggX5_leaving_X5_leaver : GoodIn wsX5_leaving wsX5_leaver := goodIn_r _ [13, 6, 14, 15, 16, 4, 17, 18, 19, 20, 21, 22, 23, 24, 25, 26, 27, 28, 29, 30, 31, 32] (by decide +kernel) (by decide +kernel)
set_option maxRecDepth 20000 in
theorem gX5_leaving_X5_leaver : GoodIn wsX5_leaving (wsV RX5 145 RX5 yX5_leaver wsX5_leaver) := goodIn_app (goodIn_of _ (by decide +kernel)) ggX5_leaving_X5_leaver
theorem dX5_leaving_0 : decode cX5_leaving 0 = .ok (.aload_n 0, 1) := by decide +kernel
theorem dX5_leaving_1 : decode cX5_leaving 1 = .ok (.iload_n 1, 1) := by decide +kernel
theorem dX5_leaving_2 : decode cX5_leaving 2 = .ok (.invokevirtual 39, 3) := by decide +kernel
theorem dX5_leaving_5 : decode cX5_leaving 5 = .ok (.ifCond .eq 7, 3) := by decide +kernel
theorem dX5_leaving_8 : decode cX5_leaving 8 = .ok (.iload_n 2, 1) := by decide +kernel
theorem dX5_leaving_9 : decode cX5_leaving 9 = .ok (.ifCond .ge 5, 3) := by decide +kernel
theorem dX5_leaving_12 : decode cX5_leaving 12 = .ok (.iconst (-1), 1) := by decide +kernel
theorem dX5_leaving_13 : decode cX5_leaving 13 = .ok (.ireturn, 1) := by decide +kernel
theorem dX5_leaving_14 : decode cX5_leaving 14 = .ok (.iconst 0, 1) := by decide +kernel
theorem dX5_leaving_15 : decode cX5_leaving 15 = .ok (.istore_n 3, 1) := by decide +kernel
theorem dX5_leaving_16 : decode cX5_leaving 16 = .ok (.aload_n 0, 1) := by decide +kernel
theorem dX5_leaving_17 : decode cX5_leaving 17 = .ok (.iload_n 1, 1) := by decide +kernel
theorem dX5_leaving_18 : decode cX5_leaving 18 = .ok (.iconst 0, 1) := by decide +kernel
theorem dX5_leaving_19 : decode cX5_leaving 19 = .ok (.invokevirtual 145, 3) := by decide +kernel
theorem dX5_leaving_22 : decode cX5_leaving 22 = .ok (.istore 4, 2) := by decide +kernel
theorem dX5_leaving_24 : decode cX5_leaving 24 = .ok (.iconst 0, 1) := by decide +kernel
theorem dX5_leaving_25 : decode cX5_leaving 25 = .ok (.istore 5, 2) := by decide +kernel
theorem dX5_leaving_27 : decode cX5_leaving 27 = .ok (.iload 5, 2) := by decide +kernel
theorem dX5_leaving_29 : decode cX5_leaving 29 = .ok (.iload_n 2, 1) := by decide +kernel
theorem dX5_leaving_30 : decode cX5_leaving 30 = .ok (.if_icmp .ge 31, 3) := by decide +kernel
theorem dX5_leaving_33 : decode cX5_leaving 33 = .ok (.iload 4, 2) := by decide +kernel
theorem dX5_leaving_35 : decode cX5_leaving 35 = .ok (.bipush (-9), 2) := by decide +kernel
theorem dX5_leaving_37 : decode cX5_leaving 37 = .ok (.if_icmp .eq 24, 3) := by decide +kernel
theorem dX5_leaving_40 : decode cX5_leaving 40 = .ok (.iload_n 3, 1) := by decide +kernel
theorem dX5_leaving_41 : decode cX5_leaving 41 = .ok (.iconst 1, 1) := by decide +kernel
theorem dX5_leaving_42 : decode cX5_leaving 42 = .ok (.iload 4, 2) := by decide +kernel
theorem dX5_leaving_44 : decode cX5_leaving 44 = .ok (.ishl, 1) := by decide +kernel
theorem dX5_leaving_45 : decode cX5_leaving 45 = .ok (.ior, 1) := by decide +kernel
theorem dX5_leaving_46 : decode cX5_leaving 46 = .ok (.istore_n 3, 1) := by decide +kernel
theorem dX5_leaving_47 : decode cX5_leaving 47 = .ok (.aload_n 0, 1) := by decide +kernel
theorem dX5_leaving_48 : decode cX5_leaving 48 = .ok (.iload_n 1, 1) := by decide +kernel
theorem dX5_leaving_49 : decode cX5_leaving 49 = .ok (.iload_n 3, 1) := by decide +kernel
theorem dX5_leaving_50 : decode cX5_leaving 50 = .ok (.invokevirtual 145, 3) := by decide +kernel
theorem dX5_leaving_53 : decode cX5_leaving 53 = .ok (.istore 4, 2) := by decide +kernel
theorem dX5_leaving_55 : decode cX5_leaving 55 = .ok (.iinc 5 1, 3) := by decide +kernel
theorem dX5_leaving_58 : decode cX5_leaving 58 = .ok (.goto (-31), 3) := by decide +kernel
theorem dX5_leaving_61 : decode cX5_leaving 61 = .ok (.iload 4, 2) := by decide +kernel
theorem dX5_leaving_63 : decode cX5_leaving 63 = .ok (.ireturn, 1) := by decide +kernel
set_option maxRecDepth 20000 in
theorem ggX5_step_X5_in : GoodIn wsX5_step wsX5_in := goodIn_r _ [8] (by decide +kernel) (by decide +kernel)
set_option maxRecDepth 20000 in
theorem gX5_step_X5_in : GoodIn wsX5_step (va_wsS RX5 35 yX5_in wsX5_in) := goodIn_app (goodIn_of _ (by decide +kernel)) ggX5_step_X5_in
set_option maxRecDepth 20000 in
theorem ggX5_step_X5_findsStep : GoodIn wsX5_step wsX5_findsStep := goodIn_r _ [12, 13, 14, 15, 7, 16, 17, 18, 19, 20, 21, 22, 23, 24, 25, 26, 27, 28, 29, 30, 31, 32, 33, 34, 35, 36, 37, 38, 39, 40, 41, 42, 43, 44, 45, 46, 47, 48, 49, 50, 51, 52, 53, 54, 55, 56, 57, 58, 59, 60, 61, 62, 63, 64, 5, 6, 8, 65, 66, 67, 68, 69, 1, 70, 71, 2, 3, 4, 72, 73, 74, 75, 76, 77, 78, 79, 80, 81, 82, 83, 84, 85, 86, 87, 88, 89, 90] (by decide +kernel) (by decide +kernel)
set_option maxRecDepth 20000 in
theorem gX5_step_X5_findsStep : GoodIn wsX5_step (wsV RX5 136 RX5 yX5_findsStep wsX5_findsStep) := goodIn_app (goodIn_of _ (by decide +kernel)) ggX5_step_X5_findsStep
theorem dX5_step_0 : decode cX5_step 0 = .ok (.iload_n 1, 1) := by decide +kernel
theorem dX5_step_1 : decode cX5_step 1 = .ok (.iconst 0, 1) := by decide +kernel
theorem dX5_step_2 : decode cX5_step 2 = .ok (.iconst 3, 1) := by decide +kernel
theorem dX5_step_3 : decode cX5_step 3 = .ok (.invokestatic 35, 3) := by decide +kernel
theorem dX5_step_6 : decode cX5_step 6 = .ok (.ifCond .ne 5, 3) := by decide +kernel
theorem dX5_step_9 : decode cX5_step 9 = .ok (.iconst (-1), 1) := by decide +kernel
theorem dX5_step_10 : decode cX5_step 10 = .ok (.ireturn, 1) := by decide +kernel
theorem dX5_step_11 : decode cX5_step 11 = .ok (.aload_n 0, 1) := by decide +kernel
theorem dX5_step_12 : decode cX5_step 12 = .ok (.invokevirtual 136, 3) := by decide +kernel
theorem dX5_step_15 : decode cX5_step 15 = .ok (.ifCond .ne 6, 3) := by decide +kernel
theorem dX5_step_18 : decode cX5_step 18 = .ok (.bipush (-9), 2) := by decide +kernel
theorem dX5_step_20 : decode cX5_step 20 = .ok (.ireturn, 1) := by decide +kernel
theorem dX5_step_21 : decode cX5_step 21 = .ok (.iload_n 1, 1) := by decide +kernel
theorem dX5_step_22 : decode cX5_step 22 = .ok (.ifCond .ne 10, 3) := by decide +kernel
theorem dX5_step_25 : decode cX5_step 25 = .ok (.aload_n 0, 1) := by decide +kernel
theorem dX5_step_26 : decode cX5_step 26 = .ok (.getfield 107, 3) := by decide +kernel
theorem dX5_step_29 : decode cX5_step 29 = .ok (.goto 31, 3) := by decide +kernel
theorem dX5_step_32 : decode cX5_step 32 = .ok (.iload_n 1, 1) := by decide +kernel
theorem dX5_step_33 : decode cX5_step 33 = .ok (.iconst 1, 1) := by decide +kernel
theorem dX5_step_34 : decode cX5_step 34 = .ok (.if_icmp .ne 10, 3) := by decide +kernel
theorem dX5_step_37 : decode cX5_step 37 = .ok (.aload_n 0, 1) := by decide +kernel
theorem dX5_step_38 : decode cX5_step 38 = .ok (.getfield 114, 3) := by decide +kernel
theorem dX5_step_41 : decode cX5_step 41 = .ok (.goto 19, 3) := by decide +kernel
theorem dX5_step_44 : decode cX5_step 44 = .ok (.iload_n 1, 1) := by decide +kernel
theorem dX5_step_45 : decode cX5_step 45 = .ok (.iconst 2, 1) := by decide +kernel
theorem dX5_step_46 : decode cX5_step 46 = .ok (.if_icmp .ne 10, 3) := by decide +kernel
theorem dX5_step_49 : decode cX5_step 49 = .ok (.aload_n 0, 1) := by decide +kernel
theorem dX5_step_50 : decode cX5_step 50 = .ok (.getfield 117, 3) := by decide +kernel
theorem dX5_step_53 : decode cX5_step 53 = .ok (.goto 7, 3) := by decide +kernel
theorem dX5_step_56 : decode cX5_step 56 = .ok (.aload_n 0, 1) := by decide +kernel
theorem dX5_step_57 : decode cX5_step 57 = .ok (.getfield 120, 3) := by decide +kernel
theorem dX5_step_60 : decode cX5_step 60 = .ok (.ireturn, 1) := by decide +kernel
set_option maxRecDepth 20000 in
theorem ggX5_plan_X5_in : GoodIn wsX5_plan wsX5_in := goodIn_r _ [6] (by decide +kernel) (by decide +kernel)
set_option maxRecDepth 20000 in
theorem gX5_plan_X5_in : GoodIn wsX5_plan (va_wsS RX5 35 yX5_in wsX5_in) := goodIn_app (goodIn_of _ (by decide +kernel)) ggX5_plan_X5_in
set_option maxRecDepth 20000 in
theorem ggX5_plan_X5_aside : GoodIn wsX5_plan wsX5_aside := goodIn_r _ [10, 2, 1, 105, 106, 107, 108, 109, 110, 111, 112, 113, 114, 115, 116, 117, 118, 119] (by decide +kernel) (by decide +kernel)
set_option maxRecDepth 20000 in
theorem gX5_plan_X5_aside : GoodIn wsX5_plan (wsV RX5 73 RX5 yX5_aside wsX5_aside) := goodIn_app (goodIn_of _ (by decide +kernel)) ggX5_plan_X5_aside
set_option maxRecDepth 20000 in
theorem ggX5_plan_X5_evens : GoodIn wsX5_plan wsX5_evens := goodIn_r _ [14, 15, 16, 17, 18, 19, 20, 5, 21, 22, 23, 24, 25, 26, 27, 28, 29, 1, 30, 31, 32, 33, 34, 35, 36, 37, 38, 39, 40, 41, 42, 43, 44, 45, 46, 47, 48, 49, 50, 51, 52, 53, 54, 55, 56, 57, 58, 59, 60, 61, 62, 63, 64, 65, 66, 67, 68, 69, 70, 71, 72, 3, 4, 6, 73, 74, 75, 76, 77, 78, 79, 80, 81, 82, 83, 84, 85, 86, 87, 88, 89, 90, 91, 92, 93, 94, 95, 96, 97, 98, 99, 100, 105, 106, 107, 108, 109, 110, 111, 112, 113, 114, 115, 116, 117, 118, 119] (by decide +kernel) (by decide +kernel)
set_option maxRecDepth 20000 in
theorem gX5_plan_X5_evens : GoodIn wsX5_plan (wsV RX5 139 RX5 yX5_evens wsX5_evens) := goodIn_app (goodIn_of _ (by decide +kernel)) ggX5_plan_X5_evens
set_option maxRecDepth 20000 in
theorem ggX5_plan_X5_greatest : GoodIn wsX5_plan wsX5_greatest := goodIn_r _ [29, 1, 30, 31, 32, 5, 33, 34, 35, 36, 37, 38, 39, 40, 105, 106, 107, 108, 109, 110, 111, 112, 113, 114, 115, 116, 117, 118, 119] (by decide +kernel) (by decide +kernel)
set_option maxRecDepth 20000 in
theorem gX5_plan_X5_greatest : GoodIn wsX5_plan (wsV RX5 67 RX5 yX5_greatest wsX5_greatest) := goodIn_app (goodIn_of _ (by decide +kernel)) ggX5_plan_X5_greatest
set_option maxRecDepth 20000 in
theorem ggX5_plan_X5_areEven : GoodIn wsX5_plan wsX5_areEven := goodIn_r _ [25, 26, 27, 28, 5, 29, 1, 30, 31, 32, 33, 34, 35, 36, 37, 38, 39, 40, 41, 42, 43, 44, 45, 46, 47, 48, 49, 50, 51, 52, 53, 54, 55, 56, 57, 58, 59, 60, 105, 106, 107, 108, 109, 110, 111, 112, 113, 114, 115, 116, 117, 118, 119] (by decide +kernel) (by decide +kernel)
set_option maxRecDepth 20000 in
theorem gX5_plan_X5_areEven : GoodIn wsX5_plan (wsV RX5 123 RX5 yX5_areEven wsX5_areEven) := goodIn_app (goodIn_of _ (by decide +kernel)) ggX5_plan_X5_areEven
set_option maxRecDepth 20000 in
theorem ggX5_plan_X5_layBack : GoodIn wsX5_plan wsX5_layBack := goodIn_r _ [104, 1, 2, 105, 106, 107, 108, 109, 110, 111, 112, 113, 114, 115, 116, 117, 118, 119] (by decide +kernel) (by decide +kernel)
set_option maxRecDepth 20000 in
theorem gX5_plan_X5_layBack : GoodIn wsX5_plan (wsV RX5 185 RX5 yX5_layBack wsX5_layBack) := goodIn_app (goodIn_of _ (by decide +kernel)) ggX5_plan_X5_layBack
theorem dX5_plan_0 : decode cX5_plan 0 = .ok (.iload_n 1, 1) := by decide +kernel
theorem dX5_plan_1 : decode cX5_plan 1 = .ok (.iconst 0, 1) := by decide +kernel
theorem dX5_plan_2 : decode cX5_plan 2 = .ok (.iconst 4, 1) := by decide +kernel
theorem dX5_plan_3 : decode cX5_plan 3 = .ok (.invokestatic 35, 3) := by decide +kernel
theorem dX5_plan_6 : decode cX5_plan 6 = .ok (.ifCond .ne 5, 3) := by decide +kernel
theorem dX5_plan_9 : decode cX5_plan 9 = .ok (.iconst (-1), 1) := by decide +kernel
theorem dX5_plan_10 : decode cX5_plan 10 = .ok (.ireturn, 1) := by decide +kernel
theorem dX5_plan_11 : decode cX5_plan 11 = .ok (.aload_n 0, 1) := by decide +kernel
theorem dX5_plan_12 : decode cX5_plan 12 = .ok (.invokevirtual 73, 3) := by decide +kernel
theorem dX5_plan_15 : decode cX5_plan 15 = .ok (.aload_n 0, 1) := by decide +kernel
theorem dX5_plan_16 : decode cX5_plan 16 = .ok (.bipush 30, 2) := by decide +kernel
theorem dX5_plan_18 : decode cX5_plan 18 = .ok (.invokevirtual 139, 3) := by decide +kernel
theorem dX5_plan_21 : decode cX5_plan 21 = .ok (.istore_n 2, 1) := by decide +kernel
theorem dX5_plan_22 : decode cX5_plan 22 = .ok (.iload_n 1, 1) := by decide +kernel
theorem dX5_plan_23 : decode cX5_plan 23 = .ok (.ifCond .ne 7, 3) := by decide +kernel
theorem dX5_plan_26 : decode cX5_plan 26 = .ok (.iload_n 2, 1) := by decide +kernel
theorem dX5_plan_27 : decode cX5_plan 27 = .ok (.goto 69, 3) := by decide +kernel
theorem dX5_plan_30 : decode cX5_plan 30 = .ok (.iload_n 1, 1) := by decide +kernel
theorem dX5_plan_31 : decode cX5_plan 31 = .ok (.iconst 1, 1) := by decide +kernel
theorem dX5_plan_32 : decode cX5_plan 32 = .ok (.if_icmp .ne 19, 3) := by decide +kernel
theorem dX5_plan_35 : decode cX5_plan 35 = .ok (.aload_n 0, 1) := by decide +kernel
theorem dX5_plan_36 : decode cX5_plan 36 = .ok (.getfield 7, 3) := by decide +kernel
theorem dX5_plan_39 : decode cX5_plan 39 = .ok (.iconst 5, 1) := by decide +kernel
theorem dX5_plan_40 : decode cX5_plan 40 = .ok (.iaload, 1) := by decide +kernel
theorem dX5_plan_41 : decode cX5_plan 41 = .ok (.aload_n 0, 1) := by decide +kernel
theorem dX5_plan_42 : decode cX5_plan 42 = .ok (.getfield 16, 3) := by decide +kernel
theorem dX5_plan_45 : decode cX5_plan 45 = .ok (.iconst 5, 1) := by decide +kernel
theorem dX5_plan_46 : decode cX5_plan 46 = .ok (.iaload, 1) := by decide +kernel
theorem dX5_plan_47 : decode cX5_plan 47 = .ok (.isub, 1) := by decide +kernel
theorem dX5_plan_48 : decode cX5_plan 48 = .ok (.goto 48, 3) := by decide +kernel
theorem dX5_plan_51 : decode cX5_plan 51 = .ok (.iload_n 1, 1) := by decide +kernel
theorem dX5_plan_52 : decode cX5_plan 52 = .ok (.iconst 2, 1) := by decide +kernel
theorem dX5_plan_53 : decode cX5_plan 53 = .ok (.if_icmp .ne 19, 3) := by decide +kernel
theorem dX5_plan_56 : decode cX5_plan 56 = .ok (.aload_n 0, 1) := by decide +kernel
theorem dX5_plan_57 : decode cX5_plan 57 = .ok (.getfield 16, 3) := by decide +kernel
theorem dX5_plan_60 : decode cX5_plan 60 = .ok (.iconst 3, 1) := by decide +kernel
theorem dX5_plan_61 : decode cX5_plan 61 = .ok (.iaload, 1) := by decide +kernel
theorem dX5_plan_62 : decode cX5_plan 62 = .ok (.aload_n 0, 1) := by decide +kernel
theorem dX5_plan_63 : decode cX5_plan 63 = .ok (.getfield 7, 3) := by decide +kernel
theorem dX5_plan_66 : decode cX5_plan 66 = .ok (.iconst 3, 1) := by decide +kernel
theorem dX5_plan_67 : decode cX5_plan 67 = .ok (.iaload, 1) := by decide +kernel
theorem dX5_plan_68 : decode cX5_plan 68 = .ok (.isub, 1) := by decide +kernel
theorem dX5_plan_69 : decode cX5_plan 69 = .ok (.goto 27, 3) := by decide +kernel
theorem dX5_plan_72 : decode cX5_plan 72 = .ok (.iload_n 1, 1) := by decide +kernel
theorem dX5_plan_73 : decode cX5_plan 73 = .ok (.iconst 3, 1) := by decide +kernel
theorem dX5_plan_74 : decode cX5_plan 74 = .ok (.if_icmp .ne 10, 3) := by decide +kernel
theorem dX5_plan_77 : decode cX5_plan 77 = .ok (.aload_n 0, 1) := by decide +kernel
theorem dX5_plan_78 : decode cX5_plan 78 = .ok (.invokevirtual 67, 3) := by decide +kernel
theorem dX5_plan_81 : decode cX5_plan 81 = .ok (.goto 15, 3) := by decide +kernel
theorem dX5_plan_84 : decode cX5_plan 84 = .ok (.aload_n 0, 1) := by decide +kernel
theorem dX5_plan_85 : decode cX5_plan 85 = .ok (.invokevirtual 123, 3) := by decide +kernel
theorem dX5_plan_88 : decode cX5_plan 88 = .ok (.ifCond .eq 7, 3) := by decide +kernel
theorem dX5_plan_91 : decode cX5_plan 91 = .ok (.iconst 1, 1) := by decide +kernel
theorem dX5_plan_92 : decode cX5_plan 92 = .ok (.goto 4, 3) := by decide +kernel
theorem dX5_plan_95 : decode cX5_plan 95 = .ok (.iconst 0, 1) := by decide +kernel
theorem dX5_plan_96 : decode cX5_plan 96 = .ok (.istore_n 3, 1) := by decide +kernel
theorem dX5_plan_97 : decode cX5_plan 97 = .ok (.aload_n 0, 1) := by decide +kernel
theorem dX5_plan_98 : decode cX5_plan 98 = .ok (.invokevirtual 185, 3) := by decide +kernel
theorem dX5_plan_101 : decode cX5_plan 101 = .ok (.iload_n 3, 1) := by decide +kernel
theorem dX5_plan_102 : decode cX5_plan 102 = .ok (.ireturn, 1) := by decide +kernel
set_option maxRecDepth 20000 in
theorem ggX5_loadsMove_X5_of : GoodIn wsX5_loadsMove wsX5_of := goodIn_r _ [6, 7, 8, 9, 10, 11, 12, 13, 14, 15, 16, 17, 18, 19, 20, 21, 22] (by decide +kernel) (by decide +kernel)
set_option maxRecDepth 20000 in
theorem gX5_loadsMove_X5_of : GoodIn wsX5_loadsMove (wsV RX5 43 RX5 yX5_of wsX5_of) := goodIn_app (goodIn_of _ (by decide +kernel)) ggX5_loadsMove_X5_of
theorem dX5_loadsMove_0 : decode cX5_loadsMove 0 = .ok (.aload_n 0, 1) := by decide +kernel
theorem dX5_loadsMove_1 : decode cX5_loadsMove 1 = .ok (.getfield 25, 3) := by decide +kernel
theorem dX5_loadsMove_4 : decode cX5_loadsMove 4 = .ok (.iload_n 2, 1) := by decide +kernel
theorem dX5_loadsMove_5 : decode cX5_loadsMove 5 = .ok (.dup2, 1) := by decide +kernel
theorem dX5_loadsMove_6 : decode cX5_loadsMove 6 = .ok (.iaload, 1) := by decide +kernel
theorem dX5_loadsMove_7 : decode cX5_loadsMove 7 = .ok (.aload_n 0, 1) := by decide +kernel
theorem dX5_loadsMove_8 : decode cX5_loadsMove 8 = .ok (.iload_n 1, 1) := by decide +kernel
theorem dX5_loadsMove_9 : decode cX5_loadsMove 9 = .ok (.iconst 0, 1) := by decide +kernel
theorem dX5_loadsMove_10 : decode cX5_loadsMove 10 = .ok (.invokevirtual 43, 3) := by decide +kernel
theorem dX5_loadsMove_13 : decode cX5_loadsMove 13 = .ok (.isub, 1) := by decide +kernel
theorem dX5_loadsMove_14 : decode cX5_loadsMove 14 = .ok (.iastore, 1) := by decide +kernel
theorem dX5_loadsMove_15 : decode cX5_loadsMove 15 = .ok (.aload_n 0, 1) := by decide +kernel
theorem dX5_loadsMove_16 : decode cX5_loadsMove 16 = .ok (.getfield 25, 3) := by decide +kernel
theorem dX5_loadsMove_19 : decode cX5_loadsMove 19 = .ok (.iload_n 3, 1) := by decide +kernel
theorem dX5_loadsMove_20 : decode cX5_loadsMove 20 = .ok (.dup2, 1) := by decide +kernel
theorem dX5_loadsMove_21 : decode cX5_loadsMove 21 = .ok (.iaload, 1) := by decide +kernel
theorem dX5_loadsMove_22 : decode cX5_loadsMove 22 = .ok (.aload_n 0, 1) := by decide +kernel
theorem dX5_loadsMove_23 : decode cX5_loadsMove 23 = .ok (.iload_n 1, 1) := by decide +kernel
theorem dX5_loadsMove_24 : decode cX5_loadsMove 24 = .ok (.iconst 0, 1) := by decide +kernel
theorem dX5_loadsMove_25 : decode cX5_loadsMove 25 = .ok (.invokevirtual 43, 3) := by decide +kernel
theorem dX5_loadsMove_28 : decode cX5_loadsMove 28 = .ok (.iadd, 1) := by decide +kernel
theorem dX5_loadsMove_29 : decode cX5_loadsMove 29 = .ok (.iastore, 1) := by decide +kernel
theorem dX5_loadsMove_30 : decode cX5_loadsMove 30 = .ok (.return_, 1) := by decide +kernel
theorem dX5_areBelow_0 : decode cX5_areBelow 0 = .ok (.iconst 1, 1) := by decide +kernel
theorem dX5_areBelow_1 : decode cX5_areBelow 1 = .ok (.istore_n 2, 1) := by decide +kernel
theorem dX5_areBelow_2 : decode cX5_areBelow 2 = .ok (.iconst 0, 1) := by decide +kernel
theorem dX5_areBelow_3 : decode cX5_areBelow 3 = .ok (.istore_n 3, 1) := by decide +kernel
theorem dX5_areBelow_4 : decode cX5_areBelow 4 = .ok (.iload_n 3, 1) := by decide +kernel
theorem dX5_areBelow_5 : decode cX5_areBelow 5 = .ok (.bipush 6, 2) := by decide +kernel
theorem dX5_areBelow_7 : decode cX5_areBelow 7 = .ok (.if_icmp .ge 29, 3) := by decide +kernel
theorem dX5_areBelow_10 : decode cX5_areBelow 10 = .ok (.iload_n 2, 1) := by decide +kernel
theorem dX5_areBelow_11 : decode cX5_areBelow 11 = .ok (.ifCond .eq 17, 3) := by decide +kernel
theorem dX5_areBelow_14 : decode cX5_areBelow 14 = .ok (.aload_n 0, 1) := by decide +kernel
theorem dX5_areBelow_15 : decode cX5_areBelow 15 = .ok (.getfield 25, 3) := by decide +kernel
theorem dX5_areBelow_18 : decode cX5_areBelow 18 = .ok (.iload_n 3, 1) := by decide +kernel
theorem dX5_areBelow_19 : decode cX5_areBelow 19 = .ok (.iaload, 1) := by decide +kernel
theorem dX5_areBelow_20 : decode cX5_areBelow 20 = .ok (.iload_n 1, 1) := by decide +kernel
theorem dX5_areBelow_21 : decode cX5_areBelow 21 = .ok (.if_icmp .gt 7, 3) := by decide +kernel
theorem dX5_areBelow_24 : decode cX5_areBelow 24 = .ok (.iconst 1, 1) := by decide +kernel
theorem dX5_areBelow_25 : decode cX5_areBelow 25 = .ok (.goto 4, 3) := by decide +kernel
theorem dX5_areBelow_28 : decode cX5_areBelow 28 = .ok (.iconst 0, 1) := by decide +kernel
theorem dX5_areBelow_29 : decode cX5_areBelow 29 = .ok (.istore_n 2, 1) := by decide +kernel
theorem dX5_areBelow_30 : decode cX5_areBelow 30 = .ok (.iinc 3 1, 3) := by decide +kernel
theorem dX5_areBelow_33 : decode cX5_areBelow 33 = .ok (.goto (-29), 3) := by decide +kernel
theorem dX5_areBelow_36 : decode cX5_areBelow 36 = .ok (.iload_n 2, 1) := by decide +kernel
theorem dX5_areBelow_37 : decode cX5_areBelow 37 = .ok (.ireturn, 1) := by decide +kernel
set_option maxRecDepth 20000 in
theorem ggX5_triesMoves_X5_of : GoodIn wsX5_triesMoves wsX5_of := goodIn_r _ [7, 1, 28, 29, 30, 31, 32, 33, 34, 35, 36, 37, 38, 39, 40, 41, 42] (by decide +kernel) (by decide +kernel)
set_option maxRecDepth 20000 in
theorem gX5_triesMoves_X5_of : GoodIn wsX5_triesMoves (wsV RX5 43 RX5 yX5_of wsX5_of) := goodIn_app (goodIn_of _ (by decide +kernel)) ggX5_triesMoves_X5_of
set_option maxRecDepth 20000 in
theorem ggX5_triesMoves_X5_isOpen : GoodIn wsX5_triesMoves wsX5_isOpen := goodIn_r _ [11, 1, 12, 13, 14, 6, 15, 16, 17, 18, 28, 29, 30, 31, 32, 33, 34, 35, 36, 37, 38, 39, 40, 41, 42] (by decide +kernel) (by decide +kernel)
set_option maxRecDepth 20000 in
theorem gX5_triesMoves_X5_isOpen : GoodIn wsX5_triesMoves (wsV RX5 79 RX5 yX5_isOpen wsX5_isOpen) := goodIn_app (goodIn_of _ (by decide +kernel)) ggX5_triesMoves_X5_isOpen
set_option maxRecDepth 20000 in
theorem ggX5_triesMoves_X5_loadsMove : GoodIn wsX5_triesMoves wsX5_loadsMove := goodIn_r _ [22, 23, 3, 4, 5, 6, 7, 1, 28, 29, 30, 31, 32, 33, 34, 35, 36, 37, 38, 39, 40, 41, 42] (by decide +kernel) (by decide +kernel)
set_option maxRecDepth 20000 in
theorem gX5_triesMoves_X5_loadsMove : GoodIn wsX5_triesMoves (wsV RX5 194 RX5 yX5_loadsMove wsX5_loadsMove) := goodIn_app (goodIn_of _ (by decide +kernel)) ggX5_triesMoves_X5_loadsMove
set_option maxRecDepth 20000 in
theorem ggX5_triesMoves_X5_areBelow : GoodIn wsX5_triesMoves wsX5_areBelow := goodIn_r _ [27, 23, 28, 29, 30, 31, 32, 33, 34, 35, 36, 37, 38, 39, 40, 41, 42] (by decide +kernel) (by decide +kernel)
set_option maxRecDepth 20000 in
theorem gX5_triesMoves_X5_areBelow : GoodIn wsX5_triesMoves (wsV RX5 198 RX5 yX5_areBelow wsX5_areBelow) := goodIn_app (goodIn_of _ (by decide +kernel)) ggX5_triesMoves_X5_areBelow
theorem dX5_triesMoves_0 : decode cX5_triesMoves 0 = .ok (.iload_n 1, 1) := by decide +kernel
theorem dX5_triesMoves_1 : decode cX5_triesMoves 1 = .ok (.istore 4, 2) := by decide +kernel
theorem dX5_triesMoves_3 : decode cX5_triesMoves 3 = .ok (.iload 4, 2) := by decide +kernel
theorem dX5_triesMoves_5 : decode cX5_triesMoves 5 = .ok (.aload_n 0, 1) := by decide +kernel
theorem dX5_triesMoves_6 : decode cX5_triesMoves 6 = .ok (.getfield 7, 3) := by decide +kernel
theorem dX5_triesMoves_9 : decode cX5_triesMoves 9 = .ok (.iconst 2, 1) := by decide +kernel
theorem dX5_triesMoves_10 : decode cX5_triesMoves 10 = .ok (.iaload, 1) := by decide +kernel
theorem dX5_triesMoves_11 : decode cX5_triesMoves 11 = .ok (.if_icmp .ge 131, 3) := by decide +kernel
theorem dX5_triesMoves_14 : decode cX5_triesMoves 14 = .ok (.aload_n 0, 1) := by decide +kernel
theorem dX5_triesMoves_15 : decode cX5_triesMoves 15 = .ok (.iload 4, 2) := by decide +kernel
theorem dX5_triesMoves_17 : decode cX5_triesMoves 17 = .ok (.iconst 2, 1) := by decide +kernel
theorem dX5_triesMoves_18 : decode cX5_triesMoves 18 = .ok (.invokevirtual 43, 3) := by decide +kernel
theorem dX5_triesMoves_21 : decode cX5_triesMoves 21 = .ok (.istore 5, 2) := by decide +kernel
theorem dX5_triesMoves_23 : decode cX5_triesMoves 23 = .ok (.iconst 0, 1) := by decide +kernel
theorem dX5_triesMoves_24 : decode cX5_triesMoves 24 = .ok (.istore 6, 2) := by decide +kernel
theorem dX5_triesMoves_26 : decode cX5_triesMoves 26 = .ok (.iload 6, 2) := by decide +kernel
theorem dX5_triesMoves_28 : decode cX5_triesMoves 28 = .ok (.aload_n 0, 1) := by decide +kernel
theorem dX5_triesMoves_29 : decode cX5_triesMoves 29 = .ok (.getfield 7, 3) := by decide +kernel
theorem dX5_triesMoves_32 : decode cX5_triesMoves 32 = .ok (.iconst 0, 1) := by decide +kernel
theorem dX5_triesMoves_33 : decode cX5_triesMoves 33 = .ok (.iaload, 1) := by decide +kernel
theorem dX5_triesMoves_34 : decode cX5_triesMoves 34 = .ok (.if_icmp .ge 102, 3) := by decide +kernel
theorem dX5_triesMoves_37 : decode cX5_triesMoves 37 = .ok (.iload 5, 2) := by decide +kernel
theorem dX5_triesMoves_39 : decode cX5_triesMoves 39 = .ok (.bipush (-9), 2) := by decide +kernel
theorem dX5_triesMoves_41 : decode cX5_triesMoves 41 = .ok (.if_icmp .eq 95, 3) := by decide +kernel
theorem dX5_triesMoves_44 : decode cX5_triesMoves 44 = .ok (.iload 6, 2) := by decide +kernel
theorem dX5_triesMoves_46 : decode cX5_triesMoves 46 = .ok (.iload 5, 2) := by decide +kernel
theorem dX5_triesMoves_48 : decode cX5_triesMoves 48 = .ok (.if_icmp .eq 82, 3) := by decide +kernel
theorem dX5_triesMoves_51 : decode cX5_triesMoves 51 = .ok (.aload_n 0, 1) := by decide +kernel
theorem dX5_triesMoves_52 : decode cX5_triesMoves 52 = .ok (.iload 6, 2) := by decide +kernel
theorem dX5_triesMoves_54 : decode cX5_triesMoves 54 = .ok (.invokevirtual 79, 3) := by decide +kernel
theorem dX5_triesMoves_57 : decode cX5_triesMoves 57 = .ok (.ifCond .eq 73, 3) := by decide +kernel
theorem dX5_triesMoves_60 : decode cX5_triesMoves 60 = .ok (.aload_n 0, 1) := by decide +kernel
theorem dX5_triesMoves_61 : decode cX5_triesMoves 61 = .ok (.iload 4, 2) := by decide +kernel
theorem dX5_triesMoves_63 : decode cX5_triesMoves 63 = .ok (.iload 5, 2) := by decide +kernel
theorem dX5_triesMoves_65 : decode cX5_triesMoves 65 = .ok (.iload 6, 2) := by decide +kernel
theorem dX5_triesMoves_67 : decode cX5_triesMoves 67 = .ok (.invokevirtual 194, 3) := by decide +kernel
theorem dX5_triesMoves_70 : decode cX5_triesMoves 70 = .ok (.iload_n 2, 1) := by decide +kernel
theorem dX5_triesMoves_71 : decode cX5_triesMoves 71 = .ok (.aload_n 0, 1) := by decide +kernel
theorem dX5_triesMoves_72 : decode cX5_triesMoves 72 = .ok (.iload 4, 2) := by decide +kernel
theorem dX5_triesMoves_74 : decode cX5_triesMoves 74 = .ok (.iconst 1, 1) := by decide +kernel
theorem dX5_triesMoves_75 : decode cX5_triesMoves 75 = .ok (.invokevirtual 43, 3) := by decide +kernel
theorem dX5_triesMoves_78 : decode cX5_triesMoves 78 = .ok (.iadd, 1) := by decide +kernel
theorem dX5_triesMoves_79 : decode cX5_triesMoves 79 = .ok (.istore 7, 2) := by decide +kernel
theorem dX5_triesMoves_81 : decode cX5_triesMoves 81 = .ok (.aload_n 0, 1) := by decide +kernel
theorem dX5_triesMoves_82 : decode cX5_triesMoves 82 = .ok (.aload_n 0, 1) := by decide +kernel
theorem dX5_triesMoves_83 : decode cX5_triesMoves 83 = .ok (.iload_n 3, 1) := by decide +kernel
theorem dX5_triesMoves_84 : decode cX5_triesMoves 84 = .ok (.invokevirtual 198, 3) := by decide +kernel
theorem dX5_triesMoves_87 : decode cX5_triesMoves 87 = .ok (.ifCond .eq 26, 3) := by decide +kernel
theorem dX5_triesMoves_90 : decode cX5_triesMoves 90 = .ok (.aload_n 0, 1) := by decide +kernel
theorem dX5_triesMoves_91 : decode cX5_triesMoves 91 = .ok (.getfield 201, 3) := by decide +kernel
theorem dX5_triesMoves_94 : decode cX5_triesMoves 94 = .ok (.bipush (-9), 2) := by decide +kernel
theorem dX5_triesMoves_96 : decode cX5_triesMoves 96 = .ok (.if_icmp .eq 12, 3) := by decide +kernel
theorem dX5_triesMoves_99 : decode cX5_triesMoves 99 = .ok (.iload 7, 2) := by decide +kernel
theorem dX5_triesMoves_101 : decode cX5_triesMoves 101 = .ok (.aload_n 0, 1) := by decide +kernel
theorem dX5_triesMoves_102 : decode cX5_triesMoves 102 = .ok (.getfield 201, 3) := by decide +kernel
theorem dX5_triesMoves_105 : decode cX5_triesMoves 105 = .ok (.if_icmp .ge 8, 3) := by decide +kernel
theorem dX5_triesMoves_108 : decode cX5_triesMoves 108 = .ok (.iload 7, 2) := by decide +kernel
theorem dX5_triesMoves_110 : decode cX5_triesMoves 110 = .ok (.goto 7, 3) := by decide +kernel
theorem dX5_triesMoves_113 : decode cX5_triesMoves 113 = .ok (.aload_n 0, 1) := by decide +kernel
theorem dX5_triesMoves_114 : decode cX5_triesMoves 114 = .ok (.getfield 201, 3) := by decide +kernel
theorem dX5_triesMoves_117 : decode cX5_triesMoves 117 = .ok (.putfield 201, 3) := by decide +kernel
theorem dX5_triesMoves_120 : decode cX5_triesMoves 120 = .ok (.aload_n 0, 1) := by decide +kernel
theorem dX5_triesMoves_121 : decode cX5_triesMoves 121 = .ok (.iload 4, 2) := by decide +kernel
theorem dX5_triesMoves_123 : decode cX5_triesMoves 123 = .ok (.iload 6, 2) := by decide +kernel
theorem dX5_triesMoves_125 : decode cX5_triesMoves 125 = .ok (.iload 5, 2) := by decide +kernel
theorem dX5_triesMoves_127 : decode cX5_triesMoves 127 = .ok (.invokevirtual 194, 3) := by decide +kernel
theorem dX5_triesMoves_130 : decode cX5_triesMoves 130 = .ok (.iinc 6 1, 3) := by decide +kernel
theorem dX5_triesMoves_133 : decode cX5_triesMoves 133 = .ok (.goto (-107), 3) := by decide +kernel
theorem dX5_triesMoves_136 : decode cX5_triesMoves 136 = .ok (.iinc 4 1, 3) := by decide +kernel
theorem dX5_triesMoves_139 : decode cX5_triesMoves 139 = .ok (.goto (-136), 3) := by decide +kernel
theorem dX5_triesMoves_142 : decode cX5_triesMoves 142 = .ok (.return_, 1) := by decide +kernel
set_option maxRecDepth 20000 in
theorem ggX5_fewest_X5_in : GoodIn wsX5_fewest wsX5_in := goodIn_r _ [7] (by decide +kernel) (by decide +kernel)
set_option maxRecDepth 20000 in
theorem gX5_fewest_X5_in : GoodIn wsX5_fewest (va_wsS RX5 35 yX5_in wsX5_in) := goodIn_app (goodIn_of _ (by decide +kernel)) ggX5_fewest_X5_in
set_option maxRecDepth 20000 in
theorem ggX5_fewest_X5_areEven : GoodIn wsX5_fewest wsX5_areEven := goodIn_r _ [11, 12, 13, 14, 6, 15, 2, 16, 17, 18, 19, 20, 21, 22, 23, 24, 25, 26, 27, 28, 29, 30, 31, 32, 33, 34, 35, 36, 37, 38, 39, 40, 41, 42, 43, 44, 45, 46, 67, 68, 69, 70, 71, 72, 73, 74, 75, 76, 77, 78, 79, 80, 81] (by decide +kernel) (by decide +kernel)
set_option maxRecDepth 20000 in
theorem gX5_fewest_X5_areEven : GoodIn wsX5_fewest (wsV RX5 123 RX5 yX5_areEven wsX5_areEven) := goodIn_app (goodIn_of _ (by decide +kernel)) ggX5_fewest_X5_areEven
set_option maxRecDepth 20000 in
theorem ggX5_fewest_X5_target : GoodIn wsX5_fewest wsX5_target := goodIn_r _ [30, 2, 31, 32, 33, 6, 34, 35, 36, 37, 38, 20, 21, 22, 23, 24, 25, 26, 39, 40, 41, 42, 43, 44, 45, 46, 67, 68, 69, 70, 71, 72, 73, 74, 75, 76, 77, 78, 79, 80, 81] (by decide +kernel) (by decide +kernel)
set_option maxRecDepth 20000 in
theorem gX5_fewest_X5_target : GoodIn wsX5_fewest (wsV RX5 70 RX5 yX5_target wsX5_target) := goodIn_app (goodIn_of _ (by decide +kernel)) ggX5_fewest_X5_target
set_option maxRecDepth 20000 in
theorem ggX5_fewest_X5_load : GoodIn wsX5_fewest wsX5_load := goodIn_r _ [19, 2, 20, 21, 22, 6, 23, 67, 68, 69, 70, 71, 72, 73, 74, 75, 76, 77, 78, 79, 80, 81] (by decide +kernel) (by decide +kernel)
set_option maxRecDepth 20000 in
theorem gX5_fewest_X5_load : GoodIn wsX5_fewest (wsV RX5 50 RX5 yX5_load wsX5_load) := goodIn_app (goodIn_of _ (by decide +kernel)) ggX5_fewest_X5_load
set_option maxRecDepth 20000 in
theorem ggX5_fewest_X5_triesMoves : GoodIn wsX5_fewest wsX5_triesMoves := goodIn_r _ [50, 2, 3, 20, 21, 22, 6, 23, 51, 52, 53, 54, 55, 56, 57, 58, 4, 5, 7, 59, 60, 61, 62, 1, 63, 64, 65, 66, 67, 68, 69, 70, 71, 72, 73, 74, 75, 76, 77, 78, 79, 80, 81] (by decide +kernel) (by decide +kernel)
set_option maxRecDepth 20000 in
theorem gX5_fewest_X5_triesMoves : GoodIn wsX5_fewest (wsV RX5 204 RX5 yX5_triesMoves wsX5_triesMoves) := goodIn_app (goodIn_of _ (by decide +kernel)) ggX5_fewest_X5_triesMoves
set_option maxRecDepth 20000 in
theorem ggX5_fewest_X5_of : GoodIn wsX5_fewest wsX5_of := goodIn_r _ [23, 2, 67, 68, 69, 70, 71, 72, 73, 74, 75, 76, 77, 78, 79, 80, 81] (by decide +kernel) (by decide +kernel)
set_option maxRecDepth 20000 in
theorem gX5_fewest_X5_of : GoodIn wsX5_fewest (wsV RX5 43 RX5 yX5_of wsX5_of) := goodIn_app (goodIn_of _ (by decide +kernel)) ggX5_fewest_X5_of
set_option maxRecDepth 20000 in
theorem ggX5_fewest_X5_isOpen : GoodIn wsX5_fewest wsX5_isOpen := goodIn_r _ [54, 2, 55, 56, 57, 6, 58, 4, 5, 7, 67, 68, 69, 70, 71, 72, 73, 74, 75, 76, 77, 78, 79, 80, 81] (by decide +kernel) (by decide +kernel)
set_option maxRecDepth 20000 in
theorem gX5_fewest_X5_isOpen : GoodIn wsX5_fewest (wsV RX5 79 RX5 yX5_isOpen wsX5_isOpen) := goodIn_app (goodIn_of _ (by decide +kernel)) ggX5_fewest_X5_isOpen
set_option maxRecDepth 20000 in
theorem ggX5_fewest_X5_loadsMove : GoodIn wsX5_fewest wsX5_loadsMove := goodIn_r _ [62, 1, 20, 21, 22, 6, 23, 2, 67, 68, 69, 70, 71, 72, 73, 74, 75, 76, 77, 78, 79, 80, 81] (by decide +kernel) (by decide +kernel)
set_option maxRecDepth 20000 in
theorem gX5_fewest_X5_loadsMove : GoodIn wsX5_fewest (wsV RX5 194 RX5 yX5_loadsMove wsX5_loadsMove) := goodIn_app (goodIn_of _ (by decide +kernel)) ggX5_fewest_X5_loadsMove
theorem dX5_fewest_0 : decode cX5_fewest 0 = .ok (.iload_n 1, 1) := by decide +kernel
theorem dX5_fewest_1 : decode cX5_fewest 1 = .ok (.iconst 0, 1) := by decide +kernel
theorem dX5_fewest_2 : decode cX5_fewest 2 = .ok (.iconst 1, 1) := by decide +kernel
theorem dX5_fewest_3 : decode cX5_fewest 3 = .ok (.invokestatic 35, 3) := by decide +kernel
theorem dX5_fewest_6 : decode cX5_fewest 6 = .ok (.ifCond .ne 5, 3) := by decide +kernel
theorem dX5_fewest_9 : decode cX5_fewest 9 = .ok (.iconst (-1), 1) := by decide +kernel
theorem dX5_fewest_10 : decode cX5_fewest 10 = .ok (.ireturn, 1) := by decide +kernel
theorem dX5_fewest_11 : decode cX5_fewest 11 = .ok (.aload_n 0, 1) := by decide +kernel
theorem dX5_fewest_12 : decode cX5_fewest 12 = .ok (.invokevirtual 123, 3) := by decide +kernel
theorem dX5_fewest_15 : decode cX5_fewest 15 = .ok (.ifCond .eq 5, 3) := by decide +kernel
theorem dX5_fewest_18 : decode cX5_fewest 18 = .ok (.iconst 0, 1) := by decide +kernel
theorem dX5_fewest_19 : decode cX5_fewest 19 = .ok (.ireturn, 1) := by decide +kernel
theorem dX5_fewest_20 : decode cX5_fewest 20 = .ok (.aload_n 0, 1) := by decide +kernel
theorem dX5_fewest_21 : decode cX5_fewest 21 = .ok (.invokevirtual 70, 3) := by decide +kernel
theorem dX5_fewest_24 : decode cX5_fewest 24 = .ok (.istore_n 2, 1) := by decide +kernel
theorem dX5_fewest_25 : decode cX5_fewest 25 = .ok (.iconst 0, 1) := by decide +kernel
theorem dX5_fewest_26 : decode cX5_fewest 26 = .ok (.istore_n 3, 1) := by decide +kernel
theorem dX5_fewest_27 : decode cX5_fewest 27 = .ok (.iload_n 3, 1) := by decide +kernel
theorem dX5_fewest_28 : decode cX5_fewest 28 = .ok (.bipush 6, 2) := by decide +kernel
theorem dX5_fewest_30 : decode cX5_fewest 30 = .ok (.if_icmp .ge 34, 3) := by decide +kernel
theorem dX5_fewest_33 : decode cX5_fewest 33 = .ok (.aload_n 0, 1) := by decide +kernel
theorem dX5_fewest_34 : decode cX5_fewest 34 = .ok (.getfield 25, 3) := by decide +kernel
theorem dX5_fewest_37 : decode cX5_fewest 37 = .ok (.iload_n 3, 1) := by decide +kernel
theorem dX5_fewest_38 : decode cX5_fewest 38 = .ok (.iload_n 3, 1) := by decide +kernel
theorem dX5_fewest_39 : decode cX5_fewest 39 = .ok (.aload_n 0, 1) := by decide +kernel
theorem dX5_fewest_40 : decode cX5_fewest 40 = .ok (.getfield 7, 3) := by decide +kernel
theorem dX5_fewest_43 : decode cX5_fewest 43 = .ok (.iconst 0, 1) := by decide +kernel
theorem dX5_fewest_44 : decode cX5_fewest 44 = .ok (.iaload, 1) := by decide +kernel
theorem dX5_fewest_45 : decode cX5_fewest 45 = .ok (.if_icmp .ge 11, 3) := by decide +kernel
theorem dX5_fewest_48 : decode cX5_fewest 48 = .ok (.aload_n 0, 1) := by decide +kernel
theorem dX5_fewest_49 : decode cX5_fewest 49 = .ok (.iload_n 3, 1) := by decide +kernel
theorem dX5_fewest_50 : decode cX5_fewest 50 = .ok (.invokevirtual 50, 3) := by decide +kernel
theorem dX5_fewest_53 : decode cX5_fewest 53 = .ok (.goto 4, 3) := by decide +kernel
theorem dX5_fewest_56 : decode cX5_fewest 56 = .ok (.iconst 0, 1) := by decide +kernel
theorem dX5_fewest_57 : decode cX5_fewest 57 = .ok (.iastore, 1) := by decide +kernel
theorem dX5_fewest_58 : decode cX5_fewest 58 = .ok (.iinc 3 1, 3) := by decide +kernel
theorem dX5_fewest_61 : decode cX5_fewest 61 = .ok (.goto (-34), 3) := by decide +kernel
theorem dX5_fewest_64 : decode cX5_fewest 64 = .ok (.aload_n 0, 1) := by decide +kernel
theorem dX5_fewest_65 : decode cX5_fewest 65 = .ok (.bipush (-9), 2) := by decide +kernel
theorem dX5_fewest_67 : decode cX5_fewest 67 = .ok (.putfield 201, 3) := by decide +kernel
theorem dX5_fewest_70 : decode cX5_fewest 70 = .ok (.aload_n 0, 1) := by decide +kernel
theorem dX5_fewest_71 : decode cX5_fewest 71 = .ok (.iconst 0, 1) := by decide +kernel
theorem dX5_fewest_72 : decode cX5_fewest 72 = .ok (.iconst 0, 1) := by decide +kernel
theorem dX5_fewest_73 : decode cX5_fewest 73 = .ok (.iload_n 2, 1) := by decide +kernel
theorem dX5_fewest_74 : decode cX5_fewest 74 = .ok (.invokevirtual 204, 3) := by decide +kernel
theorem dX5_fewest_77 : decode cX5_fewest 77 = .ok (.iconst 1, 1) := by decide +kernel
theorem dX5_fewest_78 : decode cX5_fewest 78 = .ok (.istore_n 3, 1) := by decide +kernel
theorem dX5_fewest_79 : decode cX5_fewest 79 = .ok (.iconst 0, 1) := by decide +kernel
theorem dX5_fewest_80 : decode cX5_fewest 80 = .ok (.istore 4, 2) := by decide +kernel
theorem dX5_fewest_82 : decode cX5_fewest 82 = .ok (.iload 4, 2) := by decide +kernel
theorem dX5_fewest_84 : decode cX5_fewest 84 = .ok (.aload_n 0, 1) := by decide +kernel
theorem dX5_fewest_85 : decode cX5_fewest 85 = .ok (.getfield 7, 3) := by decide +kernel
theorem dX5_fewest_88 : decode cX5_fewest 88 = .ok (.iconst 2, 1) := by decide +kernel
theorem dX5_fewest_89 : decode cX5_fewest 89 = .ok (.iaload, 1) := by decide +kernel
theorem dX5_fewest_90 : decode cX5_fewest 90 = .ok (.if_icmp .ge 113, 3) := by decide +kernel
theorem dX5_fewest_93 : decode cX5_fewest 93 = .ok (.iload_n 3, 1) := by decide +kernel
theorem dX5_fewest_94 : decode cX5_fewest 94 = .ok (.iconst 2, 1) := by decide +kernel
theorem dX5_fewest_95 : decode cX5_fewest 95 = .ok (.if_icmp .eq 12, 3) := by decide +kernel
theorem dX5_fewest_98 : decode cX5_fewest 98 = .ok (.aload_n 0, 1) := by decide +kernel
theorem dX5_fewest_99 : decode cX5_fewest 99 = .ok (.getfield 201, 3) := by decide +kernel
theorem dX5_fewest_102 : decode cX5_fewest 102 = .ok (.bipush (-9), 2) := by decide +kernel
theorem dX5_fewest_104 : decode cX5_fewest 104 = .ok (.if_icmp .ne 99, 3) := by decide +kernel
theorem dX5_fewest_107 : decode cX5_fewest 107 = .ok (.iconst 2, 1) := by decide +kernel
theorem dX5_fewest_108 : decode cX5_fewest 108 = .ok (.istore_n 3, 1) := by decide +kernel
theorem dX5_fewest_109 : decode cX5_fewest 109 = .ok (.aload_n 0, 1) := by decide +kernel
theorem dX5_fewest_110 : decode cX5_fewest 110 = .ok (.iload 4, 2) := by decide +kernel
theorem dX5_fewest_112 : decode cX5_fewest 112 = .ok (.iconst 2, 1) := by decide +kernel
theorem dX5_fewest_113 : decode cX5_fewest 113 = .ok (.invokevirtual 43, 3) := by decide +kernel
theorem dX5_fewest_116 : decode cX5_fewest 116 = .ok (.istore 5, 2) := by decide +kernel
theorem dX5_fewest_118 : decode cX5_fewest 118 = .ok (.iconst 0, 1) := by decide +kernel
theorem dX5_fewest_119 : decode cX5_fewest 119 = .ok (.istore 6, 2) := by decide +kernel
theorem dX5_fewest_121 : decode cX5_fewest 121 = .ok (.iload 6, 2) := by decide +kernel
theorem dX5_fewest_123 : decode cX5_fewest 123 = .ok (.aload_n 0, 1) := by decide +kernel
theorem dX5_fewest_124 : decode cX5_fewest 124 = .ok (.getfield 7, 3) := by decide +kernel
theorem dX5_fewest_127 : decode cX5_fewest 127 = .ok (.iconst 0, 1) := by decide +kernel
theorem dX5_fewest_128 : decode cX5_fewest 128 = .ok (.iaload, 1) := by decide +kernel
theorem dX5_fewest_129 : decode cX5_fewest 129 = .ok (.if_icmp .ge 68, 3) := by decide +kernel
theorem dX5_fewest_132 : decode cX5_fewest 132 = .ok (.iload 5, 2) := by decide +kernel
theorem dX5_fewest_134 : decode cX5_fewest 134 = .ok (.bipush (-9), 2) := by decide +kernel
theorem dX5_fewest_136 : decode cX5_fewest 136 = .ok (.if_icmp .eq 61, 3) := by decide +kernel
theorem dX5_fewest_139 : decode cX5_fewest 139 = .ok (.iload 6, 2) := by decide +kernel
theorem dX5_fewest_141 : decode cX5_fewest 141 = .ok (.iload 5, 2) := by decide +kernel
theorem dX5_fewest_143 : decode cX5_fewest 143 = .ok (.if_icmp .eq 48, 3) := by decide +kernel
theorem dX5_fewest_146 : decode cX5_fewest 146 = .ok (.aload_n 0, 1) := by decide +kernel
theorem dX5_fewest_147 : decode cX5_fewest 147 = .ok (.iload 6, 2) := by decide +kernel
theorem dX5_fewest_149 : decode cX5_fewest 149 = .ok (.invokevirtual 79, 3) := by decide +kernel
theorem dX5_fewest_152 : decode cX5_fewest 152 = .ok (.ifCond .eq 39, 3) := by decide +kernel
theorem dX5_fewest_155 : decode cX5_fewest 155 = .ok (.aload_n 0, 1) := by decide +kernel
theorem dX5_fewest_156 : decode cX5_fewest 156 = .ok (.iload 4, 2) := by decide +kernel
theorem dX5_fewest_158 : decode cX5_fewest 158 = .ok (.iload 5, 2) := by decide +kernel
theorem dX5_fewest_160 : decode cX5_fewest 160 = .ok (.iload 6, 2) := by decide +kernel
theorem dX5_fewest_162 : decode cX5_fewest 162 = .ok (.invokevirtual 194, 3) := by decide +kernel
theorem dX5_fewest_165 : decode cX5_fewest 165 = .ok (.aload_n 0, 1) := by decide +kernel
theorem dX5_fewest_166 : decode cX5_fewest 166 = .ok (.iload 4, 2) := by decide +kernel
theorem dX5_fewest_168 : decode cX5_fewest 168 = .ok (.iconst 1, 1) := by decide +kernel
theorem dX5_fewest_169 : decode cX5_fewest 169 = .ok (.iadd, 1) := by decide +kernel
theorem dX5_fewest_170 : decode cX5_fewest 170 = .ok (.aload_n 0, 1) := by decide +kernel
theorem dX5_fewest_171 : decode cX5_fewest 171 = .ok (.iload 4, 2) := by decide +kernel
theorem dX5_fewest_173 : decode cX5_fewest 173 = .ok (.iconst 1, 1) := by decide +kernel
theorem dX5_fewest_174 : decode cX5_fewest 174 = .ok (.invokevirtual 43, 3) := by decide +kernel
theorem dX5_fewest_177 : decode cX5_fewest 177 = .ok (.iload_n 2, 1) := by decide +kernel
theorem dX5_fewest_178 : decode cX5_fewest 178 = .ok (.invokevirtual 204, 3) := by decide +kernel
theorem dX5_fewest_181 : decode cX5_fewest 181 = .ok (.aload_n 0, 1) := by decide +kernel
theorem dX5_fewest_182 : decode cX5_fewest 182 = .ok (.iload 4, 2) := by decide +kernel
theorem dX5_fewest_184 : decode cX5_fewest 184 = .ok (.iload 6, 2) := by decide +kernel
theorem dX5_fewest_186 : decode cX5_fewest 186 = .ok (.iload 5, 2) := by decide +kernel
theorem dX5_fewest_188 : decode cX5_fewest 188 = .ok (.invokevirtual 194, 3) := by decide +kernel
theorem dX5_fewest_191 : decode cX5_fewest 191 = .ok (.iinc 6 1, 3) := by decide +kernel
theorem dX5_fewest_194 : decode cX5_fewest 194 = .ok (.goto (-73), 3) := by decide +kernel
theorem dX5_fewest_197 : decode cX5_fewest 197 = .ok (.iinc 4 1, 3) := by decide +kernel
theorem dX5_fewest_200 : decode cX5_fewest 200 = .ok (.goto (-118), 3) := by decide +kernel
theorem dX5_fewest_203 : decode cX5_fewest 203 = .ok (.aload_n 0, 1) := by decide +kernel
theorem dX5_fewest_204 : decode cX5_fewest 204 = .ok (.getfield 201, 3) := by decide +kernel
theorem dX5_fewest_207 : decode cX5_fewest 207 = .ok (.bipush (-9), 2) := by decide +kernel
theorem dX5_fewest_209 : decode cX5_fewest 209 = .ok (.if_icmp .ne 8, 3) := by decide +kernel
theorem dX5_fewest_212 : decode cX5_fewest 212 = .ok (.bipush (-9), 2) := by decide +kernel
theorem dX5_fewest_214 : decode cX5_fewest 214 = .ok (.goto 15, 3) := by decide +kernel
theorem dX5_fewest_217 : decode cX5_fewest 217 = .ok (.iload_n 1, 1) := by decide +kernel
theorem dX5_fewest_218 : decode cX5_fewest 218 = .ok (.ifCond .ne 7, 3) := by decide +kernel
theorem dX5_fewest_221 : decode cX5_fewest 221 = .ok (.iload_n 3, 1) := by decide +kernel
theorem dX5_fewest_222 : decode cX5_fewest 222 = .ok (.goto 7, 3) := by decide +kernel
theorem dX5_fewest_225 : decode cX5_fewest 225 = .ok (.aload_n 0, 1) := by decide +kernel
theorem dX5_fewest_226 : decode cX5_fewest 226 = .ok (.getfield 201, 3) := by decide +kernel
theorem dX5_fewest_229 : decode cX5_fewest 229 = .ok (.ireturn, 1) := by decide +kernel
set_option maxRecDepth 20000 in
theorem ggX5_without_X5_isServer : GoodIn wsX5_without wsX5_isServer := goodIn_r _ [5, 6, 7, 8, 4, 9, 58, 59, 60, 61, 62, 63, 64, 65, 66, 67, 68, 69, 70, 71, 72] (by decide +kernel) (by decide +kernel)
set_option maxRecDepth 20000 in
theorem gX5_without_X5_isServer : GoodIn wsX5_without (wsV RX5 39 RX5 yX5_isServer wsX5_isServer) := goodIn_app (goodIn_of _ (by decide +kernel)) ggX5_without_X5_isServer
set_option maxRecDepth 20000 in
theorem ggX5_without_X5_isOpen : GoodIn wsX5_without wsX5_isOpen := goodIn_r _ [13, 6, 1, 2, 3, 4, 5, 7, 8, 9, 58, 59, 60, 61, 62, 63, 64, 65, 66, 67, 68, 69, 70, 71, 72] (by decide +kernel) (by decide +kernel)
set_option maxRecDepth 20000 in
theorem gX5_without_X5_isOpen : GoodIn wsX5_without (wsV RX5 79 RX5 yX5_isOpen wsX5_isOpen) := goodIn_app (goodIn_of _ (by decide +kernel)) ggX5_without_X5_isOpen
set_option maxRecDepth 20000 in
theorem ggX5_without_X5_opens : GoodIn wsX5_without wsX5_opens := goodIn_r _ [17, 6, 58, 59, 60, 61, 62, 63, 64, 65, 66, 67, 68, 69, 70, 71, 72] (by decide +kernel) (by decide +kernel)
set_option maxRecDepth 20000 in
theorem gX5_without_X5_opens : GoodIn wsX5_without (wsV RX5 57 RX5 yX5_opens wsX5_opens) := goodIn_app (goodIn_of _ (by decide +kernel)) ggX5_without_X5_opens
set_option maxRecDepth 20000 in
theorem ggX5_without_X5_aside : GoodIn wsX5_without wsX5_aside := goodIn_r _ [21, 22, 6, 58, 59, 60, 61, 62, 63, 64, 65, 66, 67, 68, 69, 70, 71, 72] (by decide +kernel) (by decide +kernel)
set_option maxRecDepth 20000 in
theorem gX5_without_X5_aside : GoodIn wsX5_without (wsV RX5 73 RX5 yX5_aside wsX5_aside) := goodIn_app (goodIn_of _ (by decide +kernel)) ggX5_without_X5_aside
set_option maxRecDepth 20000 in
theorem ggX5_without_X5_empties : GoodIn wsX5_without wsX5_empties := goodIn_r _ [26, 6, 27, 28, 29, 4, 30, 31, 32, 33, 34, 35, 36, 37, 38, 10, 11, 12, 13, 1, 2, 3, 5, 7, 8, 9, 39, 40, 41, 42, 43, 44, 45, 46, 58, 59, 60, 61, 62, 63, 64, 65, 66, 67, 68, 69, 70, 71, 72] (by decide +kernel) (by decide +kernel)
set_option maxRecDepth 20000 in
theorem gX5_without_X5_empties : GoodIn wsX5_without (wsV RX5 151 RX5 yX5_empties wsX5_empties) := goodIn_app (goodIn_of _ (by decide +kernel)) ggX5_without_X5_empties
set_option maxRecDepth 20000 in
theorem ggX5_without_X5_greatest : GoodIn wsX5_without wsX5_greatest := goodIn_r _ [50, 6, 39, 40, 41, 4, 42, 31, 32, 33, 34, 51, 52, 53, 58, 59, 60, 61, 62, 63, 64, 65, 66, 67, 68, 69, 70, 71, 72] (by decide +kernel) (by decide +kernel)
set_option maxRecDepth 20000 in
theorem gX5_without_X5_greatest : GoodIn wsX5_without (wsV RX5 67 RX5 yX5_greatest wsX5_greatest) := goodIn_app (goodIn_of _ (by decide +kernel)) ggX5_without_X5_greatest
set_option maxRecDepth 20000 in
theorem ggX5_without_X5_layBack : GoodIn wsX5_without wsX5_layBack := goodIn_r _ [57, 6, 22, 58, 59, 60, 61, 62, 63, 64, 65, 66, 67, 68, 69, 70, 71, 72] (by decide +kernel) (by decide +kernel)
set_option maxRecDepth 20000 in
theorem gX5_without_X5_layBack : GoodIn wsX5_without (wsV RX5 185 RX5 yX5_layBack wsX5_layBack) := goodIn_app (goodIn_of _ (by decide +kernel)) ggX5_without_X5_layBack
theorem dX5_without_0 : decode cX5_without 0 = .ok (.aload_n 0, 1) := by decide +kernel
theorem dX5_without_1 : decode cX5_without 1 = .ok (.iload_n 1, 1) := by decide +kernel
theorem dX5_without_2 : decode cX5_without 2 = .ok (.invokevirtual 39, 3) := by decide +kernel
theorem dX5_without_5 : decode cX5_without 5 = .ok (.ifCond .ne 5, 3) := by decide +kernel
theorem dX5_without_8 : decode cX5_without 8 = .ok (.iconst (-1), 1) := by decide +kernel
theorem dX5_without_9 : decode cX5_without 9 = .ok (.ireturn, 1) := by decide +kernel
theorem dX5_without_10 : decode cX5_without 10 = .ok (.aload_n 0, 1) := by decide +kernel
theorem dX5_without_11 : decode cX5_without 11 = .ok (.iload_n 1, 1) := by decide +kernel
theorem dX5_without_12 : decode cX5_without 12 = .ok (.invokevirtual 79, 3) := by decide +kernel
theorem dX5_without_15 : decode cX5_without 15 = .ok (.ifCond .eq 11, 3) := by decide +kernel
theorem dX5_without_18 : decode cX5_without 18 = .ok (.aload_n 0, 1) := by decide +kernel
theorem dX5_without_19 : decode cX5_without 19 = .ok (.invokevirtual 57, 3) := by decide +kernel
theorem dX5_without_22 : decode cX5_without 22 = .ok (.iconst 1, 1) := by decide +kernel
theorem dX5_without_23 : decode cX5_without 23 = .ok (.if_icmp .ne 6, 3) := by decide +kernel
theorem dX5_without_26 : decode cX5_without 26 = .ok (.bipush (-2), 2) := by decide +kernel
theorem dX5_without_28 : decode cX5_without 28 = .ok (.ireturn, 1) := by decide +kernel
theorem dX5_without_29 : decode cX5_without 29 = .ok (.aload_n 0, 1) := by decide +kernel
theorem dX5_without_30 : decode cX5_without 30 = .ok (.invokevirtual 73, 3) := by decide +kernel
theorem dX5_without_33 : decode cX5_without 33 = .ok (.aload_n 0, 1) := by decide +kernel
theorem dX5_without_34 : decode cX5_without 34 = .ok (.iload_n 1, 1) := by decide +kernel
theorem dX5_without_35 : decode cX5_without 35 = .ok (.invokevirtual 151, 3) := by decide +kernel
theorem dX5_without_38 : decode cX5_without 38 = .ok (.istore_n 2, 1) := by decide +kernel
theorem dX5_without_39 : decode cX5_without 39 = .ok (.iload_n 2, 1) := by decide +kernel
theorem dX5_without_40 : decode cX5_without 40 = .ok (.ifCond .ge 7, 3) := by decide +kernel
theorem dX5_without_43 : decode cX5_without 43 = .ok (.iload_n 2, 1) := by decide +kernel
theorem dX5_without_44 : decode cX5_without 44 = .ok (.goto 7, 3) := by decide +kernel
theorem dX5_without_47 : decode cX5_without 47 = .ok (.aload_n 0, 1) := by decide +kernel
theorem dX5_without_48 : decode cX5_without 48 = .ok (.invokevirtual 67, 3) := by decide +kernel
theorem dX5_without_51 : decode cX5_without 51 = .ok (.istore_n 3, 1) := by decide +kernel
theorem dX5_without_52 : decode cX5_without 52 = .ok (.aload_n 0, 1) := by decide +kernel
theorem dX5_without_53 : decode cX5_without 53 = .ok (.invokevirtual 185, 3) := by decide +kernel
theorem dX5_without_56 : decode cX5_without 56 = .ok (.iload_n 3, 1) := by decide +kernel
theorem dX5_without_57 : decode cX5_without 57 = .ok (.ireturn, 1) := by decide +kernel
theorem dJ6_bitCount_0f7a4_0 : decode cJ6_bitCount_0f7a4 0 = .ok (.iload_n 0, 1) := by decide +kernel
theorem dJ6_bitCount_0f7a4_1 : decode cJ6_bitCount_0f7a4 1 = .ok (.iload_n 0, 1) := by decide +kernel
theorem dJ6_bitCount_0f7a4_2 : decode cJ6_bitCount_0f7a4 2 = .ok (.iconst 1, 1) := by decide +kernel
theorem dJ6_bitCount_0f7a4_3 : decode cJ6_bitCount_0f7a4 3 = .ok (.iushr, 1) := by decide +kernel
theorem dJ6_bitCount_0f7a4_4 : decode cJ6_bitCount_0f7a4 4 = .ok (.ldc_w 265, 3) := by decide +kernel
theorem dJ6_bitCount_0f7a4_7 : decode cJ6_bitCount_0f7a4 7 = .ok (.iand, 1) := by decide +kernel
theorem dJ6_bitCount_0f7a4_8 : decode cJ6_bitCount_0f7a4 8 = .ok (.isub, 1) := by decide +kernel
theorem dJ6_bitCount_0f7a4_9 : decode cJ6_bitCount_0f7a4 9 = .ok (.istore_n 0, 1) := by decide +kernel
theorem dJ6_bitCount_0f7a4_10 : decode cJ6_bitCount_0f7a4 10 = .ok (.iload_n 0, 1) := by decide +kernel
theorem dJ6_bitCount_0f7a4_11 : decode cJ6_bitCount_0f7a4 11 = .ok (.ldc_w 266, 3) := by decide +kernel
theorem dJ6_bitCount_0f7a4_14 : decode cJ6_bitCount_0f7a4 14 = .ok (.iand, 1) := by decide +kernel
theorem dJ6_bitCount_0f7a4_15 : decode cJ6_bitCount_0f7a4 15 = .ok (.iload_n 0, 1) := by decide +kernel
theorem dJ6_bitCount_0f7a4_16 : decode cJ6_bitCount_0f7a4 16 = .ok (.iconst 2, 1) := by decide +kernel
theorem dJ6_bitCount_0f7a4_17 : decode cJ6_bitCount_0f7a4 17 = .ok (.iushr, 1) := by decide +kernel
theorem dJ6_bitCount_0f7a4_18 : decode cJ6_bitCount_0f7a4 18 = .ok (.ldc_w 266, 3) := by decide +kernel
theorem dJ6_bitCount_0f7a4_21 : decode cJ6_bitCount_0f7a4 21 = .ok (.iand, 1) := by decide +kernel
theorem dJ6_bitCount_0f7a4_22 : decode cJ6_bitCount_0f7a4 22 = .ok (.iadd, 1) := by decide +kernel
theorem dJ6_bitCount_0f7a4_23 : decode cJ6_bitCount_0f7a4 23 = .ok (.istore_n 0, 1) := by decide +kernel
theorem dJ6_bitCount_0f7a4_24 : decode cJ6_bitCount_0f7a4 24 = .ok (.iload_n 0, 1) := by decide +kernel
theorem dJ6_bitCount_0f7a4_25 : decode cJ6_bitCount_0f7a4 25 = .ok (.iload_n 0, 1) := by decide +kernel
theorem dJ6_bitCount_0f7a4_26 : decode cJ6_bitCount_0f7a4 26 = .ok (.iconst 4, 1) := by decide +kernel
theorem dJ6_bitCount_0f7a4_27 : decode cJ6_bitCount_0f7a4 27 = .ok (.iushr, 1) := by decide +kernel
theorem dJ6_bitCount_0f7a4_28 : decode cJ6_bitCount_0f7a4 28 = .ok (.iadd, 1) := by decide +kernel
theorem dJ6_bitCount_0f7a4_29 : decode cJ6_bitCount_0f7a4 29 = .ok (.ldc_w 267, 3) := by decide +kernel
theorem dJ6_bitCount_0f7a4_32 : decode cJ6_bitCount_0f7a4 32 = .ok (.iand, 1) := by decide +kernel
theorem dJ6_bitCount_0f7a4_33 : decode cJ6_bitCount_0f7a4 33 = .ok (.istore_n 0, 1) := by decide +kernel
theorem dJ6_bitCount_0f7a4_34 : decode cJ6_bitCount_0f7a4 34 = .ok (.iload_n 0, 1) := by decide +kernel
theorem dJ6_bitCount_0f7a4_35 : decode cJ6_bitCount_0f7a4 35 = .ok (.iload_n 0, 1) := by decide +kernel
theorem dJ6_bitCount_0f7a4_36 : decode cJ6_bitCount_0f7a4 36 = .ok (.bipush 8, 2) := by decide +kernel
theorem dJ6_bitCount_0f7a4_38 : decode cJ6_bitCount_0f7a4 38 = .ok (.iushr, 1) := by decide +kernel
theorem dJ6_bitCount_0f7a4_39 : decode cJ6_bitCount_0f7a4 39 = .ok (.iadd, 1) := by decide +kernel
theorem dJ6_bitCount_0f7a4_40 : decode cJ6_bitCount_0f7a4 40 = .ok (.istore_n 0, 1) := by decide +kernel
theorem dJ6_bitCount_0f7a4_41 : decode cJ6_bitCount_0f7a4 41 = .ok (.iload_n 0, 1) := by decide +kernel
theorem dJ6_bitCount_0f7a4_42 : decode cJ6_bitCount_0f7a4 42 = .ok (.iload_n 0, 1) := by decide +kernel
theorem dJ6_bitCount_0f7a4_43 : decode cJ6_bitCount_0f7a4 43 = .ok (.bipush 16, 2) := by decide +kernel
theorem dJ6_bitCount_0f7a4_45 : decode cJ6_bitCount_0f7a4 45 = .ok (.iushr, 1) := by decide +kernel
theorem dJ6_bitCount_0f7a4_46 : decode cJ6_bitCount_0f7a4 46 = .ok (.iadd, 1) := by decide +kernel
theorem dJ6_bitCount_0f7a4_47 : decode cJ6_bitCount_0f7a4 47 = .ok (.istore_n 0, 1) := by decide +kernel
theorem dJ6_bitCount_0f7a4_48 : decode cJ6_bitCount_0f7a4 48 = .ok (.iload_n 0, 1) := by decide +kernel
theorem dJ6_bitCount_0f7a4_49 : decode cJ6_bitCount_0f7a4 49 = .ok (.bipush 63, 2) := by decide +kernel
theorem dJ6_bitCount_0f7a4_51 : decode cJ6_bitCount_0f7a4 51 = .ok (.iand, 1) := by decide +kernel
theorem dJ6_bitCount_0f7a4_52 : decode cJ6_bitCount_0f7a4 52 = .ok (.ireturn, 1) := by decide +kernel
theorem dJ9_max_7cf53_0 : decode cJ9_max_7cf53 0 = .ok (.iload_n 0, 1) := by decide +kernel
theorem dJ9_max_7cf53_1 : decode cJ9_max_7cf53 1 = .ok (.iload_n 1, 1) := by decide +kernel
theorem dJ9_max_7cf53_2 : decode cJ9_max_7cf53 2 = .ok (.if_icmp .lt 7, 3) := by decide +kernel
theorem dJ9_max_7cf53_5 : decode cJ9_max_7cf53 5 = .ok (.iload_n 0, 1) := by decide +kernel
theorem dJ9_max_7cf53_6 : decode cJ9_max_7cf53 6 = .ok (.goto 4, 3) := by decide +kernel
theorem dJ9_max_7cf53_9 : decode cJ9_max_7cf53 9 = .ok (.iload_n 1, 1) := by decide +kernel
theorem dJ9_max_7cf53_10 : decode cJ9_max_7cf53 10 = .ok (.ireturn, 1) := by decide +kernel
theorem dJ9_min_7cf53_0 : decode cJ9_min_7cf53 0 = .ok (.iload_n 0, 1) := by decide +kernel
theorem dJ9_min_7cf53_1 : decode cJ9_min_7cf53 1 = .ok (.iload_n 1, 1) := by decide +kernel
theorem dJ9_min_7cf53_2 : decode cJ9_min_7cf53 2 = .ok (.if_icmp .gt 7, 3) := by decide +kernel
theorem dJ9_min_7cf53_5 : decode cJ9_min_7cf53 5 = .ok (.iload_n 0, 1) := by decide +kernel
theorem dJ9_min_7cf53_6 : decode cJ9_min_7cf53 6 = .ok (.goto 4, 3) := by decide +kernel
theorem dJ9_min_7cf53_9 : decode cJ9_min_7cf53 9 = .ok (.iload_n 1, 1) := by decide +kernel
theorem dJ9_min_7cf53_10 : decode cJ9_min_7cf53 10 = .ok (.ireturn, 1) := by decide +kernel
