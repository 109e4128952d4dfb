def wsL_cell : List Cond := .code yL_cell cL_cell 3 (some .int) :: ([.constant RL 7 (916318735)])
theorem dL_cell_0 : decode cL_cell 0 = .ok (.iload_n 1, 1) := by decide +kernel
theorem dL_cell_1 : decode cL_cell 1 = .ok (.aload_n 0, 1) := by decide +kernel
theorem dL_cell_2 : decode cL_cell 2 = .ok (.arraylength, 1) := by decide +kernel
theorem dL_cell_3 : decode cL_cell 3 = .ok (.if_icmp .ge 9, 3) := by decide +kernel
theorem dL_cell_6 : decode cL_cell 6 = .ok (.aload_n 0, 1) := by decide +kernel
theorem dL_cell_7 : decode cL_cell 7 = .ok (.iload_n 1, 1) := by decide +kernel
theorem dL_cell_8 : decode cL_cell 8 = .ok (.iaload, 1) := by decide +kernel
theorem dL_cell_9 : decode cL_cell 9 = .ok (.goto 9, 3) := by decide +kernel
theorem dL_cell_12 : decode cL_cell 12 = .ok (.ldc 7, 2) := by decide +kernel
theorem dL_cell_14 : decode cL_cell 14 = .ok (.iload_n 1, 1) := by decide +kernel
theorem dL_cell_15 : decode cL_cell 15 = .ok (.iconst 3, 1) := by decide +kernel
theorem dL_cell_16 : decode cL_cell 16 = .ok (.iadd, 1) := by decide +kernel
theorem dL_cell_17 : decode cL_cell 17 = .ok (.imul, 1) := by decide +kernel
theorem dL_cell_18 : decode cL_cell 18 = .ok (.istore_n 2, 1) := by decide +kernel
theorem dL_cell_19 : decode cL_cell 19 = .ok (.iload_n 2, 1) := by decide +kernel
theorem dL_cell_20 : decode cL_cell 20 = .ok (.iload_n 2, 1) := by decide +kernel
theorem dL_cell_21 : decode cL_cell 21 = .ok (.bipush 15, 2) := by decide +kernel
theorem dL_cell_23 : decode cL_cell 23 = .ok (.iushr, 1) := by decide +kernel
theorem dL_cell_24 : decode cL_cell 24 = .ok (.ixor, 1) := by decide +kernel
theorem dL_cell_25 : decode cL_cell 25 = .ok (.ireturn, 1) := by decide +kernel
def wsL_low : List Cond := .code yL_low cL_low 2 (some .int) :: ([.constant RL 8 (2147483647)])
theorem dL_low_0 : decode cL_low 0 = .ok (.iload_n 0, 1) := by decide +kernel
theorem dL_low_1 : decode cL_low 1 = .ok (.ldc 8, 2) := by decide +kernel
theorem dL_low_3 : decode cL_low 3 = .ok (.iand, 1) := by decide +kernel
theorem dL_low_4 : decode cL_low 4 = .ok (.iload_n 1, 1) := by decide +kernel
theorem dL_low_5 : decode cL_low 5 = .ok (.irem, 1) := by decide +kernel
theorem dL_low_6 : decode cL_low 6 = .ok (.ireturn, 1) := by decide +kernel
def wsL_sum_r1 : List Cond := [Cond.constantLong RL 9 (17), Cond.constantLong RL 11 (31), Cond.methodLink RL 13 yX4_count, Cond.instanceMethod yX4_count, Cond.selects RX4 yX4_count yX4_count, Cond.initialized RX4, Cond.code yX4_count cX4_count 2 (some .int), Cond.fieldLink RX4 10 "EvenLoads" "now" "LEvenLoads$Cluster;", Cond.fieldLink RX4 25 "EvenLoads" "history" "LEvenLoads$History;", Cond.fieldLink RX4 39 "EvenLoads" "program" "LEvenLoads$Program;", Cond.methodLink RX4 114 yX0_finishedJobs, Cond.instanceMethod yX0_finishedJobs, Cond.selects RX0 yX0_finishedJobs yX0_finishedJobs, Cond.initialized RX0, Cond.code yX0_finishedJobs cX0_finishedJobs 3 (some .int), Cond.fieldLink RX0 37 "EvenLoads$Cluster" "jobs" "I", Cond.methodLink RX0 74 yX0_isFinished, Cond.instanceMethod yX0_isFinished, Cond.selects RX0 yX0_isFinished yX0_isFinished, Cond.code yX0_isFinished cX0_isFinished 2 (some .boolean), Cond.fieldLink RX0 18 "EvenLoads$Cluster" "places" "[I", Cond.static yX4_at, Cond.code yX4_at cX4_at 2 (some .int), Cond.methodLink RX4 120 yX0_greatestLoad]
def wsL_sum_r2 : List Cond := [Cond.instanceMethod yX0_greatestLoad, Cond.selects RX0 yX0_greatestLoad yX0_greatestLoad, Cond.code yX0_greatestLoad cX0_greatestLoad 1 (some .int), Cond.fieldLink RX0 24 "EvenLoads$Cluster" "loads" "[I", Cond.methodLink RX0 124 yX0_fullestServer, Cond.instanceMethod yX0_fullestServer, Cond.selects RX0 yX0_fullestServer yX0_fullestServer, Cond.code yX0_fullestServer cX0_fullestServer 4 (some .int), Cond.fieldLink RX0 30 "EvenLoads$Cluster" "servers" "I", Cond.fieldLink RX0 27 "EvenLoads$Cluster" "opened" "[I", Cond.methodLink RX4 127 yX0_emptiestServer, Cond.instanceMethod yX0_emptiestServer, Cond.selects RX0 yX0_emptiestServer yX0_emptiestServer, Cond.code yX0_emptiestServer cX0_emptiestServer 4 (some .int), Cond.methodLink RX4 130 yX4_at, Cond.methodLink RX4 134 yX0_bound, Cond.instanceMethod yX0_bound, Cond.selects RX0 yX0_bound yX0_bound, Cond.code yX0_bound cX0_bound 3 (some .int), Cond.fieldLink RX0 9 "EvenLoads$Cluster" "sizes" "[I", Cond.methodLink RX0 127 Lib.Math.max.name, Cond.static Lib.Math.max.name, Cond.initialized "java/lang/Math", Cond.code Lib.Math.max.name Lib.Math.max.code 2 (some .int)]
def wsL_sum_r3 : List Cond := [Cond.fieldLink RX0 34 "EvenLoads$Cluster" "openServers" "I", Cond.fieldLink RX0 40 "EvenLoads$Cluster" "sum" "I", Cond.methodLink RX4 137 yX0_target, Cond.instanceMethod yX0_target, Cond.selects RX0 yX0_target yX0_target, Cond.code yX0_target cX0_target 1 (some .int), Cond.fieldLink RX0 46 "EvenLoads$Cluster" "factor" "I", Cond.methodLink RX0 132 yX0_bound, Cond.methodLink RX4 140 yX0_isEven, Cond.instanceMethod yX0_isEven, Cond.selects RX0 yX0_isEven yX0_isEven, Cond.code yX0_isEven cX0_isEven 1 (some .boolean), Cond.methodLink RX0 85 yX0_greatestLoad, Cond.methodLink RX0 77 yX0_target, Cond.methodLink RL 19 yX4_server, Cond.instanceMethod yX4_server, Cond.selects RX4 yX4_server yX4_server, Cond.code yX4_server cX4_server 3 (some .int), Cond.methodLink RX4 153 yX0_hasServer, Cond.instanceMethod yX0_hasServer, Cond.selects RX0 yX0_hasServer yX0_hasServer, Cond.code yX0_hasServer cX0_hasServer 2 (some .boolean), Cond.methodLink RX4 157 yX0_isOpen, Cond.instanceMethod yX0_isOpen]
def wsL_sum_r4 : List Cond := [Cond.selects RX0 yX0_isOpen yX0_isOpen, Cond.code yX0_isOpen cX0_isOpen 2 (some .boolean), Cond.methodLink RX4 160 yX0_jobsOn, Cond.instanceMethod yX0_jobsOn, Cond.selects RX0 yX0_jobsOn yX0_jobsOn, Cond.code yX0_jobsOn cX0_jobsOn 4 (some .int), Cond.methodLink RX4 163 yJ6_bitCount_0f7a4, Cond.static yJ6_bitCount_0f7a4, Cond.initialized RJ6, Cond.code yJ6_bitCount_0f7a4 cJ6_bitCount_0f7a4 1 (some .int), Cond.constant RJ6 265 (1431655765), Cond.constant RJ6 266 (858993459), Cond.constant RJ6 267 (252645135), Cond.methodLink RL 23 yX4_job, Cond.instanceMethod yX4_job, Cond.selects RX4 yX4_job yX4_job, Cond.code yX4_job cX4_job 3 (some .int), Cond.methodLink RX4 168 yX0_hasJob, Cond.instanceMethod yX0_hasJob, Cond.selects RX0 yX0_hasJob yX0_hasJob, Cond.code yX0_hasJob cX0_hasJob 2 (some .boolean)]
def wsL_sum : List Cond := .code yL_sum cL_sum 4 (some .long) :: ((wsL_sum_r1 ++ (wsL_sum_r2 ++ (wsL_sum_r3 ++ wsL_sum_r4))) ++ wsX40 ++ wsX00 ++ wsX10 ++ wsX20)
set_option maxRecDepth 20000 in
theorem ggL_sum_X4_count : GoodIn wsL_sum wsX4_count := goodIn_r _ [7, 8, 9, 10, 11, 12, 13, 14, 15, 16, 17, 18, 19, 20, 21, 22, 6, 23, 24, 25, 26, 27, 28, 29, 30, 31, 32, 33, 34, 35, 36, 37, 38, 39, 40, 41, 42, 43, 44, 45, 46, 47, 48, 49, 50, 51, 52, 53, 54, 55, 56, 57, 58, 59, 60, 61, 62, 94, 95, 96, 97, 98, 99, 100, 101, 102, 103, 104, 105, 106, 107, 108, 109, 110, 111, 112, 113, 114, 115, 116, 117, 118, 119, 120, 121, 122, 123] (by decide +kernel) (by decide +kernel)
set_option maxRecDepth 20000 in
theorem gL_sum_X4_count : GoodIn wsL_sum (wsV RL 13 RX4 yX4_count wsX4_count) := goodIn_app (goodIn_of _ (by decide +kernel)) ggL_sum_X4_count
set_option maxRecDepth 20000 in
theorem ggL_sum_X4_server : GoodIn wsL_sum wsX4_server := goodIn_r _ [66, 8, 67, 68, 69, 14, 70, 33, 71, 72, 73, 74, 34, 22, 6, 23, 39, 75, 76, 77, 78, 16, 21, 79, 80, 81, 82, 83, 84, 85, 94, 95, 96, 97, 98, 99, 100, 101, 102, 103, 104, 105, 106, 107, 108, 109, 110, 111, 112] (by decide +kernel) (by decide +kernel)
set_option maxRecDepth 20000 in
theorem gL_sum_X4_server : GoodIn wsL_sum (wsV RL 19 RX4 yX4_server wsX4_server) := goodIn_app (goodIn_of _ (by decide +kernel)) ggL_sum_X4_server
set_option maxRecDepth 20000 in
theorem ggL_sum_X4_job : GoodIn wsL_sum wsX4_job := goodIn_r _ [89, 8, 90, 91, 92, 14, 93, 16, 39, 22, 6, 23, 94, 95, 96, 97, 98, 99, 100, 101, 102, 103, 104, 105, 106, 107, 108, 109, 110, 111, 112] (by decide +kernel) (by decide +kernel)
set_option maxRecDepth 20000 in
theorem gL_sum_X4_job : GoodIn wsL_sum (wsV RL 23 RX4 yX4_job wsX4_job) := goodIn_app (goodIn_of _ (by decide +kernel)) ggL_sum_X4_job
theorem dL_sum_0 : decode cL_sum 0 = .ok (.ldc2_w 9, 3) := by decide +kernel
theorem dL_sum_3 : decode cL_sum 3 = .ok (.lstore_n 1, 1) := by decide +kernel
theorem dL_sum_4 : decode cL_sum 4 = .ok (.iconst 0, 1) := by decide +kernel
theorem dL_sum_5 : decode cL_sum 5 = .ok (.istore_n 3, 1) := by decide +kernel
theorem dL_sum_6 : decode cL_sum 6 = .ok (.iload_n 3, 1) := by decide +kernel
theorem dL_sum_7 : decode cL_sum 7 = .ok (.bipush 13, 2) := by decide +kernel
theorem dL_sum_9 : decode cL_sum 9 = .ok (.if_icmp .ge 22, 3) := by decide +kernel
theorem dL_sum_12 : decode cL_sum 12 = .ok (.ldc2_w 11, 3) := by decide +kernel
theorem dL_sum_15 : decode cL_sum 15 = .ok (.lload_n 1, 1) := by decide +kernel
theorem dL_sum_16 : decode cL_sum 16 = .ok (.lmul, 1) := by decide +kernel
theorem dL_sum_17 : decode cL_sum 17 = .ok (.aload_n 0, 1) := by decide +kernel
theorem dL_sum_18 : decode cL_sum 18 = .ok (.iload_n 3, 1) := by decide +kernel
theorem dL_sum_19 : decode cL_sum 19 = .ok (.invokevirtual 13, 3) := by decide +kernel
theorem dL_sum_22 : decode cL_sum 22 = .ok (.i2l, 1) := by decide +kernel
theorem dL_sum_23 : decode cL_sum 23 = .ok (.ladd, 1) := by decide +kernel
theorem dL_sum_24 : decode cL_sum 24 = .ok (.lstore_n 1, 1) := by decide +kernel
theorem dL_sum_25 : decode cL_sum 25 = .ok (.iinc 3 1, 3) := by decide +kernel
theorem dL_sum_28 : decode cL_sum 28 = .ok (.goto (-22), 3) := by decide +kernel
theorem dL_sum_31 : decode cL_sum 31 = .ok (.iconst 0, 1) := by decide +kernel
theorem dL_sum_32 : decode cL_sum 32 = .ok (.istore_n 3, 1) := by decide +kernel
theorem dL_sum_33 : decode cL_sum 33 = .ok (.iload_n 3, 1) := by decide +kernel
theorem dL_sum_34 : decode cL_sum 34 = .ok (.iconst 5, 1) := by decide +kernel
theorem dL_sum_35 : decode cL_sum 35 = .ok (.aload_n 0, 1) := by decide +kernel
theorem dL_sum_36 : decode cL_sum 36 = .ok (.iconst 0, 1) := by decide +kernel
theorem dL_sum_37 : decode cL_sum 37 = .ok (.invokevirtual 13, 3) := by decide +kernel
theorem dL_sum_40 : decode cL_sum 40 = .ok (.imul, 1) := by decide +kernel
theorem dL_sum_41 : decode cL_sum 41 = .ok (.if_icmp .ge 27, 3) := by decide +kernel
theorem dL_sum_44 : decode cL_sum 44 = .ok (.ldc2_w 11, 3) := by decide +kernel
theorem dL_sum_47 : decode cL_sum 47 = .ok (.lload_n 1, 1) := by decide +kernel
theorem dL_sum_48 : decode cL_sum 48 = .ok (.lmul, 1) := by decide +kernel
theorem dL_sum_49 : decode cL_sum 49 = .ok (.aload_n 0, 1) := by decide +kernel
theorem dL_sum_50 : decode cL_sum 50 = .ok (.iload_n 3, 1) := by decide +kernel
theorem dL_sum_51 : decode cL_sum 51 = .ok (.iconst 5, 1) := by decide +kernel
theorem dL_sum_52 : decode cL_sum 52 = .ok (.idiv, 1) := by decide +kernel
theorem dL_sum_53 : decode cL_sum 53 = .ok (.iload_n 3, 1) := by decide +kernel
theorem dL_sum_54 : decode cL_sum 54 = .ok (.iconst 5, 1) := by decide +kernel
theorem dL_sum_55 : decode cL_sum 55 = .ok (.irem, 1) := by decide +kernel
theorem dL_sum_56 : decode cL_sum 56 = .ok (.invokevirtual 19, 3) := by decide +kernel
theorem dL_sum_59 : decode cL_sum 59 = .ok (.i2l, 1) := by decide +kernel
theorem dL_sum_60 : decode cL_sum 60 = .ok (.ladd, 1) := by decide +kernel
theorem dL_sum_61 : decode cL_sum 61 = .ok (.lstore_n 1, 1) := by decide +kernel
theorem dL_sum_62 : decode cL_sum 62 = .ok (.iinc 3 1, 3) := by decide +kernel
theorem dL_sum_65 : decode cL_sum 65 = .ok (.goto (-32), 3) := by decide +kernel
theorem dL_sum_68 : decode cL_sum 68 = .ok (.iconst 0, 1) := by decide +kernel
theorem dL_sum_69 : decode cL_sum 69 = .ok (.istore_n 3, 1) := by decide +kernel
theorem dL_sum_70 : decode cL_sum 70 = .ok (.iload_n 3, 1) := by decide +kernel
theorem dL_sum_71 : decode cL_sum 71 = .ok (.iconst 4, 1) := by decide +kernel
theorem dL_sum_72 : decode cL_sum 72 = .ok (.aload_n 0, 1) := by decide +kernel
theorem dL_sum_73 : decode cL_sum 73 = .ok (.iconst 2, 1) := by decide +kernel
theorem dL_sum_74 : decode cL_sum 74 = .ok (.invokevirtual 13, 3) := by decide +kernel
theorem dL_sum_77 : decode cL_sum 77 = .ok (.imul, 1) := by decide +kernel
theorem dL_sum_78 : decode cL_sum 78 = .ok (.if_icmp .ge 27, 3) := by decide +kernel
theorem dL_sum_81 : decode cL_sum 81 = .ok (.ldc2_w 11, 3) := by decide +kernel
theorem dL_sum_84 : decode cL_sum 84 = .ok (.lload_n 1, 1) := by decide +kernel
theorem dL_sum_85 : decode cL_sum 85 = .ok (.lmul, 1) := by decide +kernel
theorem dL_sum_86 : decode cL_sum 86 = .ok (.aload_n 0, 1) := by decide +kernel
theorem dL_sum_87 : decode cL_sum 87 = .ok (.iload_n 3, 1) := by decide +kernel
theorem dL_sum_88 : decode cL_sum 88 = .ok (.iconst 4, 1) := by decide +kernel
theorem dL_sum_89 : decode cL_sum 89 = .ok (.idiv, 1) := by decide +kernel
theorem dL_sum_90 : decode cL_sum 90 = .ok (.iload_n 3, 1) := by decide +kernel
theorem dL_sum_91 : decode cL_sum 91 = .ok (.iconst 4, 1) := by decide +kernel
theorem dL_sum_92 : decode cL_sum 92 = .ok (.irem, 1) := by decide +kernel
theorem dL_sum_93 : decode cL_sum 93 = .ok (.invokevirtual 23, 3) := by decide +kernel
theorem dL_sum_96 : decode cL_sum 96 = .ok (.i2l, 1) := by decide +kernel
theorem dL_sum_97 : decode cL_sum 97 = .ok (.ladd, 1) := by decide +kernel
theorem dL_sum_98 : decode cL_sum 98 = .ok (.lstore_n 1, 1) := by decide +kernel
theorem dL_sum_99 : decode cL_sum 99 = .ok (.iinc 3 1, 3) := by decide +kernel
theorem dL_sum_102 : decode cL_sum 102 = .ok (.goto (-32), 3) := by decide +kernel
theorem dL_sum_105 : decode cL_sum 105 = .ok (.lload_n 1, 1) := by decide +kernel
theorem dL_sum_106 : decode cL_sum 106 = .ok (.lreturn, 1) := by decide +kernel
