def wsL_areFewest_r1 : List Cond := [Cond.methodLink RL 72 yX4_fewest, Cond.instanceMethod yX4_fewest, Cond.selects RX4 yX4_fewest yX4_fewest, Cond.initialized RX4, Cond.code yX4_fewest cX4_fewest 5 (some .int), Cond.fieldLink RX4 19 "EvenLoads" "trial" "LEvenLoads$Cluster;", Cond.fieldLink RX4 10 "EvenLoads" "now" "LEvenLoads$Cluster;", Cond.methodLink RX4 43 yX0_copyFrom, Cond.instanceMethod yX0_copyFrom, Cond.selects RX0 yX0_copyFrom yX0_copyFrom, Cond.initialized RX0, Cond.code yX0_copyFrom cX0_copyFrom 2 none, Cond.fieldLink RX0 9 "EvenLoads$Cluster" "sizes" "[I", Cond.fieldLink RX0 15 "EvenLoads$Cluster" "prices" "[I", Cond.fieldLink RX0 18 "EvenLoads$Cluster" "places" "[I", Cond.fieldLink RX0 21 "EvenLoads$Cluster" "moved" "[I", Cond.fieldLink RX0 24 "EvenLoads$Cluster" "loads" "[I", Cond.fieldLink RX0 27 "EvenLoads$Cluster" "opened" "[I", Cond.fieldLink RX0 30 "EvenLoads$Cluster" "servers" "I", Cond.fieldLink RX0 34 "EvenLoads$Cluster" "openServers" "I", Cond.fieldLink RX0 37 "EvenLoads$Cluster" "jobs" "I", Cond.fieldLink RX0 40 "EvenLoads$Cluster" "sum" "I", Cond.fieldLink RX0 43 "EvenLoads$Cluster" "budget" "I", Cond.fieldLink RX0 46 "EvenLoads$Cluster" "factor" "I"]
def wsL_areFewest_r2 : List Cond := [Cond.fieldLink RX0 49 "EvenLoads$Cluster" "moves" "I", Cond.static yX4_copyRow, Cond.code yX4_copyRow cX4_copyRow 2 none, Cond.methodLink RX4 244 Lib.Math.min.name, Cond.static Lib.Math.min.name, Cond.initialized "java/lang/Math", Cond.code Lib.Math.min.name Lib.Math.min.code 2 (some .int), Cond.methodLink RX4 249 arraycopyName, Cond.native arraycopyName, Cond.static arraycopyName, Cond.initialized "java/lang/System", Cond.methodLink RX4 137 yX0_target, Cond.instanceMethod yX0_target, Cond.selects RX0 yX0_target yX0_target, Cond.code yX0_target cX0_target 1 (some .int), Cond.methodLink RX0 132 yX0_bound, Cond.instanceMethod yX0_bound, Cond.selects RX0 yX0_bound yX0_bound, Cond.code yX0_bound cX0_bound 3 (some .int), Cond.methodLink RX0 127 Lib.Math.max.name, Cond.static Lib.Math.max.name, Cond.code Lib.Math.max.name Lib.Math.max.code 2 (some .int), Cond.static yX4_at, Cond.code yX4_at cX4_at 2 (some .int)]
def wsL_areFewest_r3 : List Cond := [Cond.methodLink RX4 202 yX4_cheapest, Cond.static yX4_cheapest, Cond.code yX4_cheapest cX4_cheapest 11 (some .int), Cond.methodLink RX4 237 yX0_serversAbove, Cond.instanceMethod yX0_serversAbove, Cond.selects RX0 yX0_serversAbove yX0_serversAbove, Cond.code yX0_serversAbove cX0_serversAbove 4 (some .int), Cond.methodLink RX4 130 yX4_at, Cond.methodLink RX4 157 yX0_isOpen, Cond.instanceMethod yX0_isOpen, Cond.selects RX0 yX0_isOpen yX0_isOpen, Cond.code yX0_isOpen cX0_isOpen 2 (some .boolean), Cond.methodLink RX4 240 yX0_shiftLoad, Cond.instanceMethod yX0_shiftLoad, Cond.selects RX0 yX0_shiftLoad yX0_shiftLoad, Cond.code yX0_shiftLoad cX0_shiftLoad 4 none, Cond.static yX4_put, Cond.code yX4_put cX4_put 3 none, Cond.methodLink RL 13 yX4_count, Cond.instanceMethod yX4_count, Cond.selects RX4 yX4_count yX4_count, Cond.code yX4_count cX4_count 2 (some .int), Cond.fieldLink RX4 25 "EvenLoads" "history" "LEvenLoads$History;", Cond.fieldLink RX4 39 "EvenLoads" "program" "LEvenLoads$Program;"]
def wsL_areFewest_r4 : List Cond := [Cond.methodLink RX4 114 yX0_finishedJobs, Cond.instanceMethod yX0_finishedJobs, Cond.selects RX0 yX0_finishedJobs yX0_finishedJobs, Cond.code yX0_finishedJobs cX0_finishedJobs 3 (some .int), Cond.methodLink RX0 74 yX0_isFinished, Cond.instanceMethod yX0_isFinished, Cond.selects RX0 yX0_isFinished yX0_isFinished, Cond.code yX0_isFinished cX0_isFinished 2 (some .boolean), Cond.methodLink RX4 120 yX0_greatestLoad, Cond.instanceMethod yX0_greatestLoad, Cond.selects RX0 yX0_greatestLoad yX0_greatestLoad, Cond.code yX0_greatestLoad cX0_greatestLoad 1 (some .int), Cond.methodLink RX0 124 yX0_fullestServer, Cond.instanceMethod yX0_fullestServer, Cond.selects RX0 yX0_fullestServer yX0_fullestServer, Cond.code yX0_fullestServer cX0_fullestServer 4 (some .int), Cond.methodLink RX4 127 yX0_emptiestServer, Cond.instanceMethod yX0_emptiestServer, Cond.selects RX0 yX0_emptiestServer yX0_emptiestServer, Cond.code yX0_emptiestServer cX0_emptiestServer 4 (some .int), Cond.methodLink RX4 134 yX0_bound, Cond.methodLink RX4 140 yX0_isEven, Cond.instanceMethod yX0_isEven, Cond.selects RX0 yX0_isEven yX0_isEven]
def wsL_areFewest_r5 : List Cond := [Cond.code yX0_isEven cX0_isEven 1 (some .boolean), Cond.methodLink RX0 85 yX0_greatestLoad, Cond.methodLink RX0 77 yX0_target, Cond.methodLink RL 26 yL_sum, Cond.static yL_sum, Cond.initialized RL, Cond.code yL_sum cL_sum 4 (some .long), Cond.constantLong RL 9 (17), Cond.constantLong RL 11 (31), Cond.methodLink RL 19 yX4_server, Cond.instanceMethod yX4_server, Cond.selects RX4 yX4_server yX4_server, Cond.code yX4_server cX4_server 3 (some .int), Cond.methodLink RX4 153 yX0_hasServer, Cond.instanceMethod yX0_hasServer, Cond.selects RX0 yX0_hasServer yX0_hasServer, Cond.code yX0_hasServer cX0_hasServer 2 (some .boolean), Cond.methodLink RX4 160 yX0_jobsOn, Cond.instanceMethod yX0_jobsOn, Cond.selects RX0 yX0_jobsOn yX0_jobsOn, Cond.code yX0_jobsOn cX0_jobsOn 4 (some .int), Cond.methodLink RX4 163 yJ6_bitCount_0f7a4, Cond.static yJ6_bitCount_0f7a4, Cond.initialized RJ6]
def wsL_areFewest_r6 : List Cond := [Cond.code yJ6_bitCount_0f7a4 cJ6_bitCount_0f7a4 1 (some .int), Cond.constant RJ6 265 (1431655765), Cond.constant RJ6 266 (858993459), Cond.constant RJ6 267 (252645135), Cond.methodLink RL 23 yX4_job, Cond.instanceMethod yX4_job, Cond.selects RX4 yX4_job yX4_job, Cond.code yX4_job cX4_job 3 (some .int), Cond.methodLink RX4 168 yX0_hasJob, Cond.instanceMethod yX0_hasJob, Cond.selects RX0 yX0_hasJob yX0_hasJob, Cond.code yX0_hasJob cX0_hasJob 2 (some .boolean), Cond.methodLink RL 45 yX4_move, Cond.instanceMethod yX4_move, Cond.selects RX4 yX4_move yX4_move, Cond.code yX4_move cX4_move 3 (some .int), Cond.fieldLink RX4 16 "EvenLoads" "before" "LEvenLoads$Cluster;", Cond.methodLink RX4 68 yX0_moveJob, Cond.instanceMethod yX0_moveJob, Cond.selects RX0 yX0_moveJob yX0_moveJob, Cond.code yX0_moveJob cX0_moveJob 3 (some .int), Cond.methodLink RX0 71 yX0_hasJob, Cond.methodLink RX0 60 yX0_hasServer, Cond.methodLink RX0 64 yX0_isOpen]
def wsL_areFewest_r7 : List Cond := [Cond.methodLink RX0 81 yX0_takeTo, Cond.instanceMethod yX0_takeTo, Cond.selects RX0 yX0_takeTo yX0_takeTo, Cond.code yX0_takeTo cX0_takeTo 3 none, Cond.methodLink RX0 114 yX0_shiftLoad, Cond.methodLink RX4 51 yX4_recorded, Cond.instanceMethod yX4_recorded, Cond.selects RX4 yX4_recorded yX4_recorded, Cond.code yX4_recorded cX4_recorded 2 (some .int), Cond.methodLink RX4 209 yX1_keep, Cond.instanceMethod yX1_keep, Cond.selects RX1 yX1_keep yX1_keep, Cond.initialized RX1, Cond.code yX1_keep cX1_keep 3 none, Cond.fieldLink RX1 21 "EvenLoads$History" "free" "I", Cond.fieldLink RX1 17 "EvenLoads$History" "depth" "I", Cond.methodLink RX1 33 Lib.Math.min.name, Cond.methodLink RX1 25 yX1_stateAt, Cond.instanceMethod yX1_stateAt, Cond.selects RX1 yX1_stateAt yX1_stateAt, Cond.code yX1_stateAt cX1_stateAt 2 (some (.object "EvenLoads$Cluster")), Cond.fieldLink RX1 11 "EvenLoads$History" "states" "[LEvenLoads$Cluster;", Cond.methodLink RX1 29 yX0_copyFrom, Cond.methodLink RL 83 yX4_undo]
def wsL_areFewest_r8 : List Cond := [Cond.instanceMethod yX4_undo, Cond.selects RX4 yX4_undo yX4_undo, Cond.code yX4_undo cX4_undo 1 (some .int), Cond.methodLink RX4 88 yX1_takeLatest, Cond.instanceMethod yX1_takeLatest, Cond.selects RX1 yX1_takeLatest yX1_takeLatest, Cond.code yX1_takeLatest cX1_takeLatest 4 (some .boolean)]
def wsL_areFewest : List Cond := .code yL_areFewest cL_areFewest 9 (some .boolean) :: ((wsL_areFewest_r1 ++ (wsL_areFewest_r2 ++ (wsL_areFewest_r3 ++ (wsL_areFewest_r4 ++ (wsL_areFewest_r5 ++ (wsL_areFewest_r6 ++ (wsL_areFewest_r7 ++ wsL_areFewest_r8))))))) ++ wsX40 ++ wsX00 ++ wsX10 ++ wsX20)
set_option maxRecDepth 20000 in
theorem ggL_areFewest_X4_fewest : GoodIn wsL_areFewest wsX4_fewest := goodIn_r _ [5, 6, 7, 8, 9, 10, 11, 12, 13, 14, 15, 16, 17, 18, 19, 20, 21, 22, 23, 24, 25, 26, 4, 27, 28, 29, 30, 31, 32, 33, 34, 35, 36, 37, 38, 39, 40, 41, 42, 43, 44, 45, 46, 47, 48, 49, 50, 51, 52, 53, 54, 55, 56, 57, 58, 59, 60, 61, 62, 63, 64, 65, 66, 176, 177, 178, 179, 180, 181, 182, 183, 184, 185, 186, 187, 188, 189, 190, 191, 192, 193, 194] (by decide +kernel) (by decide +kernel)
set_option maxRecDepth 20000 in
theorem gL_areFewest_X4_fewest : GoodIn wsL_areFewest (wsV RL 72 RX4 yX4_fewest wsX4_fewest) := goodIn_app (goodIn_of _ (by decide +kernel)) ggL_areFewest_X4_fewest
set_option maxRecDepth 20000 in
theorem ggL_areFewest_X4_count : GoodIn wsL_areFewest wsX4_count := goodIn_r _ [70, 7, 71, 72, 73, 74, 75, 11, 76, 21, 77, 78, 79, 80, 15, 47, 4, 48, 81, 82, 83, 84, 17, 85, 86, 87, 88, 19, 18, 89, 90, 91, 92, 56, 93, 41, 42, 43, 13, 44, 45, 30, 46, 20, 22, 36, 37, 38, 39, 24, 40, 94, 95, 96, 97, 98, 99, 176, 177, 178, 179, 180, 181, 182, 183, 184, 185, 186, 187, 188, 189, 190, 191, 192, 193, 194, 195, 196, 197, 198, 199, 200, 201, 202, 203, 204, 205] (by decide +kernel) (by decide +kernel)
set_option maxRecDepth 20000 in
theorem gL_areFewest_X4_count : GoodIn wsL_areFewest (wsV RL 13 RX4 yX4_count wsX4_count) := goodIn_app (goodIn_of _ (by decide +kernel)) ggL_areFewest_X4_count
set_option maxRecDepth 20000 in
theorem ggL_areFewest_L_sum : GoodIn wsL_areFewest wsL_sum := goodIn_r _ [103, 104, 105, 67, 68, 69, 4, 70, 7, 71, 72, 73, 74, 75, 11, 76, 21, 77, 78, 79, 80, 15, 47, 48, 81, 82, 83, 84, 17, 85, 86, 87, 88, 19, 18, 89, 90, 91, 92, 56, 93, 41, 42, 43, 13, 44, 45, 30, 46, 20, 22, 36, 37, 38, 39, 24, 40, 94, 95, 96, 97, 98, 99, 106, 107, 108, 109, 110, 111, 112, 113, 57, 58, 59, 60, 114, 115, 116, 117, 118, 119, 120, 121, 122, 123, 124, 125, 126, 127, 128, 129, 130, 131, 132, 176, 177, 178, 179, 180, 181, 182, 183, 184, 185, 186, 187, 188, 189, 190, 191, 192, 193, 194, 195, 196, 197, 198, 199, 200, 201, 202, 203, 204, 205] (by decide +kernel) (by decide +kernel)
set_option maxRecDepth 20000 in
theorem gL_areFewest_L_sum : GoodIn wsL_areFewest (va_wsS RL 26 yL_sum wsL_sum) := goodIn_app (goodIn_of _ (by decide +kernel)) ggL_areFewest_L_sum
set_option maxRecDepth 20000 in
theorem ggL_areFewest_X4_job : GoodIn wsL_areFewest wsX4_job := goodIn_r _ [128, 7, 129, 130, 131, 11, 132, 21, 56, 47, 4, 48, 176, 177, 178, 179, 180, 181, 182, 183, 184, 185, 186, 187, 188, 189, 190, 191, 192, 193, 194] (by decide +kernel) (by decide +kernel)
set_option maxRecDepth 20000 in
theorem gL_areFewest_X4_job : GoodIn wsL_areFewest (wsV RL 23 RX4 yX4_job wsX4_job) := goodIn_app (goodIn_of _ (by decide +kernel)) ggL_areFewest_X4_job
set_option maxRecDepth 20000 in
theorem ggL_areFewest_X4_move : GoodIn wsL_areFewest wsX4_move := goodIn_r _ [136, 137, 7, 8, 9, 10, 11, 12, 13, 14, 15, 16, 17, 18, 19, 20, 21, 22, 23, 24, 25, 26, 4, 27, 28, 29, 30, 31, 32, 33, 34, 35, 138, 139, 140, 141, 142, 130, 131, 132, 143, 111, 112, 113, 77, 78, 79, 80, 47, 48, 144, 58, 59, 60, 145, 146, 147, 148, 149, 62, 63, 64, 65, 66, 98, 82, 83, 84, 85, 86, 87, 88, 150, 151, 152, 153, 71, 154, 155, 156, 157, 158, 159, 160, 161, 162, 163, 164, 165, 166, 167, 176, 177, 178, 179, 180, 181, 182, 183, 184, 185, 186, 187, 188, 189, 190, 191, 192, 193, 194, 195, 196, 197] (by decide +kernel) (by decide +kernel)
set_option maxRecDepth 20000 in
theorem gL_areFewest_X4_move : GoodIn wsL_areFewest (wsV RL 45 RX4 yX4_move wsX4_move) := goodIn_app (goodIn_of _ (by decide +kernel)) ggL_areFewest_X4_move
set_option maxRecDepth 20000 in
theorem ggL_areFewest_X4_undo : GoodIn wsL_areFewest wsX4_undo := goodIn_r _ [171, 71, 7, 172, 173, 174, 157, 175, 159, 160, 162, 163, 164, 165, 166, 167, 9, 10, 11, 12, 13, 14, 15, 16, 17, 18, 19, 20, 21, 22, 23, 24, 25, 26, 4, 27, 28, 29, 30, 31, 32, 33, 34, 35, 176, 177, 178, 179, 180, 181, 195, 196, 197, 182, 183, 184, 185, 186, 187, 188, 189, 190, 191, 192, 193, 194] (by decide +kernel) (by decide +kernel)
set_option maxRecDepth 20000 in
theorem gL_areFewest_X4_undo : GoodIn wsL_areFewest (wsV RL 83 RX4 yX4_undo wsX4_undo) := goodIn_app (goodIn_of _ (by decide +kernel)) ggL_areFewest_X4_undo
theorem dL_areFewest_0 : decode cL_areFewest 0 = .ok (.aload_n 0, 1) := by decide +kernel
theorem dL_areFewest_1 : decode cL_areFewest 1 = .ok (.iconst 0, 1) := by decide +kernel
theorem dL_areFewest_2 : decode cL_areFewest 2 = .ok (.invokevirtual 72, 3) := by decide +kernel
theorem dL_areFewest_5 : decode cL_areFewest 5 = .ok (.istore_n 1, 1) := by decide +kernel
theorem dL_areFewest_6 : decode cL_areFewest 6 = .ok (.aload_n 0, 1) := by decide +kernel
theorem dL_areFewest_7 : decode cL_areFewest 7 = .ok (.iconst 1, 1) := by decide +kernel
theorem dL_areFewest_8 : decode cL_areFewest 8 = .ok (.invokevirtual 72, 3) := by decide +kernel
theorem dL_areFewest_11 : decode cL_areFewest 11 = .ok (.istore_n 2, 1) := by decide +kernel
theorem dL_areFewest_12 : decode cL_areFewest 12 = .ok (.iload_n 1, 1) := by decide +kernel
theorem dL_areFewest_13 : decode cL_areFewest 13 = .ok (.bipush (-9), 2) := by decide +kernel
theorem dL_areFewest_15 : decode cL_areFewest 15 = .ok (.if_icmp .ne 7, 3) := by decide +kernel
theorem dL_areFewest_18 : decode cL_areFewest 18 = .ok (.iconst 1, 1) := by decide +kernel
theorem dL_areFewest_19 : decode cL_areFewest 19 = .ok (.goto 4, 3) := by decide +kernel
theorem dL_areFewest_22 : decode cL_areFewest 22 = .ok (.iconst 0, 1) := by decide +kernel
theorem dL_areFewest_23 : decode cL_areFewest 23 = .ok (.iload_n 2, 1) := by decide +kernel
theorem dL_areFewest_24 : decode cL_areFewest 24 = .ok (.bipush (-9), 2) := by decide +kernel
theorem dL_areFewest_26 : decode cL_areFewest 26 = .ok (.if_icmp .ne 7, 3) := by decide +kernel
theorem dL_areFewest_29 : decode cL_areFewest 29 = .ok (.iconst 1, 1) := by decide +kernel
theorem dL_areFewest_30 : decode cL_areFewest 30 = .ok (.goto 4, 3) := by decide +kernel
theorem dL_areFewest_33 : decode cL_areFewest 33 = .ok (.iconst 0, 1) := by decide +kernel
theorem dL_areFewest_34 : decode cL_areFewest 34 = .ok (.if_icmp .ne 47, 3) := by decide +kernel
theorem dL_areFewest_37 : decode cL_areFewest 37 = .ok (.iload_n 1, 1) := by decide +kernel
theorem dL_areFewest_38 : decode cL_areFewest 38 = .ok (.ifCond .ne 7, 3) := by decide +kernel
theorem dL_areFewest_41 : decode cL_areFewest 41 = .ok (.iconst 1, 1) := by decide +kernel
theorem dL_areFewest_42 : decode cL_areFewest 42 = .ok (.goto 4, 3) := by decide +kernel
theorem dL_areFewest_45 : decode cL_areFewest 45 = .ok (.iconst 0, 1) := by decide +kernel
theorem dL_areFewest_46 : decode cL_areFewest 46 = .ok (.aload_n 0, 1) := by decide +kernel
theorem dL_areFewest_47 : decode cL_areFewest 47 = .ok (.bipush 9, 2) := by decide +kernel
theorem dL_areFewest_49 : decode cL_areFewest 49 = .ok (.invokevirtual 13, 3) := by decide +kernel
theorem dL_areFewest_52 : decode cL_areFewest 52 = .ok (.iconst 1, 1) := by decide +kernel
theorem dL_areFewest_53 : decode cL_areFewest 53 = .ok (.if_icmp .ne 7, 3) := by decide +kernel
theorem dL_areFewest_56 : decode cL_areFewest 56 = .ok (.iconst 1, 1) := by decide +kernel
theorem dL_areFewest_57 : decode cL_areFewest 57 = .ok (.goto 4, 3) := by decide +kernel
theorem dL_areFewest_60 : decode cL_areFewest 60 = .ok (.iconst 0, 1) := by decide +kernel
theorem dL_areFewest_61 : decode cL_areFewest 61 = .ok (.if_icmp .ne 20, 3) := by decide +kernel
theorem dL_areFewest_64 : decode cL_areFewest 64 = .ok (.iload_n 1, 1) := by decide +kernel
theorem dL_areFewest_65 : decode cL_areFewest 65 = .ok (.iconst 2, 1) := by decide +kernel
theorem dL_areFewest_66 : decode cL_areFewest 66 = .ok (.if_icmp .gt 15, 3) := by decide +kernel
theorem dL_areFewest_69 : decode cL_areFewest 69 = .ok (.iload_n 1, 1) := by decide +kernel
theorem dL_areFewest_70 : decode cL_areFewest 70 = .ok (.ifCond .ne 7, 3) := by decide +kernel
theorem dL_areFewest_73 : decode cL_areFewest 73 = .ok (.iload_n 2, 1) := by decide +kernel
theorem dL_areFewest_74 : decode cL_areFewest 74 = .ok (.ifCond .ne 7, 3) := by decide +kernel
theorem dL_areFewest_77 : decode cL_areFewest 77 = .ok (.iconst 1, 1) := by decide +kernel
theorem dL_areFewest_78 : decode cL_areFewest 78 = .ok (.goto 4, 3) := by decide +kernel
theorem dL_areFewest_81 : decode cL_areFewest 81 = .ok (.iconst 0, 1) := by decide +kernel
theorem dL_areFewest_82 : decode cL_areFewest 82 = .ok (.istore_n 3, 1) := by decide +kernel
theorem dL_areFewest_83 : decode cL_areFewest 83 = .ok (.aload_n 0, 1) := by decide +kernel
theorem dL_areFewest_84 : decode cL_areFewest 84 = .ok (.invokestatic 26, 3) := by decide +kernel
theorem dL_areFewest_87 : decode cL_areFewest 87 = .ok (.lstore 4, 2) := by decide +kernel
theorem dL_areFewest_89 : decode cL_areFewest 89 = .ok (.aload_n 0, 1) := by decide +kernel
theorem dL_areFewest_90 : decode cL_areFewest 90 = .ok (.bipush 10, 2) := by decide +kernel
theorem dL_areFewest_92 : decode cL_areFewest 92 = .ok (.invokevirtual 13, 3) := by decide +kernel
theorem dL_areFewest_95 : decode cL_areFewest 95 = .ok (.istore 6, 2) := by decide +kernel
theorem dL_areFewest_97 : decode cL_areFewest 97 = .ok (.iconst 0, 1) := by decide +kernel
theorem dL_areFewest_98 : decode cL_areFewest 98 = .ok (.istore 7, 2) := by decide +kernel
theorem dL_areFewest_100 : decode cL_areFewest 100 = .ok (.iload 7, 2) := by decide +kernel
theorem dL_areFewest_102 : decode cL_areFewest 102 = .ok (.aload_n 0, 1) := by decide +kernel
theorem dL_areFewest_103 : decode cL_areFewest 103 = .ok (.iconst 2, 1) := by decide +kernel
theorem dL_areFewest_104 : decode cL_areFewest 104 = .ok (.invokevirtual 13, 3) := by decide +kernel
theorem dL_areFewest_107 : decode cL_areFewest 107 = .ok (.if_icmp .ge 111, 3) := by decide +kernel
theorem dL_areFewest_110 : decode cL_areFewest 110 = .ok (.iload_n 3, 1) := by decide +kernel
theorem dL_areFewest_111 : decode cL_areFewest 111 = .ok (.ifCond .eq 107, 3) := by decide +kernel
theorem dL_areFewest_114 : decode cL_areFewest 114 = .ok (.iload_n 1, 1) := by decide +kernel
theorem dL_areFewest_115 : decode cL_areFewest 115 = .ok (.ifCond .eq 103, 3) := by decide +kernel
theorem dL_areFewest_118 : decode cL_areFewest 118 = .ok (.iconst 0, 1) := by decide +kernel
theorem dL_areFewest_119 : decode cL_areFewest 119 = .ok (.istore 8, 2) := by decide +kernel
theorem dL_areFewest_121 : decode cL_areFewest 121 = .ok (.iload 8, 2) := by decide +kernel
theorem dL_areFewest_123 : decode cL_areFewest 123 = .ok (.aload_n 0, 1) := by decide +kernel
theorem dL_areFewest_124 : decode cL_areFewest 124 = .ok (.iconst 0, 1) := by decide +kernel
theorem dL_areFewest_125 : decode cL_areFewest 125 = .ok (.invokevirtual 13, 3) := by decide +kernel
theorem dL_areFewest_128 : decode cL_areFewest 128 = .ok (.if_icmp .ge 84, 3) := by decide +kernel
theorem dL_areFewest_131 : decode cL_areFewest 131 = .ok (.iload_n 3, 1) := by decide +kernel
theorem dL_areFewest_132 : decode cL_areFewest 132 = .ok (.ifCond .eq 80, 3) := by decide +kernel
theorem dL_areFewest_135 : decode cL_areFewest 135 = .ok (.aload_n 0, 1) := by decide +kernel
theorem dL_areFewest_136 : decode cL_areFewest 136 = .ok (.iload 7, 2) := by decide +kernel
theorem dL_areFewest_138 : decode cL_areFewest 138 = .ok (.iconst 1, 1) := by decide +kernel
theorem dL_areFewest_139 : decode cL_areFewest 139 = .ok (.invokevirtual 23, 3) := by decide +kernel
theorem dL_areFewest_142 : decode cL_areFewest 142 = .ok (.iload 6, 2) := by decide +kernel
theorem dL_areFewest_144 : decode cL_areFewest 144 = .ok (.if_icmp .gt 62, 3) := by decide +kernel
theorem dL_areFewest_147 : decode cL_areFewest 147 = .ok (.aload_n 0, 1) := by decide +kernel
theorem dL_areFewest_148 : decode cL_areFewest 148 = .ok (.iload 7, 2) := by decide +kernel
theorem dL_areFewest_150 : decode cL_areFewest 150 = .ok (.iload 8, 2) := by decide +kernel
theorem dL_areFewest_152 : decode cL_areFewest 152 = .ok (.invokevirtual 45, 3) := by decide +kernel
theorem dL_areFewest_155 : decode cL_areFewest 155 = .ok (.ifCond .lt 51, 3) := by decide +kernel
theorem dL_areFewest_158 : decode cL_areFewest 158 = .ok (.aload_n 0, 1) := by decide +kernel
theorem dL_areFewest_159 : decode cL_areFewest 159 = .ok (.bipush 9, 2) := by decide +kernel
theorem dL_areFewest_161 : decode cL_areFewest 161 = .ok (.invokevirtual 13, 3) := by decide +kernel
theorem dL_areFewest_164 : decode cL_areFewest 164 = .ok (.ifCond .eq 19, 3) := by decide +kernel
theorem dL_areFewest_167 : decode cL_areFewest 167 = .ok (.iload_n 1, 1) := by decide +kernel
theorem dL_areFewest_168 : decode cL_areFewest 168 = .ok (.iconst 1, 1) := by decide +kernel
theorem dL_areFewest_169 : decode cL_areFewest 169 = .ok (.if_icmp .ne 18, 3) := by decide +kernel
theorem dL_areFewest_172 : decode cL_areFewest 172 = .ok (.iload_n 2, 1) := by decide +kernel
theorem dL_areFewest_173 : decode cL_areFewest 173 = .ok (.aload_n 0, 1) := by decide +kernel
theorem dL_areFewest_174 : decode cL_areFewest 174 = .ok (.iload 7, 2) := by decide +kernel
theorem dL_areFewest_176 : decode cL_areFewest 176 = .ok (.iconst 1, 1) := by decide +kernel
theorem dL_areFewest_177 : decode cL_areFewest 177 = .ok (.invokevirtual 23, 3) := by decide +kernel
theorem dL_areFewest_180 : decode cL_areFewest 180 = .ok (.if_icmp .gt 7, 3) := by decide +kernel
theorem dL_areFewest_183 : decode cL_areFewest 183 = .ok (.iconst 1, 1) := by decide +kernel
theorem dL_areFewest_184 : decode cL_areFewest 184 = .ok (.goto 4, 3) := by decide +kernel
theorem dL_areFewest_187 : decode cL_areFewest 187 = .ok (.iconst 0, 1) := by decide +kernel
theorem dL_areFewest_188 : decode cL_areFewest 188 = .ok (.istore_n 3, 1) := by decide +kernel
theorem dL_areFewest_189 : decode cL_areFewest 189 = .ok (.aload_n 0, 1) := by decide +kernel
theorem dL_areFewest_190 : decode cL_areFewest 190 = .ok (.invokevirtual 83, 3) := by decide +kernel
theorem dL_areFewest_193 : decode cL_areFewest 193 = .ok (.ifCond .lt 11, 3) := by decide +kernel
theorem dL_areFewest_196 : decode cL_areFewest 196 = .ok (.iload_n 3, 1) := by decide +kernel
theorem dL_areFewest_197 : decode cL_areFewest 197 = .ok (.ifCond .eq 7, 3) := by decide +kernel
theorem dL_areFewest_200 : decode cL_areFewest 200 = .ok (.iconst 1, 1) := by decide +kernel
theorem dL_areFewest_201 : decode cL_areFewest 201 = .ok (.goto 4, 3) := by decide +kernel
theorem dL_areFewest_204 : decode cL_areFewest 204 = .ok (.iconst 0, 1) := by decide +kernel
theorem dL_areFewest_205 : decode cL_areFewest 205 = .ok (.istore_n 3, 1) := by decide +kernel
theorem dL_areFewest_206 : decode cL_areFewest 206 = .ok (.iinc 8 1, 3) := by decide +kernel
theorem dL_areFewest_209 : decode cL_areFewest 209 = .ok (.goto (-88), 3) := by decide +kernel
theorem dL_areFewest_212 : decode cL_areFewest 212 = .ok (.iinc 7 1, 3) := by decide +kernel
theorem dL_areFewest_215 : decode cL_areFewest 215 = .ok (.goto (-115), 3) := by decide +kernel
theorem dL_areFewest_218 : decode cL_areFewest 218 = .ok (.iload_n 3, 1) := by decide +kernel
theorem dL_areFewest_219 : decode cL_areFewest 219 = .ok (.ifCond .eq 17, 3) := by decide +kernel
theorem dL_areFewest_222 : decode cL_areFewest 222 = .ok (.aload_n 0, 1) := by decide +kernel
theorem dL_areFewest_223 : decode cL_areFewest 223 = .ok (.invokestatic 26, 3) := by decide +kernel
theorem dL_areFewest_226 : decode cL_areFewest 226 = .ok (.lload 4, 2) := by decide +kernel
theorem dL_areFewest_228 : decode cL_areFewest 228 = .ok (.lcmp, 1) := by decide +kernel
theorem dL_areFewest_229 : decode cL_areFewest 229 = .ok (.ifCond .ne 7, 3) := by decide +kernel
theorem dL_areFewest_232 : decode cL_areFewest 232 = .ok (.iconst 1, 1) := by decide +kernel
theorem dL_areFewest_233 : decode cL_areFewest 233 = .ok (.goto 4, 3) := by decide +kernel
theorem dL_areFewest_236 : decode cL_areFewest 236 = .ok (.iconst 0, 1) := by decide +kernel
theorem dL_areFewest_237 : decode cL_areFewest 237 = .ok (.ireturn, 1) := by decide +kernel
