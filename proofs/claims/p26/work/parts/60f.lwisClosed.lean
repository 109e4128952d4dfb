def wsL_isClosed_r1 : List Cond := [Cond.methodLink RL 75 yX4_without, Cond.instanceMethod yX4_without, Cond.selects RX4 yX4_without yX4_without, Cond.initialized RX4, Cond.code yX4_without cX4_without 2 (some .int), Cond.fieldLink RX4 10 "EvenLoads" "now" "LEvenLoads$Cluster;", Cond.fieldLink RX4 19 "EvenLoads" "trial" "LEvenLoads$Cluster;", Cond.methodLink RX4 153 yX0_hasServer, Cond.instanceMethod yX0_hasServer, Cond.selects RX0 yX0_hasServer yX0_hasServer, Cond.initialized RX0, Cond.code yX0_hasServer cX0_hasServer 2 (some .boolean), Cond.fieldLink RX0 30 "EvenLoads$Cluster" "servers" "I", Cond.methodLink RX4 157 yX0_isOpen, Cond.instanceMethod yX0_isOpen, Cond.selects RX0 yX0_isOpen yX0_isOpen, Cond.code yX0_isOpen cX0_isOpen 2 (some .boolean), Cond.fieldLink RX0 27 "EvenLoads$Cluster" "opened" "[I", Cond.static yX4_at, Cond.code yX4_at cX4_at 2 (some .int), Cond.methodLink RX4 43 yX0_copyFrom, Cond.instanceMethod yX0_copyFrom, Cond.selects RX0 yX0_copyFrom yX0_copyFrom, Cond.code yX0_copyFrom cX0_copyFrom 2 none]
def wsL_isClosed_r2 : List Cond := [Cond.fieldLink RX0 9 "EvenLoads$Cluster" "sizes" "[I", Cond.fieldLink RX0 15 "EvenLoads$Cluster" "prices" "[I", Cond.fieldLink RX0 18 "EvenLoads$Cluster" "places" "[I", Cond.fieldLink RX0 21 "EvenLoads$Cluster" "moved" "[I", Cond.fieldLink RX0 24 "EvenLoads$Cluster" "loads" "[I", Cond.fieldLink RX0 34 "EvenLoads$Cluster" "openServers" "I", Cond.fieldLink RX0 37 "EvenLoads$Cluster" "jobs" "I", Cond.fieldLink RX0 40 "EvenLoads$Cluster" "sum" "I", Cond.fieldLink RX0 43 "EvenLoads$Cluster" "budget" "I", Cond.fieldLink RX0 46 "EvenLoads$Cluster" "factor" "I", Cond.fieldLink RX0 49 "EvenLoads$Cluster" "moves" "I", Cond.static yX4_copyRow, Cond.code yX4_copyRow cX4_copyRow 2 none, Cond.methodLink RX4 244 Lib.Math.min.name, Cond.static Lib.Math.min.name, Cond.initialized "java/lang/Math", Cond.code Lib.Math.min.name Lib.Math.min.code 2 (some .int), Cond.methodLink RX4 249 arraycopyName, Cond.native arraycopyName, Cond.static arraycopyName, Cond.initialized "java/lang/System", Cond.methodLink RX4 206 yX0_closeAndEmpty, Cond.instanceMethod yX0_closeAndEmpty, Cond.selects RX0 yX0_closeAndEmpty yX0_closeAndEmpty]
def wsL_isClosed_r3 : List Cond := [Cond.code yX0_closeAndEmpty cX0_closeAndEmpty 4 (some .int), Cond.static yX4_put, Cond.code yX4_put cX4_put 3 none, Cond.methodLink RX0 99 yX0_jobsOn, Cond.instanceMethod yX0_jobsOn, Cond.selects RX0 yX0_jobsOn yX0_jobsOn, Cond.code yX0_jobsOn cX0_jobsOn 4 (some .int), Cond.methodLink RX0 102 yJ6_bitCount_0f7a4, Cond.static yJ6_bitCount_0f7a4, Cond.initialized RJ6, Cond.code yJ6_bitCount_0f7a4 cJ6_bitCount_0f7a4 1 (some .int), Cond.constant RJ6 265 (1431655765), Cond.constant RJ6 266 (858993459), Cond.constant RJ6 267 (252645135), Cond.methodLink RX0 107 yX0_leavingJob, Cond.instanceMethod yX0_leavingJob, Cond.selects RX0 yX0_leavingJob yX0_leavingJob, Cond.code yX0_leavingJob cX0_leavingJob 4 (some .int), Cond.methodLink RX0 118 yX0_jobsLeavingBefore, Cond.instanceMethod yX0_jobsLeavingBefore, Cond.selects RX0 yX0_jobsLeavingBefore yX0_jobsLeavingBefore, Cond.code yX0_jobsLeavingBefore cX0_jobsLeavingBefore 4 (some .int), Cond.methodLink RX0 121 yX0_leavesBefore, Cond.instanceMethod yX0_leavesBefore]
def wsL_isClosed_r4 : List Cond := [Cond.selects RX0 yX0_leavesBefore yX0_leavesBefore, Cond.code yX0_leavesBefore cX0_leavesBefore 3 (some .boolean), Cond.methodLink RX0 111 yX0_emptiestServer, Cond.instanceMethod yX0_emptiestServer, Cond.selects RX0 yX0_emptiestServer yX0_emptiestServer, Cond.code yX0_emptiestServer cX0_emptiestServer 4 (some .int), Cond.methodLink RX0 81 yX0_takeTo, Cond.instanceMethod yX0_takeTo, Cond.selects RX0 yX0_takeTo yX0_takeTo, Cond.code yX0_takeTo cX0_takeTo 3 none, Cond.methodLink RX0 114 yX0_shiftLoad, Cond.instanceMethod yX0_shiftLoad, Cond.selects RX0 yX0_shiftLoad yX0_shiftLoad, Cond.code yX0_shiftLoad cX0_shiftLoad 4 none, Cond.methodLink RX4 120 yX0_greatestLoad, Cond.instanceMethod yX0_greatestLoad, Cond.selects RX0 yX0_greatestLoad yX0_greatestLoad, Cond.code yX0_greatestLoad cX0_greatestLoad 1 (some .int), Cond.methodLink RX0 124 yX0_fullestServer, Cond.instanceMethod yX0_fullestServer, Cond.selects RX0 yX0_fullestServer yX0_fullestServer, Cond.code yX0_fullestServer cX0_fullestServer 4 (some .int), Cond.methodLink RL 19 yX4_server, Cond.instanceMethod yX4_server]
def wsL_isClosed_r5 : List Cond := [Cond.selects RX4 yX4_server yX4_server, Cond.code yX4_server cX4_server 3 (some .int), Cond.methodLink RX4 130 yX4_at, Cond.methodLink RX4 160 yX0_jobsOn, Cond.methodLink RX4 163 yJ6_bitCount_0f7a4, Cond.methodLink RL 13 yX4_count, Cond.instanceMethod yX4_count, Cond.selects RX4 yX4_count yX4_count, Cond.code yX4_count cX4_count 2 (some .int), Cond.fieldLink RX4 25 "EvenLoads" "history" "LEvenLoads$History;", Cond.fieldLink RX4 39 "EvenLoads" "program" "LEvenLoads$Program;", Cond.methodLink RX4 114 yX0_finishedJobs, Cond.instanceMethod yX0_finishedJobs, Cond.selects RX0 yX0_finishedJobs yX0_finishedJobs, Cond.code yX0_finishedJobs cX0_finishedJobs 3 (some .int), Cond.methodLink RX0 74 yX0_isFinished, Cond.instanceMethod yX0_isFinished, Cond.selects RX0 yX0_isFinished yX0_isFinished, Cond.code yX0_isFinished cX0_isFinished 2 (some .boolean), Cond.methodLink RX4 127 yX0_emptiestServer, Cond.methodLink RX4 134 yX0_bound, Cond.instanceMethod yX0_bound, Cond.selects RX0 yX0_bound yX0_bound, Cond.code yX0_bound cX0_bound 3 (some .int)]
def wsL_isClosed_r6 : List Cond := [Cond.methodLink RX0 127 Lib.Math.max.name, Cond.static Lib.Math.max.name, Cond.code Lib.Math.max.name Lib.Math.max.code 2 (some .int), Cond.methodLink RX4 137 yX0_target, Cond.instanceMethod yX0_target, Cond.selects RX0 yX0_target yX0_target, Cond.code yX0_target cX0_target 1 (some .int), Cond.methodLink RX0 132 yX0_bound, Cond.methodLink RX4 140 yX0_isEven, Cond.instanceMethod yX0_isEven, Cond.selects RX0 yX0_isEven yX0_isEven, Cond.code yX0_isEven cX0_isEven 1 (some .boolean), Cond.methodLink RX0 85 yX0_greatestLoad, Cond.methodLink RX0 77 yX0_target, Cond.methodLink RL 57 yX4_close, Cond.instanceMethod yX4_close, Cond.selects RX4 yX4_close yX4_close, Cond.code yX4_close cX4_close 2 (some .int), Cond.fieldLink RX4 16 "EvenLoads" "before" "LEvenLoads$Cluster;", Cond.methodLink RX4 82 yX0_closeServer, Cond.instanceMethod yX0_closeServer, Cond.selects RX0 yX0_closeServer yX0_closeServer, Cond.code yX0_closeServer cX0_closeServer 2 (some .int), Cond.methodLink RX0 60 yX0_hasServer]
def wsL_isClosed_r7 : List Cond := [Cond.methodLink RX0 64 yX0_isOpen, Cond.methodLink RX0 92 yX0_priceOfAll, Cond.instanceMethod yX0_priceOfAll, Cond.selects RX0 yX0_priceOfAll yX0_priceOfAll, Cond.code yX0_priceOfAll cX0_priceOfAll 4 (some .int), Cond.methodLink RX0 96 yX0_closeAndEmpty, Cond.methodLink RX4 51 yX4_recorded, Cond.instanceMethod yX4_recorded, Cond.selects RX4 yX4_recorded yX4_recorded, Cond.code yX4_recorded cX4_recorded 2 (some .int), Cond.methodLink RX4 209 yX1_keep, Cond.instanceMethod yX1_keep, Cond.selects RX1 yX1_keep yX1_keep, Cond.initialized RX1, Cond.code yX1_keep cX1_keep 3 none, Cond.fieldLink RX1 21 "EvenLoads$History" "free" "I", Cond.fieldLink RX1 17 "EvenLoads$History" "depth" "I", Cond.methodLink RX1 33 Lib.Math.min.name, Cond.methodLink RX1 25 yX1_stateAt, Cond.instanceMethod yX1_stateAt, Cond.selects RX1 yX1_stateAt yX1_stateAt, Cond.code yX1_stateAt cX1_stateAt 2 (some (.object "EvenLoads$Cluster")), Cond.fieldLink RX1 11 "EvenLoads$History" "states" "[LEvenLoads$Cluster;", Cond.methodLink RX1 29 yX0_copyFrom]
def wsL_isClosed_r8 : List Cond := [Cond.methodLink RL 26 yL_sum, Cond.static yL_sum, Cond.initialized RL, Cond.code yL_sum cL_sum 4 (some .long), Cond.constantLong RL 9 (17), Cond.constantLong RL 11 (31), Cond.methodLink RL 23 yX4_job, Cond.instanceMethod yX4_job, Cond.selects RX4 yX4_job yX4_job, Cond.code yX4_job cX4_job 3 (some .int), Cond.methodLink RX4 168 yX0_hasJob, Cond.instanceMethod yX0_hasJob, Cond.selects RX0 yX0_hasJob yX0_hasJob, Cond.code yX0_hasJob cX0_hasJob 2 (some .boolean), Cond.methodLink RL 63 yX4_leaving, Cond.instanceMethod yX4_leaving, Cond.selects RX4 yX4_leaving yX4_leaving, Cond.code yX4_leaving cX4_leaving 3 (some .int), Cond.methodLink RX4 183 yX0_leavingJob, Cond.methodLink RL 83 yX4_undo, Cond.instanceMethod yX4_undo, Cond.selects RX4 yX4_undo yX4_undo, Cond.code yX4_undo cX4_undo 1 (some .int), Cond.methodLink RX4 88 yX1_takeLatest]
def wsL_isClosed_r9 : List Cond := [Cond.instanceMethod yX1_takeLatest, Cond.selects RX1 yX1_takeLatest yX1_takeLatest, Cond.code yX1_takeLatest cX1_takeLatest 4 (some .boolean)]
def wsL_isClosed : List Cond := .code yL_isClosed cL_isClosed 9 (some .boolean) :: ((wsL_isClosed_r1 ++ (wsL_isClosed_r2 ++ (wsL_isClosed_r3 ++ (wsL_isClosed_r4 ++ (wsL_isClosed_r5 ++ (wsL_isClosed_r6 ++ (wsL_isClosed_r7 ++ (wsL_isClosed_r8 ++ wsL_isClosed_r9)))))))) ++ wsX40 ++ wsX00 ++ wsX10 ++ wsX20)
set_option maxRecDepth 20000 in
theorem ggL_isClosed_X4_without : GoodIn wsL_isClosed wsX4_without := goodIn_r _ [5, 6, 7, 8, 9, 10, 11, 12, 13, 14, 15, 16, 17, 18, 19, 4, 20, 21, 22, 23, 24, 25, 26, 27, 28, 29, 30, 31, 32, 33, 34, 35, 36, 37, 38, 39, 40, 41, 42, 43, 44, 45, 46, 47, 48, 49, 50, 51, 52, 53, 54, 55, 56, 57, 58, 59, 60, 61, 62, 63, 64, 65, 66, 67, 68, 69, 70, 71, 72, 73, 74, 75, 76, 77, 78, 79, 80, 81, 82, 83, 84, 85, 86, 87, 88, 89, 90, 91, 92, 93, 94, 196, 197, 198, 199, 200, 201, 202, 203, 204, 205, 206, 207, 208, 209, 210, 211, 212, 213, 214] (by decide +kernel) (by decide +kernel)
set_option maxRecDepth 20000 in
theorem gL_isClosed_X4_without : GoodIn wsL_isClosed (wsV RL 75 RX4 yX4_without wsX4_without) := goodIn_app (goodIn_of _ (by decide +kernel)) ggL_isClosed_X4_without
set_option maxRecDepth 20000 in
theorem ggL_isClosed_X4_server : GoodIn wsL_isClosed wsX4_server := goodIn_r _ [98, 6, 8, 9, 10, 11, 12, 13, 14, 15, 16, 17, 18, 19, 4, 20, 99, 100, 53, 54, 55, 31, 27, 101, 57, 58, 59, 60, 61, 62, 196, 197, 198, 199, 200, 201, 202, 203, 204, 205, 206, 207, 208, 209, 210, 211, 212, 213, 214] (by decide +kernel) (by decide +kernel)
set_option maxRecDepth 20000 in
theorem gL_isClosed_X4_server : GoodIn wsL_isClosed (wsV RL 19 RX4 yX4_server wsX4_server) := goodIn_app (goodIn_of _ (by decide +kernel)) ggL_isClosed_X4_server
set_option maxRecDepth 20000 in
theorem ggL_isClosed_X4_count : GoodIn wsL_isClosed wsX4_count := goodIn_r _ [105, 6, 106, 107, 108, 109, 110, 11, 111, 31, 112, 113, 114, 115, 27, 19, 4, 20, 87, 88, 89, 90, 29, 91, 92, 93, 94, 13, 18, 116, 76, 77, 78, 99, 117, 118, 119, 120, 25, 121, 122, 40, 123, 30, 32, 124, 125, 126, 127, 34, 128, 129, 130, 131, 132, 133, 134, 196, 197, 198, 199, 200, 201, 202, 203, 204, 205, 206, 207, 208, 209, 210, 211, 212, 213, 214, 215, 216, 217, 218, 219, 220, 221, 222, 223, 224, 225] (by decide +kernel) (by decide +kernel)
set_option maxRecDepth 20000 in
theorem gL_isClosed_X4_count : GoodIn wsL_isClosed (wsV RL 13 RX4 yX4_count wsX4_count) := goodIn_app (goodIn_of _ (by decide +kernel)) ggL_isClosed_X4_count
set_option maxRecDepth 20000 in
theorem ggL_isClosed_X4_close : GoodIn wsL_isClosed wsX4_close := goodIn_r _ [138, 139, 6, 21, 22, 23, 11, 24, 25, 26, 27, 28, 29, 18, 13, 30, 31, 32, 33, 34, 35, 36, 4, 37, 38, 39, 40, 41, 42, 43, 44, 45, 140, 141, 142, 143, 144, 9, 10, 12, 145, 15, 16, 17, 19, 20, 146, 147, 148, 149, 150, 47, 48, 49, 50, 51, 52, 53, 54, 55, 56, 57, 58, 59, 60, 61, 62, 63, 64, 65, 66, 67, 68, 69, 70, 71, 72, 73, 74, 75, 76, 77, 78, 79, 80, 81, 82, 83, 84, 85, 86, 151, 152, 153, 154, 106, 155, 156, 157, 158, 159, 160, 161, 162, 163, 164, 165, 166, 167, 168, 196, 197, 198, 199, 200, 201, 202, 203, 204, 205, 206, 207, 208, 209, 210, 211, 212, 213, 214, 215, 216, 217] (by decide +kernel) (by decide +kernel)
set_option maxRecDepth 20000 in
theorem gL_isClosed_X4_close : GoodIn wsL_isClosed (wsV RL 57 RX4 yX4_close wsX4_close) := goodIn_app (goodIn_of _ (by decide +kernel)) ggL_isClosed_X4_close
set_option maxRecDepth 20000 in
theorem ggL_isClosed_L_sum : GoodIn wsL_isClosed wsL_sum := goodIn_r _ [172, 173, 174, 102, 103, 104, 4, 105, 6, 106, 107, 108, 109, 110, 11, 111, 31, 112, 113, 114, 115, 27, 19, 20, 87, 88, 89, 90, 29, 91, 92, 93, 94, 13, 18, 116, 76, 77, 78, 99, 117, 118, 119, 120, 25, 121, 122, 40, 123, 30, 32, 124, 125, 126, 127, 34, 128, 129, 130, 131, 132, 133, 134, 95, 96, 97, 98, 8, 9, 10, 12, 14, 15, 16, 17, 100, 53, 54, 55, 101, 57, 58, 59, 60, 61, 62, 175, 176, 177, 178, 179, 180, 181, 182, 196, 197, 198, 199, 200, 201, 202, 203, 204, 205, 206, 207, 208, 209, 210, 211, 212, 213, 214, 215, 216, 217, 218, 219, 220, 221, 222, 223, 224, 225] (by decide +kernel) (by decide +kernel)
set_option maxRecDepth 20000 in
theorem gL_isClosed_L_sum : GoodIn wsL_isClosed (va_wsS RL 26 yL_sum wsL_sum) := goodIn_app (goodIn_of _ (by decide +kernel)) ggL_isClosed_L_sum
set_option maxRecDepth 20000 in
theorem ggL_isClosed_X4_leaving : GoodIn wsL_isClosed wsX4_leaving := goodIn_r _ [186, 6, 8, 9, 10, 11, 12, 13, 187, 64, 65, 66, 31, 27, 19, 4, 20, 67, 68, 69, 70, 71, 72, 73, 74, 25, 26, 196, 197, 198, 199, 200, 201, 202, 203, 204, 205, 206, 207, 208, 209, 210, 211, 212, 213, 214] (by decide +kernel) (by decide +kernel)
set_option maxRecDepth 20000 in
theorem gL_isClosed_X4_leaving : GoodIn wsL_isClosed (wsV RL 63 RX4 yX4_leaving wsX4_leaving) := goodIn_app (goodIn_of _ (by decide +kernel)) ggL_isClosed_X4_leaving
set_option maxRecDepth 20000 in
theorem ggL_isClosed_X4_job : GoodIn wsL_isClosed wsX4_job := goodIn_r _ [178, 6, 179, 180, 181, 11, 182, 31, 99, 19, 4, 20, 196, 197, 198, 199, 200, 201, 202, 203, 204, 205, 206, 207, 208, 209, 210, 211, 212, 213, 214] (by decide +kernel) (by decide +kernel)
set_option maxRecDepth 20000 in
theorem gL_isClosed_X4_job : GoodIn wsL_isClosed (wsV RL 23 RX4 yX4_job wsX4_job) := goodIn_app (goodIn_of _ (by decide +kernel)) ggL_isClosed_X4_job
set_option maxRecDepth 20000 in
theorem ggL_isClosed_X4_undo : GoodIn wsL_isClosed wsX4_undo := goodIn_r _ [191, 106, 6, 192, 193, 194, 158, 195, 160, 161, 163, 164, 165, 166, 167, 168, 22, 23, 11, 24, 25, 26, 27, 28, 29, 18, 13, 30, 31, 32, 33, 34, 35, 36, 4, 37, 38, 39, 40, 41, 42, 43, 44, 45, 196, 197, 198, 199, 200, 201, 215, 216, 217, 202, 203, 204, 205, 206, 207, 208, 209, 210, 211, 212, 213, 214] (by decide +kernel) (by decide +kernel)
set_option maxRecDepth 20000 in
theorem gL_isClosed_X4_undo : GoodIn wsL_isClosed (wsV RL 83 RX4 yX4_undo wsX4_undo) := goodIn_app (goodIn_of _ (by decide +kernel)) ggL_isClosed_X4_undo
theorem dL_isClosed_0 : decode cL_isClosed 0 = .ok (.aload_n 0, 1) := by decide +kernel
theorem dL_isClosed_1 : decode cL_isClosed 1 = .ok (.iload_n 1, 1) := by decide +kernel
theorem dL_isClosed_2 : decode cL_isClosed 2 = .ok (.invokevirtual 75, 3) := by decide +kernel
theorem dL_isClosed_5 : decode cL_isClosed 5 = .ok (.istore_n 2, 1) := by decide +kernel
theorem dL_isClosed_6 : decode cL_isClosed 6 = .ok (.aload_n 0, 1) := by decide +kernel
theorem dL_isClosed_7 : decode cL_isClosed 7 = .ok (.iload_n 1, 1) := by decide +kernel
theorem dL_isClosed_8 : decode cL_isClosed 8 = .ok (.iconst 0, 1) := by decide +kernel
theorem dL_isClosed_9 : decode cL_isClosed 9 = .ok (.invokevirtual 19, 3) := by decide +kernel
theorem dL_isClosed_12 : decode cL_isClosed 12 = .ok (.ifCond .eq 12, 3) := by decide +kernel
theorem dL_isClosed_15 : decode cL_isClosed 15 = .ok (.aload_n 0, 1) := by decide +kernel
theorem dL_isClosed_16 : decode cL_isClosed 16 = .ok (.iconst 1, 1) := by decide +kernel
theorem dL_isClosed_17 : decode cL_isClosed 17 = .ok (.invokevirtual 13, 3) := by decide +kernel
theorem dL_isClosed_20 : decode cL_isClosed 20 = .ok (.iconst 1, 1) := by decide +kernel
theorem dL_isClosed_21 : decode cL_isClosed 21 = .ok (.if_icmp .ne 25, 3) := by decide +kernel
theorem dL_isClosed_24 : decode cL_isClosed 24 = .ok (.iload_n 2, 1) := by decide +kernel
theorem dL_isClosed_25 : decode cL_isClosed 25 = .ok (.bipush (-2), 2) := by decide +kernel
theorem dL_isClosed_27 : decode cL_isClosed 27 = .ok (.if_icmp .ne 17, 3) := by decide +kernel
theorem dL_isClosed_30 : decode cL_isClosed 30 = .ok (.aload_n 0, 1) := by decide +kernel
theorem dL_isClosed_31 : decode cL_isClosed 31 = .ok (.iload_n 1, 1) := by decide +kernel
theorem dL_isClosed_32 : decode cL_isClosed 32 = .ok (.invokevirtual 57, 3) := by decide +kernel
theorem dL_isClosed_35 : decode cL_isClosed 35 = .ok (.bipush (-2), 2) := by decide +kernel
theorem dL_isClosed_37 : decode cL_isClosed 37 = .ok (.if_icmp .ne 7, 3) := by decide +kernel
theorem dL_isClosed_40 : decode cL_isClosed 40 = .ok (.iconst 1, 1) := by decide +kernel
theorem dL_isClosed_41 : decode cL_isClosed 41 = .ok (.goto 4, 3) := by decide +kernel
theorem dL_isClosed_44 : decode cL_isClosed 44 = .ok (.iconst 0, 1) := by decide +kernel
theorem dL_isClosed_45 : decode cL_isClosed 45 = .ok (.ireturn, 1) := by decide +kernel
theorem dL_isClosed_46 : decode cL_isClosed 46 = .ok (.aload_n 0, 1) := by decide +kernel
theorem dL_isClosed_47 : decode cL_isClosed 47 = .ok (.invokestatic 26, 3) := by decide +kernel
theorem dL_isClosed_50 : decode cL_isClosed 50 = .ok (.lstore_n 3, 1) := by decide +kernel
theorem dL_isClosed_51 : decode cL_isClosed 51 = .ok (.aload_n 0, 1) := by decide +kernel
theorem dL_isClosed_52 : decode cL_isClosed 52 = .ok (.bipush 10, 2) := by decide +kernel
theorem dL_isClosed_54 : decode cL_isClosed 54 = .ok (.invokevirtual 13, 3) := by decide +kernel
theorem dL_isClosed_57 : decode cL_isClosed 57 = .ok (.istore 5, 2) := by decide +kernel
theorem dL_isClosed_59 : decode cL_isClosed 59 = .ok (.aload_n 0, 1) := by decide +kernel
theorem dL_isClosed_60 : decode cL_isClosed 60 = .ok (.iload_n 1, 1) := by decide +kernel
theorem dL_isClosed_61 : decode cL_isClosed 61 = .ok (.iconst 2, 1) := by decide +kernel
theorem dL_isClosed_62 : decode cL_isClosed 62 = .ok (.invokevirtual 19, 3) := by decide +kernel
theorem dL_isClosed_65 : decode cL_isClosed 65 = .ok (.istore 6, 2) := by decide +kernel
theorem dL_isClosed_67 : decode cL_isClosed 67 = .ok (.iconst 0, 1) := by decide +kernel
theorem dL_isClosed_68 : decode cL_isClosed 68 = .ok (.istore 7, 2) := by decide +kernel
theorem dL_isClosed_70 : decode cL_isClosed 70 = .ok (.iconst 0, 1) := by decide +kernel
theorem dL_isClosed_71 : decode cL_isClosed 71 = .ok (.istore 8, 2) := by decide +kernel
theorem dL_isClosed_73 : decode cL_isClosed 73 = .ok (.iload 8, 2) := by decide +kernel
theorem dL_isClosed_75 : decode cL_isClosed 75 = .ok (.iload 6, 2) := by decide +kernel
theorem dL_isClosed_77 : decode cL_isClosed 77 = .ok (.if_icmp .ge 26, 3) := by decide +kernel
theorem dL_isClosed_80 : decode cL_isClosed 80 = .ok (.iload 7, 2) := by decide +kernel
theorem dL_isClosed_82 : decode cL_isClosed 82 = .ok (.aload_n 0, 1) := by decide +kernel
theorem dL_isClosed_83 : decode cL_isClosed 83 = .ok (.aload_n 0, 1) := by decide +kernel
theorem dL_isClosed_84 : decode cL_isClosed 84 = .ok (.iload_n 1, 1) := by decide +kernel
theorem dL_isClosed_85 : decode cL_isClosed 85 = .ok (.iload 8, 2) := by decide +kernel
theorem dL_isClosed_87 : decode cL_isClosed 87 = .ok (.invokevirtual 63, 3) := by decide +kernel
theorem dL_isClosed_90 : decode cL_isClosed 90 = .ok (.iconst 1, 1) := by decide +kernel
theorem dL_isClosed_91 : decode cL_isClosed 91 = .ok (.invokevirtual 23, 3) := by decide +kernel
theorem dL_isClosed_94 : decode cL_isClosed 94 = .ok (.iadd, 1) := by decide +kernel
theorem dL_isClosed_95 : decode cL_isClosed 95 = .ok (.istore 7, 2) := by decide +kernel
theorem dL_isClosed_97 : decode cL_isClosed 97 = .ok (.iinc 8 1, 3) := by decide +kernel
theorem dL_isClosed_100 : decode cL_isClosed 100 = .ok (.goto (-27), 3) := by decide +kernel
theorem dL_isClosed_103 : decode cL_isClosed 103 = .ok (.iload 7, 2) := by decide +kernel
theorem dL_isClosed_105 : decode cL_isClosed 105 = .ok (.iload 5, 2) := by decide +kernel
theorem dL_isClosed_107 : decode cL_isClosed 107 = .ok (.if_icmp .le 28, 3) := by decide +kernel
theorem dL_isClosed_110 : decode cL_isClosed 110 = .ok (.aload_n 0, 1) := by decide +kernel
theorem dL_isClosed_111 : decode cL_isClosed 111 = .ok (.iload_n 1, 1) := by decide +kernel
theorem dL_isClosed_112 : decode cL_isClosed 112 = .ok (.invokevirtual 57, 3) := by decide +kernel
theorem dL_isClosed_115 : decode cL_isClosed 115 = .ok (.bipush (-2), 2) := by decide +kernel
theorem dL_isClosed_117 : decode cL_isClosed 117 = .ok (.if_icmp .ne 16, 3) := by decide +kernel
theorem dL_isClosed_120 : decode cL_isClosed 120 = .ok (.aload_n 0, 1) := by decide +kernel
theorem dL_isClosed_121 : decode cL_isClosed 121 = .ok (.invokestatic 26, 3) := by decide +kernel
theorem dL_isClosed_124 : decode cL_isClosed 124 = .ok (.lload_n 3, 1) := by decide +kernel
theorem dL_isClosed_125 : decode cL_isClosed 125 = .ok (.lcmp, 1) := by decide +kernel
theorem dL_isClosed_126 : decode cL_isClosed 126 = .ok (.ifCond .ne 7, 3) := by decide +kernel
theorem dL_isClosed_129 : decode cL_isClosed 129 = .ok (.iconst 1, 1) := by decide +kernel
theorem dL_isClosed_130 : decode cL_isClosed 130 = .ok (.goto 4, 3) := by decide +kernel
theorem dL_isClosed_133 : decode cL_isClosed 133 = .ok (.iconst 0, 1) := by decide +kernel
theorem dL_isClosed_134 : decode cL_isClosed 134 = .ok (.ireturn, 1) := by decide +kernel
theorem dL_isClosed_135 : decode cL_isClosed 135 = .ok (.aload_n 0, 1) := by decide +kernel
theorem dL_isClosed_136 : decode cL_isClosed 136 = .ok (.bipush 12, 2) := by decide +kernel
theorem dL_isClosed_138 : decode cL_isClosed 138 = .ok (.invokevirtual 13, 3) := by decide +kernel
theorem dL_isClosed_141 : decode cL_isClosed 141 = .ok (.istore 8, 2) := by decide +kernel
theorem dL_isClosed_143 : decode cL_isClosed 143 = .ok (.aload_n 0, 1) := by decide +kernel
theorem dL_isClosed_144 : decode cL_isClosed 144 = .ok (.iload_n 1, 1) := by decide +kernel
theorem dL_isClosed_145 : decode cL_isClosed 145 = .ok (.invokevirtual 57, 3) := by decide +kernel
theorem dL_isClosed_148 : decode cL_isClosed 148 = .ok (.iload 6, 2) := by decide +kernel
theorem dL_isClosed_150 : decode cL_isClosed 150 = .ok (.if_icmp .ne 78, 3) := by decide +kernel
theorem dL_isClosed_153 : decode cL_isClosed 153 = .ok (.aload_n 0, 1) := by decide +kernel
theorem dL_isClosed_154 : decode cL_isClosed 154 = .ok (.iconst 5, 1) := by decide +kernel
theorem dL_isClosed_155 : decode cL_isClosed 155 = .ok (.invokevirtual 13, 3) := by decide +kernel
theorem dL_isClosed_158 : decode cL_isClosed 158 = .ok (.iload_n 2, 1) := by decide +kernel
theorem dL_isClosed_159 : decode cL_isClosed 159 = .ok (.if_icmp .ne 69, 3) := by decide +kernel
theorem dL_isClosed_162 : decode cL_isClosed 162 = .ok (.aload_n 0, 1) := by decide +kernel
theorem dL_isClosed_163 : decode cL_isClosed 163 = .ok (.bipush 10, 2) := by decide +kernel
theorem dL_isClosed_165 : decode cL_isClosed 165 = .ok (.invokevirtual 13, 3) := by decide +kernel
theorem dL_isClosed_168 : decode cL_isClosed 168 = .ok (.iload 5, 2) := by decide +kernel
theorem dL_isClosed_170 : decode cL_isClosed 170 = .ok (.iload 7, 2) := by decide +kernel
theorem dL_isClosed_172 : decode cL_isClosed 172 = .ok (.isub, 1) := by decide +kernel
theorem dL_isClosed_173 : decode cL_isClosed 173 = .ok (.if_icmp .ne 55, 3) := by decide +kernel
theorem dL_isClosed_176 : decode cL_isClosed 176 = .ok (.aload_n 0, 1) := by decide +kernel
theorem dL_isClosed_177 : decode cL_isClosed 177 = .ok (.bipush 12, 2) := by decide +kernel
theorem dL_isClosed_179 : decode cL_isClosed 179 = .ok (.invokevirtual 13, 3) := by decide +kernel
theorem dL_isClosed_182 : decode cL_isClosed 182 = .ok (.iload 8, 2) := by decide +kernel
theorem dL_isClosed_184 : decode cL_isClosed 184 = .ok (.iload 6, 2) := by decide +kernel
theorem dL_isClosed_186 : decode cL_isClosed 186 = .ok (.iadd, 1) := by decide +kernel
theorem dL_isClosed_187 : decode cL_isClosed 187 = .ok (.if_icmp .ne 41, 3) := by decide +kernel
theorem dL_isClosed_190 : decode cL_isClosed 190 = .ok (.aload_n 0, 1) := by decide +kernel
theorem dL_isClosed_191 : decode cL_isClosed 191 = .ok (.iload_n 1, 1) := by decide +kernel
theorem dL_isClosed_192 : decode cL_isClosed 192 = .ok (.iconst 0, 1) := by decide +kernel
theorem dL_isClosed_193 : decode cL_isClosed 193 = .ok (.invokevirtual 19, 3) := by decide +kernel
theorem dL_isClosed_196 : decode cL_isClosed 196 = .ok (.ifCond .ne 32, 3) := by decide +kernel
theorem dL_isClosed_199 : decode cL_isClosed 199 = .ok (.aload_n 0, 1) := by decide +kernel
theorem dL_isClosed_200 : decode cL_isClosed 200 = .ok (.iload_n 1, 1) := by decide +kernel
theorem dL_isClosed_201 : decode cL_isClosed 201 = .ok (.iconst 1, 1) := by decide +kernel
theorem dL_isClosed_202 : decode cL_isClosed 202 = .ok (.invokevirtual 19, 3) := by decide +kernel
theorem dL_isClosed_205 : decode cL_isClosed 205 = .ok (.ifCond .ne 23, 3) := by decide +kernel
theorem dL_isClosed_208 : decode cL_isClosed 208 = .ok (.aload_n 0, 1) := by decide +kernel
theorem dL_isClosed_209 : decode cL_isClosed 209 = .ok (.invokevirtual 83, 3) := by decide +kernel
theorem dL_isClosed_212 : decode cL_isClosed 212 = .ok (.ifCond .lt 16, 3) := by decide +kernel
theorem dL_isClosed_215 : decode cL_isClosed 215 = .ok (.aload_n 0, 1) := by decide +kernel
theorem dL_isClosed_216 : decode cL_isClosed 216 = .ok (.invokestatic 26, 3) := by decide +kernel
theorem dL_isClosed_219 : decode cL_isClosed 219 = .ok (.lload_n 3, 1) := by decide +kernel
theorem dL_isClosed_220 : decode cL_isClosed 220 = .ok (.lcmp, 1) := by decide +kernel
theorem dL_isClosed_221 : decode cL_isClosed 221 = .ok (.ifCond .ne 7, 3) := by decide +kernel
theorem dL_isClosed_224 : decode cL_isClosed 224 = .ok (.iconst 1, 1) := by decide +kernel
theorem dL_isClosed_225 : decode cL_isClosed 225 = .ok (.goto 4, 3) := by decide +kernel
theorem dL_isClosed_228 : decode cL_isClosed 228 = .ok (.iconst 0, 1) := by decide +kernel
theorem dL_isClosed_229 : decode cL_isClosed 229 = .ok (.ireturn, 1) := by decide +kernel
