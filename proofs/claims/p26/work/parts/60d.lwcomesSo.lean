def wsL_comesSo_r1 : List Cond := [Cond.methodLink RL 26 yL_sum, Cond.static yL_sum, Cond.initialized RL, Cond.code yL_sum cL_sum 4 (some .long), Cond.constantLong RL 9 (17), Cond.constantLong RL 11 (31), Cond.methodLink RL 13 yX4_count, Cond.instanceMethod yX4_count, Cond.selects RX4 yX4_count yX4_count, Cond.initialized RX4, Cond.code yX4_count cX4_count 2 (some .int), Cond.fieldLink RX4 10 "EvenLoads" "now" "LEvenLoads$Cluster;", Cond.fieldLink RX4 25 "EvenLoads" "history" "LEvenLoads$History;", Cond.fieldLink RX4 39 "EvenLoads" "program" "LEvenLoads$Program;", Cond.methodLink RX4 114 yX0_finishedJobs, Cond.instanceMethod yX0_finishedJobs, Cond.selects RX0 yX0_finishedJobs yX0_finishedJobs, Cond.initialized RX0, Cond.code yX0_finishedJobs cX0_finishedJobs 3 (some .int), Cond.fieldLink RX0 37 "EvenLoads$Cluster" "jobs" "I", Cond.methodLink RX0 74 yX0_isFinished, Cond.instanceMethod yX0_isFinished, Cond.selects RX0 yX0_isFinished yX0_isFinished, Cond.code yX0_isFinished cX0_isFinished 2 (some .boolean)]
def wsL_comesSo_r2 : List Cond := [Cond.fieldLink RX0 18 "EvenLoads$Cluster" "places" "[I", Cond.static yX4_at, Cond.code yX4_at cX4_at 2 (some .int), Cond.methodLink RX4 120 yX0_greatestLoad, Cond.instanceMethod yX0_greatestLoad, Cond.selects RX0 yX0_greatestLoad yX0_greatestLoad, Cond.code yX0_greatestLoad cX0_greatestLoad 1 (some .int), Cond.fieldLink RX0 24 "EvenLoads$Cluster" "loads" "[I", Cond.methodLink RX0 124 yX0_fullestServer, Cond.instanceMethod yX0_fullestServer, Cond.selects RX0 yX0_fullestServer yX0_fullestServer, Cond.code yX0_fullestServer cX0_fullestServer 4 (some .int), Cond.fieldLink RX0 30 "EvenLoads$Cluster" "servers" "I", Cond.fieldLink RX0 27 "EvenLoads$Cluster" "opened" "[I", Cond.methodLink RX4 127 yX0_emptiestServer, Cond.instanceMethod yX0_emptiestServer, Cond.selects RX0 yX0_emptiestServer yX0_emptiestServer, Cond.code yX0_emptiestServer cX0_emptiestServer 4 (some .int), Cond.methodLink RX4 130 yX4_at, Cond.methodLink RX4 134 yX0_bound, Cond.instanceMethod yX0_bound, Cond.selects RX0 yX0_bound yX0_bound, Cond.code yX0_bound cX0_bound 3 (some .int), Cond.fieldLink RX0 9 "EvenLoads$Cluster" "sizes" "[I"]
def wsL_comesSo_r3 : List Cond := [Cond.methodLink RX0 127 Lib.Math.max.name, Cond.static Lib.Math.max.name, Cond.initialized "java/lang/Math", Cond.code Lib.Math.max.name Lib.Math.max.code 2 (some .int), Cond.fieldLink RX0 34 "EvenLoads$Cluster" "openServers" "I", Cond.fieldLink RX0 40 "EvenLoads$Cluster" "sum" "I", Cond.methodLink RX4 137 yX0_target, Cond.instanceMethod yX0_target, Cond.selects RX0 yX0_target yX0_target, Cond.code yX0_target cX0_target 1 (some .int), Cond.fieldLink RX0 46 "EvenLoads$Cluster" "factor" "I", Cond.methodLink RX0 132 yX0_bound, Cond.methodLink RX4 140 yX0_isEven, Cond.instanceMethod yX0_isEven, Cond.selects RX0 yX0_isEven yX0_isEven, Cond.code yX0_isEven cX0_isEven 1 (some .boolean), Cond.methodLink RX0 85 yX0_greatestLoad, Cond.methodLink RX0 77 yX0_target, Cond.methodLink RL 19 yX4_server, Cond.instanceMethod yX4_server, Cond.selects RX4 yX4_server yX4_server, Cond.code yX4_server cX4_server 3 (some .int), Cond.methodLink RX4 153 yX0_hasServer, Cond.instanceMethod yX0_hasServer]
def wsL_comesSo_r4 : List Cond := [Cond.selects RX0 yX0_hasServer yX0_hasServer, Cond.code yX0_hasServer cX0_hasServer 2 (some .boolean), Cond.methodLink RX4 157 yX0_isOpen, Cond.instanceMethod yX0_isOpen, Cond.selects RX0 yX0_isOpen yX0_isOpen, Cond.code yX0_isOpen cX0_isOpen 2 (some .boolean), Cond.methodLink RX4 160 yX0_jobsOn, Cond.instanceMethod yX0_jobsOn, Cond.selects RX0 yX0_jobsOn yX0_jobsOn, Cond.code yX0_jobsOn cX0_jobsOn 4 (some .int), Cond.methodLink RX4 163 yJ6_bitCount_0f7a4, Cond.static yJ6_bitCount_0f7a4, Cond.initialized RJ6, Cond.code yJ6_bitCount_0f7a4 cJ6_bitCount_0f7a4 1 (some .int), Cond.constant RJ6 265 (1431655765), Cond.constant RJ6 266 (858993459), Cond.constant RJ6 267 (252645135), Cond.methodLink RL 23 yX4_job, Cond.instanceMethod yX4_job, Cond.selects RX4 yX4_job yX4_job, Cond.code yX4_job cX4_job 3 (some .int), Cond.methodLink RX4 168 yX0_hasJob, Cond.instanceMethod yX0_hasJob, Cond.selects RX0 yX0_hasJob yX0_hasJob]
def wsL_comesSo_r5 : List Cond := [Cond.code yX0_hasJob cX0_hasJob 2 (some .boolean), Cond.methodLink RL 69 yX4_plan, Cond.instanceMethod yX4_plan, Cond.selects RX4 yX4_plan yX4_plan, Cond.code yX4_plan cX4_plan 3 (some .int), Cond.fieldLink RX4 19 "EvenLoads" "trial" "LEvenLoads$Cluster;", Cond.fieldLink RX4 32 "EvenLoads" "next" "LEvenLoads$Step;", Cond.methodLink RX4 43 yX0_copyFrom, Cond.instanceMethod yX0_copyFrom, Cond.selects RX0 yX0_copyFrom yX0_copyFrom, Cond.code yX0_copyFrom cX0_copyFrom 2 none, Cond.fieldLink RX0 15 "EvenLoads$Cluster" "prices" "[I", Cond.fieldLink RX0 21 "EvenLoads$Cluster" "moved" "[I", Cond.fieldLink RX0 43 "EvenLoads$Cluster" "budget" "I", Cond.fieldLink RX0 49 "EvenLoads$Cluster" "moves" "I", Cond.static yX4_copyRow, Cond.code yX4_copyRow cX4_copyRow 2 none, Cond.methodLink RX4 244 Lib.Math.min.name, Cond.static Lib.Math.min.name, Cond.code Lib.Math.min.name Lib.Math.min.code 2 (some .int), Cond.methodLink RX4 249 arraycopyName, Cond.native arraycopyName, Cond.static arraycopyName, Cond.initialized "java/lang/System"]
def wsL_comesSo_r6 : List Cond := [Cond.methodLink RX4 78 yX3_walk, Cond.instanceMethod yX3_walk, Cond.selects RX3 yX3_walk yX3_walk, Cond.initialized RX3, Cond.code yX3_walk cX3_walk 6 (some .int), Cond.fieldLink RX3 9 "EvenLoads$Step" "job" "I", Cond.fieldLink RX3 15 "EvenLoads$Step" "goal" "I", Cond.fieldLink RX3 18 "EvenLoads$Step" "other" "I", Cond.methodLink RX3 27 yX0_target, Cond.methodLink RX3 33 yX3_choose, Cond.instanceMethod yX3_choose, Cond.selects RX3 yX3_choose yX3_choose, Cond.code yX3_choose cX3_choose 4 (some .boolean), Cond.methodLink RX3 49 yX0_fullestServer, Cond.methodLink RX3 55 yX3_chooseMove, Cond.instanceMethod yX3_chooseMove, Cond.selects RX3 yX3_chooseMove yX3_chooseMove, Cond.code yX3_chooseMove cX3_chooseMove 8 none, Cond.methodLink RX3 85 Lib.Math.max.name, Cond.methodLink RX3 69 yX3_startBelow, Cond.instanceMethod yX3_startBelow, Cond.selects RX3 yX3_startBelow yX3_startBelow, Cond.code yX3_startBelow cX3_startBelow 2 none, Cond.fieldLink RX3 24 "EvenLoads$Step" "greater" "I"]
def wsL_comesSo_r7 : List Cond := [Cond.methodLink RX3 94 yX3_offer, Cond.instanceMethod yX3_offer, Cond.selects RX3 yX3_offer yX3_offer, Cond.code yX3_offer cX3_offer 7 none, Cond.fieldLink RX3 21 "EvenLoads$Step" "price" "I", Cond.methodLink RX3 59 yX3_isPossible, Cond.instanceMethod yX3_isPossible, Cond.selects RX3 yX3_isPossible yX3_isPossible, Cond.code yX3_isPossible cX3_isPossible 2 (some .boolean), Cond.methodLink RX3 63 yX3_chooseExchange, Cond.instanceMethod yX3_chooseExchange, Cond.selects RX3 yX3_chooseExchange yX3_chooseExchange, Cond.code yX3_chooseExchange cX3_chooseExchange 10 none, Cond.methodLink RX3 45 yX0_takeTo, Cond.instanceMethod yX0_takeTo, Cond.selects RX0 yX0_takeTo yX0_takeTo, Cond.code yX0_takeTo cX0_takeTo 3 none, Cond.methodLink RX0 114 yX0_shiftLoad, Cond.instanceMethod yX0_shiftLoad, Cond.selects RX0 yX0_shiftLoad yX0_shiftLoad, Cond.code yX0_shiftLoad cX0_shiftLoad 4 none, Cond.static yX4_put, Cond.code yX4_put cX4_put 3 none, Cond.methodLink RL 66 yX4_step]
def wsL_comesSo_r8 : List Cond := [Cond.instanceMethod yX4_step, Cond.selects RX4 yX4_step yX4_step, Cond.code yX4_step cX4_step 2 (some .int), Cond.methodLink RX4 186 yX3_choose, Cond.methodLink RL 54 yX4_even, Cond.instanceMethod yX4_even, Cond.selects RX4 yX4_even yX4_even, Cond.code yX4_even cX4_even 2 (some .int), Cond.fieldLink RX4 16 "EvenLoads" "before" "LEvenLoads$Cluster;", Cond.methodLink RX4 51 yX4_recorded, Cond.instanceMethod yX4_recorded, Cond.selects RX4 yX4_recorded yX4_recorded, Cond.code yX4_recorded cX4_recorded 2 (some .int), Cond.methodLink RX4 209 yX1_keep, Cond.instanceMethod yX1_keep, Cond.selects RX1 yX1_keep yX1_keep, Cond.initialized RX1, Cond.code yX1_keep cX1_keep 3 none, Cond.fieldLink RX1 21 "EvenLoads$History" "free" "I", Cond.fieldLink RX1 17 "EvenLoads$History" "depth" "I", Cond.methodLink RX1 33 Lib.Math.min.name, Cond.methodLink RX1 25 yX1_stateAt, Cond.instanceMethod yX1_stateAt, Cond.selects RX1 yX1_stateAt yX1_stateAt]
def wsL_comesSo_r9 : List Cond := [Cond.code yX1_stateAt cX1_stateAt 2 (some (.object "EvenLoads$Cluster")), Cond.fieldLink RX1 11 "EvenLoads$History" "states" "[LEvenLoads$Cluster;", Cond.methodLink RX1 29 yX0_copyFrom, Cond.methodLink RL 83 yX4_undo, Cond.instanceMethod yX4_undo, Cond.selects RX4 yX4_undo yX4_undo, Cond.code yX4_undo cX4_undo 1 (some .int), Cond.methodLink RX4 88 yX1_takeLatest, Cond.instanceMethod yX1_takeLatest, Cond.selects RX1 yX1_takeLatest yX1_takeLatest, Cond.code yX1_takeLatest cX1_takeLatest 4 (some .boolean), Cond.methodLink RL 45 yX4_move, Cond.instanceMethod yX4_move, Cond.selects RX4 yX4_move yX4_move, Cond.code yX4_move cX4_move 3 (some .int), Cond.methodLink RX4 68 yX0_moveJob, Cond.instanceMethod yX0_moveJob, Cond.selects RX0 yX0_moveJob yX0_moveJob, Cond.code yX0_moveJob cX0_moveJob 3 (some .int), Cond.methodLink RX0 71 yX0_hasJob, Cond.methodLink RX0 60 yX0_hasServer, Cond.methodLink RX0 64 yX0_isOpen, Cond.methodLink RX0 81 yX0_takeTo, Cond.methodLink RL 48 yX4_exchange]
def wsL_comesSo_r10 : List Cond := [Cond.instanceMethod yX4_exchange, Cond.selects RX4 yX4_exchange yX4_exchange, Cond.code yX4_exchange cX4_exchange 3 (some .int), Cond.methodLink RX4 72 yX0_exchangeJobs, Cond.instanceMethod yX0_exchangeJobs, Cond.selects RX0 yX0_exchangeJobs yX0_exchangeJobs, Cond.code yX0_exchangeJobs cX0_exchangeJobs 4 (some .int), Cond.methodLink RX0 88 yX0_areApart, Cond.instanceMethod yX0_areApart, Cond.selects RX0 yX0_areApart yX0_areApart, Cond.code yX0_areApart cX0_areApart 3 (some .boolean)]
def wsL_comesSo : List Cond := .code yL_comesSo cL_comesSo 17 (some .boolean) :: ((wsL_comesSo_r1 ++ (wsL_comesSo_r2 ++ (wsL_comesSo_r3 ++ (wsL_comesSo_r4 ++ (wsL_comesSo_r5 ++ (wsL_comesSo_r6 ++ (wsL_comesSo_r7 ++ (wsL_comesSo_r8 ++ (wsL_comesSo_r9 ++ wsL_comesSo_r10))))))))) ++ wsX40 ++ wsX00 ++ wsX10 ++ wsX20 ++ wsX30)
set_option maxRecDepth 20000 in
theorem ggL_comesSo_L_sum : GoodIn wsL_comesSo wsL_sum := goodIn_r _ [4, 5, 6, 7, 8, 9, 10, 11, 12, 13, 14, 15, 16, 17, 18, 19, 20, 21, 22, 23, 24, 25, 26, 27, 28, 29, 30, 31, 32, 33, 34, 35, 36, 37, 38, 39, 40, 41, 42, 43, 44, 45, 46, 47, 48, 49, 50, 51, 52, 53, 54, 55, 56, 57, 58, 59, 60, 61, 62, 63, 64, 65, 66, 67, 68, 69, 70, 71, 72, 73, 74, 75, 76, 77, 78, 79, 80, 81, 82, 83, 84, 85, 86, 87, 88, 89, 90, 91, 92, 93, 94, 95, 96, 97, 228, 229, 230, 231, 232, 233, 234, 235, 236, 237, 238, 239, 240, 241, 242, 243, 244, 245, 246, 247, 248, 249, 250, 251, 252, 253, 254, 255, 256, 257] (by decide +kernel) (by decide +kernel)
set_option maxRecDepth 20000 in
theorem gL_comesSo_L_sum : GoodIn wsL_comesSo (va_wsS RL 26 yL_sum wsL_sum) := goodIn_app (goodIn_of _ (by decide +kernel)) ggL_comesSo_L_sum
set_option maxRecDepth 20000 in
theorem ggL_comesSo_X4_plan : GoodIn wsL_comesSo wsX4_plan := goodIn_r _ [101, 102, 12, 103, 104, 105, 106, 18, 107, 48, 108, 25, 109, 32, 38, 37, 53, 20, 54, 110, 59, 111, 112, 10, 113, 114, 115, 51, 116, 117, 118, 119, 120, 121, 122, 123, 124, 125, 126, 127, 128, 129, 56, 57, 58, 60, 45, 46, 47, 49, 50, 52, 26, 27, 130, 131, 132, 133, 134, 34, 35, 36, 135, 136, 137, 138, 139, 140, 141, 142, 143, 144, 145, 146, 147, 148, 149, 150, 151, 152, 153, 154, 155, 156, 157, 158, 159, 160, 161, 162, 163, 164, 165, 166, 167, 28, 29, 30, 31, 33, 61, 62, 63, 64, 65, 66, 228, 229, 230, 231, 232, 233, 234, 235, 236, 237, 238, 239, 240, 241, 242, 243, 244, 245, 246, 258, 259, 260, 261, 262] (by decide +kernel) (by decide +kernel)
set_option maxRecDepth 20000 in
theorem gL_comesSo_X4_plan : GoodIn wsL_comesSo (wsV RL 69 RX4 yX4_plan wsX4_plan) := goodIn_app (goodIn_of _ (by decide +kernel)) ggL_comesSo_X4_plan
set_option maxRecDepth 20000 in
theorem ggL_comesSo_X4_step : GoodIn wsL_comesSo wsX4_step := goodIn_r _ [171, 103, 12, 55, 56, 57, 18, 58, 59, 60, 45, 46, 47, 20, 25, 48, 49, 50, 51, 52, 53, 54, 26, 10, 27, 172, 131, 132, 124, 133, 134, 34, 35, 36, 37, 32, 38, 135, 136, 137, 138, 139, 140, 141, 142, 143, 126, 144, 145, 146, 147, 148, 149, 127, 128, 150, 151, 152, 153, 154, 155, 156, 157, 228, 229, 230, 231, 232, 233, 258, 259, 260, 261, 262, 234, 235, 236, 237, 238, 239, 240, 241, 242, 243, 244, 245, 246] (by decide +kernel) (by decide +kernel)
set_option maxRecDepth 20000 in
theorem gL_comesSo_X4_step : GoodIn wsL_comesSo (wsV RL 66 RX4 yX4_step wsX4_step) := goodIn_app (goodIn_of _ (by decide +kernel)) ggL_comesSo_X4_step
set_option maxRecDepth 20000 in
theorem ggL_comesSo_X4_count : GoodIn wsL_comesSo wsX4_count := goodIn_r _ [11, 12, 13, 14, 15, 16, 17, 18, 19, 20, 21, 22, 23, 24, 25, 26, 10, 27, 28, 29, 30, 31, 32, 33, 34, 35, 36, 37, 38, 39, 40, 41, 42, 43, 44, 45, 46, 47, 48, 49, 50, 51, 52, 53, 54, 55, 56, 57, 58, 59, 60, 61, 62, 63, 64, 65, 66, 228, 229, 230, 231, 232, 233, 234, 235, 236, 237, 238, 239, 240, 241, 242, 243, 244, 245, 246, 247, 248, 249, 250, 251, 252, 253, 254, 255, 256, 257] (by decide +kernel) (by decide +kernel)
set_option maxRecDepth 20000 in
theorem gL_comesSo_X4_count : GoodIn wsL_comesSo (wsV RL 13 RX4 yX4_count wsX4_count) := goodIn_app (goodIn_of _ (by decide +kernel)) ggL_comesSo_X4_count
set_option maxRecDepth 20000 in
theorem ggL_comesSo_X4_even : GoodIn wsL_comesSo wsX4_even := goodIn_r _ [176, 177, 12, 103, 104, 105, 106, 18, 107, 48, 108, 25, 109, 32, 38, 37, 53, 20, 54, 110, 59, 111, 112, 10, 113, 114, 115, 51, 116, 117, 118, 119, 120, 121, 122, 123, 124, 125, 126, 127, 128, 129, 56, 57, 58, 60, 45, 46, 47, 49, 50, 52, 26, 27, 130, 131, 132, 133, 134, 34, 35, 36, 135, 136, 137, 138, 139, 140, 141, 142, 143, 144, 145, 146, 147, 148, 149, 150, 151, 152, 153, 154, 155, 156, 157, 158, 159, 160, 161, 162, 163, 164, 165, 166, 167, 178, 179, 180, 181, 13, 182, 183, 184, 185, 186, 187, 188, 189, 190, 191, 192, 193, 194, 195, 228, 229, 230, 231, 232, 233, 234, 235, 236, 237, 238, 239, 240, 241, 242, 243, 244, 245, 246, 258, 259, 260, 261, 262, 247, 248, 249] (by decide +kernel) (by decide +kernel)
set_option maxRecDepth 20000 in
theorem gL_comesSo_X4_even : GoodIn wsL_comesSo (wsV RL 54 RX4 yX4_even wsX4_even) := goodIn_app (goodIn_of _ (by decide +kernel)) ggL_comesSo_X4_even
set_option maxRecDepth 20000 in
theorem ggL_comesSo_X4_undo : GoodIn wsL_comesSo wsX4_undo := goodIn_r _ [199, 13, 12, 200, 201, 202, 185, 203, 187, 188, 190, 191, 192, 193, 194, 195, 105, 106, 18, 107, 48, 108, 25, 109, 32, 38, 37, 53, 20, 54, 110, 59, 111, 112, 10, 113, 114, 115, 51, 116, 117, 118, 119, 120, 228, 229, 230, 231, 232, 233, 247, 248, 249, 234, 235, 236, 237, 238, 239, 240, 241, 242, 243, 244, 245, 246] (by decide +kernel) (by decide +kernel)
set_option maxRecDepth 20000 in
theorem gL_comesSo_X4_undo : GoodIn wsL_comesSo (wsV RL 83 RX4 yX4_undo wsX4_undo) := goodIn_app (goodIn_of _ (by decide +kernel)) ggL_comesSo_X4_undo
set_option maxRecDepth 20000 in
theorem ggL_comesSo_X4_job : GoodIn wsL_comesSo wsX4_job := goodIn_r _ [93, 12, 94, 95, 96, 18, 97, 20, 43, 26, 10, 27, 228, 229, 230, 231, 232, 233, 234, 235, 236, 237, 238, 239, 240, 241, 242, 243, 244, 245, 246] (by decide +kernel) (by decide +kernel)
set_option maxRecDepth 20000 in
theorem gL_comesSo_X4_job : GoodIn wsL_comesSo (wsV RL 23 RX4 yX4_job wsX4_job) := goodIn_app (goodIn_of _ (by decide +kernel)) ggL_comesSo_X4_job
set_option maxRecDepth 20000 in
theorem ggL_comesSo_X4_server : GoodIn wsL_comesSo wsX4_server := goodIn_r _ [70, 12, 71, 72, 73, 18, 74, 37, 75, 76, 77, 78, 38, 26, 10, 27, 43, 79, 80, 81, 82, 20, 25, 83, 84, 85, 86, 87, 88, 89, 228, 229, 230, 231, 232, 233, 234, 235, 236, 237, 238, 239, 240, 241, 242, 243, 244, 245, 246] (by decide +kernel) (by decide +kernel)
set_option maxRecDepth 20000 in
theorem gL_comesSo_X4_server : GoodIn wsL_comesSo (wsV RL 19 RX4 yX4_server wsX4_server) := goodIn_app (goodIn_of _ (by decide +kernel)) ggL_comesSo_X4_server
set_option maxRecDepth 20000 in
theorem ggL_comesSo_X4_move : GoodIn wsL_comesSo wsX4_move := goodIn_r _ [207, 177, 12, 104, 105, 106, 18, 107, 48, 108, 25, 109, 32, 38, 37, 53, 20, 54, 110, 59, 111, 112, 10, 113, 114, 115, 51, 116, 117, 118, 119, 120, 208, 209, 210, 211, 212, 95, 96, 97, 213, 72, 73, 74, 21, 22, 23, 24, 26, 27, 214, 76, 77, 78, 215, 159, 160, 161, 162, 163, 164, 165, 166, 167, 65, 29, 30, 31, 33, 34, 35, 36, 178, 179, 180, 181, 13, 182, 183, 184, 185, 186, 187, 188, 189, 190, 191, 192, 193, 194, 195, 228, 229, 230, 231, 232, 233, 234, 235, 236, 237, 238, 239, 240, 241, 242, 243, 244, 245, 246, 247, 248, 249] (by decide +kernel) (by decide +kernel)
set_option maxRecDepth 20000 in
theorem gL_comesSo_X4_move : GoodIn wsL_comesSo (wsV RL 45 RX4 yX4_move wsX4_move) := goodIn_app (goodIn_of _ (by decide +kernel)) ggL_comesSo_X4_move
set_option maxRecDepth 20000 in
theorem ggL_comesSo_X4_exchange : GoodIn wsL_comesSo wsX4_exchange := goodIn_r _ [219, 177, 12, 104, 105, 106, 18, 107, 48, 108, 25, 109, 32, 38, 37, 53, 20, 54, 110, 59, 111, 112, 10, 113, 114, 115, 51, 116, 117, 118, 119, 120, 220, 221, 222, 223, 212, 95, 96, 97, 224, 225, 226, 227, 21, 22, 23, 24, 26, 27, 215, 159, 160, 161, 162, 163, 164, 165, 166, 167, 65, 29, 30, 31, 33, 34, 35, 36, 178, 179, 180, 181, 13, 182, 183, 184, 185, 186, 187, 188, 189, 190, 191, 192, 193, 194, 195, 228, 229, 230, 231, 232, 233, 234, 235, 236, 237, 238, 239, 240, 241, 242, 243, 244, 245, 246, 247, 248, 249] (by decide +kernel) (by decide +kernel)
set_option maxRecDepth 20000 in
theorem gL_comesSo_X4_exchange : GoodIn wsL_comesSo (wsV RL 48 RX4 yX4_exchange wsX4_exchange) := goodIn_app (goodIn_of _ (by decide +kernel)) ggL_comesSo_X4_exchange
theorem dL_comesSo_0 : decode cL_comesSo 0 = .ok (.aload_n 0, 1) := by decide +kernel
theorem dL_comesSo_1 : decode cL_comesSo 1 = .ok (.invokestatic 26, 3) := by decide +kernel
theorem dL_comesSo_4 : decode cL_comesSo 4 = .ok (.lstore_n 1, 1) := by decide +kernel
theorem dL_comesSo_5 : decode cL_comesSo 5 = .ok (.aload_n 0, 1) := by decide +kernel
theorem dL_comesSo_6 : decode cL_comesSo 6 = .ok (.iconst 0, 1) := by decide +kernel
theorem dL_comesSo_7 : decode cL_comesSo 7 = .ok (.invokevirtual 69, 3) := by decide +kernel
theorem dL_comesSo_10 : decode cL_comesSo 10 = .ok (.istore_n 3, 1) := by decide +kernel
theorem dL_comesSo_11 : decode cL_comesSo 11 = .ok (.aload_n 0, 1) := by decide +kernel
theorem dL_comesSo_12 : decode cL_comesSo 12 = .ok (.iconst 1, 1) := by decide +kernel
theorem dL_comesSo_13 : decode cL_comesSo 13 = .ok (.invokevirtual 69, 3) := by decide +kernel
theorem dL_comesSo_16 : decode cL_comesSo 16 = .ok (.istore 4, 2) := by decide +kernel
theorem dL_comesSo_18 : decode cL_comesSo 18 = .ok (.aload_n 0, 1) := by decide +kernel
theorem dL_comesSo_19 : decode cL_comesSo 19 = .ok (.iconst 2, 1) := by decide +kernel
theorem dL_comesSo_20 : decode cL_comesSo 20 = .ok (.invokevirtual 69, 3) := by decide +kernel
theorem dL_comesSo_23 : decode cL_comesSo 23 = .ok (.istore 5, 2) := by decide +kernel
theorem dL_comesSo_25 : decode cL_comesSo 25 = .ok (.aload_n 0, 1) := by decide +kernel
theorem dL_comesSo_26 : decode cL_comesSo 26 = .ok (.iconst 3, 1) := by decide +kernel
theorem dL_comesSo_27 : decode cL_comesSo 27 = .ok (.invokevirtual 69, 3) := by decide +kernel
theorem dL_comesSo_30 : decode cL_comesSo 30 = .ok (.istore 6, 2) := by decide +kernel
theorem dL_comesSo_32 : decode cL_comesSo 32 = .ok (.aload_n 0, 1) := by decide +kernel
theorem dL_comesSo_33 : decode cL_comesSo 33 = .ok (.iconst 4, 1) := by decide +kernel
theorem dL_comesSo_34 : decode cL_comesSo 34 = .ok (.invokevirtual 69, 3) := by decide +kernel
theorem dL_comesSo_37 : decode cL_comesSo 37 = .ok (.istore 7, 2) := by decide +kernel
theorem dL_comesSo_39 : decode cL_comesSo 39 = .ok (.aload_n 0, 1) := by decide +kernel
theorem dL_comesSo_40 : decode cL_comesSo 40 = .ok (.iconst 0, 1) := by decide +kernel
theorem dL_comesSo_41 : decode cL_comesSo 41 = .ok (.invokevirtual 66, 3) := by decide +kernel
theorem dL_comesSo_44 : decode cL_comesSo 44 = .ok (.istore 8, 2) := by decide +kernel
theorem dL_comesSo_46 : decode cL_comesSo 46 = .ok (.aload_n 0, 1) := by decide +kernel
theorem dL_comesSo_47 : decode cL_comesSo 47 = .ok (.iconst 1, 1) := by decide +kernel
theorem dL_comesSo_48 : decode cL_comesSo 48 = .ok (.invokevirtual 66, 3) := by decide +kernel
theorem dL_comesSo_51 : decode cL_comesSo 51 = .ok (.istore 9, 2) := by decide +kernel
theorem dL_comesSo_53 : decode cL_comesSo 53 = .ok (.aload_n 0, 1) := by decide +kernel
theorem dL_comesSo_54 : decode cL_comesSo 54 = .ok (.iconst 2, 1) := by decide +kernel
theorem dL_comesSo_55 : decode cL_comesSo 55 = .ok (.invokevirtual 66, 3) := by decide +kernel
theorem dL_comesSo_58 : decode cL_comesSo 58 = .ok (.istore 10, 2) := by decide +kernel
theorem dL_comesSo_60 : decode cL_comesSo 60 = .ok (.aload_n 0, 1) := by decide +kernel
theorem dL_comesSo_61 : decode cL_comesSo 61 = .ok (.iconst 3, 1) := by decide +kernel
theorem dL_comesSo_62 : decode cL_comesSo 62 = .ok (.invokevirtual 66, 3) := by decide +kernel
theorem dL_comesSo_65 : decode cL_comesSo 65 = .ok (.istore 11, 2) := by decide +kernel
theorem dL_comesSo_67 : decode cL_comesSo 67 = .ok (.aload_n 0, 1) := by decide +kernel
theorem dL_comesSo_68 : decode cL_comesSo 68 = .ok (.invokestatic 26, 3) := by decide +kernel
theorem dL_comesSo_71 : decode cL_comesSo 71 = .ok (.lload_n 1, 1) := by decide +kernel
theorem dL_comesSo_72 : decode cL_comesSo 72 = .ok (.lcmp, 1) := by decide +kernel
theorem dL_comesSo_73 : decode cL_comesSo 73 = .ok (.ifCond .ne 65, 3) := by decide +kernel
theorem dL_comesSo_76 : decode cL_comesSo 76 = .ok (.iload_n 3, 1) := by decide +kernel
theorem dL_comesSo_77 : decode cL_comesSo 77 = .ok (.ifCond .ne 7, 3) := by decide +kernel
theorem dL_comesSo_80 : decode cL_comesSo 80 = .ok (.iconst 1, 1) := by decide +kernel
theorem dL_comesSo_81 : decode cL_comesSo 81 = .ok (.goto 4, 3) := by decide +kernel
theorem dL_comesSo_84 : decode cL_comesSo 84 = .ok (.iconst 0, 1) := by decide +kernel
theorem dL_comesSo_85 : decode cL_comesSo 85 = .ok (.iload 8, 2) := by decide +kernel
theorem dL_comesSo_87 : decode cL_comesSo 87 = .ok (.bipush (-9), 2) := by decide +kernel
theorem dL_comesSo_89 : decode cL_comesSo 89 = .ok (.if_icmp .ne 7, 3) := by decide +kernel
theorem dL_comesSo_92 : decode cL_comesSo 92 = .ok (.iconst 1, 1) := by decide +kernel
theorem dL_comesSo_93 : decode cL_comesSo 93 = .ok (.goto 4, 3) := by decide +kernel
theorem dL_comesSo_96 : decode cL_comesSo 96 = .ok (.iconst 0, 1) := by decide +kernel
theorem dL_comesSo_97 : decode cL_comesSo 97 = .ok (.if_icmp .ne 41, 3) := by decide +kernel
theorem dL_comesSo_100 : decode cL_comesSo 100 = .ok (.aload_n 0, 1) := by decide +kernel
theorem dL_comesSo_101 : decode cL_comesSo 101 = .ok (.bipush 9, 2) := by decide +kernel
theorem dL_comesSo_103 : decode cL_comesSo 103 = .ok (.invokevirtual 13, 3) := by decide +kernel
theorem dL_comesSo_106 : decode cL_comesSo 106 = .ok (.iconst 1, 1) := by decide +kernel
theorem dL_comesSo_107 : decode cL_comesSo 107 = .ok (.if_icmp .ne 7, 3) := by decide +kernel
theorem dL_comesSo_110 : decode cL_comesSo 110 = .ok (.iload_n 3, 1) := by decide +kernel
theorem dL_comesSo_111 : decode cL_comesSo 111 = .ok (.ifCond .gt 27, 3) := by decide +kernel
theorem dL_comesSo_114 : decode cL_comesSo 114 = .ok (.iload 4, 2) := by decide +kernel
theorem dL_comesSo_116 : decode cL_comesSo 116 = .ok (.iload_n 3, 1) := by decide +kernel
theorem dL_comesSo_117 : decode cL_comesSo 117 = .ok (.if_icmp .lt 21, 3) := by decide +kernel
theorem dL_comesSo_120 : decode cL_comesSo 120 = .ok (.iload 4, 2) := by decide +kernel
theorem dL_comesSo_122 : decode cL_comesSo 122 = .ok (.iconst 2, 1) := by decide +kernel
theorem dL_comesSo_123 : decode cL_comesSo 123 = .ok (.iload_n 3, 1) := by decide +kernel
theorem dL_comesSo_124 : decode cL_comesSo 124 = .ok (.imul, 1) := by decide +kernel
theorem dL_comesSo_125 : decode cL_comesSo 125 = .ok (.if_icmp .gt 13, 3) := by decide +kernel
theorem dL_comesSo_128 : decode cL_comesSo 128 = .ok (.iload 6, 2) := by decide +kernel
theorem dL_comesSo_130 : decode cL_comesSo 130 = .ok (.aload_n 0, 1) := by decide +kernel
theorem dL_comesSo_131 : decode cL_comesSo 131 = .ok (.iconst 5, 1) := by decide +kernel
theorem dL_comesSo_132 : decode cL_comesSo 132 = .ok (.invokevirtual 13, 3) := by decide +kernel
theorem dL_comesSo_135 : decode cL_comesSo 135 = .ok (.if_icmp .le 5, 3) := by decide +kernel
theorem dL_comesSo_138 : decode cL_comesSo 138 = .ok (.iconst 0, 1) := by decide +kernel
theorem dL_comesSo_139 : decode cL_comesSo 139 = .ok (.ireturn, 1) := by decide +kernel
theorem dL_comesSo_140 : decode cL_comesSo 140 = .ok (.aload_n 0, 1) := by decide +kernel
theorem dL_comesSo_141 : decode cL_comesSo 141 = .ok (.bipush 10, 2) := by decide +kernel
theorem dL_comesSo_143 : decode cL_comesSo 143 = .ok (.invokevirtual 13, 3) := by decide +kernel
theorem dL_comesSo_146 : decode cL_comesSo 146 = .ok (.istore 12, 2) := by decide +kernel
theorem dL_comesSo_148 : decode cL_comesSo 148 = .ok (.aload_n 0, 1) := by decide +kernel
theorem dL_comesSo_149 : decode cL_comesSo 149 = .ok (.bipush 12, 2) := by decide +kernel
theorem dL_comesSo_151 : decode cL_comesSo 151 = .ok (.invokevirtual 13, 3) := by decide +kernel
theorem dL_comesSo_154 : decode cL_comesSo 154 = .ok (.istore 13, 2) := by decide +kernel
theorem dL_comesSo_156 : decode cL_comesSo 156 = .ok (.aload_n 0, 1) := by decide +kernel
theorem dL_comesSo_157 : decode cL_comesSo 157 = .ok (.bipush 30, 2) := by decide +kernel
theorem dL_comesSo_159 : decode cL_comesSo 159 = .ok (.invokevirtual 54, 3) := by decide +kernel
theorem dL_comesSo_162 : decode cL_comesSo 162 = .ok (.iload_n 3, 1) := by decide +kernel
theorem dL_comesSo_163 : decode cL_comesSo 163 = .ok (.if_icmp .ne 86, 3) := by decide +kernel
theorem dL_comesSo_166 : decode cL_comesSo 166 = .ok (.aload_n 0, 1) := by decide +kernel
theorem dL_comesSo_167 : decode cL_comesSo 167 = .ok (.bipush 12, 2) := by decide +kernel
theorem dL_comesSo_169 : decode cL_comesSo 169 = .ok (.invokevirtual 13, 3) := by decide +kernel
theorem dL_comesSo_172 : decode cL_comesSo 172 = .ok (.iload 13, 2) := by decide +kernel
theorem dL_comesSo_174 : decode cL_comesSo 174 = .ok (.iload 4, 2) := by decide +kernel
theorem dL_comesSo_176 : decode cL_comesSo 176 = .ok (.iadd, 1) := by decide +kernel
theorem dL_comesSo_177 : decode cL_comesSo 177 = .ok (.if_icmp .ne 72, 3) := by decide +kernel
theorem dL_comesSo_180 : decode cL_comesSo 180 = .ok (.aload_n 0, 1) := by decide +kernel
theorem dL_comesSo_181 : decode cL_comesSo 181 = .ok (.bipush 10, 2) := by decide +kernel
theorem dL_comesSo_183 : decode cL_comesSo 183 = .ok (.invokevirtual 13, 3) := by decide +kernel
theorem dL_comesSo_186 : decode cL_comesSo 186 = .ok (.iload 12, 2) := by decide +kernel
theorem dL_comesSo_188 : decode cL_comesSo 188 = .ok (.iload 5, 2) := by decide +kernel
theorem dL_comesSo_190 : decode cL_comesSo 190 = .ok (.isub, 1) := by decide +kernel
theorem dL_comesSo_191 : decode cL_comesSo 191 = .ok (.if_icmp .ne 58, 3) := by decide +kernel
theorem dL_comesSo_194 : decode cL_comesSo 194 = .ok (.aload_n 0, 1) := by decide +kernel
theorem dL_comesSo_195 : decode cL_comesSo 195 = .ok (.iconst 5, 1) := by decide +kernel
theorem dL_comesSo_196 : decode cL_comesSo 196 = .ok (.invokevirtual 13, 3) := by decide +kernel
theorem dL_comesSo_199 : decode cL_comesSo 199 = .ok (.iload 6, 2) := by decide +kernel
theorem dL_comesSo_201 : decode cL_comesSo 201 = .ok (.if_icmp .ne 48, 3) := by decide +kernel
theorem dL_comesSo_204 : decode cL_comesSo 204 = .ok (.aload_n 0, 1) := by decide +kernel
theorem dL_comesSo_205 : decode cL_comesSo 205 = .ok (.bipush 9, 2) := by decide +kernel
theorem dL_comesSo_207 : decode cL_comesSo 207 = .ok (.invokevirtual 13, 3) := by decide +kernel
theorem dL_comesSo_210 : decode cL_comesSo 210 = .ok (.iload 7, 2) := by decide +kernel
theorem dL_comesSo_212 : decode cL_comesSo 212 = .ok (.if_icmp .ne 37, 3) := by decide +kernel
theorem dL_comesSo_215 : decode cL_comesSo 215 = .ok (.iload_n 3, 1) := by decide +kernel
theorem dL_comesSo_216 : decode cL_comesSo 216 = .ok (.bipush 30, 2) := by decide +kernel
theorem dL_comesSo_218 : decode cL_comesSo 218 = .ok (.if_icmp .eq 11, 3) := by decide +kernel
theorem dL_comesSo_221 : decode cL_comesSo 221 = .ok (.aload_n 0, 1) := by decide +kernel
theorem dL_comesSo_222 : decode cL_comesSo 222 = .ok (.iconst 0, 1) := by decide +kernel
theorem dL_comesSo_223 : decode cL_comesSo 223 = .ok (.invokevirtual 69, 3) := by decide +kernel
theorem dL_comesSo_226 : decode cL_comesSo 226 = .ok (.ifCond .ne 23, 3) := by decide +kernel
theorem dL_comesSo_229 : decode cL_comesSo 229 = .ok (.aload_n 0, 1) := by decide +kernel
theorem dL_comesSo_230 : decode cL_comesSo 230 = .ok (.invokevirtual 83, 3) := by decide +kernel
theorem dL_comesSo_233 : decode cL_comesSo 233 = .ok (.ifCond .lt 16, 3) := by decide +kernel
theorem dL_comesSo_236 : decode cL_comesSo 236 = .ok (.aload_n 0, 1) := by decide +kernel
theorem dL_comesSo_237 : decode cL_comesSo 237 = .ok (.invokestatic 26, 3) := by decide +kernel
theorem dL_comesSo_240 : decode cL_comesSo 240 = .ok (.lload_n 1, 1) := by decide +kernel
theorem dL_comesSo_241 : decode cL_comesSo 241 = .ok (.lcmp, 1) := by decide +kernel
theorem dL_comesSo_242 : decode cL_comesSo 242 = .ok (.ifCond .ne 7, 3) := by decide +kernel
theorem dL_comesSo_245 : decode cL_comesSo 245 = .ok (.iconst 1, 1) := by decide +kernel
theorem dL_comesSo_246 : decode cL_comesSo 246 = .ok (.goto 4, 3) := by decide +kernel
theorem dL_comesSo_249 : decode cL_comesSo 249 = .ok (.iconst 0, 1) := by decide +kernel
theorem dL_comesSo_250 : decode cL_comesSo 250 = .ok (.istore 14, 2) := by decide +kernel
theorem dL_comesSo_252 : decode cL_comesSo 252 = .ok (.iload 14, 2) := by decide +kernel
theorem dL_comesSo_254 : decode cL_comesSo 254 = .ok (.ifCond .eq 219, 3) := by decide +kernel
theorem dL_comesSo_257 : decode cL_comesSo 257 = .ok (.iload_n 3, 1) := by decide +kernel
theorem dL_comesSo_258 : decode cL_comesSo 258 = .ok (.ifCond .le 215, 3) := by decide +kernel
theorem dL_comesSo_261 : decode cL_comesSo 261 = .ok (.aload_n 0, 1) := by decide +kernel
theorem dL_comesSo_262 : decode cL_comesSo 262 = .ok (.iload 8, 2) := by decide +kernel
theorem dL_comesSo_264 : decode cL_comesSo 264 = .ok (.iconst 2, 1) := by decide +kernel
theorem dL_comesSo_265 : decode cL_comesSo 265 = .ok (.invokevirtual 23, 3) := by decide +kernel
theorem dL_comesSo_268 : decode cL_comesSo 268 = .ok (.istore 15, 2) := by decide +kernel
theorem dL_comesSo_270 : decode cL_comesSo 270 = .ok (.aload_n 0, 1) := by decide +kernel
theorem dL_comesSo_271 : decode cL_comesSo 271 = .ok (.iload 15, 2) := by decide +kernel
theorem dL_comesSo_273 : decode cL_comesSo 273 = .ok (.iconst 1, 1) := by decide +kernel
theorem dL_comesSo_274 : decode cL_comesSo 274 = .ok (.invokevirtual 19, 3) := by decide +kernel
theorem dL_comesSo_277 : decode cL_comesSo 277 = .ok (.istore 16, 2) := by decide +kernel
theorem dL_comesSo_279 : decode cL_comesSo 279 = .ok (.iload 16, 2) := by decide +kernel
theorem dL_comesSo_281 : decode cL_comesSo 281 = .ok (.aload_n 0, 1) := by decide +kernel
theorem dL_comesSo_282 : decode cL_comesSo 282 = .ok (.iconst 5, 1) := by decide +kernel
theorem dL_comesSo_283 : decode cL_comesSo 283 = .ok (.invokevirtual 13, 3) := by decide +kernel
theorem dL_comesSo_286 : decode cL_comesSo 286 = .ok (.if_icmp .ne 125, 3) := by decide +kernel
theorem dL_comesSo_289 : decode cL_comesSo 289 = .ok (.iload 11, 2) := by decide +kernel
theorem dL_comesSo_291 : decode cL_comesSo 291 = .ok (.iload 12, 2) := by decide +kernel
theorem dL_comesSo_293 : decode cL_comesSo 293 = .ok (.if_icmp .gt 118, 3) := by decide +kernel
theorem dL_comesSo_296 : decode cL_comesSo 296 = .ok (.aload_n 0, 1) := by decide +kernel
theorem dL_comesSo_297 : decode cL_comesSo 297 = .ok (.iconst 1, 1) := by decide +kernel
theorem dL_comesSo_298 : decode cL_comesSo 298 = .ok (.invokevirtual 54, 3) := by decide +kernel
theorem dL_comesSo_301 : decode cL_comesSo 301 = .ok (.iconst 1, 1) := by decide +kernel
theorem dL_comesSo_302 : decode cL_comesSo 302 = .ok (.if_icmp .ne 109, 3) := by decide +kernel
theorem dL_comesSo_305 : decode cL_comesSo 305 = .ok (.aload_n 0, 1) := by decide +kernel
theorem dL_comesSo_306 : decode cL_comesSo 306 = .ok (.iload 8, 2) := by decide +kernel
theorem dL_comesSo_308 : decode cL_comesSo 308 = .ok (.iconst 2, 1) := by decide +kernel
theorem dL_comesSo_309 : decode cL_comesSo 309 = .ok (.invokevirtual 23, 3) := by decide +kernel
theorem dL_comesSo_312 : decode cL_comesSo 312 = .ok (.iload 9, 2) := by decide +kernel
theorem dL_comesSo_314 : decode cL_comesSo 314 = .ok (.if_icmp .ne 97, 3) := by decide +kernel
theorem dL_comesSo_317 : decode cL_comesSo 317 = .ok (.iload 10, 2) := by decide +kernel
theorem dL_comesSo_319 : decode cL_comesSo 319 = .ok (.bipush (-9), 2) := by decide +kernel
theorem dL_comesSo_321 : decode cL_comesSo 321 = .ok (.if_icmp .eq 15, 3) := by decide +kernel
theorem dL_comesSo_324 : decode cL_comesSo 324 = .ok (.aload_n 0, 1) := by decide +kernel
theorem dL_comesSo_325 : decode cL_comesSo 325 = .ok (.iload 10, 2) := by decide +kernel
theorem dL_comesSo_327 : decode cL_comesSo 327 = .ok (.iconst 2, 1) := by decide +kernel
theorem dL_comesSo_328 : decode cL_comesSo 328 = .ok (.invokevirtual 23, 3) := by decide +kernel
theorem dL_comesSo_331 : decode cL_comesSo 331 = .ok (.iload 15, 2) := by decide +kernel
theorem dL_comesSo_333 : decode cL_comesSo 333 = .ok (.if_icmp .ne 78, 3) := by decide +kernel
theorem dL_comesSo_336 : decode cL_comesSo 336 = .ok (.aload_n 0, 1) := by decide +kernel
theorem dL_comesSo_337 : decode cL_comesSo 337 = .ok (.bipush 10, 2) := by decide +kernel
theorem dL_comesSo_339 : decode cL_comesSo 339 = .ok (.invokevirtual 13, 3) := by decide +kernel
theorem dL_comesSo_342 : decode cL_comesSo 342 = .ok (.iload 12, 2) := by decide +kernel
theorem dL_comesSo_344 : decode cL_comesSo 344 = .ok (.iload 11, 2) := by decide +kernel
theorem dL_comesSo_346 : decode cL_comesSo 346 = .ok (.isub, 1) := by decide +kernel
theorem dL_comesSo_347 : decode cL_comesSo 347 = .ok (.if_icmp .ne 64, 3) := by decide +kernel
theorem dL_comesSo_350 : decode cL_comesSo 350 = .ok (.aload_n 0, 1) := by decide +kernel
theorem dL_comesSo_351 : decode cL_comesSo 351 = .ok (.iload 15, 2) := by decide +kernel
theorem dL_comesSo_353 : decode cL_comesSo 353 = .ok (.iconst 1, 1) := by decide +kernel
theorem dL_comesSo_354 : decode cL_comesSo 354 = .ok (.invokevirtual 19, 3) := by decide +kernel
theorem dL_comesSo_357 : decode cL_comesSo 357 = .ok (.iload 16, 2) := by decide +kernel
theorem dL_comesSo_359 : decode cL_comesSo 359 = .ok (.if_icmp .ge 52, 3) := by decide +kernel
theorem dL_comesSo_362 : decode cL_comesSo 362 = .ok (.aload_n 0, 1) := by decide +kernel
theorem dL_comesSo_363 : decode cL_comesSo 363 = .ok (.iload 9, 2) := by decide +kernel
theorem dL_comesSo_365 : decode cL_comesSo 365 = .ok (.iconst 1, 1) := by decide +kernel
theorem dL_comesSo_366 : decode cL_comesSo 366 = .ok (.invokevirtual 19, 3) := by decide +kernel
theorem dL_comesSo_369 : decode cL_comesSo 369 = .ok (.iload 16, 2) := by decide +kernel
theorem dL_comesSo_371 : decode cL_comesSo 371 = .ok (.if_icmp .ge 40, 3) := by decide +kernel
theorem dL_comesSo_374 : decode cL_comesSo 374 = .ok (.iload_n 3, 1) := by decide +kernel
theorem dL_comesSo_375 : decode cL_comesSo 375 = .ok (.bipush 30, 2) := by decide +kernel
theorem dL_comesSo_377 : decode cL_comesSo 377 = .ok (.if_icmp .eq 14, 3) := by decide +kernel
theorem dL_comesSo_380 : decode cL_comesSo 380 = .ok (.aload_n 0, 1) := by decide +kernel
theorem dL_comesSo_381 : decode cL_comesSo 381 = .ok (.iconst 0, 1) := by decide +kernel
theorem dL_comesSo_382 : decode cL_comesSo 382 = .ok (.invokevirtual 69, 3) := by decide +kernel
theorem dL_comesSo_385 : decode cL_comesSo 385 = .ok (.iload_n 3, 1) := by decide +kernel
theorem dL_comesSo_386 : decode cL_comesSo 386 = .ok (.iconst 1, 1) := by decide +kernel
theorem dL_comesSo_387 : decode cL_comesSo 387 = .ok (.isub, 1) := by decide +kernel
theorem dL_comesSo_388 : decode cL_comesSo 388 = .ok (.if_icmp .ne 23, 3) := by decide +kernel
theorem dL_comesSo_391 : decode cL_comesSo 391 = .ok (.aload_n 0, 1) := by decide +kernel
theorem dL_comesSo_392 : decode cL_comesSo 392 = .ok (.invokevirtual 83, 3) := by decide +kernel
theorem dL_comesSo_395 : decode cL_comesSo 395 = .ok (.ifCond .lt 16, 3) := by decide +kernel
theorem dL_comesSo_398 : decode cL_comesSo 398 = .ok (.aload_n 0, 1) := by decide +kernel
theorem dL_comesSo_399 : decode cL_comesSo 399 = .ok (.invokestatic 26, 3) := by decide +kernel
theorem dL_comesSo_402 : decode cL_comesSo 402 = .ok (.lload_n 1, 1) := by decide +kernel
theorem dL_comesSo_403 : decode cL_comesSo 403 = .ok (.lcmp, 1) := by decide +kernel
theorem dL_comesSo_404 : decode cL_comesSo 404 = .ok (.ifCond .ne 7, 3) := by decide +kernel
theorem dL_comesSo_407 : decode cL_comesSo 407 = .ok (.iconst 1, 1) := by decide +kernel
theorem dL_comesSo_408 : decode cL_comesSo 408 = .ok (.goto 4, 3) := by decide +kernel
theorem dL_comesSo_411 : decode cL_comesSo 411 = .ok (.iconst 0, 1) := by decide +kernel
theorem dL_comesSo_412 : decode cL_comesSo 412 = .ok (.istore 14, 2) := by decide +kernel
theorem dL_comesSo_414 : decode cL_comesSo 414 = .ok (.iload 14, 2) := by decide +kernel
theorem dL_comesSo_416 : decode cL_comesSo 416 = .ok (.ifCond .eq 54, 3) := by decide +kernel
theorem dL_comesSo_419 : decode cL_comesSo 419 = .ok (.iload 10, 2) := by decide +kernel
theorem dL_comesSo_421 : decode cL_comesSo 421 = .ok (.bipush (-9), 2) := by decide +kernel
theorem dL_comesSo_423 : decode cL_comesSo 423 = .ok (.if_icmp .ne 14, 3) := by decide +kernel
theorem dL_comesSo_426 : decode cL_comesSo 426 = .ok (.aload_n 0, 1) := by decide +kernel
theorem dL_comesSo_427 : decode cL_comesSo 427 = .ok (.iload 8, 2) := by decide +kernel
theorem dL_comesSo_429 : decode cL_comesSo 429 = .ok (.iload 9, 2) := by decide +kernel
theorem dL_comesSo_431 : decode cL_comesSo 431 = .ok (.invokevirtual 45, 3) := by decide +kernel
theorem dL_comesSo_434 : decode cL_comesSo 434 = .ok (.goto 11, 3) := by decide +kernel
theorem dL_comesSo_437 : decode cL_comesSo 437 = .ok (.aload_n 0, 1) := by decide +kernel
theorem dL_comesSo_438 : decode cL_comesSo 438 = .ok (.iload 8, 2) := by decide +kernel
theorem dL_comesSo_440 : decode cL_comesSo 440 = .ok (.iload 10, 2) := by decide +kernel
theorem dL_comesSo_442 : decode cL_comesSo 442 = .ok (.invokevirtual 48, 3) := by decide +kernel
theorem dL_comesSo_445 : decode cL_comesSo 445 = .ok (.iload 16, 2) := by decide +kernel
theorem dL_comesSo_447 : decode cL_comesSo 447 = .ok (.if_icmp .gt 23, 3) := by decide +kernel
theorem dL_comesSo_450 : decode cL_comesSo 450 = .ok (.aload_n 0, 1) := by decide +kernel
theorem dL_comesSo_451 : decode cL_comesSo 451 = .ok (.invokevirtual 83, 3) := by decide +kernel
theorem dL_comesSo_454 : decode cL_comesSo 454 = .ok (.ifCond .lt 16, 3) := by decide +kernel
theorem dL_comesSo_457 : decode cL_comesSo 457 = .ok (.aload_n 0, 1) := by decide +kernel
theorem dL_comesSo_458 : decode cL_comesSo 458 = .ok (.invokestatic 26, 3) := by decide +kernel
theorem dL_comesSo_461 : decode cL_comesSo 461 = .ok (.lload_n 1, 1) := by decide +kernel
theorem dL_comesSo_462 : decode cL_comesSo 462 = .ok (.lcmp, 1) := by decide +kernel
theorem dL_comesSo_463 : decode cL_comesSo 463 = .ok (.ifCond .ne 7, 3) := by decide +kernel
theorem dL_comesSo_466 : decode cL_comesSo 466 = .ok (.iconst 1, 1) := by decide +kernel
theorem dL_comesSo_467 : decode cL_comesSo 467 = .ok (.goto 4, 3) := by decide +kernel
theorem dL_comesSo_470 : decode cL_comesSo 470 = .ok (.iconst 0, 1) := by decide +kernel
theorem dL_comesSo_471 : decode cL_comesSo 471 = .ok (.istore 14, 2) := by decide +kernel
theorem dL_comesSo_473 : decode cL_comesSo 473 = .ok (.iload 14, 2) := by decide +kernel
theorem dL_comesSo_475 : decode cL_comesSo 475 = .ok (.ireturn, 1) := by decide +kernel
