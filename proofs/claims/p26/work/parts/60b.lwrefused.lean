def wsL_refused_r1 : List Cond := [Cond.methodLink RL 26 yL_sum, Cond.static yL_sum, Cond.initialized RL, Cond.code yL_sum cL_sum 4 (some .long), Cond.constantLong RL 9 (17), Cond.constantLong RL 11 (31), Cond.methodLink RL 13 yX4_count, Cond.instanceMethod yX4_count, Cond.selects RX4 yX4_count yX4_count, Cond.initialized RX4, Cond.code yX4_count cX4_count 2 (some .int), Cond.fieldLink RX4 10 "EvenLoads" "now" "LEvenLoads$Cluster;", Cond.fieldLink RX4 25 "EvenLoads" "history" "LEvenLoads$History;", Cond.fieldLink RX4 39 "EvenLoads" "program" "LEvenLoads$Program;", Cond.methodLink RX4 114 yX0_finishedJobs, Cond.instanceMethod yX0_finishedJobs, Cond.selects RX0 yX0_finishedJobs yX0_finishedJobs, Cond.initialized RX0, Cond.code yX0_finishedJobs cX0_finishedJobs 3 (some .int), Cond.fieldLink RX0 37 "EvenLoads$Cluster" "jobs" "I", Cond.methodLink RX0 74 yX0_isFinished, Cond.instanceMethod yX0_isFinished, Cond.selects RX0 yX0_isFinished yX0_isFinished, Cond.code yX0_isFinished cX0_isFinished 2 (some .boolean)]
def wsL_refused_r2 : List Cond := [Cond.fieldLink RX0 18 "EvenLoads$Cluster" "places" "[I", Cond.static yX4_at, Cond.code yX4_at cX4_at 2 (some .int), Cond.methodLink RX4 120 yX0_greatestLoad, Cond.instanceMethod yX0_greatestLoad, Cond.selects RX0 yX0_greatestLoad yX0_greatestLoad, Cond.code yX0_greatestLoad cX0_greatestLoad 1 (some .int), Cond.fieldLink RX0 24 "EvenLoads$Cluster" "loads" "[I", Cond.methodLink RX0 124 yX0_fullestServer, Cond.instanceMethod yX0_fullestServer, Cond.selects RX0 yX0_fullestServer yX0_fullestServer, Cond.code yX0_fullestServer cX0_fullestServer 4 (some .int), Cond.fieldLink RX0 30 "EvenLoads$Cluster" "servers" "I", Cond.fieldLink RX0 27 "EvenLoads$Cluster" "opened" "[I", Cond.methodLink RX4 127 yX0_emptiestServer, Cond.instanceMethod yX0_emptiestServer, Cond.selects RX0 yX0_emptiestServer yX0_emptiestServer, Cond.code yX0_emptiestServer cX0_emptiestServer 4 (some .int), Cond.methodLink RX4 130 yX4_at, Cond.methodLink RX4 134 yX0_bound, Cond.instanceMethod yX0_bound, Cond.selects RX0 yX0_bound yX0_bound, Cond.code yX0_bound cX0_bound 3 (some .int), Cond.fieldLink RX0 9 "EvenLoads$Cluster" "sizes" "[I"]
def wsL_refused_r3 : List Cond := [Cond.methodLink RX0 127 Lib.Math.max.name, Cond.static Lib.Math.max.name, Cond.initialized "java/lang/Math", Cond.code Lib.Math.max.name Lib.Math.max.code 2 (some .int), Cond.fieldLink RX0 34 "EvenLoads$Cluster" "openServers" "I", Cond.fieldLink RX0 40 "EvenLoads$Cluster" "sum" "I", Cond.methodLink RX4 137 yX0_target, Cond.instanceMethod yX0_target, Cond.selects RX0 yX0_target yX0_target, Cond.code yX0_target cX0_target 1 (some .int), Cond.fieldLink RX0 46 "EvenLoads$Cluster" "factor" "I", Cond.methodLink RX0 132 yX0_bound, Cond.methodLink RX4 140 yX0_isEven, Cond.instanceMethod yX0_isEven, Cond.selects RX0 yX0_isEven yX0_isEven, Cond.code yX0_isEven cX0_isEven 1 (some .boolean), Cond.methodLink RX0 85 yX0_greatestLoad, Cond.methodLink RX0 77 yX0_target, Cond.methodLink RL 19 yX4_server, Cond.instanceMethod yX4_server, Cond.selects RX4 yX4_server yX4_server, Cond.code yX4_server cX4_server 3 (some .int), Cond.methodLink RX4 153 yX0_hasServer, Cond.instanceMethod yX0_hasServer]
def wsL_refused_r4 : List Cond := [Cond.selects RX0 yX0_hasServer yX0_hasServer, Cond.code yX0_hasServer cX0_hasServer 2 (some .boolean), Cond.methodLink RX4 157 yX0_isOpen, Cond.instanceMethod yX0_isOpen, Cond.selects RX0 yX0_isOpen yX0_isOpen, Cond.code yX0_isOpen cX0_isOpen 2 (some .boolean), Cond.methodLink RX4 160 yX0_jobsOn, Cond.instanceMethod yX0_jobsOn, Cond.selects RX0 yX0_jobsOn yX0_jobsOn, Cond.code yX0_jobsOn cX0_jobsOn 4 (some .int), Cond.methodLink RX4 163 yJ6_bitCount_0f7a4, Cond.static yJ6_bitCount_0f7a4, Cond.initialized RJ6, Cond.code yJ6_bitCount_0f7a4 cJ6_bitCount_0f7a4 1 (some .int), Cond.constant RJ6 265 (1431655765), Cond.constant RJ6 266 (858993459), Cond.constant RJ6 267 (252645135), Cond.methodLink RL 23 yX4_job, Cond.instanceMethod yX4_job, Cond.selects RX4 yX4_job yX4_job, Cond.code yX4_job cX4_job 3 (some .int), Cond.methodLink RX4 168 yX0_hasJob, Cond.instanceMethod yX0_hasJob, Cond.selects RX0 yX0_hasJob yX0_hasJob]
def wsL_refused_r5 : List Cond := [Cond.code yX0_hasJob cX0_hasJob 2 (some .boolean), Cond.methodLink RL 32 yX4_add, Cond.instanceMethod yX4_add, Cond.selects RX4 yX4_add yX4_add, Cond.code yX4_add cX4_add 4 (some .int), Cond.fieldLink RX4 16 "EvenLoads" "before" "LEvenLoads$Cluster;", Cond.methodLink RX4 43 yX0_copyFrom, Cond.instanceMethod yX0_copyFrom, Cond.selects RX0 yX0_copyFrom yX0_copyFrom, Cond.code yX0_copyFrom cX0_copyFrom 2 none, Cond.fieldLink RX0 15 "EvenLoads$Cluster" "prices" "[I", Cond.fieldLink RX0 21 "EvenLoads$Cluster" "moved" "[I", Cond.fieldLink RX0 43 "EvenLoads$Cluster" "budget" "I", Cond.fieldLink RX0 49 "EvenLoads$Cluster" "moves" "I", Cond.static yX4_copyRow, Cond.code yX4_copyRow cX4_copyRow 2 none, Cond.methodLink RX4 244 Lib.Math.min.name, Cond.static Lib.Math.min.name, Cond.code Lib.Math.min.name Lib.Math.min.code 2 (some .int), Cond.methodLink RX4 249 arraycopyName, Cond.native arraycopyName, Cond.static arraycopyName, Cond.initialized "java/lang/System", Cond.methodLink RX4 55 yX0_newJob]
def wsL_refused_r6 : List Cond := [Cond.instanceMethod yX0_newJob, Cond.selects RX0 yX0_newJob yX0_newJob, Cond.code yX0_newJob cX0_newJob 6 (some .int), Cond.methodLink RX0 60 yX0_hasServer, Cond.methodLink RX0 64 yX0_isOpen, Cond.static yX4_put, Cond.code yX4_put cX4_put 3 none, Cond.methodLink RX4 51 yX4_recorded, Cond.instanceMethod yX4_recorded, Cond.selects RX4 yX4_recorded yX4_recorded, Cond.code yX4_recorded cX4_recorded 2 (some .int), Cond.methodLink RX4 209 yX1_keep, Cond.instanceMethod yX1_keep, Cond.selects RX1 yX1_keep yX1_keep, Cond.initialized RX1, Cond.code yX1_keep cX1_keep 3 none, Cond.fieldLink RX1 21 "EvenLoads$History" "free" "I", Cond.fieldLink RX1 17 "EvenLoads$History" "depth" "I", Cond.methodLink RX1 33 Lib.Math.min.name, Cond.methodLink RX1 25 yX1_stateAt, Cond.instanceMethod yX1_stateAt, Cond.selects RX1 yX1_stateAt yX1_stateAt, Cond.code yX1_stateAt cX1_stateAt 2 (some (.object "EvenLoads$Cluster")), Cond.fieldLink RX1 11 "EvenLoads$History" "states" "[LEvenLoads$Cluster;"]
def wsL_refused_r7 : List Cond := [Cond.methodLink RX1 29 yX0_copyFrom, Cond.methodLink RL 36 yX4_finish, Cond.instanceMethod yX4_finish, Cond.selects RX4 yX4_finish yX4_finish, Cond.code yX4_finish cX4_finish 2 (some .int), Cond.methodLink RX4 59 yX0_endJob, Cond.instanceMethod yX0_endJob, Cond.selects RX0 yX0_endJob yX0_endJob, Cond.code yX0_endJob cX0_endJob 3 (some .int), Cond.methodLink RX0 71 yX0_hasJob, Cond.methodLink RL 39 yX4_setBudget, Cond.instanceMethod yX4_setBudget, Cond.selects RX4 yX4_setBudget yX4_setBudget, Cond.code yX4_setBudget cX4_setBudget 2 (some .int), Cond.methodLink RX4 62 yX0_changeBudget, Cond.instanceMethod yX0_changeBudget, Cond.selects RX0 yX0_changeBudget yX0_changeBudget, Cond.code yX0_changeBudget cX0_changeBudget 3 (some .int), Cond.methodLink RL 42 yX4_setFactor, Cond.instanceMethod yX4_setFactor, Cond.selects RX4 yX4_setFactor yX4_setFactor, Cond.code yX4_setFactor cX4_setFactor 2 (some .int), Cond.methodLink RX4 65 yX0_changeFactor, Cond.instanceMethod yX0_changeFactor]
def wsL_refused_r8 : List Cond := [Cond.selects RX0 yX0_changeFactor yX0_changeFactor, Cond.code yX0_changeFactor cX0_changeFactor 2 (some .int), Cond.methodLink RL 45 yX4_move, Cond.instanceMethod yX4_move, Cond.selects RX4 yX4_move yX4_move, Cond.code yX4_move cX4_move 3 (some .int), Cond.methodLink RX4 68 yX0_moveJob, Cond.instanceMethod yX0_moveJob, Cond.selects RX0 yX0_moveJob yX0_moveJob, Cond.code yX0_moveJob cX0_moveJob 3 (some .int), Cond.methodLink RX0 81 yX0_takeTo, Cond.instanceMethod yX0_takeTo, Cond.selects RX0 yX0_takeTo yX0_takeTo, Cond.code yX0_takeTo cX0_takeTo 3 none, Cond.methodLink RX0 114 yX0_shiftLoad, Cond.instanceMethod yX0_shiftLoad, Cond.selects RX0 yX0_shiftLoad yX0_shiftLoad, Cond.code yX0_shiftLoad cX0_shiftLoad 4 none, Cond.methodLink RL 48 yX4_exchange, Cond.instanceMethod yX4_exchange, Cond.selects RX4 yX4_exchange yX4_exchange, Cond.code yX4_exchange cX4_exchange 3 (some .int), Cond.methodLink RX4 72 yX0_exchangeJobs, Cond.instanceMethod yX0_exchangeJobs]
def wsL_refused_r9 : List Cond := [Cond.selects RX0 yX0_exchangeJobs yX0_exchangeJobs, Cond.code yX0_exchangeJobs cX0_exchangeJobs 4 (some .int), Cond.methodLink RX0 88 yX0_areApart, Cond.instanceMethod yX0_areApart, Cond.selects RX0 yX0_areApart yX0_areApart, Cond.code yX0_areApart cX0_areApart 3 (some .boolean), Cond.methodLink RL 51 yX4_ring, Cond.instanceMethod yX4_ring, Cond.selects RX4 yX4_ring yX4_ring, Cond.code yX4_ring cX4_ring 4 (some .int), Cond.methodLink RX4 75 yX0_moveRing, Cond.instanceMethod yX0_moveRing, Cond.selects RX0 yX0_moveRing yX0_moveRing, Cond.code yX0_moveRing cX0_moveRing 5 (some .int), Cond.methodLink RL 54 yX4_even, Cond.instanceMethod yX4_even, Cond.selects RX4 yX4_even yX4_even, Cond.code yX4_even cX4_even 2 (some .int), Cond.fieldLink RX4 32 "EvenLoads" "next" "LEvenLoads$Step;", Cond.methodLink RX4 78 yX3_walk, Cond.instanceMethod yX3_walk, Cond.selects RX3 yX3_walk yX3_walk, Cond.initialized RX3, Cond.code yX3_walk cX3_walk 6 (some .int)]
def wsL_refused_r10 : List Cond := [Cond.fieldLink RX3 9 "EvenLoads$Step" "job" "I", Cond.fieldLink RX3 15 "EvenLoads$Step" "goal" "I", Cond.fieldLink RX3 18 "EvenLoads$Step" "other" "I", Cond.methodLink RX3 27 yX0_target, Cond.methodLink RX3 33 yX3_choose, Cond.instanceMethod yX3_choose, Cond.selects RX3 yX3_choose yX3_choose, Cond.code yX3_choose cX3_choose 4 (some .boolean), Cond.methodLink RX3 49 yX0_fullestServer, Cond.methodLink RX3 55 yX3_chooseMove, Cond.instanceMethod yX3_chooseMove, Cond.selects RX3 yX3_chooseMove yX3_chooseMove, Cond.code yX3_chooseMove cX3_chooseMove 8 none, Cond.methodLink RX3 85 Lib.Math.max.name, Cond.methodLink RX3 69 yX3_startBelow, Cond.instanceMethod yX3_startBelow, Cond.selects RX3 yX3_startBelow yX3_startBelow, Cond.code yX3_startBelow cX3_startBelow 2 none, Cond.fieldLink RX3 24 "EvenLoads$Step" "greater" "I", Cond.methodLink RX3 94 yX3_offer, Cond.instanceMethod yX3_offer, Cond.selects RX3 yX3_offer yX3_offer, Cond.code yX3_offer cX3_offer 7 none, Cond.fieldLink RX3 21 "EvenLoads$Step" "price" "I"]
def wsL_refused_r11 : List Cond := [Cond.methodLink RX3 59 yX3_isPossible, Cond.instanceMethod yX3_isPossible, Cond.selects RX3 yX3_isPossible yX3_isPossible, Cond.code yX3_isPossible cX3_isPossible 2 (some .boolean), Cond.methodLink RX3 63 yX3_chooseExchange, Cond.instanceMethod yX3_chooseExchange, Cond.selects RX3 yX3_chooseExchange yX3_chooseExchange, Cond.code yX3_chooseExchange cX3_chooseExchange 10 none, Cond.methodLink RX3 45 yX0_takeTo, Cond.methodLink RL 57 yX4_close, Cond.instanceMethod yX4_close, Cond.selects RX4 yX4_close yX4_close, Cond.code yX4_close cX4_close 2 (some .int), Cond.methodLink RX4 82 yX0_closeServer, Cond.instanceMethod yX0_closeServer, Cond.selects RX0 yX0_closeServer yX0_closeServer, Cond.code yX0_closeServer cX0_closeServer 2 (some .int), Cond.methodLink RX0 92 yX0_priceOfAll, Cond.instanceMethod yX0_priceOfAll, Cond.selects RX0 yX0_priceOfAll yX0_priceOfAll, Cond.code yX0_priceOfAll cX0_priceOfAll 4 (some .int), Cond.methodLink RX0 96 yX0_closeAndEmpty, Cond.instanceMethod yX0_closeAndEmpty, Cond.selects RX0 yX0_closeAndEmpty yX0_closeAndEmpty]
def wsL_refused_r12 : List Cond := [Cond.code yX0_closeAndEmpty cX0_closeAndEmpty 4 (some .int), Cond.methodLink RX0 99 yX0_jobsOn, Cond.methodLink RX0 102 yJ6_bitCount_0f7a4, Cond.methodLink RX0 107 yX0_leavingJob, Cond.instanceMethod yX0_leavingJob, Cond.selects RX0 yX0_leavingJob yX0_leavingJob, Cond.code yX0_leavingJob cX0_leavingJob 4 (some .int), Cond.methodLink RX0 118 yX0_jobsLeavingBefore, Cond.instanceMethod yX0_jobsLeavingBefore, Cond.selects RX0 yX0_jobsLeavingBefore yX0_jobsLeavingBefore, Cond.code yX0_jobsLeavingBefore cX0_jobsLeavingBefore 4 (some .int), Cond.methodLink RX0 121 yX0_leavesBefore, Cond.instanceMethod yX0_leavesBefore, Cond.selects RX0 yX0_leavesBefore yX0_leavesBefore, Cond.code yX0_leavesBefore cX0_leavesBefore 3 (some .boolean), Cond.methodLink RX0 111 yX0_emptiestServer, Cond.methodLink RL 60 yX4_open, Cond.instanceMethod yX4_open, Cond.selects RX4 yX4_open yX4_open, Cond.code yX4_open cX4_open 2 (some .int), Cond.methodLink RX4 85 yX0_openServer, Cond.instanceMethod yX0_openServer, Cond.selects RX0 yX0_openServer yX0_openServer, Cond.code yX0_openServer cX0_openServer 2 (some .int)]
def wsL_refused_r13 : List Cond := [Cond.methodLink RL 63 yX4_leaving, Cond.instanceMethod yX4_leaving, Cond.selects RX4 yX4_leaving yX4_leaving, Cond.code yX4_leaving cX4_leaving 3 (some .int), Cond.methodLink RX4 183 yX0_leavingJob, Cond.methodLink RL 66 yX4_step, Cond.instanceMethod yX4_step, Cond.selects RX4 yX4_step yX4_step, Cond.code yX4_step cX4_step 2 (some .int), Cond.methodLink RX4 186 yX3_choose, Cond.methodLink RL 69 yX4_plan, Cond.instanceMethod yX4_plan, Cond.selects RX4 yX4_plan yX4_plan, Cond.code yX4_plan cX4_plan 3 (some .int), Cond.fieldLink RX4 19 "EvenLoads" "trial" "LEvenLoads$Cluster;", Cond.methodLink RL 72 yX4_fewest, Cond.instanceMethod yX4_fewest, Cond.selects RX4 yX4_fewest yX4_fewest, Cond.code yX4_fewest cX4_fewest 5 (some .int), Cond.methodLink RX4 202 yX4_cheapest, Cond.static yX4_cheapest, Cond.code yX4_cheapest cX4_cheapest 11 (some .int), Cond.methodLink RX4 237 yX0_serversAbove, Cond.instanceMethod yX0_serversAbove]
def wsL_refused_r14 : List Cond := [Cond.selects RX0 yX0_serversAbove yX0_serversAbove, Cond.code yX0_serversAbove cX0_serversAbove 4 (some .int), Cond.methodLink RX4 240 yX0_shiftLoad, Cond.methodLink RL 75 yX4_without, Cond.instanceMethod yX4_without, Cond.selects RX4 yX4_without yX4_without, Cond.code yX4_without cX4_without 2 (some .int), Cond.methodLink RX4 206 yX0_closeAndEmpty, Cond.methodLink RL 78 yX4_addServer, Cond.instanceMethod yX4_addServer, Cond.selects RX4 yX4_addServer yX4_addServer, Cond.code yX4_addServer cX4_addServer 1 (some .int), Cond.methodLink RX4 47 yX0_newServer, Cond.instanceMethod yX0_newServer, Cond.selects RX0 yX0_newServer yX0_newServer, Cond.code yX0_newServer cX0_newServer 1 (some .int)]
def wsL_refused : List Cond := .code yL_refused cL_refused 7 (some .boolean) :: ((wsL_refused_r1 ++ (wsL_refused_r2 ++ (wsL_refused_r3 ++ (wsL_refused_r4 ++ (wsL_refused_r5 ++ (wsL_refused_r6 ++ (wsL_refused_r7 ++ (wsL_refused_r8 ++ (wsL_refused_r9 ++ (wsL_refused_r10 ++ (wsL_refused_r11 ++ (wsL_refused_r12 ++ (wsL_refused_r13 ++ wsL_refused_r14))))))))))))) ++ wsX40 ++ wsX00 ++ wsX10 ++ wsX20 ++ wsX30)
set_option maxRecDepth 20000 in
theorem ggL_refused_L_sum : GoodIn wsL_refused wsL_sum := goodIn_r _ [4, 5, 6, 7, 8, 9, 10, 11, 12, 13, 14, 15, 16, 17, 18, 19, 20, 21, 22, 23, 24, 25, 26, 27, 28, 29, 30, 31, 32, 33, 34, 35, 36, 37, 38, 39, 40, 41, 42, 43, 44, 45, 46, 47, 48, 49, 50, 51, 52, 53, 54, 55, 56, 57, 58, 59, 60, 61, 62, 63, 64, 65, 66, 67, 68, 69, 70, 71, 72, 73, 74, 75, 76, 77, 78, 79, 80, 81, 82, 83, 84, 85, 86, 87, 88, 89, 90, 91, 92, 93, 94, 95, 96, 97, 329, 330, 331, 332, 333, 334, 335, 336, 337, 338, 339, 340, 341, 342, 343, 344, 345, 346, 347, 348, 349, 350, 351, 352, 353, 354, 355, 356, 357, 358] (by decide +kernel) (by decide +kernel)
set_option maxRecDepth 20000 in
theorem gL_refused_L_sum : GoodIn wsL_refused (va_wsS RL 26 yL_sum wsL_sum) := goodIn_app (goodIn_of _ (by decide +kernel)) ggL_refused_L_sum
set_option maxRecDepth 20000 in
theorem ggL_refused_X4_count : GoodIn wsL_refused wsX4_count := goodIn_r _ [11, 12, 13, 14, 15, 16, 17, 18, 19, 20, 21, 22, 23, 24, 25, 26, 10, 27, 28, 29, 30, 31, 32, 33, 34, 35, 36, 37, 38, 39, 40, 41, 42, 43, 44, 45, 46, 47, 48, 49, 50, 51, 52, 53, 54, 55, 56, 57, 58, 59, 60, 61, 62, 63, 64, 65, 66, 329, 330, 331, 332, 333, 334, 335, 336, 337, 338, 339, 340, 341, 342, 343, 344, 345, 346, 347, 348, 349, 350, 351, 352, 353, 354, 355, 356, 357, 358] (by decide +kernel) (by decide +kernel)
set_option maxRecDepth 20000 in
theorem gL_refused_X4_count : GoodIn wsL_refused (wsV RL 13 RX4 yX4_count wsX4_count) := goodIn_app (goodIn_of _ (by decide +kernel)) ggL_refused_X4_count
set_option maxRecDepth 20000 in
theorem ggL_refused_X4_add : GoodIn wsL_refused wsX4_add := goodIn_r _ [101, 102, 12, 103, 104, 105, 18, 106, 48, 107, 25, 108, 32, 38, 37, 53, 20, 54, 109, 59, 110, 111, 10, 112, 113, 114, 51, 115, 116, 117, 118, 119, 120, 121, 122, 123, 124, 72, 73, 74, 125, 76, 77, 78, 26, 27, 126, 127, 128, 129, 130, 131, 13, 132, 133, 134, 135, 136, 137, 138, 139, 140, 141, 142, 143, 144, 145, 329, 330, 331, 332, 333, 334, 335, 336, 337, 338, 339, 340, 341, 342, 343, 344, 345, 346, 347, 348, 349, 350] (by decide +kernel) (by decide +kernel)
set_option maxRecDepth 20000 in
theorem gL_refused_X4_add : GoodIn wsL_refused (wsV RL 32 RX4 yX4_add wsX4_add) := goodIn_app (goodIn_of _ (by decide +kernel)) ggL_refused_X4_add
set_option maxRecDepth 20000 in
theorem ggL_refused_X4_finish : GoodIn wsL_refused wsX4_finish := goodIn_r _ [149, 102, 12, 103, 104, 105, 18, 106, 48, 107, 25, 108, 32, 38, 37, 53, 20, 54, 109, 59, 110, 111, 10, 112, 113, 114, 51, 115, 116, 117, 118, 119, 150, 151, 152, 153, 154, 95, 96, 97, 21, 22, 23, 24, 26, 27, 126, 127, 128, 129, 130, 131, 13, 132, 133, 134, 135, 136, 137, 138, 139, 140, 141, 142, 143, 144, 145, 329, 330, 331, 332, 333, 334, 335, 336, 337, 338, 339, 340, 341, 342, 343, 344, 345, 346, 347, 348, 349, 350] (by decide +kernel) (by decide +kernel)
set_option maxRecDepth 20000 in
theorem gL_refused_X4_finish : GoodIn wsL_refused (wsV RL 36 RX4 yX4_finish wsX4_finish) := goodIn_app (goodIn_of _ (by decide +kernel)) ggL_refused_X4_finish
set_option maxRecDepth 20000 in
theorem ggL_refused_X4_setBudget : GoodIn wsL_refused wsX4_setBudget := goodIn_r _ [158, 102, 12, 103, 104, 105, 18, 106, 48, 107, 25, 108, 32, 38, 37, 53, 20, 54, 109, 59, 110, 111, 10, 112, 113, 114, 51, 115, 116, 117, 118, 119, 159, 160, 161, 162, 128, 129, 130, 131, 13, 132, 133, 134, 135, 136, 137, 138, 139, 140, 141, 142, 143, 144, 145, 329, 330, 331, 332, 333, 334, 335, 336, 337, 338, 339, 340, 341, 342, 343, 344, 345, 346, 347, 348, 349, 350] (by decide +kernel) (by decide +kernel)
set_option maxRecDepth 20000 in
theorem gL_refused_X4_setBudget : GoodIn wsL_refused (wsV RL 39 RX4 yX4_setBudget wsX4_setBudget) := goodIn_app (goodIn_of _ (by decide +kernel)) ggL_refused_X4_setBudget
set_option maxRecDepth 20000 in
theorem ggL_refused_X4_setFactor : GoodIn wsL_refused wsX4_setFactor := goodIn_r _ [166, 102, 12, 103, 104, 105, 18, 106, 48, 107, 25, 108, 32, 38, 37, 53, 20, 54, 109, 59, 110, 111, 10, 112, 113, 114, 51, 115, 116, 117, 118, 119, 167, 168, 169, 170, 66, 56, 57, 58, 60, 45, 46, 47, 49, 50, 52, 26, 27, 128, 129, 130, 131, 13, 132, 133, 134, 135, 136, 137, 138, 139, 140, 141, 142, 143, 144, 145, 329, 330, 331, 332, 333, 334, 335, 336, 337, 338, 339, 340, 341, 342, 343, 344, 345, 346, 347, 348, 349, 350] (by decide +kernel) (by decide +kernel)
set_option maxRecDepth 20000 in
theorem gL_refused_X4_setFactor : GoodIn wsL_refused (wsV RL 42 RX4 yX4_setFactor wsX4_setFactor) := goodIn_app (goodIn_of _ (by decide +kernel)) ggL_refused_X4_setFactor
set_option maxRecDepth 20000 in
theorem ggL_refused_X4_move : GoodIn wsL_refused wsX4_move := goodIn_r _ [174, 102, 12, 103, 104, 105, 18, 106, 48, 107, 25, 108, 32, 38, 37, 53, 20, 54, 109, 59, 110, 111, 10, 112, 113, 114, 51, 115, 116, 117, 118, 119, 175, 176, 177, 178, 154, 95, 96, 97, 124, 72, 73, 74, 21, 22, 23, 24, 26, 27, 125, 76, 77, 78, 179, 180, 181, 182, 183, 184, 185, 186, 126, 127, 65, 29, 30, 31, 33, 34, 35, 36, 128, 129, 130, 131, 13, 132, 133, 134, 135, 136, 137, 138, 139, 140, 141, 142, 143, 144, 145, 329, 330, 331, 332, 333, 334, 335, 336, 337, 338, 339, 340, 341, 342, 343, 344, 345, 346, 347, 348, 349, 350] (by decide +kernel) (by decide +kernel)
set_option maxRecDepth 20000 in
theorem gL_refused_X4_move : GoodIn wsL_refused (wsV RL 45 RX4 yX4_move wsX4_move) := goodIn_app (goodIn_of _ (by decide +kernel)) ggL_refused_X4_move
set_option maxRecDepth 20000 in
theorem ggL_refused_X4_exchange : GoodIn wsL_refused wsX4_exchange := goodIn_r _ [190, 102, 12, 103, 104, 105, 18, 106, 48, 107, 25, 108, 32, 38, 37, 53, 20, 54, 109, 59, 110, 111, 10, 112, 113, 114, 51, 115, 116, 117, 118, 119, 191, 192, 193, 194, 154, 95, 96, 97, 195, 196, 197, 198, 21, 22, 23, 24, 26, 27, 179, 180, 181, 182, 183, 184, 185, 186, 126, 127, 65, 29, 30, 31, 33, 34, 35, 36, 128, 129, 130, 131, 13, 132, 133, 134, 135, 136, 137, 138, 139, 140, 141, 142, 143, 144, 145, 329, 330, 331, 332, 333, 334, 335, 336, 337, 338, 339, 340, 341, 342, 343, 344, 345, 346, 347, 348, 349, 350] (by decide +kernel) (by decide +kernel)
set_option maxRecDepth 20000 in
theorem gL_refused_X4_exchange : GoodIn wsL_refused (wsV RL 48 RX4 yX4_exchange wsX4_exchange) := goodIn_app (goodIn_of _ (by decide +kernel)) ggL_refused_X4_exchange
set_option maxRecDepth 20000 in
theorem ggL_refused_X4_ring : GoodIn wsL_refused wsX4_ring := goodIn_r _ [202, 102, 12, 103, 104, 105, 18, 106, 48, 107, 25, 108, 32, 38, 37, 53, 20, 54, 109, 59, 110, 111, 10, 112, 113, 114, 51, 115, 116, 117, 118, 119, 203, 204, 205, 206, 154, 95, 96, 97, 195, 196, 197, 198, 21, 22, 23, 24, 26, 27, 179, 180, 181, 182, 183, 184, 185, 186, 126, 127, 65, 29, 30, 31, 33, 34, 35, 36, 128, 129, 130, 131, 13, 132, 133, 134, 135, 136, 137, 138, 139, 140, 141, 142, 143, 144, 145, 329, 330, 331, 332, 333, 334, 335, 336, 337, 338, 339, 340, 341, 342, 343, 344, 345, 346, 347, 348, 349, 350] (by decide +kernel) (by decide +kernel)
set_option maxRecDepth 20000 in
theorem gL_refused_X4_ring : GoodIn wsL_refused (wsV RL 51 RX4 yX4_ring wsX4_ring) := goodIn_app (goodIn_of _ (by decide +kernel)) ggL_refused_X4_ring
set_option maxRecDepth 20000 in
theorem ggL_refused_X4_even : GoodIn wsL_refused wsX4_even := goodIn_r _ [210, 102, 12, 211, 103, 104, 105, 18, 106, 48, 107, 25, 108, 32, 38, 37, 53, 20, 54, 109, 59, 110, 111, 10, 112, 113, 114, 51, 115, 116, 117, 118, 119, 212, 213, 214, 215, 216, 217, 218, 219, 220, 56, 57, 58, 60, 45, 46, 47, 49, 50, 52, 26, 27, 221, 222, 223, 224, 225, 34, 35, 36, 226, 227, 228, 229, 230, 231, 232, 233, 234, 235, 236, 237, 238, 239, 240, 241, 242, 243, 244, 245, 246, 247, 248, 249, 180, 181, 182, 183, 184, 185, 186, 126, 127, 128, 129, 130, 131, 13, 132, 133, 134, 135, 136, 137, 138, 139, 140, 141, 142, 143, 144, 145, 329, 330, 331, 332, 333, 334, 335, 336, 337, 338, 339, 340, 341, 342, 343, 344, 345, 346, 347, 359, 360, 361, 362, 363, 348, 349, 350] (by decide +kernel) (by decide +kernel)
set_option maxRecDepth 20000 in
theorem gL_refused_X4_even : GoodIn wsL_refused (wsV RL 54 RX4 yX4_even wsX4_even) := goodIn_app (goodIn_of _ (by decide +kernel)) ggL_refused_X4_even
set_option maxRecDepth 20000 in
theorem ggL_refused_X4_close : GoodIn wsL_refused wsX4_close := goodIn_r _ [253, 102, 12, 103, 104, 105, 18, 106, 48, 107, 25, 108, 32, 38, 37, 53, 20, 54, 109, 59, 110, 111, 10, 112, 113, 114, 51, 115, 116, 117, 118, 119, 254, 255, 256, 257, 124, 72, 73, 74, 125, 76, 77, 78, 26, 27, 258, 259, 260, 261, 262, 263, 264, 265, 126, 127, 266, 80, 81, 82, 267, 84, 85, 86, 87, 88, 89, 268, 269, 270, 271, 272, 273, 274, 275, 276, 277, 278, 279, 280, 40, 41, 42, 179, 180, 181, 182, 183, 184, 185, 186, 128, 129, 130, 131, 13, 132, 133, 134, 135, 136, 137, 138, 139, 140, 141, 142, 143, 144, 145, 329, 330, 331, 332, 333, 334, 335, 336, 337, 338, 339, 340, 341, 342, 343, 344, 345, 346, 347, 348, 349, 350] (by decide +kernel) (by decide +kernel)
set_option maxRecDepth 20000 in
theorem gL_refused_X4_close : GoodIn wsL_refused (wsV RL 57 RX4 yX4_close wsX4_close) := goodIn_app (goodIn_of _ (by decide +kernel)) ggL_refused_X4_close
set_option maxRecDepth 20000 in
theorem ggL_refused_X4_open : GoodIn wsL_refused wsX4_open := goodIn_r _ [284, 102, 12, 103, 104, 105, 18, 106, 48, 107, 25, 108, 32, 38, 37, 53, 20, 54, 109, 59, 110, 111, 10, 112, 113, 114, 51, 115, 116, 117, 118, 119, 285, 286, 287, 288, 124, 72, 73, 74, 125, 76, 77, 78, 26, 27, 126, 127, 128, 129, 130, 131, 13, 132, 133, 134, 135, 136, 137, 138, 139, 140, 141, 142, 143, 144, 145, 329, 330, 331, 332, 333, 334, 335, 336, 337, 338, 339, 340, 341, 342, 343, 344, 345, 346, 347, 348, 349, 350] (by decide +kernel) (by decide +kernel)
set_option maxRecDepth 20000 in
theorem gL_refused_X4_open : GoodIn wsL_refused (wsV RL 60 RX4 yX4_open wsX4_open) := goodIn_app (goodIn_of _ (by decide +kernel)) ggL_refused_X4_open
set_option maxRecDepth 20000 in
theorem ggL_refused_X4_server : GoodIn wsL_refused wsX4_server := goodIn_r _ [70, 12, 71, 72, 73, 18, 74, 37, 75, 76, 77, 78, 38, 26, 10, 27, 43, 79, 80, 81, 82, 20, 25, 83, 84, 85, 86, 87, 88, 89, 329, 330, 331, 332, 333, 334, 335, 336, 337, 338, 339, 340, 341, 342, 343, 344, 345, 346, 347] (by decide +kernel) (by decide +kernel)
set_option maxRecDepth 20000 in
theorem gL_refused_X4_server : GoodIn wsL_refused (wsV RL 19 RX4 yX4_server wsX4_server) := goodIn_app (goodIn_of _ (by decide +kernel)) ggL_refused_X4_server
set_option maxRecDepth 20000 in
theorem ggL_refused_X4_job : GoodIn wsL_refused wsX4_job := goodIn_r _ [93, 12, 94, 95, 96, 18, 97, 20, 43, 26, 10, 27, 329, 330, 331, 332, 333, 334, 335, 336, 337, 338, 339, 340, 341, 342, 343, 344, 345, 346, 347] (by decide +kernel) (by decide +kernel)
set_option maxRecDepth 20000 in
theorem gL_refused_X4_job : GoodIn wsL_refused (wsV RL 23 RX4 yX4_job wsX4_job) := goodIn_app (goodIn_of _ (by decide +kernel)) ggL_refused_X4_job
set_option maxRecDepth 20000 in
theorem ggL_refused_X4_leaving : GoodIn wsL_refused wsX4_leaving := goodIn_r _ [292, 12, 71, 72, 73, 18, 74, 37, 293, 269, 270, 271, 20, 25, 26, 10, 27, 272, 273, 274, 275, 276, 277, 278, 279, 48, 107, 329, 330, 331, 332, 333, 334, 335, 336, 337, 338, 339, 340, 341, 342, 343, 344, 345, 346, 347] (by decide +kernel) (by decide +kernel)
set_option maxRecDepth 20000 in
theorem gL_refused_X4_leaving : GoodIn wsL_refused (wsV RL 63 RX4 yX4_leaving wsX4_leaving) := goodIn_app (goodIn_of _ (by decide +kernel)) ggL_refused_X4_leaving
set_option maxRecDepth 20000 in
theorem ggL_refused_X4_step : GoodIn wsL_refused wsX4_step := goodIn_r _ [297, 211, 12, 55, 56, 57, 18, 58, 59, 60, 45, 46, 47, 20, 25, 48, 49, 50, 51, 52, 53, 54, 26, 10, 27, 298, 222, 223, 215, 224, 225, 34, 35, 36, 37, 32, 38, 226, 227, 228, 229, 230, 231, 232, 233, 234, 217, 235, 236, 237, 238, 239, 240, 218, 219, 241, 242, 243, 244, 245, 246, 247, 248, 329, 330, 331, 332, 333, 334, 359, 360, 361, 362, 363, 335, 336, 337, 338, 339, 340, 341, 342, 343, 344, 345, 346, 347] (by decide +kernel) (by decide +kernel)
set_option maxRecDepth 20000 in
theorem gL_refused_X4_step : GoodIn wsL_refused (wsV RL 66 RX4 yX4_step wsX4_step) := goodIn_app (goodIn_of _ (by decide +kernel)) ggL_refused_X4_step
set_option maxRecDepth 20000 in
theorem ggL_refused_X4_plan : GoodIn wsL_refused wsX4_plan := goodIn_r _ [302, 303, 12, 211, 103, 104, 105, 18, 106, 48, 107, 25, 108, 32, 38, 37, 53, 20, 54, 109, 59, 110, 111, 10, 112, 113, 114, 51, 115, 116, 117, 118, 119, 212, 213, 214, 215, 216, 217, 218, 219, 220, 56, 57, 58, 60, 45, 46, 47, 49, 50, 52, 26, 27, 221, 222, 223, 224, 225, 34, 35, 36, 226, 227, 228, 229, 230, 231, 232, 233, 234, 235, 236, 237, 238, 239, 240, 241, 242, 243, 244, 245, 246, 247, 248, 249, 180, 181, 182, 183, 184, 185, 186, 126, 127, 28, 29, 30, 31, 33, 61, 62, 63, 64, 65, 66, 329, 330, 331, 332, 333, 334, 335, 336, 337, 338, 339, 340, 341, 342, 343, 344, 345, 346, 347, 359, 360, 361, 362, 363] (by decide +kernel) (by decide +kernel)
set_option maxRecDepth 20000 in
theorem gL_refused_X4_plan : GoodIn wsL_refused (wsV RL 69 RX4 yX4_plan wsX4_plan) := goodIn_app (goodIn_of _ (by decide +kernel)) ggL_refused_X4_plan
set_option maxRecDepth 20000 in
theorem ggL_refused_X4_fewest : GoodIn wsL_refused wsX4_fewest := goodIn_r _ [307, 303, 12, 103, 104, 105, 18, 106, 48, 107, 25, 108, 32, 38, 37, 53, 20, 54, 109, 59, 110, 111, 10, 112, 113, 114, 51, 115, 116, 117, 118, 119, 55, 56, 57, 58, 60, 45, 46, 47, 49, 50, 52, 26, 27, 308, 309, 310, 311, 312, 313, 314, 43, 75, 76, 77, 78, 315, 184, 185, 186, 126, 127, 329, 330, 331, 332, 333, 334, 335, 336, 337, 338, 339, 340, 341, 342, 343, 344, 345, 346, 347] (by decide +kernel) (by decide +kernel)
set_option maxRecDepth 20000 in
theorem gL_refused_X4_fewest : GoodIn wsL_refused (wsV RL 72 RX4 yX4_fewest wsX4_fewest) := goodIn_app (goodIn_of _ (by decide +kernel)) ggL_refused_X4_fewest
set_option maxRecDepth 20000 in
theorem ggL_refused_X4_without : GoodIn wsL_refused wsX4_without := goodIn_r _ [319, 12, 303, 71, 72, 73, 18, 74, 37, 75, 76, 77, 78, 38, 26, 10, 27, 103, 104, 105, 106, 48, 107, 25, 108, 32, 53, 20, 54, 109, 59, 110, 111, 112, 113, 114, 51, 115, 116, 117, 118, 119, 320, 263, 264, 265, 126, 127, 266, 80, 81, 82, 267, 84, 85, 86, 87, 88, 89, 268, 269, 270, 271, 272, 273, 274, 275, 276, 277, 278, 279, 280, 40, 41, 42, 179, 180, 181, 182, 183, 184, 185, 186, 28, 29, 30, 31, 33, 34, 35, 36, 329, 330, 331, 332, 333, 334, 335, 336, 337, 338, 339, 340, 341, 342, 343, 344, 345, 346, 347] (by decide +kernel) (by decide +kernel)
set_option maxRecDepth 20000 in
theorem gL_refused_X4_without : GoodIn wsL_refused (wsV RL 75 RX4 yX4_without wsX4_without) := goodIn_app (goodIn_of _ (by decide +kernel)) ggL_refused_X4_without
set_option maxRecDepth 20000 in
theorem ggL_refused_X4_addServer : GoodIn wsL_refused wsX4_addServer := goodIn_r _ [324, 102, 12, 103, 104, 105, 18, 106, 48, 107, 25, 108, 32, 38, 37, 53, 20, 54, 109, 59, 110, 111, 10, 112, 113, 114, 51, 115, 116, 117, 118, 119, 325, 326, 327, 328, 126, 127, 128, 129, 130, 131, 13, 132, 133, 134, 135, 136, 137, 138, 139, 140, 141, 142, 143, 144, 145, 329, 330, 331, 332, 333, 334, 335, 336, 337, 338, 339, 340, 341, 342, 343, 344, 345, 346, 347, 348, 349, 350] (by decide +kernel) (by decide +kernel)
set_option maxRecDepth 20000 in
theorem gL_refused_X4_addServer : GoodIn wsL_refused (wsV RL 78 RX4 yX4_addServer wsX4_addServer) := goodIn_app (goodIn_of _ (by decide +kernel)) ggL_refused_X4_addServer
theorem dL_refused_0 : decode cL_refused 0 = .ok (.aload_n 0, 1) := by decide +kernel
theorem dL_refused_1 : decode cL_refused 1 = .ok (.invokestatic 26, 3) := by decide +kernel
theorem dL_refused_4 : decode cL_refused 4 = .ok (.lstore_n 1, 1) := by decide +kernel
theorem dL_refused_5 : decode cL_refused 5 = .ok (.aload_n 0, 1) := by decide +kernel
theorem dL_refused_6 : decode cL_refused 6 = .ok (.bipush 13, 2) := by decide +kernel
theorem dL_refused_8 : decode cL_refused 8 = .ok (.invokevirtual 13, 3) := by decide +kernel
theorem dL_refused_11 : decode cL_refused 11 = .ok (.istore_n 3, 1) := by decide +kernel
theorem dL_refused_12 : decode cL_refused 12 = .ok (.aload_n 0, 1) := by decide +kernel
theorem dL_refused_13 : decode cL_refused 13 = .ok (.iconst 0, 1) := by decide +kernel
theorem dL_refused_14 : decode cL_refused 14 = .ok (.invokevirtual 13, 3) := by decide +kernel
theorem dL_refused_17 : decode cL_refused 17 = .ok (.istore 4, 2) := by decide +kernel
theorem dL_refused_19 : decode cL_refused 19 = .ok (.aload_n 0, 1) := by decide +kernel
theorem dL_refused_20 : decode cL_refused 20 = .ok (.iconst 2, 1) := by decide +kernel
theorem dL_refused_21 : decode cL_refused 21 = .ok (.invokevirtual 13, 3) := by decide +kernel
theorem dL_refused_24 : decode cL_refused 24 = .ok (.istore 5, 2) := by decide +kernel
theorem dL_refused_26 : decode cL_refused 26 = .ok (.aload_n 0, 1) := by decide +kernel
theorem dL_refused_27 : decode cL_refused 27 = .ok (.iconst 0, 1) := by decide +kernel
theorem dL_refused_28 : decode cL_refused 28 = .ok (.iconst 0, 1) := by decide +kernel
theorem dL_refused_29 : decode cL_refused 29 = .ok (.iconst 0, 1) := by decide +kernel
theorem dL_refused_30 : decode cL_refused 30 = .ok (.invokevirtual 32, 3) := by decide +kernel
theorem dL_refused_33 : decode cL_refused 33 = .ok (.iconst (-1), 1) := by decide +kernel
theorem dL_refused_34 : decode cL_refused 34 = .ok (.if_icmp .ne 237, 3) := by decide +kernel
theorem dL_refused_37 : decode cL_refused 37 = .ok (.aload_n 0, 1) := by decide +kernel
theorem dL_refused_38 : decode cL_refused 38 = .ok (.iconst 1, 1) := by decide +kernel
theorem dL_refused_39 : decode cL_refused 39 = .ok (.iconst 0, 1) := by decide +kernel
theorem dL_refused_40 : decode cL_refused 40 = .ok (.iload 4, 2) := by decide +kernel
theorem dL_refused_42 : decode cL_refused 42 = .ok (.invokevirtual 32, 3) := by decide +kernel
theorem dL_refused_45 : decode cL_refused 45 = .ok (.iconst (-1), 1) := by decide +kernel
theorem dL_refused_46 : decode cL_refused 46 = .ok (.if_icmp .ne 225, 3) := by decide +kernel
theorem dL_refused_49 : decode cL_refused 49 = .ok (.aload_n 0, 1) := by decide +kernel
theorem dL_refused_50 : decode cL_refused 50 = .ok (.iload 5, 2) := by decide +kernel
theorem dL_refused_52 : decode cL_refused 52 = .ok (.invokevirtual 36, 3) := by decide +kernel
theorem dL_refused_55 : decode cL_refused 55 = .ok (.iconst (-1), 1) := by decide +kernel
theorem dL_refused_56 : decode cL_refused 56 = .ok (.if_icmp .ne 215, 3) := by decide +kernel
theorem dL_refused_59 : decode cL_refused 59 = .ok (.aload_n 0, 1) := by decide +kernel
theorem dL_refused_60 : decode cL_refused 60 = .ok (.iconst (-1), 1) := by decide +kernel
theorem dL_refused_61 : decode cL_refused 61 = .ok (.invokevirtual 39, 3) := by decide +kernel
theorem dL_refused_64 : decode cL_refused 64 = .ok (.iconst (-1), 1) := by decide +kernel
theorem dL_refused_65 : decode cL_refused 65 = .ok (.if_icmp .ne 206, 3) := by decide +kernel
theorem dL_refused_68 : decode cL_refused 68 = .ok (.aload_n 0, 1) := by decide +kernel
theorem dL_refused_69 : decode cL_refused 69 = .ok (.sipush 500, 3) := by decide +kernel
theorem dL_refused_72 : decode cL_refused 72 = .ok (.invokevirtual 42, 3) := by decide +kernel
theorem dL_refused_75 : decode cL_refused 75 = .ok (.iconst (-1), 1) := by decide +kernel
theorem dL_refused_76 : decode cL_refused 76 = .ok (.if_icmp .ne 195, 3) := by decide +kernel
theorem dL_refused_79 : decode cL_refused 79 = .ok (.aload_n 0, 1) := by decide +kernel
theorem dL_refused_80 : decode cL_refused 80 = .ok (.iload 5, 2) := by decide +kernel
theorem dL_refused_82 : decode cL_refused 82 = .ok (.iconst 0, 1) := by decide +kernel
theorem dL_refused_83 : decode cL_refused 83 = .ok (.invokevirtual 45, 3) := by decide +kernel
theorem dL_refused_86 : decode cL_refused 86 = .ok (.iconst (-1), 1) := by decide +kernel
theorem dL_refused_87 : decode cL_refused 87 = .ok (.if_icmp .ne 184, 3) := by decide +kernel
theorem dL_refused_90 : decode cL_refused 90 = .ok (.aload_n 0, 1) := by decide +kernel
theorem dL_refused_91 : decode cL_refused 91 = .ok (.iconst 0, 1) := by decide +kernel
theorem dL_refused_92 : decode cL_refused 92 = .ok (.iload 5, 2) := by decide +kernel
theorem dL_refused_94 : decode cL_refused 94 = .ok (.invokevirtual 48, 3) := by decide +kernel
theorem dL_refused_97 : decode cL_refused 97 = .ok (.iconst (-1), 1) := by decide +kernel
theorem dL_refused_98 : decode cL_refused 98 = .ok (.if_icmp .ne 173, 3) := by decide +kernel
theorem dL_refused_101 : decode cL_refused 101 = .ok (.aload_n 0, 1) := by decide +kernel
theorem dL_refused_102 : decode cL_refused 102 = .ok (.iload 5, 2) := by decide +kernel
theorem dL_refused_104 : decode cL_refused 104 = .ok (.iconst 0, 1) := by decide +kernel
theorem dL_refused_105 : decode cL_refused 105 = .ok (.invokevirtual 48, 3) := by decide +kernel
theorem dL_refused_108 : decode cL_refused 108 = .ok (.iconst (-1), 1) := by decide +kernel
theorem dL_refused_109 : decode cL_refused 109 = .ok (.if_icmp .ne 162, 3) := by decide +kernel
theorem dL_refused_112 : decode cL_refused 112 = .ok (.aload_n 0, 1) := by decide +kernel
theorem dL_refused_113 : decode cL_refused 113 = .ok (.iconst 0, 1) := by decide +kernel
theorem dL_refused_114 : decode cL_refused 114 = .ok (.iconst 1, 1) := by decide +kernel
theorem dL_refused_115 : decode cL_refused 115 = .ok (.iload 5, 2) := by decide +kernel
theorem dL_refused_117 : decode cL_refused 117 = .ok (.invokevirtual 51, 3) := by decide +kernel
theorem dL_refused_120 : decode cL_refused 120 = .ok (.iconst (-1), 1) := by decide +kernel
theorem dL_refused_121 : decode cL_refused 121 = .ok (.if_icmp .ne 150, 3) := by decide +kernel
theorem dL_refused_124 : decode cL_refused 124 = .ok (.aload_n 0, 1) := by decide +kernel
theorem dL_refused_125 : decode cL_refused 125 = .ok (.iconst 0, 1) := by decide +kernel
theorem dL_refused_126 : decode cL_refused 126 = .ok (.invokevirtual 54, 3) := by decide +kernel
theorem dL_refused_129 : decode cL_refused 129 = .ok (.iconst (-1), 1) := by decide +kernel
theorem dL_refused_130 : decode cL_refused 130 = .ok (.if_icmp .ne 141, 3) := by decide +kernel
theorem dL_refused_133 : decode cL_refused 133 = .ok (.aload_n 0, 1) := by decide +kernel
theorem dL_refused_134 : decode cL_refused 134 = .ok (.iload 4, 2) := by decide +kernel
theorem dL_refused_136 : decode cL_refused 136 = .ok (.invokevirtual 57, 3) := by decide +kernel
theorem dL_refused_139 : decode cL_refused 139 = .ok (.iconst (-1), 1) := by decide +kernel
theorem dL_refused_140 : decode cL_refused 140 = .ok (.if_icmp .ne 131, 3) := by decide +kernel
theorem dL_refused_143 : decode cL_refused 143 = .ok (.aload_n 0, 1) := by decide +kernel
theorem dL_refused_144 : decode cL_refused 144 = .ok (.iload 4, 2) := by decide +kernel
theorem dL_refused_146 : decode cL_refused 146 = .ok (.invokevirtual 60, 3) := by decide +kernel
theorem dL_refused_149 : decode cL_refused 149 = .ok (.iconst (-1), 1) := by decide +kernel
theorem dL_refused_150 : decode cL_refused 150 = .ok (.if_icmp .ne 121, 3) := by decide +kernel
theorem dL_refused_153 : decode cL_refused 153 = .ok (.aload_n 0, 1) := by decide +kernel
theorem dL_refused_154 : decode cL_refused 154 = .ok (.iload 4, 2) := by decide +kernel
theorem dL_refused_156 : decode cL_refused 156 = .ok (.iconst 0, 1) := by decide +kernel
theorem dL_refused_157 : decode cL_refused 157 = .ok (.invokevirtual 19, 3) := by decide +kernel
theorem dL_refused_160 : decode cL_refused 160 = .ok (.iconst (-1), 1) := by decide +kernel
theorem dL_refused_161 : decode cL_refused 161 = .ok (.if_icmp .ne 110, 3) := by decide +kernel
theorem dL_refused_164 : decode cL_refused 164 = .ok (.aload_n 0, 1) := by decide +kernel
theorem dL_refused_165 : decode cL_refused 165 = .ok (.iload 5, 2) := by decide +kernel
theorem dL_refused_167 : decode cL_refused 167 = .ok (.iconst 0, 1) := by decide +kernel
theorem dL_refused_168 : decode cL_refused 168 = .ok (.invokevirtual 23, 3) := by decide +kernel
theorem dL_refused_171 : decode cL_refused 171 = .ok (.iconst (-1), 1) := by decide +kernel
theorem dL_refused_172 : decode cL_refused 172 = .ok (.if_icmp .ne 99, 3) := by decide +kernel
theorem dL_refused_175 : decode cL_refused 175 = .ok (.aload_n 0, 1) := by decide +kernel
theorem dL_refused_176 : decode cL_refused 176 = .ok (.iload 4, 2) := by decide +kernel
theorem dL_refused_178 : decode cL_refused 178 = .ok (.iconst 0, 1) := by decide +kernel
theorem dL_refused_179 : decode cL_refused 179 = .ok (.invokevirtual 63, 3) := by decide +kernel
theorem dL_refused_182 : decode cL_refused 182 = .ok (.iconst (-1), 1) := by decide +kernel
theorem dL_refused_183 : decode cL_refused 183 = .ok (.if_icmp .ne 88, 3) := by decide +kernel
theorem dL_refused_186 : decode cL_refused 186 = .ok (.aload_n 0, 1) := by decide +kernel
theorem dL_refused_187 : decode cL_refused 187 = .ok (.bipush 9, 2) := by decide +kernel
theorem dL_refused_189 : decode cL_refused 189 = .ok (.invokevirtual 66, 3) := by decide +kernel
theorem dL_refused_192 : decode cL_refused 192 = .ok (.iconst (-1), 1) := by decide +kernel
theorem dL_refused_193 : decode cL_refused 193 = .ok (.if_icmp .ne 78, 3) := by decide +kernel
theorem dL_refused_196 : decode cL_refused 196 = .ok (.aload_n 0, 1) := by decide +kernel
theorem dL_refused_197 : decode cL_refused 197 = .ok (.iconst (-1), 1) := by decide +kernel
theorem dL_refused_198 : decode cL_refused 198 = .ok (.invokevirtual 69, 3) := by decide +kernel
theorem dL_refused_201 : decode cL_refused 201 = .ok (.iconst (-1), 1) := by decide +kernel
theorem dL_refused_202 : decode cL_refused 202 = .ok (.if_icmp .ne 69, 3) := by decide +kernel
theorem dL_refused_205 : decode cL_refused 205 = .ok (.aload_n 0, 1) := by decide +kernel
theorem dL_refused_206 : decode cL_refused 206 = .ok (.iconst 2, 1) := by decide +kernel
theorem dL_refused_207 : decode cL_refused 207 = .ok (.invokevirtual 72, 3) := by decide +kernel
theorem dL_refused_210 : decode cL_refused 210 = .ok (.iconst (-1), 1) := by decide +kernel
theorem dL_refused_211 : decode cL_refused 211 = .ok (.if_icmp .ne 60, 3) := by decide +kernel
theorem dL_refused_214 : decode cL_refused 214 = .ok (.aload_n 0, 1) := by decide +kernel
theorem dL_refused_215 : decode cL_refused 215 = .ok (.iload 4, 2) := by decide +kernel
theorem dL_refused_217 : decode cL_refused 217 = .ok (.invokevirtual 75, 3) := by decide +kernel
theorem dL_refused_220 : decode cL_refused 220 = .ok (.iconst (-1), 1) := by decide +kernel
theorem dL_refused_221 : decode cL_refused 221 = .ok (.if_icmp .ne 50, 3) := by decide +kernel
theorem dL_refused_224 : decode cL_refused 224 = .ok (.aload_n 0, 1) := by decide +kernel
theorem dL_refused_225 : decode cL_refused 225 = .ok (.bipush 15, 2) := by decide +kernel
theorem dL_refused_227 : decode cL_refused 227 = .ok (.invokevirtual 13, 3) := by decide +kernel
theorem dL_refused_230 : decode cL_refused 230 = .ok (.iconst (-1), 1) := by decide +kernel
theorem dL_refused_231 : decode cL_refused 231 = .ok (.if_icmp .ne 40, 3) := by decide +kernel
theorem dL_refused_234 : decode cL_refused 234 = .ok (.iload 4, 2) := by decide +kernel
theorem dL_refused_236 : decode cL_refused 236 = .ok (.bipush 6, 2) := by decide +kernel
theorem dL_refused_238 : decode cL_refused 238 = .ok (.if_icmp .lt 12, 3) := by decide +kernel
theorem dL_refused_241 : decode cL_refused 241 = .ok (.aload_n 0, 1) := by decide +kernel
theorem dL_refused_242 : decode cL_refused 242 = .ok (.invokevirtual 78, 3) := by decide +kernel
theorem dL_refused_245 : decode cL_refused 245 = .ok (.bipush (-3), 2) := by decide +kernel
theorem dL_refused_247 : decode cL_refused 247 = .ok (.if_icmp .ne 24, 3) := by decide +kernel
theorem dL_refused_250 : decode cL_refused 250 = .ok (.iload 5, 2) := by decide +kernel
theorem dL_refused_252 : decode cL_refused 252 = .ok (.bipush 24, 2) := by decide +kernel
theorem dL_refused_254 : decode cL_refused 254 = .ok (.if_icmp .lt 13, 3) := by decide +kernel
theorem dL_refused_257 : decode cL_refused 257 = .ok (.aload_n 0, 1) := by decide +kernel
theorem dL_refused_258 : decode cL_refused 258 = .ok (.iconst 1, 1) := by decide +kernel
theorem dL_refused_259 : decode cL_refused 259 = .ok (.iconst 0, 1) := by decide +kernel
theorem dL_refused_260 : decode cL_refused 260 = .ok (.iconst 0, 1) := by decide +kernel
theorem dL_refused_261 : decode cL_refused 261 = .ok (.invokevirtual 32, 3) := by decide +kernel
theorem dL_refused_264 : decode cL_refused 264 = .ok (.ifCond .ge 7, 3) := by decide +kernel
theorem dL_refused_267 : decode cL_refused 267 = .ok (.iconst 1, 1) := by decide +kernel
theorem dL_refused_268 : decode cL_refused 268 = .ok (.goto 4, 3) := by decide +kernel
theorem dL_refused_271 : decode cL_refused 271 = .ok (.iconst 0, 1) := by decide +kernel
theorem dL_refused_272 : decode cL_refused 272 = .ok (.istore 6, 2) := by decide +kernel
theorem dL_refused_274 : decode cL_refused 274 = .ok (.iload 6, 2) := by decide +kernel
theorem dL_refused_276 : decode cL_refused 276 = .ok (.ifCond .eq 26, 3) := by decide +kernel
theorem dL_refused_279 : decode cL_refused 279 = .ok (.aload_n 0, 1) := by decide +kernel
theorem dL_refused_280 : decode cL_refused 280 = .ok (.invokestatic 26, 3) := by decide +kernel
theorem dL_refused_283 : decode cL_refused 283 = .ok (.lload_n 1, 1) := by decide +kernel
theorem dL_refused_284 : decode cL_refused 284 = .ok (.lcmp, 1) := by decide +kernel
theorem dL_refused_285 : decode cL_refused 285 = .ok (.ifCond .ne 17, 3) := by decide +kernel
theorem dL_refused_288 : decode cL_refused 288 = .ok (.aload_n 0, 1) := by decide +kernel
theorem dL_refused_289 : decode cL_refused 289 = .ok (.bipush 13, 2) := by decide +kernel
theorem dL_refused_291 : decode cL_refused 291 = .ok (.invokevirtual 13, 3) := by decide +kernel
theorem dL_refused_294 : decode cL_refused 294 = .ok (.iload_n 3, 1) := by decide +kernel
theorem dL_refused_295 : decode cL_refused 295 = .ok (.if_icmp .ne 7, 3) := by decide +kernel
theorem dL_refused_298 : decode cL_refused 298 = .ok (.iconst 1, 1) := by decide +kernel
theorem dL_refused_299 : decode cL_refused 299 = .ok (.goto 4, 3) := by decide +kernel
theorem dL_refused_302 : decode cL_refused 302 = .ok (.iconst 0, 1) := by decide +kernel
theorem dL_refused_303 : decode cL_refused 303 = .ok (.ireturn, 1) := by decide +kernel
