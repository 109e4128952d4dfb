def wsL_acts_r1 : List Cond := [Cond.methodLink RL 13 yX4_count, Cond.instanceMethod yX4_count, Cond.selects RX4 yX4_count yX4_count, Cond.initialized RX4, Cond.code yX4_count cX4_count 2 (some .int), Cond.fieldLink RX4 10 "EvenLoads" "now" "LEvenLoads$Cluster;", Cond.fieldLink RX4 25 "EvenLoads" "history" "LEvenLoads$History;", Cond.fieldLink RX4 39 "EvenLoads" "program" "LEvenLoads$Program;", Cond.methodLink RX4 114 yX0_finishedJobs, Cond.instanceMethod yX0_finishedJobs, Cond.selects RX0 yX0_finishedJobs yX0_finishedJobs, Cond.initialized RX0, Cond.code yX0_finishedJobs cX0_finishedJobs 3 (some .int), Cond.fieldLink RX0 37 "EvenLoads$Cluster" "jobs" "I", Cond.methodLink RX0 74 yX0_isFinished, Cond.instanceMethod yX0_isFinished, Cond.selects RX0 yX0_isFinished yX0_isFinished, Cond.code yX0_isFinished cX0_isFinished 2 (some .boolean), Cond.fieldLink RX0 18 "EvenLoads$Cluster" "places" "[I", Cond.static yX4_at, Cond.code yX4_at cX4_at 2 (some .int), Cond.methodLink RX4 120 yX0_greatestLoad, Cond.instanceMethod yX0_greatestLoad, Cond.selects RX0 yX0_greatestLoad yX0_greatestLoad]
def wsL_acts_r2 : List Cond := [Cond.code yX0_greatestLoad cX0_greatestLoad 1 (some .int), Cond.fieldLink RX0 24 "EvenLoads$Cluster" "loads" "[I", Cond.methodLink RX0 124 yX0_fullestServer, Cond.instanceMethod yX0_fullestServer, Cond.selects RX0 yX0_fullestServer yX0_fullestServer, Cond.code yX0_fullestServer cX0_fullestServer 4 (some .int), Cond.fieldLink RX0 30 "EvenLoads$Cluster" "servers" "I", Cond.fieldLink RX0 27 "EvenLoads$Cluster" "opened" "[I", Cond.methodLink RX4 127 yX0_emptiestServer, Cond.instanceMethod yX0_emptiestServer, Cond.selects RX0 yX0_emptiestServer yX0_emptiestServer, Cond.code yX0_emptiestServer cX0_emptiestServer 4 (some .int), Cond.methodLink RX4 130 yX4_at, Cond.methodLink RX4 134 yX0_bound, Cond.instanceMethod yX0_bound, Cond.selects RX0 yX0_bound yX0_bound, Cond.code yX0_bound cX0_bound 3 (some .int), Cond.fieldLink RX0 9 "EvenLoads$Cluster" "sizes" "[I", Cond.methodLink RX0 127 Lib.Math.max.name, Cond.static Lib.Math.max.name, Cond.initialized "java/lang/Math", Cond.code Lib.Math.max.name Lib.Math.max.code 2 (some .int), Cond.fieldLink RX0 34 "EvenLoads$Cluster" "openServers" "I", Cond.fieldLink RX0 40 "EvenLoads$Cluster" "sum" "I"]
def wsL_acts_r3 : List Cond := [Cond.methodLink RX4 137 yX0_target, Cond.instanceMethod yX0_target, Cond.selects RX0 yX0_target yX0_target, Cond.code yX0_target cX0_target 1 (some .int), Cond.fieldLink RX0 46 "EvenLoads$Cluster" "factor" "I", Cond.methodLink RX0 132 yX0_bound, Cond.methodLink RX4 140 yX0_isEven, Cond.instanceMethod yX0_isEven, Cond.selects RX0 yX0_isEven yX0_isEven, Cond.code yX0_isEven cX0_isEven 1 (some .boolean), Cond.methodLink RX0 85 yX0_greatestLoad, Cond.methodLink RX0 77 yX0_target, Cond.methodLink RL 86 yL_low, Cond.static yL_low, Cond.initialized RL, Cond.code yL_low cL_low 2 (some .int), Cond.constant RL 8 (2147483647), Cond.methodLink RL 19 yX4_server, Cond.instanceMethod yX4_server, Cond.selects RX4 yX4_server yX4_server, Cond.code yX4_server cX4_server 3 (some .int), Cond.methodLink RX4 153 yX0_hasServer, Cond.instanceMethod yX0_hasServer, Cond.selects RX0 yX0_hasServer yX0_hasServer]
def wsL_acts_r4 : List Cond := [Cond.code yX0_hasServer cX0_hasServer 2 (some .boolean), Cond.methodLink RX4 157 yX0_isOpen, Cond.instanceMethod yX0_isOpen, Cond.selects RX0 yX0_isOpen yX0_isOpen, Cond.code yX0_isOpen cX0_isOpen 2 (some .boolean), Cond.methodLink RX4 160 yX0_jobsOn, Cond.instanceMethod yX0_jobsOn, Cond.selects RX0 yX0_jobsOn yX0_jobsOn, Cond.code yX0_jobsOn cX0_jobsOn 4 (some .int), Cond.methodLink RX4 163 yJ6_bitCount_0f7a4, Cond.static yJ6_bitCount_0f7a4, Cond.initialized RJ6, Cond.code yJ6_bitCount_0f7a4 cJ6_bitCount_0f7a4 1 (some .int), Cond.constant RJ6 265 (1431655765), Cond.constant RJ6 266 (858993459), Cond.constant RJ6 267 (252645135), Cond.methodLink RL 32 yX4_add, Cond.instanceMethod yX4_add, Cond.selects RX4 yX4_add yX4_add, Cond.code yX4_add cX4_add 4 (some .int), Cond.fieldLink RX4 16 "EvenLoads" "before" "LEvenLoads$Cluster;", Cond.methodLink RX4 43 yX0_copyFrom, Cond.instanceMethod yX0_copyFrom, Cond.selects RX0 yX0_copyFrom yX0_copyFrom]
def wsL_acts_r5 : List Cond := [Cond.code yX0_copyFrom cX0_copyFrom 2 none, Cond.fieldLink RX0 15 "EvenLoads$Cluster" "prices" "[I", Cond.fieldLink RX0 21 "EvenLoads$Cluster" "moved" "[I", Cond.fieldLink RX0 43 "EvenLoads$Cluster" "budget" "I", Cond.fieldLink RX0 49 "EvenLoads$Cluster" "moves" "I", Cond.static yX4_copyRow, Cond.code yX4_copyRow cX4_copyRow 2 none, Cond.methodLink RX4 244 Lib.Math.min.name, Cond.static Lib.Math.min.name, Cond.code Lib.Math.min.name Lib.Math.min.code 2 (some .int), Cond.methodLink RX4 249 arraycopyName, Cond.native arraycopyName, Cond.static arraycopyName, Cond.initialized "java/lang/System", Cond.methodLink RX4 55 yX0_newJob, Cond.instanceMethod yX0_newJob, Cond.selects RX0 yX0_newJob yX0_newJob, Cond.code yX0_newJob cX0_newJob 6 (some .int), Cond.methodLink RX0 60 yX0_hasServer, Cond.methodLink RX0 64 yX0_isOpen, Cond.static yX4_put, Cond.code yX4_put cX4_put 3 none, Cond.methodLink RX4 51 yX4_recorded, Cond.instanceMethod yX4_recorded]
def wsL_acts_r6 : List Cond := [Cond.selects RX4 yX4_recorded yX4_recorded, Cond.code yX4_recorded cX4_recorded 2 (some .int), Cond.methodLink RX4 209 yX1_keep, Cond.instanceMethod yX1_keep, Cond.selects RX1 yX1_keep yX1_keep, Cond.initialized RX1, Cond.code yX1_keep cX1_keep 3 none, Cond.fieldLink RX1 21 "EvenLoads$History" "free" "I", Cond.fieldLink RX1 17 "EvenLoads$History" "depth" "I", Cond.methodLink RX1 33 Lib.Math.min.name, Cond.methodLink RX1 25 yX1_stateAt, Cond.instanceMethod yX1_stateAt, Cond.selects RX1 yX1_stateAt yX1_stateAt, Cond.code yX1_stateAt cX1_stateAt 2 (some (.object "EvenLoads$Cluster")), Cond.fieldLink RX1 11 "EvenLoads$History" "states" "[LEvenLoads$Cluster;", Cond.methodLink RX1 29 yX0_copyFrom, Cond.methodLink RL 23 yX4_job, Cond.instanceMethod yX4_job, Cond.selects RX4 yX4_job yX4_job, Cond.code yX4_job cX4_job 3 (some .int), Cond.methodLink RX4 168 yX0_hasJob, Cond.instanceMethod yX0_hasJob, Cond.selects RX0 yX0_hasJob yX0_hasJob, Cond.code yX0_hasJob cX0_hasJob 2 (some .boolean)]
def wsL_acts_r7 : List Cond := [Cond.methodLink RL 36 yX4_finish, Cond.instanceMethod yX4_finish, Cond.selects RX4 yX4_finish yX4_finish, Cond.code yX4_finish cX4_finish 2 (some .int), Cond.methodLink RX4 59 yX0_endJob, Cond.instanceMethod yX0_endJob, Cond.selects RX0 yX0_endJob yX0_endJob, Cond.code yX0_endJob cX0_endJob 3 (some .int), Cond.methodLink RX0 71 yX0_hasJob, Cond.methodLink RL 45 yX4_move, Cond.instanceMethod yX4_move, Cond.selects RX4 yX4_move yX4_move, Cond.code yX4_move cX4_move 3 (some .int), Cond.methodLink RX4 68 yX0_moveJob, Cond.instanceMethod yX0_moveJob, Cond.selects RX0 yX0_moveJob yX0_moveJob, Cond.code yX0_moveJob cX0_moveJob 3 (some .int), Cond.methodLink RX0 81 yX0_takeTo, Cond.instanceMethod yX0_takeTo, Cond.selects RX0 yX0_takeTo yX0_takeTo, Cond.code yX0_takeTo cX0_takeTo 3 none, Cond.methodLink RX0 114 yX0_shiftLoad, Cond.instanceMethod yX0_shiftLoad, Cond.selects RX0 yX0_shiftLoad yX0_shiftLoad]
def wsL_acts_r8 : List Cond := [Cond.code yX0_shiftLoad cX0_shiftLoad 4 none, Cond.methodLink RL 48 yX4_exchange, Cond.instanceMethod yX4_exchange, Cond.selects RX4 yX4_exchange yX4_exchange, Cond.code yX4_exchange cX4_exchange 3 (some .int), Cond.methodLink RX4 72 yX0_exchangeJobs, Cond.instanceMethod yX0_exchangeJobs, Cond.selects RX0 yX0_exchangeJobs yX0_exchangeJobs, Cond.code yX0_exchangeJobs cX0_exchangeJobs 4 (some .int), Cond.methodLink RX0 88 yX0_areApart, Cond.instanceMethod yX0_areApart, Cond.selects RX0 yX0_areApart yX0_areApart, Cond.code yX0_areApart cX0_areApart 3 (some .boolean), Cond.methodLink RL 51 yX4_ring, Cond.instanceMethod yX4_ring, Cond.selects RX4 yX4_ring yX4_ring, Cond.code yX4_ring cX4_ring 4 (some .int), Cond.methodLink RX4 75 yX0_moveRing, Cond.instanceMethod yX0_moveRing, Cond.selects RX0 yX0_moveRing yX0_moveRing, Cond.code yX0_moveRing cX0_moveRing 5 (some .int), Cond.methodLink RL 69 yX4_plan, Cond.instanceMethod yX4_plan, Cond.selects RX4 yX4_plan yX4_plan]
def wsL_acts_r9 : List Cond := [Cond.code yX4_plan cX4_plan 3 (some .int), Cond.fieldLink RX4 19 "EvenLoads" "trial" "LEvenLoads$Cluster;", Cond.fieldLink RX4 32 "EvenLoads" "next" "LEvenLoads$Step;", Cond.methodLink RX4 78 yX3_walk, Cond.instanceMethod yX3_walk, Cond.selects RX3 yX3_walk yX3_walk, Cond.initialized RX3, Cond.code yX3_walk cX3_walk 6 (some .int), Cond.fieldLink RX3 9 "EvenLoads$Step" "job" "I", Cond.fieldLink RX3 15 "EvenLoads$Step" "goal" "I", Cond.fieldLink RX3 18 "EvenLoads$Step" "other" "I", Cond.methodLink RX3 27 yX0_target, Cond.methodLink RX3 33 yX3_choose, Cond.instanceMethod yX3_choose, Cond.selects RX3 yX3_choose yX3_choose, Cond.code yX3_choose cX3_choose 4 (some .boolean), Cond.methodLink RX3 49 yX0_fullestServer, Cond.methodLink RX3 55 yX3_chooseMove, Cond.instanceMethod yX3_chooseMove, Cond.selects RX3 yX3_chooseMove yX3_chooseMove, Cond.code yX3_chooseMove cX3_chooseMove 8 none, Cond.methodLink RX3 85 Lib.Math.max.name, Cond.methodLink RX3 69 yX3_startBelow, Cond.instanceMethod yX3_startBelow]
def wsL_acts_r10 : List Cond := [Cond.selects RX3 yX3_startBelow yX3_startBelow, Cond.code yX3_startBelow cX3_startBelow 2 none, Cond.fieldLink RX3 24 "EvenLoads$Step" "greater" "I", Cond.methodLink RX3 94 yX3_offer, Cond.instanceMethod yX3_offer, Cond.selects RX3 yX3_offer yX3_offer, Cond.code yX3_offer cX3_offer 7 none, Cond.fieldLink RX3 21 "EvenLoads$Step" "price" "I", Cond.methodLink RX3 59 yX3_isPossible, Cond.instanceMethod yX3_isPossible, Cond.selects RX3 yX3_isPossible yX3_isPossible, Cond.code yX3_isPossible cX3_isPossible 2 (some .boolean), Cond.methodLink RX3 63 yX3_chooseExchange, Cond.instanceMethod yX3_chooseExchange, Cond.selects RX3 yX3_chooseExchange yX3_chooseExchange, Cond.code yX3_chooseExchange cX3_chooseExchange 10 none, Cond.methodLink RX3 45 yX0_takeTo, Cond.methodLink RL 54 yX4_even, Cond.instanceMethod yX4_even, Cond.selects RX4 yX4_even yX4_even, Cond.code yX4_even cX4_even 2 (some .int), Cond.methodLink RL 57 yX4_close, Cond.instanceMethod yX4_close, Cond.selects RX4 yX4_close yX4_close]
def wsL_acts_r11 : List Cond := [Cond.code yX4_close cX4_close 2 (some .int), Cond.methodLink RX4 82 yX0_closeServer, Cond.instanceMethod yX0_closeServer, Cond.selects RX0 yX0_closeServer yX0_closeServer, Cond.code yX0_closeServer cX0_closeServer 2 (some .int), Cond.methodLink RX0 92 yX0_priceOfAll, Cond.instanceMethod yX0_priceOfAll, Cond.selects RX0 yX0_priceOfAll yX0_priceOfAll, Cond.code yX0_priceOfAll cX0_priceOfAll 4 (some .int), Cond.methodLink RX0 96 yX0_closeAndEmpty, Cond.instanceMethod yX0_closeAndEmpty, Cond.selects RX0 yX0_closeAndEmpty yX0_closeAndEmpty, Cond.code yX0_closeAndEmpty cX0_closeAndEmpty 4 (some .int), Cond.methodLink RX0 99 yX0_jobsOn, Cond.methodLink RX0 102 yJ6_bitCount_0f7a4, Cond.methodLink RX0 107 yX0_leavingJob, Cond.instanceMethod yX0_leavingJob, Cond.selects RX0 yX0_leavingJob yX0_leavingJob, Cond.code yX0_leavingJob cX0_leavingJob 4 (some .int), Cond.methodLink RX0 118 yX0_jobsLeavingBefore, Cond.instanceMethod yX0_jobsLeavingBefore, Cond.selects RX0 yX0_jobsLeavingBefore yX0_jobsLeavingBefore, Cond.code yX0_jobsLeavingBefore cX0_jobsLeavingBefore 4 (some .int), Cond.methodLink RX0 121 yX0_leavesBefore]
def wsL_acts_r12 : List Cond := [Cond.instanceMethod yX0_leavesBefore, Cond.selects RX0 yX0_leavesBefore yX0_leavesBefore, Cond.code yX0_leavesBefore cX0_leavesBefore 3 (some .boolean), Cond.methodLink RX0 111 yX0_emptiestServer, Cond.methodLink RL 60 yX4_open, Cond.instanceMethod yX4_open, Cond.selects RX4 yX4_open yX4_open, Cond.code yX4_open cX4_open 2 (some .int), Cond.methodLink RX4 85 yX0_openServer, Cond.instanceMethod yX0_openServer, Cond.selects RX0 yX0_openServer yX0_openServer, Cond.code yX0_openServer cX0_openServer 2 (some .int), Cond.methodLink RL 78 yX4_addServer, Cond.instanceMethod yX4_addServer, Cond.selects RX4 yX4_addServer yX4_addServer, Cond.code yX4_addServer cX4_addServer 1 (some .int), Cond.methodLink RX4 47 yX0_newServer, Cond.instanceMethod yX0_newServer, Cond.selects RX0 yX0_newServer yX0_newServer, Cond.code yX0_newServer cX0_newServer 1 (some .int), Cond.methodLink RL 39 yX4_setBudget, Cond.instanceMethod yX4_setBudget, Cond.selects RX4 yX4_setBudget yX4_setBudget, Cond.code yX4_setBudget cX4_setBudget 2 (some .int)]
def wsL_acts_r13 : List Cond := [Cond.methodLink RX4 62 yX0_changeBudget, Cond.instanceMethod yX0_changeBudget, Cond.selects RX0 yX0_changeBudget yX0_changeBudget, Cond.code yX0_changeBudget cX0_changeBudget 3 (some .int), Cond.methodLink RL 42 yX4_setFactor, Cond.instanceMethod yX4_setFactor, Cond.selects RX4 yX4_setFactor yX4_setFactor, Cond.code yX4_setFactor cX4_setFactor 2 (some .int), Cond.methodLink RX4 65 yX0_changeFactor, Cond.instanceMethod yX0_changeFactor, Cond.selects RX0 yX0_changeFactor yX0_changeFactor, Cond.code yX0_changeFactor cX0_changeFactor 2 (some .int)]
def wsL_acts : List Cond := .code yL_acts cL_acts 16 (some .boolean) :: ((wsL_acts_r1 ++ (wsL_acts_r2 ++ (wsL_acts_r3 ++ (wsL_acts_r4 ++ (wsL_acts_r5 ++ (wsL_acts_r6 ++ (wsL_acts_r7 ++ (wsL_acts_r8 ++ (wsL_acts_r9 ++ (wsL_acts_r10 ++ (wsL_acts_r11 ++ (wsL_acts_r12 ++ wsL_acts_r13)))))))))))) ++ wsX40 ++ wsX00 ++ wsX10 ++ wsX20 ++ wsX30)
set_option maxRecDepth 20000 in
theorem ggL_acts_X4_count : GoodIn wsL_acts wsX4_count := goodIn_r _ [5, 6, 7, 8, 9, 10, 11, 12, 13, 14, 15, 16, 17, 18, 19, 20, 4, 21, 22, 23, 24, 25, 26, 27, 28, 29, 30, 31, 32, 33, 34, 35, 36, 37, 38, 39, 40, 41, 42, 43, 44, 45, 46, 47, 48, 49, 50, 51, 52, 53, 54, 55, 56, 57, 58, 59, 60, 301, 302, 303, 304, 305, 306, 307, 308, 309, 310, 311, 312, 313, 314, 315, 316, 317, 318, 319, 320, 321, 322, 323, 324, 325, 326, 327, 328, 329, 330] (by decide +kernel) (by decide +kernel)
set_option maxRecDepth 20000 in
theorem gL_acts_X4_count : GoodIn wsL_acts (wsV RL 13 RX4 yX4_count wsX4_count) := goodIn_app (goodIn_of _ (by decide +kernel)) ggL_acts_X4_count
set_option maxRecDepth 20000 in
theorem ggL_acts_L_low : GoodIn wsL_acts wsL_low := goodIn_r _ [64, 65] (by decide +kernel) (by decide +kernel)
set_option maxRecDepth 20000 in
theorem gL_acts_L_low : GoodIn wsL_acts (va_wsS RL 86 yL_low wsL_low) := goodIn_app (goodIn_of _ (by decide +kernel)) ggL_acts_L_low
set_option maxRecDepth 20000 in
theorem ggL_acts_X4_server : GoodIn wsL_acts wsX4_server := goodIn_r _ [69, 6, 70, 71, 72, 12, 73, 31, 74, 75, 76, 77, 32, 20, 4, 21, 37, 78, 79, 80, 81, 14, 19, 82, 83, 84, 85, 86, 87, 88, 301, 302, 303, 304, 305, 306, 307, 308, 309, 310, 311, 312, 313, 314, 315, 316, 317, 318, 319] (by decide +kernel) (by decide +kernel)
set_option maxRecDepth 20000 in
theorem gL_acts_X4_server : GoodIn wsL_acts (wsV RL 19 RX4 yX4_server wsX4_server) := goodIn_app (goodIn_of _ (by decide +kernel)) ggL_acts_X4_server
set_option maxRecDepth 20000 in
theorem ggL_acts_X4_add : GoodIn wsL_acts wsX4_add := goodIn_r _ [92, 93, 6, 94, 95, 96, 12, 97, 42, 98, 19, 99, 26, 32, 31, 47, 14, 48, 100, 53, 101, 102, 4, 103, 104, 105, 45, 106, 107, 108, 109, 110, 111, 112, 113, 114, 115, 71, 72, 73, 116, 75, 76, 77, 20, 21, 117, 118, 119, 120, 121, 122, 7, 123, 124, 125, 126, 127, 128, 129, 130, 131, 132, 133, 134, 135, 136, 301, 302, 303, 304, 305, 306, 307, 308, 309, 310, 311, 312, 313, 314, 315, 316, 317, 318, 319, 320, 321, 322] (by decide +kernel) (by decide +kernel)
set_option maxRecDepth 20000 in
theorem gL_acts_X4_add : GoodIn wsL_acts (wsV RL 32 RX4 yX4_add wsX4_add) := goodIn_app (goodIn_of _ (by decide +kernel)) ggL_acts_X4_add
set_option maxRecDepth 20000 in
theorem ggL_acts_X4_job : GoodIn wsL_acts wsX4_job := goodIn_r _ [140, 6, 141, 142, 143, 12, 144, 14, 37, 20, 4, 21, 301, 302, 303, 304, 305, 306, 307, 308, 309, 310, 311, 312, 313, 314, 315, 316, 317, 318, 319] (by decide +kernel) (by decide +kernel)
set_option maxRecDepth 20000 in
theorem gL_acts_X4_job : GoodIn wsL_acts (wsV RL 23 RX4 yX4_job wsX4_job) := goodIn_app (goodIn_of _ (by decide +kernel)) ggL_acts_X4_job
set_option maxRecDepth 20000 in
theorem ggL_acts_X4_finish : GoodIn wsL_acts wsX4_finish := goodIn_r _ [148, 93, 6, 94, 95, 96, 12, 97, 42, 98, 19, 99, 26, 32, 31, 47, 14, 48, 100, 53, 101, 102, 4, 103, 104, 105, 45, 106, 107, 108, 109, 110, 149, 150, 151, 152, 153, 142, 143, 144, 15, 16, 17, 18, 20, 21, 117, 118, 119, 120, 121, 122, 7, 123, 124, 125, 126, 127, 128, 129, 130, 131, 132, 133, 134, 135, 136, 301, 302, 303, 304, 305, 306, 307, 308, 309, 310, 311, 312, 313, 314, 315, 316, 317, 318, 319, 320, 321, 322] (by decide +kernel) (by decide +kernel)
set_option maxRecDepth 20000 in
theorem gL_acts_X4_finish : GoodIn wsL_acts (wsV RL 36 RX4 yX4_finish wsX4_finish) := goodIn_app (goodIn_of _ (by decide +kernel)) ggL_acts_X4_finish
set_option maxRecDepth 20000 in
theorem ggL_acts_X4_move : GoodIn wsL_acts wsX4_move := goodIn_r _ [157, 93, 6, 94, 95, 96, 12, 97, 42, 98, 19, 99, 26, 32, 31, 47, 14, 48, 100, 53, 101, 102, 4, 103, 104, 105, 45, 106, 107, 108, 109, 110, 158, 159, 160, 161, 153, 142, 143, 144, 115, 71, 72, 73, 15, 16, 17, 18, 20, 21, 116, 75, 76, 77, 162, 163, 164, 165, 166, 167, 168, 169, 117, 118, 59, 23, 24, 25, 27, 28, 29, 30, 119, 120, 121, 122, 7, 123, 124, 125, 126, 127, 128, 129, 130, 131, 132, 133, 134, 135, 136, 301, 302, 303, 304, 305, 306, 307, 308, 309, 310, 311, 312, 313, 314, 315, 316, 317, 318, 319, 320, 321, 322] (by decide +kernel) (by decide +kernel)
set_option maxRecDepth 20000 in
theorem gL_acts_X4_move : GoodIn wsL_acts (wsV RL 45 RX4 yX4_move wsX4_move) := goodIn_app (goodIn_of _ (by decide +kernel)) ggL_acts_X4_move
set_option maxRecDepth 20000 in
theorem ggL_acts_X4_exchange : GoodIn wsL_acts wsX4_exchange := goodIn_r _ [173, 93, 6, 94, 95, 96, 12, 97, 42, 98, 19, 99, 26, 32, 31, 47, 14, 48, 100, 53, 101, 102, 4, 103, 104, 105, 45, 106, 107, 108, 109, 110, 174, 175, 176, 177, 153, 142, 143, 144, 178, 179, 180, 181, 15, 16, 17, 18, 20, 21, 162, 163, 164, 165, 166, 167, 168, 169, 117, 118, 59, 23, 24, 25, 27, 28, 29, 30, 119, 120, 121, 122, 7, 123, 124, 125, 126, 127, 128, 129, 130, 131, 132, 133, 134, 135, 136, 301, 302, 303, 304, 305, 306, 307, 308, 309, 310, 311, 312, 313, 314, 315, 316, 317, 318, 319, 320, 321, 322] (by decide +kernel) (by decide +kernel)
set_option maxRecDepth 20000 in
theorem gL_acts_X4_exchange : GoodIn wsL_acts (wsV RL 48 RX4 yX4_exchange wsX4_exchange) := goodIn_app (goodIn_of _ (by decide +kernel)) ggL_acts_X4_exchange
set_option maxRecDepth 20000 in
theorem ggL_acts_X4_ring : GoodIn wsL_acts wsX4_ring := goodIn_r _ [185, 93, 6, 94, 95, 96, 12, 97, 42, 98, 19, 99, 26, 32, 31, 47, 14, 48, 100, 53, 101, 102, 4, 103, 104, 105, 45, 106, 107, 108, 109, 110, 186, 187, 188, 189, 153, 142, 143, 144, 178, 179, 180, 181, 15, 16, 17, 18, 20, 21, 162, 163, 164, 165, 166, 167, 168, 169, 117, 118, 59, 23, 24, 25, 27, 28, 29, 30, 119, 120, 121, 122, 7, 123, 124, 125, 126, 127, 128, 129, 130, 131, 132, 133, 134, 135, 136, 301, 302, 303, 304, 305, 306, 307, 308, 309, 310, 311, 312, 313, 314, 315, 316, 317, 318, 319, 320, 321, 322] (by decide +kernel) (by decide +kernel)
set_option maxRecDepth 20000 in
theorem gL_acts_X4_ring : GoodIn wsL_acts (wsV RL 51 RX4 yX4_ring wsX4_ring) := goodIn_app (goodIn_of _ (by decide +kernel)) ggL_acts_X4_ring
set_option maxRecDepth 20000 in
theorem ggL_acts_X4_plan : GoodIn wsL_acts wsX4_plan := goodIn_r _ [193, 194, 6, 195, 94, 95, 96, 12, 97, 42, 98, 19, 99, 26, 32, 31, 47, 14, 48, 100, 53, 101, 102, 4, 103, 104, 105, 45, 106, 107, 108, 109, 110, 196, 197, 198, 199, 200, 201, 202, 203, 204, 50, 51, 52, 54, 39, 40, 41, 43, 44, 46, 20, 21, 205, 206, 207, 208, 209, 28, 29, 30, 210, 211, 212, 213, 214, 215, 216, 217, 218, 219, 220, 221, 222, 223, 224, 225, 226, 227, 228, 229, 230, 231, 232, 233, 163, 164, 165, 166, 167, 168, 169, 117, 118, 22, 23, 24, 25, 27, 55, 56, 57, 58, 59, 60, 301, 302, 303, 304, 305, 306, 307, 308, 309, 310, 311, 312, 313, 314, 315, 316, 317, 318, 319, 331, 332, 333, 334, 335] (by decide +kernel) (by decide +kernel)
set_option maxRecDepth 20000 in
theorem gL_acts_X4_plan : GoodIn wsL_acts (wsV RL 69 RX4 yX4_plan wsX4_plan) := goodIn_app (goodIn_of _ (by decide +kernel)) ggL_acts_X4_plan
set_option maxRecDepth 20000 in
theorem ggL_acts_X4_even : GoodIn wsL_acts wsX4_even := goodIn_r _ [237, 93, 6, 195, 94, 95, 96, 12, 97, 42, 98, 19, 99, 26, 32, 31, 47, 14, 48, 100, 53, 101, 102, 4, 103, 104, 105, 45, 106, 107, 108, 109, 110, 196, 197, 198, 199, 200, 201, 202, 203, 204, 50, 51, 52, 54, 39, 40, 41, 43, 44, 46, 20, 21, 205, 206, 207, 208, 209, 28, 29, 30, 210, 211, 212, 213, 214, 215, 216, 217, 218, 219, 220, 221, 222, 223, 224, 225, 226, 227, 228, 229, 230, 231, 232, 233, 163, 164, 165, 166, 167, 168, 169, 117, 118, 119, 120, 121, 122, 7, 123, 124, 125, 126, 127, 128, 129, 130, 131, 132, 133, 134, 135, 136, 301, 302, 303, 304, 305, 306, 307, 308, 309, 310, 311, 312, 313, 314, 315, 316, 317, 318, 319, 331, 332, 333, 334, 335, 320, 321, 322] (by decide +kernel) (by decide +kernel)
set_option maxRecDepth 20000 in
theorem gL_acts_X4_even : GoodIn wsL_acts (wsV RL 54 RX4 yX4_even wsX4_even) := goodIn_app (goodIn_of _ (by decide +kernel)) ggL_acts_X4_even
set_option maxRecDepth 20000 in
theorem ggL_acts_X4_close : GoodIn wsL_acts wsX4_close := goodIn_r _ [241, 93, 6, 94, 95, 96, 12, 97, 42, 98, 19, 99, 26, 32, 31, 47, 14, 48, 100, 53, 101, 102, 4, 103, 104, 105, 45, 106, 107, 108, 109, 110, 242, 243, 244, 245, 115, 71, 72, 73, 116, 75, 76, 77, 20, 21, 246, 247, 248, 249, 250, 251, 252, 253, 117, 118, 254, 79, 80, 81, 255, 83, 84, 85, 86, 87, 88, 256, 257, 258, 259, 260, 261, 262, 263, 264, 265, 266, 267, 268, 34, 35, 36, 162, 163, 164, 165, 166, 167, 168, 169, 119, 120, 121, 122, 7, 123, 124, 125, 126, 127, 128, 129, 130, 131, 132, 133, 134, 135, 136, 301, 302, 303, 304, 305, 306, 307, 308, 309, 310, 311, 312, 313, 314, 315, 316, 317, 318, 319, 320, 321, 322] (by decide +kernel) (by decide +kernel)
set_option maxRecDepth 20000 in
theorem gL_acts_X4_close : GoodIn wsL_acts (wsV RL 57 RX4 yX4_close wsX4_close) := goodIn_app (goodIn_of _ (by decide +kernel)) ggL_acts_X4_close
set_option maxRecDepth 20000 in
theorem ggL_acts_X4_open : GoodIn wsL_acts wsX4_open := goodIn_r _ [272, 93, 6, 94, 95, 96, 12, 97, 42, 98, 19, 99, 26, 32, 31, 47, 14, 48, 100, 53, 101, 102, 4, 103, 104, 105, 45, 106, 107, 108, 109, 110, 273, 274, 275, 276, 115, 71, 72, 73, 116, 75, 76, 77, 20, 21, 117, 118, 119, 120, 121, 122, 7, 123, 124, 125, 126, 127, 128, 129, 130, 131, 132, 133, 134, 135, 136, 301, 302, 303, 304, 305, 306, 307, 308, 309, 310, 311, 312, 313, 314, 315, 316, 317, 318, 319, 320, 321, 322] (by decide +kernel) (by decide +kernel)
set_option maxRecDepth 20000 in
theorem gL_acts_X4_open : GoodIn wsL_acts (wsV RL 60 RX4 yX4_open wsX4_open) := goodIn_app (goodIn_of _ (by decide +kernel)) ggL_acts_X4_open
set_option maxRecDepth 20000 in
theorem ggL_acts_X4_addServer : GoodIn wsL_acts wsX4_addServer := goodIn_r _ [280, 93, 6, 94, 95, 96, 12, 97, 42, 98, 19, 99, 26, 32, 31, 47, 14, 48, 100, 53, 101, 102, 4, 103, 104, 105, 45, 106, 107, 108, 109, 110, 281, 282, 283, 284, 117, 118, 119, 120, 121, 122, 7, 123, 124, 125, 126, 127, 128, 129, 130, 131, 132, 133, 134, 135, 136, 301, 302, 303, 304, 305, 306, 307, 308, 309, 310, 311, 312, 313, 314, 315, 316, 317, 318, 319, 320, 321, 322] (by decide +kernel) (by decide +kernel)
set_option maxRecDepth 20000 in
theorem gL_acts_X4_addServer : GoodIn wsL_acts (wsV RL 78 RX4 yX4_addServer wsX4_addServer) := goodIn_app (goodIn_of _ (by decide +kernel)) ggL_acts_X4_addServer
set_option maxRecDepth 20000 in
theorem ggL_acts_X4_setBudget : GoodIn wsL_acts wsX4_setBudget := goodIn_r _ [288, 93, 6, 94, 95, 96, 12, 97, 42, 98, 19, 99, 26, 32, 31, 47, 14, 48, 100, 53, 101, 102, 4, 103, 104, 105, 45, 106, 107, 108, 109, 110, 289, 290, 291, 292, 119, 120, 121, 122, 7, 123, 124, 125, 126, 127, 128, 129, 130, 131, 132, 133, 134, 135, 136, 301, 302, 303, 304, 305, 306, 307, 308, 309, 310, 311, 312, 313, 314, 315, 316, 317, 318, 319, 320, 321, 322] (by decide +kernel) (by decide +kernel)
set_option maxRecDepth 20000 in
theorem gL_acts_X4_setBudget : GoodIn wsL_acts (wsV RL 39 RX4 yX4_setBudget wsX4_setBudget) := goodIn_app (goodIn_of _ (by decide +kernel)) ggL_acts_X4_setBudget
set_option maxRecDepth 20000 in
theorem ggL_acts_X4_setFactor : GoodIn wsL_acts wsX4_setFactor := goodIn_r _ [296, 93, 6, 94, 95, 96, 12, 97, 42, 98, 19, 99, 26, 32, 31, 47, 14, 48, 100, 53, 101, 102, 4, 103, 104, 105, 45, 106, 107, 108, 109, 110, 297, 298, 299, 300, 60, 50, 51, 52, 54, 39, 40, 41, 43, 44, 46, 20, 21, 119, 120, 121, 122, 7, 123, 124, 125, 126, 127, 128, 129, 130, 131, 132, 133, 134, 135, 136, 301, 302, 303, 304, 305, 306, 307, 308, 309, 310, 311, 312, 313, 314, 315, 316, 317, 318, 319, 320, 321, 322] (by decide +kernel) (by decide +kernel)
set_option maxRecDepth 20000 in
theorem gL_acts_X4_setFactor : GoodIn wsL_acts (wsV RL 42 RX4 yX4_setFactor wsX4_setFactor) := goodIn_app (goodIn_of _ (by decide +kernel)) ggL_acts_X4_setFactor
theorem dL_acts_0 : decode cL_acts 0 = .ok (.aload_n 0, 1) := by decide +kernel
theorem dL_acts_1 : decode cL_acts 1 = .ok (.iconst 0, 1) := by decide +kernel
theorem dL_acts_2 : decode cL_acts 2 = .ok (.invokevirtual 13, 3) := by decide +kernel
theorem dL_acts_5 : decode cL_acts 5 = .ok (.istore 4, 2) := by decide +kernel
theorem dL_acts_7 : decode cL_acts 7 = .ok (.aload_n 0, 1) := by decide +kernel
theorem dL_acts_8 : decode cL_acts 8 = .ok (.iconst 2, 1) := by decide +kernel
theorem dL_acts_9 : decode cL_acts 9 = .ok (.invokevirtual 13, 3) := by decide +kernel
theorem dL_acts_12 : decode cL_acts 12 = .ok (.istore 5, 2) := by decide +kernel
theorem dL_acts_14 : decode cL_acts 14 = .ok (.iload_n 3, 1) := by decide +kernel
theorem dL_acts_15 : decode cL_acts 15 = .ok (.iload 4, 2) := by decide +kernel
theorem dL_acts_17 : decode cL_acts 17 = .ok (.invokestatic 86, 3) := by decide +kernel
theorem dL_acts_20 : decode cL_acts 20 = .ok (.istore 6, 2) := by decide +kernel
theorem dL_acts_22 : decode cL_acts 22 = .ok (.iload_n 1, 1) := by decide +kernel
theorem dL_acts_23 : decode cL_acts 23 = .ok (.bipush 6, 2) := by decide +kernel
theorem dL_acts_25 : decode cL_acts 25 = .ok (.if_icmp .lt 8, 3) := by decide +kernel
theorem dL_acts_28 : decode cL_acts 28 = .ok (.iload 5, 2) := by decide +kernel
theorem dL_acts_30 : decode cL_acts 30 = .ok (.ifCond .ne 141, 3) := by decide +kernel
theorem dL_acts_33 : decode cL_acts 33 = .ok (.iload_n 2, 1) := by decide +kernel
theorem dL_acts_34 : decode cL_acts 34 = .ok (.iconst 3, 1) := by decide +kernel
theorem dL_acts_35 : decode cL_acts 35 = .ok (.invokestatic 86, 3) := by decide +kernel
theorem dL_acts_38 : decode cL_acts 38 = .ok (.ifCond .ne 17, 3) := by decide +kernel
theorem dL_acts_41 : decode cL_acts 41 = .ok (.iconst 1, 1) := by decide +kernel
theorem dL_acts_42 : decode cL_acts 42 = .ok (.iload_n 2, 1) := by decide +kernel
theorem dL_acts_43 : decode cL_acts 43 = .ok (.iconst 2, 1) := by decide +kernel
theorem dL_acts_44 : decode cL_acts 44 = .ok (.ishr, 1) := by decide +kernel
theorem dL_acts_45 : decode cL_acts 45 = .ok (.sipush 1000, 3) := by decide +kernel
theorem dL_acts_48 : decode cL_acts 48 = .ok (.invokestatic 86, 3) := by decide +kernel
theorem dL_acts_51 : decode cL_acts 51 = .ok (.iadd, 1) := by decide +kernel
theorem dL_acts_52 : decode cL_acts 52 = .ok (.goto 13, 3) := by decide +kernel
theorem dL_acts_55 : decode cL_acts 55 = .ok (.iconst 1, 1) := by decide +kernel
theorem dL_acts_56 : decode cL_acts 56 = .ok (.iload_n 2, 1) := by decide +kernel
theorem dL_acts_57 : decode cL_acts 57 = .ok (.iconst 2, 1) := by decide +kernel
theorem dL_acts_58 : decode cL_acts 58 = .ok (.ishr, 1) := by decide +kernel
theorem dL_acts_59 : decode cL_acts 59 = .ok (.bipush 40, 2) := by decide +kernel
theorem dL_acts_61 : decode cL_acts 61 = .ok (.invokestatic 86, 3) := by decide +kernel
theorem dL_acts_64 : decode cL_acts 64 = .ok (.iadd, 1) := by decide +kernel
theorem dL_acts_65 : decode cL_acts 65 = .ok (.istore 7, 2) := by decide +kernel
theorem dL_acts_67 : decode cL_acts 67 = .ok (.aload_n 0, 1) := by decide +kernel
theorem dL_acts_68 : decode cL_acts 68 = .ok (.iload 6, 2) := by decide +kernel
theorem dL_acts_70 : decode cL_acts 70 = .ok (.iconst 0, 1) := by decide +kernel
theorem dL_acts_71 : decode cL_acts 71 = .ok (.invokevirtual 19, 3) := by decide +kernel
theorem dL_acts_74 : decode cL_acts 74 = .ok (.iconst 1, 1) := by decide +kernel
theorem dL_acts_75 : decode cL_acts 75 = .ok (.if_icmp .ne 7, 3) := by decide +kernel
theorem dL_acts_78 : decode cL_acts 78 = .ok (.iconst 1, 1) := by decide +kernel
theorem dL_acts_79 : decode cL_acts 79 = .ok (.goto 4, 3) := by decide +kernel
theorem dL_acts_82 : decode cL_acts 82 = .ok (.iconst 0, 1) := by decide +kernel
theorem dL_acts_83 : decode cL_acts 83 = .ok (.istore 8, 2) := by decide +kernel
theorem dL_acts_85 : decode cL_acts 85 = .ok (.aload_n 0, 1) := by decide +kernel
theorem dL_acts_86 : decode cL_acts 86 = .ok (.iload 6, 2) := by decide +kernel
theorem dL_acts_88 : decode cL_acts 88 = .ok (.iconst 1, 1) := by decide +kernel
theorem dL_acts_89 : decode cL_acts 89 = .ok (.invokevirtual 19, 3) := by decide +kernel
theorem dL_acts_92 : decode cL_acts 92 = .ok (.istore 9, 2) := by decide +kernel
theorem dL_acts_94 : decode cL_acts 94 = .ok (.aload_n 0, 1) := by decide +kernel
theorem dL_acts_95 : decode cL_acts 95 = .ok (.iload 7, 2) := by decide +kernel
theorem dL_acts_97 : decode cL_acts 97 = .ok (.iload_n 3, 1) := by decide +kernel
theorem dL_acts_98 : decode cL_acts 98 = .ok (.iconst 4, 1) := by decide +kernel
theorem dL_acts_99 : decode cL_acts 99 = .ok (.ishr, 1) := by decide +kernel
theorem dL_acts_100 : decode cL_acts 100 = .ok (.bipush 101, 2) := by decide +kernel
theorem dL_acts_102 : decode cL_acts 102 = .ok (.invokestatic 86, 3) := by decide +kernel
theorem dL_acts_105 : decode cL_acts 105 = .ok (.iload 6, 2) := by decide +kernel
theorem dL_acts_107 : decode cL_acts 107 = .ok (.invokevirtual 32, 3) := by decide +kernel
theorem dL_acts_110 : decode cL_acts 110 = .ok (.istore 10, 2) := by decide +kernel
theorem dL_acts_112 : decode cL_acts 112 = .ok (.iload 10, 2) := by decide +kernel
theorem dL_acts_114 : decode cL_acts 114 = .ok (.iload 8, 2) := by decide +kernel
theorem dL_acts_116 : decode cL_acts 116 = .ok (.ifCond .ne 8, 3) := by decide +kernel
theorem dL_acts_119 : decode cL_acts 119 = .ok (.bipush (-2), 2) := by decide +kernel
theorem dL_acts_121 : decode cL_acts 121 = .ok (.goto 17, 3) := by decide +kernel
theorem dL_acts_124 : decode cL_acts 124 = .ok (.iload 5, 2) := by decide +kernel
theorem dL_acts_126 : decode cL_acts 126 = .ok (.bipush 24, 2) := by decide +kernel
theorem dL_acts_128 : decode cL_acts 128 = .ok (.if_icmp .ne 8, 3) := by decide +kernel
theorem dL_acts_131 : decode cL_acts 131 = .ok (.bipush (-3), 2) := by decide +kernel
theorem dL_acts_133 : decode cL_acts 133 = .ok (.goto 5, 3) := by decide +kernel
theorem dL_acts_136 : decode cL_acts 136 = .ok (.iload 5, 2) := by decide +kernel
theorem dL_acts_138 : decode cL_acts 138 = .ok (.if_icmp .ne 31, 3) := by decide +kernel
theorem dL_acts_141 : decode cL_acts 141 = .ok (.aload_n 0, 1) := by decide +kernel
theorem dL_acts_142 : decode cL_acts 142 = .ok (.iload 6, 2) := by decide +kernel
theorem dL_acts_144 : decode cL_acts 144 = .ok (.iconst 1, 1) := by decide +kernel
theorem dL_acts_145 : decode cL_acts 145 = .ok (.invokevirtual 19, 3) := by decide +kernel
theorem dL_acts_148 : decode cL_acts 148 = .ok (.iload 9, 2) := by decide +kernel
theorem dL_acts_150 : decode cL_acts 150 = .ok (.iload 10, 2) := by decide +kernel
theorem dL_acts_152 : decode cL_acts 152 = .ok (.ifCond .lt 8, 3) := by decide +kernel
theorem dL_acts_155 : decode cL_acts 155 = .ok (.iload 7, 2) := by decide +kernel
theorem dL_acts_157 : decode cL_acts 157 = .ok (.goto 4, 3) := by decide +kernel
theorem dL_acts_160 : decode cL_acts 160 = .ok (.iconst 0, 1) := by decide +kernel
theorem dL_acts_161 : decode cL_acts 161 = .ok (.iadd, 1) := by decide +kernel
theorem dL_acts_162 : decode cL_acts 162 = .ok (.if_icmp .ne 7, 3) := by decide +kernel
theorem dL_acts_165 : decode cL_acts 165 = .ok (.iconst 1, 1) := by decide +kernel
theorem dL_acts_166 : decode cL_acts 166 = .ok (.goto 4, 3) := by decide +kernel
theorem dL_acts_169 : decode cL_acts 169 = .ok (.iconst 0, 1) := by decide +kernel
theorem dL_acts_170 : decode cL_acts 170 = .ok (.ireturn, 1) := by decide +kernel
theorem dL_acts_171 : decode cL_acts 171 = .ok (.iload_n 2, 1) := by decide +kernel
theorem dL_acts_172 : decode cL_acts 172 = .ok (.iload 5, 2) := by decide +kernel
theorem dL_acts_174 : decode cL_acts 174 = .ok (.invokestatic 86, 3) := by decide +kernel
theorem dL_acts_177 : decode cL_acts 177 = .ok (.istore 7, 2) := by decide +kernel
theorem dL_acts_179 : decode cL_acts 179 = .ok (.iload_n 2, 1) := by decide +kernel
theorem dL_acts_180 : decode cL_acts 180 = .ok (.iconst 5, 1) := by decide +kernel
theorem dL_acts_181 : decode cL_acts 181 = .ok (.ishr, 1) := by decide +kernel
theorem dL_acts_182 : decode cL_acts 182 = .ok (.iload 5, 2) := by decide +kernel
theorem dL_acts_184 : decode cL_acts 184 = .ok (.invokestatic 86, 3) := by decide +kernel
theorem dL_acts_187 : decode cL_acts 187 = .ok (.istore 8, 2) := by decide +kernel
theorem dL_acts_189 : decode cL_acts 189 = .ok (.iload_n 2, 1) := by decide +kernel
theorem dL_acts_190 : decode cL_acts 190 = .ok (.bipush 10, 2) := by decide +kernel
theorem dL_acts_192 : decode cL_acts 192 = .ok (.ishr, 1) := by decide +kernel
theorem dL_acts_193 : decode cL_acts 193 = .ok (.iload 5, 2) := by decide +kernel
theorem dL_acts_195 : decode cL_acts 195 = .ok (.invokestatic 86, 3) := by decide +kernel
theorem dL_acts_198 : decode cL_acts 198 = .ok (.istore 9, 2) := by decide +kernel
theorem dL_acts_200 : decode cL_acts 200 = .ok (.aload_n 0, 1) := by decide +kernel
theorem dL_acts_201 : decode cL_acts 201 = .ok (.bipush 10, 2) := by decide +kernel
theorem dL_acts_203 : decode cL_acts 203 = .ok (.invokevirtual 13, 3) := by decide +kernel
theorem dL_acts_206 : decode cL_acts 206 = .ok (.istore 10, 2) := by decide +kernel
theorem dL_acts_208 : decode cL_acts 208 = .ok (.aload_n 0, 1) := by decide +kernel
theorem dL_acts_209 : decode cL_acts 209 = .ok (.bipush 12, 2) := by decide +kernel
theorem dL_acts_211 : decode cL_acts 211 = .ok (.invokevirtual 13, 3) := by decide +kernel
theorem dL_acts_214 : decode cL_acts 214 = .ok (.istore 11, 2) := by decide +kernel
theorem dL_acts_216 : decode cL_acts 216 = .ok (.aload_n 0, 1) := by decide +kernel
theorem dL_acts_217 : decode cL_acts 217 = .ok (.iload 7, 2) := by decide +kernel
theorem dL_acts_219 : decode cL_acts 219 = .ok (.iconst 2, 1) := by decide +kernel
theorem dL_acts_220 : decode cL_acts 220 = .ok (.invokevirtual 23, 3) := by decide +kernel
theorem dL_acts_223 : decode cL_acts 223 = .ok (.istore 12, 2) := by decide +kernel
theorem dL_acts_225 : decode cL_acts 225 = .ok (.iload_n 1, 1) := by decide +kernel
theorem dL_acts_226 : decode cL_acts 226 = .ok (.tableswitch 839 6 16 #[58, 142, 142, 142, 276, 276, 434, 607, 653, 723, 782], 58) := by decide +kernel
theorem dL_acts_284 : decode cL_acts 284 = .ok (.iload 12, 2) := by decide +kernel
theorem dL_acts_286 : decode cL_acts 286 = .ok (.bipush (-9), 2) := by decide +kernel
theorem dL_acts_288 : decode cL_acts 288 = .ok (.if_icmp .ne 7, 3) := by decide +kernel
theorem dL_acts_291 : decode cL_acts 291 = .ok (.iconst 0, 1) := by decide +kernel
theorem dL_acts_292 : decode cL_acts 292 = .ok (.goto 10, 3) := by decide +kernel
theorem dL_acts_295 : decode cL_acts 295 = .ok (.aload_n 0, 1) := by decide +kernel
theorem dL_acts_296 : decode cL_acts 296 = .ok (.iload 12, 2) := by decide +kernel
theorem dL_acts_298 : decode cL_acts 298 = .ok (.iconst 1, 1) := by decide +kernel
theorem dL_acts_299 : decode cL_acts 299 = .ok (.invokevirtual 19, 3) := by decide +kernel
theorem dL_acts_302 : decode cL_acts 302 = .ok (.istore 13, 2) := by decide +kernel
theorem dL_acts_304 : decode cL_acts 304 = .ok (.aload_n 0, 1) := by decide +kernel
theorem dL_acts_305 : decode cL_acts 305 = .ok (.iload 7, 2) := by decide +kernel
theorem dL_acts_307 : decode cL_acts 307 = .ok (.invokevirtual 36, 3) := by decide +kernel
theorem dL_acts_310 : decode cL_acts 310 = .ok (.istore 14, 2) := by decide +kernel
theorem dL_acts_312 : decode cL_acts 312 = .ok (.iload 14, 2) := by decide +kernel
theorem dL_acts_314 : decode cL_acts 314 = .ok (.iload 12, 2) := by decide +kernel
theorem dL_acts_316 : decode cL_acts 316 = .ok (.bipush (-9), 2) := by decide +kernel
theorem dL_acts_318 : decode cL_acts 318 = .ok (.if_icmp .ne 8, 3) := by decide +kernel
theorem dL_acts_321 : decode cL_acts 321 = .ok (.bipush (-2), 2) := by decide +kernel
theorem dL_acts_323 : decode cL_acts 323 = .ok (.goto 13, 3) := by decide +kernel
theorem dL_acts_326 : decode cL_acts 326 = .ok (.iload 13, 2) := by decide +kernel
theorem dL_acts_328 : decode cL_acts 328 = .ok (.aload_n 0, 1) := by decide +kernel
theorem dL_acts_329 : decode cL_acts 329 = .ok (.iload 7, 2) := by decide +kernel
theorem dL_acts_331 : decode cL_acts 331 = .ok (.iconst 0, 1) := by decide +kernel
theorem dL_acts_332 : decode cL_acts 332 = .ok (.invokevirtual 23, 3) := by decide +kernel
theorem dL_acts_335 : decode cL_acts 335 = .ok (.isub, 1) := by decide +kernel
theorem dL_acts_336 : decode cL_acts 336 = .ok (.if_icmp .ne 30, 3) := by decide +kernel
theorem dL_acts_339 : decode cL_acts 339 = .ok (.aload_n 0, 1) := by decide +kernel
theorem dL_acts_340 : decode cL_acts 340 = .ok (.iload 7, 2) := by decide +kernel
theorem dL_acts_342 : decode cL_acts 342 = .ok (.iconst 2, 1) := by decide +kernel
theorem dL_acts_343 : decode cL_acts 343 = .ok (.invokevirtual 23, 3) := by decide +kernel
theorem dL_acts_346 : decode cL_acts 346 = .ok (.bipush (-9), 2) := by decide +kernel
theorem dL_acts_348 : decode cL_acts 348 = .ok (.if_icmp .ne 18, 3) := by decide +kernel
theorem dL_acts_351 : decode cL_acts 351 = .ok (.aload_n 0, 1) := by decide +kernel
theorem dL_acts_352 : decode cL_acts 352 = .ok (.bipush 10, 2) := by decide +kernel
theorem dL_acts_354 : decode cL_acts 354 = .ok (.invokevirtual 13, 3) := by decide +kernel
theorem dL_acts_357 : decode cL_acts 357 = .ok (.iload 10, 2) := by decide +kernel
theorem dL_acts_359 : decode cL_acts 359 = .ok (.if_icmp .ne 7, 3) := by decide +kernel
theorem dL_acts_362 : decode cL_acts 362 = .ok (.iconst 1, 1) := by decide +kernel
theorem dL_acts_363 : decode cL_acts 363 = .ok (.goto 4, 3) := by decide +kernel
theorem dL_acts_366 : decode cL_acts 366 = .ok (.iconst 0, 1) := by decide +kernel
theorem dL_acts_367 : decode cL_acts 367 = .ok (.ireturn, 1) := by decide +kernel
theorem dL_acts_368 : decode cL_acts 368 = .ok (.aload_n 0, 1) := by decide +kernel
theorem dL_acts_369 : decode cL_acts 369 = .ok (.iload 7, 2) := by decide +kernel
theorem dL_acts_371 : decode cL_acts 371 = .ok (.iload 6, 2) := by decide +kernel
theorem dL_acts_373 : decode cL_acts 373 = .ok (.invokevirtual 45, 3) := by decide +kernel
theorem dL_acts_376 : decode cL_acts 376 = .ok (.istore 13, 2) := by decide +kernel
theorem dL_acts_378 : decode cL_acts 378 = .ok (.iload 12, 2) := by decide +kernel
theorem dL_acts_380 : decode cL_acts 380 = .ok (.bipush (-9), 2) := by decide +kernel
theorem dL_acts_382 : decode cL_acts 382 = .ok (.if_icmp .eq 37, 3) := by decide +kernel
theorem dL_acts_385 : decode cL_acts 385 = .ok (.iload 12, 2) := by decide +kernel
theorem dL_acts_387 : decode cL_acts 387 = .ok (.iload 6, 2) := by decide +kernel
theorem dL_acts_389 : decode cL_acts 389 = .ok (.if_icmp .eq 30, 3) := by decide +kernel
theorem dL_acts_392 : decode cL_acts 392 = .ok (.aload_n 0, 1) := by decide +kernel
theorem dL_acts_393 : decode cL_acts 393 = .ok (.iload 6, 2) := by decide +kernel
theorem dL_acts_395 : decode cL_acts 395 = .ok (.iconst 0, 1) := by decide +kernel
theorem dL_acts_396 : decode cL_acts 396 = .ok (.invokevirtual 19, 3) := by decide +kernel
theorem dL_acts_399 : decode cL_acts 399 = .ok (.iconst 1, 1) := by decide +kernel
theorem dL_acts_400 : decode cL_acts 400 = .ok (.if_icmp .ne 19, 3) := by decide +kernel
theorem dL_acts_403 : decode cL_acts 403 = .ok (.aload_n 0, 1) := by decide +kernel
theorem dL_acts_404 : decode cL_acts 404 = .ok (.iload 7, 2) := by decide +kernel
theorem dL_acts_406 : decode cL_acts 406 = .ok (.iconst 1, 1) := by decide +kernel
theorem dL_acts_407 : decode cL_acts 407 = .ok (.invokevirtual 23, 3) := by decide +kernel
theorem dL_acts_410 : decode cL_acts 410 = .ok (.iload 10, 2) := by decide +kernel
theorem dL_acts_412 : decode cL_acts 412 = .ok (.if_icmp .gt 7, 3) := by decide +kernel
theorem dL_acts_415 : decode cL_acts 415 = .ok (.iconst 1, 1) := by decide +kernel
theorem dL_acts_416 : decode cL_acts 416 = .ok (.goto 4, 3) := by decide +kernel
theorem dL_acts_419 : decode cL_acts 419 = .ok (.iconst 0, 1) := by decide +kernel
theorem dL_acts_420 : decode cL_acts 420 = .ok (.istore 14, 2) := by decide +kernel
theorem dL_acts_422 : decode cL_acts 422 = .ok (.iload 14, 2) := by decide +kernel
theorem dL_acts_424 : decode cL_acts 424 = .ok (.ifCond .eq 65, 3) := by decide +kernel
theorem dL_acts_427 : decode cL_acts 427 = .ok (.iload 13, 2) := by decide +kernel
theorem dL_acts_429 : decode cL_acts 429 = .ok (.aload_n 0, 1) := by decide +kernel
theorem dL_acts_430 : decode cL_acts 430 = .ok (.iconst 5, 1) := by decide +kernel
theorem dL_acts_431 : decode cL_acts 431 = .ok (.invokevirtual 13, 3) := by decide +kernel
theorem dL_acts_434 : decode cL_acts 434 = .ok (.if_icmp .ne 51, 3) := by decide +kernel
theorem dL_acts_437 : decode cL_acts 437 = .ok (.aload_n 0, 1) := by decide +kernel
theorem dL_acts_438 : decode cL_acts 438 = .ok (.iload 7, 2) := by decide +kernel
theorem dL_acts_440 : decode cL_acts 440 = .ok (.iconst 2, 1) := by decide +kernel
theorem dL_acts_441 : decode cL_acts 441 = .ok (.invokevirtual 23, 3) := by decide +kernel
theorem dL_acts_444 : decode cL_acts 444 = .ok (.iload 6, 2) := by decide +kernel
theorem dL_acts_446 : decode cL_acts 446 = .ok (.if_icmp .ne 39, 3) := by decide +kernel
theorem dL_acts_449 : decode cL_acts 449 = .ok (.aload_n 0, 1) := by decide +kernel
theorem dL_acts_450 : decode cL_acts 450 = .ok (.bipush 10, 2) := by decide +kernel
theorem dL_acts_452 : decode cL_acts 452 = .ok (.invokevirtual 13, 3) := by decide +kernel
theorem dL_acts_455 : decode cL_acts 455 = .ok (.iload 10, 2) := by decide +kernel
theorem dL_acts_457 : decode cL_acts 457 = .ok (.aload_n 0, 1) := by decide +kernel
theorem dL_acts_458 : decode cL_acts 458 = .ok (.iload 7, 2) := by decide +kernel
theorem dL_acts_460 : decode cL_acts 460 = .ok (.iconst 1, 1) := by decide +kernel
theorem dL_acts_461 : decode cL_acts 461 = .ok (.invokevirtual 23, 3) := by decide +kernel
theorem dL_acts_464 : decode cL_acts 464 = .ok (.isub, 1) := by decide +kernel
theorem dL_acts_465 : decode cL_acts 465 = .ok (.if_icmp .ne 20, 3) := by decide +kernel
theorem dL_acts_468 : decode cL_acts 468 = .ok (.aload_n 0, 1) := by decide +kernel
theorem dL_acts_469 : decode cL_acts 469 = .ok (.bipush 12, 2) := by decide +kernel
theorem dL_acts_471 : decode cL_acts 471 = .ok (.invokevirtual 13, 3) := by decide +kernel
theorem dL_acts_474 : decode cL_acts 474 = .ok (.iload 11, 2) := by decide +kernel
theorem dL_acts_476 : decode cL_acts 476 = .ok (.iconst 1, 1) := by decide +kernel
theorem dL_acts_477 : decode cL_acts 477 = .ok (.iadd, 1) := by decide +kernel
theorem dL_acts_478 : decode cL_acts 478 = .ok (.if_icmp .ne 7, 3) := by decide +kernel
theorem dL_acts_481 : decode cL_acts 481 = .ok (.iconst 1, 1) := by decide +kernel
theorem dL_acts_482 : decode cL_acts 482 = .ok (.goto 19, 3) := by decide +kernel
theorem dL_acts_485 : decode cL_acts 485 = .ok (.iconst 0, 1) := by decide +kernel
theorem dL_acts_486 : decode cL_acts 486 = .ok (.goto 15, 3) := by decide +kernel
theorem dL_acts_489 : decode cL_acts 489 = .ok (.iload 13, 2) := by decide +kernel
theorem dL_acts_491 : decode cL_acts 491 = .ok (.bipush (-2), 2) := by decide +kernel
theorem dL_acts_493 : decode cL_acts 493 = .ok (.if_icmp .ne 7, 3) := by decide +kernel
theorem dL_acts_496 : decode cL_acts 496 = .ok (.iconst 1, 1) := by decide +kernel
theorem dL_acts_497 : decode cL_acts 497 = .ok (.goto 4, 3) := by decide +kernel
theorem dL_acts_500 : decode cL_acts 500 = .ok (.iconst 0, 1) := by decide +kernel
theorem dL_acts_501 : decode cL_acts 501 = .ok (.ireturn, 1) := by decide +kernel
theorem dL_acts_502 : decode cL_acts 502 = .ok (.aload_n 0, 1) := by decide +kernel
theorem dL_acts_503 : decode cL_acts 503 = .ok (.iload 8, 2) := by decide +kernel
theorem dL_acts_505 : decode cL_acts 505 = .ok (.iconst 2, 1) := by decide +kernel
theorem dL_acts_506 : decode cL_acts 506 = .ok (.invokevirtual 23, 3) := by decide +kernel
theorem dL_acts_509 : decode cL_acts 509 = .ok (.istore 13, 2) := by decide +kernel
theorem dL_acts_511 : decode cL_acts 511 = .ok (.aload_n 0, 1) := by decide +kernel
theorem dL_acts_512 : decode cL_acts 512 = .ok (.iload 7, 2) := by decide +kernel
theorem dL_acts_514 : decode cL_acts 514 = .ok (.iload 8, 2) := by decide +kernel
theorem dL_acts_516 : decode cL_acts 516 = .ok (.invokevirtual 48, 3) := by decide +kernel
theorem dL_acts_519 : decode cL_acts 519 = .ok (.istore 14, 2) := by decide +kernel
theorem dL_acts_521 : decode cL_acts 521 = .ok (.iload 7, 2) := by decide +kernel
theorem dL_acts_523 : decode cL_acts 523 = .ok (.iload 8, 2) := by decide +kernel
theorem dL_acts_525 : decode cL_acts 525 = .ok (.if_icmp .eq 48, 3) := by decide +kernel
theorem dL_acts_528 : decode cL_acts 528 = .ok (.iload 12, 2) := by decide +kernel
theorem dL_acts_530 : decode cL_acts 530 = .ok (.bipush (-9), 2) := by decide +kernel
theorem dL_acts_532 : decode cL_acts 532 = .ok (.if_icmp .eq 41, 3) := by decide +kernel
theorem dL_acts_535 : decode cL_acts 535 = .ok (.iload 13, 2) := by decide +kernel
theorem dL_acts_537 : decode cL_acts 537 = .ok (.bipush (-9), 2) := by decide +kernel
theorem dL_acts_539 : decode cL_acts 539 = .ok (.if_icmp .eq 34, 3) := by decide +kernel
theorem dL_acts_542 : decode cL_acts 542 = .ok (.iload 12, 2) := by decide +kernel
theorem dL_acts_544 : decode cL_acts 544 = .ok (.iload 13, 2) := by decide +kernel
theorem dL_acts_546 : decode cL_acts 546 = .ok (.if_icmp .eq 27, 3) := by decide +kernel
theorem dL_acts_549 : decode cL_acts 549 = .ok (.aload_n 0, 1) := by decide +kernel
theorem dL_acts_550 : decode cL_acts 550 = .ok (.iload 7, 2) := by decide +kernel
theorem dL_acts_552 : decode cL_acts 552 = .ok (.iconst 1, 1) := by decide +kernel
theorem dL_acts_553 : decode cL_acts 553 = .ok (.invokevirtual 23, 3) := by decide +kernel
theorem dL_acts_556 : decode cL_acts 556 = .ok (.aload_n 0, 1) := by decide +kernel
theorem dL_acts_557 : decode cL_acts 557 = .ok (.iload 8, 2) := by decide +kernel
theorem dL_acts_559 : decode cL_acts 559 = .ok (.iconst 1, 1) := by decide +kernel
theorem dL_acts_560 : decode cL_acts 560 = .ok (.invokevirtual 23, 3) := by decide +kernel
theorem dL_acts_563 : decode cL_acts 563 = .ok (.iadd, 1) := by decide +kernel
theorem dL_acts_564 : decode cL_acts 564 = .ok (.iload 10, 2) := by decide +kernel
theorem dL_acts_566 : decode cL_acts 566 = .ok (.if_icmp .gt 7, 3) := by decide +kernel
theorem dL_acts_569 : decode cL_acts 569 = .ok (.iconst 1, 1) := by decide +kernel
theorem dL_acts_570 : decode cL_acts 570 = .ok (.goto 4, 3) := by decide +kernel
theorem dL_acts_573 : decode cL_acts 573 = .ok (.iconst 0, 1) := by decide +kernel
theorem dL_acts_574 : decode cL_acts 574 = .ok (.istore 15, 2) := by decide +kernel
theorem dL_acts_576 : decode cL_acts 576 = .ok (.iload 15, 2) := by decide +kernel
theorem dL_acts_578 : decode cL_acts 578 = .ok (.ifCond .eq 58, 3) := by decide +kernel
theorem dL_acts_581 : decode cL_acts 581 = .ok (.iload 14, 2) := by decide +kernel
theorem dL_acts_583 : decode cL_acts 583 = .ok (.aload_n 0, 1) := by decide +kernel
theorem dL_acts_584 : decode cL_acts 584 = .ok (.iconst 5, 1) := by decide +kernel
theorem dL_acts_585 : decode cL_acts 585 = .ok (.invokevirtual 13, 3) := by decide +kernel
theorem dL_acts_588 : decode cL_acts 588 = .ok (.if_icmp .ne 44, 3) := by decide +kernel
theorem dL_acts_591 : decode cL_acts 591 = .ok (.aload_n 0, 1) := by decide +kernel
theorem dL_acts_592 : decode cL_acts 592 = .ok (.iload 7, 2) := by decide +kernel
theorem dL_acts_594 : decode cL_acts 594 = .ok (.iconst 2, 1) := by decide +kernel
theorem dL_acts_595 : decode cL_acts 595 = .ok (.invokevirtual 23, 3) := by decide +kernel
theorem dL_acts_598 : decode cL_acts 598 = .ok (.iload 13, 2) := by decide +kernel
theorem dL_acts_600 : decode cL_acts 600 = .ok (.if_icmp .ne 32, 3) := by decide +kernel
theorem dL_acts_603 : decode cL_acts 603 = .ok (.aload_n 0, 1) := by decide +kernel
theorem dL_acts_604 : decode cL_acts 604 = .ok (.iload 8, 2) := by decide +kernel
theorem dL_acts_606 : decode cL_acts 606 = .ok (.iconst 2, 1) := by decide +kernel
theorem dL_acts_607 : decode cL_acts 607 = .ok (.invokevirtual 23, 3) := by decide +kernel
theorem dL_acts_610 : decode cL_acts 610 = .ok (.iload 12, 2) := by decide +kernel
theorem dL_acts_612 : decode cL_acts 612 = .ok (.if_icmp .ne 20, 3) := by decide +kernel
theorem dL_acts_615 : decode cL_acts 615 = .ok (.aload_n 0, 1) := by decide +kernel
theorem dL_acts_616 : decode cL_acts 616 = .ok (.bipush 12, 2) := by decide +kernel
theorem dL_acts_618 : decode cL_acts 618 = .ok (.invokevirtual 13, 3) := by decide +kernel
theorem dL_acts_621 : decode cL_acts 621 = .ok (.iload 11, 2) := by decide +kernel
theorem dL_acts_623 : decode cL_acts 623 = .ok (.iconst 2, 1) := by decide +kernel
theorem dL_acts_624 : decode cL_acts 624 = .ok (.iadd, 1) := by decide +kernel
theorem dL_acts_625 : decode cL_acts 625 = .ok (.if_icmp .ne 7, 3) := by decide +kernel
theorem dL_acts_628 : decode cL_acts 628 = .ok (.iconst 1, 1) := by decide +kernel
theorem dL_acts_629 : decode cL_acts 629 = .ok (.goto 30, 3) := by decide +kernel
theorem dL_acts_632 : decode cL_acts 632 = .ok (.iconst 0, 1) := by decide +kernel
theorem dL_acts_633 : decode cL_acts 633 = .ok (.goto 26, 3) := by decide +kernel
theorem dL_acts_636 : decode cL_acts 636 = .ok (.iload 14, 2) := by decide +kernel
theorem dL_acts_638 : decode cL_acts 638 = .ok (.iload 7, 2) := by decide +kernel
theorem dL_acts_640 : decode cL_acts 640 = .ok (.iload 8, 2) := by decide +kernel
theorem dL_acts_642 : decode cL_acts 642 = .ok (.if_icmp .ne 7, 3) := by decide +kernel
theorem dL_acts_645 : decode cL_acts 645 = .ok (.iconst (-1), 1) := by decide +kernel
theorem dL_acts_646 : decode cL_acts 646 = .ok (.goto 5, 3) := by decide +kernel
theorem dL_acts_649 : decode cL_acts 649 = .ok (.bipush (-2), 2) := by decide +kernel
theorem dL_acts_651 : decode cL_acts 651 = .ok (.if_icmp .ne 7, 3) := by decide +kernel
theorem dL_acts_654 : decode cL_acts 654 = .ok (.iconst 1, 1) := by decide +kernel
theorem dL_acts_655 : decode cL_acts 655 = .ok (.goto 4, 3) := by decide +kernel
theorem dL_acts_658 : decode cL_acts 658 = .ok (.iconst 0, 1) := by decide +kernel
theorem dL_acts_659 : decode cL_acts 659 = .ok (.ireturn, 1) := by decide +kernel
theorem dL_acts_660 : decode cL_acts 660 = .ok (.aload_n 0, 1) := by decide +kernel
theorem dL_acts_661 : decode cL_acts 661 = .ok (.iload 8, 2) := by decide +kernel
theorem dL_acts_663 : decode cL_acts 663 = .ok (.iconst 2, 1) := by decide +kernel
theorem dL_acts_664 : decode cL_acts 664 = .ok (.invokevirtual 23, 3) := by decide +kernel
theorem dL_acts_667 : decode cL_acts 667 = .ok (.istore 13, 2) := by decide +kernel
theorem dL_acts_669 : decode cL_acts 669 = .ok (.aload_n 0, 1) := by decide +kernel
theorem dL_acts_670 : decode cL_acts 670 = .ok (.iload 9, 2) := by decide +kernel
theorem dL_acts_672 : decode cL_acts 672 = .ok (.iconst 2, 1) := by decide +kernel
theorem dL_acts_673 : decode cL_acts 673 = .ok (.invokevirtual 23, 3) := by decide +kernel
theorem dL_acts_676 : decode cL_acts 676 = .ok (.istore 14, 2) := by decide +kernel
theorem dL_acts_678 : decode cL_acts 678 = .ok (.aload_n 0, 1) := by decide +kernel
theorem dL_acts_679 : decode cL_acts 679 = .ok (.iload 7, 2) := by decide +kernel
theorem dL_acts_681 : decode cL_acts 681 = .ok (.iload 8, 2) := by decide +kernel
theorem dL_acts_683 : decode cL_acts 683 = .ok (.iload 9, 2) := by decide +kernel
theorem dL_acts_685 : decode cL_acts 685 = .ok (.invokevirtual 51, 3) := by decide +kernel
theorem dL_acts_688 : decode cL_acts 688 = .ok (.istore 15, 2) := by decide +kernel
theorem dL_acts_690 : decode cL_acts 690 = .ok (.iload 15, 2) := by decide +kernel
theorem dL_acts_692 : decode cL_acts 692 = .ok (.ifCond .lt 103, 3) := by decide +kernel
theorem dL_acts_695 : decode cL_acts 695 = .ok (.iload 15, 2) := by decide +kernel
theorem dL_acts_697 : decode cL_acts 697 = .ok (.aload_n 0, 1) := by decide +kernel
theorem dL_acts_698 : decode cL_acts 698 = .ok (.iconst 5, 1) := by decide +kernel
theorem dL_acts_699 : decode cL_acts 699 = .ok (.invokevirtual 13, 3) := by decide +kernel
theorem dL_acts_702 : decode cL_acts 702 = .ok (.if_icmp .ne 91, 3) := by decide +kernel
theorem dL_acts_705 : decode cL_acts 705 = .ok (.aload_n 0, 1) := by decide +kernel
theorem dL_acts_706 : decode cL_acts 706 = .ok (.iload 7, 2) := by decide +kernel
theorem dL_acts_708 : decode cL_acts 708 = .ok (.iconst 2, 1) := by decide +kernel
theorem dL_acts_709 : decode cL_acts 709 = .ok (.invokevirtual 23, 3) := by decide +kernel
theorem dL_acts_712 : decode cL_acts 712 = .ok (.iload 13, 2) := by decide +kernel
theorem dL_acts_714 : decode cL_acts 714 = .ok (.if_icmp .ne 79, 3) := by decide +kernel
theorem dL_acts_717 : decode cL_acts 717 = .ok (.aload_n 0, 1) := by decide +kernel
theorem dL_acts_718 : decode cL_acts 718 = .ok (.iload 8, 2) := by decide +kernel
theorem dL_acts_720 : decode cL_acts 720 = .ok (.iconst 2, 1) := by decide +kernel
theorem dL_acts_721 : decode cL_acts 721 = .ok (.invokevirtual 23, 3) := by decide +kernel
theorem dL_acts_724 : decode cL_acts 724 = .ok (.iload 14, 2) := by decide +kernel
theorem dL_acts_726 : decode cL_acts 726 = .ok (.if_icmp .ne 67, 3) := by decide +kernel
theorem dL_acts_729 : decode cL_acts 729 = .ok (.aload_n 0, 1) := by decide +kernel
theorem dL_acts_730 : decode cL_acts 730 = .ok (.iload 9, 2) := by decide +kernel
theorem dL_acts_732 : decode cL_acts 732 = .ok (.iconst 2, 1) := by decide +kernel
theorem dL_acts_733 : decode cL_acts 733 = .ok (.invokevirtual 23, 3) := by decide +kernel
theorem dL_acts_736 : decode cL_acts 736 = .ok (.iload 12, 2) := by decide +kernel
theorem dL_acts_738 : decode cL_acts 738 = .ok (.if_icmp .ne 55, 3) := by decide +kernel
theorem dL_acts_741 : decode cL_acts 741 = .ok (.aload_n 0, 1) := by decide +kernel
theorem dL_acts_742 : decode cL_acts 742 = .ok (.bipush 12, 2) := by decide +kernel
theorem dL_acts_744 : decode cL_acts 744 = .ok (.invokevirtual 13, 3) := by decide +kernel
theorem dL_acts_747 : decode cL_acts 747 = .ok (.iload 11, 2) := by decide +kernel
theorem dL_acts_749 : decode cL_acts 749 = .ok (.iconst 3, 1) := by decide +kernel
theorem dL_acts_750 : decode cL_acts 750 = .ok (.iadd, 1) := by decide +kernel
theorem dL_acts_751 : decode cL_acts 751 = .ok (.if_icmp .ne 42, 3) := by decide +kernel
theorem dL_acts_754 : decode cL_acts 754 = .ok (.aload_n 0, 1) := by decide +kernel
theorem dL_acts_755 : decode cL_acts 755 = .ok (.bipush 10, 2) := by decide +kernel
theorem dL_acts_757 : decode cL_acts 757 = .ok (.invokevirtual 13, 3) := by decide +kernel
theorem dL_acts_760 : decode cL_acts 760 = .ok (.iload 10, 2) := by decide +kernel
theorem dL_acts_762 : decode cL_acts 762 = .ok (.aload_n 0, 1) := by decide +kernel
theorem dL_acts_763 : decode cL_acts 763 = .ok (.iload 7, 2) := by decide +kernel
theorem dL_acts_765 : decode cL_acts 765 = .ok (.iconst 1, 1) := by decide +kernel
theorem dL_acts_766 : decode cL_acts 766 = .ok (.invokevirtual 23, 3) := by decide +kernel
theorem dL_acts_769 : decode cL_acts 769 = .ok (.isub, 1) := by decide +kernel
theorem dL_acts_770 : decode cL_acts 770 = .ok (.aload_n 0, 1) := by decide +kernel
theorem dL_acts_771 : decode cL_acts 771 = .ok (.iload 8, 2) := by decide +kernel
theorem dL_acts_773 : decode cL_acts 773 = .ok (.iconst 1, 1) := by decide +kernel
theorem dL_acts_774 : decode cL_acts 774 = .ok (.invokevirtual 23, 3) := by decide +kernel
theorem dL_acts_777 : decode cL_acts 777 = .ok (.isub, 1) := by decide +kernel
theorem dL_acts_778 : decode cL_acts 778 = .ok (.aload_n 0, 1) := by decide +kernel
theorem dL_acts_779 : decode cL_acts 779 = .ok (.iload 9, 2) := by decide +kernel
theorem dL_acts_781 : decode cL_acts 781 = .ok (.iconst 1, 1) := by decide +kernel
theorem dL_acts_782 : decode cL_acts 782 = .ok (.invokevirtual 23, 3) := by decide +kernel
theorem dL_acts_785 : decode cL_acts 785 = .ok (.isub, 1) := by decide +kernel
theorem dL_acts_786 : decode cL_acts 786 = .ok (.if_icmp .ne 7, 3) := by decide +kernel
theorem dL_acts_789 : decode cL_acts 789 = .ok (.iconst 1, 1) := by decide +kernel
theorem dL_acts_790 : decode cL_acts 790 = .ok (.goto 4, 3) := by decide +kernel
theorem dL_acts_793 : decode cL_acts 793 = .ok (.iconst 0, 1) := by decide +kernel
theorem dL_acts_794 : decode cL_acts 794 = .ok (.ireturn, 1) := by decide +kernel
theorem dL_acts_795 : decode cL_acts 795 = .ok (.iload 15, 2) := by decide +kernel
theorem dL_acts_797 : decode cL_acts 797 = .ok (.iload 7, 2) := by decide +kernel
theorem dL_acts_799 : decode cL_acts 799 = .ok (.iload 8, 2) := by decide +kernel
theorem dL_acts_801 : decode cL_acts 801 = .ok (.if_icmp .eq 17, 3) := by decide +kernel
theorem dL_acts_804 : decode cL_acts 804 = .ok (.iload 8, 2) := by decide +kernel
theorem dL_acts_806 : decode cL_acts 806 = .ok (.iload 9, 2) := by decide +kernel
theorem dL_acts_808 : decode cL_acts 808 = .ok (.if_icmp .eq 10, 3) := by decide +kernel
theorem dL_acts_811 : decode cL_acts 811 = .ok (.iload 7, 2) := by decide +kernel
theorem dL_acts_813 : decode cL_acts 813 = .ok (.iload 9, 2) := by decide +kernel
theorem dL_acts_815 : decode cL_acts 815 = .ok (.if_icmp .ne 7, 3) := by decide +kernel
theorem dL_acts_818 : decode cL_acts 818 = .ok (.iconst (-1), 1) := by decide +kernel
theorem dL_acts_819 : decode cL_acts 819 = .ok (.goto 5, 3) := by decide +kernel
theorem dL_acts_822 : decode cL_acts 822 = .ok (.bipush (-2), 2) := by decide +kernel
theorem dL_acts_824 : decode cL_acts 824 = .ok (.if_icmp .ne 7, 3) := by decide +kernel
theorem dL_acts_827 : decode cL_acts 827 = .ok (.iconst 1, 1) := by decide +kernel
theorem dL_acts_828 : decode cL_acts 828 = .ok (.goto 4, 3) := by decide +kernel
theorem dL_acts_831 : decode cL_acts 831 = .ok (.iconst 0, 1) := by decide +kernel
theorem dL_acts_832 : decode cL_acts 832 = .ok (.ireturn, 1) := by decide +kernel
theorem dL_acts_833 : decode cL_acts 833 = .ok (.iconst 1, 1) := by decide +kernel
theorem dL_acts_834 : decode cL_acts 834 = .ok (.iload_n 2, 1) := by decide +kernel
theorem dL_acts_835 : decode cL_acts 835 = .ok (.bipush 30, 2) := by decide +kernel
theorem dL_acts_837 : decode cL_acts 837 = .ok (.invokestatic 86, 3) := by decide +kernel
theorem dL_acts_840 : decode cL_acts 840 = .ok (.iadd, 1) := by decide +kernel
theorem dL_acts_841 : decode cL_acts 841 = .ok (.istore 13, 2) := by decide +kernel
theorem dL_acts_843 : decode cL_acts 843 = .ok (.aload_n 0, 1) := by decide +kernel
theorem dL_acts_844 : decode cL_acts 844 = .ok (.iconst 0, 1) := by decide +kernel
theorem dL_acts_845 : decode cL_acts 845 = .ok (.invokevirtual 69, 3) := by decide +kernel
theorem dL_acts_848 : decode cL_acts 848 = .ok (.istore 14, 2) := by decide +kernel
theorem dL_acts_850 : decode cL_acts 850 = .ok (.aload_n 0, 1) := by decide +kernel
theorem dL_acts_851 : decode cL_acts 851 = .ok (.iload 13, 2) := by decide +kernel
theorem dL_acts_853 : decode cL_acts 853 = .ok (.invokevirtual 54, 3) := by decide +kernel
theorem dL_acts_856 : decode cL_acts 856 = .ok (.iload 14, 2) := by decide +kernel
theorem dL_acts_858 : decode cL_acts 858 = .ok (.iload 13, 2) := by decide +kernel
theorem dL_acts_860 : decode cL_acts 860 = .ok (.if_icmp .ge 8, 3) := by decide +kernel
theorem dL_acts_863 : decode cL_acts 863 = .ok (.iload 14, 2) := by decide +kernel
theorem dL_acts_865 : decode cL_acts 865 = .ok (.goto 5, 3) := by decide +kernel
theorem dL_acts_868 : decode cL_acts 868 = .ok (.iload 13, 2) := by decide +kernel
theorem dL_acts_870 : decode cL_acts 870 = .ok (.if_icmp .ne 7, 3) := by decide +kernel
theorem dL_acts_873 : decode cL_acts 873 = .ok (.iconst 1, 1) := by decide +kernel
theorem dL_acts_874 : decode cL_acts 874 = .ok (.goto 4, 3) := by decide +kernel
theorem dL_acts_877 : decode cL_acts 877 = .ok (.iconst 0, 1) := by decide +kernel
theorem dL_acts_878 : decode cL_acts 878 = .ok (.ireturn, 1) := by decide +kernel
theorem dL_acts_879 : decode cL_acts 879 = .ok (.aload_n 0, 1) := by decide +kernel
theorem dL_acts_880 : decode cL_acts 880 = .ok (.iload 6, 2) := by decide +kernel
theorem dL_acts_882 : decode cL_acts 882 = .ok (.iconst 0, 1) := by decide +kernel
theorem dL_acts_883 : decode cL_acts 883 = .ok (.invokevirtual 19, 3) := by decide +kernel
theorem dL_acts_886 : decode cL_acts 886 = .ok (.iconst 1, 1) := by decide +kernel
theorem dL_acts_887 : decode cL_acts 887 = .ok (.if_icmp .ne 7, 3) := by decide +kernel
theorem dL_acts_890 : decode cL_acts 890 = .ok (.iconst 1, 1) := by decide +kernel
theorem dL_acts_891 : decode cL_acts 891 = .ok (.goto 4, 3) := by decide +kernel
theorem dL_acts_894 : decode cL_acts 894 = .ok (.iconst 0, 1) := by decide +kernel
theorem dL_acts_895 : decode cL_acts 895 = .ok (.istore 13, 2) := by decide +kernel
theorem dL_acts_897 : decode cL_acts 897 = .ok (.aload_n 0, 1) := by decide +kernel
theorem dL_acts_898 : decode cL_acts 898 = .ok (.iload 6, 2) := by decide +kernel
theorem dL_acts_900 : decode cL_acts 900 = .ok (.iconst 2, 1) := by decide +kernel
theorem dL_acts_901 : decode cL_acts 901 = .ok (.invokevirtual 19, 3) := by decide +kernel
theorem dL_acts_904 : decode cL_acts 904 = .ok (.istore 14, 2) := by decide +kernel
theorem dL_acts_906 : decode cL_acts 906 = .ok (.aload_n 0, 1) := by decide +kernel
theorem dL_acts_907 : decode cL_acts 907 = .ok (.iload 6, 2) := by decide +kernel
theorem dL_acts_909 : decode cL_acts 909 = .ok (.invokevirtual 57, 3) := by decide +kernel
theorem dL_acts_912 : decode cL_acts 912 = .ok (.istore 15, 2) := by decide +kernel
theorem dL_acts_914 : decode cL_acts 914 = .ok (.iload 15, 2) := by decide +kernel
theorem dL_acts_916 : decode cL_acts 916 = .ok (.bipush (-2), 2) := by decide +kernel
theorem dL_acts_918 : decode cL_acts 918 = .ok (.if_icmp .eq 25, 3) := by decide +kernel
theorem dL_acts_921 : decode cL_acts 921 = .ok (.iload 13, 2) := by decide +kernel
theorem dL_acts_923 : decode cL_acts 923 = .ok (.ifCond .eq 24, 3) := by decide +kernel
theorem dL_acts_926 : decode cL_acts 926 = .ok (.iload 15, 2) := by decide +kernel
theorem dL_acts_928 : decode cL_acts 928 = .ok (.iload 14, 2) := by decide +kernel
theorem dL_acts_930 : decode cL_acts 930 = .ok (.if_icmp .ne 17, 3) := by decide +kernel
theorem dL_acts_933 : decode cL_acts 933 = .ok (.aload_n 0, 1) := by decide +kernel
theorem dL_acts_934 : decode cL_acts 934 = .ok (.iload 6, 2) := by decide +kernel
theorem dL_acts_936 : decode cL_acts 936 = .ok (.iconst 0, 1) := by decide +kernel
theorem dL_acts_937 : decode cL_acts 937 = .ok (.invokevirtual 19, 3) := by decide +kernel
theorem dL_acts_940 : decode cL_acts 940 = .ok (.ifCond .ne 7, 3) := by decide +kernel
theorem dL_acts_943 : decode cL_acts 943 = .ok (.iconst 1, 1) := by decide +kernel
theorem dL_acts_944 : decode cL_acts 944 = .ok (.goto 4, 3) := by decide +kernel
theorem dL_acts_947 : decode cL_acts 947 = .ok (.iconst 0, 1) := by decide +kernel
theorem dL_acts_948 : decode cL_acts 948 = .ok (.ireturn, 1) := by decide +kernel
theorem dL_acts_949 : decode cL_acts 949 = .ok (.aload_n 0, 1) := by decide +kernel
theorem dL_acts_950 : decode cL_acts 950 = .ok (.iload 6, 2) := by decide +kernel
theorem dL_acts_952 : decode cL_acts 952 = .ok (.iconst 0, 1) := by decide +kernel
theorem dL_acts_953 : decode cL_acts 953 = .ok (.invokevirtual 19, 3) := by decide +kernel
theorem dL_acts_956 : decode cL_acts 956 = .ok (.iconst 1, 1) := by decide +kernel
theorem dL_acts_957 : decode cL_acts 957 = .ok (.if_icmp .ne 7, 3) := by decide +kernel
theorem dL_acts_960 : decode cL_acts 960 = .ok (.iconst 1, 1) := by decide +kernel
theorem dL_acts_961 : decode cL_acts 961 = .ok (.goto 4, 3) := by decide +kernel
theorem dL_acts_964 : decode cL_acts 964 = .ok (.iconst 0, 1) := by decide +kernel
theorem dL_acts_965 : decode cL_acts 965 = .ok (.istore 13, 2) := by decide +kernel
theorem dL_acts_967 : decode cL_acts 967 = .ok (.aload_n 0, 1) := by decide +kernel
theorem dL_acts_968 : decode cL_acts 968 = .ok (.iload 6, 2) := by decide +kernel
theorem dL_acts_970 : decode cL_acts 970 = .ok (.invokevirtual 60, 3) := by decide +kernel
theorem dL_acts_973 : decode cL_acts 973 = .ok (.iload 13, 2) := by decide +kernel
theorem dL_acts_975 : decode cL_acts 975 = .ok (.ifCond .eq 8, 3) := by decide +kernel
theorem dL_acts_978 : decode cL_acts 978 = .ok (.bipush (-2), 2) := by decide +kernel
theorem dL_acts_980 : decode cL_acts 980 = .ok (.goto 8, 3) := by decide +kernel
theorem dL_acts_983 : decode cL_acts 983 = .ok (.aload_n 0, 1) := by decide +kernel
theorem dL_acts_984 : decode cL_acts 984 = .ok (.iconst 1, 1) := by decide +kernel
theorem dL_acts_985 : decode cL_acts 985 = .ok (.invokevirtual 13, 3) := by decide +kernel
theorem dL_acts_988 : decode cL_acts 988 = .ok (.if_icmp .ne 18, 3) := by decide +kernel
theorem dL_acts_991 : decode cL_acts 991 = .ok (.aload_n 0, 1) := by decide +kernel
theorem dL_acts_992 : decode cL_acts 992 = .ok (.iload 6, 2) := by decide +kernel
theorem dL_acts_994 : decode cL_acts 994 = .ok (.iconst 0, 1) := by decide +kernel
theorem dL_acts_995 : decode cL_acts 995 = .ok (.invokevirtual 19, 3) := by decide +kernel
theorem dL_acts_998 : decode cL_acts 998 = .ok (.iconst 1, 1) := by decide +kernel
theorem dL_acts_999 : decode cL_acts 999 = .ok (.if_icmp .ne 7, 3) := by decide +kernel
theorem dL_acts_1002 : decode cL_acts 1002 = .ok (.iconst 1, 1) := by decide +kernel
theorem dL_acts_1003 : decode cL_acts 1003 = .ok (.goto 4, 3) := by decide +kernel
theorem dL_acts_1006 : decode cL_acts 1006 = .ok (.iconst 0, 1) := by decide +kernel
theorem dL_acts_1007 : decode cL_acts 1007 = .ok (.ireturn, 1) := by decide +kernel
theorem dL_acts_1008 : decode cL_acts 1008 = .ok (.aload_n 0, 1) := by decide +kernel
theorem dL_acts_1009 : decode cL_acts 1009 = .ok (.invokevirtual 78, 3) := by decide +kernel
theorem dL_acts_1012 : decode cL_acts 1012 = .ok (.istore 13, 2) := by decide +kernel
theorem dL_acts_1014 : decode cL_acts 1014 = .ok (.iload 13, 2) := by decide +kernel
theorem dL_acts_1016 : decode cL_acts 1016 = .ok (.iload 4, 2) := by decide +kernel
theorem dL_acts_1018 : decode cL_acts 1018 = .ok (.bipush 6, 2) := by decide +kernel
theorem dL_acts_1020 : decode cL_acts 1020 = .ok (.if_icmp .ne 8, 3) := by decide +kernel
theorem dL_acts_1023 : decode cL_acts 1023 = .ok (.bipush (-3), 2) := by decide +kernel
theorem dL_acts_1025 : decode cL_acts 1025 = .ok (.goto 5, 3) := by decide +kernel
theorem dL_acts_1028 : decode cL_acts 1028 = .ok (.iload 4, 2) := by decide +kernel
theorem dL_acts_1030 : decode cL_acts 1030 = .ok (.if_icmp .ne 33, 3) := by decide +kernel
theorem dL_acts_1033 : decode cL_acts 1033 = .ok (.iload 13, 2) := by decide +kernel
theorem dL_acts_1035 : decode cL_acts 1035 = .ok (.ifCond .lt 24, 3) := by decide +kernel
theorem dL_acts_1038 : decode cL_acts 1038 = .ok (.aload_n 0, 1) := by decide +kernel
theorem dL_acts_1039 : decode cL_acts 1039 = .ok (.iload 4, 2) := by decide +kernel
theorem dL_acts_1041 : decode cL_acts 1041 = .ok (.iconst 0, 1) := by decide +kernel
theorem dL_acts_1042 : decode cL_acts 1042 = .ok (.invokevirtual 19, 3) := by decide +kernel
theorem dL_acts_1045 : decode cL_acts 1045 = .ok (.iconst 1, 1) := by decide +kernel
theorem dL_acts_1046 : decode cL_acts 1046 = .ok (.if_icmp .ne 17, 3) := by decide +kernel
theorem dL_acts_1049 : decode cL_acts 1049 = .ok (.aload_n 0, 1) := by decide +kernel
theorem dL_acts_1050 : decode cL_acts 1050 = .ok (.iload 4, 2) := by decide +kernel
theorem dL_acts_1052 : decode cL_acts 1052 = .ok (.iconst 1, 1) := by decide +kernel
theorem dL_acts_1053 : decode cL_acts 1053 = .ok (.invokevirtual 19, 3) := by decide +kernel
theorem dL_acts_1056 : decode cL_acts 1056 = .ok (.ifCond .ne 7, 3) := by decide +kernel
theorem dL_acts_1059 : decode cL_acts 1059 = .ok (.iconst 1, 1) := by decide +kernel
theorem dL_acts_1060 : decode cL_acts 1060 = .ok (.goto 4, 3) := by decide +kernel
theorem dL_acts_1063 : decode cL_acts 1063 = .ok (.iconst 0, 1) := by decide +kernel
theorem dL_acts_1064 : decode cL_acts 1064 = .ok (.ireturn, 1) := by decide +kernel
theorem dL_acts_1065 : decode cL_acts 1065 = .ok (.iload_n 2, 1) := by decide +kernel
theorem dL_acts_1066 : decode cL_acts 1066 = .ok (.iconst 3, 1) := by decide +kernel
theorem dL_acts_1067 : decode cL_acts 1067 = .ok (.invokestatic 86, 3) := by decide +kernel
theorem dL_acts_1070 : decode cL_acts 1070 = .ok (.ifCond .ne 14, 3) := by decide +kernel
theorem dL_acts_1073 : decode cL_acts 1073 = .ok (.iload_n 2, 1) := by decide +kernel
theorem dL_acts_1074 : decode cL_acts 1074 = .ok (.iconst 2, 1) := by decide +kernel
theorem dL_acts_1075 : decode cL_acts 1075 = .ok (.ishr, 1) := by decide +kernel
theorem dL_acts_1076 : decode cL_acts 1076 = .ok (.bipush 80, 2) := by decide +kernel
theorem dL_acts_1078 : decode cL_acts 1078 = .ok (.invokestatic 86, 3) := by decide +kernel
theorem dL_acts_1081 : decode cL_acts 1081 = .ok (.goto 12, 3) := by decide +kernel
theorem dL_acts_1084 : decode cL_acts 1084 = .ok (.iload_n 2, 1) := by decide +kernel
theorem dL_acts_1085 : decode cL_acts 1085 = .ok (.iconst 2, 1) := by decide +kernel
theorem dL_acts_1086 : decode cL_acts 1086 = .ok (.ishr, 1) := by decide +kernel
theorem dL_acts_1087 : decode cL_acts 1087 = .ok (.sipush 10001, 3) := by decide +kernel
theorem dL_acts_1090 : decode cL_acts 1090 = .ok (.invokestatic 86, 3) := by decide +kernel
theorem dL_acts_1093 : decode cL_acts 1093 = .ok (.istore 13, 2) := by decide +kernel
theorem dL_acts_1095 : decode cL_acts 1095 = .ok (.iload_n 3, 1) := by decide +kernel
theorem dL_acts_1096 : decode cL_acts 1096 = .ok (.iconst 2, 1) := by decide +kernel
theorem dL_acts_1097 : decode cL_acts 1097 = .ok (.invokestatic 86, 3) := by decide +kernel
theorem dL_acts_1100 : decode cL_acts 1100 = .ok (.ifCond .ne 8, 3) := by decide +kernel
theorem dL_acts_1103 : decode cL_acts 1103 = .ok (.bipush 100, 2) := by decide +kernel
theorem dL_acts_1105 : decode cL_acts 1105 = .ok (.goto 15, 3) := by decide +kernel
theorem dL_acts_1108 : decode cL_acts 1108 = .ok (.bipush 100, 2) := by decide +kernel
theorem dL_acts_1110 : decode cL_acts 1110 = .ok (.iload_n 3, 1) := by decide +kernel
theorem dL_acts_1111 : decode cL_acts 1111 = .ok (.iconst 1, 1) := by decide +kernel
theorem dL_acts_1112 : decode cL_acts 1112 = .ok (.ishr, 1) := by decide +kernel
theorem dL_acts_1113 : decode cL_acts 1113 = .ok (.sipush 301, 3) := by decide +kernel
theorem dL_acts_1116 : decode cL_acts 1116 = .ok (.invokestatic 86, 3) := by decide +kernel
theorem dL_acts_1119 : decode cL_acts 1119 = .ok (.iadd, 1) := by decide +kernel
theorem dL_acts_1120 : decode cL_acts 1120 = .ok (.istore 14, 2) := by decide +kernel
theorem dL_acts_1122 : decode cL_acts 1122 = .ok (.aload_n 0, 1) := by decide +kernel
theorem dL_acts_1123 : decode cL_acts 1123 = .ok (.iload 13, 2) := by decide +kernel
theorem dL_acts_1125 : decode cL_acts 1125 = .ok (.invokevirtual 39, 3) := by decide +kernel
theorem dL_acts_1128 : decode cL_acts 1128 = .ok (.iload 10, 2) := by decide +kernel
theorem dL_acts_1130 : decode cL_acts 1130 = .ok (.if_icmp .ne 44, 3) := by decide +kernel
theorem dL_acts_1133 : decode cL_acts 1133 = .ok (.aload_n 0, 1) := by decide +kernel
theorem dL_acts_1134 : decode cL_acts 1134 = .ok (.bipush 10, 2) := by decide +kernel
theorem dL_acts_1136 : decode cL_acts 1136 = .ok (.invokevirtual 13, 3) := by decide +kernel
theorem dL_acts_1139 : decode cL_acts 1139 = .ok (.iload 13, 2) := by decide +kernel
theorem dL_acts_1141 : decode cL_acts 1141 = .ok (.if_icmp .ne 33, 3) := by decide +kernel
theorem dL_acts_1144 : decode cL_acts 1144 = .ok (.aload_n 0, 1) := by decide +kernel
theorem dL_acts_1145 : decode cL_acts 1145 = .ok (.iload 14, 2) := by decide +kernel
theorem dL_acts_1147 : decode cL_acts 1147 = .ok (.invokevirtual 42, 3) := by decide +kernel
theorem dL_acts_1150 : decode cL_acts 1150 = .ok (.aload_n 0, 1) := by decide +kernel
theorem dL_acts_1151 : decode cL_acts 1151 = .ok (.bipush 8, 2) := by decide +kernel
theorem dL_acts_1153 : decode cL_acts 1153 = .ok (.invokevirtual 13, 3) := by decide +kernel
theorem dL_acts_1156 : decode cL_acts 1156 = .ok (.if_icmp .ne 18, 3) := by decide +kernel
theorem dL_acts_1159 : decode cL_acts 1159 = .ok (.aload_n 0, 1) := by decide +kernel
theorem dL_acts_1160 : decode cL_acts 1160 = .ok (.bipush 11, 2) := by decide +kernel
theorem dL_acts_1162 : decode cL_acts 1162 = .ok (.invokevirtual 13, 3) := by decide +kernel
theorem dL_acts_1165 : decode cL_acts 1165 = .ok (.iload 14, 2) := by decide +kernel
theorem dL_acts_1167 : decode cL_acts 1167 = .ok (.if_icmp .ne 7, 3) := by decide +kernel
theorem dL_acts_1170 : decode cL_acts 1170 = .ok (.iconst 1, 1) := by decide +kernel
theorem dL_acts_1171 : decode cL_acts 1171 = .ok (.goto 4, 3) := by decide +kernel
theorem dL_acts_1174 : decode cL_acts 1174 = .ok (.iconst 0, 1) := by decide +kernel
theorem dL_acts_1175 : decode cL_acts 1175 = .ok (.ireturn, 1) := by decide +kernel
